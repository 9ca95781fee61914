section
-- ===== PART A: goes FIRST, ahead of the names: the tables' words, and 'selects' of the private methods out of them =====
/-- a private method of a class that the tables say can be made, by its rows of tables_1 -/
def lw_okq (q : MethodName × Nat) : Prop := (q.1.cls ≠ "java/lang/invoke/MethodHandle" ∧ q.1.cls ≠ "java/lang/invoke/VarHandle") ∧ Cond.instantiable q.1.cls q.2 ∈ tables_1 ∧ Cond.privateMethod q.1 ∈ tables_1 ∧ Cond.instanceMethod q.1 ∈ tables_1
theorem lw_p0 : lw_okq (⟨"NearEnough", "append", "(I)V"⟩, 17) := ⟨⟨by decide +kernel, by decide +kernel⟩, List.mem_of_getElem? (i := 23) (by decide +kernel), List.mem_of_getElem? (i := 258) (by decide +kernel), List.mem_of_getElem? (i := 259) (by decide +kernel)⟩
theorem lw_p1 : lw_okq (⟨"NearEnough$Scanner", "scanWord", "()V"⟩, 7) := ⟨⟨by decide +kernel, by decide +kernel⟩, List.mem_of_getElem? (i := 278) (by decide +kernel), List.mem_of_getElem? (i := 337) (by decide +kernel), List.mem_of_getElem? (i := 338) (by decide +kernel)⟩
theorem lw_p2 : lw_okq (⟨"NearEnough$Scanner", "scanNumber", "()V"⟩, 7) := ⟨⟨by decide +kernel, by decide +kernel⟩, List.mem_of_getElem? (i := 278) (by decide +kernel), List.mem_of_getElem? (i := 341) (by decide +kernel), List.mem_of_getElem? (i := 342) (by decide +kernel)⟩
theorem lw_p3 : lw_okq (⟨"NearEnough$Scanner", "scanSign", "()V"⟩, 7) := ⟨⟨by decide +kernel, by decide +kernel⟩, List.mem_of_getElem? (i := 278) (by decide +kernel), List.mem_of_getElem? (i := 345) (by decide +kernel), List.mem_of_getElem? (i := 346) (by decide +kernel)⟩
theorem lw_p4 : lw_okq (⟨"NearEnough$Reader", "expects", "(I)Z"⟩, 4) := ⟨⟨by decide +kernel, by decide +kernel⟩, List.mem_of_getElem? (i := 270) (by decide +kernel), List.mem_of_getElem? (i := 349) (by decide +kernel), List.mem_of_getElem? (i := 350) (by decide +kernel)⟩
theorem lw_p5 : lw_okq (⟨"NearEnough$Reader", "readRow", "()V"⟩, 4) := ⟨⟨by decide +kernel, by decide +kernel⟩, List.mem_of_getElem? (i := 270) (by decide +kernel), List.mem_of_getElem? (i := 406) (by decide +kernel), List.mem_of_getElem? (i := 407) (by decide +kernel)⟩
theorem lw_p6 : lw_okq (⟨"NearEnough$Reader", "pass", "(Z)V"⟩, 4) := ⟨⟨by decide +kernel, by decide +kernel⟩, List.mem_of_getElem? (i := 270) (by decide +kernel), List.mem_of_getElem? (i := 410) (by decide +kernel), List.mem_of_getElem? (i := 411) (by decide +kernel)⟩
theorem lw_p7 : lw_okq (⟨"NearEnough$Reader", "refuse", "(II)V"⟩, 4) := ⟨⟨by decide +kernel, by decide +kernel⟩, List.mem_of_getElem? (i := 270) (by decide +kernel), List.mem_of_getElem? (i := 414) (by decide +kernel), List.mem_of_getElem? (i := 415) (by decide +kernel)⟩
theorem lw_p8 : lw_okq (⟨"NearEnough$Reader", "needNewName", "()J"⟩, 4) := ⟨⟨by decide +kernel, by decide +kernel⟩, List.mem_of_getElem? (i := 270) (by decide +kernel), List.mem_of_getElem? (i := 418) (by decide +kernel), List.mem_of_getElem? (i := 419) (by decide +kernel)⟩
theorem lw_p9 : lw_okq (⟨"NearEnough$Reader", "expectsName", "()Z"⟩, 4) := ⟨⟨by decide +kernel, by decide +kernel⟩, List.mem_of_getElem? (i := 270) (by decide +kernel), List.mem_of_getElem? (i := 422) (by decide +kernel), List.mem_of_getElem? (i := 423) (by decide +kernel)⟩
theorem lw_p10 : lw_okq (⟨"NearEnough$Reader", "needWord", "(Ljava/lang/String;)V"⟩, 4) := ⟨⟨by decide +kernel, by decide +kernel⟩, List.mem_of_getElem? (i := 270) (by decide +kernel), List.mem_of_getElem? (i := 436) (by decide +kernel), List.mem_of_getElem? (i := 437) (by decide +kernel)⟩
theorem lw_p11 : lw_okq (⟨"NearEnough$Reader", "needNumber", "(IIZ)I"⟩, 4) := ⟨⟨by decide +kernel, by decide +kernel⟩, List.mem_of_getElem? (i := 270) (by decide +kernel), List.mem_of_getElem? (i := 440) (by decide +kernel), List.mem_of_getElem? (i := 441) (by decide +kernel)⟩
theorem lw_p12 : lw_okq (⟨"NearEnough$Reader", "needSemicolon", "()V"⟩, 4) := ⟨⟨by decide +kernel, by decide +kernel⟩, List.mem_of_getElem? (i := 270) (by decide +kernel), List.mem_of_getElem? (i := 446) (by decide +kernel), List.mem_of_getElem? (i := 447) (by decide +kernel)⟩
theorem lw_p13 : lw_okq (⟨"NearEnough$Reader", "readEnd", "()V"⟩, 4) := ⟨⟨by decide +kernel, by decide +kernel⟩, List.mem_of_getElem? (i := 270) (by decide +kernel), List.mem_of_getElem? (i := 498) (by decide +kernel), List.mem_of_getElem? (i := 499) (by decide +kernel)⟩
theorem lw_p14 : lw_okq (⟨"NearEnough$Reader", "needStep", "()I"⟩, 4) := ⟨⟨by decide +kernel, by decide +kernel⟩, List.mem_of_getElem? (i := 270) (by decide +kernel), List.mem_of_getElem? (i := 502) (by decide +kernel), List.mem_of_getElem? (i := 503) (by decide +kernel)⟩
theorem lw_p15 : lw_okq (⟨"NearEnough$Reader", "needEndKind", "()I"⟩, 4) := ⟨⟨by decide +kernel, by decide +kernel⟩, List.mem_of_getElem? (i := 270) (by decide +kernel), List.mem_of_getElem? (i := 511) (by decide +kernel), List.mem_of_getElem? (i := 512) (by decide +kernel)⟩
def lw_privs_1 : List (MethodName × Nat) := [(⟨"NearEnough", "append", "(I)V"⟩, 17), (⟨"NearEnough$Scanner", "scanWord", "()V"⟩, 7), (⟨"NearEnough$Scanner", "scanNumber", "()V"⟩, 7), (⟨"NearEnough$Scanner", "scanSign", "()V"⟩, 7), (⟨"NearEnough$Reader", "expects", "(I)Z"⟩, 4), (⟨"NearEnough$Reader", "readRow", "()V"⟩, 4), (⟨"NearEnough$Reader", "pass", "(Z)V"⟩, 4), (⟨"NearEnough$Reader", "refuse", "(II)V"⟩, 4), (⟨"NearEnough$Reader", "needNewName", "()J"⟩, 4), (⟨"NearEnough$Reader", "expectsName", "()Z"⟩, 4), (⟨"NearEnough$Reader", "needWord", "(Ljava/lang/String;)V"⟩, 4), (⟨"NearEnough$Reader", "needNumber", "(IIZ)I"⟩, 4), (⟨"NearEnough$Reader", "needSemicolon", "()V"⟩, 4), (⟨"NearEnough$Reader", "readEnd", "()V"⟩, 4), (⟨"NearEnough$Reader", "needStep", "()I"⟩, 4), (⟨"NearEnough$Reader", "needEndKind", "()I"⟩, 4)]
theorem lw_r1 : ∀ q ∈ lw_privs_1, lw_okq q := List.forall_mem_cons.mpr ⟨lw_p0, List.forall_mem_cons.mpr ⟨lw_p1, List.forall_mem_cons.mpr ⟨lw_p2, List.forall_mem_cons.mpr ⟨lw_p3, List.forall_mem_cons.mpr ⟨lw_p4, List.forall_mem_cons.mpr ⟨lw_p5, List.forall_mem_cons.mpr ⟨lw_p6, List.forall_mem_cons.mpr ⟨lw_p7, List.forall_mem_cons.mpr ⟨lw_p8, List.forall_mem_cons.mpr ⟨lw_p9, List.forall_mem_cons.mpr ⟨lw_p10, List.forall_mem_cons.mpr ⟨lw_p11, List.forall_mem_cons.mpr ⟨lw_p12, List.forall_mem_cons.mpr ⟨lw_p13, List.forall_mem_cons.mpr ⟨lw_p14, List.forall_mem_cons.mpr ⟨lw_p15, fun _ h => absurd h List.not_mem_nil⟩⟩⟩⟩⟩⟩⟩⟩⟩⟩⟩⟩⟩⟩⟩⟩
theorem lw_p16 : lw_okq (⟨"NearEnough$Reader", "readStep", "()V"⟩, 4) := ⟨⟨by decide +kernel, by decide +kernel⟩, List.mem_of_getElem? (i := 270) (by decide +kernel), List.mem_of_getElem? (i := 522) (by decide +kernel), List.mem_of_getElem? (i := 523) (by decide +kernel)⟩
theorem lw_p17 : lw_okq (⟨"NearEnough$Reader", "stepKind", "()I"⟩, 4) := ⟨⟨by decide +kernel, by decide +kernel⟩, List.mem_of_getElem? (i := 270) (by decide +kernel), List.mem_of_getElem? (i := 526) (by decide +kernel), List.mem_of_getElem? (i := 527) (by decide +kernel)⟩
theorem lw_p18 : lw_okq (⟨"NearEnough$Reader", "readParts", "(LNearEnough$Step;)V"⟩, 4) := ⟨⟨by decide +kernel, by decide +kernel⟩, List.mem_of_getElem? (i := 270) (by decide +kernel), List.mem_of_getElem? (i := 609) (by decide +kernel), List.mem_of_getElem? (i := 610) (by decide +kernel)⟩
theorem lw_p19 : lw_okq (⟨"NearEnough$Reader", "needRow", "()LNearEnough$Row;"⟩, 4) := ⟨⟨by decide +kernel, by decide +kernel⟩, List.mem_of_getElem? (i := 270) (by decide +kernel), List.mem_of_getElem? (i := 614) (by decide +kernel), List.mem_of_getElem? (i := 615) (by decide +kernel)⟩
theorem lw_p20 : lw_okq (⟨"NearEnough$Reader", "makeSpan", "(LNearEnough$Step;)V"⟩, 4) := ⟨⟨by decide +kernel, by decide +kernel⟩, List.mem_of_getElem? (i := 270) (by decide +kernel), List.mem_of_getElem? (i := 623) (by decide +kernel), List.mem_of_getElem? (i := 624) (by decide +kernel)⟩
theorem lw_p21 : lw_okq (⟨"NearEnough", "forgetFront", "()V"⟩, 17) := ⟨⟨by decide +kernel, by decide +kernel⟩, List.mem_of_getElem? (i := 23) (by decide +kernel), List.mem_of_getElem? (i := 675) (by decide +kernel), List.mem_of_getElem? (i := 676) (by decide +kernel)⟩
theorem lw_p22 : lw_okq (⟨"NearEnough", "forgetPlan", "()V"⟩, 17) := ⟨⟨by decide +kernel, by decide +kernel⟩, List.mem_of_getElem? (i := 23) (by decide +kernel), List.mem_of_getElem? (i := 683) (by decide +kernel), List.mem_of_getElem? (i := 684) (by decide +kernel)⟩
theorem lw_p23 : lw_okq (⟨"NearEnough", "lastStep", "()I"⟩, 17) := ⟨⟨by decide +kernel, by decide +kernel⟩, List.mem_of_getElem? (i := 23) (by decide +kernel), List.mem_of_getElem? (i := 711) (by decide +kernel), List.mem_of_getElem? (i := 712) (by decide +kernel)⟩
theorem lw_p24 : lw_okq (⟨"NearEnough$Worker", "made", "([JILNearEnough$Step;II)J"⟩, 5) := ⟨⟨by decide +kernel, by decide +kernel⟩, List.mem_of_getElem? (i := 179) (by decide +kernel), List.mem_of_getElem? (i := 719) (by decide +kernel), List.mem_of_getElem? (i := 720) (by decide +kernel)⟩
theorem lw_p25 : lw_okq (⟨"NearEnough$Worker", "fromPlace", "(LNearEnough$Step;JIII)J"⟩, 5) := ⟨⟨by decide +kernel, by decide +kernel⟩, List.mem_of_getElem? (i := 179) (by decide +kernel), List.mem_of_getElem? (i := 731) (by decide +kernel), List.mem_of_getElem? (i := 732) (by decide +kernel)⟩
theorem lw_p26 : lw_okq (⟨"NearEnough$Worker", "fromRow", "(LNearEnough$Step;III)J"⟩, 5) := ⟨⟨by decide +kernel, by decide +kernel⟩, List.mem_of_getElem? (i := 179) (by decide +kernel), List.mem_of_getElem? (i := 745) (by decide +kernel), List.mem_of_getElem? (i := 746) (by decide +kernel)⟩
theorem lw_p27 : lw_okq (⟨"NearEnough", "stands", "(I)Z"⟩, 17) := ⟨⟨by decide +kernel, by decide +kernel⟩, List.mem_of_getElem? (i := 23) (by decide +kernel), List.mem_of_getElem? (i := 782) (by decide +kernel), List.mem_of_getElem? (i := 783) (by decide +kernel)⟩
theorem lw_p28 : lw_okq (⟨"NearEnough$Shown", "errs", "(I)Z"⟩, 9) := ⟨⟨by decide +kernel, by decide +kernel⟩, List.mem_of_getElem? (i := 141) (by decide +kernel), List.mem_of_getElem? (i := 795) (by decide +kernel), List.mem_of_getElem? (i := 796) (by decide +kernel)⟩
theorem lw_p29 : lw_okq (⟨"NearEnough$Shown", "showFromSteps", "(LNearEnough$Step;)V"⟩, 9) := ⟨⟨by decide +kernel, by decide +kernel⟩, List.mem_of_getElem? (i := 141) (by decide +kernel), List.mem_of_getElem? (i := 799) (by decide +kernel), List.mem_of_getElem? (i := 800) (by decide +kernel)⟩
theorem lw_p30 : lw_okq (⟨"NearEnough$Shown", "set", "(JJ)V"⟩, 9) := ⟨⟨by decide +kernel, by decide +kernel⟩, List.mem_of_getElem? (i := 141) (by decide +kernel), List.mem_of_getElem? (i := 803) (by decide +kernel), List.mem_of_getElem? (i := 804) (by decide +kernel)⟩
theorem lw_p31 : lw_okq (⟨"NearEnough$Shown", "showTimes", "(II)V"⟩, 9) := ⟨⟨by decide +kernel, by decide +kernel⟩, List.mem_of_getElem? (i := 141) (by decide +kernel), List.mem_of_getElem? (i := 807) (by decide +kernel), List.mem_of_getElem? (i := 808) (by decide +kernel)⟩
def lw_privs_2 : List (MethodName × Nat) := [(⟨"NearEnough$Reader", "readStep", "()V"⟩, 4), (⟨"NearEnough$Reader", "stepKind", "()I"⟩, 4), (⟨"NearEnough$Reader", "readParts", "(LNearEnough$Step;)V"⟩, 4), (⟨"NearEnough$Reader", "needRow", "()LNearEnough$Row;"⟩, 4), (⟨"NearEnough$Reader", "makeSpan", "(LNearEnough$Step;)V"⟩, 4), (⟨"NearEnough", "forgetFront", "()V"⟩, 17), (⟨"NearEnough", "forgetPlan", "()V"⟩, 17), (⟨"NearEnough", "lastStep", "()I"⟩, 17), (⟨"NearEnough$Worker", "made", "([JILNearEnough$Step;II)J"⟩, 5), (⟨"NearEnough$Worker", "fromPlace", "(LNearEnough$Step;JIII)J"⟩, 5), (⟨"NearEnough$Worker", "fromRow", "(LNearEnough$Step;III)J"⟩, 5), (⟨"NearEnough", "stands", "(I)Z"⟩, 17), (⟨"NearEnough$Shown", "errs", "(I)Z"⟩, 9), (⟨"NearEnough$Shown", "showFromSteps", "(LNearEnough$Step;)V"⟩, 9), (⟨"NearEnough$Shown", "set", "(JJ)V"⟩, 9), (⟨"NearEnough$Shown", "showTimes", "(II)V"⟩, 9)]
theorem lw_r2 : ∀ q ∈ lw_privs_2, lw_okq q := List.forall_mem_cons.mpr ⟨lw_p16, List.forall_mem_cons.mpr ⟨lw_p17, List.forall_mem_cons.mpr ⟨lw_p18, List.forall_mem_cons.mpr ⟨lw_p19, List.forall_mem_cons.mpr ⟨lw_p20, List.forall_mem_cons.mpr ⟨lw_p21, List.forall_mem_cons.mpr ⟨lw_p22, List.forall_mem_cons.mpr ⟨lw_p23, List.forall_mem_cons.mpr ⟨lw_p24, List.forall_mem_cons.mpr ⟨lw_p25, List.forall_mem_cons.mpr ⟨lw_p26, List.forall_mem_cons.mpr ⟨lw_p27, List.forall_mem_cons.mpr ⟨lw_p28, List.forall_mem_cons.mpr ⟨lw_p29, List.forall_mem_cons.mpr ⟨lw_p30, List.forall_mem_cons.mpr ⟨lw_p31, fun _ h => absurd h List.not_mem_nil⟩⟩⟩⟩⟩⟩⟩⟩⟩⟩⟩⟩⟩⟩⟩⟩
theorem lw_p32 : lw_okq (⟨"NearEnough$Shown", "showScale", "(LNearEnough$Step;)V"⟩, 9) := ⟨⟨by decide +kernel, by decide +kernel⟩, List.mem_of_getElem? (i := 141) (by decide +kernel), List.mem_of_getElem? (i := 813) (by decide +kernel), List.mem_of_getElem? (i := 814) (by decide +kernel)⟩
theorem lw_p33 : lw_okq (⟨"NearEnough$Shown", "showPick", "(LNearEnough$Step;)V"⟩, 9) := ⟨⟨by decide +kernel, by decide +kernel⟩, List.mem_of_getElem? (i := 141) (by decide +kernel), List.mem_of_getElem? (i := 818) (by decide +kernel), List.mem_of_getElem? (i := 819) (by decide +kernel)⟩
theorem lw_p34 : lw_okq (⟨"NearEnough$Shown", "widenByTaking", "(II)V"⟩, 9) := ⟨⟨by decide +kernel, by decide +kernel⟩, List.mem_of_getElem? (i := 141) (by decide +kernel), List.mem_of_getElem? (i := 822) (by decide +kernel), List.mem_of_getElem? (i := 823) (by decide +kernel)⟩
theorem lw_p35 : lw_okq (⟨"NearEnough$Shown", "showRowChange", "(LNearEnough$Step;LNearEnough$Row;II)V"⟩, 9) := ⟨⟨by decide +kernel, by decide +kernel⟩, List.mem_of_getElem? (i := 141) (by decide +kernel), List.mem_of_getElem? (i := 826) (by decide +kernel), List.mem_of_getElem? (i := 827) (by decide +kernel)⟩
theorem lw_p36 : lw_okq (⟨"NearEnough$Shown", "showChange", "(LNearEnough$Step;II)V"⟩, 9) := ⟨⟨by decide +kernel, by decide +kernel⟩, List.mem_of_getElem? (i := 141) (by decide +kernel), List.mem_of_getElem? (i := 841) (by decide +kernel), List.mem_of_getElem? (i := 842) (by decide +kernel)⟩
theorem lw_p37 : lw_okq (⟨"NearEnough", "greatestWrong", "(I)J"⟩, 17) := ⟨⟨by decide +kernel, by decide +kernel⟩, List.mem_of_getElem? (i := 23) (by decide +kernel), List.mem_of_getElem? (i := 880) (by decide +kernel), List.mem_of_getElem? (i := 881) (by decide +kernel)⟩
theorem lw_p38 : lw_okq (⟨"NearEnough", "errorOn", "(II)J"⟩, 17) := ⟨⟨by decide +kernel, by decide +kernel⟩, List.mem_of_getElem? (i := 23) (by decide +kernel), List.mem_of_getElem? (i := 884) (by decide +kernel), List.mem_of_getElem? (i := 885) (by decide +kernel)⟩
theorem lw_p39 : lw_okq (⟨"NearEnough", "ticksOf", "(I)I"⟩, 17) := ⟨⟨by decide +kernel, by decide +kernel⟩, List.mem_of_getElem? (i := 23) (by decide +kernel), List.mem_of_getElem? (i := 919) (by decide +kernel), List.mem_of_getElem? (i := 920) (by decide +kernel)⟩
theorem lw_p40 : lw_okq (⟨"NearEnough", "isLet", "()Z"⟩, 17) := ⟨⟨by decide +kernel, by decide +kernel⟩, List.mem_of_getElem? (i := 23) (by decide +kernel), List.mem_of_getElem? (i := 929) (by decide +kernel), List.mem_of_getElem? (i := 930) (by decide +kernel)⟩
theorem lw_p41 : lw_okq (⟨"NearEnough", "isLetOnSheets", "()Z"⟩, 17) := ⟨⟨by decide +kernel, by decide +kernel⟩, List.mem_of_getElem? (i := 23) (by decide +kernel), List.mem_of_getElem? (i := 933) (by decide +kernel), List.mem_of_getElem? (i := 934) (by decide +kernel)⟩
theorem lw_p42 : lw_okq (⟨"NearEnough", "counted", "(IJ)J"⟩, 17) := ⟨⟨by decide +kernel, by decide +kernel⟩, List.mem_of_getElem? (i := 23) (by decide +kernel), List.mem_of_getElem? (i := 940) (by decide +kernel), List.mem_of_getElem? (i := 941) (by decide +kernel)⟩
theorem lw_p43 : lw_okq (⟨"NearEnough", "allowance", "(I)J"⟩, 17) := ⟨⟨by decide +kernel, by decide +kernel⟩, List.mem_of_getElem? (i := 23) (by decide +kernel), List.mem_of_getElem? (i := 945) (by decide +kernel), List.mem_of_getElem? (i := 946) (by decide +kernel)⟩
theorem lw_p44 : lw_okq (⟨"NearEnough$Changes", "nextOf", "(II)I"⟩, 7) := ⟨⟨by decide +kernel, by decide +kernel⟩, List.mem_of_getElem? (i := 109) (by decide +kernel), List.mem_of_getElem? (i := 966) (by decide +kernel), List.mem_of_getElem? (i := 967) (by decide +kernel)⟩
theorem lw_p45 : lw_okq (⟨"NearEnough", "madeFront", "()LNearEnough$Front;"⟩, 17) := ⟨⟨by decide +kernel, by decide +kernel⟩, List.mem_of_getElem? (i := 23) (by decide +kernel), List.mem_of_getElem? (i := 985) (by decide +kernel), List.mem_of_getElem? (i := 986) (by decide +kernel)⟩
theorem lw_p46 : lw_okq (⟨"NearEnough$Front", "bring", "(JI)V"⟩, 7) := ⟨⟨by decide +kernel, by decide +kernel⟩, List.mem_of_getElem? (i := 989) (by decide +kernel), List.mem_of_getElem? (i := 1028) (by decide +kernel), List.mem_of_getElem? (i := 1029) (by decide +kernel)⟩
theorem lw_p47 : lw_okq (⟨"NearEnough$Front", "countNotFarther", "(J)I"⟩, 7) := ⟨⟨by decide +kernel, by decide +kernel⟩, List.mem_of_getElem? (i := 989) (by decide +kernel), List.mem_of_getElem? (i := 1032) (by decide +kernel), List.mem_of_getElem? (i := 1033) (by decide +kernel)⟩
def lw_privs_3 : List (MethodName × Nat) := [(⟨"NearEnough$Shown", "showScale", "(LNearEnough$Step;)V"⟩, 9), (⟨"NearEnough$Shown", "showPick", "(LNearEnough$Step;)V"⟩, 9), (⟨"NearEnough$Shown", "widenByTaking", "(II)V"⟩, 9), (⟨"NearEnough$Shown", "showRowChange", "(LNearEnough$Step;LNearEnough$Row;II)V"⟩, 9), (⟨"NearEnough$Shown", "showChange", "(LNearEnough$Step;II)V"⟩, 9), (⟨"NearEnough", "greatestWrong", "(I)J"⟩, 17), (⟨"NearEnough", "errorOn", "(II)J"⟩, 17), (⟨"NearEnough", "ticksOf", "(I)I"⟩, 17), (⟨"NearEnough", "isLet", "()Z"⟩, 17), (⟨"NearEnough", "isLetOnSheets", "()Z"⟩, 17), (⟨"NearEnough", "counted", "(IJ)J"⟩, 17), (⟨"NearEnough", "allowance", "(I)J"⟩, 17), (⟨"NearEnough$Changes", "nextOf", "(II)I"⟩, 7), (⟨"NearEnough", "madeFront", "()LNearEnough$Front;"⟩, 17), (⟨"NearEnough$Front", "bring", "(JI)V"⟩, 7), (⟨"NearEnough$Front", "countNotFarther", "(J)I"⟩, 7)]
theorem lw_r3 : ∀ q ∈ lw_privs_3, lw_okq q := List.forall_mem_cons.mpr ⟨lw_p32, List.forall_mem_cons.mpr ⟨lw_p33, List.forall_mem_cons.mpr ⟨lw_p34, List.forall_mem_cons.mpr ⟨lw_p35, List.forall_mem_cons.mpr ⟨lw_p36, List.forall_mem_cons.mpr ⟨lw_p37, List.forall_mem_cons.mpr ⟨lw_p38, List.forall_mem_cons.mpr ⟨lw_p39, List.forall_mem_cons.mpr ⟨lw_p40, List.forall_mem_cons.mpr ⟨lw_p41, List.forall_mem_cons.mpr ⟨lw_p42, List.forall_mem_cons.mpr ⟨lw_p43, List.forall_mem_cons.mpr ⟨lw_p44, List.forall_mem_cons.mpr ⟨lw_p45, List.forall_mem_cons.mpr ⟨lw_p46, List.forall_mem_cons.mpr ⟨lw_p47, fun _ h => absurd h List.not_mem_nil⟩⟩⟩⟩⟩⟩⟩⟩⟩⟩⟩⟩⟩⟩⟩⟩
theorem lw_p48 : lw_okq (⟨"NearEnough", "turnsBack", "(II)Z"⟩, 17) := ⟨⟨by decide +kernel, by decide +kernel⟩, List.mem_of_getElem? (i := 23) (by decide +kernel), List.mem_of_getElem? (i := 1049) (by decide +kernel), List.mem_of_getElem? (i := 1050) (by decide +kernel)⟩
theorem lw_p49 : lw_okq (⟨"NearEnough", "errorByBits", "(II)J"⟩, 17) := ⟨⟨by decide +kernel, by decide +kernel⟩, List.mem_of_getElem? (i := 23) (by decide +kernel), List.mem_of_getElem? (i := 1062) (by decide +kernel), List.mem_of_getElem? (i := 1063) (by decide +kernel)⟩
theorem lw_p50 : lw_okq (⟨"NearEnough", "canPlan", "(II)Z"⟩, 17) := ⟨⟨by decide +kernel, by decide +kernel⟩, List.mem_of_getElem? (i := 23) (by decide +kernel), List.mem_of_getElem? (i := 1083) (by decide +kernel), List.mem_of_getElem? (i := 1084) (by decide +kernel)⟩
theorem lw_p51 : lw_okq (⟨"NearEnough", "madePlan", "()LNearEnough$Plan;"⟩, 17) := ⟨⟨by decide +kernel, by decide +kernel⟩, List.mem_of_getElem? (i := 23) (by decide +kernel), List.mem_of_getElem? (i := 1087) (by decide +kernel), List.mem_of_getElem? (i := 1088) (by decide +kernel)⟩
theorem lw_p52 : lw_okq (⟨"NearEnough$Plan", "bringChoice", "(I)V"⟩, 8) := ⟨⟨by decide +kernel, by decide +kernel⟩, List.mem_of_getElem? (i := 1091) (by decide +kernel), List.mem_of_getElem? (i := 1129) (by decide +kernel), List.mem_of_getElem? (i := 1130) (by decide +kernel)⟩
theorem lw_p53 : lw_okq (⟨"NearEnough$Plan", "addUp", "(I)V"⟩, 8) := ⟨⟨by decide +kernel, by decide +kernel⟩, List.mem_of_getElem? (i := 1091) (by decide +kernel), List.mem_of_getElem? (i := 1139) (by decide +kernel), List.mem_of_getElem? (i := 1140) (by decide +kernel)⟩
theorem lw_p54 : lw_okq (⟨"NearEnough$Plan", "wrongOfLeast", "(II)I"⟩, 8) := ⟨⟨by decide +kernel, by decide +kernel⟩, List.mem_of_getElem? (i := 1091) (by decide +kernel), List.mem_of_getElem? (i := 1155) (by decide +kernel), List.mem_of_getElem? (i := 1156) (by decide +kernel)⟩
theorem lw_p55 : lw_okq (⟨"NearEnoughModel", "next", "()V"⟩, 59) := ⟨⟨by decide +kernel, by decide +kernel⟩, List.mem_of_getElem? (i := 1166) (by decide +kernel), List.mem_of_getElem? (i := 1354) (by decide +kernel), List.mem_of_getElem? (i := 1355) (by decide +kernel)⟩
theorem lw_p56 : lw_okq (⟨"NearEnoughModel", "sign", "(I)I"⟩, 59) := ⟨⟨by decide +kernel, by decide +kernel⟩, List.mem_of_getElem? (i := 1166) (by decide +kernel), List.mem_of_getElem? (i := 1358) (by decide +kernel), List.mem_of_getElem? (i := 1359) (by decide +kernel)⟩
theorem lw_p57 : lw_okq (⟨"NearEnoughModel", "isGood", "()Z"⟩, 59) := ⟨⟨by decide +kernel, by decide +kernel⟩, List.mem_of_getElem? (i := 1166) (by decide +kernel), List.mem_of_getElem? (i := 1394) (by decide +kernel), List.mem_of_getElem? (i := 1395) (by decide +kernel)⟩
theorem lw_p58 : lw_okq (⟨"NearEnoughModel", "readLine", "()V"⟩, 59) := ⟨⟨by decide +kernel, by decide +kernel⟩, List.mem_of_getElem? (i := 1166) (by decide +kernel), List.mem_of_getElem? (i := 1398) (by decide +kernel), List.mem_of_getElem? (i := 1399) (by decide +kernel)⟩
theorem lw_p59 : lw_okq (⟨"NearEnoughModel", "isWord", "(J)Z"⟩, 59) := ⟨⟨by decide +kernel, by decide +kernel⟩, List.mem_of_getElem? (i := 1166) (by decide +kernel), List.mem_of_getElem? (i := 1402) (by decide +kernel), List.mem_of_getElem? (i := 1403) (by decide +kernel)⟩
theorem lw_p60 : lw_okq (⟨"NearEnoughModel", "kindHere", "()I"⟩, 59) := ⟨⟨by decide +kernel, by decide +kernel⟩, List.mem_of_getElem? (i := 1166) (by decide +kernel), List.mem_of_getElem? (i := 1406) (by decide +kernel), List.mem_of_getElem? (i := 1407) (by decide +kernel)⟩
theorem lw_p61 : lw_okq (⟨"NearEnoughModel", "wrong", "()V"⟩, 59) := ⟨⟨by decide +kernel, by decide +kernel⟩, List.mem_of_getElem? (i := 1166) (by decide +kernel), List.mem_of_getElem? (i := 1410) (by decide +kernel), List.mem_of_getElem? (i := 1411) (by decide +kernel)⟩
theorem lw_p62 : lw_okq (⟨"NearEnoughModel", "fails", "(II)V"⟩, 59) := ⟨⟨by decide +kernel, by decide +kernel⟩, List.mem_of_getElem? (i := 1166) (by decide +kernel), List.mem_of_getElem? (i := 1414) (by decide +kernel), List.mem_of_getElem? (i := 1415) (by decide +kernel)⟩
theorem lw_p63 : lw_okq (⟨"NearEnoughModel", "readRow", "()V"⟩, 59) := ⟨⟨by decide +kernel, by decide +kernel⟩, List.mem_of_getElem? (i := 1166) (by decide +kernel), List.mem_of_getElem? (i := 1418) (by decide +kernel), List.mem_of_getElem? (i := 1419) (by decide +kernel)⟩
def lw_privs_4 : List (MethodName × Nat) := [(⟨"NearEnough", "turnsBack", "(II)Z"⟩, 17), (⟨"NearEnough", "errorByBits", "(II)J"⟩, 17), (⟨"NearEnough", "canPlan", "(II)Z"⟩, 17), (⟨"NearEnough", "madePlan", "()LNearEnough$Plan;"⟩, 17), (⟨"NearEnough$Plan", "bringChoice", "(I)V"⟩, 8), (⟨"NearEnough$Plan", "addUp", "(I)V"⟩, 8), (⟨"NearEnough$Plan", "wrongOfLeast", "(II)I"⟩, 8), (⟨"NearEnoughModel", "next", "()V"⟩, 59), (⟨"NearEnoughModel", "sign", "(I)I"⟩, 59), (⟨"NearEnoughModel", "isGood", "()Z"⟩, 59), (⟨"NearEnoughModel", "readLine", "()V"⟩, 59), (⟨"NearEnoughModel", "isWord", "(J)Z"⟩, 59), (⟨"NearEnoughModel", "kindHere", "()I"⟩, 59), (⟨"NearEnoughModel", "wrong", "()V"⟩, 59), (⟨"NearEnoughModel", "fails", "(II)V"⟩, 59), (⟨"NearEnoughModel", "readRow", "()V"⟩, 59)]
theorem lw_r4 : ∀ q ∈ lw_privs_4, lw_okq q := List.forall_mem_cons.mpr ⟨lw_p48, List.forall_mem_cons.mpr ⟨lw_p49, List.forall_mem_cons.mpr ⟨lw_p50, List.forall_mem_cons.mpr ⟨lw_p51, List.forall_mem_cons.mpr ⟨lw_p52, List.forall_mem_cons.mpr ⟨lw_p53, List.forall_mem_cons.mpr ⟨lw_p54, List.forall_mem_cons.mpr ⟨lw_p55, List.forall_mem_cons.mpr ⟨lw_p56, List.forall_mem_cons.mpr ⟨lw_p57, List.forall_mem_cons.mpr ⟨lw_p58, List.forall_mem_cons.mpr ⟨lw_p59, List.forall_mem_cons.mpr ⟨lw_p60, List.forall_mem_cons.mpr ⟨lw_p61, List.forall_mem_cons.mpr ⟨lw_p62, List.forall_mem_cons.mpr ⟨lw_p63, fun _ h => absurd h List.not_mem_nil⟩⟩⟩⟩⟩⟩⟩⟩⟩⟩⟩⟩⟩⟩⟩⟩
theorem lw_p64 : lw_okq (⟨"NearEnoughModel", "fresh", "()V"⟩, 59) := ⟨⟨by decide +kernel, by decide +kernel⟩, List.mem_of_getElem? (i := 1166) (by decide +kernel), List.mem_of_getElem? (i := 1422) (by decide +kernel), List.mem_of_getElem? (i := 1423) (by decide +kernel)⟩
theorem lw_p65 : lw_okq (⟨"NearEnoughModel", "rowNamed", "()I"⟩, 59) := ⟨⟨by decide +kernel, by decide +kernel⟩, List.mem_of_getElem? (i := 1166) (by decide +kernel), List.mem_of_getElem? (i := 1426) (by decide +kernel), List.mem_of_getElem? (i := 1427) (by decide +kernel)⟩
theorem lw_p66 : lw_okq (⟨"NearEnoughModel", "stepNamed", "()I"⟩, 59) := ⟨⟨by decide +kernel, by decide +kernel⟩, List.mem_of_getElem? (i := 1166) (by decide +kernel), List.mem_of_getElem? (i := 1430) (by decide +kernel), List.mem_of_getElem? (i := 1431) (by decide +kernel)⟩
theorem lw_p67 : lw_okq (⟨"NearEnoughModel", "must", "(Z)V"⟩, 59) := ⟨⟨by decide +kernel, by decide +kernel⟩, List.mem_of_getElem? (i := 1166) (by decide +kernel), List.mem_of_getElem? (i := 1434) (by decide +kernel), List.mem_of_getElem? (i := 1435) (by decide +kernel)⟩
theorem lw_p68 : lw_okq (⟨"NearEnoughModel", "numeral", "(II)I"⟩, 59) := ⟨⟨by decide +kernel, by decide +kernel⟩, List.mem_of_getElem? (i := 1166) (by decide +kernel), List.mem_of_getElem? (i := 1438) (by decide +kernel), List.mem_of_getElem? (i := 1439) (by decide +kernel)⟩
theorem lw_p69 : lw_okq (⟨"NearEnoughModel", "signed", "(II)I"⟩, 59) := ⟨⟨by decide +kernel, by decide +kernel⟩, List.mem_of_getElem? (i := 1166) (by decide +kernel), List.mem_of_getElem? (i := 1442) (by decide +kernel), List.mem_of_getElem? (i := 1443) (by decide +kernel)⟩
theorem lw_p70 : lw_okq (⟨"NearEnoughModel", "is", "(I)Z"⟩, 59) := ⟨⟨by decide +kernel, by decide +kernel⟩, List.mem_of_getElem? (i := 1166) (by decide +kernel), List.mem_of_getElem? (i := 1446) (by decide +kernel), List.mem_of_getElem? (i := 1447) (by decide +kernel)⟩
theorem lw_p71 : lw_okq (⟨"NearEnoughModel", "readEnd", "()V"⟩, 59) := ⟨⟨by decide +kernel, by decide +kernel⟩, List.mem_of_getElem? (i := 1166) (by decide +kernel), List.mem_of_getElem? (i := 1450) (by decide +kernel), List.mem_of_getElem? (i := 1451) (by decide +kernel)⟩
theorem lw_p72 : lw_okq (⟨"NearEnoughModel", "theStep", "()I"⟩, 59) := ⟨⟨by decide +kernel, by decide +kernel⟩, List.mem_of_getElem? (i := 1166) (by decide +kernel), List.mem_of_getElem? (i := 1454) (by decide +kernel), List.mem_of_getElem? (i := 1455) (by decide +kernel)⟩
theorem lw_p73 : lw_okq (⟨"NearEnoughModel", "readStep", "(I)V"⟩, 59) := ⟨⟨by decide +kernel, by decide +kernel⟩, List.mem_of_getElem? (i := 1166) (by decide +kernel), List.mem_of_getElem? (i := 1458) (by decide +kernel), List.mem_of_getElem? (i := 1459) (by decide +kernel)⟩
theorem lw_p74 : lw_okq (⟨"NearEnoughModel", "aRow", "()I"⟩, 59) := ⟨⟨by decide +kernel, by decide +kernel⟩, List.mem_of_getElem? (i := 1166) (by decide +kernel), List.mem_of_getElem? (i := 1462) (by decide +kernel), List.mem_of_getElem? (i := 1463) (by decide +kernel)⟩
theorem lw_p75 : lw_okq (⟨"NearEnoughModel", "aStep", "()I"⟩, 59) := ⟨⟨by decide +kernel, by decide +kernel⟩, List.mem_of_getElem? (i := 1166) (by decide +kernel), List.mem_of_getElem? (i := 1466) (by decide +kernel), List.mem_of_getElem? (i := 1467) (by decide +kernel)⟩
theorem lw_p76 : lw_okq (⟨"NearEnoughModel", "laySpan", "(I)V"⟩, 59) := ⟨⟨by decide +kernel, by decide +kernel⟩, List.mem_of_getElem? (i := 1166) (by decide +kernel), List.mem_of_getElem? (i := 1470) (by decide +kernel), List.mem_of_getElem? (i := 1471) (by decide +kernel)⟩
theorem lw_p77 : lw_okq (⟨"NearEnoughModel", "isStep", "(I)Z"⟩, 59) := ⟨⟨by decide +kernel, by decide +kernel⟩, List.mem_of_getElem? (i := 1166) (by decide +kernel), List.mem_of_getElem? (i := 1490) (by decide +kernel), List.mem_of_getElem? (i := 1491) (by decide +kernel)⟩
theorem lw_p78 : lw_okq (⟨"NearEnoughModel", "steps", "()I"⟩, 59) := ⟨⟨by decide +kernel, by decide +kernel⟩, List.mem_of_getElem? (i := 1166) (by decide +kernel), List.mem_of_getElem? (i := 1494) (by decide +kernel), List.mem_of_getElem? (i := 1495) (by decide +kernel)⟩
theorem lw_p79 : lw_okq (⟨"NearEnoughModel", "at0", "(I)I"⟩, 59) := ⟨⟨by decide +kernel, by decide +kernel⟩, List.mem_of_getElem? (i := 1166) (by decide +kernel), List.mem_of_getElem? (i := 1501) (by decide +kernel), List.mem_of_getElem? (i := 1502) (by decide +kernel)⟩
def lw_privs_5 : List (MethodName × Nat) := [(⟨"NearEnoughModel", "fresh", "()V"⟩, 59), (⟨"NearEnoughModel", "rowNamed", "()I"⟩, 59), (⟨"NearEnoughModel", "stepNamed", "()I"⟩, 59), (⟨"NearEnoughModel", "must", "(Z)V"⟩, 59), (⟨"NearEnoughModel", "numeral", "(II)I"⟩, 59), (⟨"NearEnoughModel", "signed", "(II)I"⟩, 59), (⟨"NearEnoughModel", "is", "(I)Z"⟩, 59), (⟨"NearEnoughModel", "readEnd", "()V"⟩, 59), (⟨"NearEnoughModel", "theStep", "()I"⟩, 59), (⟨"NearEnoughModel", "readStep", "(I)V"⟩, 59), (⟨"NearEnoughModel", "aRow", "()I"⟩, 59), (⟨"NearEnoughModel", "aStep", "()I"⟩, 59), (⟨"NearEnoughModel", "laySpan", "(I)V"⟩, 59), (⟨"NearEnoughModel", "isStep", "(I)Z"⟩, 59), (⟨"NearEnoughModel", "steps", "()I"⟩, 59), (⟨"NearEnoughModel", "at0", "(I)I"⟩, 59)]
theorem lw_r5 : ∀ q ∈ lw_privs_5, lw_okq q := List.forall_mem_cons.mpr ⟨lw_p64, List.forall_mem_cons.mpr ⟨lw_p65, List.forall_mem_cons.mpr ⟨lw_p66, List.forall_mem_cons.mpr ⟨lw_p67, List.forall_mem_cons.mpr ⟨lw_p68, List.forall_mem_cons.mpr ⟨lw_p69, List.forall_mem_cons.mpr ⟨lw_p70, List.forall_mem_cons.mpr ⟨lw_p71, List.forall_mem_cons.mpr ⟨lw_p72, List.forall_mem_cons.mpr ⟨lw_p73, List.forall_mem_cons.mpr ⟨lw_p74, List.forall_mem_cons.mpr ⟨lw_p75, List.forall_mem_cons.mpr ⟨lw_p76, List.forall_mem_cons.mpr ⟨lw_p77, List.forall_mem_cons.mpr ⟨lw_p78, List.forall_mem_cons.mpr ⟨lw_p79, fun _ h => absurd h List.not_mem_nil⟩⟩⟩⟩⟩⟩⟩⟩⟩⟩⟩⟩⟩⟩⟩⟩
theorem lw_p80 : lw_okq (⟨"NearEnoughModel", "mayChange", "(III)Z"⟩, 59) := ⟨⟨by decide +kernel, by decide +kernel⟩, List.mem_of_getElem? (i := 1166) (by decide +kernel), List.mem_of_getElem? (i := 1517) (by decide +kernel), List.mem_of_getElem? (i := 1518) (by decide +kernel)⟩
theorem lw_p81 : lw_okq (⟨"NearEnoughModel", "isOpen", "(I)Z"⟩, 59) := ⟨⟨by decide +kernel, by decide +kernel⟩, List.mem_of_getElem? (i := 1166) (by decide +kernel), List.mem_of_getElem? (i := 1525) (by decide +kernel), List.mem_of_getElem? (i := 1526) (by decide +kernel)⟩
theorem lw_p82 : lw_okq (⟨"NearEnoughModel", "isChoice", "(I)Z"⟩, 59) := ⟨⟨by decide +kernel, by decide +kernel⟩, List.mem_of_getElem? (i := 1166) (by decide +kernel), List.mem_of_getElem? (i := 1529) (by decide +kernel), List.mem_of_getElem? (i := 1530) (by decide +kernel)⟩
theorem lw_p83 : lw_okq (⟨"NearEnoughModel", "bars", "()I"⟩, 59) := ⟨⟨by decide +kernel, by decide +kernel⟩, List.mem_of_getElem? (i := 1166) (by decide +kernel), List.mem_of_getElem? (i := 1533) (by decide +kernel), List.mem_of_getElem? (i := 1534) (by decide +kernel)⟩
theorem lw_p84 : lw_okq (⟨"NearEnoughModel", "show", "(I)Z"⟩, 59) := ⟨⟨by decide +kernel, by decide +kernel⟩, List.mem_of_getElem? (i := 1166) (by decide +kernel), List.mem_of_getElem? (i := 1537) (by decide +kernel), List.mem_of_getElem? (i := 1538) (by decide +kernel)⟩
theorem lw_p85 : lw_okq (⟨"NearEnoughModel", "spread", "(I)Z"⟩, 59) := ⟨⟨by decide +kernel, by decide +kernel⟩, List.mem_of_getElem? (i := 1166) (by decide +kernel), List.mem_of_getElem? (i := 1545) (by decide +kernel), List.mem_of_getElem? (i := 1546) (by decide +kernel)⟩
theorem lw_p86 : lw_okq (⟨"NearEnoughModel", "spreadTimes", "(II)V"⟩, 59) := ⟨⟨by decide +kernel, by decide +kernel⟩, List.mem_of_getElem? (i := 1166) (by decide +kernel), List.mem_of_getElem? (i := 1552) (by decide +kernel), List.mem_of_getElem? (i := 1553) (by decide +kernel)⟩
theorem lw_p87 : lw_okq (⟨"NearEnoughModel", "spreadPick", "(IIZ)V"⟩, 59) := ⟨⟨by decide +kernel, by decide +kernel⟩, List.mem_of_getElem? (i := 1166) (by decide +kernel), List.mem_of_getElem? (i := 1562) (by decide +kernel), List.mem_of_getElem? (i := 1563) (by decide +kernel)⟩
theorem lw_p88 : lw_okq (⟨"NearEnoughModel", "lowOver", "(II)J"⟩, 59) := ⟨⟨by decide +kernel, by decide +kernel⟩, List.mem_of_getElem? (i := 1166) (by decide +kernel), List.mem_of_getElem? (i := 1566) (by decide +kernel), List.mem_of_getElem? (i := 1567) (by decide +kernel)⟩
theorem lw_p89 : lw_okq (⟨"NearEnoughModel", "highOver", "(II)J"⟩, 59) := ⟨⟨by decide +kernel, by decide +kernel⟩, List.mem_of_getElem? (i := 1166) (by decide +kernel), List.mem_of_getElem? (i := 1570) (by decide +kernel), List.mem_of_getElem? (i := 1571) (by decide +kernel)⟩
theorem lw_p90 : lw_okq (⟨"NearEnoughModel", "spreadUsual", "(II)V"⟩, 59) := ⟨⟨by decide +kernel, by decide +kernel⟩, List.mem_of_getElem? (i := 1166) (by decide +kernel), List.mem_of_getElem? (i := 1574) (by decide +kernel), List.mem_of_getElem? (i := 1575) (by decide +kernel)⟩
theorem lw_p91 : lw_okq (⟨"NearEnoughModel", "showRow", "(III)V"⟩, 59) := ⟨⟨by decide +kernel, by decide +kernel⟩, List.mem_of_getElem? (i := 1166) (by decide +kernel), List.mem_of_getElem? (i := 1578) (by decide +kernel), List.mem_of_getElem? (i := 1579) (by decide +kernel)⟩
theorem lw_p92 : lw_okq (⟨"NearEnoughModel", "run", "([II)V"⟩, 59) := ⟨⟨by decide +kernel, by decide +kernel⟩, List.mem_of_getElem? (i := 1166) (by decide +kernel), List.mem_of_getElem? (i := 1583) (by decide +kernel), List.mem_of_getElem? (i := 1584) (by decide +kernel)⟩
theorem lw_p93 : lw_okq (⟨"NearEnoughModel", "work", "(I[II[JI)J"⟩, 59) := ⟨⟨by decide +kernel, by decide +kernel⟩, List.mem_of_getElem? (i := 1166) (by decide +kernel), List.mem_of_getElem? (i := 1587) (by decide +kernel), List.mem_of_getElem? (i := 1588) (by decide +kernel)⟩
theorem lw_p94 : lw_okq (⟨"NearEnoughModel", "ofRow", "(I[III)J"⟩, 59) := ⟨⟨by decide +kernel, by decide +kernel⟩, List.mem_of_getElem? (i := 1166) (by decide +kernel), List.mem_of_getElem? (i := 1591) (by decide +kernel), List.mem_of_getElem? (i := 1592) (by decide +kernel)⟩
theorem lw_p95 : lw_okq (⟨"NearEnoughModel", "baseOf", "([III)I"⟩, 59) := ⟨⟨by decide +kernel, by decide +kernel⟩, List.mem_of_getElem? (i := 1166) (by decide +kernel), List.mem_of_getElem? (i := 1595) (by decide +kernel), List.mem_of_getElem? (i := 1596) (by decide +kernel)⟩
def lw_privs_6 : List (MethodName × Nat) := [(⟨"NearEnoughModel", "mayChange", "(III)Z"⟩, 59), (⟨"NearEnoughModel", "isOpen", "(I)Z"⟩, 59), (⟨"NearEnoughModel", "isChoice", "(I)Z"⟩, 59), (⟨"NearEnoughModel", "bars", "()I"⟩, 59), (⟨"NearEnoughModel", "show", "(I)Z"⟩, 59), (⟨"NearEnoughModel", "spread", "(I)Z"⟩, 59), (⟨"NearEnoughModel", "spreadTimes", "(II)V"⟩, 59), (⟨"NearEnoughModel", "spreadPick", "(IIZ)V"⟩, 59), (⟨"NearEnoughModel", "lowOver", "(II)J"⟩, 59), (⟨"NearEnoughModel", "highOver", "(II)J"⟩, 59), (⟨"NearEnoughModel", "spreadUsual", "(II)V"⟩, 59), (⟨"NearEnoughModel", "showRow", "(III)V"⟩, 59), (⟨"NearEnoughModel", "run", "([II)V"⟩, 59), (⟨"NearEnoughModel", "work", "(I[II[JI)J"⟩, 59), (⟨"NearEnoughModel", "ofRow", "(I[III)J"⟩, 59), (⟨"NearEnoughModel", "baseOf", "([III)I"⟩, 59)]
theorem lw_r6 : ∀ q ∈ lw_privs_6, lw_okq q := List.forall_mem_cons.mpr ⟨lw_p80, List.forall_mem_cons.mpr ⟨lw_p81, List.forall_mem_cons.mpr ⟨lw_p82, List.forall_mem_cons.mpr ⟨lw_p83, List.forall_mem_cons.mpr ⟨lw_p84, List.forall_mem_cons.mpr ⟨lw_p85, List.forall_mem_cons.mpr ⟨lw_p86, List.forall_mem_cons.mpr ⟨lw_p87, List.forall_mem_cons.mpr ⟨lw_p88, List.forall_mem_cons.mpr ⟨lw_p89, List.forall_mem_cons.mpr ⟨lw_p90, List.forall_mem_cons.mpr ⟨lw_p91, List.forall_mem_cons.mpr ⟨lw_p92, List.forall_mem_cons.mpr ⟨lw_p93, List.forall_mem_cons.mpr ⟨lw_p94, List.forall_mem_cons.mpr ⟨lw_p95, fun _ h => absurd h List.not_mem_nil⟩⟩⟩⟩⟩⟩⟩⟩⟩⟩⟩⟩⟩⟩⟩⟩
theorem lw_p96 : lw_okq (⟨"NearEnoughModel", "isOn", "(II)Z"⟩, 59) := ⟨⟨by decide +kernel, by decide +kernel⟩, List.mem_of_getElem? (i := 1166) (by decide +kernel), List.mem_of_getElem? (i := 1599) (by decide +kernel), List.mem_of_getElem? (i := 1600) (by decide +kernel)⟩
theorem lw_p97 : lw_okq (⟨"NearEnoughModel", "numberAt", "([IIII)I"⟩, 59) := ⟨⟨by decide +kernel, by decide +kernel⟩, List.mem_of_getElem? (i := 1166) (by decide +kernel), List.mem_of_getElem? (i := 1607) (by decide +kernel), List.mem_of_getElem? (i := 1608) (by decide +kernel)⟩
theorem lw_p98 : lw_okq (⟨"NearEnoughModel", "isEnd", "(I)Z"⟩, 59) := ⟨⟨by decide +kernel, by decide +kernel⟩, List.mem_of_getElem? (i := 1166) (by decide +kernel), List.mem_of_getElem? (i := 1623) (by decide +kernel), List.mem_of_getElem? (i := 1624) (by decide +kernel)⟩
theorem lw_p99 : lw_okq (⟨"NearEnoughModel", "offOf", "(I)J"⟩, 59) := ⟨⟨by decide +kernel, by decide +kernel⟩, List.mem_of_getElem? (i := 1166) (by decide +kernel), List.mem_of_getElem? (i := 1627) (by decide +kernel), List.mem_of_getElem? (i := 1628) (by decide +kernel)⟩
theorem lw_p100 : lw_okq (⟨"NearEnoughModel", "measure", "(I)J"⟩, 59) := ⟨⟨by decide +kernel, by decide +kernel⟩, List.mem_of_getElem? (i := 1166) (by decide +kernel), List.mem_of_getElem? (i := 1639) (by decide +kernel), List.mem_of_getElem? (i := 1640) (by decide +kernel)⟩
theorem lw_p101 : lw_okq (⟨"NearEnoughModel", "farOn", "(II)J"⟩, 59) := ⟨⟨by decide +kernel, by decide +kernel⟩, List.mem_of_getElem? (i := 1166) (by decide +kernel), List.mem_of_getElem? (i := 1643) (by decide +kernel), List.mem_of_getElem? (i := 1644) (by decide +kernel)⟩
theorem lw_p102 : lw_okq (⟨"NearEnoughModel", "savedBy", "(I)I"⟩, 59) := ⟨⟨by decide +kernel, by decide +kernel⟩, List.mem_of_getElem? (i := 1166) (by decide +kernel), List.mem_of_getElem? (i := 1662) (by decide +kernel), List.mem_of_getElem? (i := 1663) (by decide +kernel)⟩
theorem lw_p103 : lw_okq (⟨"NearEnoughModel", "isLet", "(I)Z"⟩, 59) := ⟨⟨by decide +kernel, by decide +kernel⟩, List.mem_of_getElem? (i := 1166) (by decide +kernel), List.mem_of_getElem? (i := 1674) (by decide +kernel), List.mem_of_getElem? (i := 1675) (by decide +kernel)⟩
theorem lw_p104 : lw_okq (⟨"NearEnoughModel", "layOffs", "(I)V"⟩, 59) := ⟨⟨by decide +kernel, by decide +kernel⟩, List.mem_of_getElem? (i := 1166) (by decide +kernel), List.mem_of_getElem? (i := 1689) (by decide +kernel), List.mem_of_getElem? (i := 1690) (by decide +kernel)⟩
theorem lw_p105 : lw_okq (⟨"NearEnoughModel", "nextPair", "(I)Z"⟩, 59) := ⟨⟨by decide +kernel, by decide +kernel⟩, List.mem_of_getElem? (i := 1166) (by decide +kernel), List.mem_of_getElem? (i := 1693) (by decide +kernel), List.mem_of_getElem? (i := 1694) (by decide +kernel)⟩
theorem lw_p106 : lw_okq (⟨"NearEnoughModel", "turnsBack", "(I)Z"⟩, 59) := ⟨⟨by decide +kernel, by decide +kernel⟩, List.mem_of_getElem? (i := 1166) (by decide +kernel), List.mem_of_getElem? (i := 1709) (by decide +kernel), List.mem_of_getElem? (i := 1710) (by decide +kernel)⟩
theorem lw_p107 : lw_okq (⟨"NearEnoughModel", "placeMany", "()I"⟩, 59) := ⟨⟨by decide +kernel, by decide +kernel⟩, List.mem_of_getElem? (i := 1166) (by decide +kernel), List.mem_of_getElem? (i := 1721) (by decide +kernel), List.mem_of_getElem? (i := 1722) (by decide +kernel)⟩
theorem lw_p108 : lw_okq (⟨"NearEnoughModel", "layCorner", "(I)V"⟩, 59) := ⟨⟨by decide +kernel, by decide +kernel⟩, List.mem_of_getElem? (i := 1166) (by decide +kernel), List.mem_of_getElem? (i := 1725) (by decide +kernel), List.mem_of_getElem? (i := 1726) (by decide +kernel)⟩
theorem lw_p109 : lw_okq (⟨"NearEnoughModel", "errorOn", "(III)J"⟩, 59) := ⟨⟨by decide +kernel, by decide +kernel⟩, List.mem_of_getElem? (i := 1166) (by decide +kernel), List.mem_of_getElem? (i := 1733) (by decide +kernel), List.mem_of_getElem? (i := 1734) (by decide +kernel)⟩
theorem lw_p110 : lw_okq (⟨"NearEnoughModel", "layPlan", "(II)V"⟩, 59) := ⟨⟨by decide +kernel, by decide +kernel⟩, List.mem_of_getElem? (i := 1166) (by decide +kernel), List.mem_of_getElem? (i := 1741) (by decide +kernel), List.mem_of_getElem? (i := 1742) (by decide +kernel)⟩
def lw_privs_7 : List (MethodName × Nat) := [(⟨"NearEnoughModel", "isOn", "(II)Z"⟩, 59), (⟨"NearEnoughModel", "numberAt", "([IIII)I"⟩, 59), (⟨"NearEnoughModel", "isEnd", "(I)Z"⟩, 59), (⟨"NearEnoughModel", "offOf", "(I)J"⟩, 59), (⟨"NearEnoughModel", "measure", "(I)J"⟩, 59), (⟨"NearEnoughModel", "farOn", "(II)J"⟩, 59), (⟨"NearEnoughModel", "savedBy", "(I)I"⟩, 59), (⟨"NearEnoughModel", "isLet", "(I)Z"⟩, 59), (⟨"NearEnoughModel", "layOffs", "(I)V"⟩, 59), (⟨"NearEnoughModel", "nextPair", "(I)Z"⟩, 59), (⟨"NearEnoughModel", "turnsBack", "(I)Z"⟩, 59), (⟨"NearEnoughModel", "placeMany", "()I"⟩, 59), (⟨"NearEnoughModel", "layCorner", "(I)V"⟩, 59), (⟨"NearEnoughModel", "errorOn", "(III)J"⟩, 59), (⟨"NearEnoughModel", "layPlan", "(II)V"⟩, 59)]
theorem lw_r7 : ∀ q ∈ lw_privs_7, lw_okq q := List.forall_mem_cons.mpr ⟨lw_p96, List.forall_mem_cons.mpr ⟨lw_p97, List.forall_mem_cons.mpr ⟨lw_p98, List.forall_mem_cons.mpr ⟨lw_p99, List.forall_mem_cons.mpr ⟨lw_p100, List.forall_mem_cons.mpr ⟨lw_p101, List.forall_mem_cons.mpr ⟨lw_p102, List.forall_mem_cons.mpr ⟨lw_p103, List.forall_mem_cons.mpr ⟨lw_p104, List.forall_mem_cons.mpr ⟨lw_p105, List.forall_mem_cons.mpr ⟨lw_p106, List.forall_mem_cons.mpr ⟨lw_p107, List.forall_mem_cons.mpr ⟨lw_p108, List.forall_mem_cons.mpr ⟨lw_p109, List.forall_mem_cons.mpr ⟨lw_p110, fun _ h => absurd h List.not_mem_nil⟩⟩⟩⟩⟩⟩⟩⟩⟩⟩⟩⟩⟩⟩⟩
def lw_privs : List (MethodName × Nat) := lw_privs_1 ++ (lw_privs_2 ++ (lw_privs_3 ++ (lw_privs_4 ++ (lw_privs_5 ++ (lw_privs_6 ++ (lw_privs_7))))))
def lw_tbl : List Cond := k2_sels lw_privs ++ tables_1
theorem lw_privs_ok : ∀ q ∈ lw_privs, lw_okq q := by
  show ∀ q ∈ lw_privs_1 ++ (lw_privs_2 ++ (lw_privs_3 ++ (lw_privs_4 ++ (lw_privs_5 ++ (lw_privs_6 ++ (lw_privs_7)))))), lw_okq q
  exact List.forall_mem_append.mpr ⟨lw_r1, List.forall_mem_append.mpr ⟨lw_r2, List.forall_mem_append.mpr ⟨lw_r3, List.forall_mem_append.mpr ⟨lw_r4, List.forall_mem_append.mpr ⟨lw_r5, List.forall_mem_append.mpr ⟨lw_r6, lw_r7⟩⟩⟩⟩⟩⟩
end
section
/-! ===== BEGIN words of one list among another's, by their places ===== -/
theorem goodIn_r {big : List Cond} (ws : List Cond) (ps : List Nat) (hp : ws = ps.filterMap (fun i => big[i]?)) (h : ws.all goodWord = true) : GoodIn big ws := by
  intro w hw
  have h1 := List.all_eq_true.mp h w hw
  rw [hp] at hw
  obtain ⟨i, -, hi⟩ := List.mem_filterMap.mp hw
  have hm : w ∈ big := by first | exact List.mem_of_getElem? hi | exact List.getElem?_mem hi
  exact ⟨hm, good_of_word h1⟩
theorem goodIn_app {big a b : List Cond} (ha : GoodIn big a) (hb : GoodIn big b) : GoodIn big (a ++ b) := fun w h => (List.mem_append.mp h).elim (ha w) (hb w)
theorem goodIn_ca {big a b : List Cond} {c : Cond} (ha : GoodIn big (c :: a)) (hb : GoodIn big b) : GoodIn big (c :: (a ++ b)) := fun w h => (List.mem_cons.mp h).elim (fun e => ha w (List.mem_cons.mpr (Or.inl e))) (fun h => (List.mem_append.mp h).elim (fun h => ha w (List.mem_cons.mpr (Or.inr h))) (hb w))
theorem goodIn_sub {big ws : List Cond} (hm : ∀ w ∈ ws, w ∈ big) (h : ws.all goodWord = true) : GoodIn big ws := fun w hw => ⟨hm w hw, good_of_word (List.all_eq_true.mp h w hw)⟩
/-! ===== END ===== -/

/-! ===== BEGIN printed: names, fields, word lists, decode rows ===== -/
def RX0 : String := "NearEnough$Changes"
def TX0 : u_T := fun k => match k with
  | 0 => ("NearEnough$Changes", "stepOf", "[I", true)
  | 1 => ("NearEnough$Changes", "kindOf", "[I", true)
  | 2 => ("NearEnough$Changes", "nOf", "[I", true)
  | 3 => ("NearEnough$Changes", "savesOf", "[I", true)
  | 4 => ("NearEnough$Changes", "taken", "[I", true)
  | 5 => ("NearEnough$Changes", "count", "I", false)
  | _ => ("NearEnough$Changes", "bits", "I", false)
def tyX0 : Nat → FieldType := fun k => match k with
  | 0 => .array .int
  | 1 => .array .int
  | 2 => .array .int
  | 3 => .array .int
  | 4 => .array .int
  | 5 => .int
  | _ => .int
abbrev wsX00 : List Cond := u_ws RX0 TX0 7
theorem nmX0 : ∀ a, a < 7 → ∀ b, b < 7 → a ≠ b → (TX0 a).2.1 ≠ (TX0 b).2.1 := by decide +kernel
theorem tyX0_ok : ∀ k, k < 7 → parseFieldDescriptor (TX0 k).2.2.1 = some (tyX0 k) := by decide +kernel
abbrev cX0_init : ByteArray := prog_2_method_1_code
def yX0_init : MethodName := ⟨RX0, "<init>", "()V"⟩
abbrev cX0_clear : ByteArray := prog_2_method_2_code
def yX0_clear : MethodName := ⟨RX0, "clear", "()V"⟩
abbrev cX0_fits : ByteArray := prog_2_method_3_code
def yX0_fits : MethodName := ⟨RX0, "fits", "(III)Z"⟩
abbrev cX0_add : ByteArray := prog_2_method_4_code
def yX0_add : MethodName := ⟨RX0, "add", "(IIII)I"⟩
abbrev cX0_take : ByteArray := prog_2_method_5_code
def yX0_take : MethodName := ⟨RX0, "take", "(I)Z"⟩
abbrev cX0_advance : ByteArray := prog_2_method_6_code
def yX0_advance : MethodName := ⟨RX0, "advance", "(I)I"⟩
abbrev cX0_nextOf : ByteArray := prog_2_method_7_code
def yX0_nextOf : MethodName := ⟨RX0, "nextOf", "(II)I"⟩
abbrev cX0_kindAt : ByteArray := prog_2_method_8_code
def yX0_kindAt : MethodName := ⟨RX0, "kindAt", "(I)I"⟩
abbrev cX0_nAt : ByteArray := prog_2_method_9_code
def yX0_nAt : MethodName := ⟨RX0, "nAt", "(I)I"⟩
abbrev cX0_savedBy : ByteArray := prog_2_method_10_code
def yX0_savedBy : MethodName := ⟨RX0, "savedBy", "(I)I"⟩
abbrev cX0_takes : ByteArray := prog_2_method_11_code
def yX0_takes : MethodName := ⟨RX0, "takes", "(II)I"⟩
def RX1 : String := "NearEnough$Front"
def TX1 : u_T := fun k => match k with
  | 0 => ("NearEnough$Front", "told", "LNearEnough$Program;", true)
  | 1 => ("NearEnough$Front", "changes", "LNearEnough$Changes;", true)
  | 2 => ("NearEnough$Front", "shown", "LNearEnough$Shown;", true)
  | 3 => ("NearEnough$Front", "itsEnd", "I", false)
  | 4 => ("NearEnough$Front", "offs", "[J", true)
  | 5 => ("NearEnough$Front", "saves", "[I", true)
  | _ => ("NearEnough$Front", "count", "I", false)
def tyX1 : Nat → FieldType := fun k => match k with
  | 0 => .object "NearEnough$Program"
  | 1 => .object "NearEnough$Changes"
  | 2 => .object "NearEnough$Shown"
  | 3 => .int
  | 4 => .array .long
  | 5 => .array .int
  | _ => .int
abbrev wsX10 : List Cond := u_ws RX1 TX1 7
theorem nmX1 : ∀ a, a < 7 → ∀ b, b < 7 → a ≠ b → (TX1 a).2.1 ≠ (TX1 b).2.1 := by decide +kernel
theorem tyX1_ok : ∀ k, k < 7 → parseFieldDescriptor (TX1 k).2.2.1 = some (tyX1 k) := by decide +kernel
abbrev cX1_init : ByteArray := prog_3_method_1_code
def yX1_init : MethodName := ⟨RX1, "<init>", "(LNearEnough$Program;LNearEnough$Changes;LNearEnough$Shown;)V"⟩
abbrev cX1_forget : ByteArray := prog_3_method_2_code
def yX1_forget : MethodName := ⟨RX1, "forget", "()V"⟩
abbrev cX1_gather : ByteArray := prog_3_method_3_code
def yX1_gather : MethodName := ⟨RX1, "gather", "(I)V"⟩
abbrev cX1_bring : ByteArray := prog_3_method_4_code
def yX1_bring : MethodName := ⟨RX1, "bring", "(JI)V"⟩
abbrev cX1_countNotFarther : ByteArray := prog_3_method_5_code
def yX1_countNotFarther : MethodName := ⟨RX1, "countNotFarther", "(J)I"⟩
def RX2 : String := "NearEnough$Plan"
def TX2 : u_T := fun k => match k with
  | 0 => ("NearEnough$Plan", "told", "LNearEnough$Program;", true)
  | 1 => ("NearEnough$Plan", "sheets", "LNearEnough$Sheets;", true)
  | 2 => ("NearEnough$Plan", "changes", "LNearEnough$Changes;", true)
  | 3 => ("NearEnough$Plan", "shown", "LNearEnough$Shown;", true)
  | 4 => ("NearEnough$Plan", "worker", "LNearEnough$Worker;", true)
  | 5 => ("NearEnough$Plan", "itsEnd", "I", false)
  | 6 => ("NearEnough$Plan", "choices", "[I", true)
  | _ => ("NearEnough$Plan", "saves", "[I", true)
def tyX2 : Nat → FieldType := fun k => match k with
  | 0 => .object "NearEnough$Program"
  | 1 => .object "NearEnough$Sheets"
  | 2 => .object "NearEnough$Changes"
  | 3 => .object "NearEnough$Shown"
  | 4 => .object "NearEnough$Worker"
  | 5 => .int
  | 6 => .array .int
  | _ => .array .int
abbrev wsX20 : List Cond := u_ws RX2 TX2 8
theorem nmX2 : ∀ a, a < 8 → ∀ b, b < 8 → a ≠ b → (TX2 a).2.1 ≠ (TX2 b).2.1 := by decide +kernel
theorem tyX2_ok : ∀ k, k < 8 → parseFieldDescriptor (TX2 k).2.2.1 = some (tyX2 k) := by decide +kernel
abbrev cX2_init : ByteArray := prog_4_method_1_code
def yX2_init : MethodName := ⟨RX2, "<init>", "(LNearEnough$Program;LNearEnough$Sheets;LNearEnough$Changes;LNearEnough$Shown;LNearEnough$Worker;)V"⟩
abbrev cX2_forget : ByteArray := prog_4_method_2_code
def yX2_forget : MethodName := ⟨RX2, "forget", "()V"⟩
abbrev cX2_prepare : ByteArray := prog_4_method_3_code
def yX2_prepare : MethodName := ⟨RX2, "prepare", "(I)V"⟩
abbrev cX2_bringChoice : ByteArray := prog_4_method_4_code
def yX2_bringChoice : MethodName := ⟨RX2, "bringChoice", "(I)V"⟩
abbrev cX2_addUp : ByteArray := prog_4_method_5_code
def yX2_addUp : MethodName := ⟨RX2, "addUp", "(I)V"⟩
abbrev cX2_savesFor : ByteArray := prog_4_method_6_code
def yX2_savesFor : MethodName := ⟨RX2, "savesFor", "(I)I"⟩
abbrev cX2_choiceFor : ByteArray := prog_4_method_7_code
def yX2_choiceFor : MethodName := ⟨RX2, "choiceFor", "(II)I"⟩
abbrev cX2_wrongOfLeast : ByteArray := prog_4_method_8_code
def yX2_wrongOfLeast : MethodName := ⟨RX2, "wrongOfLeast", "(II)I"⟩
abbrev cX2_choiceIn : ByteArray := prog_4_method_9_code
def yX2_choiceIn : MethodName := ⟨RX2, "choiceIn", "(I)I"⟩
def RX3 : String := "NearEnough$Program"
def TX3 : u_T := fun k => match k with
  | 0 => ("NearEnough$Program", "rows", "[LNearEnough$Row;", true)
  | 1 => ("NearEnough$Program", "steps", "[LNearEnough$Step;", true)
  | 2 => ("NearEnough$Program", "endStep", "[I", true)
  | 3 => ("NearEnough$Program", "endOff", "[I", true)
  | 4 => ("NearEnough$Program", "endKind", "[I", true)
  | 5 => ("NearEnough$Program", "rowCount", "I", false)
  | 6 => ("NearEnough$Program", "stepCount", "I", false)
  | _ => ("NearEnough$Program", "endCount", "I", false)
def tyX3 : Nat → FieldType := fun k => match k with
  | 0 => .array (.object "NearEnough$Row")
  | 1 => .array (.object "NearEnough$Step")
  | 2 => .array .int
  | 3 => .array .int
  | 4 => .array .int
  | 5 => .int
  | 6 => .int
  | _ => .int
abbrev wsX30 : List Cond := u_ws RX3 TX3 8
theorem nmX3 : ∀ a, a < 8 → ∀ b, b < 8 → a ≠ b → (TX3 a).2.1 ≠ (TX3 b).2.1 := by decide +kernel
theorem tyX3_ok : ∀ k, k < 8 → parseFieldDescriptor (TX3 k).2.2.1 = some (tyX3 k) := by decide +kernel
abbrev cX3_init : ByteArray := prog_5_method_1_code
def yX3_init : MethodName := ⟨RX3, "<init>", "()V"⟩
abbrev cX3_become : ByteArray := prog_5_method_2_code
def yX3_become : MethodName := ⟨RX3, "become", "(LNearEnough$Program;)V"⟩
abbrev cX3_hasStep : ByteArray := prog_5_method_3_code
def yX3_hasStep : MethodName := ⟨RX3, "hasStep", "(I)Z"⟩
abbrev cX3_hasEnd : ByteArray := prog_5_method_4_code
def yX3_hasEnd : MethodName := ⟨RX3, "hasEnd", "(I)Z"⟩
abbrev cX3_hasEndOf : ByteArray := prog_5_method_5_code
def yX3_hasEndOf : MethodName := ⟨RX3, "hasEndOf", "(I)Z"⟩
abbrev cX3_placeCount : ByteArray := prog_5_method_6_code
def yX3_placeCount : MethodName := ⟨RX3, "placeCount", "()I"⟩
abbrev cX3_rowNamed : ByteArray := prog_5_method_7_code
def yX3_rowNamed : MethodName := ⟨RX3, "rowNamed", "(J)LNearEnough$Row;"⟩
abbrev cX3_stepNamed : ByteArray := prog_5_method_8_code
def yX3_stepNamed : MethodName := ⟨RX3, "stepNamed", "(J)I"⟩
abbrev cX3_addRow : ByteArray := prog_5_method_9_code
def yX3_addRow : MethodName := ⟨RX3, "addRow", "(JIII)V"⟩
abbrev cX3_addStep : ByteArray := prog_5_method_10_code
def yX3_addStep : MethodName := ⟨RX3, "addStep", "(LNearEnough$Step;)V"⟩
abbrev cX3_addEnd : ByteArray := prog_5_method_11_code
def yX3_addEnd : MethodName := ⟨RX3, "addEnd", "(III)V"⟩
def RX4 : String := "NearEnough$Reader"
def TX4 : u_T := fun k => match k with
  | 0 => ("NearEnough$Reader", "scanner", "LNearEnough$Scanner;", true)
  | 1 => ("NearEnough$Reader", "told", "LNearEnough$Program;", true)
  | 2 => ("NearEnough$Reader", "fault", "I", false)
  | _ => ("NearEnough$Reader", "faultPlace", "I", false)
def tyX4 : Nat → FieldType := fun k => match k with
  | 0 => .object "NearEnough$Scanner"
  | 1 => .object "NearEnough$Program"
  | 2 => .int
  | _ => .int
abbrev wsX40 : List Cond := u_ws RX4 TX4 4
theorem nmX4 : ∀ a, a < 4 → ∀ b, b < 4 → a ≠ b → (TX4 a).2.1 ≠ (TX4 b).2.1 := by decide +kernel
theorem tyX4_ok : ∀ k, k < 4 → parseFieldDescriptor (TX4 k).2.2.1 = some (tyX4 k) := by decide +kernel
abbrev cX4_init : ByteArray := prog_6_method_1_code
def yX4_init : MethodName := ⟨RX4, "<init>", "([BI)V"⟩
abbrev cX4_readAll : ByteArray := prog_6_method_2_code
def yX4_readAll : MethodName := ⟨RX4, "readAll", "()V"⟩
abbrev cX4_refuse : ByteArray := prog_6_method_3_code
def yX4_refuse : MethodName := ⟨RX4, "refuse", "(II)V"⟩
abbrev cX4_expects : ByteArray := prog_6_method_4_code
def yX4_expects : MethodName := ⟨RX4, "expects", "(I)Z"⟩
abbrev cX4_pass : ByteArray := prog_6_method_5_code
def yX4_pass : MethodName := ⟨RX4, "pass", "(Z)V"⟩
abbrev cX4_needWord : ByteArray := prog_6_method_6_code
def yX4_needWord : MethodName := ⟨RX4, "needWord", "(Ljava/lang/String;)V"⟩
abbrev cX4_needSemicolon : ByteArray := prog_6_method_7_code
def yX4_needSemicolon : MethodName := ⟨RX4, "needSemicolon", "()V"⟩
abbrev cX4_needNumber : ByteArray := prog_6_method_8_code
def yX4_needNumber : MethodName := ⟨RX4, "needNumber", "(IIZ)I"⟩
abbrev cX4_expectsName : ByteArray := prog_6_method_9_code
def yX4_expectsName : MethodName := ⟨RX4, "expectsName", "()Z"⟩
abbrev cX4_needNewName : ByteArray := prog_6_method_10_code
def yX4_needNewName : MethodName := ⟨RX4, "needNewName", "()J"⟩
abbrev cX4_needRow : ByteArray := prog_6_method_11_code
def yX4_needRow : MethodName := ⟨RX4, "needRow", "()LNearEnough$Row;"⟩
abbrev cX4_needStep : ByteArray := prog_6_method_12_code
def yX4_needStep : MethodName := ⟨RX4, "needStep", "()I"⟩
abbrev cX4_readRow : ByteArray := prog_6_method_13_code
def yX4_readRow : MethodName := ⟨RX4, "readRow", "()V"⟩
abbrev cX4_readEnd : ByteArray := prog_6_method_14_code
def yX4_readEnd : MethodName := ⟨RX4, "readEnd", "()V"⟩
abbrev cX4_needEndKind : ByteArray := prog_6_method_15_code
def yX4_needEndKind : MethodName := ⟨RX4, "needEndKind", "()I"⟩
abbrev cX4_readStep : ByteArray := prog_6_method_16_code
def yX4_readStep : MethodName := ⟨RX4, "readStep", "()V"⟩
abbrev cX4_stepKind : ByteArray := prog_6_method_17_code
def yX4_stepKind : MethodName := ⟨RX4, "stepKind", "()I"⟩
abbrev cX4_readParts : ByteArray := prog_6_method_18_code
def yX4_readParts : MethodName := ⟨RX4, "readParts", "(LNearEnough$Step;)V"⟩
abbrev cX4_makeSpan : ByteArray := prog_6_method_19_code
def yX4_makeSpan : MethodName := ⟨RX4, "makeSpan", "(LNearEnough$Step;)V"⟩
def RX5 : String := "NearEnough$Row"
def TX5 : u_T := fun k => match k with
  | 0 => ("NearEnough$Row", "name", "J", true)
  | 1 => ("NearEnough$Row", "count", "I", true)
  | 2 => ("NearEnough$Row", "low", "I", true)
  | 3 => ("NearEnough$Row", "high", "I", true)
  | _ => ("NearEnough$Row", "first", "I", true)
def tyX5 : Nat → FieldType := fun k => match k with
  | 0 => .long
  | 1 => .int
  | 2 => .int
  | 3 => .int
  | _ => .int
abbrev wsX50 : List Cond := u_ws RX5 TX5 5
theorem nmX5 : ∀ a, a < 5 → ∀ b, b < 5 → a ≠ b → (TX5 a).2.1 ≠ (TX5 b).2.1 := by decide +kernel
theorem tyX5_ok : ∀ k, k < 5 → parseFieldDescriptor (TX5 k).2.2.1 = some (tyX5 k) := by decide +kernel
abbrev cX5_init : ByteArray := prog_7_method_1_code
def yX5_init : MethodName := ⟨RX5, "<init>", "(JIIII)V"⟩
def RX6 : String := "NearEnough$Scanner"
def TX6 : u_T := fun k => match k with
  | 0 => ("NearEnough$Scanner", "text", "[B", true)
  | 1 => ("NearEnough$Scanner", "length", "I", true)
  | 2 => ("NearEnough$Scanner", "next", "I", false)
  | 3 => ("NearEnough$Scanner", "kind", "I", false)
  | 4 => ("NearEnough$Scanner", "place", "I", false)
  | 5 => ("NearEnough$Scanner", "word", "J", false)
  | _ => ("NearEnough$Scanner", "number", "I", false)
def tyX6 : Nat → FieldType := fun k => match k with
  | 0 => .array .byte
  | 1 => .int
  | 2 => .int
  | 3 => .int
  | 4 => .int
  | 5 => .long
  | _ => .int
abbrev wsX60 : List Cond := u_ws RX6 TX6 7
theorem nmX6 : ∀ a, a < 7 → ∀ b, b < 7 → a ≠ b → (TX6 a).2.1 ≠ (TX6 b).2.1 := by decide +kernel
theorem tyX6_ok : ∀ k, k < 7 → parseFieldDescriptor (TX6 k).2.2.1 = some (tyX6 k) := by decide +kernel
abbrev cX6_init : ByteArray := prog_8_method_1_code
def yX6_init : MethodName := ⟨RX6, "<init>", "([BI)V"⟩
abbrev cX6_advance : ByteArray := prog_8_method_2_code
def yX6_advance : MethodName := ⟨RX6, "advance", "()V"⟩
abbrev cX6_scanWord : ByteArray := prog_8_method_3_code
def yX6_scanWord : MethodName := ⟨RX6, "scanWord", "()V"⟩
abbrev cX6_scanNumber : ByteArray := prog_8_method_4_code
def yX6_scanNumber : MethodName := ⟨RX6, "scanNumber", "()V"⟩
abbrev cX6_scanSign : ByteArray := prog_8_method_5_code
def yX6_scanSign : MethodName := ⟨RX6, "scanSign", "()V"⟩
abbrev cX6_isOneOf : ByteArray := prog_8_method_6_code
def yX6_isOneOf : MethodName := ⟨RX6, "isOneOf", "(Ljava/lang/String;)Z"⟩
def RX7 : String := "NearEnough$Sheets"
def TX7 : u_T := fun k => match k with
  | 0 => ("NearEnough$Sheets", "numbers", "[I", true)
  | 1 => ("NearEnough$Sheets", "kept", "[Z", true)
  | _ => ("NearEnough$Sheets", "count", "I", false)
def tyX7 : Nat → FieldType := fun k => match k with
  | 0 => .array .int
  | 1 => .array .boolean
  | _ => .int
abbrev wsX70 : List Cond := u_ws RX7 TX7 3
theorem nmX7 : ∀ a, a < 3 → ∀ b, b < 3 → a ≠ b → (TX7 a).2.1 ≠ (TX7 b).2.1 := by decide +kernel
theorem tyX7_ok : ∀ k, k < 3 → parseFieldDescriptor (TX7 k).2.2.1 = some (tyX7 k) := by decide +kernel
abbrev cX7_init : ByteArray := prog_9_method_1_code
def yX7_init : MethodName := ⟨RX7, "<init>", "()V"⟩
abbrev cX7_has : ByteArray := prog_9_method_2_code
def yX7_has : MethodName := ⟨RX7, "has", "(I)Z"⟩
abbrev cX7_lay : ByteArray := prog_9_method_3_code
def yX7_lay : MethodName := ⟨RX7, "lay", "(IILNearEnough$Program;)V"⟩
def RX8 : String := "NearEnough$Shown"
def TX8 : u_T := fun k => match k with
  | 0 => ("NearEnough$Shown", "told", "LNearEnough$Program;", true)
  | 1 => ("NearEnough$Shown", "changes", "LNearEnough$Changes;", true)
  | 2 => ("NearEnough$Shown", "low", "[J", true)
  | 3 => ("NearEnough$Shown", "high", "[J", true)
  | 4 => ("NearEnough$Shown", "least", "J", false)
  | 5 => ("NearEnough$Shown", "greatest", "J", false)
  | 6 => ("NearEnough$Shown", "walking", "Z", false)
  | 7 => ("NearEnough$Shown", "last", "I", false)
  | _ => ("NearEnough$Shown", "stale", "I", false)
def tyX8 : Nat → FieldType := fun k => match k with
  | 0 => .object "NearEnough$Program"
  | 1 => .object "NearEnough$Changes"
  | 2 => .array .long
  | 3 => .array .long
  | 4 => .long
  | 5 => .long
  | 6 => .boolean
  | 7 => .int
  | _ => .int
abbrev wsX80 : List Cond := u_ws RX8 TX8 9
theorem nmX8 : ∀ a, a < 9 → ∀ b, b < 9 → a ≠ b → (TX8 a).2.1 ≠ (TX8 b).2.1 := by decide +kernel
theorem tyX8_ok : ∀ k, k < 9 → parseFieldDescriptor (TX8 k).2.2.1 = some (tyX8 k) := by decide +kernel
abbrev cX8_init : ByteArray := prog_10_method_1_code
def yX8_init : MethodName := ⟨RX8, "<init>", "(LNearEnough$Program;LNearEnough$Changes;)V"⟩
abbrev cX8_restart : ByteArray := prog_10_method_2_code
def yX8_restart : MethodName := ⟨RX8, "restart", "()V"⟩
abbrev cX8_next : ByteArray := prog_10_method_3_code
def yX8_next : MethodName := ⟨RX8, "next", "()Z"⟩
abbrev cX8_show : ByteArray := prog_10_method_4_code
def yX8_show : MethodName := ⟨RX8, "show", "(I)I"⟩
abbrev cX8_farOff : ByteArray := prog_10_method_5_code
def yX8_farOff : MethodName := ⟨RX8, "farOff", "(I)J"⟩
abbrev cX8_errs : ByteArray := prog_10_method_6_code
def yX8_errs : MethodName := ⟨RX8, "errs", "(I)Z"⟩
abbrev cX8_set : ByteArray := prog_10_method_7_code
def yX8_set : MethodName := ⟨RX8, "set", "(JJ)V"⟩
abbrev cX8_showFromSteps : ByteArray := prog_10_method_8_code
def yX8_showFromSteps : MethodName := ⟨RX8, "showFromSteps", "(LNearEnough$Step;)V"⟩
abbrev cX8_showTimes : ByteArray := prog_10_method_9_code
def yX8_showTimes : MethodName := ⟨RX8, "showTimes", "(II)V"⟩
abbrev cX8_showScale : ByteArray := prog_10_method_10_code
def yX8_showScale : MethodName := ⟨RX8, "showScale", "(LNearEnough$Step;)V"⟩
abbrev cX8_showPick : ByteArray := prog_10_method_11_code
def yX8_showPick : MethodName := ⟨RX8, "showPick", "(LNearEnough$Step;)V"⟩
abbrev cX8_widenByTaking : ByteArray := prog_10_method_12_code
def yX8_widenByTaking : MethodName := ⟨RX8, "widenByTaking", "(II)V"⟩
abbrev cX8_showChange : ByteArray := prog_10_method_13_code
def yX8_showChange : MethodName := ⟨RX8, "showChange", "(LNearEnough$Step;II)V"⟩
abbrev cX8_showRowChange : ByteArray := prog_10_method_14_code
def yX8_showRowChange : MethodName := ⟨RX8, "showRowChange", "(LNearEnough$Step;LNearEnough$Row;II)V"⟩
abbrev cX8_leastProduct : ByteArray := prog_10_method_15_code
def yX8_leastProduct : MethodName := ⟨RX8, "leastProduct", "(JJJJ)J"⟩
abbrev cX8_greatestProduct : ByteArray := prog_10_method_16_code
def yX8_greatestProduct : MethodName := ⟨RX8, "greatestProduct", "(JJJJ)J"⟩
def RX9 : String := "NearEnough$Step"
def TX9 : u_T := fun k => match k with
  | 0 => ("NearEnough$Step", "kind", "I", true)
  | 1 => ("NearEnough$Step", "name", "J", true)
  | 2 => ("NearEnough$Step", "row", "LNearEnough$Row;", false)
  | 3 => ("NearEnough$Step", "a", "I", false)
  | 4 => ("NearEnough$Step", "b", "I", false)
  | 5 => ("NearEnough$Step", "under", "I", false)
  | 6 => ("NearEnough$Step", "other", "I", false)
  | 7 => ("NearEnough$Step", "by", "I", false)
  | 8 => ("NearEnough$Step", "over", "I", false)
  | 9 => ("NearEnough$Step", "low", "J", false)
  | _ => ("NearEnough$Step", "high", "J", false)
def tyX9 : Nat → FieldType := fun k => match k with
  | 0 => .int
  | 1 => .long
  | 2 => .object "NearEnough$Row"
  | 3 => .int
  | 4 => .int
  | 5 => .int
  | 6 => .int
  | 7 => .int
  | 8 => .int
  | 9 => .long
  | _ => .long
abbrev wsX90 : List Cond := u_ws RX9 TX9 11
theorem nmX9 : ∀ a, a < 11 → ∀ b, b < 11 → a ≠ b → (TX9 a).2.1 ≠ (TX9 b).2.1 := by decide +kernel
theorem tyX9_ok : ∀ k, k < 11 → parseFieldDescriptor (TX9 k).2.2.1 = some (tyX9 k) := by decide +kernel
abbrev cX9_init : ByteArray := prog_11_method_1_code
def yX9_init : MethodName := ⟨RX9, "<init>", "(IJ)V"⟩
abbrev cX9_spread : ByteArray := prog_11_method_2_code
def yX9_spread : MethodName := ⟨RX9, "spread", "(JJ)V"⟩
abbrev cX9_middle : ByteArray := prog_11_method_3_code
def yX9_middle : MethodName := ⟨RX9, "middle", "()J"⟩
abbrev cX9_scaled : ByteArray := prog_11_method_4_code
def yX9_scaled : MethodName := ⟨RX9, "scaled", "(J)J"⟩
def RX10 : String := "NearEnough$Worker"
def TX10 : u_T := fun k => match k with
  | 0 => ("NearEnough$Worker", "told", "LNearEnough$Program;", true)
  | 1 => ("NearEnough$Worker", "sheets", "LNearEnough$Sheets;", true)
  | 2 => ("NearEnough$Worker", "changes", "LNearEnough$Changes;", true)
  | 3 => ("NearEnough$Worker", "plain", "[J", true)
  | _ => ("NearEnough$Worker", "changed", "[J", true)
def tyX10 : Nat → FieldType := fun k => match k with
  | 0 => .object "NearEnough$Program"
  | 1 => .object "NearEnough$Sheets"
  | 2 => .object "NearEnough$Changes"
  | 3 => .array .long
  | _ => .array .long
abbrev wsX100 : List Cond := u_ws RX10 TX10 5
theorem nmX10 : ∀ a, a < 5 → ∀ b, b < 5 → a ≠ b → (TX10 a).2.1 ≠ (TX10 b).2.1 := by decide +kernel
theorem tyX10_ok : ∀ k, k < 5 → parseFieldDescriptor (TX10 k).2.2.1 = some (tyX10 k) := by decide +kernel
abbrev cX10_init : ByteArray := prog_12_method_1_code
def yX10_init : MethodName := ⟨RX10, "<init>", "(LNearEnough$Program;LNearEnough$Sheets;LNearEnough$Changes;)V"⟩
abbrev cX10_workPlain : ByteArray := prog_12_method_2_code
def yX10_workPlain : MethodName := ⟨RX10, "workPlain", "(II)V"⟩
abbrev cX10_workChanged : ByteArray := prog_12_method_3_code
def yX10_workChanged : MethodName := ⟨RX10, "workChanged", "(III)V"⟩
abbrev cX10_errorAt : ByteArray := prog_12_method_4_code
def yX10_errorAt : MethodName := ⟨RX10, "errorAt", "(II)J"⟩
abbrev cX10_made : ByteArray := prog_12_method_5_code
def yX10_made : MethodName := ⟨RX10, "made", "([JILNearEnough$Step;II)J"⟩
abbrev cX10_sourceOf : ByteArray := prog_12_method_6_code
def yX10_sourceOf : MethodName := ⟨RX10, "sourceOf", "(II)I"⟩
abbrev cX10_fromPlace : ByteArray := prog_12_method_7_code
def yX10_fromPlace : MethodName := ⟨RX10, "fromPlace", "(LNearEnough$Step;JIII)J"⟩
abbrev cX10_fromRow : ByteArray := prog_12_method_8_code
def yX10_fromRow : MethodName := ⟨RX10, "fromRow", "(LNearEnough$Step;III)J"⟩
abbrev cX10_fromSteps : ByteArray := prog_12_method_9_code
def yX10_fromSteps : MethodName := ⟨RX10, "fromSteps", "([JILNearEnough$Step;II)J"⟩
def RX11 : String := "NearEnough"
def TX11 : u_T := fun k => match k with
  | 0 => ("NearEnough", "tape", "[B", true)
  | 1 => ("NearEnough", "bytes", "I", false)
  | 2 => ("NearEnough", "faultNumber", "I", false)
  | 3 => ("NearEnough", "faultPlace", "I", false)
  | 4 => ("NearEnough", "told", "LNearEnough$Program;", true)
  | 5 => ("NearEnough", "sheets", "LNearEnough$Sheets;", true)
  | 6 => ("NearEnough", "changes", "LNearEnough$Changes;", true)
  | 7 => ("NearEnough", "shown", "LNearEnough$Shown;", true)
  | 8 => ("NearEnough", "worker", "LNearEnough$Worker;", true)
  | 9 => ("NearEnough", "guardEnd", "[I", true)
  | 10 => ("NearEnough", "guardStep", "[I", true)
  | 11 => ("NearEnough", "guardWithin", "[I", true)
  | 12 => ("NearEnough", "guards", "I", false)
  | 13 => ("NearEnough", "left", "I", false)
  | 14 => ("NearEnough", "tally", "[J", true)
  | 15 => ("NearEnough", "edge", "LNearEnough$Front;", false)
  | _ => ("NearEnough", "planner", "LNearEnough$Plan;", false)
def tyX11 : Nat → FieldType := fun k => match k with
  | 0 => .array .byte
  | 1 => .int
  | 2 => .int
  | 3 => .int
  | 4 => .object "NearEnough$Program"
  | 5 => .object "NearEnough$Sheets"
  | 6 => .object "NearEnough$Changes"
  | 7 => .object "NearEnough$Shown"
  | 8 => .object "NearEnough$Worker"
  | 9 => .array .int
  | 10 => .array .int
  | 11 => .array .int
  | 12 => .int
  | 13 => .int
  | 14 => .array .long
  | 15 => .object "NearEnough$Front"
  | _ => .object "NearEnough$Plan"
abbrev wsX110 : List Cond := u_ws RX11 TX11 17
theorem nmX11 : ∀ a, a < 17 → ∀ b, b < 17 → a ≠ b → (TX11 a).2.1 ≠ (TX11 b).2.1 := by decide +kernel
theorem tyX11_ok : ∀ k, k < 17 → parseFieldDescriptor (TX11 k).2.2.1 = some (tyX11 k) := by decide +kernel
abbrev cX11_init : ByteArray := prog_1_method_1_code
def yX11_init : MethodName := ⟨RX11, "<init>", "()V"⟩
abbrev cX11_feed : ByteArray := prog_1_method_2_code
def yX11_feed : MethodName := ⟨RX11, "feed", "(IIIII)I"⟩
abbrev cX11_append : ByteArray := prog_1_method_3_code
def yX11_append : MethodName := ⟨RX11, "append", "(I)V"⟩
abbrev cX11_end : ByteArray := prog_1_method_4_code
def yX11_end : MethodName := ⟨RX11, "end", "(I)I"⟩
abbrev cX11_program : ByteArray := prog_1_method_5_code
def yX11_program : MethodName := ⟨RX11, "program", "()I"⟩
abbrev cX11_forgetFront : ByteArray := prog_1_method_6_code
def yX11_forgetFront : MethodName := ⟨RX11, "forgetFront", "()V"⟩
abbrev cX11_forgetPlan : ByteArray := prog_1_method_7_code
def yX11_forgetPlan : MethodName := ⟨RX11, "forgetPlan", "()V"⟩
abbrev cX11_fault : ByteArray := prog_1_method_8_code
def yX11_fault : MethodName := ⟨RX11, "fault", "(I)I"⟩
abbrev cX11_span : ByteArray := prog_1_method_9_code
def yX11_span : MethodName := ⟨RX11, "span", "(IZ)I"⟩
abbrev cX11_sheet : ByteArray := prog_1_method_10_code
def yX11_sheet : MethodName := ⟨RX11, "sheet", "(Z)I"⟩
abbrev cX11_put : ByteArray := prog_1_method_11_code
def yX11_put : MethodName := ⟨RX11, "put", "(IIII)Z"⟩
abbrev cX11_change : ByteArray := prog_1_method_12_code
def yX11_change : MethodName := ⟨RX11, "change", "(IIII)I"⟩
abbrev cX11_stands : ByteArray := prog_1_method_13_code
def yX11_stands : MethodName := ⟨RX11, "stands", "(I)Z"⟩
abbrev cX11_lastStep : ByteArray := prog_1_method_14_code
def yX11_lastStep : MethodName := ⟨RX11, "lastStep", "()I"⟩
abbrev cX11_value : ByteArray := prog_1_method_15_code
def yX11_value : MethodName := ⟨RX11, "value", "(III)J"⟩
abbrev cX11_error : ByteArray := prog_1_method_16_code
def yX11_error : MethodName := ⟨RX11, "error", "(IIZ)J"⟩
abbrev cX11_off : ByteArray := prog_1_method_17_code
def yX11_off : MethodName := ⟨RX11, "off", "(II)J"⟩
abbrev cX11_barred : ByteArray := prog_1_method_18_code
def yX11_barred : MethodName := ⟨RX11, "barred", "(I)I"⟩
abbrev cX11_errorOn : ByteArray := prog_1_method_19_code
def yX11_errorOn : MethodName := ⟨RX11, "errorOn", "(II)J"⟩
abbrev cX11_greatestWrong : ByteArray := prog_1_method_20_code
def yX11_greatestWrong : MethodName := ⟨RX11, "greatestWrong", "(I)J"⟩
abbrev cX11_measured : ByteArray := prog_1_method_21_code
def yX11_measured : MethodName := ⟨RX11, "measured", "(II)J"⟩
abbrev cX11_passed : ByteArray := prog_1_method_22_code
def yX11_passed : MethodName := ⟨RX11, "passed", "(II)I"⟩
abbrev cX11_mean : ByteArray := prog_1_method_23_code
def yX11_mean : MethodName := ⟨RX11, "mean", "(III)J"⟩
abbrev cX11_greatestDivisor : ByteArray := prog_1_method_24_code
def yX11_greatestDivisor : MethodName := ⟨RX11, "greatestDivisor", "(JJ)J"⟩
abbrev cX11_saved : ByteArray := prog_1_method_25_code
def yX11_saved : MethodName := ⟨RX11, "saved", "(I)I"⟩
abbrev cX11_ticks : ByteArray := prog_1_method_26_code
def yX11_ticks : MethodName := ⟨RX11, "ticks", "(I)I"⟩
abbrev cX11_ticksOf : ByteArray := prog_1_method_27_code
def yX11_ticksOf : MethodName := ⟨RX11, "ticksOf", "(I)I"⟩
abbrev cX11_let : ByteArray := prog_1_method_28_code
def yX11_let : MethodName := ⟨RX11, "let", "(I)I"⟩
abbrev cX11_isLet : ByteArray := prog_1_method_29_code
def yX11_isLet : MethodName := ⟨RX11, "isLet", "()Z"⟩
abbrev cX11_isLetOnSheets : ByteArray := prog_1_method_30_code
def yX11_isLetOnSheets : MethodName := ⟨RX11, "isLetOnSheets", "()Z"⟩
abbrev cX11_counted : ByteArray := prog_1_method_31_code
def yX11_counted : MethodName := ⟨RX11, "counted", "(IJ)J"⟩
abbrev cX11_allowance : ByteArray := prog_1_method_32_code
def yX11_allowance : MethodName := ⟨RX11, "allowance", "(I)J"⟩
abbrev cX11_best : ByteArray := prog_1_method_33_code
def yX11_best : MethodName := ⟨RX11, "best", "()I"⟩
abbrev cX11_isBetter : ByteArray := prog_1_method_34_code
def yX11_isBetter : MethodName := ⟨RX11, "isBetter", "(IIII)Z"⟩
abbrev cX11_madeFront : ByteArray := prog_1_method_35_code
def yX11_madeFront : MethodName := ⟨RX11, "madeFront", "()LNearEnough$Front;"⟩
abbrev cX11_front : ByteArray := prog_1_method_36_code
def yX11_front : MethodName := ⟨RX11, "front", "(I)I"⟩
abbrev cX11_pair : ByteArray := prog_1_method_37_code
def yX11_pair : MethodName := ⟨RX11, "pair", "(III)J"⟩
abbrev cX11_guard : ByteArray := prog_1_method_38_code
def yX11_guard : MethodName := ⟨RX11, "guard", "(III)I"⟩
abbrev cX11_turnsBack : ByteArray := prog_1_method_39_code
def yX11_turnsBack : MethodName := ⟨RX11, "turnsBack", "(II)Z"⟩
abbrev cX11_through : ByteArray := prog_1_method_40_code
def yX11_through : MethodName := ⟨RX11, "through", "(II)I"⟩
abbrev cX11_turned : ByteArray := prog_1_method_41_code
def yX11_turned : MethodName := ⟨RX11, "turned", "(II)I"⟩
abbrev cX11_worst : ByteArray := prog_1_method_42_code
def yX11_worst : MethodName := ⟨RX11, "worst", "(III)J"⟩
abbrev cX11_errorByBits : ByteArray := prog_1_method_43_code
def yX11_errorByBits : MethodName := ⟨RX11, "errorByBits", "(II)J"⟩
abbrev cX11_led : ByteArray := prog_1_method_44_code
def yX11_led : MethodName := ⟨RX11, "led", "(IIII)J"⟩
abbrev cX11_purse : ByteArray := prog_1_method_45_code
def yX11_purse : MethodName := ⟨RX11, "purse", "(I)Z"⟩
abbrev cX11_day : ByteArray := prog_1_method_46_code
def yX11_day : MethodName := ⟨RX11, "day", "(III)I"⟩
abbrev cX11_madePlan : ByteArray := prog_1_method_47_code
def yX11_madePlan : MethodName := ⟨RX11, "madePlan", "()LNearEnough$Plan;"⟩
abbrev cX11_canPlan : ByteArray := prog_1_method_48_code
def yX11_canPlan : MethodName := ⟨RX11, "canPlan", "(II)Z"⟩
abbrev cX11_plan : ByteArray := prog_1_method_49_code
def yX11_plan : MethodName := ⟨RX11, "plan", "(II)I"⟩
abbrev cX11_planned : ByteArray := prog_1_method_50_code
def yX11_planned : MethodName := ⟨RX11, "planned", "(III)I"⟩
abbrev cX11_about : ByteArray := prog_1_method_51_code
def yX11_about : MethodName := ⟨RX11, "about", "(I)I"⟩
abbrev cX11_floored : ByteArray := prog_1_method_52_code
def yX11_floored : MethodName := ⟨RX11, "floored", "(JI)J"⟩
def RX12 : String := "NearEnoughModel"
def TX12 : u_T := fun k => match k with
  | 0 => ("NearEnoughModel", "tape", "[B", true)
  | 1 => ("NearEnoughModel", "text", "[B", true)
  | 2 => ("NearEnoughModel", "taped", "I", false)
  | 3 => ("NearEnoughModel", "size", "I", false)
  | 4 => ("NearEnoughModel", "faultKind", "I", false)
  | 5 => ("NearEnoughModel", "faultPlace", "I", false)
  | 6 => ("NearEnoughModel", "at", "I", false)
  | 7 => ("NearEnoughModel", "end", "I", false)
  | 8 => ("NearEnoughModel", "token", "I", false)
  | 9 => ("NearEnoughModel", "number", "I", false)
  | 10 => ("NearEnoughModel", "name", "J", false)
  | 11 => ("NearEnoughModel", "rowMany", "[I", true)
  | 12 => ("NearEnoughModel", "stepMany", "[I", true)
  | 13 => ("NearEnoughModel", "endMany", "[I", true)
  | 14 => ("NearEnoughModel", "rHas", "[I", true)
  | 15 => ("NearEnoughModel", "rLeast", "[I", true)
  | 16 => ("NearEnoughModel", "rMost", "[I", true)
  | 17 => ("NearEnoughModel", "sKind", "[I", true)
  | 18 => ("NearEnoughModel", "sA", "[I", true)
  | 19 => ("NearEnoughModel", "sB", "[I", true)
  | 20 => ("NearEnoughModel", "sC", "[I", true)
  | 21 => ("NearEnoughModel", "sD", "[I", true)
  | 22 => ("NearEnoughModel", "eStep", "[I", true)
  | 23 => ("NearEnoughModel", "eOff", "[I", true)
  | 24 => ("NearEnoughModel", "eHow", "[I", true)
  | 25 => ("NearEnoughModel", "rName", "[J", true)
  | 26 => ("NearEnoughModel", "sName", "[J", true)
  | 27 => ("NearEnoughModel", "sLeast", "[J", true)
  | 28 => ("NearEnoughModel", "sMost", "[J", true)
  | 29 => ("NearEnoughModel", "bank", "I", false)
  | 30 => ("NearEnoughModel", "rb", "I", false)
  | 31 => ("NearEnoughModel", "numbers", "[I", true)
  | 32 => ("NearEnoughModel", "corner", "[I", true)
  | 33 => ("NearEnoughModel", "cStep", "[I", true)
  | 34 => ("NearEnoughModel", "cKind", "[I", true)
  | 35 => ("NearEnoughModel", "cN", "[I", true)
  | 36 => ("NearEnoughModel", "cSaves", "[I", true)
  | 37 => ("NearEnoughModel", "on", "[I", true)
  | 38 => ("NearEnoughModel", "isKeptBack", "[Z", true)
  | 39 => ("NearEnoughModel", "sheets", "I", false)
  | 40 => ("NearEnoughModel", "changes", "I", false)
  | 41 => ("NearEnoughModel", "came", "[J", true)
  | 42 => ("NearEnoughModel", "plain", "[J", true)
  | 43 => ("NearEnoughModel", "low", "[J", true)
  | 44 => ("NearEnoughModel", "high0", "[J", true)
  | 45 => ("NearEnoughModel", "spanLow", "J", false)
  | 46 => ("NearEnoughModel", "spanHigh", "J", false)
  | 47 => ("NearEnoughModel", "offs", "[J", true)
  | 48 => ("NearEnoughModel", "pairOff", "J", false)
  | 49 => ("NearEnoughModel", "pairSaved", "I", false)
  | 50 => ("NearEnoughModel", "gEnd", "[I", true)
  | 51 => ("NearEnoughModel", "gStep", "[I", true)
  | 52 => ("NearEnoughModel", "gWithin", "[I", true)
  | 53 => ("NearEnoughModel", "guards", "I", false)
  | 54 => ("NearEnoughModel", "mostSaved", "[I", true)
  | 55 => ("NearEnoughModel", "picked", "[I", true)
  | 56 => ("NearEnoughModel", "fars", "[I", true)
  | 57 => ("NearEnoughModel", "savedAll", "[I", true)
  | _ => ("NearEnoughModel", "purse", "I", false)
def tyX12 : Nat → FieldType := fun k => match k with
  | 0 => .array .byte
  | 1 => .array .byte
  | 2 => .int
  | 3 => .int
  | 4 => .int
  | 5 => .int
  | 6 => .int
  | 7 => .int
  | 8 => .int
  | 9 => .int
  | 10 => .long
  | 11 => .array .int
  | 12 => .array .int
  | 13 => .array .int
  | 14 => .array .int
  | 15 => .array .int
  | 16 => .array .int
  | 17 => .array .int
  | 18 => .array .int
  | 19 => .array .int
  | 20 => .array .int
  | 21 => .array .int
  | 22 => .array .int
  | 23 => .array .int
  | 24 => .array .int
  | 25 => .array .long
  | 26 => .array .long
  | 27 => .array .long
  | 28 => .array .long
  | 29 => .int
  | 30 => .int
  | 31 => .array .int
  | 32 => .array .int
  | 33 => .array .int
  | 34 => .array .int
  | 35 => .array .int
  | 36 => .array .int
  | 37 => .array .int
  | 38 => .array .boolean
  | 39 => .int
  | 40 => .int
  | 41 => .array .long
  | 42 => .array .long
  | 43 => .array .long
  | 44 => .array .long
  | 45 => .long
  | 46 => .long
  | 47 => .array .long
  | 48 => .long
  | 49 => .int
  | 50 => .array .int
  | 51 => .array .int
  | 52 => .array .int
  | 53 => .int
  | 54 => .array .int
  | 55 => .array .int
  | 56 => .array .int
  | 57 => .array .int
  | _ => .int
abbrev wsX120 : List Cond := u_ws RX12 TX12 59
theorem nmX12 : ∀ a, a < 59 → ∀ b, b < 59 → a ≠ b → (TX12 a).2.1 ≠ (TX12 b).2.1 := by decide +kernel
theorem tyX12_ok : ∀ k, k < 59 → parseFieldDescriptor (TX12 k).2.2.1 = some (tyX12 k) := by decide +kernel
abbrev cX12_init : ByteArray := prog_14_method_1_code
def yX12_init : MethodName := ⟨RX12, "<init>", "()V"⟩
abbrev cX12_sign : ByteArray := prog_14_method_2_code
def yX12_sign : MethodName := ⟨RX12, "sign", "(I)I"⟩
abbrev cX12_isLetter : ByteArray := prog_14_method_3_code
def yX12_isLetter : MethodName := ⟨RX12, "isLetter", "(I)Z"⟩
abbrev cX12_isDigit : ByteArray := prog_14_method_4_code
def yX12_isDigit : MethodName := ⟨RX12, "isDigit", "(I)Z"⟩
abbrev cX12_fails : ByteArray := prog_14_method_5_code
def yX12_fails : MethodName := ⟨RX12, "fails", "(II)V"⟩
abbrev cX12_isGood : ByteArray := prog_14_method_6_code
def yX12_isGood : MethodName := ⟨RX12, "isGood", "()Z"⟩
abbrev cX12_isKept : ByteArray := prog_14_method_7_code
def yX12_isKept : MethodName := ⟨RX12, "isKept", "(J)Z"⟩
abbrev cX12_next : ByteArray := prog_14_method_8_code
def yX12_next : MethodName := ⟨RX12, "next", "()V"⟩
abbrev cX12_is : ByteArray := prog_14_method_9_code
def yX12_is : MethodName := ⟨RX12, "is", "(I)Z"⟩
abbrev cX12_isWord : ByteArray := prog_14_method_10_code
def yX12_isWord : MethodName := ⟨RX12, "isWord", "(J)Z"⟩
abbrev cX12_wrong : ByteArray := prog_14_method_11_code
def yX12_wrong : MethodName := ⟨RX12, "wrong", "()V"⟩
abbrev cX12_must : ByteArray := prog_14_method_12_code
def yX12_must : MethodName := ⟨RX12, "must", "(Z)V"⟩
abbrev cX12_numeral : ByteArray := prog_14_method_13_code
def yX12_numeral : MethodName := ⟨RX12, "numeral", "(II)I"⟩
abbrev cX12_signed : ByteArray := prog_14_method_14_code
def yX12_signed : MethodName := ⟨RX12, "signed", "(II)I"⟩
abbrev cX12_program : ByteArray := prog_14_method_15_code
def yX12_program : MethodName := ⟨RX12, "program", "()I"⟩
abbrev cX12_kindHere : ByteArray := prog_14_method_16_code
def yX12_kindHere : MethodName := ⟨RX12, "kindHere", "()I"⟩
abbrev cX12_readLine : ByteArray := prog_14_method_17_code
def yX12_readLine : MethodName := ⟨RX12, "readLine", "()V"⟩
abbrev cX12_rowNamed : ByteArray := prog_14_method_18_code
def yX12_rowNamed : MethodName := ⟨RX12, "rowNamed", "()I"⟩
abbrev cX12_stepNamed : ByteArray := prog_14_method_19_code
def yX12_stepNamed : MethodName := ⟨RX12, "stepNamed", "()I"⟩
abbrev cX12_fresh : ByteArray := prog_14_method_20_code
def yX12_fresh : MethodName := ⟨RX12, "fresh", "()V"⟩
abbrev cX12_readRow : ByteArray := prog_14_method_21_code
def yX12_readRow : MethodName := ⟨RX12, "readRow", "()V"⟩
abbrev cX12_readEnd : ByteArray := prog_14_method_22_code
def yX12_readEnd : MethodName := ⟨RX12, "readEnd", "()V"⟩
abbrev cX12_theStep : ByteArray := prog_14_method_23_code
def yX12_theStep : MethodName := ⟨RX12, "theStep", "()I"⟩
abbrev cX12_aStep : ByteArray := prog_14_method_24_code
def yX12_aStep : MethodName := ⟨RX12, "aStep", "()I"⟩
abbrev cX12_aRow : ByteArray := prog_14_method_25_code
def yX12_aRow : MethodName := ⟨RX12, "aRow", "()I"⟩
abbrev cX12_readStep : ByteArray := prog_14_method_26_code
def yX12_readStep : MethodName := ⟨RX12, "readStep", "(I)V"⟩
abbrev cX12_lesser : ByteArray := prog_14_method_27_code
def yX12_lesser : MethodName := ⟨RX12, "lesser", "(JJ)J"⟩
abbrev cX12_greater : ByteArray := prog_14_method_28_code
def yX12_greater : MethodName := ⟨RX12, "greater", "(JJ)J"⟩
abbrev cX12_laySpan : ByteArray := prog_14_method_29_code
def yX12_laySpan : MethodName := ⟨RX12, "laySpan", "(I)V"⟩
abbrev cX12_fault : ByteArray := prog_14_method_30_code
def yX12_fault : MethodName := ⟨RX12, "fault", "(I)I"⟩
abbrev cX12_isIn : ByteArray := prog_14_method_31_code
def yX12_isIn : MethodName := ⟨RX12, "isIn", "(III)Z"⟩
abbrev cX12_steps : ByteArray := prog_14_method_32_code
def yX12_steps : MethodName := ⟨RX12, "steps", "()I"⟩
abbrev cX12_isStep : ByteArray := prog_14_method_33_code
def yX12_isStep : MethodName := ⟨RX12, "isStep", "(I)Z"⟩
abbrev cX12_isEnd : ByteArray := prog_14_method_34_code
def yX12_isEnd : MethodName := ⟨RX12, "isEnd", "(I)Z"⟩
abbrev cX12_at0 : ByteArray := prog_14_method_35_code
def yX12_at0 : MethodName := ⟨RX12, "at0", "(I)I"⟩
abbrev cX12_span : ByteArray := prog_14_method_36_code
def yX12_span : MethodName := ⟨RX12, "span", "(IZ)I"⟩
abbrev cX12_sheet : ByteArray := prog_14_method_37_code
def yX12_sheet : MethodName := ⟨RX12, "sheet", "(Z)I"⟩
abbrev cX12_put : ByteArray := prog_14_method_38_code
def yX12_put : MethodName := ⟨RX12, "put", "(IIII)Z"⟩
abbrev cX12_mayChange : ByteArray := prog_14_method_39_code
def yX12_mayChange : MethodName := ⟨RX12, "mayChange", "(III)Z"⟩
abbrev cX12_change : ByteArray := prog_14_method_40_code
def yX12_change : MethodName := ⟨RX12, "change", "(IIII)I"⟩
abbrev cX12_isChoice : ByteArray := prog_14_method_41_code
def yX12_isChoice : MethodName := ⟨RX12, "isChoice", "(I)Z"⟩
abbrev cX12_floorOver : ByteArray := prog_14_method_42_code
def yX12_floorOver : MethodName := ⟨RX12, "floorOver", "(JJ)J"⟩
abbrev cX12_numberAt : ByteArray := prog_14_method_43_code
def yX12_numberAt : MethodName := ⟨RX12, "numberAt", "([IIII)I"⟩
abbrev cX12_coarse : ByteArray := prog_14_method_44_code
def yX12_coarse : MethodName := ⟨RX12, "coarse", "(II)I"⟩
abbrev cX12_isOn : ByteArray := prog_14_method_45_code
def yX12_isOn : MethodName := ⟨RX12, "isOn", "(II)Z"⟩
abbrev cX12_least2 : ByteArray := prog_14_method_46_code
def yX12_least2 : MethodName := ⟨RX12, "least2", "(II)I"⟩
abbrev cX12_baseOf : ByteArray := prog_14_method_47_code
def yX12_baseOf : MethodName := ⟨RX12, "baseOf", "([III)I"⟩
abbrev cX12_ofRow : ByteArray := prog_14_method_48_code
def yX12_ofRow : MethodName := ⟨RX12, "ofRow", "(I[III)J"⟩
abbrev cX12_work : ByteArray := prog_14_method_49_code
def yX12_work : MethodName := ⟨RX12, "work", "(I[II[JI)J"⟩
abbrev cX12_run : ByteArray := prog_14_method_50_code
def yX12_run : MethodName := ⟨RX12, "run", "([II)V"⟩
abbrev cX12_value : ByteArray := prog_14_method_51_code
def yX12_value : MethodName := ⟨RX12, "value", "(III)J"⟩
abbrev cX12_leastOf : ByteArray := prog_14_method_52_code
def yX12_leastOf : MethodName := ⟨RX12, "leastOf", "(JJJJ)J"⟩
abbrev cX12_mostOf : ByteArray := prog_14_method_53_code
def yX12_mostOf : MethodName := ⟨RX12, "mostOf", "(JJJJ)J"⟩
abbrev cX12_errs : ByteArray := prog_14_method_54_code
def yX12_errs : MethodName := ⟨RX12, "errs", "(JJ)Z"⟩
abbrev cX12_spread : ByteArray := prog_14_method_55_code
def yX12_spread : MethodName := ⟨RX12, "spread", "(I)Z"⟩
abbrev cX12_spreadTimes : ByteArray := prog_14_method_56_code
def yX12_spreadTimes : MethodName := ⟨RX12, "spreadTimes", "(II)V"⟩
abbrev cX12_lowOver : ByteArray := prog_14_method_57_code
def yX12_lowOver : MethodName := ⟨RX12, "lowOver", "(II)J"⟩
abbrev cX12_highOver : ByteArray := prog_14_method_58_code
def yX12_highOver : MethodName := ⟨RX12, "highOver", "(II)J"⟩
abbrev cX12_spreadPick : ByteArray := prog_14_method_59_code
def yX12_spreadPick : MethodName := ⟨RX12, "spreadPick", "(IIZ)V"⟩
abbrev cX12_spreadUsual : ByteArray := prog_14_method_60_code
def yX12_spreadUsual : MethodName := ⟨RX12, "spreadUsual", "(II)V"⟩
abbrev cX12_showRow : ByteArray := prog_14_method_61_code
def yX12_showRow : MethodName := ⟨RX12, "showRow", "(III)V"⟩
abbrev cX12_show : ByteArray := prog_14_method_62_code
def yX12_show : MethodName := ⟨RX12, "show", "(I)Z"⟩
abbrev cX12_bars : ByteArray := prog_14_method_63_code
def yX12_bars : MethodName := ⟨RX12, "bars", "()I"⟩
abbrev cX12_isOpen : ByteArray := prog_14_method_64_code
def yX12_isOpen : MethodName := ⟨RX12, "isOpen", "(I)Z"⟩
abbrev cX12_error : ByteArray := prog_14_method_65_code
def yX12_error : MethodName := ⟨RX12, "error", "(IIZ)J"⟩
abbrev cX12_offOf : ByteArray := prog_14_method_66_code
def yX12_offOf : MethodName := ⟨RX12, "offOf", "(I)J"⟩
abbrev cX12_off : ByteArray := prog_14_method_67_code
def yX12_off : MethodName := ⟨RX12, "off", "(II)J"⟩
abbrev cX12_barred : ByteArray := prog_14_method_68_code
def yX12_barred : MethodName := ⟨RX12, "barred", "(I)I"⟩
abbrev cX12_farOn : ByteArray := prog_14_method_69_code
def yX12_farOn : MethodName := ⟨RX12, "farOn", "(II)J"⟩
abbrev cX12_measure : ByteArray := prog_14_method_70_code
def yX12_measure : MethodName := ⟨RX12, "measure", "(I)J"⟩
abbrev cX12_measured : ByteArray := prog_14_method_71_code
def yX12_measured : MethodName := ⟨RX12, "measured", "(II)J"⟩
abbrev cX12_passed : ByteArray := prog_14_method_72_code
def yX12_passed : MethodName := ⟨RX12, "passed", "(II)I"⟩
abbrev cX12_common : ByteArray := prog_14_method_73_code
def yX12_common : MethodName := ⟨RX12, "common", "(JJ)J"⟩
abbrev cX12_mean : ByteArray := prog_14_method_74_code
def yX12_mean : MethodName := ⟨RX12, "mean", "(III)J"⟩
abbrev cX12_savedBy : ByteArray := prog_14_method_75_code
def yX12_savedBy : MethodName := ⟨RX12, "savedBy", "(I)I"⟩
abbrev cX12_saved : ByteArray := prog_14_method_76_code
def yX12_saved : MethodName := ⟨RX12, "saved", "(I)I"⟩
abbrev cX12_ticks : ByteArray := prog_14_method_77_code
def yX12_ticks : MethodName := ⟨RX12, "ticks", "(I)I"⟩
abbrev cX12_isLet : ByteArray := prog_14_method_78_code
def yX12_isLet : MethodName := ⟨RX12, "isLet", "(I)Z"⟩
abbrev cX12_let : ByteArray := prog_14_method_79_code
def yX12_let : MethodName := ⟨RX12, "let", "(I)I"⟩
abbrev cX12_bitsOf : ByteArray := prog_14_method_80_code
def yX12_bitsOf : MethodName := ⟨RX12, "bitsOf", "(I)I"⟩
abbrev cX12_best : ByteArray := prog_14_method_81_code
def yX12_best : MethodName := ⟨RX12, "best", "()I"⟩
abbrev cX12_layOffs : ByteArray := prog_14_method_82_code
def yX12_layOffs : MethodName := ⟨RX12, "layOffs", "(I)V"⟩
abbrev cX12_nextPair : ByteArray := prog_14_method_83_code
def yX12_nextPair : MethodName := ⟨RX12, "nextPair", "(I)Z"⟩
abbrev cX12_front : ByteArray := prog_14_method_84_code
def yX12_front : MethodName := ⟨RX12, "front", "(I)I"⟩
abbrev cX12_pair : ByteArray := prog_14_method_85_code
def yX12_pair : MethodName := ⟨RX12, "pair", "(III)J"⟩
abbrev cX12_guard : ByteArray := prog_14_method_86_code
def yX12_guard : MethodName := ⟨RX12, "guard", "(III)I"⟩
abbrev cX12_turnsBack : ByteArray := prog_14_method_87_code
def yX12_turnsBack : MethodName := ⟨RX12, "turnsBack", "(I)Z"⟩
abbrev cX12_through : ByteArray := prog_14_method_88_code
def yX12_through : MethodName := ⟨RX12, "through", "(II)I"⟩
abbrev cX12_turned : ByteArray := prog_14_method_89_code
def yX12_turned : MethodName := ⟨RX12, "turned", "(II)I"⟩
abbrev cX12_placeMany : ByteArray := prog_14_method_90_code
def yX12_placeMany : MethodName := ⟨RX12, "placeMany", "()I"⟩
abbrev cX12_layCorner : ByteArray := prog_14_method_91_code
def yX12_layCorner : MethodName := ⟨RX12, "layCorner", "(I)V"⟩
abbrev cX12_worst : ByteArray := prog_14_method_92_code
def yX12_worst : MethodName := ⟨RX12, "worst", "(III)J"⟩
abbrev cX12_errorOn : ByteArray := prog_14_method_93_code
def yX12_errorOn : MethodName := ⟨RX12, "errorOn", "(III)J"⟩
abbrev cX12_led : ByteArray := prog_14_method_94_code
def yX12_led : MethodName := ⟨RX12, "led", "(IIII)J"⟩
abbrev cX12_layPlan : ByteArray := prog_14_method_95_code
def yX12_layPlan : MethodName := ⟨RX12, "layPlan", "(II)V"⟩
abbrev cX12_plan : ByteArray := prog_14_method_96_code
def yX12_plan : MethodName := ⟨RX12, "plan", "(II)I"⟩
abbrev cX12_planned : ByteArray := prog_14_method_97_code
def yX12_planned : MethodName := ⟨RX12, "planned", "(III)I"⟩
abbrev cX12_purse : ByteArray := prog_14_method_98_code
def yX12_purse : MethodName := ⟨RX12, "purse", "(I)Z"⟩
abbrev cX12_day : ByteArray := prog_14_method_99_code
def yX12_day : MethodName := ⟨RX12, "day", "(III)I"⟩
abbrev cX12_about : ByteArray := prog_14_method_100_code
def yX12_about : MethodName := ⟨RX12, "about", "(I)I"⟩
abbrev cX12_feed : ByteArray := prog_14_method_101_code
def yX12_feed : MethodName := ⟨RX12, "feed", "(IIIII)I"⟩
abbrev cX12_end : ByteArray := prog_14_method_102_code
def yX12_end : MethodName := ⟨RX12, "end", "(I)I"⟩
def RJ6 : String := "java/lang/Integer"
def TJ6 : u_T := fun k => match k with
  | _ => ("", "", "", false)
def tyJ6 : Nat → FieldType := fun k => match k with
  | _ => .int
abbrev wsJ60 : List Cond := u_ws RJ6 TJ6 0
theorem nmJ6 : ∀ a, a < 0 → ∀ b, b < 0 → a ≠ b → (TJ6 a).2.1 ≠ (TJ6 b).2.1 := by decide +kernel
theorem tyJ6_ok : ∀ k, k < 0 → parseFieldDescriptor (TJ6 k).2.2.1 = some (tyJ6 k) := by decide +kernel
abbrev cJ6_bitCount_0f7a4 : ByteArray := prog_15_method_49_code
def yJ6_bitCount_0f7a4 : MethodName := ⟨RJ6, "bitCount", "(I)I"⟩
def RJ9 : String := "java/lang/Math"
def TJ9 : u_T := fun k => match k with
  | _ => ("", "", "", false)
def tyJ9 : Nat → FieldType := fun k => match k with
  | _ => .int
abbrev wsJ90 : List Cond := u_ws RJ9 TJ9 0
theorem nmJ9 : ∀ a, a < 0 → ∀ b, b < 0 → a ≠ b → (TJ9 a).2.1 ≠ (TJ9 b).2.1 := by decide +kernel
theorem tyJ9_ok : ∀ k, k < 0 → parseFieldDescriptor (TJ9 k).2.2.1 = some (tyJ9 k) := by decide +kernel
abbrev cJ9_floorDiv_f86c9 : ByteArray := prog_16_method_49_code
def yJ9_floorDiv_f86c9 : MethodName := ⟨RJ9, "floorDiv", "(JJ)J"⟩
abbrev cJ9_floorMod_f86c9 : ByteArray := prog_16_method_52_code
def yJ9_floorMod_f86c9 : MethodName := ⟨RJ9, "floorMod", "(JJ)J"⟩
abbrev cJ9_abs_067f4 : ByteArray := prog_16_method_61_code
def yJ9_abs_067f4 : MethodName := ⟨RJ9, "abs", "(J)J"⟩
abbrev cJ9_max_7cf53 : ByteArray := prog_16_method_65_code
def yJ9_max_7cf53 : MethodName := ⟨RJ9, "max", "(II)I"⟩
abbrev cJ9_max_f86c9 : ByteArray := prog_16_method_66_code
def yJ9_max_f86c9 : MethodName := ⟨RJ9, "max", "(JJ)J"⟩
abbrev cJ9_min_7cf53 : ByteArray := prog_16_method_69_code
def yJ9_min_7cf53 : MethodName := ⟨RJ9, "min", "(II)I"⟩
abbrev cJ9_min_f86c9 : ByteArray := prog_16_method_70_code
def yJ9_min_f86c9 : MethodName := ⟨RJ9, "min", "(JJ)J"⟩
def RJ0 : String := "java/lang/String"
def TJ0 : u_T := fun k => match k with
  | _ => ("", "", "", false)
def tyJ0 : Nat → FieldType := fun k => match k with
  | _ => .int
abbrev wsJ00 : List Cond := u_ws RJ0 TJ0 0
theorem nmJ0 : ∀ a, a < 0 → ∀ b, b < 0 → a ≠ b → (TJ0 a).2.1 ≠ (TJ0 b).2.1 := by decide +kernel
theorem tyJ0_ok : ∀ k, k < 0 → parseFieldDescriptor (TJ0 k).2.2.1 = some (tyJ0 k) := by decide +kernel
abbrev cJ0_length_8abf5 : ByteArray := prog_17_method_54_code
def yJ0_length_8abf5 : MethodName := ⟨RJ0, "length", "()I"⟩
abbrev cJ0_charAt_5068e : ByteArray := prog_17_method_56_code
def yJ0_charAt_5068e : MethodName := ⟨RJ0, "charAt", "(I)C"⟩
abbrev cJ0_coder_7d493 : ByteArray := prog_17_method_152_code
def yJ0_coder_7d493 : MethodName := ⟨RJ0, "coder", "()B"⟩
abbrev cJ0_isLatin1_aae02 : ByteArray := prog_17_method_154_code
def yJ0_isLatin1_aae02 : MethodName := ⟨RJ0, "isLatin1", "()Z"⟩
abbrev cJ0_checkIndex_df160 : ByteArray := prog_17_method_155_code
def yJ0_checkIndex_df160 : MethodName := ⟨RJ0, "checkIndex", "(II)V"⟩
def RJ1 : String := "java/lang/StringLatin1"
def TJ1 : u_T := fun k => match k with
  | _ => ("", "", "", false)
def tyJ1 : Nat → FieldType := fun k => match k with
  | _ => .int
abbrev wsJ10 : List Cond := u_ws RJ1 TJ1 0
theorem nmJ1 : ∀ a, a < 0 → ∀ b, b < 0 → a ≠ b → (TJ1 a).2.1 ≠ (TJ1 b).2.1 := by decide +kernel
theorem tyJ1_ok : ∀ k, k < 0 → parseFieldDescriptor (TJ1 k).2.2.1 = some (tyJ1 k) := by decide +kernel
abbrev cJ1_charAt_3b067 : ByteArray := prog_18_method_2_code
def yJ1_charAt_3b067 : MethodName := ⟨RJ1, "charAt", "([BI)C"⟩
def RJ2 : String := "java/lang/StringUTF16"
def TJ2 : u_T := fun k => match k with
  | _ => ("", "", "", false)
def tyJ2 : Nat → FieldType := fun k => match k with
  | _ => .int
abbrev wsJ20 : List Cond := u_ws RJ2 TJ2 0
theorem nmJ2 : ∀ a, a < 0 → ∀ b, b < 0 → a ≠ b → (TJ2 a).2.1 ≠ (TJ2 b).2.1 := by decide +kernel
theorem tyJ2_ok : ∀ k, k < 0 → parseFieldDescriptor (TJ2 k).2.2.1 = some (tyJ2 k) := by decide +kernel
abbrev cJ2_getChar_3b067 : ByteArray := prog_19_method_5_code
def yJ2_getChar_3b067 : MethodName := ⟨RJ2, "getChar", "([BI)C"⟩
abbrev cJ2_length_9d52b : ByteArray := prog_19_method_6_code
def yJ2_length_9d52b : MethodName := ⟨RJ2, "length", "([B)I"⟩
abbrev cJ2_charAt_3b067 : ByteArray := prog_19_method_83_code
def yJ2_charAt_3b067 : MethodName := ⟨RJ2, "charAt", "([BI)C"⟩
abbrev cJ2_checkIndex_2214a : ByteArray := prog_19_method_91_code
def yJ2_checkIndex_2214a : MethodName := ⟨RJ2, "checkIndex", "(I[B)V"⟩
def RJ10 : String := "java/lang/System"
def TJ10 : u_T := fun k => match k with
  | _ => ("", "", "", false)
def tyJ10 : Nat → FieldType := fun k => match k with
  | _ => .int
abbrev wsJ100 : List Cond := u_ws RJ10 TJ10 0
theorem nmJ10 : ∀ a, a < 0 → ∀ b, b < 0 → a ≠ b → (TJ10 a).2.1 ≠ (TJ10 b).2.1 := by decide +kernel
theorem tyJ10_ok : ∀ k, k < 0 → parseFieldDescriptor (TJ10 k).2.2.1 = some (tyJ10 k) := by decide +kernel
def RJ7 : String := "java/util/Arrays"
def TJ7 : u_T := fun k => match k with
  | _ => ("", "", "", false)
def tyJ7 : Nat → FieldType := fun k => match k with
  | _ => .int
abbrev wsJ70 : List Cond := u_ws RJ7 TJ7 0
theorem nmJ7 : ∀ a, a < 0 → ∀ b, b < 0 → a ≠ b → (TJ7 a).2.1 ≠ (TJ7 b).2.1 := by decide +kernel
theorem tyJ7_ok : ∀ k, k < 0 → parseFieldDescriptor (TJ7 k).2.2.1 = some (tyJ7 k) := by decide +kernel
abbrev cJ7_fill_d0a16 : ByteArray := prog_21_method_101_code
def yJ7_fill_d0a16 : MethodName := ⟨RJ7, "fill", "([JJ)V"⟩
abbrev cJ7_fill_53178 : ByteArray := prog_21_method_103_code
def yJ7_fill_53178 : MethodName := ⟨RJ7, "fill", "([II)V"⟩
def RJ3 : String := "jdk/internal/util/Preconditions"
def TJ3 : u_T := fun k => match k with
  | _ => ("", "", "", false)
def tyJ3 : Nat → FieldType := fun k => match k with
  | _ => .int
abbrev wsJ30 : List Cond := u_ws RJ3 TJ3 0
theorem nmJ3 : ∀ a, a < 0 → ∀ b, b < 0 → a ≠ b → (TJ3 a).2.1 ≠ (TJ3 b).2.1 := by decide +kernel
theorem tyJ3_ok : ∀ k, k < 0 → parseFieldDescriptor (TJ3 k).2.2.1 = some (tyJ3 k) := by decide +kernel
abbrev cJ3_checkIndex_8e157 : ByteArray := prog_22_method_11_code
def yJ3_checkIndex_8e157 : MethodName := ⟨RJ3, "checkIndex", "(IILjava/util/function/BiFunction;)I"⟩
def RL : String := "NearEnoughLaw"
abbrev cL_law : ByteArray := code
def yL_law : MethodName := ⟨RL, "law", "([I)Z"⟩
abbrev vwCl : List vw_C := [(RX0, TX0, 7), (RX1, TX1, 7), (RX2, TX2, 8), (RX3, TX3, 8), (RX4, TX4, 4), (RX5, TX5, 5), (RX6, TX6, 7), (RX7, TX7, 3), (RX8, TX8, 9), (RX9, TX9, 11), (RX10, TX10, 5), (RX11, TX11, 17), (RX12, TX12, 59)]
end
section
/-! own rows: what every contract begins and ends with, calls in one row, numbers -/
/-- what the tables say beside the words: arrays of Row and Step, constructors of nest mates -/
def Ex (U : State) : Prop := va_AO RX5 U ∧ va_AO RX9 U ∧ va_Nw (.methodLinkNest RX11 25 yX3_init "NearEnough") U ∧ va_Nw (.methodLinkNest RX11 32 yX7_init "NearEnough") U ∧ va_Nw (.methodLinkNest RX11 39 yX0_init "NearEnough") U ∧ va_Nw (.methodLinkNest RX4 11 yX3_init "NearEnough") U
theorem Ex.ao5 {U : State} (h : Ex U) : va_AO RX5 U := h.1
theorem Ex.ao9 {U : State} (h : Ex U) : va_AO RX9 U := h.2.1
theorem Ex.nX11_25 {U : State} (h : Ex U) : va_Nw (.methodLinkNest RX11 25 yX3_init "NearEnough") U := h.2.2.1
theorem Ex.nX11_32 {U : State} (h : Ex U) : va_Nw (.methodLinkNest RX11 32 yX7_init "NearEnough") U := h.2.2.2.1
theorem Ex.nX11_39 {U : State} (h : Ex U) : va_Nw (.methodLinkNest RX11 39 yX0_init "NearEnough") U := h.2.2.2.2.1
theorem Ex.nX4_11 {U : State} (h : Ex U) : va_Nw (.methodLinkNest RX4 11 yX3_init "NearEnough") U := h.2.2.2.2.2
theorem Ex.same {u U : State} (hvm : u.vm = U.vm) (ha : u.vm.Alike U.vm) (h : Ex u) : Ex U :=
  ⟨va_AO.moved ha h.ao5, va_AO.moved ha h.ao9, va_Nw.same rfl hvm h.nX11_25, va_Nw.same rfl hvm h.nX11_32, va_Nw.same rfl hvm h.nX11_39, va_Nw.same rfl hvm h.nX4_11⟩
theorem Ex.warm {s U : State} (hW : s.WarmedH U.vm) (h : Ex s) : Ex U :=
  ⟨va_AO.moved hW.alike h.ao5, va_AO.moved hW.alike h.ao9, va_Nw.warmM hW h.nX11_25, va_Nw.warmM hW h.nX11_32, va_Nw.warmM hW h.nX11_39, va_Nw.warmM hW h.nX4_11⟩
def wSt (dC : Nat → ClassId) (dI : Nat → Nat → Nat) (ws : va_W) (tys : List (ClassId × FieldType)) (sz : Nat) (U : State) : Prop := U.heap.size = sz ∧ va_P (dC, dI) vwCl ws U.heap ∧ va_K (dC, dI) vwCl tys U ∧ va_D (fun _ => True) ws ∧ Ex U
def wEn (dC : Nat → ClassId) (dI : Nat → Nat → Nat) (A : Nat → Prop) (ws : va_W) (tys : List (ClassId × FieldType)) (t : State) : Prop := va_P (dC, dI) vwCl ws t.heap ∧ va_K (dC, dI) vwCl tys t ∧ va_D A ws
theorem wEn_of {dC : Nat → ClassId} {dI : Nat → Nat → Nat} {A : Nat → Prop} {ws : va_W} {tys : List (ClassId × FieldType)} {s t : State} {H : Heap} (hP : va_P (dC, dI) vwCl ws H) (hK : va_K (dC, dI) vwCl tys s) (hD : va_D A ws) (ht : t.heap = H) (hW : s.WarmedH t.vm) : wEn dC dI A ws tys t := ⟨by rw [ht]; exact hP, va_K.moved hW.alike hK, hD⟩
theorem preS {s : State} {H : Heap} {dC : Nat → ClassId} {dI : Nat → Nat → Nat} {A : Nat → Prop} {ws : va_W} {tys : List (ClassId × FieldType)} {As : List Value} (hP : va_P (dC, dI) vwCl ws H) (hK : va_K (dC, dI) vwCl tys s) (hD : va_D A ws) (hE : Ex s) : PreS s H (va_Pc As (wSt dC dI ws tys H.size)) As :=
  ⟨fun a U g mk q => by
    obtain ⟨q0, q1, qP, qK, qD, qE⟩ := q
    exact ⟨q0, q1, qP, va_K.moved (u := U) (U := U.calling g mk a) (Vm.Alike.refl U.vm) qK, qD, Ex.same (u := U) (U := U.calling g mk a) rfl (Vm.Alike.refl U.vm) qE⟩,
   fun U hU hW => ⟨rfl, by rw [hU], by rw [hU]; exact hP, va_K.moved hW.alike hK, hD.weaken (fun _ _ _ _ => trivial), hE.warm hW⟩⟩
theorem preV {s : State} {H : Heap} {dC : Nat → ClassId} {dI : Nat → Nat → Nat} {A : Nat → Prop} {ws : va_W} {tys : List (ClassId × FieldType)} {b : Nat} {As : List Value} (hP : va_P (dC, dI) vwCl ws H) (hK : va_K (dC, dI) vwCl tys s) (hD : va_D A ws) (hE : Ex s) {ci q0 : Nat} {q : vw_C} {fs : List Value} (hc : vwCl[ci]? = some q) (he : ws[q0]? = some (b, .inr (ci, fs))) : PreV s H q.1 b (va_Pc (.ref b :: As) (wSt dC dI ws tys H.size)) As :=
  ⟨(preS hP hK hD hE).1, va_recv hK hP hc he, (preS hP hK hD hE).2⟩
section ZZ
variable {p : Program} {l : Launch} {e : Env} {R : Room} {s : State} {m : MethodId} {args : Array Value} {below : List Frame} {meth : Method} {c : Code} {H : Heap} {locs : List Loc} {cells slots : Nat} {Q : State → Prop} {pc : Nat} {ls : Array Slot} {rest st0 : List Value} {a : Array Value} {A0 : Nat → Prop} {H0 : Heap} {mc ms : Nat} {dC : Nat → ClassId} {dI : Nat → Nat → Nat}
theorem zv {x v : Value} (h : x = v) (k : W p l e R s m args below meth c H locs cells slots Q (F0 m pc ls (v :: rest))) : W p l e R s m args below meth c H locs cells slots Q (F0 m pc ls (x :: rest)) := by rw [h]; exact k
theorem zi {x v : Int32} (h : x = v) (k : W p l e R s m args below meth c H locs cells slots Q (F0 m pc ls (.int v :: rest))) : W p l e R s m args below meth c H locs cells slots Q (F0 m pc ls (.int x :: rest)) := by rw [h]; exact k
theorem zl {x v : Int64} (h : x = v) (k : W p l e R s m args below meth c H locs cells slots Q (F0 m pc ls (.long v :: rest))) : W p l e R s m args below meth c H locs cells slots Q (F0 m pc ls (.long x :: rest)) := by rw [h]; exact k
theorem zH {D : va_G} {cl : List vw_C} {A : Nat → Prop} {ws : va_W} {g : JFrame} (h : ∀ H : Heap, va_P D cl ws H → va_S A s.heap H [] → W p l e R s m args below meth c H [] cells slots Q g) (hP : va_P D cl ws s.heap) : W p l e R s m args below meth c s.heap [] cells slots Q g := h s.heap hP va_S.rf
theorem zz_i {S : Type} {ans : Int32} {wc wr ws : va_W} {w1 : S → va_W} {ty1 : S → List (ClassId × FieldType)} {tys : List (ClassId × FieldType)}
    (hr : va_Run p l e R s m args below meth c H locs cells slots mc ms (F0 m pc ls st0) rest (va_Qi (fun (r : Int32) (_ : S) => r = ans) (fun u => wEn dC dI (va_A wc H.size) (w1 u) (ty1 u)) (va_A wc H.size) a) (va_A wc H.size))
    (hK : va_K (dC, dI) vwCl tys s) (hP : va_P (dC, dI) vwCl ws H) (hD : va_D A0 ws) (hS : va_S A0 H0 H locs) (hA : ∀ q, H0.size ≤ q → A0 q)
    (isC isR : List Nat) (hC : isC.map (fun i => ws[i]?) = wc.map some) (hR : isR.map (fun i => ws[i]?) = wr.map some) (hn : va_nd isR = true) (hdis : ∀ i ∈ isR, i ∉ isC)
    (kk : ∀ (u : S) (H1 : Heap) (locs1 : List Loc), va_K (dC, dI) vwCl (tys ++ ty1 u) s → va_P (dC, dI) vwCl (wr ++ w1 u) H1 → va_D A0 (wr ++ w1 u) → va_S A0 H0 H1 locs1 → W p l e R s m args below meth c H1 locs1 (cells + mc) (slots + ms) Q (F0 m (pc + 3) ls (.int ans :: rest))) : W p l e R s m args below meth c H locs cells slots Q (F0 m pc ls st0) := by
  have hF := va_free hD hS hA isC hC
  refine va_calli hr hS (fun q _ h => hF q h) hF (fun r u t H1 locs1 ht hvm hw hB hz hk hS1 => ?_)
  obtain ⟨hP1, hK1, hD1⟩ := hB
  rw [ht] at hP1
  obtain ⟨hP2, hD2⟩ := va_join hP hD isC isR hC hR hn hdis hk hF hP1 hD1
  have hw : r = ans := hw
  rw [hw]
  exact kk u H1 locs1 (hK.app (va_K.moved hvm.symm hK1)) hP2 hD2 hS1
theorem zz_l {S : Type} {ans : Int64} {wc wr ws : va_W} {w1 : S → va_W} {ty1 : S → List (ClassId × FieldType)} {tys : List (ClassId × FieldType)}
    (hr : va_Run p l e R s m args below meth c H locs cells slots mc ms (F0 m pc ls st0) rest (va_Ql (fun (r : Int64) (_ : S) => r = ans) (fun u => wEn dC dI (va_A wc H.size) (w1 u) (ty1 u)) (va_A wc H.size) a) (va_A wc H.size))
    (hK : va_K (dC, dI) vwCl tys s) (hP : va_P (dC, dI) vwCl ws H) (hD : va_D A0 ws) (hS : va_S A0 H0 H locs) (hA : ∀ q, H0.size ≤ q → A0 q)
    (isC isR : List Nat) (hC : isC.map (fun i => ws[i]?) = wc.map some) (hR : isR.map (fun i => ws[i]?) = wr.map some) (hn : va_nd isR = true) (hdis : ∀ i ∈ isR, i ∉ isC)
    (kk : ∀ (u : S) (H1 : Heap) (locs1 : List Loc), va_K (dC, dI) vwCl (tys ++ ty1 u) s → va_P (dC, dI) vwCl (wr ++ w1 u) H1 → va_D A0 (wr ++ w1 u) → va_S A0 H0 H1 locs1 → W p l e R s m args below meth c H1 locs1 (cells + mc) (slots + ms) Q (F0 m (pc + 3) ls (.long ans :: rest))) : W p l e R s m args below meth c H locs cells slots Q (F0 m pc ls st0) := by
  have hF := va_free hD hS hA isC hC
  refine va_calll hr hS (fun q _ h => hF q h) hF (fun r u t H1 locs1 ht hvm hw hB hz hk hS1 => ?_)
  obtain ⟨hP1, hK1, hD1⟩ := hB
  rw [ht] at hP1
  obtain ⟨hP2, hD2⟩ := va_join hP hD isC isR hC hR hn hdis hk hF hP1 hD1
  have hw : r = ans := hw
  rw [hw]
  exact kk u H1 locs1 (hK.app (va_K.moved hvm.symm hK1)) hP2 hD2 hS1
theorem zz_v {S : Type} {wc wr ws : va_W} {w1 : S → va_W} {ty1 : S → List (ClassId × FieldType)} {tys : List (ClassId × FieldType)}
    (hr : va_Run p l e R s m args below meth c H locs cells slots mc ms (F0 m pc ls st0) rest (va_Qv (fun (_ : S) => True) (fun u => wEn dC dI (va_A wc H.size) (w1 u) (ty1 u)) (va_A wc H.size) a) (va_A wc H.size))
    (hK : va_K (dC, dI) vwCl tys s) (hP : va_P (dC, dI) vwCl ws H) (hD : va_D A0 ws) (hS : va_S A0 H0 H locs) (hA : ∀ q, H0.size ≤ q → A0 q)
    (isC isR : List Nat) (hC : isC.map (fun i => ws[i]?) = wc.map some) (hR : isR.map (fun i => ws[i]?) = wr.map some) (hn : va_nd isR = true) (hdis : ∀ i ∈ isR, i ∉ isC)
    (kk : ∀ (u : S) (H1 : Heap) (locs1 : List Loc), va_K (dC, dI) vwCl (tys ++ ty1 u) s → va_P (dC, dI) vwCl (wr ++ w1 u) H1 → va_D A0 (wr ++ w1 u) → va_S A0 H0 H1 locs1 → W p l e R s m args below meth c H1 locs1 (cells + mc) (slots + ms) Q (F0 m (pc + 3) ls rest)) : W p l e R s m args below meth c H locs cells slots Q (F0 m pc ls st0) := by
  have hF := va_free hD hS hA isC hC
  refine va_callv hr hS (fun q _ h => hF q h) hF (fun u t H1 locs1 ht hvm hw hB hz hk hS1 => ?_)
  obtain ⟨hP1, hK1, hD1⟩ := hB
  rw [ht] at hP1
  obtain ⟨hP2, hD2⟩ := va_join hP hD isC isR hC hR hn hdis hk hF hP1 hD1
  exact kk u H1 locs1 (hK.app (va_K.moved hvm.symm hK1)) hP2 hD2 hS1
end ZZ
/-- whether a CHOICE can be, while there are no CHANGES -/
def tk (x : Int32) : Int32 := if x < 0 then 0 else if x < 1 then 1 else 0
theorem tk_neg {x : Int32} (h : x < 0) : tk x = 0 := by unfold tk; rw [if_pos h]
theorem tk_pos {x : Int32} (h : ¬ x < 0) (h1 : x < 1) : tk x = 1 := by unfold tk; rw [if_neg h, if_pos h1]
theorem tk_out {x : Int32} (h : ¬ x < 0) (h1 : ¬ x < 1) : tk x = 0 := by unfold tk; rw [if_neg h, if_neg h1]
theorem le_m1 {x : Int32} (h : x ≤ -1) : x < 0 := by
  have h1 : x.toInt ≤ (-1 : Int32).toInt := Int32.le_iff_toInt_le.mp h
  have h2 : (-1 : Int32).toInt = -1 := by decide
  have h3 : (0 : Int32).toInt = 0 := by decide
  exact Int32.lt_iff_toInt_lt.mpr (by omega)
theorem nlt_m1 {x : Int32} (h : ¬ -1 < x) : x < 0 := le_m1 (Int32.not_lt.mp h)
/-- whether a number is in a span -/
def isn (v a b : Int32) : Int32 := if v < a then 0 else if b < v then 0 else 1
theorem isn_lo {v a b : Int32} (h : v < a) : isn v a b = 0 := by unfold isn; rw [if_pos h]
theorem isn_hi {v a b : Int32} (h : ¬ v < a) (h1 : b < v) : isn v a b = 0 := by unfold isn; rw [if_neg h, if_pos h1]
theorem isn_in {v a b : Int32} (h : ¬ v < a) (h1 : ¬ b < v) : isn v a b = 1 := by unfold isn; rw [if_neg h, if_neg h1]
theorem isn_hi' {v a b : Int32} (h : ¬ v < a) (h1 : ¬ v ≤ b) : isn v a b = 0 := isn_hi h (Int32.not_le.mp h1)
theorem isn_in' {v a b : Int32} (h : ¬ v < a) (h1 : v ≤ b) : isn v a b = 1 := isn_in h (Int32.not_lt.mpr h1)
/-- what about(what) says while nothing is told -/
def abt (x : Int32) : Int32 := if x < 0 then -1 else if 7 < x then -1 else 0
theorem in_span {x M : Int32} {n : Nat} (hM : M.toInt = n) (h : ¬ x < 0) (h1 : ¬ M < x) : ∃ j : Nat, j ≤ n ∧ x = nI j := nI_of2 hM h (Int32.not_lt.mp h1)
theorem op1 {x : Int32} (h : ¬ (if tk x = 0 then (0 : Int32) else 1) = 0) : (if tk x = 0 then (0 : Int32) else 1) = 1 := by
  by_cases h1 : tk x = 0
  · rw [if_pos h1] at h; exact absurd rfl h
  · exact if_neg h1
theorem isn1 {v a b : Int32} (h : ¬ isn v a b = 0) : isn v a b = 1 := by
  by_cases h1 : v < a
  · exact absurd (isn_lo h1) h
  · by_cases h2 : b < v
    · exact absurd (isn_hi h1 h2) h
    · exact isn_in h1 h2
end
section
theorem dX3_init_0 : decode cX3_init 0 = .ok (.aload_n 0, 1) := by decide +kernel
theorem dX3_init_1 : decode cX3_init 1 = .ok (.invokespecial 3, 3) := by decide +kernel
theorem dX3_init_4 : decode cX3_init 4 = .ok (.aload_n 0, 1) := by decide +kernel
theorem dX3_init_5 : decode cX3_init 5 = .ok (.iconst 2, 1) := by decide +kernel
theorem dX3_init_6 : decode cX3_init 6 = .ok (.anewarray 9, 3) := by decide +kernel
theorem dX3_init_9 : decode cX3_init 9 = .ok (.putfield 11, 3) := by decide +kernel
theorem dX3_init_12 : decode cX3_init 12 = .ok (.aload_n 0, 1) := by decide +kernel
theorem dX3_init_13 : decode cX3_init 13 = .ok (.bipush 12, 2) := by decide +kernel
theorem dX3_init_15 : decode cX3_init 15 = .ok (.anewarray 17, 3) := by decide +kernel
theorem dX3_init_18 : decode cX3_init 18 = .ok (.putfield 19, 3) := by decide +kernel
theorem dX3_init_21 : decode cX3_init 21 = .ok (.aload_n 0, 1) := by decide +kernel
theorem dX3_init_22 : decode cX3_init 22 = .ok (.iconst 4, 1) := by decide +kernel
theorem dX3_init_23 : decode cX3_init 23 = .ok (.newarray .int, 2) := by decide +kernel
theorem dX3_init_25 : decode cX3_init 25 = .ok (.putfield 23, 3) := by decide +kernel
theorem dX3_init_28 : decode cX3_init 28 = .ok (.aload_n 0, 1) := by decide +kernel
theorem dX3_init_29 : decode cX3_init 29 = .ok (.iconst 4, 1) := by decide +kernel
theorem dX3_init_30 : decode cX3_init 30 = .ok (.newarray .int, 2) := by decide +kernel
theorem dX3_init_32 : decode cX3_init 32 = .ok (.putfield 27, 3) := by decide +kernel
theorem dX3_init_35 : decode cX3_init 35 = .ok (.aload_n 0, 1) := by decide +kernel
theorem dX3_init_36 : decode cX3_init 36 = .ok (.iconst 4, 1) := by decide +kernel
theorem dX3_init_37 : decode cX3_init 37 = .ok (.newarray .int, 2) := by decide +kernel
theorem dX3_init_39 : decode cX3_init 39 = .ok (.putfield 30, 3) := by decide +kernel
theorem dX3_init_42 : decode cX3_init 42 = .ok (.aload_n 0, 1) := by decide +kernel
theorem dX3_init_43 : decode cX3_init 43 = .ok (.iconst 0, 1) := by decide +kernel
theorem dX3_init_44 : decode cX3_init 44 = .ok (.putfield 33, 3) := by decide +kernel
theorem dX3_init_47 : decode cX3_init 47 = .ok (.aload_n 0, 1) := by decide +kernel
theorem dX3_init_48 : decode cX3_init 48 = .ok (.iconst 0, 1) := by decide +kernel
theorem dX3_init_49 : decode cX3_init 49 = .ok (.putfield 37, 3) := by decide +kernel
theorem dX3_init_52 : decode cX3_init 52 = .ok (.aload_n 0, 1) := by decide +kernel
theorem dX3_init_53 : decode cX3_init 53 = .ok (.iconst 0, 1) := by decide +kernel
theorem dX3_init_54 : decode cX3_init 54 = .ok (.putfield 40, 3) := by decide +kernel
theorem dX3_init_57 : decode cX3_init 57 = .ok (.return_, 1) := by decide +kernel
theorem dX7_init_0 : decode cX7_init 0 = .ok (.aload_n 0, 1) := by decide +kernel
theorem dX7_init_1 : decode cX7_init 1 = .ok (.invokespecial 3, 3) := by decide +kernel
theorem dX7_init_4 : decode cX7_init 4 = .ok (.aload_n 0, 1) := by decide +kernel
theorem dX7_init_5 : decode cX7_init 5 = .ok (.sipush 492, 3) := by decide +kernel
theorem dX7_init_8 : decode cX7_init 8 = .ok (.newarray .int, 2) := by decide +kernel
theorem dX7_init_10 : decode cX7_init 10 = .ok (.putfield 9, 3) := by decide +kernel
theorem dX7_init_13 : decode cX7_init 13 = .ok (.aload_n 0, 1) := by decide +kernel
theorem dX7_init_14 : decode cX7_init 14 = .ok (.bipush 40, 2) := by decide +kernel
theorem dX7_init_16 : decode cX7_init 16 = .ok (.newarray .boolean, 2) := by decide +kernel
theorem dX7_init_18 : decode cX7_init 18 = .ok (.putfield 15, 3) := by decide +kernel
theorem dX7_init_21 : decode cX7_init 21 = .ok (.aload_n 0, 1) := by decide +kernel
theorem dX7_init_22 : decode cX7_init 22 = .ok (.iconst 0, 1) := by decide +kernel
theorem dX7_init_23 : decode cX7_init 23 = .ok (.putfield 19, 3) := by decide +kernel
theorem dX7_init_26 : decode cX7_init 26 = .ok (.return_, 1) := by decide +kernel
theorem dX0_init_0 : decode cX0_init 0 = .ok (.aload_n 0, 1) := by decide +kernel
theorem dX0_init_1 : decode cX0_init 1 = .ok (.invokespecial 3, 3) := by decide +kernel
theorem dX0_init_4 : decode cX0_init 4 = .ok (.aload_n 0, 1) := by decide +kernel
theorem dX0_init_5 : decode cX0_init 5 = .ok (.bipush 12, 2) := by decide +kernel
theorem dX0_init_7 : decode cX0_init 7 = .ok (.newarray .int, 2) := by decide +kernel
theorem dX0_init_9 : decode cX0_init 9 = .ok (.putfield 9, 3) := by decide +kernel
theorem dX0_init_12 : decode cX0_init 12 = .ok (.aload_n 0, 1) := by decide +kernel
theorem dX0_init_13 : decode cX0_init 13 = .ok (.bipush 12, 2) := by decide +kernel
theorem dX0_init_15 : decode cX0_init 15 = .ok (.newarray .int, 2) := by decide +kernel
theorem dX0_init_17 : decode cX0_init 17 = .ok (.putfield 15, 3) := by decide +kernel
theorem dX0_init_20 : decode cX0_init 20 = .ok (.aload_n 0, 1) := by decide +kernel
theorem dX0_init_21 : decode cX0_init 21 = .ok (.bipush 12, 2) := by decide +kernel
theorem dX0_init_23 : decode cX0_init 23 = .ok (.newarray .int, 2) := by decide +kernel
theorem dX0_init_25 : decode cX0_init 25 = .ok (.putfield 18, 3) := by decide +kernel
theorem dX0_init_28 : decode cX0_init 28 = .ok (.aload_n 0, 1) := by decide +kernel
theorem dX0_init_29 : decode cX0_init 29 = .ok (.bipush 12, 2) := by decide +kernel
theorem dX0_init_31 : decode cX0_init 31 = .ok (.newarray .int, 2) := by decide +kernel
theorem dX0_init_33 : decode cX0_init 33 = .ok (.putfield 21, 3) := by decide +kernel
theorem dX0_init_36 : decode cX0_init 36 = .ok (.aload_n 0, 1) := by decide +kernel
theorem dX0_init_37 : decode cX0_init 37 = .ok (.bipush 12, 2) := by decide +kernel
theorem dX0_init_39 : decode cX0_init 39 = .ok (.newarray .int, 2) := by decide +kernel
theorem dX0_init_41 : decode cX0_init 41 = .ok (.putfield 24, 3) := by decide +kernel
theorem dX0_init_44 : decode cX0_init 44 = .ok (.aload_n 0, 1) := by decide +kernel
theorem dX0_init_45 : decode cX0_init 45 = .ok (.iconst 0, 1) := by decide +kernel
theorem dX0_init_46 : decode cX0_init 46 = .ok (.putfield 27, 3) := by decide +kernel
theorem dX0_init_49 : decode cX0_init 49 = .ok (.aload_n 0, 1) := by decide +kernel
theorem dX0_init_50 : decode cX0_init 50 = .ok (.iconst 0, 1) := by decide +kernel
theorem dX0_init_51 : decode cX0_init 51 = .ok (.putfield 31, 3) := by decide +kernel
theorem dX0_init_54 : decode cX0_init 54 = .ok (.return_, 1) := by decide +kernel
theorem dX8_init_0 : decode cX8_init 0 = .ok (.aload_n 0, 1) := by decide +kernel
theorem dX8_init_1 : decode cX8_init 1 = .ok (.invokespecial 3, 3) := by decide +kernel
theorem dX8_init_4 : decode cX8_init 4 = .ok (.aload_n 0, 1) := by decide +kernel
theorem dX8_init_5 : decode cX8_init 5 = .ok (.bipush 12, 2) := by decide +kernel
theorem dX8_init_7 : decode cX8_init 7 = .ok (.newarray .long, 2) := by decide +kernel
theorem dX8_init_9 : decode cX8_init 9 = .ok (.putfield 9, 3) := by decide +kernel
theorem dX8_init_12 : decode cX8_init 12 = .ok (.aload_n 0, 1) := by decide +kernel
theorem dX8_init_13 : decode cX8_init 13 = .ok (.bipush 12, 2) := by decide +kernel
theorem dX8_init_15 : decode cX8_init 15 = .ok (.newarray .long, 2) := by decide +kernel
theorem dX8_init_17 : decode cX8_init 17 = .ok (.putfield 15, 3) := by decide +kernel
theorem dX8_init_20 : decode cX8_init 20 = .ok (.aload_n 0, 1) := by decide +kernel
theorem dX8_init_21 : decode cX8_init 21 = .ok (.lconst 0, 1) := by decide +kernel
theorem dX8_init_22 : decode cX8_init 22 = .ok (.putfield 18, 3) := by decide +kernel
theorem dX8_init_25 : decode cX8_init 25 = .ok (.aload_n 0, 1) := by decide +kernel
theorem dX8_init_26 : decode cX8_init 26 = .ok (.lconst 0, 1) := by decide +kernel
theorem dX8_init_27 : decode cX8_init 27 = .ok (.putfield 22, 3) := by decide +kernel
theorem dX8_init_30 : decode cX8_init 30 = .ok (.aload_n 0, 1) := by decide +kernel
theorem dX8_init_31 : decode cX8_init 31 = .ok (.iconst 0, 1) := by decide +kernel
theorem dX8_init_32 : decode cX8_init 32 = .ok (.putfield 25, 3) := by decide +kernel
theorem dX8_init_35 : decode cX8_init 35 = .ok (.aload_n 0, 1) := by decide +kernel
theorem dX8_init_36 : decode cX8_init 36 = .ok (.iconst 0, 1) := by decide +kernel
theorem dX8_init_37 : decode cX8_init 37 = .ok (.putfield 29, 3) := by decide +kernel
theorem dX8_init_40 : decode cX8_init 40 = .ok (.aload_n 0, 1) := by decide +kernel
theorem dX8_init_41 : decode cX8_init 41 = .ok (.iconst 0, 1) := by decide +kernel
theorem dX8_init_42 : decode cX8_init 42 = .ok (.putfield 33, 3) := by decide +kernel
theorem dX8_init_45 : decode cX8_init 45 = .ok (.aload_n 0, 1) := by decide +kernel
theorem dX8_init_46 : decode cX8_init 46 = .ok (.aload_n 1, 1) := by decide +kernel
theorem dX8_init_47 : decode cX8_init 47 = .ok (.putfield 36, 3) := by decide +kernel
theorem dX8_init_50 : decode cX8_init 50 = .ok (.aload_n 0, 1) := by decide +kernel
theorem dX8_init_51 : decode cX8_init 51 = .ok (.aload_n 2, 1) := by decide +kernel
theorem dX8_init_52 : decode cX8_init 52 = .ok (.putfield 40, 3) := by decide +kernel
theorem dX8_init_55 : decode cX8_init 55 = .ok (.return_, 1) := by decide +kernel
theorem dX10_init_0 : decode cX10_init 0 = .ok (.aload_n 0, 1) := by decide +kernel
theorem dX10_init_1 : decode cX10_init 1 = .ok (.invokespecial 3, 3) := by decide +kernel
theorem dX10_init_4 : decode cX10_init 4 = .ok (.aload_n 0, 1) := by decide +kernel
theorem dX10_init_5 : decode cX10_init 5 = .ok (.sipush 492, 3) := by decide +kernel
theorem dX10_init_8 : decode cX10_init 8 = .ok (.newarray .long, 2) := by decide +kernel
theorem dX10_init_10 : decode cX10_init 10 = .ok (.putfield 9, 3) := by decide +kernel
theorem dX10_init_13 : decode cX10_init 13 = .ok (.aload_n 0, 1) := by decide +kernel
theorem dX10_init_14 : decode cX10_init 14 = .ok (.sipush 492, 3) := by decide +kernel
theorem dX10_init_17 : decode cX10_init 17 = .ok (.newarray .long, 2) := by decide +kernel
theorem dX10_init_19 : decode cX10_init 19 = .ok (.putfield 15, 3) := by decide +kernel
theorem dX10_init_22 : decode cX10_init 22 = .ok (.aload_n 0, 1) := by decide +kernel
theorem dX10_init_23 : decode cX10_init 23 = .ok (.aload_n 1, 1) := by decide +kernel
theorem dX10_init_24 : decode cX10_init 24 = .ok (.putfield 18, 3) := by decide +kernel
theorem dX10_init_27 : decode cX10_init 27 = .ok (.aload_n 0, 1) := by decide +kernel
theorem dX10_init_28 : decode cX10_init 28 = .ok (.aload_n 2, 1) := by decide +kernel
theorem dX10_init_29 : decode cX10_init 29 = .ok (.putfield 22, 3) := by decide +kernel
theorem dX10_init_32 : decode cX10_init 32 = .ok (.aload_n 0, 1) := by decide +kernel
theorem dX10_init_33 : decode cX10_init 33 = .ok (.aload_n 3, 1) := by decide +kernel
theorem dX10_init_34 : decode cX10_init 34 = .ok (.putfield 26, 3) := by decide +kernel
theorem dX10_init_37 : decode cX10_init 37 = .ok (.return_, 1) := by decide +kernel
theorem dX11_init_0 : decode cX11_init 0 = .ok (.aload_n 0, 1) := by decide +kernel
theorem dX11_init_1 : decode cX11_init 1 = .ok (.invokespecial 3, 3) := by decide +kernel
theorem dX11_init_4 : decode cX11_init 4 = .ok (.aload_n 0, 1) := by decide +kernel
theorem dX11_init_5 : decode cX11_init 5 = .ok (.sipush 1000, 3) := by decide +kernel
theorem dX11_init_8 : decode cX11_init 8 = .ok (.newarray .byte, 2) := by decide +kernel
theorem dX11_init_10 : decode cX11_init 10 = .ok (.putfield 9, 3) := by decide +kernel
theorem dX11_init_13 : decode cX11_init 13 = .ok (.aload_n 0, 1) := by decide +kernel
theorem dX11_init_14 : decode cX11_init 14 = .ok (.iconst 0, 1) := by decide +kernel
theorem dX11_init_15 : decode cX11_init 15 = .ok (.putfield 13, 3) := by decide +kernel
theorem dX11_init_18 : decode cX11_init 18 = .ok (.aload_n 0, 1) := by decide +kernel
theorem dX11_init_19 : decode cX11_init 19 = .ok (.iconst 0, 1) := by decide +kernel
theorem dX11_init_20 : decode cX11_init 20 = .ok (.putfield 17, 3) := by decide +kernel
theorem dX11_init_23 : decode cX11_init 23 = .ok (.aload_n 0, 1) := by decide +kernel
theorem dX11_init_24 : decode cX11_init 24 = .ok (.iconst (-1), 1) := by decide +kernel
theorem dX11_init_25 : decode cX11_init 25 = .ok (.putfield 20, 3) := by decide +kernel
theorem dX11_init_28 : decode cX11_init 28 = .ok (.aload_n 0, 1) := by decide +kernel
theorem dX11_init_29 : decode cX11_init 29 = .ok (.new 23, 3) := by decide +kernel
theorem dX11_init_32 : decode cX11_init 32 = .ok (.dup, 1) := by decide +kernel
theorem dX11_init_33 : decode cX11_init 33 = .ok (.invokespecial 25, 3) := by decide +kernel
theorem dX11_init_36 : decode cX11_init 36 = .ok (.putfield 26, 3) := by decide +kernel
theorem dX11_init_39 : decode cX11_init 39 = .ok (.aload_n 0, 1) := by decide +kernel
theorem dX11_init_40 : decode cX11_init 40 = .ok (.new 30, 3) := by decide +kernel
theorem dX11_init_43 : decode cX11_init 43 = .ok (.dup, 1) := by decide +kernel
theorem dX11_init_44 : decode cX11_init 44 = .ok (.invokespecial 32, 3) := by decide +kernel
theorem dX11_init_47 : decode cX11_init 47 = .ok (.putfield 33, 3) := by decide +kernel
theorem dX11_init_50 : decode cX11_init 50 = .ok (.aload_n 0, 1) := by decide +kernel
theorem dX11_init_51 : decode cX11_init 51 = .ok (.new 37, 3) := by decide +kernel
theorem dX11_init_54 : decode cX11_init 54 = .ok (.dup, 1) := by decide +kernel
theorem dX11_init_55 : decode cX11_init 55 = .ok (.invokespecial 39, 3) := by decide +kernel
theorem dX11_init_58 : decode cX11_init 58 = .ok (.putfield 40, 3) := by decide +kernel
theorem dX11_init_61 : decode cX11_init 61 = .ok (.aload_n 0, 1) := by decide +kernel
theorem dX11_init_62 : decode cX11_init 62 = .ok (.new 44, 3) := by decide +kernel
theorem dX11_init_65 : decode cX11_init 65 = .ok (.dup, 1) := by decide +kernel
theorem dX11_init_66 : decode cX11_init 66 = .ok (.aload_n 0, 1) := by decide +kernel
theorem dX11_init_67 : decode cX11_init 67 = .ok (.getfield 26, 3) := by decide +kernel
theorem dX11_init_70 : decode cX11_init 70 = .ok (.aload_n 0, 1) := by decide +kernel
theorem dX11_init_71 : decode cX11_init 71 = .ok (.getfield 40, 3) := by decide +kernel
theorem dX11_init_74 : decode cX11_init 74 = .ok (.invokespecial 46, 3) := by decide +kernel
theorem dX11_init_77 : decode cX11_init 77 = .ok (.putfield 49, 3) := by decide +kernel
theorem dX11_init_80 : decode cX11_init 80 = .ok (.aload_n 0, 1) := by decide +kernel
theorem dX11_init_81 : decode cX11_init 81 = .ok (.new 53, 3) := by decide +kernel
theorem dX11_init_84 : decode cX11_init 84 = .ok (.dup, 1) := by decide +kernel
theorem dX11_init_85 : decode cX11_init 85 = .ok (.aload_n 0, 1) := by decide +kernel
theorem dX11_init_86 : decode cX11_init 86 = .ok (.getfield 26, 3) := by decide +kernel
theorem dX11_init_89 : decode cX11_init 89 = .ok (.aload_n 0, 1) := by decide +kernel
theorem dX11_init_90 : decode cX11_init 90 = .ok (.getfield 33, 3) := by decide +kernel
theorem dX11_init_93 : decode cX11_init 93 = .ok (.aload_n 0, 1) := by decide +kernel
theorem dX11_init_94 : decode cX11_init 94 = .ok (.getfield 40, 3) := by decide +kernel
theorem dX11_init_97 : decode cX11_init 97 = .ok (.invokespecial 55, 3) := by decide +kernel
theorem dX11_init_100 : decode cX11_init 100 = .ok (.putfield 58, 3) := by decide +kernel
theorem dX11_init_103 : decode cX11_init 103 = .ok (.aload_n 0, 1) := by decide +kernel
theorem dX11_init_104 : decode cX11_init 104 = .ok (.iconst 4, 1) := by decide +kernel
theorem dX11_init_105 : decode cX11_init 105 = .ok (.newarray .int, 2) := by decide +kernel
theorem dX11_init_107 : decode cX11_init 107 = .ok (.putfield 62, 3) := by decide +kernel
theorem dX11_init_110 : decode cX11_init 110 = .ok (.aload_n 0, 1) := by decide +kernel
theorem dX11_init_111 : decode cX11_init 111 = .ok (.iconst 4, 1) := by decide +kernel
theorem dX11_init_112 : decode cX11_init 112 = .ok (.newarray .int, 2) := by decide +kernel
theorem dX11_init_114 : decode cX11_init 114 = .ok (.putfield 66, 3) := by decide +kernel
theorem dX11_init_117 : decode cX11_init 117 = .ok (.aload_n 0, 1) := by decide +kernel
theorem dX11_init_118 : decode cX11_init 118 = .ok (.iconst 4, 1) := by decide +kernel
theorem dX11_init_119 : decode cX11_init 119 = .ok (.newarray .int, 2) := by decide +kernel
theorem dX11_init_121 : decode cX11_init 121 = .ok (.putfield 69, 3) := by decide +kernel
theorem dX11_init_124 : decode cX11_init 124 = .ok (.aload_n 0, 1) := by decide +kernel
theorem dX11_init_125 : decode cX11_init 125 = .ok (.iconst 0, 1) := by decide +kernel
theorem dX11_init_126 : decode cX11_init 126 = .ok (.putfield 72, 3) := by decide +kernel
theorem dX11_init_129 : decode cX11_init 129 = .ok (.aload_n 0, 1) := by decide +kernel
theorem dX11_init_130 : decode cX11_init 130 = .ok (.iconst 0, 1) := by decide +kernel
theorem dX11_init_131 : decode cX11_init 131 = .ok (.putfield 75, 3) := by decide +kernel
theorem dX11_init_134 : decode cX11_init 134 = .ok (.aload_n 0, 1) := by decide +kernel
theorem dX11_init_135 : decode cX11_init 135 = .ok (.iconst 4, 1) := by decide +kernel
theorem dX11_init_136 : decode cX11_init 136 = .ok (.newarray .long, 2) := by decide +kernel
theorem dX11_init_138 : decode cX11_init 138 = .ok (.putfield 78, 3) := by decide +kernel
theorem dX11_init_141 : decode cX11_init 141 = .ok (.aload_n 0, 1) := by decide +kernel
theorem dX11_init_142 : decode cX11_init 142 = .ok (.aconst_null, 1) := by decide +kernel
theorem dX11_init_143 : decode cX11_init 143 = .ok (.putfield 82, 3) := by decide +kernel
theorem dX11_init_146 : decode cX11_init 146 = .ok (.aload_n 0, 1) := by decide +kernel
theorem dX11_init_147 : decode cX11_init 147 = .ok (.aconst_null, 1) := by decide +kernel
theorem dX11_init_148 : decode cX11_init 148 = .ok (.putfield 86, 3) := by decide +kernel
theorem dX11_init_151 : decode cX11_init 151 = .ok (.return_, 1) := by decide +kernel
def ow_c_Program_init : List Cond := [.methodLink RX3 3 objectInit, .instanceMethod objectInit, .code objectInit ⟨#[0xb1]⟩ 1 none, .classLink RX3 9 RX5, .fieldLink RX3 11 "NearEnough$Program" "rows" "[LNearEnough$Row;", .classLink RX3 17 RX9, .fieldLink RX3 19 "NearEnough$Program" "steps" "[LNearEnough$Step;", .arrayClass .int, .fieldLink RX3 23 "NearEnough$Program" "endStep" "[I", .fieldLink RX3 27 "NearEnough$Program" "endOff" "[I", .fieldLink RX3 30 "NearEnough$Program" "endKind" "[I", .fieldLink RX3 33 "NearEnough$Program" "rowCount" "I", .fieldLink RX3 37 "NearEnough$Program" "stepCount" "I", .fieldLink RX3 40 "NearEnough$Program" "endCount" "I"]
def vs_c_Program_init : List Cond := .code yX3_init cX3_init 1 none :: (ow_c_Program_init ++ (wsX30))
theorem vg_c_Program_init : vs_c_Program_init.all goodWord = true := by decide +kernel
set_option maxHeartbeats 4000000 in
set_option maxRecDepth 100000 in
/-- new Program(): nothing told -/
theorem c_Program_init (l : Launch) (dC : Nat → ClassId) (dI : Nat → Nat → Nat) (h0 : Nat) (sz : Nat) : Met l yX3_init vs_c_Program_init ({ frames := 1, cells := 5, slots := 26, locals := 24 }) (va_Pc [.ref h0] (wSt dC dI [(h0, .inr (3, [.null, .null, .null, .null, .null, .int 0, .int 0, .int 0]))] [] sz)) (va_Qv (fun (_ : Nat × Nat × Nat × Nat × Nat × ClassId × ClassId × ClassId × ClassId × ClassId) => True) (fun (u : Nat × Nat × Nat × Nat × Nat × ClassId × ClassId × ClassId × ClassId × ClassId) => wEn dC dI (va_A [(h0, .inr (3, [.null, .null, .null, .null, .null, .int 0, .int 0, .int 0]))] sz) [(h0, .inr (3, [.ref u.1, .ref u.2.1, .ref u.2.2.1, .ref u.2.2.2.1, .ref u.2.2.2.2.1, .int 0, .int 0, .int 0])), (u.1, .inl (u.2.2.2.2.2.1, 2, .inr (.inr (.inr (.inr (fun _ => none)))))), (u.2.1, .inl (u.2.2.2.2.2.2.1, 12, .inr (.inr (.inr (.inr (fun _ => none)))))), (u.2.2.1, .inl (u.2.2.2.2.2.2.2.1, 4, .inl (fun _ => 0))), (u.2.2.2.1, .inl (u.2.2.2.2.2.2.2.2.1, 4, .inl (fun _ => 0))), (u.2.2.2.2.1, .inl (u.2.2.2.2.2.2.2.2.2, 4, .inl (fun _ => 0)))] [(u.2.2.2.2.2.1, .object RX5), (u.2.2.2.2.2.2.1, .object RX9), (u.2.2.2.2.2.2.2.1, .int), (u.2.2.2.2.2.2.2.2.1, .int), (u.2.2.2.2.2.2.2.2.2, .int)]) (va_A [(h0, .inr (3, [.null, .null, .null, .null, .null, .int 0, .int 0, .int 0]))] sz)) 5 26 (va_A [(h0, .inr (3, [.null, .null, .null, .null, .null, .int 0, .int 0, .int 0]))] sz) := by
  refine Met.ofW (cc := cX3_init) (maxL := 1) (ret := none) (by decide) rfl ?_
  intro p e s m args below meth c s₁ B hml hv
  obtain ⟨rfl, hsz, hP, hK, hD0, hE⟩ := hv
  have hx := B.exec
  have hb := B.bytes
  have hr := B.returns
  have hts := atoms_spec (ws := vs_c_Program_init) B.pre
  have hown : s.vm.findClass RX3 = some m.cls := findClass_of_methodNamed B.named
  have hlocks := B.notSynchronized
  have hin : meth.name = "<init>" := (name_of_methodNamed B.named B.method).1
  subst hsz
  have hD := hD0.self (sz := s.heap.size)
  generalize hAe : va_A [(h0, .inr (3, [.null, .null, .null, .null, .null, .int 0, .int 0, .int 0]))] s.heap.size = A at hD ⊢
  have hA : ∀ q : Nat, s.heap.size ≤ q → A q := fun q h => by rw [← hAe]; exact Or.inr h
  have hl := lv_entry ([.ref h0]) (n := 1) (Nat.le_of_ble_eq_true rfl)
  rw [lg_entry_eq]
  generalize (lg_sl ([.ref h0]) ++ List.replicate (1 - (lg_sl ([.ref h0])).length) Slot.unset).toArray = ls at hl ⊢
  have hl : lv_has ls 1 [(0, .ref h0)] := hl
  refine zH (A := A) (ws := [(h0, .inr (3, [.null, .null, .null, .null, .null, .int 0, .int 0, .int 0]))]) (fun H hP hS => ?_) hP
  have ho := fun w (h : w ∈ ow_c_Program_init) => hts w (List.mem_cons_of_mem _ (List.mem_append_left _ h))
  have hin3 : ∀ w ∈ u_ws RX3 TX3 8, w ∈ vs_c_Program_init := fun w h => (List.mem_cons_of_mem _ (List.mem_append_right _ h))
  refine lv_aload_n hx hb dX3_init_0 rfl (lv_at hl 0 rfl) ?_
  refine W.objInit hx hb hown (ho (.methodLink RX3 3 objectInit) (List.mem_of_getElem? (i := 0) rfl)) (ho (.instanceMethod objectInit) (List.mem_of_getElem? (i := 1) rfl)) (ho (.code objectInit ⟨#[0xb1]⟩ 1 none) (List.mem_of_getElem? (i := 2) rfl)) rfl (by rw [hml]; exact hl.1) rfl dX3_init_1 (Nat.le_of_ble_eq_true rfl) (Nat.le_of_ble_eq_true rfl) ?_
  refine W.eq (g2 := F0 m 4 ls []) rfl ?_
  refine lv_aload_n hx hb dX3_init_4 rfl (lv_at hl 0 rfl) ?_
  refine lv_iconst (v := 2) hx hb dX3_init_5 (by decide) ?_
  refine va_newq (C := RX5) (N' := 2) hx hb hown (ho (.classLink RX3 9 RX5) (List.mem_of_getElem? (i := 3) rfl)) hE.ao5 hK hP hD hS hA (by decide) (by decide) (by decide +kernel) (Nat.le_of_ble_eq_true rfl) (Nat.le_of_ble_eq_true rfl) dX3_init_6 (fun q1 k2 H hK hP hD hS => ?_)
  have hP : va_P (dC, dI) vwCl [(h0, .inr (3, [.null, .null, .null, .null, .null, .int 0, .int 0, .int 0])), (q1, .inl (k2, 2, .inr (.inr (.inr (.inr (fun _ => none))))))] H := hP
  have hD : va_D A [(h0, .inr (3, [.null, .null, .null, .null, .null, .int 0, .int 0, .int 0])), (q1, .inl (k2, 2, .inr (.inr (.inr (.inr (fun _ => none))))))] := hD
  have hK : va_K (dC, dI) vwCl [(k2, .object RX5)] s := hK
  refine W.widen (k := 1) (n := 2) (Nat.le_of_ble_eq_true rfl) (Nat.le_of_ble_eq_true rfl) ?_
  refine va_putF (D := (dC, dI)) (ci := 3) (v := .ref q1) (ty := tyX3 0) (C := RX3) (T := TX3) (N := 8) hx hb hts hin3 tyX3 tyX3_ok nmX3 hown hK hP hD hS 0 rfl rfl 0 (by decide) (ho (.fieldLink RX3 11 "NearEnough$Program" "rows" "[LNearEnough$Row;") (List.mem_of_getElem? (i := 4) rfl)) (fun _ h9 => h9) rfl hin rfl (by decide +kernel) rfl rfl (Nat.le_of_ble_eq_true rfl) dX3_init_9 (fun H locs hP hD hS => ?_)
  have hP : va_P (dC, dI) vwCl [(h0, .inr (3, [.ref q1, .null, .null, .null, .null, .int 0, .int 0, .int 0])), (q1, .inl (k2, 2, .inr (.inr (.inr (.inr (fun _ => none))))))] H := hP
  have hD : va_D A [(h0, .inr (3, [.ref q1, .null, .null, .null, .null, .int 0, .int 0, .int 0])), (q1, .inl (k2, 2, .inr (.inr (.inr (.inr (fun _ => none))))))] := hD
  refine lv_aload_n hx hb dX3_init_12 rfl (lv_at hl 0 rfl) ?_
  refine lv_bipush (v := 12) hx hb dX3_init_13 (by decide) ?_
  refine va_newq (C := RX9) (N' := 12) hx hb hown (ho (.classLink RX3 17 RX9) (List.mem_of_getElem? (i := 5) rfl)) hE.ao9 hK hP hD hS hA (by decide) (by decide) (by decide +kernel) (Nat.le_of_ble_eq_true rfl) (Nat.le_of_ble_eq_true rfl) dX3_init_15 (fun q3 k4 H hK hP hD hS => ?_)
  have hP : va_P (dC, dI) vwCl [(h0, .inr (3, [.ref q1, .null, .null, .null, .null, .int 0, .int 0, .int 0])), (q1, .inl (k2, 2, .inr (.inr (.inr (.inr (fun _ => none)))))), (q3, .inl (k4, 12, .inr (.inr (.inr (.inr (fun _ => none))))))] H := hP
  have hD : va_D A [(h0, .inr (3, [.ref q1, .null, .null, .null, .null, .int 0, .int 0, .int 0])), (q1, .inl (k2, 2, .inr (.inr (.inr (.inr (fun _ => none)))))), (q3, .inl (k4, 12, .inr (.inr (.inr (.inr (fun _ => none))))))] := hD
  have hK : va_K (dC, dI) vwCl [(k2, .object RX5), (k4, .object RX9)] s := hK
  refine W.widen (k := 2) (n := 14) (Nat.le_of_ble_eq_true rfl) (Nat.le_of_ble_eq_true rfl) ?_
  refine va_putF (D := (dC, dI)) (ci := 3) (v := .ref q3) (ty := tyX3 1) (C := RX3) (T := TX3) (N := 8) hx hb hts hin3 tyX3 tyX3_ok nmX3 hown hK hP hD hS 0 rfl rfl 1 (by decide) (ho (.fieldLink RX3 19 "NearEnough$Program" "steps" "[LNearEnough$Step;") (List.mem_of_getElem? (i := 6) rfl)) (fun _ h9 => h9) rfl hin rfl (by decide +kernel) rfl rfl (Nat.le_of_ble_eq_true rfl) dX3_init_18 (fun H locs hP hD hS => ?_)
  have hP : va_P (dC, dI) vwCl [(h0, .inr (3, [.ref q1, .ref q3, .null, .null, .null, .int 0, .int 0, .int 0])), (q1, .inl (k2, 2, .inr (.inr (.inr (.inr (fun _ => none)))))), (q3, .inl (k4, 12, .inr (.inr (.inr (.inr (fun _ => none))))))] H := hP
  have hD : va_D A [(h0, .inr (3, [.ref q1, .ref q3, .null, .null, .null, .int 0, .int 0, .int 0])), (q1, .inl (k2, 2, .inr (.inr (.inr (.inr (fun _ => none)))))), (q3, .inl (k4, 12, .inr (.inr (.inr (.inr (fun _ => none))))))] := hD
  refine lv_aload_n hx hb dX3_init_21 rfl (lv_at hl 0 rfl) ?_
  refine lv_iconst (v := 4) hx hb dX3_init_22 (by decide) ?_
  refine va_newa (atype := .int) (ty := .int) (a0 := (4, .inl (fun _ => 0))) (N' := 4) hx hb (ho (.arrayClass .int) (List.mem_of_getElem? (i := 7) rfl)) rfl hK hP hD hS hA (fun _ => rfl) (by decide) (by decide) (by decide +kernel) (Nat.le_of_ble_eq_true rfl) (Nat.le_of_ble_eq_true rfl) dX3_init_23 (fun q5 k6 H hK hP hD hS => ?_)
  have hP : va_P (dC, dI) vwCl [(h0, .inr (3, [.ref q1, .ref q3, .null, .null, .null, .int 0, .int 0, .int 0])), (q1, .inl (k2, 2, .inr (.inr (.inr (.inr (fun _ => none)))))), (q3, .inl (k4, 12, .inr (.inr (.inr (.inr (fun _ => none)))))), (q5, .inl (k6, 4, .inl (fun _ => 0)))] H := hP
  have hD : va_D A [(h0, .inr (3, [.ref q1, .ref q3, .null, .null, .null, .int 0, .int 0, .int 0])), (q1, .inl (k2, 2, .inr (.inr (.inr (.inr (fun _ => none)))))), (q3, .inl (k4, 12, .inr (.inr (.inr (.inr (fun _ => none)))))), (q5, .inl (k6, 4, .inl (fun _ => 0)))] := hD
  have hK : va_K (dC, dI) vwCl [(k2, .object RX5), (k4, .object RX9), (k6, .int)] s := hK
  refine W.widen (k := 3) (n := 18) (Nat.le_of_ble_eq_true rfl) (Nat.le_of_ble_eq_true rfl) ?_
  refine va_putF (D := (dC, dI)) (ci := 3) (v := .ref q5) (ty := tyX3 2) (C := RX3) (T := TX3) (N := 8) hx hb hts hin3 tyX3 tyX3_ok nmX3 hown hK hP hD hS 0 rfl rfl 2 (by decide) (ho (.fieldLink RX3 23 "NearEnough$Program" "endStep" "[I") (List.mem_of_getElem? (i := 8) rfl)) (fun _ h9 => h9) rfl hin rfl (by decide +kernel) rfl rfl (Nat.le_of_ble_eq_true rfl) dX3_init_25 (fun H locs hP hD hS => ?_)
  have hP : va_P (dC, dI) vwCl [(h0, .inr (3, [.ref q1, .ref q3, .ref q5, .null, .null, .int 0, .int 0, .int 0])), (q1, .inl (k2, 2, .inr (.inr (.inr (.inr (fun _ => none)))))), (q3, .inl (k4, 12, .inr (.inr (.inr (.inr (fun _ => none)))))), (q5, .inl (k6, 4, .inl (fun _ => 0)))] H := hP
  have hD : va_D A [(h0, .inr (3, [.ref q1, .ref q3, .ref q5, .null, .null, .int 0, .int 0, .int 0])), (q1, .inl (k2, 2, .inr (.inr (.inr (.inr (fun _ => none)))))), (q3, .inl (k4, 12, .inr (.inr (.inr (.inr (fun _ => none)))))), (q5, .inl (k6, 4, .inl (fun _ => 0)))] := hD
  refine lv_aload_n hx hb dX3_init_28 rfl (lv_at hl 0 rfl) ?_
  refine lv_iconst (v := 4) hx hb dX3_init_29 (by decide) ?_
  refine va_newa (atype := .int) (ty := .int) (a0 := (4, .inl (fun _ => 0))) (N' := 4) hx hb (ho (.arrayClass .int) (List.mem_of_getElem? (i := 7) rfl)) rfl hK hP hD hS hA (fun _ => rfl) (by decide) (by decide) (by decide +kernel) (Nat.le_of_ble_eq_true rfl) (Nat.le_of_ble_eq_true rfl) dX3_init_30 (fun q7 k8 H hK hP hD hS => ?_)
  have hP : va_P (dC, dI) vwCl [(h0, .inr (3, [.ref q1, .ref q3, .ref q5, .null, .null, .int 0, .int 0, .int 0])), (q1, .inl (k2, 2, .inr (.inr (.inr (.inr (fun _ => none)))))), (q3, .inl (k4, 12, .inr (.inr (.inr (.inr (fun _ => none)))))), (q5, .inl (k6, 4, .inl (fun _ => 0))), (q7, .inl (k8, 4, .inl (fun _ => 0)))] H := hP
  have hD : va_D A [(h0, .inr (3, [.ref q1, .ref q3, .ref q5, .null, .null, .int 0, .int 0, .int 0])), (q1, .inl (k2, 2, .inr (.inr (.inr (.inr (fun _ => none)))))), (q3, .inl (k4, 12, .inr (.inr (.inr (.inr (fun _ => none)))))), (q5, .inl (k6, 4, .inl (fun _ => 0))), (q7, .inl (k8, 4, .inl (fun _ => 0)))] := hD
  have hK : va_K (dC, dI) vwCl [(k2, .object RX5), (k4, .object RX9), (k6, .int), (k8, .int)] s := hK
  refine W.widen (k := 4) (n := 22) (Nat.le_of_ble_eq_true rfl) (Nat.le_of_ble_eq_true rfl) ?_
  refine va_putF (D := (dC, dI)) (ci := 3) (v := .ref q7) (ty := tyX3 3) (C := RX3) (T := TX3) (N := 8) hx hb hts hin3 tyX3 tyX3_ok nmX3 hown hK hP hD hS 0 rfl rfl 3 (by decide) (ho (.fieldLink RX3 27 "NearEnough$Program" "endOff" "[I") (List.mem_of_getElem? (i := 9) rfl)) (fun _ h9 => h9) rfl hin rfl (by decide +kernel) rfl rfl (Nat.le_of_ble_eq_true rfl) dX3_init_32 (fun H locs hP hD hS => ?_)
  have hP : va_P (dC, dI) vwCl [(h0, .inr (3, [.ref q1, .ref q3, .ref q5, .ref q7, .null, .int 0, .int 0, .int 0])), (q1, .inl (k2, 2, .inr (.inr (.inr (.inr (fun _ => none)))))), (q3, .inl (k4, 12, .inr (.inr (.inr (.inr (fun _ => none)))))), (q5, .inl (k6, 4, .inl (fun _ => 0))), (q7, .inl (k8, 4, .inl (fun _ => 0)))] H := hP
  have hD : va_D A [(h0, .inr (3, [.ref q1, .ref q3, .ref q5, .ref q7, .null, .int 0, .int 0, .int 0])), (q1, .inl (k2, 2, .inr (.inr (.inr (.inr (fun _ => none)))))), (q3, .inl (k4, 12, .inr (.inr (.inr (.inr (fun _ => none)))))), (q5, .inl (k6, 4, .inl (fun _ => 0))), (q7, .inl (k8, 4, .inl (fun _ => 0)))] := hD
  refine lv_aload_n hx hb dX3_init_35 rfl (lv_at hl 0 rfl) ?_
  refine lv_iconst (v := 4) hx hb dX3_init_36 (by decide) ?_
  refine va_newa (atype := .int) (ty := .int) (a0 := (4, .inl (fun _ => 0))) (N' := 4) hx hb (ho (.arrayClass .int) (List.mem_of_getElem? (i := 7) rfl)) rfl hK hP hD hS hA (fun _ => rfl) (by decide) (by decide) (by decide +kernel) (Nat.le_of_ble_eq_true rfl) (Nat.le_of_ble_eq_true rfl) dX3_init_37 (fun q9 k10 H hK hP hD hS => ?_)
  have hP : va_P (dC, dI) vwCl [(h0, .inr (3, [.ref q1, .ref q3, .ref q5, .ref q7, .null, .int 0, .int 0, .int 0])), (q1, .inl (k2, 2, .inr (.inr (.inr (.inr (fun _ => none)))))), (q3, .inl (k4, 12, .inr (.inr (.inr (.inr (fun _ => none)))))), (q5, .inl (k6, 4, .inl (fun _ => 0))), (q7, .inl (k8, 4, .inl (fun _ => 0))), (q9, .inl (k10, 4, .inl (fun _ => 0)))] H := hP
  have hD : va_D A [(h0, .inr (3, [.ref q1, .ref q3, .ref q5, .ref q7, .null, .int 0, .int 0, .int 0])), (q1, .inl (k2, 2, .inr (.inr (.inr (.inr (fun _ => none)))))), (q3, .inl (k4, 12, .inr (.inr (.inr (.inr (fun _ => none)))))), (q5, .inl (k6, 4, .inl (fun _ => 0))), (q7, .inl (k8, 4, .inl (fun _ => 0))), (q9, .inl (k10, 4, .inl (fun _ => 0)))] := hD
  have hK : va_K (dC, dI) vwCl [(k2, .object RX5), (k4, .object RX9), (k6, .int), (k8, .int), (k10, .int)] s := hK
  refine W.widen (k := 5) (n := 26) (Nat.le_of_ble_eq_true rfl) (Nat.le_of_ble_eq_true rfl) ?_
  refine va_putF (D := (dC, dI)) (ci := 3) (v := .ref q9) (ty := tyX3 4) (C := RX3) (T := TX3) (N := 8) hx hb hts hin3 tyX3 tyX3_ok nmX3 hown hK hP hD hS 0 rfl rfl 4 (by decide) (ho (.fieldLink RX3 30 "NearEnough$Program" "endKind" "[I") (List.mem_of_getElem? (i := 10) rfl)) (fun _ h9 => h9) rfl hin rfl (by decide +kernel) rfl rfl (Nat.le_of_ble_eq_true rfl) dX3_init_39 (fun H locs hP hD hS => ?_)
  have hP : va_P (dC, dI) vwCl [(h0, .inr (3, [.ref q1, .ref q3, .ref q5, .ref q7, .ref q9, .int 0, .int 0, .int 0])), (q1, .inl (k2, 2, .inr (.inr (.inr (.inr (fun _ => none)))))), (q3, .inl (k4, 12, .inr (.inr (.inr (.inr (fun _ => none)))))), (q5, .inl (k6, 4, .inl (fun _ => 0))), (q7, .inl (k8, 4, .inl (fun _ => 0))), (q9, .inl (k10, 4, .inl (fun _ => 0)))] H := hP
  have hD : va_D A [(h0, .inr (3, [.ref q1, .ref q3, .ref q5, .ref q7, .ref q9, .int 0, .int 0, .int 0])), (q1, .inl (k2, 2, .inr (.inr (.inr (.inr (fun _ => none)))))), (q3, .inl (k4, 12, .inr (.inr (.inr (.inr (fun _ => none)))))), (q5, .inl (k6, 4, .inl (fun _ => 0))), (q7, .inl (k8, 4, .inl (fun _ => 0))), (q9, .inl (k10, 4, .inl (fun _ => 0)))] := hD
  refine lv_aload_n hx hb dX3_init_42 rfl (lv_at hl 0 rfl) ?_
  refine lv_iconst (v := 0) hx hb dX3_init_43 (by decide) ?_
  refine va_put (D := (dC, dI)) (ci := 3) (v := .int 0) (ty := tyX3 5) (C := RX3) (T := TX3) (N := 8) hx hb hts hin3 tyX3 tyX3_ok nmX3 hown hK hP hD hS 0 rfl rfl 5 (by decide) (ho (.fieldLink RX3 33 "NearEnough$Program" "rowCount" "I") (List.mem_of_getElem? (i := 11) rfl)) (fun _ h9 => h9) rfl (by decide +kernel) rfl rfl (Nat.le_of_ble_eq_true rfl) dX3_init_44 (fun H locs hP hD hS => ?_)
  have hP : va_P (dC, dI) vwCl [(h0, .inr (3, [.ref q1, .ref q3, .ref q5, .ref q7, .ref q9, .int 0, .int 0, .int 0])), (q1, .inl (k2, 2, .inr (.inr (.inr (.inr (fun _ => none)))))), (q3, .inl (k4, 12, .inr (.inr (.inr (.inr (fun _ => none)))))), (q5, .inl (k6, 4, .inl (fun _ => 0))), (q7, .inl (k8, 4, .inl (fun _ => 0))), (q9, .inl (k10, 4, .inl (fun _ => 0)))] H := hP
  have hD : va_D A [(h0, .inr (3, [.ref q1, .ref q3, .ref q5, .ref q7, .ref q9, .int 0, .int 0, .int 0])), (q1, .inl (k2, 2, .inr (.inr (.inr (.inr (fun _ => none)))))), (q3, .inl (k4, 12, .inr (.inr (.inr (.inr (fun _ => none)))))), (q5, .inl (k6, 4, .inl (fun _ => 0))), (q7, .inl (k8, 4, .inl (fun _ => 0))), (q9, .inl (k10, 4, .inl (fun _ => 0)))] := hD
  refine lv_aload_n hx hb dX3_init_47 rfl (lv_at hl 0 rfl) ?_
  refine lv_iconst (v := 0) hx hb dX3_init_48 (by decide) ?_
  refine va_put (D := (dC, dI)) (ci := 3) (v := .int 0) (ty := tyX3 6) (C := RX3) (T := TX3) (N := 8) hx hb hts hin3 tyX3 tyX3_ok nmX3 hown hK hP hD hS 0 rfl rfl 6 (by decide) (ho (.fieldLink RX3 37 "NearEnough$Program" "stepCount" "I") (List.mem_of_getElem? (i := 12) rfl)) (fun _ h9 => h9) rfl (by decide +kernel) rfl rfl (Nat.le_of_ble_eq_true rfl) dX3_init_49 (fun H locs hP hD hS => ?_)
  have hP : va_P (dC, dI) vwCl [(h0, .inr (3, [.ref q1, .ref q3, .ref q5, .ref q7, .ref q9, .int 0, .int 0, .int 0])), (q1, .inl (k2, 2, .inr (.inr (.inr (.inr (fun _ => none)))))), (q3, .inl (k4, 12, .inr (.inr (.inr (.inr (fun _ => none)))))), (q5, .inl (k6, 4, .inl (fun _ => 0))), (q7, .inl (k8, 4, .inl (fun _ => 0))), (q9, .inl (k10, 4, .inl (fun _ => 0)))] H := hP
  have hD : va_D A [(h0, .inr (3, [.ref q1, .ref q3, .ref q5, .ref q7, .ref q9, .int 0, .int 0, .int 0])), (q1, .inl (k2, 2, .inr (.inr (.inr (.inr (fun _ => none)))))), (q3, .inl (k4, 12, .inr (.inr (.inr (.inr (fun _ => none)))))), (q5, .inl (k6, 4, .inl (fun _ => 0))), (q7, .inl (k8, 4, .inl (fun _ => 0))), (q9, .inl (k10, 4, .inl (fun _ => 0)))] := hD
  refine lv_aload_n hx hb dX3_init_52 rfl (lv_at hl 0 rfl) ?_
  refine lv_iconst (v := 0) hx hb dX3_init_53 (by decide) ?_
  refine va_put (D := (dC, dI)) (ci := 3) (v := .int 0) (ty := tyX3 7) (C := RX3) (T := TX3) (N := 8) hx hb hts hin3 tyX3 tyX3_ok nmX3 hown hK hP hD hS 0 rfl rfl 7 (by decide) (ho (.fieldLink RX3 40 "NearEnough$Program" "endCount" "I") (List.mem_of_getElem? (i := 13) rfl)) (fun _ h9 => h9) rfl (by decide +kernel) rfl rfl (Nat.le_of_ble_eq_true rfl) dX3_init_54 (fun H locs hP hD hS => ?_)
  have hP : va_P (dC, dI) vwCl [(h0, .inr (3, [.ref q1, .ref q3, .ref q5, .ref q7, .ref q9, .int 0, .int 0, .int 0])), (q1, .inl (k2, 2, .inr (.inr (.inr (.inr (fun _ => none)))))), (q3, .inl (k4, 12, .inr (.inr (.inr (.inr (fun _ => none)))))), (q5, .inl (k6, 4, .inl (fun _ => 0))), (q7, .inl (k8, 4, .inl (fun _ => 0))), (q9, .inl (k10, 4, .inl (fun _ => 0)))] H := hP
  have hD : va_D A [(h0, .inr (3, [.ref q1, .ref q3, .ref q5, .ref q7, .ref q9, .int 0, .int 0, .int 0])), (q1, .inl (k2, 2, .inr (.inr (.inr (.inr (fun _ => none)))))), (q3, .inl (k4, 12, .inr (.inr (.inr (.inr (fun _ => none)))))), (q5, .inl (k6, 4, .inl (fun _ => 0))), (q7, .inl (k8, 4, .inl (fun _ => 0))), (q9, .inl (k10, 4, .inl (fun _ => 0)))] := hD
  refine W.widen (k := 5) (n := 26) (Nat.le_of_ble_eq_true rfl) (Nat.le_of_ble_eq_true rfl) ?_
  exact W.vret hx hb hr (fun t ht hW => ⟨⟨(q1, q3, q5, q7, q9, k2, k4, k6, k8, k10), rfl, trivial, wEn_of (hP.sub [0, 1, 2, 3, 4, 5] rfl) (hK.sub [0, 1, 2, 3, 4] rfl) (hD.sub [0, 1, 2, 3, 4, 5] (by decide) rfl) ht hW⟩, hS.F ht⟩) hS.2.2 dX3_init_57
def ow_c_Sheets_init : List Cond := [.methodLink RX7 3 objectInit, .instanceMethod objectInit, .code objectInit ⟨#[0xb1]⟩ 1 none, .arrayClass .int, .fieldLink RX7 9 "NearEnough$Sheets" "numbers" "[I", .arrayClass .boolean, .fieldLink RX7 15 "NearEnough$Sheets" "kept" "[Z", .fieldLink RX7 19 "NearEnough$Sheets" "count" "I"]
def vs_c_Sheets_init : List Cond := .code yX7_init cX7_init 1 none :: (ow_c_Sheets_init ++ (wsX70))
theorem vg_c_Sheets_init : vs_c_Sheets_init.all goodWord = true := by decide +kernel
set_option maxHeartbeats 4000000 in
set_option maxRecDepth 100000 in
/-- new Sheets(): none -/
theorem c_Sheets_init (l : Launch) (dC : Nat → ClassId) (dI : Nat → Nat → Nat) (h0 : Nat) (sz : Nat) : Met l yX7_init vs_c_Sheets_init ({ frames := 1, cells := 2, slots := 532, locals := 24 }) (va_Pc [.ref h0] (wSt dC dI [(h0, .inr (7, [.null, .null, .int 0]))] [] sz)) (va_Qv (fun (_ : Nat × Nat × ClassId) => True) (fun (u : Nat × Nat × ClassId) => wEn dC dI (va_A [(h0, .inr (7, [.null, .null, .int 0]))] sz) [(h0, .inr (7, [.ref u.1, .ref u.2.1, .int 0])), (u.2.1, .inl (u.2.2, 40, .inl (fun _ => 0)))] [(u.2.2, .boolean)]) (va_A [(h0, .inr (7, [.null, .null, .int 0]))] sz)) 2 532 (va_A [(h0, .inr (7, [.null, .null, .int 0]))] sz) := by
  refine Met.ofW (cc := cX7_init) (maxL := 1) (ret := none) (by decide) rfl ?_
  intro p e s m args below meth c s₁ B hml hv
  obtain ⟨rfl, hsz, hP, hK, hD0, hE⟩ := hv
  have hx := B.exec
  have hb := B.bytes
  have hr := B.returns
  have hts := atoms_spec (ws := vs_c_Sheets_init) B.pre
  have hown : s.vm.findClass RX7 = some m.cls := findClass_of_methodNamed B.named
  have hlocks := B.notSynchronized
  have hin : meth.name = "<init>" := (name_of_methodNamed B.named B.method).1
  subst hsz
  have hD := hD0.self (sz := s.heap.size)
  generalize hAe : va_A [(h0, .inr (7, [.null, .null, .int 0]))] s.heap.size = A at hD ⊢
  have hA : ∀ q : Nat, s.heap.size ≤ q → A q := fun q h => by rw [← hAe]; exact Or.inr h
  have hl := lv_entry ([.ref h0]) (n := 1) (Nat.le_of_ble_eq_true rfl)
  rw [lg_entry_eq]
  generalize (lg_sl ([.ref h0]) ++ List.replicate (1 - (lg_sl ([.ref h0])).length) Slot.unset).toArray = ls at hl ⊢
  have hl : lv_has ls 1 [(0, .ref h0)] := hl
  refine zH (A := A) (ws := [(h0, .inr (7, [.null, .null, .int 0]))]) (fun H hP hS => ?_) hP
  have ho := fun w (h : w ∈ ow_c_Sheets_init) => hts w (List.mem_cons_of_mem _ (List.mem_append_left _ h))
  have hin7 : ∀ w ∈ u_ws RX7 TX7 3, w ∈ vs_c_Sheets_init := fun w h => (List.mem_cons_of_mem _ (List.mem_append_right _ h))
  refine lv_aload_n hx hb dX7_init_0 rfl (lv_at hl 0 rfl) ?_
  refine W.objInit hx hb hown (ho (.methodLink RX7 3 objectInit) (List.mem_of_getElem? (i := 0) rfl)) (ho (.instanceMethod objectInit) (List.mem_of_getElem? (i := 1) rfl)) (ho (.code objectInit ⟨#[0xb1]⟩ 1 none) (List.mem_of_getElem? (i := 2) rfl)) rfl (by rw [hml]; exact hl.1) rfl dX7_init_1 (Nat.le_of_ble_eq_true rfl) (Nat.le_of_ble_eq_true rfl) ?_
  refine W.eq (g2 := F0 m 4 ls []) rfl ?_
  refine lv_aload_n hx hb dX7_init_4 rfl (lv_at hl 0 rfl) ?_
  refine lv_sipush (v := 492) hx hb dX7_init_5 (by decide) ?_
  refine va_newa (atype := .int) (ty := .int) (a0 := (492, .inl (fun _ => 0))) (N' := 492) hx hb (ho (.arrayClass .int) (List.mem_of_getElem? (i := 3) rfl)) rfl hK hP hD hS hA (fun _ => rfl) (by decide) (by decide) (by decide +kernel) (Nat.le_of_ble_eq_true rfl) (Nat.le_of_ble_eq_true rfl) dX7_init_8 (fun q1 k2 H hK hP hD hS => ?_)
  have hP : va_P (dC, dI) vwCl [(h0, .inr (7, [.null, .null, .int 0])), (q1, .inl (k2, 492, .inl (fun _ => 0)))] H := hP
  have hD : va_D A [(h0, .inr (7, [.null, .null, .int 0])), (q1, .inl (k2, 492, .inl (fun _ => 0)))] := hD
  have hK : va_K (dC, dI) vwCl [(k2, .int)] s := hK
  refine W.widen (k := 1) (n := 492) (Nat.le_of_ble_eq_true rfl) (Nat.le_of_ble_eq_true rfl) ?_
  refine va_putF (D := (dC, dI)) (ci := 7) (v := .ref q1) (ty := tyX7 0) (C := RX7) (T := TX7) (N := 3) hx hb hts hin7 tyX7 tyX7_ok nmX7 hown hK hP hD hS 0 rfl rfl 0 (by decide) (ho (.fieldLink RX7 9 "NearEnough$Sheets" "numbers" "[I") (List.mem_of_getElem? (i := 4) rfl)) (fun _ h9 => h9) rfl hin rfl (by decide +kernel) rfl rfl (Nat.le_of_ble_eq_true rfl) dX7_init_10 (fun H locs hP hD hS => ?_)
  have hP : va_P (dC, dI) vwCl [(h0, .inr (7, [.ref q1, .null, .int 0])), (q1, .inl (k2, 492, .inl (fun _ => 0)))] H := hP
  have hD : va_D A [(h0, .inr (7, [.ref q1, .null, .int 0])), (q1, .inl (k2, 492, .inl (fun _ => 0)))] := hD
  refine lv_aload_n hx hb dX7_init_13 rfl (lv_at hl 0 rfl) ?_
  refine lv_bipush (v := 40) hx hb dX7_init_14 (by decide) ?_
  refine va_newa (atype := .boolean) (ty := .boolean) (a0 := (40, .inl (fun _ => 0))) (N' := 40) hx hb (ho (.arrayClass .boolean) (List.mem_of_getElem? (i := 5) rfl)) rfl hK hP hD hS hA (fun _ => rfl) (by decide) (by decide) (by decide +kernel) (Nat.le_of_ble_eq_true rfl) (Nat.le_of_ble_eq_true rfl) dX7_init_16 (fun q3 k4 H hK hP hD hS => ?_)
  have hP : va_P (dC, dI) vwCl [(h0, .inr (7, [.ref q1, .null, .int 0])), (q1, .inl (k2, 492, .inl (fun _ => 0))), (q3, .inl (k4, 40, .inl (fun _ => 0)))] H := hP
  have hD : va_D A [(h0, .inr (7, [.ref q1, .null, .int 0])), (q1, .inl (k2, 492, .inl (fun _ => 0))), (q3, .inl (k4, 40, .inl (fun _ => 0)))] := hD
  have hK : va_K (dC, dI) vwCl [(k2, .int), (k4, .boolean)] s := hK
  refine W.widen (k := 2) (n := 532) (Nat.le_of_ble_eq_true rfl) (Nat.le_of_ble_eq_true rfl) ?_
  refine va_putF (D := (dC, dI)) (ci := 7) (v := .ref q3) (ty := tyX7 1) (C := RX7) (T := TX7) (N := 3) hx hb hts hin7 tyX7 tyX7_ok nmX7 hown hK hP hD hS 0 rfl rfl 1 (by decide) (ho (.fieldLink RX7 15 "NearEnough$Sheets" "kept" "[Z") (List.mem_of_getElem? (i := 6) rfl)) (fun _ h9 => h9) rfl hin rfl (by decide +kernel) rfl rfl (Nat.le_of_ble_eq_true rfl) dX7_init_18 (fun H locs hP hD hS => ?_)
  have hP : va_P (dC, dI) vwCl [(h0, .inr (7, [.ref q1, .ref q3, .int 0])), (q1, .inl (k2, 492, .inl (fun _ => 0))), (q3, .inl (k4, 40, .inl (fun _ => 0)))] H := hP
  have hD : va_D A [(h0, .inr (7, [.ref q1, .ref q3, .int 0])), (q1, .inl (k2, 492, .inl (fun _ => 0))), (q3, .inl (k4, 40, .inl (fun _ => 0)))] := hD
  refine lv_aload_n hx hb dX7_init_21 rfl (lv_at hl 0 rfl) ?_
  refine lv_iconst (v := 0) hx hb dX7_init_22 (by decide) ?_
  refine va_put (D := (dC, dI)) (ci := 7) (v := .int 0) (ty := tyX7 2) (C := RX7) (T := TX7) (N := 3) hx hb hts hin7 tyX7 tyX7_ok nmX7 hown hK hP hD hS 0 rfl rfl 2 (by decide) (ho (.fieldLink RX7 19 "NearEnough$Sheets" "count" "I") (List.mem_of_getElem? (i := 7) rfl)) (fun _ h9 => h9) rfl (by decide +kernel) rfl rfl (Nat.le_of_ble_eq_true rfl) dX7_init_23 (fun H locs hP hD hS => ?_)
  have hP : va_P (dC, dI) vwCl [(h0, .inr (7, [.ref q1, .ref q3, .int 0])), (q1, .inl (k2, 492, .inl (fun _ => 0))), (q3, .inl (k4, 40, .inl (fun _ => 0)))] H := hP
  have hD : va_D A [(h0, .inr (7, [.ref q1, .ref q3, .int 0])), (q1, .inl (k2, 492, .inl (fun _ => 0))), (q3, .inl (k4, 40, .inl (fun _ => 0)))] := hD
  refine W.widen (k := 2) (n := 532) (Nat.le_of_ble_eq_true rfl) (Nat.le_of_ble_eq_true rfl) ?_
  exact W.vret hx hb hr (fun t ht hW => ⟨⟨(q1, q3, k4), rfl, trivial, wEn_of (hP.sub [0, 2] rfl) (hK.sub [1] rfl) (hD.sub [0, 2] (by decide) rfl) ht hW⟩, hS.F ht⟩) hS.2.2 dX7_init_26
def ow_c_Changes_init : List Cond := [.methodLink RX0 3 objectInit, .instanceMethod objectInit, .code objectInit ⟨#[0xb1]⟩ 1 none, .arrayClass .int, .fieldLink RX0 9 "NearEnough$Changes" "stepOf" "[I", .fieldLink RX0 15 "NearEnough$Changes" "kindOf" "[I", .fieldLink RX0 18 "NearEnough$Changes" "nOf" "[I", .fieldLink RX0 21 "NearEnough$Changes" "savesOf" "[I", .fieldLink RX0 24 "NearEnough$Changes" "taken" "[I", .fieldLink RX0 27 "NearEnough$Changes" "count" "I", .fieldLink RX0 31 "NearEnough$Changes" "bits" "I"]
def vs_c_Changes_init : List Cond := .code yX0_init cX0_init 1 none :: (ow_c_Changes_init ++ (wsX00))
theorem vg_c_Changes_init : vs_c_Changes_init.all goodWord = true := by decide +kernel
set_option maxHeartbeats 4000000 in
set_option maxRecDepth 100000 in
/-- new Changes(): none -/
theorem c_Changes_init (l : Launch) (dC : Nat → ClassId) (dI : Nat → Nat → Nat) (h0 : Nat) (sz : Nat) : Met l yX0_init vs_c_Changes_init ({ frames := 1, cells := 5, slots := 60, locals := 24 }) (va_Pc [.ref h0] (wSt dC dI [(h0, .inr (0, [.null, .null, .null, .null, .null, .int 0, .int 0]))] [] sz)) (va_Qv (fun (_ : Nat × Nat × Nat × Nat × Nat × ClassId) => True) (fun (u : Nat × Nat × Nat × Nat × Nat × ClassId) => wEn dC dI (va_A [(h0, .inr (0, [.null, .null, .null, .null, .null, .int 0, .int 0]))] sz) [(h0, .inr (0, [.ref u.1, .ref u.2.1, .ref u.2.2.1, .ref u.2.2.2.1, .ref u.2.2.2.2.1, .int 0, .int 0])), (u.2.2.2.2.1, .inl (u.2.2.2.2.2, 12, .inl (fun _ => 0)))] [(u.2.2.2.2.2, .int)]) (va_A [(h0, .inr (0, [.null, .null, .null, .null, .null, .int 0, .int 0]))] sz)) 5 60 (va_A [(h0, .inr (0, [.null, .null, .null, .null, .null, .int 0, .int 0]))] sz) := by
  refine Met.ofW (cc := cX0_init) (maxL := 1) (ret := none) (by decide) rfl ?_
  intro p e s m args below meth c s₁ B hml hv
  obtain ⟨rfl, hsz, hP, hK, hD0, hE⟩ := hv
  have hx := B.exec
  have hb := B.bytes
  have hr := B.returns
  have hts := atoms_spec (ws := vs_c_Changes_init) B.pre
  have hown : s.vm.findClass RX0 = some m.cls := findClass_of_methodNamed B.named
  have hlocks := B.notSynchronized
  have hin : meth.name = "<init>" := (name_of_methodNamed B.named B.method).1
  subst hsz
  have hD := hD0.self (sz := s.heap.size)
  generalize hAe : va_A [(h0, .inr (0, [.null, .null, .null, .null, .null, .int 0, .int 0]))] s.heap.size = A at hD ⊢
  have hA : ∀ q : Nat, s.heap.size ≤ q → A q := fun q h => by rw [← hAe]; exact Or.inr h
  have hl := lv_entry ([.ref h0]) (n := 1) (Nat.le_of_ble_eq_true rfl)
  rw [lg_entry_eq]
  generalize (lg_sl ([.ref h0]) ++ List.replicate (1 - (lg_sl ([.ref h0])).length) Slot.unset).toArray = ls at hl ⊢
  have hl : lv_has ls 1 [(0, .ref h0)] := hl
  refine zH (A := A) (ws := [(h0, .inr (0, [.null, .null, .null, .null, .null, .int 0, .int 0]))]) (fun H hP hS => ?_) hP
  have ho := fun w (h : w ∈ ow_c_Changes_init) => hts w (List.mem_cons_of_mem _ (List.mem_append_left _ h))
  have hin0 : ∀ w ∈ u_ws RX0 TX0 7, w ∈ vs_c_Changes_init := fun w h => (List.mem_cons_of_mem _ (List.mem_append_right _ h))
  refine lv_aload_n hx hb dX0_init_0 rfl (lv_at hl 0 rfl) ?_
  refine W.objInit hx hb hown (ho (.methodLink RX0 3 objectInit) (List.mem_of_getElem? (i := 0) rfl)) (ho (.instanceMethod objectInit) (List.mem_of_getElem? (i := 1) rfl)) (ho (.code objectInit ⟨#[0xb1]⟩ 1 none) (List.mem_of_getElem? (i := 2) rfl)) rfl (by rw [hml]; exact hl.1) rfl dX0_init_1 (Nat.le_of_ble_eq_true rfl) (Nat.le_of_ble_eq_true rfl) ?_
  refine W.eq (g2 := F0 m 4 ls []) rfl ?_
  refine lv_aload_n hx hb dX0_init_4 rfl (lv_at hl 0 rfl) ?_
  refine lv_bipush (v := 12) hx hb dX0_init_5 (by decide) ?_
  refine va_newa (atype := .int) (ty := .int) (a0 := (12, .inl (fun _ => 0))) (N' := 12) hx hb (ho (.arrayClass .int) (List.mem_of_getElem? (i := 3) rfl)) rfl hK hP hD hS hA (fun _ => rfl) (by decide) (by decide) (by decide +kernel) (Nat.le_of_ble_eq_true rfl) (Nat.le_of_ble_eq_true rfl) dX0_init_7 (fun q1 k2 H hK hP hD hS => ?_)
  have hP : va_P (dC, dI) vwCl [(h0, .inr (0, [.null, .null, .null, .null, .null, .int 0, .int 0])), (q1, .inl (k2, 12, .inl (fun _ => 0)))] H := hP
  have hD : va_D A [(h0, .inr (0, [.null, .null, .null, .null, .null, .int 0, .int 0])), (q1, .inl (k2, 12, .inl (fun _ => 0)))] := hD
  have hK : va_K (dC, dI) vwCl [(k2, .int)] s := hK
  refine W.widen (k := 1) (n := 12) (Nat.le_of_ble_eq_true rfl) (Nat.le_of_ble_eq_true rfl) ?_
  refine va_putF (D := (dC, dI)) (ci := 0) (v := .ref q1) (ty := tyX0 0) (C := RX0) (T := TX0) (N := 7) hx hb hts hin0 tyX0 tyX0_ok nmX0 hown hK hP hD hS 0 rfl rfl 0 (by decide) (ho (.fieldLink RX0 9 "NearEnough$Changes" "stepOf" "[I") (List.mem_of_getElem? (i := 4) rfl)) (fun _ h9 => h9) rfl hin rfl (by decide +kernel) rfl rfl (Nat.le_of_ble_eq_true rfl) dX0_init_9 (fun H locs hP hD hS => ?_)
  have hP : va_P (dC, dI) vwCl [(h0, .inr (0, [.ref q1, .null, .null, .null, .null, .int 0, .int 0])), (q1, .inl (k2, 12, .inl (fun _ => 0)))] H := hP
  have hD : va_D A [(h0, .inr (0, [.ref q1, .null, .null, .null, .null, .int 0, .int 0])), (q1, .inl (k2, 12, .inl (fun _ => 0)))] := hD
  refine lv_aload_n hx hb dX0_init_12 rfl (lv_at hl 0 rfl) ?_
  refine lv_bipush (v := 12) hx hb dX0_init_13 (by decide) ?_
  refine va_newa (atype := .int) (ty := .int) (a0 := (12, .inl (fun _ => 0))) (N' := 12) hx hb (ho (.arrayClass .int) (List.mem_of_getElem? (i := 3) rfl)) rfl hK hP hD hS hA (fun _ => rfl) (by decide) (by decide) (by decide +kernel) (Nat.le_of_ble_eq_true rfl) (Nat.le_of_ble_eq_true rfl) dX0_init_15 (fun q3 k4 H hK hP hD hS => ?_)
  have hP : va_P (dC, dI) vwCl [(h0, .inr (0, [.ref q1, .null, .null, .null, .null, .int 0, .int 0])), (q1, .inl (k2, 12, .inl (fun _ => 0))), (q3, .inl (k4, 12, .inl (fun _ => 0)))] H := hP
  have hD : va_D A [(h0, .inr (0, [.ref q1, .null, .null, .null, .null, .int 0, .int 0])), (q1, .inl (k2, 12, .inl (fun _ => 0))), (q3, .inl (k4, 12, .inl (fun _ => 0)))] := hD
  have hK : va_K (dC, dI) vwCl [(k2, .int), (k4, .int)] s := hK
  refine W.widen (k := 2) (n := 24) (Nat.le_of_ble_eq_true rfl) (Nat.le_of_ble_eq_true rfl) ?_
  refine va_putF (D := (dC, dI)) (ci := 0) (v := .ref q3) (ty := tyX0 1) (C := RX0) (T := TX0) (N := 7) hx hb hts hin0 tyX0 tyX0_ok nmX0 hown hK hP hD hS 0 rfl rfl 1 (by decide) (ho (.fieldLink RX0 15 "NearEnough$Changes" "kindOf" "[I") (List.mem_of_getElem? (i := 5) rfl)) (fun _ h9 => h9) rfl hin rfl (by decide +kernel) rfl rfl (Nat.le_of_ble_eq_true rfl) dX0_init_17 (fun H locs hP hD hS => ?_)
  have hP : va_P (dC, dI) vwCl [(h0, .inr (0, [.ref q1, .ref q3, .null, .null, .null, .int 0, .int 0])), (q1, .inl (k2, 12, .inl (fun _ => 0))), (q3, .inl (k4, 12, .inl (fun _ => 0)))] H := hP
  have hD : va_D A [(h0, .inr (0, [.ref q1, .ref q3, .null, .null, .null, .int 0, .int 0])), (q1, .inl (k2, 12, .inl (fun _ => 0))), (q3, .inl (k4, 12, .inl (fun _ => 0)))] := hD
  refine lv_aload_n hx hb dX0_init_20 rfl (lv_at hl 0 rfl) ?_
  refine lv_bipush (v := 12) hx hb dX0_init_21 (by decide) ?_
  refine va_newa (atype := .int) (ty := .int) (a0 := (12, .inl (fun _ => 0))) (N' := 12) hx hb (ho (.arrayClass .int) (List.mem_of_getElem? (i := 3) rfl)) rfl hK hP hD hS hA (fun _ => rfl) (by decide) (by decide) (by decide +kernel) (Nat.le_of_ble_eq_true rfl) (Nat.le_of_ble_eq_true rfl) dX0_init_23 (fun q5 k6 H hK hP hD hS => ?_)
  have hP : va_P (dC, dI) vwCl [(h0, .inr (0, [.ref q1, .ref q3, .null, .null, .null, .int 0, .int 0])), (q1, .inl (k2, 12, .inl (fun _ => 0))), (q3, .inl (k4, 12, .inl (fun _ => 0))), (q5, .inl (k6, 12, .inl (fun _ => 0)))] H := hP
  have hD : va_D A [(h0, .inr (0, [.ref q1, .ref q3, .null, .null, .null, .int 0, .int 0])), (q1, .inl (k2, 12, .inl (fun _ => 0))), (q3, .inl (k4, 12, .inl (fun _ => 0))), (q5, .inl (k6, 12, .inl (fun _ => 0)))] := hD
  have hK : va_K (dC, dI) vwCl [(k2, .int), (k4, .int), (k6, .int)] s := hK
  refine W.widen (k := 3) (n := 36) (Nat.le_of_ble_eq_true rfl) (Nat.le_of_ble_eq_true rfl) ?_
  refine va_putF (D := (dC, dI)) (ci := 0) (v := .ref q5) (ty := tyX0 2) (C := RX0) (T := TX0) (N := 7) hx hb hts hin0 tyX0 tyX0_ok nmX0 hown hK hP hD hS 0 rfl rfl 2 (by decide) (ho (.fieldLink RX0 18 "NearEnough$Changes" "nOf" "[I") (List.mem_of_getElem? (i := 6) rfl)) (fun _ h9 => h9) rfl hin rfl (by decide +kernel) rfl rfl (Nat.le_of_ble_eq_true rfl) dX0_init_25 (fun H locs hP hD hS => ?_)
  have hP : va_P (dC, dI) vwCl [(h0, .inr (0, [.ref q1, .ref q3, .ref q5, .null, .null, .int 0, .int 0])), (q1, .inl (k2, 12, .inl (fun _ => 0))), (q3, .inl (k4, 12, .inl (fun _ => 0))), (q5, .inl (k6, 12, .inl (fun _ => 0)))] H := hP
  have hD : va_D A [(h0, .inr (0, [.ref q1, .ref q3, .ref q5, .null, .null, .int 0, .int 0])), (q1, .inl (k2, 12, .inl (fun _ => 0))), (q3, .inl (k4, 12, .inl (fun _ => 0))), (q5, .inl (k6, 12, .inl (fun _ => 0)))] := hD
  refine lv_aload_n hx hb dX0_init_28 rfl (lv_at hl 0 rfl) ?_
  refine lv_bipush (v := 12) hx hb dX0_init_29 (by decide) ?_
  refine va_newa (atype := .int) (ty := .int) (a0 := (12, .inl (fun _ => 0))) (N' := 12) hx hb (ho (.arrayClass .int) (List.mem_of_getElem? (i := 3) rfl)) rfl hK hP hD hS hA (fun _ => rfl) (by decide) (by decide) (by decide +kernel) (Nat.le_of_ble_eq_true rfl) (Nat.le_of_ble_eq_true rfl) dX0_init_31 (fun q7 k8 H hK hP hD hS => ?_)
  have hP : va_P (dC, dI) vwCl [(h0, .inr (0, [.ref q1, .ref q3, .ref q5, .null, .null, .int 0, .int 0])), (q1, .inl (k2, 12, .inl (fun _ => 0))), (q3, .inl (k4, 12, .inl (fun _ => 0))), (q5, .inl (k6, 12, .inl (fun _ => 0))), (q7, .inl (k8, 12, .inl (fun _ => 0)))] H := hP
  have hD : va_D A [(h0, .inr (0, [.ref q1, .ref q3, .ref q5, .null, .null, .int 0, .int 0])), (q1, .inl (k2, 12, .inl (fun _ => 0))), (q3, .inl (k4, 12, .inl (fun _ => 0))), (q5, .inl (k6, 12, .inl (fun _ => 0))), (q7, .inl (k8, 12, .inl (fun _ => 0)))] := hD
  have hK : va_K (dC, dI) vwCl [(k2, .int), (k4, .int), (k6, .int), (k8, .int)] s := hK
  refine W.widen (k := 4) (n := 48) (Nat.le_of_ble_eq_true rfl) (Nat.le_of_ble_eq_true rfl) ?_
  refine va_putF (D := (dC, dI)) (ci := 0) (v := .ref q7) (ty := tyX0 3) (C := RX0) (T := TX0) (N := 7) hx hb hts hin0 tyX0 tyX0_ok nmX0 hown hK hP hD hS 0 rfl rfl 3 (by decide) (ho (.fieldLink RX0 21 "NearEnough$Changes" "savesOf" "[I") (List.mem_of_getElem? (i := 7) rfl)) (fun _ h9 => h9) rfl hin rfl (by decide +kernel) rfl rfl (Nat.le_of_ble_eq_true rfl) dX0_init_33 (fun H locs hP hD hS => ?_)
  have hP : va_P (dC, dI) vwCl [(h0, .inr (0, [.ref q1, .ref q3, .ref q5, .ref q7, .null, .int 0, .int 0])), (q1, .inl (k2, 12, .inl (fun _ => 0))), (q3, .inl (k4, 12, .inl (fun _ => 0))), (q5, .inl (k6, 12, .inl (fun _ => 0))), (q7, .inl (k8, 12, .inl (fun _ => 0)))] H := hP
  have hD : va_D A [(h0, .inr (0, [.ref q1, .ref q3, .ref q5, .ref q7, .null, .int 0, .int 0])), (q1, .inl (k2, 12, .inl (fun _ => 0))), (q3, .inl (k4, 12, .inl (fun _ => 0))), (q5, .inl (k6, 12, .inl (fun _ => 0))), (q7, .inl (k8, 12, .inl (fun _ => 0)))] := hD
  refine lv_aload_n hx hb dX0_init_36 rfl (lv_at hl 0 rfl) ?_
  refine lv_bipush (v := 12) hx hb dX0_init_37 (by decide) ?_
  refine va_newa (atype := .int) (ty := .int) (a0 := (12, .inl (fun _ => 0))) (N' := 12) hx hb (ho (.arrayClass .int) (List.mem_of_getElem? (i := 3) rfl)) rfl hK hP hD hS hA (fun _ => rfl) (by decide) (by decide) (by decide +kernel) (Nat.le_of_ble_eq_true rfl) (Nat.le_of_ble_eq_true rfl) dX0_init_39 (fun q9 k10 H hK hP hD hS => ?_)
  have hP : va_P (dC, dI) vwCl [(h0, .inr (0, [.ref q1, .ref q3, .ref q5, .ref q7, .null, .int 0, .int 0])), (q1, .inl (k2, 12, .inl (fun _ => 0))), (q3, .inl (k4, 12, .inl (fun _ => 0))), (q5, .inl (k6, 12, .inl (fun _ => 0))), (q7, .inl (k8, 12, .inl (fun _ => 0))), (q9, .inl (k10, 12, .inl (fun _ => 0)))] H := hP
  have hD : va_D A [(h0, .inr (0, [.ref q1, .ref q3, .ref q5, .ref q7, .null, .int 0, .int 0])), (q1, .inl (k2, 12, .inl (fun _ => 0))), (q3, .inl (k4, 12, .inl (fun _ => 0))), (q5, .inl (k6, 12, .inl (fun _ => 0))), (q7, .inl (k8, 12, .inl (fun _ => 0))), (q9, .inl (k10, 12, .inl (fun _ => 0)))] := hD
  have hK : va_K (dC, dI) vwCl [(k2, .int), (k4, .int), (k6, .int), (k8, .int), (k10, .int)] s := hK
  refine W.widen (k := 5) (n := 60) (Nat.le_of_ble_eq_true rfl) (Nat.le_of_ble_eq_true rfl) ?_
  refine va_putF (D := (dC, dI)) (ci := 0) (v := .ref q9) (ty := tyX0 4) (C := RX0) (T := TX0) (N := 7) hx hb hts hin0 tyX0 tyX0_ok nmX0 hown hK hP hD hS 0 rfl rfl 4 (by decide) (ho (.fieldLink RX0 24 "NearEnough$Changes" "taken" "[I") (List.mem_of_getElem? (i := 8) rfl)) (fun _ h9 => h9) rfl hin rfl (by decide +kernel) rfl rfl (Nat.le_of_ble_eq_true rfl) dX0_init_41 (fun H locs hP hD hS => ?_)
  have hP : va_P (dC, dI) vwCl [(h0, .inr (0, [.ref q1, .ref q3, .ref q5, .ref q7, .ref q9, .int 0, .int 0])), (q1, .inl (k2, 12, .inl (fun _ => 0))), (q3, .inl (k4, 12, .inl (fun _ => 0))), (q5, .inl (k6, 12, .inl (fun _ => 0))), (q7, .inl (k8, 12, .inl (fun _ => 0))), (q9, .inl (k10, 12, .inl (fun _ => 0)))] H := hP
  have hD : va_D A [(h0, .inr (0, [.ref q1, .ref q3, .ref q5, .ref q7, .ref q9, .int 0, .int 0])), (q1, .inl (k2, 12, .inl (fun _ => 0))), (q3, .inl (k4, 12, .inl (fun _ => 0))), (q5, .inl (k6, 12, .inl (fun _ => 0))), (q7, .inl (k8, 12, .inl (fun _ => 0))), (q9, .inl (k10, 12, .inl (fun _ => 0)))] := hD
  refine lv_aload_n hx hb dX0_init_44 rfl (lv_at hl 0 rfl) ?_
  refine lv_iconst (v := 0) hx hb dX0_init_45 (by decide) ?_
  refine va_put (D := (dC, dI)) (ci := 0) (v := .int 0) (ty := tyX0 5) (C := RX0) (T := TX0) (N := 7) hx hb hts hin0 tyX0 tyX0_ok nmX0 hown hK hP hD hS 0 rfl rfl 5 (by decide) (ho (.fieldLink RX0 27 "NearEnough$Changes" "count" "I") (List.mem_of_getElem? (i := 9) rfl)) (fun _ h9 => h9) rfl (by decide +kernel) rfl rfl (Nat.le_of_ble_eq_true rfl) dX0_init_46 (fun H locs hP hD hS => ?_)
  have hP : va_P (dC, dI) vwCl [(h0, .inr (0, [.ref q1, .ref q3, .ref q5, .ref q7, .ref q9, .int 0, .int 0])), (q1, .inl (k2, 12, .inl (fun _ => 0))), (q3, .inl (k4, 12, .inl (fun _ => 0))), (q5, .inl (k6, 12, .inl (fun _ => 0))), (q7, .inl (k8, 12, .inl (fun _ => 0))), (q9, .inl (k10, 12, .inl (fun _ => 0)))] H := hP
  have hD : va_D A [(h0, .inr (0, [.ref q1, .ref q3, .ref q5, .ref q7, .ref q9, .int 0, .int 0])), (q1, .inl (k2, 12, .inl (fun _ => 0))), (q3, .inl (k4, 12, .inl (fun _ => 0))), (q5, .inl (k6, 12, .inl (fun _ => 0))), (q7, .inl (k8, 12, .inl (fun _ => 0))), (q9, .inl (k10, 12, .inl (fun _ => 0)))] := hD
  refine lv_aload_n hx hb dX0_init_49 rfl (lv_at hl 0 rfl) ?_
  refine lv_iconst (v := 0) hx hb dX0_init_50 (by decide) ?_
  refine va_put (D := (dC, dI)) (ci := 0) (v := .int 0) (ty := tyX0 6) (C := RX0) (T := TX0) (N := 7) hx hb hts hin0 tyX0 tyX0_ok nmX0 hown hK hP hD hS 0 rfl rfl 6 (by decide) (ho (.fieldLink RX0 31 "NearEnough$Changes" "bits" "I") (List.mem_of_getElem? (i := 10) rfl)) (fun _ h9 => h9) rfl (by decide +kernel) rfl rfl (Nat.le_of_ble_eq_true rfl) dX0_init_51 (fun H locs hP hD hS => ?_)
  have hP : va_P (dC, dI) vwCl [(h0, .inr (0, [.ref q1, .ref q3, .ref q5, .ref q7, .ref q9, .int 0, .int 0])), (q1, .inl (k2, 12, .inl (fun _ => 0))), (q3, .inl (k4, 12, .inl (fun _ => 0))), (q5, .inl (k6, 12, .inl (fun _ => 0))), (q7, .inl (k8, 12, .inl (fun _ => 0))), (q9, .inl (k10, 12, .inl (fun _ => 0)))] H := hP
  have hD : va_D A [(h0, .inr (0, [.ref q1, .ref q3, .ref q5, .ref q7, .ref q9, .int 0, .int 0])), (q1, .inl (k2, 12, .inl (fun _ => 0))), (q3, .inl (k4, 12, .inl (fun _ => 0))), (q5, .inl (k6, 12, .inl (fun _ => 0))), (q7, .inl (k8, 12, .inl (fun _ => 0))), (q9, .inl (k10, 12, .inl (fun _ => 0)))] := hD
  refine W.widen (k := 5) (n := 60) (Nat.le_of_ble_eq_true rfl) (Nat.le_of_ble_eq_true rfl) ?_
  exact W.vret hx hb hr (fun t ht hW => ⟨⟨(q1, q3, q5, q7, q9, k10), rfl, trivial, wEn_of (hP.sub [0, 5] rfl) (hK.sub [4] rfl) (hD.sub [0, 5] (by decide) rfl) ht hW⟩, hS.F ht⟩) hS.2.2 dX0_init_54
def ow_c_Shown_init : List Cond := [.methodLink RX8 3 objectInit, .instanceMethod objectInit, .code objectInit ⟨#[0xb1]⟩ 1 none, .arrayClass .long, .fieldLink RX8 9 "NearEnough$Shown" "low" "[J", .fieldLink RX8 15 "NearEnough$Shown" "high" "[J", .fieldLink RX8 18 "NearEnough$Shown" "least" "J", .fieldLink RX8 22 "NearEnough$Shown" "greatest" "J", .fieldLink RX8 25 "NearEnough$Shown" "walking" "Z", .fieldLink RX8 29 "NearEnough$Shown" "last" "I", .fieldLink RX8 33 "NearEnough$Shown" "stale" "I", .fieldLink RX8 36 "NearEnough$Shown" "told" "LNearEnough$Program;", .fieldLink RX8 40 "NearEnough$Shown" "changes" "LNearEnough$Changes;"]
def vs_c_Shown_init : List Cond := .code yX8_init cX8_init 3 none :: (ow_c_Shown_init ++ (wsX80))
theorem vg_c_Shown_init : vs_c_Shown_init.all goodWord = true := by decide +kernel
set_option maxHeartbeats 4000000 in
set_option maxRecDepth 100000 in
/-- new Shown(told, changes) -/
theorem c_Shown_init (l : Launch) (dC : Nat → ClassId) (dI : Nat → Nat → Nat) (h0 : Nat) (td : Nat) (ch : Nat) (sz : Nat) : Met l yX8_init vs_c_Shown_init ({ frames := 1, cells := 2, slots := 24, locals := 24 }) (va_Pc [.ref h0, .ref td, .ref ch] (wSt dC dI [(h0, .inr (8, [.null, .null, .null, .null, .long 0, .long 0, .int 0, .int 0, .int 0]))] [] sz)) (va_Qv (fun (_ : Nat × Nat) => True) (fun (u : Nat × Nat) => wEn dC dI (va_A [(h0, .inr (8, [.null, .null, .null, .null, .long 0, .long 0, .int 0, .int 0, .int 0]))] sz) [(h0, .inr (8, [.ref td, .ref ch, .ref u.1, .ref u.2, .long 0, .long 0, .int 0, .int 0, .int 0]))] []) (va_A [(h0, .inr (8, [.null, .null, .null, .null, .long 0, .long 0, .int 0, .int 0, .int 0]))] sz)) 2 24 (va_A [(h0, .inr (8, [.null, .null, .null, .null, .long 0, .long 0, .int 0, .int 0, .int 0]))] sz) := by
  refine Met.ofW (cc := cX8_init) (maxL := 3) (ret := none) (by decide) rfl ?_
  intro p e s m args below meth c s₁ B hml hv
  obtain ⟨rfl, hsz, hP, hK, hD0, hE⟩ := hv
  have hx := B.exec
  have hb := B.bytes
  have hr := B.returns
  have hts := atoms_spec (ws := vs_c_Shown_init) B.pre
  have hown : s.vm.findClass RX8 = some m.cls := findClass_of_methodNamed B.named
  have hlocks := B.notSynchronized
  have hin : meth.name = "<init>" := (name_of_methodNamed B.named B.method).1
  subst hsz
  have hD := hD0.self (sz := s.heap.size)
  generalize hAe : va_A [(h0, .inr (8, [.null, .null, .null, .null, .long 0, .long 0, .int 0, .int 0, .int 0]))] s.heap.size = A at hD ⊢
  have hA : ∀ q : Nat, s.heap.size ≤ q → A q := fun q h => by rw [← hAe]; exact Or.inr h
  have hl := lv_entry ([.ref h0, .ref td, .ref ch]) (n := 3) (Nat.le_of_ble_eq_true rfl)
  rw [lg_entry_eq]
  generalize (lg_sl ([.ref h0, .ref td, .ref ch]) ++ List.replicate (3 - (lg_sl ([.ref h0, .ref td, .ref ch])).length) Slot.unset).toArray = ls at hl ⊢
  have hl : lv_has ls 3 [(0, .ref h0), (1, .ref td), (2, .ref ch)] := hl
  refine zH (A := A) (ws := [(h0, .inr (8, [.null, .null, .null, .null, .long 0, .long 0, .int 0, .int 0, .int 0]))]) (fun H hP hS => ?_) hP
  have ho := fun w (h : w ∈ ow_c_Shown_init) => hts w (List.mem_cons_of_mem _ (List.mem_append_left _ h))
  have hin8 : ∀ w ∈ u_ws RX8 TX8 9, w ∈ vs_c_Shown_init := fun w h => (List.mem_cons_of_mem _ (List.mem_append_right _ h))
  refine lv_aload_n hx hb dX8_init_0 rfl (lv_at hl 0 rfl) ?_
  refine W.objInit hx hb hown (ho (.methodLink RX8 3 objectInit) (List.mem_of_getElem? (i := 0) rfl)) (ho (.instanceMethod objectInit) (List.mem_of_getElem? (i := 1) rfl)) (ho (.code objectInit ⟨#[0xb1]⟩ 1 none) (List.mem_of_getElem? (i := 2) rfl)) rfl (by rw [hml]; exact hl.1) rfl dX8_init_1 (Nat.le_of_ble_eq_true rfl) (Nat.le_of_ble_eq_true rfl) ?_
  refine W.eq (g2 := F0 m 4 ls []) rfl ?_
  refine lv_aload_n hx hb dX8_init_4 rfl (lv_at hl 0 rfl) ?_
  refine lv_bipush (v := 12) hx hb dX8_init_5 (by decide) ?_
  refine va_newa (atype := .long) (ty := .long) (a0 := (12, .inr (.inl (fun _ => 0)))) (N' := 12) hx hb (ho (.arrayClass .long) (List.mem_of_getElem? (i := 3) rfl)) rfl hK hP hD hS hA (fun _ => rfl) (by decide) (by decide) (by decide +kernel) (Nat.le_of_ble_eq_true rfl) (Nat.le_of_ble_eq_true rfl) dX8_init_7 (fun q1 k2 H hK hP hD hS => ?_)
  have hP : va_P (dC, dI) vwCl [(h0, .inr (8, [.null, .null, .null, .null, .long 0, .long 0, .int 0, .int 0, .int 0])), (q1, .inl (k2, 12, .inr (.inl (fun _ => 0))))] H := hP
  have hD : va_D A [(h0, .inr (8, [.null, .null, .null, .null, .long 0, .long 0, .int 0, .int 0, .int 0])), (q1, .inl (k2, 12, .inr (.inl (fun _ => 0))))] := hD
  have hK : va_K (dC, dI) vwCl [(k2, .long)] s := hK
  refine W.widen (k := 1) (n := 12) (Nat.le_of_ble_eq_true rfl) (Nat.le_of_ble_eq_true rfl) ?_
  refine va_putF (D := (dC, dI)) (ci := 8) (v := .ref q1) (ty := tyX8 2) (C := RX8) (T := TX8) (N := 9) hx hb hts hin8 tyX8 tyX8_ok nmX8 hown hK hP hD hS 0 rfl rfl 2 (by decide) (ho (.fieldLink RX8 9 "NearEnough$Shown" "low" "[J") (List.mem_of_getElem? (i := 4) rfl)) (fun _ h9 => h9) rfl hin rfl (by decide +kernel) rfl rfl (Nat.le_of_ble_eq_true rfl) dX8_init_9 (fun H locs hP hD hS => ?_)
  have hP : va_P (dC, dI) vwCl [(h0, .inr (8, [.null, .null, .ref q1, .null, .long 0, .long 0, .int 0, .int 0, .int 0])), (q1, .inl (k2, 12, .inr (.inl (fun _ => 0))))] H := hP
  have hD : va_D A [(h0, .inr (8, [.null, .null, .ref q1, .null, .long 0, .long 0, .int 0, .int 0, .int 0])), (q1, .inl (k2, 12, .inr (.inl (fun _ => 0))))] := hD
  refine lv_aload_n hx hb dX8_init_12 rfl (lv_at hl 0 rfl) ?_
  refine lv_bipush (v := 12) hx hb dX8_init_13 (by decide) ?_
  refine va_newa (atype := .long) (ty := .long) (a0 := (12, .inr (.inl (fun _ => 0)))) (N' := 12) hx hb (ho (.arrayClass .long) (List.mem_of_getElem? (i := 3) rfl)) rfl hK hP hD hS hA (fun _ => rfl) (by decide) (by decide) (by decide +kernel) (Nat.le_of_ble_eq_true rfl) (Nat.le_of_ble_eq_true rfl) dX8_init_15 (fun q3 k4 H hK hP hD hS => ?_)
  have hP : va_P (dC, dI) vwCl [(h0, .inr (8, [.null, .null, .ref q1, .null, .long 0, .long 0, .int 0, .int 0, .int 0])), (q1, .inl (k2, 12, .inr (.inl (fun _ => 0)))), (q3, .inl (k4, 12, .inr (.inl (fun _ => 0))))] H := hP
  have hD : va_D A [(h0, .inr (8, [.null, .null, .ref q1, .null, .long 0, .long 0, .int 0, .int 0, .int 0])), (q1, .inl (k2, 12, .inr (.inl (fun _ => 0)))), (q3, .inl (k4, 12, .inr (.inl (fun _ => 0))))] := hD
  have hK : va_K (dC, dI) vwCl [(k2, .long), (k4, .long)] s := hK
  refine W.widen (k := 2) (n := 24) (Nat.le_of_ble_eq_true rfl) (Nat.le_of_ble_eq_true rfl) ?_
  refine va_putF (D := (dC, dI)) (ci := 8) (v := .ref q3) (ty := tyX8 3) (C := RX8) (T := TX8) (N := 9) hx hb hts hin8 tyX8 tyX8_ok nmX8 hown hK hP hD hS 0 rfl rfl 3 (by decide) (ho (.fieldLink RX8 15 "NearEnough$Shown" "high" "[J") (List.mem_of_getElem? (i := 5) rfl)) (fun _ h9 => h9) rfl hin rfl (by decide +kernel) rfl rfl (Nat.le_of_ble_eq_true rfl) dX8_init_17 (fun H locs hP hD hS => ?_)
  have hP : va_P (dC, dI) vwCl [(h0, .inr (8, [.null, .null, .ref q1, .ref q3, .long 0, .long 0, .int 0, .int 0, .int 0])), (q1, .inl (k2, 12, .inr (.inl (fun _ => 0)))), (q3, .inl (k4, 12, .inr (.inl (fun _ => 0))))] H := hP
  have hD : va_D A [(h0, .inr (8, [.null, .null, .ref q1, .ref q3, .long 0, .long 0, .int 0, .int 0, .int 0])), (q1, .inl (k2, 12, .inr (.inl (fun _ => 0)))), (q3, .inl (k4, 12, .inr (.inl (fun _ => 0))))] := hD
  refine lv_aload_n hx hb dX8_init_20 rfl (lv_at hl 0 rfl) ?_
  refine lv_lconst (v := 0) hx hb dX8_init_21 (by decide) ?_
  refine va_put (D := (dC, dI)) (ci := 8) (v := .long 0) (ty := tyX8 4) (C := RX8) (T := TX8) (N := 9) hx hb hts hin8 tyX8 tyX8_ok nmX8 hown hK hP hD hS 0 rfl rfl 4 (by decide) (ho (.fieldLink RX8 18 "NearEnough$Shown" "least" "J") (List.mem_of_getElem? (i := 6) rfl)) (fun _ h9 => h9) rfl (by decide +kernel) rfl rfl (Nat.le_of_ble_eq_true rfl) dX8_init_22 (fun H locs hP hD hS => ?_)
  have hP : va_P (dC, dI) vwCl [(h0, .inr (8, [.null, .null, .ref q1, .ref q3, .long 0, .long 0, .int 0, .int 0, .int 0])), (q1, .inl (k2, 12, .inr (.inl (fun _ => 0)))), (q3, .inl (k4, 12, .inr (.inl (fun _ => 0))))] H := hP
  have hD : va_D A [(h0, .inr (8, [.null, .null, .ref q1, .ref q3, .long 0, .long 0, .int 0, .int 0, .int 0])), (q1, .inl (k2, 12, .inr (.inl (fun _ => 0)))), (q3, .inl (k4, 12, .inr (.inl (fun _ => 0))))] := hD
  refine lv_aload_n hx hb dX8_init_25 rfl (lv_at hl 0 rfl) ?_
  refine lv_lconst (v := 0) hx hb dX8_init_26 (by decide) ?_
  refine va_put (D := (dC, dI)) (ci := 8) (v := .long 0) (ty := tyX8 5) (C := RX8) (T := TX8) (N := 9) hx hb hts hin8 tyX8 tyX8_ok nmX8 hown hK hP hD hS 0 rfl rfl 5 (by decide) (ho (.fieldLink RX8 22 "NearEnough$Shown" "greatest" "J") (List.mem_of_getElem? (i := 7) rfl)) (fun _ h9 => h9) rfl (by decide +kernel) rfl rfl (Nat.le_of_ble_eq_true rfl) dX8_init_27 (fun H locs hP hD hS => ?_)
  have hP : va_P (dC, dI) vwCl [(h0, .inr (8, [.null, .null, .ref q1, .ref q3, .long 0, .long 0, .int 0, .int 0, .int 0])), (q1, .inl (k2, 12, .inr (.inl (fun _ => 0)))), (q3, .inl (k4, 12, .inr (.inl (fun _ => 0))))] H := hP
  have hD : va_D A [(h0, .inr (8, [.null, .null, .ref q1, .ref q3, .long 0, .long 0, .int 0, .int 0, .int 0])), (q1, .inl (k2, 12, .inr (.inl (fun _ => 0)))), (q3, .inl (k4, 12, .inr (.inl (fun _ => 0))))] := hD
  refine lv_aload_n hx hb dX8_init_30 rfl (lv_at hl 0 rfl) ?_
  refine lv_iconst (v := 0) hx hb dX8_init_31 (by decide) ?_
  refine va_put (D := (dC, dI)) (ci := 8) (v := .int 0) (ty := tyX8 6) (C := RX8) (T := TX8) (N := 9) hx hb hts hin8 tyX8 tyX8_ok nmX8 hown hK hP hD hS 0 rfl rfl 6 (by decide) (ho (.fieldLink RX8 25 "NearEnough$Shown" "walking" "Z") (List.mem_of_getElem? (i := 8) rfl)) (fun _ h9 => h9) rfl (by decide +kernel) rfl rfl (Nat.le_of_ble_eq_true rfl) dX8_init_32 (fun H locs hP hD hS => ?_)
  have hP : va_P (dC, dI) vwCl [(h0, .inr (8, [.null, .null, .ref q1, .ref q3, .long 0, .long 0, .int 0, .int 0, .int 0])), (q1, .inl (k2, 12, .inr (.inl (fun _ => 0)))), (q3, .inl (k4, 12, .inr (.inl (fun _ => 0))))] H := hP
  have hD : va_D A [(h0, .inr (8, [.null, .null, .ref q1, .ref q3, .long 0, .long 0, .int 0, .int 0, .int 0])), (q1, .inl (k2, 12, .inr (.inl (fun _ => 0)))), (q3, .inl (k4, 12, .inr (.inl (fun _ => 0))))] := hD
  refine lv_aload_n hx hb dX8_init_35 rfl (lv_at hl 0 rfl) ?_
  refine lv_iconst (v := 0) hx hb dX8_init_36 (by decide) ?_
  refine va_put (D := (dC, dI)) (ci := 8) (v := .int 0) (ty := tyX8 7) (C := RX8) (T := TX8) (N := 9) hx hb hts hin8 tyX8 tyX8_ok nmX8 hown hK hP hD hS 0 rfl rfl 7 (by decide) (ho (.fieldLink RX8 29 "NearEnough$Shown" "last" "I") (List.mem_of_getElem? (i := 9) rfl)) (fun _ h9 => h9) rfl (by decide +kernel) rfl rfl (Nat.le_of_ble_eq_true rfl) dX8_init_37 (fun H locs hP hD hS => ?_)
  have hP : va_P (dC, dI) vwCl [(h0, .inr (8, [.null, .null, .ref q1, .ref q3, .long 0, .long 0, .int 0, .int 0, .int 0])), (q1, .inl (k2, 12, .inr (.inl (fun _ => 0)))), (q3, .inl (k4, 12, .inr (.inl (fun _ => 0))))] H := hP
  have hD : va_D A [(h0, .inr (8, [.null, .null, .ref q1, .ref q3, .long 0, .long 0, .int 0, .int 0, .int 0])), (q1, .inl (k2, 12, .inr (.inl (fun _ => 0)))), (q3, .inl (k4, 12, .inr (.inl (fun _ => 0))))] := hD
  refine lv_aload_n hx hb dX8_init_40 rfl (lv_at hl 0 rfl) ?_
  refine lv_iconst (v := 0) hx hb dX8_init_41 (by decide) ?_
  refine va_put (D := (dC, dI)) (ci := 8) (v := .int 0) (ty := tyX8 8) (C := RX8) (T := TX8) (N := 9) hx hb hts hin8 tyX8 tyX8_ok nmX8 hown hK hP hD hS 0 rfl rfl 8 (by decide) (ho (.fieldLink RX8 33 "NearEnough$Shown" "stale" "I") (List.mem_of_getElem? (i := 10) rfl)) (fun _ h9 => h9) rfl (by decide +kernel) rfl rfl (Nat.le_of_ble_eq_true rfl) dX8_init_42 (fun H locs hP hD hS => ?_)
  have hP : va_P (dC, dI) vwCl [(h0, .inr (8, [.null, .null, .ref q1, .ref q3, .long 0, .long 0, .int 0, .int 0, .int 0])), (q1, .inl (k2, 12, .inr (.inl (fun _ => 0)))), (q3, .inl (k4, 12, .inr (.inl (fun _ => 0))))] H := hP
  have hD : va_D A [(h0, .inr (8, [.null, .null, .ref q1, .ref q3, .long 0, .long 0, .int 0, .int 0, .int 0])), (q1, .inl (k2, 12, .inr (.inl (fun _ => 0)))), (q3, .inl (k4, 12, .inr (.inl (fun _ => 0))))] := hD
  refine lv_aload_n hx hb dX8_init_45 rfl (lv_at hl 0 rfl) ?_
  refine lv_aload_n hx hb dX8_init_46 rfl (lv_at hl 1 rfl) ?_
  refine va_putF (D := (dC, dI)) (ci := 8) (v := .ref td) (ty := tyX8 0) (C := RX8) (T := TX8) (N := 9) hx hb hts hin8 tyX8 tyX8_ok nmX8 hown hK hP hD hS 0 rfl rfl 0 (by decide) (ho (.fieldLink RX8 36 "NearEnough$Shown" "told" "LNearEnough$Program;") (List.mem_of_getElem? (i := 11) rfl)) (fun _ h9 => h9) rfl hin rfl (by decide +kernel) rfl rfl (Nat.le_of_ble_eq_true rfl) dX8_init_47 (fun H locs hP hD hS => ?_)
  have hP : va_P (dC, dI) vwCl [(h0, .inr (8, [.ref td, .null, .ref q1, .ref q3, .long 0, .long 0, .int 0, .int 0, .int 0])), (q1, .inl (k2, 12, .inr (.inl (fun _ => 0)))), (q3, .inl (k4, 12, .inr (.inl (fun _ => 0))))] H := hP
  have hD : va_D A [(h0, .inr (8, [.ref td, .null, .ref q1, .ref q3, .long 0, .long 0, .int 0, .int 0, .int 0])), (q1, .inl (k2, 12, .inr (.inl (fun _ => 0)))), (q3, .inl (k4, 12, .inr (.inl (fun _ => 0))))] := hD
  refine lv_aload_n hx hb dX8_init_50 rfl (lv_at hl 0 rfl) ?_
  refine lv_aload_n hx hb dX8_init_51 rfl (lv_at hl 2 rfl) ?_
  refine va_putF (D := (dC, dI)) (ci := 8) (v := .ref ch) (ty := tyX8 1) (C := RX8) (T := TX8) (N := 9) hx hb hts hin8 tyX8 tyX8_ok nmX8 hown hK hP hD hS 0 rfl rfl 1 (by decide) (ho (.fieldLink RX8 40 "NearEnough$Shown" "changes" "LNearEnough$Changes;") (List.mem_of_getElem? (i := 12) rfl)) (fun _ h9 => h9) rfl hin rfl (by decide +kernel) rfl rfl (Nat.le_of_ble_eq_true rfl) dX8_init_52 (fun H locs hP hD hS => ?_)
  have hP : va_P (dC, dI) vwCl [(h0, .inr (8, [.ref td, .ref ch, .ref q1, .ref q3, .long 0, .long 0, .int 0, .int 0, .int 0])), (q1, .inl (k2, 12, .inr (.inl (fun _ => 0)))), (q3, .inl (k4, 12, .inr (.inl (fun _ => 0))))] H := hP
  have hD : va_D A [(h0, .inr (8, [.ref td, .ref ch, .ref q1, .ref q3, .long 0, .long 0, .int 0, .int 0, .int 0])), (q1, .inl (k2, 12, .inr (.inl (fun _ => 0)))), (q3, .inl (k4, 12, .inr (.inl (fun _ => 0))))] := hD
  refine W.widen (k := 2) (n := 24) (Nat.le_of_ble_eq_true rfl) (Nat.le_of_ble_eq_true rfl) ?_
  exact W.vret hx hb hr (fun t ht hW => ⟨⟨(q1, q3), rfl, trivial, wEn_of (hP.sub [0] rfl) (hK.sub [] rfl) (hD.sub [0] (by decide) rfl) ht hW⟩, hS.F ht⟩) hS.2.2 dX8_init_55
def ow_c_Worker_init : List Cond := [.methodLink RX10 3 objectInit, .instanceMethod objectInit, .code objectInit ⟨#[0xb1]⟩ 1 none, .arrayClass .long, .fieldLink RX10 9 "NearEnough$Worker" "plain" "[J", .fieldLink RX10 15 "NearEnough$Worker" "changed" "[J", .fieldLink RX10 18 "NearEnough$Worker" "told" "LNearEnough$Program;", .fieldLink RX10 22 "NearEnough$Worker" "sheets" "LNearEnough$Sheets;", .fieldLink RX10 26 "NearEnough$Worker" "changes" "LNearEnough$Changes;"]
def vs_c_Worker_init : List Cond := .code yX10_init cX10_init 4 none :: (ow_c_Worker_init ++ (wsX100))
theorem vg_c_Worker_init : vs_c_Worker_init.all goodWord = true := by decide +kernel
set_option maxHeartbeats 4000000 in
set_option maxRecDepth 100000 in
/-- new Worker(told, sheets, changes) -/
theorem c_Worker_init (l : Launch) (dC : Nat → ClassId) (dI : Nat → Nat → Nat) (h0 : Nat) (td : Nat) (sh : Nat) (ch : Nat) (sz : Nat) : Met l yX10_init vs_c_Worker_init ({ frames := 1, cells := 2, slots := 984, locals := 24 }) (va_Pc [.ref h0, .ref td, .ref sh, .ref ch] (wSt dC dI [(h0, .inr (10, [.null, .null, .null, .null, .null]))] [] sz)) (va_Qv (fun (_ : Nat × Nat) => True) (fun (u : Nat × Nat) => wEn dC dI (va_A [(h0, .inr (10, [.null, .null, .null, .null, .null]))] sz) [(h0, .inr (10, [.ref td, .ref sh, .ref ch, .ref u.1, .ref u.2]))] []) (va_A [(h0, .inr (10, [.null, .null, .null, .null, .null]))] sz)) 2 984 (va_A [(h0, .inr (10, [.null, .null, .null, .null, .null]))] sz) := by
  refine Met.ofW (cc := cX10_init) (maxL := 4) (ret := none) (by decide) rfl ?_
  intro p e s m args below meth c s₁ B hml hv
  obtain ⟨rfl, hsz, hP, hK, hD0, hE⟩ := hv
  have hx := B.exec
  have hb := B.bytes
  have hr := B.returns
  have hts := atoms_spec (ws := vs_c_Worker_init) B.pre
  have hown : s.vm.findClass RX10 = some m.cls := findClass_of_methodNamed B.named
  have hlocks := B.notSynchronized
  have hin : meth.name = "<init>" := (name_of_methodNamed B.named B.method).1
  subst hsz
  have hD := hD0.self (sz := s.heap.size)
  generalize hAe : va_A [(h0, .inr (10, [.null, .null, .null, .null, .null]))] s.heap.size = A at hD ⊢
  have hA : ∀ q : Nat, s.heap.size ≤ q → A q := fun q h => by rw [← hAe]; exact Or.inr h
  have hl := lv_entry ([.ref h0, .ref td, .ref sh, .ref ch]) (n := 4) (Nat.le_of_ble_eq_true rfl)
  rw [lg_entry_eq]
  generalize (lg_sl ([.ref h0, .ref td, .ref sh, .ref ch]) ++ List.replicate (4 - (lg_sl ([.ref h0, .ref td, .ref sh, .ref ch])).length) Slot.unset).toArray = ls at hl ⊢
  have hl : lv_has ls 4 [(0, .ref h0), (1, .ref td), (2, .ref sh), (3, .ref ch)] := hl
  refine zH (A := A) (ws := [(h0, .inr (10, [.null, .null, .null, .null, .null]))]) (fun H hP hS => ?_) hP
  have ho := fun w (h : w ∈ ow_c_Worker_init) => hts w (List.mem_cons_of_mem _ (List.mem_append_left _ h))
  have hin10 : ∀ w ∈ u_ws RX10 TX10 5, w ∈ vs_c_Worker_init := fun w h => (List.mem_cons_of_mem _ (List.mem_append_right _ h))
  refine lv_aload_n hx hb dX10_init_0 rfl (lv_at hl 0 rfl) ?_
  refine W.objInit hx hb hown (ho (.methodLink RX10 3 objectInit) (List.mem_of_getElem? (i := 0) rfl)) (ho (.instanceMethod objectInit) (List.mem_of_getElem? (i := 1) rfl)) (ho (.code objectInit ⟨#[0xb1]⟩ 1 none) (List.mem_of_getElem? (i := 2) rfl)) rfl (by rw [hml]; exact hl.1) rfl dX10_init_1 (Nat.le_of_ble_eq_true rfl) (Nat.le_of_ble_eq_true rfl) ?_
  refine W.eq (g2 := F0 m 4 ls []) rfl ?_
  refine lv_aload_n hx hb dX10_init_4 rfl (lv_at hl 0 rfl) ?_
  refine lv_sipush (v := 492) hx hb dX10_init_5 (by decide) ?_
  refine va_newa (atype := .long) (ty := .long) (a0 := (492, .inr (.inl (fun _ => 0)))) (N' := 492) hx hb (ho (.arrayClass .long) (List.mem_of_getElem? (i := 3) rfl)) rfl hK hP hD hS hA (fun _ => rfl) (by decide) (by decide) (by decide +kernel) (Nat.le_of_ble_eq_true rfl) (Nat.le_of_ble_eq_true rfl) dX10_init_8 (fun q1 k2 H hK hP hD hS => ?_)
  have hP : va_P (dC, dI) vwCl [(h0, .inr (10, [.null, .null, .null, .null, .null])), (q1, .inl (k2, 492, .inr (.inl (fun _ => 0))))] H := hP
  have hD : va_D A [(h0, .inr (10, [.null, .null, .null, .null, .null])), (q1, .inl (k2, 492, .inr (.inl (fun _ => 0))))] := hD
  have hK : va_K (dC, dI) vwCl [(k2, .long)] s := hK
  refine W.widen (k := 1) (n := 492) (Nat.le_of_ble_eq_true rfl) (Nat.le_of_ble_eq_true rfl) ?_
  refine va_putF (D := (dC, dI)) (ci := 10) (v := .ref q1) (ty := tyX10 3) (C := RX10) (T := TX10) (N := 5) hx hb hts hin10 tyX10 tyX10_ok nmX10 hown hK hP hD hS 0 rfl rfl 3 (by decide) (ho (.fieldLink RX10 9 "NearEnough$Worker" "plain" "[J") (List.mem_of_getElem? (i := 4) rfl)) (fun _ h9 => h9) rfl hin rfl (by decide +kernel) rfl rfl (Nat.le_of_ble_eq_true rfl) dX10_init_10 (fun H locs hP hD hS => ?_)
  have hP : va_P (dC, dI) vwCl [(h0, .inr (10, [.null, .null, .null, .ref q1, .null])), (q1, .inl (k2, 492, .inr (.inl (fun _ => 0))))] H := hP
  have hD : va_D A [(h0, .inr (10, [.null, .null, .null, .ref q1, .null])), (q1, .inl (k2, 492, .inr (.inl (fun _ => 0))))] := hD
  refine lv_aload_n hx hb dX10_init_13 rfl (lv_at hl 0 rfl) ?_
  refine lv_sipush (v := 492) hx hb dX10_init_14 (by decide) ?_
  refine va_newa (atype := .long) (ty := .long) (a0 := (492, .inr (.inl (fun _ => 0)))) (N' := 492) hx hb (ho (.arrayClass .long) (List.mem_of_getElem? (i := 3) rfl)) rfl hK hP hD hS hA (fun _ => rfl) (by decide) (by decide) (by decide +kernel) (Nat.le_of_ble_eq_true rfl) (Nat.le_of_ble_eq_true rfl) dX10_init_17 (fun q3 k4 H hK hP hD hS => ?_)
  have hP : va_P (dC, dI) vwCl [(h0, .inr (10, [.null, .null, .null, .ref q1, .null])), (q1, .inl (k2, 492, .inr (.inl (fun _ => 0)))), (q3, .inl (k4, 492, .inr (.inl (fun _ => 0))))] H := hP
  have hD : va_D A [(h0, .inr (10, [.null, .null, .null, .ref q1, .null])), (q1, .inl (k2, 492, .inr (.inl (fun _ => 0)))), (q3, .inl (k4, 492, .inr (.inl (fun _ => 0))))] := hD
  have hK : va_K (dC, dI) vwCl [(k2, .long), (k4, .long)] s := hK
  refine W.widen (k := 2) (n := 984) (Nat.le_of_ble_eq_true rfl) (Nat.le_of_ble_eq_true rfl) ?_
  refine va_putF (D := (dC, dI)) (ci := 10) (v := .ref q3) (ty := tyX10 4) (C := RX10) (T := TX10) (N := 5) hx hb hts hin10 tyX10 tyX10_ok nmX10 hown hK hP hD hS 0 rfl rfl 4 (by decide) (ho (.fieldLink RX10 15 "NearEnough$Worker" "changed" "[J") (List.mem_of_getElem? (i := 5) rfl)) (fun _ h9 => h9) rfl hin rfl (by decide +kernel) rfl rfl (Nat.le_of_ble_eq_true rfl) dX10_init_19 (fun H locs hP hD hS => ?_)
  have hP : va_P (dC, dI) vwCl [(h0, .inr (10, [.null, .null, .null, .ref q1, .ref q3])), (q1, .inl (k2, 492, .inr (.inl (fun _ => 0)))), (q3, .inl (k4, 492, .inr (.inl (fun _ => 0))))] H := hP
  have hD : va_D A [(h0, .inr (10, [.null, .null, .null, .ref q1, .ref q3])), (q1, .inl (k2, 492, .inr (.inl (fun _ => 0)))), (q3, .inl (k4, 492, .inr (.inl (fun _ => 0))))] := hD
  refine lv_aload_n hx hb dX10_init_22 rfl (lv_at hl 0 rfl) ?_
  refine lv_aload_n hx hb dX10_init_23 rfl (lv_at hl 1 rfl) ?_
  refine va_putF (D := (dC, dI)) (ci := 10) (v := .ref td) (ty := tyX10 0) (C := RX10) (T := TX10) (N := 5) hx hb hts hin10 tyX10 tyX10_ok nmX10 hown hK hP hD hS 0 rfl rfl 0 (by decide) (ho (.fieldLink RX10 18 "NearEnough$Worker" "told" "LNearEnough$Program;") (List.mem_of_getElem? (i := 6) rfl)) (fun _ h9 => h9) rfl hin rfl (by decide +kernel) rfl rfl (Nat.le_of_ble_eq_true rfl) dX10_init_24 (fun H locs hP hD hS => ?_)
  have hP : va_P (dC, dI) vwCl [(h0, .inr (10, [.ref td, .null, .null, .ref q1, .ref q3])), (q1, .inl (k2, 492, .inr (.inl (fun _ => 0)))), (q3, .inl (k4, 492, .inr (.inl (fun _ => 0))))] H := hP
  have hD : va_D A [(h0, .inr (10, [.ref td, .null, .null, .ref q1, .ref q3])), (q1, .inl (k2, 492, .inr (.inl (fun _ => 0)))), (q3, .inl (k4, 492, .inr (.inl (fun _ => 0))))] := hD
  refine lv_aload_n hx hb dX10_init_27 rfl (lv_at hl 0 rfl) ?_
  refine lv_aload_n hx hb dX10_init_28 rfl (lv_at hl 2 rfl) ?_
  refine va_putF (D := (dC, dI)) (ci := 10) (v := .ref sh) (ty := tyX10 1) (C := RX10) (T := TX10) (N := 5) hx hb hts hin10 tyX10 tyX10_ok nmX10 hown hK hP hD hS 0 rfl rfl 1 (by decide) (ho (.fieldLink RX10 22 "NearEnough$Worker" "sheets" "LNearEnough$Sheets;") (List.mem_of_getElem? (i := 7) rfl)) (fun _ h9 => h9) rfl hin rfl (by decide +kernel) rfl rfl (Nat.le_of_ble_eq_true rfl) dX10_init_29 (fun H locs hP hD hS => ?_)
  have hP : va_P (dC, dI) vwCl [(h0, .inr (10, [.ref td, .ref sh, .null, .ref q1, .ref q3])), (q1, .inl (k2, 492, .inr (.inl (fun _ => 0)))), (q3, .inl (k4, 492, .inr (.inl (fun _ => 0))))] H := hP
  have hD : va_D A [(h0, .inr (10, [.ref td, .ref sh, .null, .ref q1, .ref q3])), (q1, .inl (k2, 492, .inr (.inl (fun _ => 0)))), (q3, .inl (k4, 492, .inr (.inl (fun _ => 0))))] := hD
  refine lv_aload_n hx hb dX10_init_32 rfl (lv_at hl 0 rfl) ?_
  refine lv_aload_n hx hb dX10_init_33 rfl (lv_at hl 3 rfl) ?_
  refine va_putF (D := (dC, dI)) (ci := 10) (v := .ref ch) (ty := tyX10 2) (C := RX10) (T := TX10) (N := 5) hx hb hts hin10 tyX10 tyX10_ok nmX10 hown hK hP hD hS 0 rfl rfl 2 (by decide) (ho (.fieldLink RX10 26 "NearEnough$Worker" "changes" "LNearEnough$Changes;") (List.mem_of_getElem? (i := 8) rfl)) (fun _ h9 => h9) rfl hin rfl (by decide +kernel) rfl rfl (Nat.le_of_ble_eq_true rfl) dX10_init_34 (fun H locs hP hD hS => ?_)
  have hP : va_P (dC, dI) vwCl [(h0, .inr (10, [.ref td, .ref sh, .ref ch, .ref q1, .ref q3])), (q1, .inl (k2, 492, .inr (.inl (fun _ => 0)))), (q3, .inl (k4, 492, .inr (.inl (fun _ => 0))))] H := hP
  have hD : va_D A [(h0, .inr (10, [.ref td, .ref sh, .ref ch, .ref q1, .ref q3])), (q1, .inl (k2, 492, .inr (.inl (fun _ => 0)))), (q3, .inl (k4, 492, .inr (.inl (fun _ => 0))))] := hD
  refine W.widen (k := 2) (n := 984) (Nat.le_of_ble_eq_true rfl) (Nat.le_of_ble_eq_true rfl) ?_
  exact W.vret hx hb hr (fun t ht hW => ⟨⟨(q1, q3), rfl, trivial, wEn_of (hP.sub [0] rfl) (hK.sub [] rfl) (hD.sub [0] (by decide) rfl) ht hW⟩, hS.F ht⟩) hS.2.2 dX10_init_37
def ow_c_X_init : List Cond := [.methodLink RX11 3 objectInit, .instanceMethod objectInit, .code objectInit ⟨#[0xb1]⟩ 1 none, .arrayClass .byte, .fieldLink RX11 9 "NearEnough" "tape" "[B", .fieldLink RX11 13 "NearEnough" "bytes" "I", .fieldLink RX11 17 "NearEnough" "faultNumber" "I", .fieldLink RX11 20 "NearEnough" "faultPlace" "I", .classLink RX11 23 RX3, .instantiable RX3 8, .initialized RX3, .instanceMethod yX3_init, .fieldLink RX11 26 "NearEnough" "told" "LNearEnough$Program;", .classLink RX11 30 RX7, .instantiable RX7 3, .initialized RX7, .instanceMethod yX7_init, .fieldLink RX11 33 "NearEnough" "sheets" "LNearEnough$Sheets;", .classLink RX11 37 RX0, .instantiable RX0 7, .initialized RX0, .instanceMethod yX0_init, .fieldLink RX11 40 "NearEnough" "changes" "LNearEnough$Changes;", .classLink RX11 44 RX8, .instantiable RX8 9, .initialized RX8, .methodLink RX11 46 yX8_init, .instanceMethod yX8_init, .fieldLink RX11 49 "NearEnough" "shown" "LNearEnough$Shown;", .classLink RX11 53 RX10, .instantiable RX10 5, .initialized RX10, .methodLink RX11 55 yX10_init, .instanceMethod yX10_init, .fieldLink RX11 58 "NearEnough" "worker" "LNearEnough$Worker;", .arrayClass .int, .fieldLink RX11 62 "NearEnough" "guardEnd" "[I", .fieldLink RX11 66 "NearEnough" "guardStep" "[I", .fieldLink RX11 69 "NearEnough" "guardWithin" "[I", .fieldLink RX11 72 "NearEnough" "guards" "I", .fieldLink RX11 75 "NearEnough" "left" "I", .arrayClass .long, .fieldLink RX11 78 "NearEnough" "tally" "[J", .fieldLink RX11 82 "NearEnough" "edge" "LNearEnough$Front;", .fieldLink RX11 86 "NearEnough" "planner" "LNearEnough$Plan;"]
def vs_c_X_init : List Cond := .code yX11_init cX11_init 1 none :: (ow_c_X_init ++ (vs_c_Program_init ++ (vs_c_Sheets_init ++ (vs_c_Changes_init ++ (vs_c_Shown_init ++ (vs_c_Worker_init ++ (wsX00 ++ (wsX30 ++ (wsX70 ++ (wsX80 ++ (wsX100 ++ (wsX110))))))))))))
theorem vg_c_X_init : vs_c_X_init.all goodWord = true := by decide +kernel
theorem gd_c_X_init_25_c_Program_init : GoodIn vs_c_X_init (vs_c_Program_init) := (goodIn_sub (fun w h => (List.mem_cons_of_mem _ (List.mem_append_right _ (List.mem_append_left _ h)))) vg_c_Program_init)
theorem gd_c_X_init_32_c_Sheets_init : GoodIn vs_c_X_init (vs_c_Sheets_init) := (goodIn_sub (fun w h => (List.mem_cons_of_mem _ (List.mem_append_right _ (List.mem_append_right _ (List.mem_append_left _ h))))) vg_c_Sheets_init)
theorem gd_c_X_init_39_c_Changes_init : GoodIn vs_c_X_init (vs_c_Changes_init) := (goodIn_sub (fun w h => (List.mem_cons_of_mem _ (List.mem_append_right _ (List.mem_append_right _ (List.mem_append_right _ (List.mem_append_left _ h)))))) vg_c_Changes_init)
theorem gd_c_X_init_46_c_Shown_init : GoodIn vs_c_X_init (vs_c_Shown_init) := (goodIn_sub (fun w h => (List.mem_cons_of_mem _ (List.mem_append_right _ (List.mem_append_right _ (List.mem_append_right _ (List.mem_append_right _ (List.mem_append_left _ h))))))) vg_c_Shown_init)
theorem gd_c_X_init_55_c_Worker_init : GoodIn vs_c_X_init (vs_c_Worker_init) := (goodIn_sub (fun w h => (List.mem_cons_of_mem _ (List.mem_append_right _ (List.mem_append_right _ (List.mem_append_right _ (List.mem_append_right _ (List.mem_append_right _ (List.mem_append_left _ h)))))))) vg_c_Worker_init)
set_option maxHeartbeats 4000000 in
set_option maxRecDepth 100000 in
/-- new NearEnough() -/
theorem c_X_init (l : Launch) (dC : Nat → ClassId) (dI : Nat → Nat → Nat) (h0 : Nat) (sz : Nat) : Met l yX11_init vs_c_X_init ({ frames := 2, cells := 26, slots := 2674, locals := 47 }) (va_Pc [.ref h0] (wSt dC dI [(h0, .inr (11, [.null, .int 0, .int 0, .int 0, .null, .null, .null, .null, .null, .null, .null, .null, .int 0, .int 0, .null, .null, .null]))] [] sz)) (va_Qv (fun (_ : Nat × Nat × Nat × Nat × Nat × Nat × Nat × Nat × Nat × Nat × Nat × Nat × Nat × Nat × Nat × Nat × Nat × Nat × Nat × Nat × Nat × Nat × Nat × Nat × Nat × Nat × ClassId × ClassId × ClassId × ClassId × ClassId × ClassId × ClassId × ClassId) => True) (fun (u : Nat × Nat × Nat × Nat × Nat × Nat × Nat × Nat × Nat × Nat × Nat × Nat × Nat × Nat × Nat × Nat × Nat × Nat × Nat × Nat × Nat × Nat × Nat × Nat × Nat × Nat × ClassId × ClassId × ClassId × ClassId × ClassId × ClassId × ClassId × ClassId) => wEn dC dI (va_A [(h0, .inr (11, [.null, .int 0, .int 0, .int 0, .null, .null, .null, .null, .null, .null, .null, .null, .int 0, .int 0, .null, .null, .null]))] sz) [(h0, .inr (11, [.ref u.1, .int 0, .int 0, .int (-1), .ref u.2.1, .ref u.2.2.1, .ref u.2.2.2.1, .ref u.2.2.2.2.1, .ref u.2.2.2.2.2.1, .ref u.2.2.2.2.2.2.1, .ref u.2.2.2.2.2.2.2.1, .ref u.2.2.2.2.2.2.2.2.1, .int 0, .int 0, .ref u.2.2.2.2.2.2.2.2.2.1, .null, .null])), (u.1, .inl (u.2.2.2.2.2.2.2.2.2.2.2.2.2.2.2.2.2.2.2.2.2.2.2.2.2.2.1, 1000, .inl (fun _ => 0))), (u.2.1, .inr (3, [.ref u.2.2.2.2.2.2.2.2.2.2.1, .ref u.2.2.2.2.2.2.2.2.2.2.2.1, .ref u.2.2.2.2.2.2.2.2.2.2.2.2.1, .ref u.2.2.2.2.2.2.2.2.2.2.2.2.2.1, .ref u.2.2.2.2.2.2.2.2.2.2.2.2.2.2.1, .int 0, .int 0, .int 0])), (u.2.2.2.2.2.2.2.2.2.2.1, .inl (u.2.2.2.2.2.2.2.2.2.2.2.2.2.2.2.2.2.2.2.2.2.2.2.2.2.2.2.1, 2, .inr (.inr (.inr (.inr (fun _ => none)))))), (u.2.2.2.2.2.2.2.2.2.2.2.1, .inl (u.2.2.2.2.2.2.2.2.2.2.2.2.2.2.2.2.2.2.2.2.2.2.2.2.2.2.2.2.1, 12, .inr (.inr (.inr (.inr (fun _ => none)))))), (u.2.2.2.2.2.2.2.2.2.2.2.2.1, .inl (u.2.2.2.2.2.2.2.2.2.2.2.2.2.2.2.2.2.2.2.2.2.2.2.2.2.2.2.2.2.1, 4, .inl (fun _ => 0))), (u.2.2.2.2.2.2.2.2.2.2.2.2.2.1, .inl (u.2.2.2.2.2.2.2.2.2.2.2.2.2.2.2.2.2.2.2.2.2.2.2.2.2.2.2.2.2.2.1, 4, .inl (fun _ => 0))), (u.2.2.2.2.2.2.2.2.2.2.2.2.2.2.1, .inl (u.2.2.2.2.2.2.2.2.2.2.2.2.2.2.2.2.2.2.2.2.2.2.2.2.2.2.2.2.2.2.2.1, 4, .inl (fun _ => 0))), (u.2.2.1, .inr (7, [.ref u.2.2.2.2.2.2.2.2.2.2.2.2.2.2.2.1, .ref u.2.2.2.2.2.2.2.2.2.2.2.2.2.2.2.2.1, .int 0])), (u.2.2.2.2.2.2.2.2.2.2.2.2.2.2.2.2.1, .inl (u.2.2.2.2.2.2.2.2.2.2.2.2.2.2.2.2.2.2.2.2.2.2.2.2.2.2.2.2.2.2.2.2.1, 40, .inl (fun _ => 0))), (u.2.2.2.1, .inr (0, [.ref u.2.2.2.2.2.2.2.2.2.2.2.2.2.2.2.2.2.1, .ref u.2.2.2.2.2.2.2.2.2.2.2.2.2.2.2.2.2.2.1, .ref u.2.2.2.2.2.2.2.2.2.2.2.2.2.2.2.2.2.2.2.1, .ref u.2.2.2.2.2.2.2.2.2.2.2.2.2.2.2.2.2.2.2.2.1, .ref u.2.2.2.2.2.2.2.2.2.2.2.2.2.2.2.2.2.2.2.2.2.1, .int 0, .int 0])), (u.2.2.2.2.2.2.2.2.2.2.2.2.2.2.2.2.2.2.2.2.2.1, .inl (u.2.2.2.2.2.2.2.2.2.2.2.2.2.2.2.2.2.2.2.2.2.2.2.2.2.2.2.2.2.2.2.2.2, 12, .inl (fun _ => 0))), (u.2.2.2.2.1, .inr (8, [.ref u.2.1, .ref u.2.2.2.1, .ref u.2.2.2.2.2.2.2.2.2.2.2.2.2.2.2.2.2.2.2.2.2.2.1, .ref u.2.2.2.2.2.2.2.2.2.2.2.2.2.2.2.2.2.2.2.2.2.2.2.1, .long 0, .long 0, .int 0, .int 0, .int 0])), (u.2.2.2.2.2.1, .inr (10, [.ref u.2.1, .ref u.2.2.1, .ref u.2.2.2.1, .ref u.2.2.2.2.2.2.2.2.2.2.2.2.2.2.2.2.2.2.2.2.2.2.2.2.1, .ref u.2.2.2.2.2.2.2.2.2.2.2.2.2.2.2.2.2.2.2.2.2.2.2.2.2.1]))] [(u.2.2.2.2.2.2.2.2.2.2.2.2.2.2.2.2.2.2.2.2.2.2.2.2.2.2.1, .byte), (u.2.2.2.2.2.2.2.2.2.2.2.2.2.2.2.2.2.2.2.2.2.2.2.2.2.2.2.1, .object RX5), (u.2.2.2.2.2.2.2.2.2.2.2.2.2.2.2.2.2.2.2.2.2.2.2.2.2.2.2.2.1, .object RX9), (u.2.2.2.2.2.2.2.2.2.2.2.2.2.2.2.2.2.2.2.2.2.2.2.2.2.2.2.2.2.1, .int), (u.2.2.2.2.2.2.2.2.2.2.2.2.2.2.2.2.2.2.2.2.2.2.2.2.2.2.2.2.2.2.1, .int), (u.2.2.2.2.2.2.2.2.2.2.2.2.2.2.2.2.2.2.2.2.2.2.2.2.2.2.2.2.2.2.2.1, .int), (u.2.2.2.2.2.2.2.2.2.2.2.2.2.2.2.2.2.2.2.2.2.2.2.2.2.2.2.2.2.2.2.2.1, .boolean), (u.2.2.2.2.2.2.2.2.2.2.2.2.2.2.2.2.2.2.2.2.2.2.2.2.2.2.2.2.2.2.2.2.2, .int)]) (va_A [(h0, .inr (11, [.null, .int 0, .int 0, .int 0, .null, .null, .null, .null, .null, .null, .null, .null, .int 0, .int 0, .null, .null, .null]))] sz)) 26 2674 (va_A [(h0, .inr (11, [.null, .int 0, .int 0, .int 0, .null, .null, .null, .null, .null, .null, .null, .null, .int 0, .int 0, .null, .null, .null]))] sz) := by
  refine Met.ofW (cc := cX11_init) (maxL := 1) (ret := none) (by decide) rfl ?_
  intro p e s m args below meth c s₁ B hml hv
  obtain ⟨rfl, hsz, hP, hK, hD0, hE⟩ := hv
  have hx := B.exec
  have hb := B.bytes
  have hr := B.returns
  have hts := atoms_spec (ws := vs_c_X_init) B.pre
  have hown : s.vm.findClass RX11 = some m.cls := findClass_of_methodNamed B.named
  have hlocks := B.notSynchronized
  have hin : meth.name = "<init>" := (name_of_methodNamed B.named B.method).1
  subst hsz
  have hD := hD0.self (sz := s.heap.size)
  generalize hAe : va_A [(h0, .inr (11, [.null, .int 0, .int 0, .int 0, .null, .null, .null, .null, .null, .null, .null, .null, .int 0, .int 0, .null, .null, .null]))] s.heap.size = A at hD ⊢
  have hA : ∀ q : Nat, s.heap.size ≤ q → A q := fun q h => by rw [← hAe]; exact Or.inr h
  have hl := lv_entry ([.ref h0]) (n := 1) (Nat.le_of_ble_eq_true rfl)
  rw [lg_entry_eq]
  generalize (lg_sl ([.ref h0]) ++ List.replicate (1 - (lg_sl ([.ref h0])).length) Slot.unset).toArray = ls at hl ⊢
  have hl : lv_has ls 1 [(0, .ref h0)] := hl
  refine zH (A := A) (ws := [(h0, .inr (11, [.null, .int 0, .int 0, .int 0, .null, .null, .null, .null, .null, .null, .null, .null, .int 0, .int 0, .null, .null, .null]))]) (fun H hP hS => ?_) hP
  have ho := fun w (h : w ∈ ow_c_X_init) => hts w (List.mem_cons_of_mem _ (List.mem_append_left _ h))
  have hin0 : ∀ w ∈ u_ws RX0 TX0 7, w ∈ vs_c_X_init := fun w h => (List.mem_cons_of_mem _ (List.mem_append_right _ (List.mem_append_right _ (List.mem_append_right _ (List.mem_append_right _ (List.mem_append_right _ (List.mem_append_right _ (List.mem_append_left _ h))))))))
  have hin3 : ∀ w ∈ u_ws RX3 TX3 8, w ∈ vs_c_X_init := fun w h => (List.mem_cons_of_mem _ (List.mem_append_right _ (List.mem_append_right _ (List.mem_append_right _ (List.mem_append_right _ (List.mem_append_right _ (List.mem_append_right _ (List.mem_append_right _ (List.mem_append_left _ h)))))))))
  have hin7 : ∀ w ∈ u_ws RX7 TX7 3, w ∈ vs_c_X_init := fun w h => (List.mem_cons_of_mem _ (List.mem_append_right _ (List.mem_append_right _ (List.mem_append_right _ (List.mem_append_right _ (List.mem_append_right _ (List.mem_append_right _ (List.mem_append_right _ (List.mem_append_right _ (List.mem_append_left _ h))))))))))
  have hin8 : ∀ w ∈ u_ws RX8 TX8 9, w ∈ vs_c_X_init := fun w h => (List.mem_cons_of_mem _ (List.mem_append_right _ (List.mem_append_right _ (List.mem_append_right _ (List.mem_append_right _ (List.mem_append_right _ (List.mem_append_right _ (List.mem_append_right _ (List.mem_append_right _ (List.mem_append_right _ (List.mem_append_left _ h)))))))))))
  have hin10 : ∀ w ∈ u_ws RX10 TX10 5, w ∈ vs_c_X_init := fun w h => (List.mem_cons_of_mem _ (List.mem_append_right _ (List.mem_append_right _ (List.mem_append_right _ (List.mem_append_right _ (List.mem_append_right _ (List.mem_append_right _ (List.mem_append_right _ (List.mem_append_right _ (List.mem_append_right _ (List.mem_append_right _ (List.mem_append_left _ h))))))))))))
  have hin11 : ∀ w ∈ u_ws RX11 TX11 17, w ∈ vs_c_X_init := fun w h => (List.mem_cons_of_mem _ (List.mem_append_right _ (List.mem_append_right _ (List.mem_append_right _ (List.mem_append_right _ (List.mem_append_right _ (List.mem_append_right _ (List.mem_append_right _ (List.mem_append_right _ (List.mem_append_right _ (List.mem_append_right _ (List.mem_append_right _ h))))))))))))
  refine lv_aload_n hx hb dX11_init_0 rfl (lv_at hl 0 rfl) ?_
  refine W.objInit hx hb hown (ho (.methodLink RX11 3 objectInit) (List.mem_of_getElem? (i := 0) rfl)) (ho (.instanceMethod objectInit) (List.mem_of_getElem? (i := 1) rfl)) (ho (.code objectInit ⟨#[0xb1]⟩ 1 none) (List.mem_of_getElem? (i := 2) rfl)) rfl (by rw [hml]; exact hl.1) rfl dX11_init_1 (Nat.le_of_ble_eq_true rfl) (Nat.le_of_ble_eq_true rfl) ?_
  refine W.eq (g2 := F0 m 4 ls []) rfl ?_
  refine lv_aload_n hx hb dX11_init_4 rfl (lv_at hl 0 rfl) ?_
  refine lv_sipush (v := 1000) hx hb dX11_init_5 (by decide) ?_
  refine va_newa (atype := .byte) (ty := .byte) (a0 := (1000, .inl (fun _ => 0))) (N' := 1000) hx hb (ho (.arrayClass .byte) (List.mem_of_getElem? (i := 3) rfl)) rfl hK hP hD hS hA (fun _ => rfl) (by decide) (by decide) (by decide +kernel) (Nat.le_of_ble_eq_true rfl) (Nat.le_of_ble_eq_true rfl) dX11_init_8 (fun q1 k2 H hK hP hD hS => ?_)
  have hP : va_P (dC, dI) vwCl [(h0, .inr (11, [.null, .int 0, .int 0, .int 0, .null, .null, .null, .null, .null, .null, .null, .null, .int 0, .int 0, .null, .null, .null])), (q1, .inl (k2, 1000, .inl (fun _ => 0)))] H := hP
  have hD : va_D A [(h0, .inr (11, [.null, .int 0, .int 0, .int 0, .null, .null, .null, .null, .null, .null, .null, .null, .int 0, .int 0, .null, .null, .null])), (q1, .inl (k2, 1000, .inl (fun _ => 0)))] := hD
  have hK : va_K (dC, dI) vwCl [(k2, .byte)] s := hK
  refine W.widen (k := 1) (n := 1000) (Nat.le_of_ble_eq_true rfl) (Nat.le_of_ble_eq_true rfl) ?_
  refine va_putF (D := (dC, dI)) (ci := 11) (v := .ref q1) (ty := tyX11 0) (C := RX11) (T := TX11) (N := 17) hx hb hts hin11 tyX11 tyX11_ok nmX11 hown hK hP hD hS 0 rfl rfl 0 (by decide) (ho (.fieldLink RX11 9 "NearEnough" "tape" "[B") (List.mem_of_getElem? (i := 4) rfl)) (fun _ h9 => h9) rfl hin rfl (by decide +kernel) rfl rfl (Nat.le_of_ble_eq_true rfl) dX11_init_10 (fun H locs hP hD hS => ?_)
  have hP : va_P (dC, dI) vwCl [(h0, .inr (11, [.ref q1, .int 0, .int 0, .int 0, .null, .null, .null, .null, .null, .null, .null, .null, .int 0, .int 0, .null, .null, .null])), (q1, .inl (k2, 1000, .inl (fun _ => 0)))] H := hP
  have hD : va_D A [(h0, .inr (11, [.ref q1, .int 0, .int 0, .int 0, .null, .null, .null, .null, .null, .null, .null, .null, .int 0, .int 0, .null, .null, .null])), (q1, .inl (k2, 1000, .inl (fun _ => 0)))] := hD
  refine lv_aload_n hx hb dX11_init_13 rfl (lv_at hl 0 rfl) ?_
  refine lv_iconst (v := 0) hx hb dX11_init_14 (by decide) ?_
  refine va_put (D := (dC, dI)) (ci := 11) (v := .int 0) (ty := tyX11 1) (C := RX11) (T := TX11) (N := 17) hx hb hts hin11 tyX11 tyX11_ok nmX11 hown hK hP hD hS 0 rfl rfl 1 (by decide) (ho (.fieldLink RX11 13 "NearEnough" "bytes" "I") (List.mem_of_getElem? (i := 5) rfl)) (fun _ h9 => h9) rfl (by decide +kernel) rfl rfl (Nat.le_of_ble_eq_true rfl) dX11_init_15 (fun H locs hP hD hS => ?_)
  have hP : va_P (dC, dI) vwCl [(h0, .inr (11, [.ref q1, .int 0, .int 0, .int 0, .null, .null, .null, .null, .null, .null, .null, .null, .int 0, .int 0, .null, .null, .null])), (q1, .inl (k2, 1000, .inl (fun _ => 0)))] H := hP
  have hD : va_D A [(h0, .inr (11, [.ref q1, .int 0, .int 0, .int 0, .null, .null, .null, .null, .null, .null, .null, .null, .int 0, .int 0, .null, .null, .null])), (q1, .inl (k2, 1000, .inl (fun _ => 0)))] := hD
  refine lv_aload_n hx hb dX11_init_18 rfl (lv_at hl 0 rfl) ?_
  refine lv_iconst (v := 0) hx hb dX11_init_19 (by decide) ?_
  refine va_put (D := (dC, dI)) (ci := 11) (v := .int 0) (ty := tyX11 2) (C := RX11) (T := TX11) (N := 17) hx hb hts hin11 tyX11 tyX11_ok nmX11 hown hK hP hD hS 0 rfl rfl 2 (by decide) (ho (.fieldLink RX11 17 "NearEnough" "faultNumber" "I") (List.mem_of_getElem? (i := 6) rfl)) (fun _ h9 => h9) rfl (by decide +kernel) rfl rfl (Nat.le_of_ble_eq_true rfl) dX11_init_20 (fun H locs hP hD hS => ?_)
  have hP : va_P (dC, dI) vwCl [(h0, .inr (11, [.ref q1, .int 0, .int 0, .int 0, .null, .null, .null, .null, .null, .null, .null, .null, .int 0, .int 0, .null, .null, .null])), (q1, .inl (k2, 1000, .inl (fun _ => 0)))] H := hP
  have hD : va_D A [(h0, .inr (11, [.ref q1, .int 0, .int 0, .int 0, .null, .null, .null, .null, .null, .null, .null, .null, .int 0, .int 0, .null, .null, .null])), (q1, .inl (k2, 1000, .inl (fun _ => 0)))] := hD
  refine lv_aload_n hx hb dX11_init_23 rfl (lv_at hl 0 rfl) ?_
  refine lv_iconst (v := (-1)) hx hb dX11_init_24 (by decide) ?_
  refine va_put (D := (dC, dI)) (ci := 11) (v := .int (-1)) (ty := tyX11 3) (C := RX11) (T := TX11) (N := 17) hx hb hts hin11 tyX11 tyX11_ok nmX11 hown hK hP hD hS 0 rfl rfl 3 (by decide) (ho (.fieldLink RX11 20 "NearEnough" "faultPlace" "I") (List.mem_of_getElem? (i := 7) rfl)) (fun _ h9 => h9) rfl (by decide +kernel) rfl rfl (Nat.le_of_ble_eq_true rfl) dX11_init_25 (fun H locs hP hD hS => ?_)
  have hP : va_P (dC, dI) vwCl [(h0, .inr (11, [.ref q1, .int 0, .int 0, .int (-1), .null, .null, .null, .null, .null, .null, .null, .null, .int 0, .int 0, .null, .null, .null])), (q1, .inl (k2, 1000, .inl (fun _ => 0)))] H := hP
  have hD : va_D A [(h0, .inr (11, [.ref q1, .int 0, .int 0, .int (-1), .null, .null, .null, .null, .null, .null, .null, .null, .int 0, .int 0, .null, .null, .null])), (q1, .inl (k2, 1000, .inl (fun _ => 0)))] := hD
  refine lv_aload_n hx hb dX11_init_28 rfl (lv_at hl 0 rfl) ?_
  refine va_new (ci := 3) (fs := [.null, .null, .null, .null, .null, .int 0, .int 0, .int 0]) (C := RX3) (T := TX3) (N := 8) hx hb hts hin3 tyX3 tyX3_ok hown (ho (.classLink RX11 23 RX3) (List.mem_of_getElem? (i := 8) rfl)) (ho (.instantiable RX3 8) (List.mem_of_getElem? (i := 9) rfl)) (ho (.initialized RX3) (List.mem_of_getElem? (i := 10) rfl)) hK hP hD hS hA rfl (by decide) (Nat.le_of_ble_eq_true rfl) (Nat.le_of_ble_eq_true rfl) dX11_init_29 (fun q3 H hP hD hS => ?_)
  have hP : va_P (dC, dI) vwCl [(h0, .inr (11, [.ref q1, .int 0, .int 0, .int (-1), .null, .null, .null, .null, .null, .null, .null, .null, .int 0, .int 0, .null, .null, .null])), (q1, .inl (k2, 1000, .inl (fun _ => 0))), (q3, .inr (3, [.null, .null, .null, .null, .null, .int 0, .int 0, .int 0]))] H := hP
  have hD : va_D A [(h0, .inr (11, [.ref q1, .int 0, .int 0, .int (-1), .null, .null, .null, .null, .null, .null, .null, .null, .int 0, .int 0, .null, .null, .null])), (q1, .inl (k2, 1000, .inl (fun _ => 0))), (q3, .inr (3, [.null, .null, .null, .null, .null, .int 0, .int 0, .int 0]))] := hD
  refine W.widen (k := 2) (n := 1008) (Nat.le_of_ble_eq_true rfl) (Nat.le_of_ble_eq_true rfl) ?_
  refine lv_dup hx hb dX11_init_32 rfl ?_
  have hPc := hP.sub (ws' := [(q3, .inr (3, [.null, .null, .null, .null, .null, .int 0, .int 0, .int 0]))]) [2] rfl
  have hDc := hD.sub (ws' := [(q3, .inr (3, [.null, .null, .null, .null, .null, .int 0, .int 0, .int 0]))]) [2] (by decide) rfl
  have hKc := hK.sub (tys' := []) [] rfl
  refine zz_v (wr := [(h0, .inr (11, [.ref q1, .int 0, .int 0, .int (-1), .null, .null, .null, .null, .null, .null, .null, .null, .int 0, .int 0, .null, .null, .null])), (q1, .inl (k2, 1000, .inl (fun _ => 0)))]) (va_runIN (host := "NearEnough") (As := []) (rest := [.ref q3, .ref h0]) ⟨hx, hb, hml, hown, hts⟩ (c_Program_init l dC dI q3 H.size) ⟨va_cnB 0 hts gd_c_X_init_25_c_Program_init rfl rfl rfl hE.nX11_25 (ho (.initialized RX3) (List.mem_of_getElem? (i := 10) rfl)) (by decide +kernel) ⟨Nat.le_of_ble_eq_true rfl, Nat.le_of_ble_eq_true rfl⟩, rfl, (ho (.instanceMethod yX3_init) (List.mem_of_getElem? (i := 11) rfl))⟩ (preS hPc hKc hDc hE) rfl rfl hl.1 rfl (lv_room (Nat.le_of_ble_eq_true rfl)) dX11_init_33 ⟨Nat.le_of_ble_eq_true rfl, Nat.le_of_ble_eq_true rfl⟩) hK hP hD hS hA [2] [0, 1] rfl rfl (by decide) (by decide) (fun u H locs hK hP hD hS => ?_)
  obtain ⟨r4, r5, r6, r7, r8, k9, k10, k11, k12, k13⟩ := u
  have hP : va_P (dC, dI) vwCl [(h0, .inr (11, [.ref q1, .int 0, .int 0, .int (-1), .null, .null, .null, .null, .null, .null, .null, .null, .int 0, .int 0, .null, .null, .null])), (q1, .inl (k2, 1000, .inl (fun _ => 0))), (q3, .inr (3, [.ref r4, .ref r5, .ref r6, .ref r7, .ref r8, .int 0, .int 0, .int 0])), (r4, .inl (k9, 2, .inr (.inr (.inr (.inr (fun _ => none)))))), (r5, .inl (k10, 12, .inr (.inr (.inr (.inr (fun _ => none)))))), (r6, .inl (k11, 4, .inl (fun _ => 0))), (r7, .inl (k12, 4, .inl (fun _ => 0))), (r8, .inl (k13, 4, .inl (fun _ => 0)))] H := hP
  have hD : va_D A [(h0, .inr (11, [.ref q1, .int 0, .int 0, .int (-1), .null, .null, .null, .null, .null, .null, .null, .null, .int 0, .int 0, .null, .null, .null])), (q1, .inl (k2, 1000, .inl (fun _ => 0))), (q3, .inr (3, [.ref r4, .ref r5, .ref r6, .ref r7, .ref r8, .int 0, .int 0, .int 0])), (r4, .inl (k9, 2, .inr (.inr (.inr (.inr (fun _ => none)))))), (r5, .inl (k10, 12, .inr (.inr (.inr (.inr (fun _ => none)))))), (r6, .inl (k11, 4, .inl (fun _ => 0))), (r7, .inl (k12, 4, .inl (fun _ => 0))), (r8, .inl (k13, 4, .inl (fun _ => 0)))] := hD
  have hK : va_K (dC, dI) vwCl [(k2, .byte), (k9, .object RX5), (k10, .object RX9), (k11, .int), (k12, .int), (k13, .int)] s := hK
  refine W.widen (k := 7) (n := 1034) (Nat.le_of_ble_eq_true rfl) (Nat.le_of_ble_eq_true rfl) ?_
  refine va_putF (D := (dC, dI)) (ci := 11) (v := .ref q3) (ty := tyX11 4) (C := RX11) (T := TX11) (N := 17) hx hb hts hin11 tyX11 tyX11_ok nmX11 hown hK hP hD hS 0 rfl rfl 4 (by decide) (ho (.fieldLink RX11 26 "NearEnough" "told" "LNearEnough$Program;") (List.mem_of_getElem? (i := 12) rfl)) (fun _ h9 => h9) rfl hin rfl (by decide +kernel) rfl rfl (Nat.le_of_ble_eq_true rfl) dX11_init_36 (fun H locs hP hD hS => ?_)
  have hP : va_P (dC, dI) vwCl [(h0, .inr (11, [.ref q1, .int 0, .int 0, .int (-1), .ref q3, .null, .null, .null, .null, .null, .null, .null, .int 0, .int 0, .null, .null, .null])), (q1, .inl (k2, 1000, .inl (fun _ => 0))), (q3, .inr (3, [.ref r4, .ref r5, .ref r6, .ref r7, .ref r8, .int 0, .int 0, .int 0])), (r4, .inl (k9, 2, .inr (.inr (.inr (.inr (fun _ => none)))))), (r5, .inl (k10, 12, .inr (.inr (.inr (.inr (fun _ => none)))))), (r6, .inl (k11, 4, .inl (fun _ => 0))), (r7, .inl (k12, 4, .inl (fun _ => 0))), (r8, .inl (k13, 4, .inl (fun _ => 0)))] H := hP
  have hD : va_D A [(h0, .inr (11, [.ref q1, .int 0, .int 0, .int (-1), .ref q3, .null, .null, .null, .null, .null, .null, .null, .int 0, .int 0, .null, .null, .null])), (q1, .inl (k2, 1000, .inl (fun _ => 0))), (q3, .inr (3, [.ref r4, .ref r5, .ref r6, .ref r7, .ref r8, .int 0, .int 0, .int 0])), (r4, .inl (k9, 2, .inr (.inr (.inr (.inr (fun _ => none)))))), (r5, .inl (k10, 12, .inr (.inr (.inr (.inr (fun _ => none)))))), (r6, .inl (k11, 4, .inl (fun _ => 0))), (r7, .inl (k12, 4, .inl (fun _ => 0))), (r8, .inl (k13, 4, .inl (fun _ => 0)))] := hD
  refine lv_aload_n hx hb dX11_init_39 rfl (lv_at hl 0 rfl) ?_
  refine va_new (ci := 7) (fs := [.null, .null, .int 0]) (C := RX7) (T := TX7) (N := 3) hx hb hts hin7 tyX7 tyX7_ok hown (ho (.classLink RX11 30 RX7) (List.mem_of_getElem? (i := 13) rfl)) (ho (.instantiable RX7 3) (List.mem_of_getElem? (i := 14) rfl)) (ho (.initialized RX7) (List.mem_of_getElem? (i := 15) rfl)) hK hP hD hS hA rfl (by decide) (Nat.le_of_ble_eq_true rfl) (Nat.le_of_ble_eq_true rfl) dX11_init_40 (fun q14 H hP hD hS => ?_)
  have hP : va_P (dC, dI) vwCl [(h0, .inr (11, [.ref q1, .int 0, .int 0, .int (-1), .ref q3, .null, .null, .null, .null, .null, .null, .null, .int 0, .int 0, .null, .null, .null])), (q1, .inl (k2, 1000, .inl (fun _ => 0))), (q3, .inr (3, [.ref r4, .ref r5, .ref r6, .ref r7, .ref r8, .int 0, .int 0, .int 0])), (r4, .inl (k9, 2, .inr (.inr (.inr (.inr (fun _ => none)))))), (r5, .inl (k10, 12, .inr (.inr (.inr (.inr (fun _ => none)))))), (r6, .inl (k11, 4, .inl (fun _ => 0))), (r7, .inl (k12, 4, .inl (fun _ => 0))), (r8, .inl (k13, 4, .inl (fun _ => 0))), (q14, .inr (7, [.null, .null, .int 0]))] H := hP
  have hD : va_D A [(h0, .inr (11, [.ref q1, .int 0, .int 0, .int (-1), .ref q3, .null, .null, .null, .null, .null, .null, .null, .int 0, .int 0, .null, .null, .null])), (q1, .inl (k2, 1000, .inl (fun _ => 0))), (q3, .inr (3, [.ref r4, .ref r5, .ref r6, .ref r7, .ref r8, .int 0, .int 0, .int 0])), (r4, .inl (k9, 2, .inr (.inr (.inr (.inr (fun _ => none)))))), (r5, .inl (k10, 12, .inr (.inr (.inr (.inr (fun _ => none)))))), (r6, .inl (k11, 4, .inl (fun _ => 0))), (r7, .inl (k12, 4, .inl (fun _ => 0))), (r8, .inl (k13, 4, .inl (fun _ => 0))), (q14, .inr (7, [.null, .null, .int 0]))] := hD
  refine W.widen (k := 8) (n := 1037) (Nat.le_of_ble_eq_true rfl) (Nat.le_of_ble_eq_true rfl) ?_
  refine lv_dup hx hb dX11_init_43 rfl ?_
  have hPc := hP.sub (ws' := [(q14, .inr (7, [.null, .null, .int 0]))]) [8] rfl
  have hDc := hD.sub (ws' := [(q14, .inr (7, [.null, .null, .int 0]))]) [8] (by decide) rfl
  have hKc := hK.sub (tys' := []) [] rfl
  refine zz_v (wr := [(h0, .inr (11, [.ref q1, .int 0, .int 0, .int (-1), .ref q3, .null, .null, .null, .null, .null, .null, .null, .int 0, .int 0, .null, .null, .null])), (q1, .inl (k2, 1000, .inl (fun _ => 0))), (q3, .inr (3, [.ref r4, .ref r5, .ref r6, .ref r7, .ref r8, .int 0, .int 0, .int 0])), (r4, .inl (k9, 2, .inr (.inr (.inr (.inr (fun _ => none)))))), (r5, .inl (k10, 12, .inr (.inr (.inr (.inr (fun _ => none)))))), (r6, .inl (k11, 4, .inl (fun _ => 0))), (r7, .inl (k12, 4, .inl (fun _ => 0))), (r8, .inl (k13, 4, .inl (fun _ => 0)))]) (va_runIN (host := "NearEnough") (As := []) (rest := [.ref q14, .ref h0]) ⟨hx, hb, hml, hown, hts⟩ (c_Sheets_init l dC dI q14 H.size) ⟨va_cnB 0 hts gd_c_X_init_32_c_Sheets_init rfl rfl rfl hE.nX11_32 (ho (.initialized RX7) (List.mem_of_getElem? (i := 15) rfl)) (by decide +kernel) ⟨Nat.le_of_ble_eq_true rfl, Nat.le_of_ble_eq_true rfl⟩, rfl, (ho (.instanceMethod yX7_init) (List.mem_of_getElem? (i := 16) rfl))⟩ (preS hPc hKc hDc hE) rfl rfl hl.1 rfl (lv_room (Nat.le_of_ble_eq_true rfl)) dX11_init_44 ⟨Nat.le_of_ble_eq_true rfl, Nat.le_of_ble_eq_true rfl⟩) hK hP hD hS hA [8] [0, 1, 2, 3, 4, 5, 6, 7] rfl rfl (by decide) (by decide) (fun u H locs hK hP hD hS => ?_)
  obtain ⟨s15, s16, k17⟩ := u
  have hP : va_P (dC, dI) vwCl [(h0, .inr (11, [.ref q1, .int 0, .int 0, .int (-1), .ref q3, .null, .null, .null, .null, .null, .null, .null, .int 0, .int 0, .null, .null, .null])), (q1, .inl (k2, 1000, .inl (fun _ => 0))), (q3, .inr (3, [.ref r4, .ref r5, .ref r6, .ref r7, .ref r8, .int 0, .int 0, .int 0])), (r4, .inl (k9, 2, .inr (.inr (.inr (.inr (fun _ => none)))))), (r5, .inl (k10, 12, .inr (.inr (.inr (.inr (fun _ => none)))))), (r6, .inl (k11, 4, .inl (fun _ => 0))), (r7, .inl (k12, 4, .inl (fun _ => 0))), (r8, .inl (k13, 4, .inl (fun _ => 0))), (q14, .inr (7, [.ref s15, .ref s16, .int 0])), (s16, .inl (k17, 40, .inl (fun _ => 0)))] H := hP
  have hD : va_D A [(h0, .inr (11, [.ref q1, .int 0, .int 0, .int (-1), .ref q3, .null, .null, .null, .null, .null, .null, .null, .int 0, .int 0, .null, .null, .null])), (q1, .inl (k2, 1000, .inl (fun _ => 0))), (q3, .inr (3, [.ref r4, .ref r5, .ref r6, .ref r7, .ref r8, .int 0, .int 0, .int 0])), (r4, .inl (k9, 2, .inr (.inr (.inr (.inr (fun _ => none)))))), (r5, .inl (k10, 12, .inr (.inr (.inr (.inr (fun _ => none)))))), (r6, .inl (k11, 4, .inl (fun _ => 0))), (r7, .inl (k12, 4, .inl (fun _ => 0))), (r8, .inl (k13, 4, .inl (fun _ => 0))), (q14, .inr (7, [.ref s15, .ref s16, .int 0])), (s16, .inl (k17, 40, .inl (fun _ => 0)))] := hD
  have hK : va_K (dC, dI) vwCl [(k2, .byte), (k9, .object RX5), (k10, .object RX9), (k11, .int), (k12, .int), (k13, .int), (k17, .boolean)] s := hK
  refine W.widen (k := 10) (n := 1569) (Nat.le_of_ble_eq_true rfl) (Nat.le_of_ble_eq_true rfl) ?_
  refine va_putF (D := (dC, dI)) (ci := 11) (v := .ref q14) (ty := tyX11 5) (C := RX11) (T := TX11) (N := 17) hx hb hts hin11 tyX11 tyX11_ok nmX11 hown hK hP hD hS 0 rfl rfl 5 (by decide) (ho (.fieldLink RX11 33 "NearEnough" "sheets" "LNearEnough$Sheets;") (List.mem_of_getElem? (i := 17) rfl)) (fun _ h9 => h9) rfl hin rfl (by decide +kernel) rfl rfl (Nat.le_of_ble_eq_true rfl) dX11_init_47 (fun H locs hP hD hS => ?_)
  have hP : va_P (dC, dI) vwCl [(h0, .inr (11, [.ref q1, .int 0, .int 0, .int (-1), .ref q3, .ref q14, .null, .null, .null, .null, .null, .null, .int 0, .int 0, .null, .null, .null])), (q1, .inl (k2, 1000, .inl (fun _ => 0))), (q3, .inr (3, [.ref r4, .ref r5, .ref r6, .ref r7, .ref r8, .int 0, .int 0, .int 0])), (r4, .inl (k9, 2, .inr (.inr (.inr (.inr (fun _ => none)))))), (r5, .inl (k10, 12, .inr (.inr (.inr (.inr (fun _ => none)))))), (r6, .inl (k11, 4, .inl (fun _ => 0))), (r7, .inl (k12, 4, .inl (fun _ => 0))), (r8, .inl (k13, 4, .inl (fun _ => 0))), (q14, .inr (7, [.ref s15, .ref s16, .int 0])), (s16, .inl (k17, 40, .inl (fun _ => 0)))] H := hP
  have hD : va_D A [(h0, .inr (11, [.ref q1, .int 0, .int 0, .int (-1), .ref q3, .ref q14, .null, .null, .null, .null, .null, .null, .int 0, .int 0, .null, .null, .null])), (q1, .inl (k2, 1000, .inl (fun _ => 0))), (q3, .inr (3, [.ref r4, .ref r5, .ref r6, .ref r7, .ref r8, .int 0, .int 0, .int 0])), (r4, .inl (k9, 2, .inr (.inr (.inr (.inr (fun _ => none)))))), (r5, .inl (k10, 12, .inr (.inr (.inr (.inr (fun _ => none)))))), (r6, .inl (k11, 4, .inl (fun _ => 0))), (r7, .inl (k12, 4, .inl (fun _ => 0))), (r8, .inl (k13, 4, .inl (fun _ => 0))), (q14, .inr (7, [.ref s15, .ref s16, .int 0])), (s16, .inl (k17, 40, .inl (fun _ => 0)))] := hD
  refine lv_aload_n hx hb dX11_init_50 rfl (lv_at hl 0 rfl) ?_
  refine va_new (ci := 0) (fs := [.null, .null, .null, .null, .null, .int 0, .int 0]) (C := RX0) (T := TX0) (N := 7) hx hb hts hin0 tyX0 tyX0_ok hown (ho (.classLink RX11 37 RX0) (List.mem_of_getElem? (i := 18) rfl)) (ho (.instantiable RX0 7) (List.mem_of_getElem? (i := 19) rfl)) (ho (.initialized RX0) (List.mem_of_getElem? (i := 20) rfl)) hK hP hD hS hA rfl (by decide) (Nat.le_of_ble_eq_true rfl) (Nat.le_of_ble_eq_true rfl) dX11_init_51 (fun q18 H hP hD hS => ?_)
  have hP : va_P (dC, dI) vwCl [(h0, .inr (11, [.ref q1, .int 0, .int 0, .int (-1), .ref q3, .ref q14, .null, .null, .null, .null, .null, .null, .int 0, .int 0, .null, .null, .null])), (q1, .inl (k2, 1000, .inl (fun _ => 0))), (q3, .inr (3, [.ref r4, .ref r5, .ref r6, .ref r7, .ref r8, .int 0, .int 0, .int 0])), (r4, .inl (k9, 2, .inr (.inr (.inr (.inr (fun _ => none)))))), (r5, .inl (k10, 12, .inr (.inr (.inr (.inr (fun _ => none)))))), (r6, .inl (k11, 4, .inl (fun _ => 0))), (r7, .inl (k12, 4, .inl (fun _ => 0))), (r8, .inl (k13, 4, .inl (fun _ => 0))), (q14, .inr (7, [.ref s15, .ref s16, .int 0])), (s16, .inl (k17, 40, .inl (fun _ => 0))), (q18, .inr (0, [.null, .null, .null, .null, .null, .int 0, .int 0]))] H := hP
  have hD : va_D A [(h0, .inr (11, [.ref q1, .int 0, .int 0, .int (-1), .ref q3, .ref q14, .null, .null, .null, .null, .null, .null, .int 0, .int 0, .null, .null, .null])), (q1, .inl (k2, 1000, .inl (fun _ => 0))), (q3, .inr (3, [.ref r4, .ref r5, .ref r6, .ref r7, .ref r8, .int 0, .int 0, .int 0])), (r4, .inl (k9, 2, .inr (.inr (.inr (.inr (fun _ => none)))))), (r5, .inl (k10, 12, .inr (.inr (.inr (.inr (fun _ => none)))))), (r6, .inl (k11, 4, .inl (fun _ => 0))), (r7, .inl (k12, 4, .inl (fun _ => 0))), (r8, .inl (k13, 4, .inl (fun _ => 0))), (q14, .inr (7, [.ref s15, .ref s16, .int 0])), (s16, .inl (k17, 40, .inl (fun _ => 0))), (q18, .inr (0, [.null, .null, .null, .null, .null, .int 0, .int 0]))] := hD
  refine W.widen (k := 11) (n := 1576) (Nat.le_of_ble_eq_true rfl) (Nat.le_of_ble_eq_true rfl) ?_
  refine lv_dup hx hb dX11_init_54 rfl ?_
  have hPc := hP.sub (ws' := [(q18, .inr (0, [.null, .null, .null, .null, .null, .int 0, .int 0]))]) [10] rfl
  have hDc := hD.sub (ws' := [(q18, .inr (0, [.null, .null, .null, .null, .null, .int 0, .int 0]))]) [10] (by decide) rfl
  have hKc := hK.sub (tys' := []) [] rfl
  refine zz_v (wr := [(h0, .inr (11, [.ref q1, .int 0, .int 0, .int (-1), .ref q3, .ref q14, .null, .null, .null, .null, .null, .null, .int 0, .int 0, .null, .null, .null])), (q1, .inl (k2, 1000, .inl (fun _ => 0))), (q3, .inr (3, [.ref r4, .ref r5, .ref r6, .ref r7, .ref r8, .int 0, .int 0, .int 0])), (r4, .inl (k9, 2, .inr (.inr (.inr (.inr (fun _ => none)))))), (r5, .inl (k10, 12, .inr (.inr (.inr (.inr (fun _ => none)))))), (r6, .inl (k11, 4, .inl (fun _ => 0))), (r7, .inl (k12, 4, .inl (fun _ => 0))), (r8, .inl (k13, 4, .inl (fun _ => 0))), (q14, .inr (7, [.ref s15, .ref s16, .int 0])), (s16, .inl (k17, 40, .inl (fun _ => 0)))]) (va_runIN (host := "NearEnough") (As := []) (rest := [.ref q18, .ref h0]) ⟨hx, hb, hml, hown, hts⟩ (c_Changes_init l dC dI q18 H.size) ⟨va_cnB 0 hts gd_c_X_init_39_c_Changes_init rfl rfl rfl hE.nX11_39 (ho (.initialized RX0) (List.mem_of_getElem? (i := 20) rfl)) (by decide +kernel) ⟨Nat.le_of_ble_eq_true rfl, Nat.le_of_ble_eq_true rfl⟩, rfl, (ho (.instanceMethod yX0_init) (List.mem_of_getElem? (i := 21) rfl))⟩ (preS hPc hKc hDc hE) rfl rfl hl.1 rfl (lv_room (Nat.le_of_ble_eq_true rfl)) dX11_init_55 ⟨Nat.le_of_ble_eq_true rfl, Nat.le_of_ble_eq_true rfl⟩) hK hP hD hS hA [10] [0, 1, 2, 3, 4, 5, 6, 7, 8, 9] rfl rfl (by decide) (by decide) (fun u H locs hK hP hD hS => ?_)
  obtain ⟨a19, a20, a21, a22, a23, k24⟩ := u
  have hP : va_P (dC, dI) vwCl [(h0, .inr (11, [.ref q1, .int 0, .int 0, .int (-1), .ref q3, .ref q14, .null, .null, .null, .null, .null, .null, .int 0, .int 0, .null, .null, .null])), (q1, .inl (k2, 1000, .inl (fun _ => 0))), (q3, .inr (3, [.ref r4, .ref r5, .ref r6, .ref r7, .ref r8, .int 0, .int 0, .int 0])), (r4, .inl (k9, 2, .inr (.inr (.inr (.inr (fun _ => none)))))), (r5, .inl (k10, 12, .inr (.inr (.inr (.inr (fun _ => none)))))), (r6, .inl (k11, 4, .inl (fun _ => 0))), (r7, .inl (k12, 4, .inl (fun _ => 0))), (r8, .inl (k13, 4, .inl (fun _ => 0))), (q14, .inr (7, [.ref s15, .ref s16, .int 0])), (s16, .inl (k17, 40, .inl (fun _ => 0))), (q18, .inr (0, [.ref a19, .ref a20, .ref a21, .ref a22, .ref a23, .int 0, .int 0])), (a23, .inl (k24, 12, .inl (fun _ => 0)))] H := hP
  have hD : va_D A [(h0, .inr (11, [.ref q1, .int 0, .int 0, .int (-1), .ref q3, .ref q14, .null, .null, .null, .null, .null, .null, .int 0, .int 0, .null, .null, .null])), (q1, .inl (k2, 1000, .inl (fun _ => 0))), (q3, .inr (3, [.ref r4, .ref r5, .ref r6, .ref r7, .ref r8, .int 0, .int 0, .int 0])), (r4, .inl (k9, 2, .inr (.inr (.inr (.inr (fun _ => none)))))), (r5, .inl (k10, 12, .inr (.inr (.inr (.inr (fun _ => none)))))), (r6, .inl (k11, 4, .inl (fun _ => 0))), (r7, .inl (k12, 4, .inl (fun _ => 0))), (r8, .inl (k13, 4, .inl (fun _ => 0))), (q14, .inr (7, [.ref s15, .ref s16, .int 0])), (s16, .inl (k17, 40, .inl (fun _ => 0))), (q18, .inr (0, [.ref a19, .ref a20, .ref a21, .ref a22, .ref a23, .int 0, .int 0])), (a23, .inl (k24, 12, .inl (fun _ => 0)))] := hD
  have hK : va_K (dC, dI) vwCl [(k2, .byte), (k9, .object RX5), (k10, .object RX9), (k11, .int), (k12, .int), (k13, .int), (k17, .boolean), (k24, .int)] s := hK
  refine W.widen (k := 16) (n := 1636) (Nat.le_of_ble_eq_true rfl) (Nat.le_of_ble_eq_true rfl) ?_
  refine va_putF (D := (dC, dI)) (ci := 11) (v := .ref q18) (ty := tyX11 6) (C := RX11) (T := TX11) (N := 17) hx hb hts hin11 tyX11 tyX11_ok nmX11 hown hK hP hD hS 0 rfl rfl 6 (by decide) (ho (.fieldLink RX11 40 "NearEnough" "changes" "LNearEnough$Changes;") (List.mem_of_getElem? (i := 22) rfl)) (fun _ h9 => h9) rfl hin rfl (by decide +kernel) rfl rfl (Nat.le_of_ble_eq_true rfl) dX11_init_58 (fun H locs hP hD hS => ?_)
  have hP : va_P (dC, dI) vwCl [(h0, .inr (11, [.ref q1, .int 0, .int 0, .int (-1), .ref q3, .ref q14, .ref q18, .null, .null, .null, .null, .null, .int 0, .int 0, .null, .null, .null])), (q1, .inl (k2, 1000, .inl (fun _ => 0))), (q3, .inr (3, [.ref r4, .ref r5, .ref r6, .ref r7, .ref r8, .int 0, .int 0, .int 0])), (r4, .inl (k9, 2, .inr (.inr (.inr (.inr (fun _ => none)))))), (r5, .inl (k10, 12, .inr (.inr (.inr (.inr (fun _ => none)))))), (r6, .inl (k11, 4, .inl (fun _ => 0))), (r7, .inl (k12, 4, .inl (fun _ => 0))), (r8, .inl (k13, 4, .inl (fun _ => 0))), (q14, .inr (7, [.ref s15, .ref s16, .int 0])), (s16, .inl (k17, 40, .inl (fun _ => 0))), (q18, .inr (0, [.ref a19, .ref a20, .ref a21, .ref a22, .ref a23, .int 0, .int 0])), (a23, .inl (k24, 12, .inl (fun _ => 0)))] H := hP
  have hD : va_D A [(h0, .inr (11, [.ref q1, .int 0, .int 0, .int (-1), .ref q3, .ref q14, .ref q18, .null, .null, .null, .null, .null, .int 0, .int 0, .null, .null, .null])), (q1, .inl (k2, 1000, .inl (fun _ => 0))), (q3, .inr (3, [.ref r4, .ref r5, .ref r6, .ref r7, .ref r8, .int 0, .int 0, .int 0])), (r4, .inl (k9, 2, .inr (.inr (.inr (.inr (fun _ => none)))))), (r5, .inl (k10, 12, .inr (.inr (.inr (.inr (fun _ => none)))))), (r6, .inl (k11, 4, .inl (fun _ => 0))), (r7, .inl (k12, 4, .inl (fun _ => 0))), (r8, .inl (k13, 4, .inl (fun _ => 0))), (q14, .inr (7, [.ref s15, .ref s16, .int 0])), (s16, .inl (k17, 40, .inl (fun _ => 0))), (q18, .inr (0, [.ref a19, .ref a20, .ref a21, .ref a22, .ref a23, .int 0, .int 0])), (a23, .inl (k24, 12, .inl (fun _ => 0)))] := hD
  refine lv_aload_n hx hb dX11_init_61 rfl (lv_at hl 0 rfl) ?_
  refine va_new (ci := 8) (fs := [.null, .null, .null, .null, .long 0, .long 0, .int 0, .int 0, .int 0]) (C := RX8) (T := TX8) (N := 9) hx hb hts hin8 tyX8 tyX8_ok hown (ho (.classLink RX11 44 RX8) (List.mem_of_getElem? (i := 23) rfl)) (ho (.instantiable RX8 9) (List.mem_of_getElem? (i := 24) rfl)) (ho (.initialized RX8) (List.mem_of_getElem? (i := 25) rfl)) hK hP hD hS hA rfl (by decide) (Nat.le_of_ble_eq_true rfl) (Nat.le_of_ble_eq_true rfl) dX11_init_62 (fun q25 H hP hD hS => ?_)
  have hP : va_P (dC, dI) vwCl [(h0, .inr (11, [.ref q1, .int 0, .int 0, .int (-1), .ref q3, .ref q14, .ref q18, .null, .null, .null, .null, .null, .int 0, .int 0, .null, .null, .null])), (q1, .inl (k2, 1000, .inl (fun _ => 0))), (q3, .inr (3, [.ref r4, .ref r5, .ref r6, .ref r7, .ref r8, .int 0, .int 0, .int 0])), (r4, .inl (k9, 2, .inr (.inr (.inr (.inr (fun _ => none)))))), (r5, .inl (k10, 12, .inr (.inr (.inr (.inr (fun _ => none)))))), (r6, .inl (k11, 4, .inl (fun _ => 0))), (r7, .inl (k12, 4, .inl (fun _ => 0))), (r8, .inl (k13, 4, .inl (fun _ => 0))), (q14, .inr (7, [.ref s15, .ref s16, .int 0])), (s16, .inl (k17, 40, .inl (fun _ => 0))), (q18, .inr (0, [.ref a19, .ref a20, .ref a21, .ref a22, .ref a23, .int 0, .int 0])), (a23, .inl (k24, 12, .inl (fun _ => 0))), (q25, .inr (8, [.null, .null, .null, .null, .long 0, .long 0, .int 0, .int 0, .int 0]))] H := hP
  have hD : va_D A [(h0, .inr (11, [.ref q1, .int 0, .int 0, .int (-1), .ref q3, .ref q14, .ref q18, .null, .null, .null, .null, .null, .int 0, .int 0, .null, .null, .null])), (q1, .inl (k2, 1000, .inl (fun _ => 0))), (q3, .inr (3, [.ref r4, .ref r5, .ref r6, .ref r7, .ref r8, .int 0, .int 0, .int 0])), (r4, .inl (k9, 2, .inr (.inr (.inr (.inr (fun _ => none)))))), (r5, .inl (k10, 12, .inr (.inr (.inr (.inr (fun _ => none)))))), (r6, .inl (k11, 4, .inl (fun _ => 0))), (r7, .inl (k12, 4, .inl (fun _ => 0))), (r8, .inl (k13, 4, .inl (fun _ => 0))), (q14, .inr (7, [.ref s15, .ref s16, .int 0])), (s16, .inl (k17, 40, .inl (fun _ => 0))), (q18, .inr (0, [.ref a19, .ref a20, .ref a21, .ref a22, .ref a23, .int 0, .int 0])), (a23, .inl (k24, 12, .inl (fun _ => 0))), (q25, .inr (8, [.null, .null, .null, .null, .long 0, .long 0, .int 0, .int 0, .int 0]))] := hD
  refine W.widen (k := 17) (n := 1645) (Nat.le_of_ble_eq_true rfl) (Nat.le_of_ble_eq_true rfl) ?_
  refine lv_dup hx hb dX11_init_65 rfl ?_
  refine lv_aload_n hx hb dX11_init_66 rfl (lv_at hl 0 rfl) ?_
  refine va_get (D := (dC, dI)) (ci := 11) (v := .ref q3) (C := RX11) (T := TX11) (N := 17) hx hb hts hin11 hown hK hP 0 rfl rfl 4 (by decide) (ho (.fieldLink RX11 26 "NearEnough" "told" "LNearEnough$Program;") (List.mem_of_getElem? (i := 12) rfl)) (fun _ h9 => h9) rfl dX11_init_67 ?_
  refine lv_aload_n hx hb dX11_init_70 rfl (lv_at hl 0 rfl) ?_
  refine va_get (D := (dC, dI)) (ci := 11) (v := .ref q18) (C := RX11) (T := TX11) (N := 17) hx hb hts hin11 hown hK hP 0 rfl rfl 6 (by decide) (ho (.fieldLink RX11 40 "NearEnough" "changes" "LNearEnough$Changes;") (List.mem_of_getElem? (i := 22) rfl)) (fun _ h9 => h9) rfl dX11_init_71 ?_
  have hPc := hP.sub (ws' := [(q25, .inr (8, [.null, .null, .null, .null, .long 0, .long 0, .int 0, .int 0, .int 0]))]) [12] rfl
  have hDc := hD.sub (ws' := [(q25, .inr (8, [.null, .null, .null, .null, .long 0, .long 0, .int 0, .int 0, .int 0]))]) [12] (by decide) rfl
  have hKc := hK.sub (tys' := []) [] rfl
  refine zz_v (wr := [(h0, .inr (11, [.ref q1, .int 0, .int 0, .int (-1), .ref q3, .ref q14, .ref q18, .null, .null, .null, .null, .null, .int 0, .int 0, .null, .null, .null])), (q1, .inl (k2, 1000, .inl (fun _ => 0))), (q3, .inr (3, [.ref r4, .ref r5, .ref r6, .ref r7, .ref r8, .int 0, .int 0, .int 0])), (r4, .inl (k9, 2, .inr (.inr (.inr (.inr (fun _ => none)))))), (r5, .inl (k10, 12, .inr (.inr (.inr (.inr (fun _ => none)))))), (r6, .inl (k11, 4, .inl (fun _ => 0))), (r7, .inl (k12, 4, .inl (fun _ => 0))), (r8, .inl (k13, 4, .inl (fun _ => 0))), (q14, .inr (7, [.ref s15, .ref s16, .int 0])), (s16, .inl (k17, 40, .inl (fun _ => 0))), (q18, .inr (0, [.ref a19, .ref a20, .ref a21, .ref a22, .ref a23, .int 0, .int 0])), (a23, .inl (k24, 12, .inl (fun _ => 0)))]) (va_runI (As := [.ref q3, .ref q18]) (rest := [.ref q25, .ref h0]) ⟨hx, hb, hml, hown, hts⟩ (c_Shown_init l dC dI q25 q3 q18 H.size) (cwI 2 hts gd_c_X_init_46_c_Shown_init rfl rfl rfl (ho (.initialized RX8) (List.mem_of_getElem? (i := 25) rfl)) (ho (.methodLink RX11 46 yX8_init) (List.mem_of_getElem? (i := 26) rfl)) (ho (.instanceMethod yX8_init) (List.mem_of_getElem? (i := 27) rfl)) rfl (by decide +kernel) ⟨Nat.le_of_ble_eq_true rfl, Nat.le_of_ble_eq_true rfl⟩) (preS hPc hKc hDc hE) rfl rfl hl.1 rfl (lv_room (Nat.le_of_ble_eq_true rfl)) dX11_init_74 ⟨Nat.le_of_ble_eq_true rfl, Nat.le_of_ble_eq_true rfl⟩) hK hP hD hS hA [12] [0, 1, 2, 3, 4, 5, 6, 7, 8, 9, 10, 11] rfl rfl (by decide) (by decide) (fun u H locs hK hP hD hS => ?_)
  obtain ⟨w26, w27⟩ := u
  have hP : va_P (dC, dI) vwCl [(h0, .inr (11, [.ref q1, .int 0, .int 0, .int (-1), .ref q3, .ref q14, .ref q18, .null, .null, .null, .null, .null, .int 0, .int 0, .null, .null, .null])), (q1, .inl (k2, 1000, .inl (fun _ => 0))), (q3, .inr (3, [.ref r4, .ref r5, .ref r6, .ref r7, .ref r8, .int 0, .int 0, .int 0])), (r4, .inl (k9, 2, .inr (.inr (.inr (.inr (fun _ => none)))))), (r5, .inl (k10, 12, .inr (.inr (.inr (.inr (fun _ => none)))))), (r6, .inl (k11, 4, .inl (fun _ => 0))), (r7, .inl (k12, 4, .inl (fun _ => 0))), (r8, .inl (k13, 4, .inl (fun _ => 0))), (q14, .inr (7, [.ref s15, .ref s16, .int 0])), (s16, .inl (k17, 40, .inl (fun _ => 0))), (q18, .inr (0, [.ref a19, .ref a20, .ref a21, .ref a22, .ref a23, .int 0, .int 0])), (a23, .inl (k24, 12, .inl (fun _ => 0))), (q25, .inr (8, [.ref q3, .ref q18, .ref w26, .ref w27, .long 0, .long 0, .int 0, .int 0, .int 0]))] H := hP
  have hD : va_D A [(h0, .inr (11, [.ref q1, .int 0, .int 0, .int (-1), .ref q3, .ref q14, .ref q18, .null, .null, .null, .null, .null, .int 0, .int 0, .null, .null, .null])), (q1, .inl (k2, 1000, .inl (fun _ => 0))), (q3, .inr (3, [.ref r4, .ref r5, .ref r6, .ref r7, .ref r8, .int 0, .int 0, .int 0])), (r4, .inl (k9, 2, .inr (.inr (.inr (.inr (fun _ => none)))))), (r5, .inl (k10, 12, .inr (.inr (.inr (.inr (fun _ => none)))))), (r6, .inl (k11, 4, .inl (fun _ => 0))), (r7, .inl (k12, 4, .inl (fun _ => 0))), (r8, .inl (k13, 4, .inl (fun _ => 0))), (q14, .inr (7, [.ref s15, .ref s16, .int 0])), (s16, .inl (k17, 40, .inl (fun _ => 0))), (q18, .inr (0, [.ref a19, .ref a20, .ref a21, .ref a22, .ref a23, .int 0, .int 0])), (a23, .inl (k24, 12, .inl (fun _ => 0))), (q25, .inr (8, [.ref q3, .ref q18, .ref w26, .ref w27, .long 0, .long 0, .int 0, .int 0, .int 0]))] := hD
  have hK : va_K (dC, dI) vwCl [(k2, .byte), (k9, .object RX5), (k10, .object RX9), (k11, .int), (k12, .int), (k13, .int), (k17, .boolean), (k24, .int)] s := hK
  refine W.widen (k := 19) (n := 1669) (Nat.le_of_ble_eq_true rfl) (Nat.le_of_ble_eq_true rfl) ?_
  refine va_putF (D := (dC, dI)) (ci := 11) (v := .ref q25) (ty := tyX11 7) (C := RX11) (T := TX11) (N := 17) hx hb hts hin11 tyX11 tyX11_ok nmX11 hown hK hP hD hS 0 rfl rfl 7 (by decide) (ho (.fieldLink RX11 49 "NearEnough" "shown" "LNearEnough$Shown;") (List.mem_of_getElem? (i := 28) rfl)) (fun _ h9 => h9) rfl hin rfl (by decide +kernel) rfl rfl (Nat.le_of_ble_eq_true rfl) dX11_init_77 (fun H locs hP hD hS => ?_)
  have hP : va_P (dC, dI) vwCl [(h0, .inr (11, [.ref q1, .int 0, .int 0, .int (-1), .ref q3, .ref q14, .ref q18, .ref q25, .null, .null, .null, .null, .int 0, .int 0, .null, .null, .null])), (q1, .inl (k2, 1000, .inl (fun _ => 0))), (q3, .inr (3, [.ref r4, .ref r5, .ref r6, .ref r7, .ref r8, .int 0, .int 0, .int 0])), (r4, .inl (k9, 2, .inr (.inr (.inr (.inr (fun _ => none)))))), (r5, .inl (k10, 12, .inr (.inr (.inr (.inr (fun _ => none)))))), (r6, .inl (k11, 4, .inl (fun _ => 0))), (r7, .inl (k12, 4, .inl (fun _ => 0))), (r8, .inl (k13, 4, .inl (fun _ => 0))), (q14, .inr (7, [.ref s15, .ref s16, .int 0])), (s16, .inl (k17, 40, .inl (fun _ => 0))), (q18, .inr (0, [.ref a19, .ref a20, .ref a21, .ref a22, .ref a23, .int 0, .int 0])), (a23, .inl (k24, 12, .inl (fun _ => 0))), (q25, .inr (8, [.ref q3, .ref q18, .ref w26, .ref w27, .long 0, .long 0, .int 0, .int 0, .int 0]))] H := hP
  have hD : va_D A [(h0, .inr (11, [.ref q1, .int 0, .int 0, .int (-1), .ref q3, .ref q14, .ref q18, .ref q25, .null, .null, .null, .null, .int 0, .int 0, .null, .null, .null])), (q1, .inl (k2, 1000, .inl (fun _ => 0))), (q3, .inr (3, [.ref r4, .ref r5, .ref r6, .ref r7, .ref r8, .int 0, .int 0, .int 0])), (r4, .inl (k9, 2, .inr (.inr (.inr (.inr (fun _ => none)))))), (r5, .inl (k10, 12, .inr (.inr (.inr (.inr (fun _ => none)))))), (r6, .inl (k11, 4, .inl (fun _ => 0))), (r7, .inl (k12, 4, .inl (fun _ => 0))), (r8, .inl (k13, 4, .inl (fun _ => 0))), (q14, .inr (7, [.ref s15, .ref s16, .int 0])), (s16, .inl (k17, 40, .inl (fun _ => 0))), (q18, .inr (0, [.ref a19, .ref a20, .ref a21, .ref a22, .ref a23, .int 0, .int 0])), (a23, .inl (k24, 12, .inl (fun _ => 0))), (q25, .inr (8, [.ref q3, .ref q18, .ref w26, .ref w27, .long 0, .long 0, .int 0, .int 0, .int 0]))] := hD
  refine lv_aload_n hx hb dX11_init_80 rfl (lv_at hl 0 rfl) ?_
  refine va_new (ci := 10) (fs := [.null, .null, .null, .null, .null]) (C := RX10) (T := TX10) (N := 5) hx hb hts hin10 tyX10 tyX10_ok hown (ho (.classLink RX11 53 RX10) (List.mem_of_getElem? (i := 29) rfl)) (ho (.instantiable RX10 5) (List.mem_of_getElem? (i := 30) rfl)) (ho (.initialized RX10) (List.mem_of_getElem? (i := 31) rfl)) hK hP hD hS hA rfl (by decide) (Nat.le_of_ble_eq_true rfl) (Nat.le_of_ble_eq_true rfl) dX11_init_81 (fun q28 H hP hD hS => ?_)
  have hP : va_P (dC, dI) vwCl [(h0, .inr (11, [.ref q1, .int 0, .int 0, .int (-1), .ref q3, .ref q14, .ref q18, .ref q25, .null, .null, .null, .null, .int 0, .int 0, .null, .null, .null])), (q1, .inl (k2, 1000, .inl (fun _ => 0))), (q3, .inr (3, [.ref r4, .ref r5, .ref r6, .ref r7, .ref r8, .int 0, .int 0, .int 0])), (r4, .inl (k9, 2, .inr (.inr (.inr (.inr (fun _ => none)))))), (r5, .inl (k10, 12, .inr (.inr (.inr (.inr (fun _ => none)))))), (r6, .inl (k11, 4, .inl (fun _ => 0))), (r7, .inl (k12, 4, .inl (fun _ => 0))), (r8, .inl (k13, 4, .inl (fun _ => 0))), (q14, .inr (7, [.ref s15, .ref s16, .int 0])), (s16, .inl (k17, 40, .inl (fun _ => 0))), (q18, .inr (0, [.ref a19, .ref a20, .ref a21, .ref a22, .ref a23, .int 0, .int 0])), (a23, .inl (k24, 12, .inl (fun _ => 0))), (q25, .inr (8, [.ref q3, .ref q18, .ref w26, .ref w27, .long 0, .long 0, .int 0, .int 0, .int 0])), (q28, .inr (10, [.null, .null, .null, .null, .null]))] H := hP
  have hD : va_D A [(h0, .inr (11, [.ref q1, .int 0, .int 0, .int (-1), .ref q3, .ref q14, .ref q18, .ref q25, .null, .null, .null, .null, .int 0, .int 0, .null, .null, .null])), (q1, .inl (k2, 1000, .inl (fun _ => 0))), (q3, .inr (3, [.ref r4, .ref r5, .ref r6, .ref r7, .ref r8, .int 0, .int 0, .int 0])), (r4, .inl (k9, 2, .inr (.inr (.inr (.inr (fun _ => none)))))), (r5, .inl (k10, 12, .inr (.inr (.inr (.inr (fun _ => none)))))), (r6, .inl (k11, 4, .inl (fun _ => 0))), (r7, .inl (k12, 4, .inl (fun _ => 0))), (r8, .inl (k13, 4, .inl (fun _ => 0))), (q14, .inr (7, [.ref s15, .ref s16, .int 0])), (s16, .inl (k17, 40, .inl (fun _ => 0))), (q18, .inr (0, [.ref a19, .ref a20, .ref a21, .ref a22, .ref a23, .int 0, .int 0])), (a23, .inl (k24, 12, .inl (fun _ => 0))), (q25, .inr (8, [.ref q3, .ref q18, .ref w26, .ref w27, .long 0, .long 0, .int 0, .int 0, .int 0])), (q28, .inr (10, [.null, .null, .null, .null, .null]))] := hD
  refine W.widen (k := 20) (n := 1674) (Nat.le_of_ble_eq_true rfl) (Nat.le_of_ble_eq_true rfl) ?_
  refine lv_dup hx hb dX11_init_84 rfl ?_
  refine lv_aload_n hx hb dX11_init_85 rfl (lv_at hl 0 rfl) ?_
  refine va_get (D := (dC, dI)) (ci := 11) (v := .ref q3) (C := RX11) (T := TX11) (N := 17) hx hb hts hin11 hown hK hP 0 rfl rfl 4 (by decide) (ho (.fieldLink RX11 26 "NearEnough" "told" "LNearEnough$Program;") (List.mem_of_getElem? (i := 12) rfl)) (fun _ h9 => h9) rfl dX11_init_86 ?_
  refine lv_aload_n hx hb dX11_init_89 rfl (lv_at hl 0 rfl) ?_
  refine va_get (D := (dC, dI)) (ci := 11) (v := .ref q14) (C := RX11) (T := TX11) (N := 17) hx hb hts hin11 hown hK hP 0 rfl rfl 5 (by decide) (ho (.fieldLink RX11 33 "NearEnough" "sheets" "LNearEnough$Sheets;") (List.mem_of_getElem? (i := 17) rfl)) (fun _ h9 => h9) rfl dX11_init_90 ?_
  refine lv_aload_n hx hb dX11_init_93 rfl (lv_at hl 0 rfl) ?_
  refine va_get (D := (dC, dI)) (ci := 11) (v := .ref q18) (C := RX11) (T := TX11) (N := 17) hx hb hts hin11 hown hK hP 0 rfl rfl 6 (by decide) (ho (.fieldLink RX11 40 "NearEnough" "changes" "LNearEnough$Changes;") (List.mem_of_getElem? (i := 22) rfl)) (fun _ h9 => h9) rfl dX11_init_94 ?_
  have hPc := hP.sub (ws' := [(q28, .inr (10, [.null, .null, .null, .null, .null]))]) [13] rfl
  have hDc := hD.sub (ws' := [(q28, .inr (10, [.null, .null, .null, .null, .null]))]) [13] (by decide) rfl
  have hKc := hK.sub (tys' := []) [] rfl
  refine zz_v (wr := [(h0, .inr (11, [.ref q1, .int 0, .int 0, .int (-1), .ref q3, .ref q14, .ref q18, .ref q25, .null, .null, .null, .null, .int 0, .int 0, .null, .null, .null])), (q1, .inl (k2, 1000, .inl (fun _ => 0))), (q3, .inr (3, [.ref r4, .ref r5, .ref r6, .ref r7, .ref r8, .int 0, .int 0, .int 0])), (r4, .inl (k9, 2, .inr (.inr (.inr (.inr (fun _ => none)))))), (r5, .inl (k10, 12, .inr (.inr (.inr (.inr (fun _ => none)))))), (r6, .inl (k11, 4, .inl (fun _ => 0))), (r7, .inl (k12, 4, .inl (fun _ => 0))), (r8, .inl (k13, 4, .inl (fun _ => 0))), (q14, .inr (7, [.ref s15, .ref s16, .int 0])), (s16, .inl (k17, 40, .inl (fun _ => 0))), (q18, .inr (0, [.ref a19, .ref a20, .ref a21, .ref a22, .ref a23, .int 0, .int 0])), (a23, .inl (k24, 12, .inl (fun _ => 0))), (q25, .inr (8, [.ref q3, .ref q18, .ref w26, .ref w27, .long 0, .long 0, .int 0, .int 0, .int 0]))]) (va_runI (As := [.ref q3, .ref q14, .ref q18]) (rest := [.ref q28, .ref h0]) ⟨hx, hb, hml, hown, hts⟩ (c_Worker_init l dC dI q28 q3 q14 q18 H.size) (cwI 3 hts gd_c_X_init_55_c_Worker_init rfl rfl rfl (ho (.initialized RX10) (List.mem_of_getElem? (i := 31) rfl)) (ho (.methodLink RX11 55 yX10_init) (List.mem_of_getElem? (i := 32) rfl)) (ho (.instanceMethod yX10_init) (List.mem_of_getElem? (i := 33) rfl)) rfl (by decide +kernel) ⟨Nat.le_of_ble_eq_true rfl, Nat.le_of_ble_eq_true rfl⟩) (preS hPc hKc hDc hE) rfl rfl hl.1 rfl (lv_room (Nat.le_of_ble_eq_true rfl)) dX11_init_97 ⟨Nat.le_of_ble_eq_true rfl, Nat.le_of_ble_eq_true rfl⟩) hK hP hD hS hA [13] [0, 1, 2, 3, 4, 5, 6, 7, 8, 9, 10, 11, 12] rfl rfl (by decide) (by decide) (fun u H locs hK hP hD hS => ?_)
  obtain ⟨v29, v30⟩ := u
  have hP : va_P (dC, dI) vwCl [(h0, .inr (11, [.ref q1, .int 0, .int 0, .int (-1), .ref q3, .ref q14, .ref q18, .ref q25, .null, .null, .null, .null, .int 0, .int 0, .null, .null, .null])), (q1, .inl (k2, 1000, .inl (fun _ => 0))), (q3, .inr (3, [.ref r4, .ref r5, .ref r6, .ref r7, .ref r8, .int 0, .int 0, .int 0])), (r4, .inl (k9, 2, .inr (.inr (.inr (.inr (fun _ => none)))))), (r5, .inl (k10, 12, .inr (.inr (.inr (.inr (fun _ => none)))))), (r6, .inl (k11, 4, .inl (fun _ => 0))), (r7, .inl (k12, 4, .inl (fun _ => 0))), (r8, .inl (k13, 4, .inl (fun _ => 0))), (q14, .inr (7, [.ref s15, .ref s16, .int 0])), (s16, .inl (k17, 40, .inl (fun _ => 0))), (q18, .inr (0, [.ref a19, .ref a20, .ref a21, .ref a22, .ref a23, .int 0, .int 0])), (a23, .inl (k24, 12, .inl (fun _ => 0))), (q25, .inr (8, [.ref q3, .ref q18, .ref w26, .ref w27, .long 0, .long 0, .int 0, .int 0, .int 0])), (q28, .inr (10, [.ref q3, .ref q14, .ref q18, .ref v29, .ref v30]))] H := hP
  have hD : va_D A [(h0, .inr (11, [.ref q1, .int 0, .int 0, .int (-1), .ref q3, .ref q14, .ref q18, .ref q25, .null, .null, .null, .null, .int 0, .int 0, .null, .null, .null])), (q1, .inl (k2, 1000, .inl (fun _ => 0))), (q3, .inr (3, [.ref r4, .ref r5, .ref r6, .ref r7, .ref r8, .int 0, .int 0, .int 0])), (r4, .inl (k9, 2, .inr (.inr (.inr (.inr (fun _ => none)))))), (r5, .inl (k10, 12, .inr (.inr (.inr (.inr (fun _ => none)))))), (r6, .inl (k11, 4, .inl (fun _ => 0))), (r7, .inl (k12, 4, .inl (fun _ => 0))), (r8, .inl (k13, 4, .inl (fun _ => 0))), (q14, .inr (7, [.ref s15, .ref s16, .int 0])), (s16, .inl (k17, 40, .inl (fun _ => 0))), (q18, .inr (0, [.ref a19, .ref a20, .ref a21, .ref a22, .ref a23, .int 0, .int 0])), (a23, .inl (k24, 12, .inl (fun _ => 0))), (q25, .inr (8, [.ref q3, .ref q18, .ref w26, .ref w27, .long 0, .long 0, .int 0, .int 0, .int 0])), (q28, .inr (10, [.ref q3, .ref q14, .ref q18, .ref v29, .ref v30]))] := hD
  have hK : va_K (dC, dI) vwCl [(k2, .byte), (k9, .object RX5), (k10, .object RX9), (k11, .int), (k12, .int), (k13, .int), (k17, .boolean), (k24, .int)] s := hK
  refine W.widen (k := 22) (n := 2658) (Nat.le_of_ble_eq_true rfl) (Nat.le_of_ble_eq_true rfl) ?_
  refine va_putF (D := (dC, dI)) (ci := 11) (v := .ref q28) (ty := tyX11 8) (C := RX11) (T := TX11) (N := 17) hx hb hts hin11 tyX11 tyX11_ok nmX11 hown hK hP hD hS 0 rfl rfl 8 (by decide) (ho (.fieldLink RX11 58 "NearEnough" "worker" "LNearEnough$Worker;") (List.mem_of_getElem? (i := 34) rfl)) (fun _ h9 => h9) rfl hin rfl (by decide +kernel) rfl rfl (Nat.le_of_ble_eq_true rfl) dX11_init_100 (fun H locs hP hD hS => ?_)
  have hP : va_P (dC, dI) vwCl [(h0, .inr (11, [.ref q1, .int 0, .int 0, .int (-1), .ref q3, .ref q14, .ref q18, .ref q25, .ref q28, .null, .null, .null, .int 0, .int 0, .null, .null, .null])), (q1, .inl (k2, 1000, .inl (fun _ => 0))), (q3, .inr (3, [.ref r4, .ref r5, .ref r6, .ref r7, .ref r8, .int 0, .int 0, .int 0])), (r4, .inl (k9, 2, .inr (.inr (.inr (.inr (fun _ => none)))))), (r5, .inl (k10, 12, .inr (.inr (.inr (.inr (fun _ => none)))))), (r6, .inl (k11, 4, .inl (fun _ => 0))), (r7, .inl (k12, 4, .inl (fun _ => 0))), (r8, .inl (k13, 4, .inl (fun _ => 0))), (q14, .inr (7, [.ref s15, .ref s16, .int 0])), (s16, .inl (k17, 40, .inl (fun _ => 0))), (q18, .inr (0, [.ref a19, .ref a20, .ref a21, .ref a22, .ref a23, .int 0, .int 0])), (a23, .inl (k24, 12, .inl (fun _ => 0))), (q25, .inr (8, [.ref q3, .ref q18, .ref w26, .ref w27, .long 0, .long 0, .int 0, .int 0, .int 0])), (q28, .inr (10, [.ref q3, .ref q14, .ref q18, .ref v29, .ref v30]))] H := hP
  have hD : va_D A [(h0, .inr (11, [.ref q1, .int 0, .int 0, .int (-1), .ref q3, .ref q14, .ref q18, .ref q25, .ref q28, .null, .null, .null, .int 0, .int 0, .null, .null, .null])), (q1, .inl (k2, 1000, .inl (fun _ => 0))), (q3, .inr (3, [.ref r4, .ref r5, .ref r6, .ref r7, .ref r8, .int 0, .int 0, .int 0])), (r4, .inl (k9, 2, .inr (.inr (.inr (.inr (fun _ => none)))))), (r5, .inl (k10, 12, .inr (.inr (.inr (.inr (fun _ => none)))))), (r6, .inl (k11, 4, .inl (fun _ => 0))), (r7, .inl (k12, 4, .inl (fun _ => 0))), (r8, .inl (k13, 4, .inl (fun _ => 0))), (q14, .inr (7, [.ref s15, .ref s16, .int 0])), (s16, .inl (k17, 40, .inl (fun _ => 0))), (q18, .inr (0, [.ref a19, .ref a20, .ref a21, .ref a22, .ref a23, .int 0, .int 0])), (a23, .inl (k24, 12, .inl (fun _ => 0))), (q25, .inr (8, [.ref q3, .ref q18, .ref w26, .ref w27, .long 0, .long 0, .int 0, .int 0, .int 0])), (q28, .inr (10, [.ref q3, .ref q14, .ref q18, .ref v29, .ref v30]))] := hD
  refine lv_aload_n hx hb dX11_init_103 rfl (lv_at hl 0 rfl) ?_
  refine lv_iconst (v := 4) hx hb dX11_init_104 (by decide) ?_
  refine va_newa (atype := .int) (ty := .int) (a0 := (4, .inl (fun _ => 0))) (N' := 4) hx hb (ho (.arrayClass .int) (List.mem_of_getElem? (i := 35) rfl)) rfl hK hP hD hS hA (fun _ => rfl) (by decide) (by decide) (by decide +kernel) (Nat.le_of_ble_eq_true rfl) (Nat.le_of_ble_eq_true rfl) dX11_init_105 (fun q31 k32 H hK hP hD hS => ?_)
  have hP : va_P (dC, dI) vwCl [(h0, .inr (11, [.ref q1, .int 0, .int 0, .int (-1), .ref q3, .ref q14, .ref q18, .ref q25, .ref q28, .null, .null, .null, .int 0, .int 0, .null, .null, .null])), (q1, .inl (k2, 1000, .inl (fun _ => 0))), (q3, .inr (3, [.ref r4, .ref r5, .ref r6, .ref r7, .ref r8, .int 0, .int 0, .int 0])), (r4, .inl (k9, 2, .inr (.inr (.inr (.inr (fun _ => none)))))), (r5, .inl (k10, 12, .inr (.inr (.inr (.inr (fun _ => none)))))), (r6, .inl (k11, 4, .inl (fun _ => 0))), (r7, .inl (k12, 4, .inl (fun _ => 0))), (r8, .inl (k13, 4, .inl (fun _ => 0))), (q14, .inr (7, [.ref s15, .ref s16, .int 0])), (s16, .inl (k17, 40, .inl (fun _ => 0))), (q18, .inr (0, [.ref a19, .ref a20, .ref a21, .ref a22, .ref a23, .int 0, .int 0])), (a23, .inl (k24, 12, .inl (fun _ => 0))), (q25, .inr (8, [.ref q3, .ref q18, .ref w26, .ref w27, .long 0, .long 0, .int 0, .int 0, .int 0])), (q28, .inr (10, [.ref q3, .ref q14, .ref q18, .ref v29, .ref v30])), (q31, .inl (k32, 4, .inl (fun _ => 0)))] H := hP
  have hD : va_D A [(h0, .inr (11, [.ref q1, .int 0, .int 0, .int (-1), .ref q3, .ref q14, .ref q18, .ref q25, .ref q28, .null, .null, .null, .int 0, .int 0, .null, .null, .null])), (q1, .inl (k2, 1000, .inl (fun _ => 0))), (q3, .inr (3, [.ref r4, .ref r5, .ref r6, .ref r7, .ref r8, .int 0, .int 0, .int 0])), (r4, .inl (k9, 2, .inr (.inr (.inr (.inr (fun _ => none)))))), (r5, .inl (k10, 12, .inr (.inr (.inr (.inr (fun _ => none)))))), (r6, .inl (k11, 4, .inl (fun _ => 0))), (r7, .inl (k12, 4, .inl (fun _ => 0))), (r8, .inl (k13, 4, .inl (fun _ => 0))), (q14, .inr (7, [.ref s15, .ref s16, .int 0])), (s16, .inl (k17, 40, .inl (fun _ => 0))), (q18, .inr (0, [.ref a19, .ref a20, .ref a21, .ref a22, .ref a23, .int 0, .int 0])), (a23, .inl (k24, 12, .inl (fun _ => 0))), (q25, .inr (8, [.ref q3, .ref q18, .ref w26, .ref w27, .long 0, .long 0, .int 0, .int 0, .int 0])), (q28, .inr (10, [.ref q3, .ref q14, .ref q18, .ref v29, .ref v30])), (q31, .inl (k32, 4, .inl (fun _ => 0)))] := hD
  have hK : va_K (dC, dI) vwCl [(k2, .byte), (k9, .object RX5), (k10, .object RX9), (k11, .int), (k12, .int), (k13, .int), (k17, .boolean), (k24, .int), (k32, .int)] s := hK
  refine W.widen (k := 23) (n := 2662) (Nat.le_of_ble_eq_true rfl) (Nat.le_of_ble_eq_true rfl) ?_
  refine va_putF (D := (dC, dI)) (ci := 11) (v := .ref q31) (ty := tyX11 9) (C := RX11) (T := TX11) (N := 17) hx hb hts hin11 tyX11 tyX11_ok nmX11 hown hK hP hD hS 0 rfl rfl 9 (by decide) (ho (.fieldLink RX11 62 "NearEnough" "guardEnd" "[I") (List.mem_of_getElem? (i := 36) rfl)) (fun _ h9 => h9) rfl hin rfl (by decide +kernel) rfl rfl (Nat.le_of_ble_eq_true rfl) dX11_init_107 (fun H locs hP hD hS => ?_)
  have hP : va_P (dC, dI) vwCl [(h0, .inr (11, [.ref q1, .int 0, .int 0, .int (-1), .ref q3, .ref q14, .ref q18, .ref q25, .ref q28, .ref q31, .null, .null, .int 0, .int 0, .null, .null, .null])), (q1, .inl (k2, 1000, .inl (fun _ => 0))), (q3, .inr (3, [.ref r4, .ref r5, .ref r6, .ref r7, .ref r8, .int 0, .int 0, .int 0])), (r4, .inl (k9, 2, .inr (.inr (.inr (.inr (fun _ => none)))))), (r5, .inl (k10, 12, .inr (.inr (.inr (.inr (fun _ => none)))))), (r6, .inl (k11, 4, .inl (fun _ => 0))), (r7, .inl (k12, 4, .inl (fun _ => 0))), (r8, .inl (k13, 4, .inl (fun _ => 0))), (q14, .inr (7, [.ref s15, .ref s16, .int 0])), (s16, .inl (k17, 40, .inl (fun _ => 0))), (q18, .inr (0, [.ref a19, .ref a20, .ref a21, .ref a22, .ref a23, .int 0, .int 0])), (a23, .inl (k24, 12, .inl (fun _ => 0))), (q25, .inr (8, [.ref q3, .ref q18, .ref w26, .ref w27, .long 0, .long 0, .int 0, .int 0, .int 0])), (q28, .inr (10, [.ref q3, .ref q14, .ref q18, .ref v29, .ref v30])), (q31, .inl (k32, 4, .inl (fun _ => 0)))] H := hP
  have hD : va_D A [(h0, .inr (11, [.ref q1, .int 0, .int 0, .int (-1), .ref q3, .ref q14, .ref q18, .ref q25, .ref q28, .ref q31, .null, .null, .int 0, .int 0, .null, .null, .null])), (q1, .inl (k2, 1000, .inl (fun _ => 0))), (q3, .inr (3, [.ref r4, .ref r5, .ref r6, .ref r7, .ref r8, .int 0, .int 0, .int 0])), (r4, .inl (k9, 2, .inr (.inr (.inr (.inr (fun _ => none)))))), (r5, .inl (k10, 12, .inr (.inr (.inr (.inr (fun _ => none)))))), (r6, .inl (k11, 4, .inl (fun _ => 0))), (r7, .inl (k12, 4, .inl (fun _ => 0))), (r8, .inl (k13, 4, .inl (fun _ => 0))), (q14, .inr (7, [.ref s15, .ref s16, .int 0])), (s16, .inl (k17, 40, .inl (fun _ => 0))), (q18, .inr (0, [.ref a19, .ref a20, .ref a21, .ref a22, .ref a23, .int 0, .int 0])), (a23, .inl (k24, 12, .inl (fun _ => 0))), (q25, .inr (8, [.ref q3, .ref q18, .ref w26, .ref w27, .long 0, .long 0, .int 0, .int 0, .int 0])), (q28, .inr (10, [.ref q3, .ref q14, .ref q18, .ref v29, .ref v30])), (q31, .inl (k32, 4, .inl (fun _ => 0)))] := hD
  refine lv_aload_n hx hb dX11_init_110 rfl (lv_at hl 0 rfl) ?_
  refine lv_iconst (v := 4) hx hb dX11_init_111 (by decide) ?_
  refine va_newa (atype := .int) (ty := .int) (a0 := (4, .inl (fun _ => 0))) (N' := 4) hx hb (ho (.arrayClass .int) (List.mem_of_getElem? (i := 35) rfl)) rfl hK hP hD hS hA (fun _ => rfl) (by decide) (by decide) (by decide +kernel) (Nat.le_of_ble_eq_true rfl) (Nat.le_of_ble_eq_true rfl) dX11_init_112 (fun q33 k34 H hK hP hD hS => ?_)
  have hP : va_P (dC, dI) vwCl [(h0, .inr (11, [.ref q1, .int 0, .int 0, .int (-1), .ref q3, .ref q14, .ref q18, .ref q25, .ref q28, .ref q31, .null, .null, .int 0, .int 0, .null, .null, .null])), (q1, .inl (k2, 1000, .inl (fun _ => 0))), (q3, .inr (3, [.ref r4, .ref r5, .ref r6, .ref r7, .ref r8, .int 0, .int 0, .int 0])), (r4, .inl (k9, 2, .inr (.inr (.inr (.inr (fun _ => none)))))), (r5, .inl (k10, 12, .inr (.inr (.inr (.inr (fun _ => none)))))), (r6, .inl (k11, 4, .inl (fun _ => 0))), (r7, .inl (k12, 4, .inl (fun _ => 0))), (r8, .inl (k13, 4, .inl (fun _ => 0))), (q14, .inr (7, [.ref s15, .ref s16, .int 0])), (s16, .inl (k17, 40, .inl (fun _ => 0))), (q18, .inr (0, [.ref a19, .ref a20, .ref a21, .ref a22, .ref a23, .int 0, .int 0])), (a23, .inl (k24, 12, .inl (fun _ => 0))), (q25, .inr (8, [.ref q3, .ref q18, .ref w26, .ref w27, .long 0, .long 0, .int 0, .int 0, .int 0])), (q28, .inr (10, [.ref q3, .ref q14, .ref q18, .ref v29, .ref v30])), (q31, .inl (k32, 4, .inl (fun _ => 0))), (q33, .inl (k34, 4, .inl (fun _ => 0)))] H := hP
  have hD : va_D A [(h0, .inr (11, [.ref q1, .int 0, .int 0, .int (-1), .ref q3, .ref q14, .ref q18, .ref q25, .ref q28, .ref q31, .null, .null, .int 0, .int 0, .null, .null, .null])), (q1, .inl (k2, 1000, .inl (fun _ => 0))), (q3, .inr (3, [.ref r4, .ref r5, .ref r6, .ref r7, .ref r8, .int 0, .int 0, .int 0])), (r4, .inl (k9, 2, .inr (.inr (.inr (.inr (fun _ => none)))))), (r5, .inl (k10, 12, .inr (.inr (.inr (.inr (fun _ => none)))))), (r6, .inl (k11, 4, .inl (fun _ => 0))), (r7, .inl (k12, 4, .inl (fun _ => 0))), (r8, .inl (k13, 4, .inl (fun _ => 0))), (q14, .inr (7, [.ref s15, .ref s16, .int 0])), (s16, .inl (k17, 40, .inl (fun _ => 0))), (q18, .inr (0, [.ref a19, .ref a20, .ref a21, .ref a22, .ref a23, .int 0, .int 0])), (a23, .inl (k24, 12, .inl (fun _ => 0))), (q25, .inr (8, [.ref q3, .ref q18, .ref w26, .ref w27, .long 0, .long 0, .int 0, .int 0, .int 0])), (q28, .inr (10, [.ref q3, .ref q14, .ref q18, .ref v29, .ref v30])), (q31, .inl (k32, 4, .inl (fun _ => 0))), (q33, .inl (k34, 4, .inl (fun _ => 0)))] := hD
  have hK : va_K (dC, dI) vwCl [(k2, .byte), (k9, .object RX5), (k10, .object RX9), (k11, .int), (k12, .int), (k13, .int), (k17, .boolean), (k24, .int), (k32, .int), (k34, .int)] s := hK
  refine W.widen (k := 24) (n := 2666) (Nat.le_of_ble_eq_true rfl) (Nat.le_of_ble_eq_true rfl) ?_
  refine va_putF (D := (dC, dI)) (ci := 11) (v := .ref q33) (ty := tyX11 10) (C := RX11) (T := TX11) (N := 17) hx hb hts hin11 tyX11 tyX11_ok nmX11 hown hK hP hD hS 0 rfl rfl 10 (by decide) (ho (.fieldLink RX11 66 "NearEnough" "guardStep" "[I") (List.mem_of_getElem? (i := 37) rfl)) (fun _ h9 => h9) rfl hin rfl (by decide +kernel) rfl rfl (Nat.le_of_ble_eq_true rfl) dX11_init_114 (fun H locs hP hD hS => ?_)
  have hP : va_P (dC, dI) vwCl [(h0, .inr (11, [.ref q1, .int 0, .int 0, .int (-1), .ref q3, .ref q14, .ref q18, .ref q25, .ref q28, .ref q31, .ref q33, .null, .int 0, .int 0, .null, .null, .null])), (q1, .inl (k2, 1000, .inl (fun _ => 0))), (q3, .inr (3, [.ref r4, .ref r5, .ref r6, .ref r7, .ref r8, .int 0, .int 0, .int 0])), (r4, .inl (k9, 2, .inr (.inr (.inr (.inr (fun _ => none)))))), (r5, .inl (k10, 12, .inr (.inr (.inr (.inr (fun _ => none)))))), (r6, .inl (k11, 4, .inl (fun _ => 0))), (r7, .inl (k12, 4, .inl (fun _ => 0))), (r8, .inl (k13, 4, .inl (fun _ => 0))), (q14, .inr (7, [.ref s15, .ref s16, .int 0])), (s16, .inl (k17, 40, .inl (fun _ => 0))), (q18, .inr (0, [.ref a19, .ref a20, .ref a21, .ref a22, .ref a23, .int 0, .int 0])), (a23, .inl (k24, 12, .inl (fun _ => 0))), (q25, .inr (8, [.ref q3, .ref q18, .ref w26, .ref w27, .long 0, .long 0, .int 0, .int 0, .int 0])), (q28, .inr (10, [.ref q3, .ref q14, .ref q18, .ref v29, .ref v30])), (q31, .inl (k32, 4, .inl (fun _ => 0))), (q33, .inl (k34, 4, .inl (fun _ => 0)))] H := hP
  have hD : va_D A [(h0, .inr (11, [.ref q1, .int 0, .int 0, .int (-1), .ref q3, .ref q14, .ref q18, .ref q25, .ref q28, .ref q31, .ref q33, .null, .int 0, .int 0, .null, .null, .null])), (q1, .inl (k2, 1000, .inl (fun _ => 0))), (q3, .inr (3, [.ref r4, .ref r5, .ref r6, .ref r7, .ref r8, .int 0, .int 0, .int 0])), (r4, .inl (k9, 2, .inr (.inr (.inr (.inr (fun _ => none)))))), (r5, .inl (k10, 12, .inr (.inr (.inr (.inr (fun _ => none)))))), (r6, .inl (k11, 4, .inl (fun _ => 0))), (r7, .inl (k12, 4, .inl (fun _ => 0))), (r8, .inl (k13, 4, .inl (fun _ => 0))), (q14, .inr (7, [.ref s15, .ref s16, .int 0])), (s16, .inl (k17, 40, .inl (fun _ => 0))), (q18, .inr (0, [.ref a19, .ref a20, .ref a21, .ref a22, .ref a23, .int 0, .int 0])), (a23, .inl (k24, 12, .inl (fun _ => 0))), (q25, .inr (8, [.ref q3, .ref q18, .ref w26, .ref w27, .long 0, .long 0, .int 0, .int 0, .int 0])), (q28, .inr (10, [.ref q3, .ref q14, .ref q18, .ref v29, .ref v30])), (q31, .inl (k32, 4, .inl (fun _ => 0))), (q33, .inl (k34, 4, .inl (fun _ => 0)))] := hD
  refine lv_aload_n hx hb dX11_init_117 rfl (lv_at hl 0 rfl) ?_
  refine lv_iconst (v := 4) hx hb dX11_init_118 (by decide) ?_
  refine va_newa (atype := .int) (ty := .int) (a0 := (4, .inl (fun _ => 0))) (N' := 4) hx hb (ho (.arrayClass .int) (List.mem_of_getElem? (i := 35) rfl)) rfl hK hP hD hS hA (fun _ => rfl) (by decide) (by decide) (by decide +kernel) (Nat.le_of_ble_eq_true rfl) (Nat.le_of_ble_eq_true rfl) dX11_init_119 (fun q35 k36 H hK hP hD hS => ?_)
  have hP : va_P (dC, dI) vwCl [(h0, .inr (11, [.ref q1, .int 0, .int 0, .int (-1), .ref q3, .ref q14, .ref q18, .ref q25, .ref q28, .ref q31, .ref q33, .null, .int 0, .int 0, .null, .null, .null])), (q1, .inl (k2, 1000, .inl (fun _ => 0))), (q3, .inr (3, [.ref r4, .ref r5, .ref r6, .ref r7, .ref r8, .int 0, .int 0, .int 0])), (r4, .inl (k9, 2, .inr (.inr (.inr (.inr (fun _ => none)))))), (r5, .inl (k10, 12, .inr (.inr (.inr (.inr (fun _ => none)))))), (r6, .inl (k11, 4, .inl (fun _ => 0))), (r7, .inl (k12, 4, .inl (fun _ => 0))), (r8, .inl (k13, 4, .inl (fun _ => 0))), (q14, .inr (7, [.ref s15, .ref s16, .int 0])), (s16, .inl (k17, 40, .inl (fun _ => 0))), (q18, .inr (0, [.ref a19, .ref a20, .ref a21, .ref a22, .ref a23, .int 0, .int 0])), (a23, .inl (k24, 12, .inl (fun _ => 0))), (q25, .inr (8, [.ref q3, .ref q18, .ref w26, .ref w27, .long 0, .long 0, .int 0, .int 0, .int 0])), (q28, .inr (10, [.ref q3, .ref q14, .ref q18, .ref v29, .ref v30])), (q31, .inl (k32, 4, .inl (fun _ => 0))), (q33, .inl (k34, 4, .inl (fun _ => 0))), (q35, .inl (k36, 4, .inl (fun _ => 0)))] H := hP
  have hD : va_D A [(h0, .inr (11, [.ref q1, .int 0, .int 0, .int (-1), .ref q3, .ref q14, .ref q18, .ref q25, .ref q28, .ref q31, .ref q33, .null, .int 0, .int 0, .null, .null, .null])), (q1, .inl (k2, 1000, .inl (fun _ => 0))), (q3, .inr (3, [.ref r4, .ref r5, .ref r6, .ref r7, .ref r8, .int 0, .int 0, .int 0])), (r4, .inl (k9, 2, .inr (.inr (.inr (.inr (fun _ => none)))))), (r5, .inl (k10, 12, .inr (.inr (.inr (.inr (fun _ => none)))))), (r6, .inl (k11, 4, .inl (fun _ => 0))), (r7, .inl (k12, 4, .inl (fun _ => 0))), (r8, .inl (k13, 4, .inl (fun _ => 0))), (q14, .inr (7, [.ref s15, .ref s16, .int 0])), (s16, .inl (k17, 40, .inl (fun _ => 0))), (q18, .inr (0, [.ref a19, .ref a20, .ref a21, .ref a22, .ref a23, .int 0, .int 0])), (a23, .inl (k24, 12, .inl (fun _ => 0))), (q25, .inr (8, [.ref q3, .ref q18, .ref w26, .ref w27, .long 0, .long 0, .int 0, .int 0, .int 0])), (q28, .inr (10, [.ref q3, .ref q14, .ref q18, .ref v29, .ref v30])), (q31, .inl (k32, 4, .inl (fun _ => 0))), (q33, .inl (k34, 4, .inl (fun _ => 0))), (q35, .inl (k36, 4, .inl (fun _ => 0)))] := hD
  have hK : va_K (dC, dI) vwCl [(k2, .byte), (k9, .object RX5), (k10, .object RX9), (k11, .int), (k12, .int), (k13, .int), (k17, .boolean), (k24, .int), (k32, .int), (k34, .int), (k36, .int)] s := hK
  refine W.widen (k := 25) (n := 2670) (Nat.le_of_ble_eq_true rfl) (Nat.le_of_ble_eq_true rfl) ?_
  refine va_putF (D := (dC, dI)) (ci := 11) (v := .ref q35) (ty := tyX11 11) (C := RX11) (T := TX11) (N := 17) hx hb hts hin11 tyX11 tyX11_ok nmX11 hown hK hP hD hS 0 rfl rfl 11 (by decide) (ho (.fieldLink RX11 69 "NearEnough" "guardWithin" "[I") (List.mem_of_getElem? (i := 38) rfl)) (fun _ h9 => h9) rfl hin rfl (by decide +kernel) rfl rfl (Nat.le_of_ble_eq_true rfl) dX11_init_121 (fun H locs hP hD hS => ?_)
  have hP : va_P (dC, dI) vwCl [(h0, .inr (11, [.ref q1, .int 0, .int 0, .int (-1), .ref q3, .ref q14, .ref q18, .ref q25, .ref q28, .ref q31, .ref q33, .ref q35, .int 0, .int 0, .null, .null, .null])), (q1, .inl (k2, 1000, .inl (fun _ => 0))), (q3, .inr (3, [.ref r4, .ref r5, .ref r6, .ref r7, .ref r8, .int 0, .int 0, .int 0])), (r4, .inl (k9, 2, .inr (.inr (.inr (.inr (fun _ => none)))))), (r5, .inl (k10, 12, .inr (.inr (.inr (.inr (fun _ => none)))))), (r6, .inl (k11, 4, .inl (fun _ => 0))), (r7, .inl (k12, 4, .inl (fun _ => 0))), (r8, .inl (k13, 4, .inl (fun _ => 0))), (q14, .inr (7, [.ref s15, .ref s16, .int 0])), (s16, .inl (k17, 40, .inl (fun _ => 0))), (q18, .inr (0, [.ref a19, .ref a20, .ref a21, .ref a22, .ref a23, .int 0, .int 0])), (a23, .inl (k24, 12, .inl (fun _ => 0))), (q25, .inr (8, [.ref q3, .ref q18, .ref w26, .ref w27, .long 0, .long 0, .int 0, .int 0, .int 0])), (q28, .inr (10, [.ref q3, .ref q14, .ref q18, .ref v29, .ref v30])), (q31, .inl (k32, 4, .inl (fun _ => 0))), (q33, .inl (k34, 4, .inl (fun _ => 0))), (q35, .inl (k36, 4, .inl (fun _ => 0)))] H := hP
  have hD : va_D A [(h0, .inr (11, [.ref q1, .int 0, .int 0, .int (-1), .ref q3, .ref q14, .ref q18, .ref q25, .ref q28, .ref q31, .ref q33, .ref q35, .int 0, .int 0, .null, .null, .null])), (q1, .inl (k2, 1000, .inl (fun _ => 0))), (q3, .inr (3, [.ref r4, .ref r5, .ref r6, .ref r7, .ref r8, .int 0, .int 0, .int 0])), (r4, .inl (k9, 2, .inr (.inr (.inr (.inr (fun _ => none)))))), (r5, .inl (k10, 12, .inr (.inr (.inr (.inr (fun _ => none)))))), (r6, .inl (k11, 4, .inl (fun _ => 0))), (r7, .inl (k12, 4, .inl (fun _ => 0))), (r8, .inl (k13, 4, .inl (fun _ => 0))), (q14, .inr (7, [.ref s15, .ref s16, .int 0])), (s16, .inl (k17, 40, .inl (fun _ => 0))), (q18, .inr (0, [.ref a19, .ref a20, .ref a21, .ref a22, .ref a23, .int 0, .int 0])), (a23, .inl (k24, 12, .inl (fun _ => 0))), (q25, .inr (8, [.ref q3, .ref q18, .ref w26, .ref w27, .long 0, .long 0, .int 0, .int 0, .int 0])), (q28, .inr (10, [.ref q3, .ref q14, .ref q18, .ref v29, .ref v30])), (q31, .inl (k32, 4, .inl (fun _ => 0))), (q33, .inl (k34, 4, .inl (fun _ => 0))), (q35, .inl (k36, 4, .inl (fun _ => 0)))] := hD
  refine lv_aload_n hx hb dX11_init_124 rfl (lv_at hl 0 rfl) ?_
  refine lv_iconst (v := 0) hx hb dX11_init_125 (by decide) ?_
  refine va_put (D := (dC, dI)) (ci := 11) (v := .int 0) (ty := tyX11 12) (C := RX11) (T := TX11) (N := 17) hx hb hts hin11 tyX11 tyX11_ok nmX11 hown hK hP hD hS 0 rfl rfl 12 (by decide) (ho (.fieldLink RX11 72 "NearEnough" "guards" "I") (List.mem_of_getElem? (i := 39) rfl)) (fun _ h9 => h9) rfl (by decide +kernel) rfl rfl (Nat.le_of_ble_eq_true rfl) dX11_init_126 (fun H locs hP hD hS => ?_)
  have hP : va_P (dC, dI) vwCl [(h0, .inr (11, [.ref q1, .int 0, .int 0, .int (-1), .ref q3, .ref q14, .ref q18, .ref q25, .ref q28, .ref q31, .ref q33, .ref q35, .int 0, .int 0, .null, .null, .null])), (q1, .inl (k2, 1000, .inl (fun _ => 0))), (q3, .inr (3, [.ref r4, .ref r5, .ref r6, .ref r7, .ref r8, .int 0, .int 0, .int 0])), (r4, .inl (k9, 2, .inr (.inr (.inr (.inr (fun _ => none)))))), (r5, .inl (k10, 12, .inr (.inr (.inr (.inr (fun _ => none)))))), (r6, .inl (k11, 4, .inl (fun _ => 0))), (r7, .inl (k12, 4, .inl (fun _ => 0))), (r8, .inl (k13, 4, .inl (fun _ => 0))), (q14, .inr (7, [.ref s15, .ref s16, .int 0])), (s16, .inl (k17, 40, .inl (fun _ => 0))), (q18, .inr (0, [.ref a19, .ref a20, .ref a21, .ref a22, .ref a23, .int 0, .int 0])), (a23, .inl (k24, 12, .inl (fun _ => 0))), (q25, .inr (8, [.ref q3, .ref q18, .ref w26, .ref w27, .long 0, .long 0, .int 0, .int 0, .int 0])), (q28, .inr (10, [.ref q3, .ref q14, .ref q18, .ref v29, .ref v30])), (q31, .inl (k32, 4, .inl (fun _ => 0))), (q33, .inl (k34, 4, .inl (fun _ => 0))), (q35, .inl (k36, 4, .inl (fun _ => 0)))] H := hP
  have hD : va_D A [(h0, .inr (11, [.ref q1, .int 0, .int 0, .int (-1), .ref q3, .ref q14, .ref q18, .ref q25, .ref q28, .ref q31, .ref q33, .ref q35, .int 0, .int 0, .null, .null, .null])), (q1, .inl (k2, 1000, .inl (fun _ => 0))), (q3, .inr (3, [.ref r4, .ref r5, .ref r6, .ref r7, .ref r8, .int 0, .int 0, .int 0])), (r4, .inl (k9, 2, .inr (.inr (.inr (.inr (fun _ => none)))))), (r5, .inl (k10, 12, .inr (.inr (.inr (.inr (fun _ => none)))))), (r6, .inl (k11, 4, .inl (fun _ => 0))), (r7, .inl (k12, 4, .inl (fun _ => 0))), (r8, .inl (k13, 4, .inl (fun _ => 0))), (q14, .inr (7, [.ref s15, .ref s16, .int 0])), (s16, .inl (k17, 40, .inl (fun _ => 0))), (q18, .inr (0, [.ref a19, .ref a20, .ref a21, .ref a22, .ref a23, .int 0, .int 0])), (a23, .inl (k24, 12, .inl (fun _ => 0))), (q25, .inr (8, [.ref q3, .ref q18, .ref w26, .ref w27, .long 0, .long 0, .int 0, .int 0, .int 0])), (q28, .inr (10, [.ref q3, .ref q14, .ref q18, .ref v29, .ref v30])), (q31, .inl (k32, 4, .inl (fun _ => 0))), (q33, .inl (k34, 4, .inl (fun _ => 0))), (q35, .inl (k36, 4, .inl (fun _ => 0)))] := hD
  refine lv_aload_n hx hb dX11_init_129 rfl (lv_at hl 0 rfl) ?_
  refine lv_iconst (v := 0) hx hb dX11_init_130 (by decide) ?_
  refine va_put (D := (dC, dI)) (ci := 11) (v := .int 0) (ty := tyX11 13) (C := RX11) (T := TX11) (N := 17) hx hb hts hin11 tyX11 tyX11_ok nmX11 hown hK hP hD hS 0 rfl rfl 13 (by decide) (ho (.fieldLink RX11 75 "NearEnough" "left" "I") (List.mem_of_getElem? (i := 40) rfl)) (fun _ h9 => h9) rfl (by decide +kernel) rfl rfl (Nat.le_of_ble_eq_true rfl) dX11_init_131 (fun H locs hP hD hS => ?_)
  have hP : va_P (dC, dI) vwCl [(h0, .inr (11, [.ref q1, .int 0, .int 0, .int (-1), .ref q3, .ref q14, .ref q18, .ref q25, .ref q28, .ref q31, .ref q33, .ref q35, .int 0, .int 0, .null, .null, .null])), (q1, .inl (k2, 1000, .inl (fun _ => 0))), (q3, .inr (3, [.ref r4, .ref r5, .ref r6, .ref r7, .ref r8, .int 0, .int 0, .int 0])), (r4, .inl (k9, 2, .inr (.inr (.inr (.inr (fun _ => none)))))), (r5, .inl (k10, 12, .inr (.inr (.inr (.inr (fun _ => none)))))), (r6, .inl (k11, 4, .inl (fun _ => 0))), (r7, .inl (k12, 4, .inl (fun _ => 0))), (r8, .inl (k13, 4, .inl (fun _ => 0))), (q14, .inr (7, [.ref s15, .ref s16, .int 0])), (s16, .inl (k17, 40, .inl (fun _ => 0))), (q18, .inr (0, [.ref a19, .ref a20, .ref a21, .ref a22, .ref a23, .int 0, .int 0])), (a23, .inl (k24, 12, .inl (fun _ => 0))), (q25, .inr (8, [.ref q3, .ref q18, .ref w26, .ref w27, .long 0, .long 0, .int 0, .int 0, .int 0])), (q28, .inr (10, [.ref q3, .ref q14, .ref q18, .ref v29, .ref v30])), (q31, .inl (k32, 4, .inl (fun _ => 0))), (q33, .inl (k34, 4, .inl (fun _ => 0))), (q35, .inl (k36, 4, .inl (fun _ => 0)))] H := hP
  have hD : va_D A [(h0, .inr (11, [.ref q1, .int 0, .int 0, .int (-1), .ref q3, .ref q14, .ref q18, .ref q25, .ref q28, .ref q31, .ref q33, .ref q35, .int 0, .int 0, .null, .null, .null])), (q1, .inl (k2, 1000, .inl (fun _ => 0))), (q3, .inr (3, [.ref r4, .ref r5, .ref r6, .ref r7, .ref r8, .int 0, .int 0, .int 0])), (r4, .inl (k9, 2, .inr (.inr (.inr (.inr (fun _ => none)))))), (r5, .inl (k10, 12, .inr (.inr (.inr (.inr (fun _ => none)))))), (r6, .inl (k11, 4, .inl (fun _ => 0))), (r7, .inl (k12, 4, .inl (fun _ => 0))), (r8, .inl (k13, 4, .inl (fun _ => 0))), (q14, .inr (7, [.ref s15, .ref s16, .int 0])), (s16, .inl (k17, 40, .inl (fun _ => 0))), (q18, .inr (0, [.ref a19, .ref a20, .ref a21, .ref a22, .ref a23, .int 0, .int 0])), (a23, .inl (k24, 12, .inl (fun _ => 0))), (q25, .inr (8, [.ref q3, .ref q18, .ref w26, .ref w27, .long 0, .long 0, .int 0, .int 0, .int 0])), (q28, .inr (10, [.ref q3, .ref q14, .ref q18, .ref v29, .ref v30])), (q31, .inl (k32, 4, .inl (fun _ => 0))), (q33, .inl (k34, 4, .inl (fun _ => 0))), (q35, .inl (k36, 4, .inl (fun _ => 0)))] := hD
  refine lv_aload_n hx hb dX11_init_134 rfl (lv_at hl 0 rfl) ?_
  refine lv_iconst (v := 4) hx hb dX11_init_135 (by decide) ?_
  refine va_newa (atype := .long) (ty := .long) (a0 := (4, .inr (.inl (fun _ => 0)))) (N' := 4) hx hb (ho (.arrayClass .long) (List.mem_of_getElem? (i := 41) rfl)) rfl hK hP hD hS hA (fun _ => rfl) (by decide) (by decide) (by decide +kernel) (Nat.le_of_ble_eq_true rfl) (Nat.le_of_ble_eq_true rfl) dX11_init_136 (fun q37 k38 H hK hP hD hS => ?_)
  have hP : va_P (dC, dI) vwCl [(h0, .inr (11, [.ref q1, .int 0, .int 0, .int (-1), .ref q3, .ref q14, .ref q18, .ref q25, .ref q28, .ref q31, .ref q33, .ref q35, .int 0, .int 0, .null, .null, .null])), (q1, .inl (k2, 1000, .inl (fun _ => 0))), (q3, .inr (3, [.ref r4, .ref r5, .ref r6, .ref r7, .ref r8, .int 0, .int 0, .int 0])), (r4, .inl (k9, 2, .inr (.inr (.inr (.inr (fun _ => none)))))), (r5, .inl (k10, 12, .inr (.inr (.inr (.inr (fun _ => none)))))), (r6, .inl (k11, 4, .inl (fun _ => 0))), (r7, .inl (k12, 4, .inl (fun _ => 0))), (r8, .inl (k13, 4, .inl (fun _ => 0))), (q14, .inr (7, [.ref s15, .ref s16, .int 0])), (s16, .inl (k17, 40, .inl (fun _ => 0))), (q18, .inr (0, [.ref a19, .ref a20, .ref a21, .ref a22, .ref a23, .int 0, .int 0])), (a23, .inl (k24, 12, .inl (fun _ => 0))), (q25, .inr (8, [.ref q3, .ref q18, .ref w26, .ref w27, .long 0, .long 0, .int 0, .int 0, .int 0])), (q28, .inr (10, [.ref q3, .ref q14, .ref q18, .ref v29, .ref v30])), (q31, .inl (k32, 4, .inl (fun _ => 0))), (q33, .inl (k34, 4, .inl (fun _ => 0))), (q35, .inl (k36, 4, .inl (fun _ => 0))), (q37, .inl (k38, 4, .inr (.inl (fun _ => 0))))] H := hP
  have hD : va_D A [(h0, .inr (11, [.ref q1, .int 0, .int 0, .int (-1), .ref q3, .ref q14, .ref q18, .ref q25, .ref q28, .ref q31, .ref q33, .ref q35, .int 0, .int 0, .null, .null, .null])), (q1, .inl (k2, 1000, .inl (fun _ => 0))), (q3, .inr (3, [.ref r4, .ref r5, .ref r6, .ref r7, .ref r8, .int 0, .int 0, .int 0])), (r4, .inl (k9, 2, .inr (.inr (.inr (.inr (fun _ => none)))))), (r5, .inl (k10, 12, .inr (.inr (.inr (.inr (fun _ => none)))))), (r6, .inl (k11, 4, .inl (fun _ => 0))), (r7, .inl (k12, 4, .inl (fun _ => 0))), (r8, .inl (k13, 4, .inl (fun _ => 0))), (q14, .inr (7, [.ref s15, .ref s16, .int 0])), (s16, .inl (k17, 40, .inl (fun _ => 0))), (q18, .inr (0, [.ref a19, .ref a20, .ref a21, .ref a22, .ref a23, .int 0, .int 0])), (a23, .inl (k24, 12, .inl (fun _ => 0))), (q25, .inr (8, [.ref q3, .ref q18, .ref w26, .ref w27, .long 0, .long 0, .int 0, .int 0, .int 0])), (q28, .inr (10, [.ref q3, .ref q14, .ref q18, .ref v29, .ref v30])), (q31, .inl (k32, 4, .inl (fun _ => 0))), (q33, .inl (k34, 4, .inl (fun _ => 0))), (q35, .inl (k36, 4, .inl (fun _ => 0))), (q37, .inl (k38, 4, .inr (.inl (fun _ => 0))))] := hD
  have hK : va_K (dC, dI) vwCl [(k2, .byte), (k9, .object RX5), (k10, .object RX9), (k11, .int), (k12, .int), (k13, .int), (k17, .boolean), (k24, .int), (k32, .int), (k34, .int), (k36, .int), (k38, .long)] s := hK
  refine W.widen (k := 26) (n := 2674) (Nat.le_of_ble_eq_true rfl) (Nat.le_of_ble_eq_true rfl) ?_
  refine va_putF (D := (dC, dI)) (ci := 11) (v := .ref q37) (ty := tyX11 14) (C := RX11) (T := TX11) (N := 17) hx hb hts hin11 tyX11 tyX11_ok nmX11 hown hK hP hD hS 0 rfl rfl 14 (by decide) (ho (.fieldLink RX11 78 "NearEnough" "tally" "[J") (List.mem_of_getElem? (i := 42) rfl)) (fun _ h9 => h9) rfl hin rfl (by decide +kernel) rfl rfl (Nat.le_of_ble_eq_true rfl) dX11_init_138 (fun H locs hP hD hS => ?_)
  have hP : va_P (dC, dI) vwCl [(h0, .inr (11, [.ref q1, .int 0, .int 0, .int (-1), .ref q3, .ref q14, .ref q18, .ref q25, .ref q28, .ref q31, .ref q33, .ref q35, .int 0, .int 0, .ref q37, .null, .null])), (q1, .inl (k2, 1000, .inl (fun _ => 0))), (q3, .inr (3, [.ref r4, .ref r5, .ref r6, .ref r7, .ref r8, .int 0, .int 0, .int 0])), (r4, .inl (k9, 2, .inr (.inr (.inr (.inr (fun _ => none)))))), (r5, .inl (k10, 12, .inr (.inr (.inr (.inr (fun _ => none)))))), (r6, .inl (k11, 4, .inl (fun _ => 0))), (r7, .inl (k12, 4, .inl (fun _ => 0))), (r8, .inl (k13, 4, .inl (fun _ => 0))), (q14, .inr (7, [.ref s15, .ref s16, .int 0])), (s16, .inl (k17, 40, .inl (fun _ => 0))), (q18, .inr (0, [.ref a19, .ref a20, .ref a21, .ref a22, .ref a23, .int 0, .int 0])), (a23, .inl (k24, 12, .inl (fun _ => 0))), (q25, .inr (8, [.ref q3, .ref q18, .ref w26, .ref w27, .long 0, .long 0, .int 0, .int 0, .int 0])), (q28, .inr (10, [.ref q3, .ref q14, .ref q18, .ref v29, .ref v30])), (q31, .inl (k32, 4, .inl (fun _ => 0))), (q33, .inl (k34, 4, .inl (fun _ => 0))), (q35, .inl (k36, 4, .inl (fun _ => 0))), (q37, .inl (k38, 4, .inr (.inl (fun _ => 0))))] H := hP
  have hD : va_D A [(h0, .inr (11, [.ref q1, .int 0, .int 0, .int (-1), .ref q3, .ref q14, .ref q18, .ref q25, .ref q28, .ref q31, .ref q33, .ref q35, .int 0, .int 0, .ref q37, .null, .null])), (q1, .inl (k2, 1000, .inl (fun _ => 0))), (q3, .inr (3, [.ref r4, .ref r5, .ref r6, .ref r7, .ref r8, .int 0, .int 0, .int 0])), (r4, .inl (k9, 2, .inr (.inr (.inr (.inr (fun _ => none)))))), (r5, .inl (k10, 12, .inr (.inr (.inr (.inr (fun _ => none)))))), (r6, .inl (k11, 4, .inl (fun _ => 0))), (r7, .inl (k12, 4, .inl (fun _ => 0))), (r8, .inl (k13, 4, .inl (fun _ => 0))), (q14, .inr (7, [.ref s15, .ref s16, .int 0])), (s16, .inl (k17, 40, .inl (fun _ => 0))), (q18, .inr (0, [.ref a19, .ref a20, .ref a21, .ref a22, .ref a23, .int 0, .int 0])), (a23, .inl (k24, 12, .inl (fun _ => 0))), (q25, .inr (8, [.ref q3, .ref q18, .ref w26, .ref w27, .long 0, .long 0, .int 0, .int 0, .int 0])), (q28, .inr (10, [.ref q3, .ref q14, .ref q18, .ref v29, .ref v30])), (q31, .inl (k32, 4, .inl (fun _ => 0))), (q33, .inl (k34, 4, .inl (fun _ => 0))), (q35, .inl (k36, 4, .inl (fun _ => 0))), (q37, .inl (k38, 4, .inr (.inl (fun _ => 0))))] := hD
  refine lv_aload_n hx hb dX11_init_141 rfl (lv_at hl 0 rfl) ?_
  refine lv_null hx hb dX11_init_142 ?_
  refine va_put (D := (dC, dI)) (ci := 11) (v := .null) (ty := tyX11 15) (C := RX11) (T := TX11) (N := 17) hx hb hts hin11 tyX11 tyX11_ok nmX11 hown hK hP hD hS 0 rfl rfl 15 (by decide) (ho (.fieldLink RX11 82 "NearEnough" "edge" "LNearEnough$Front;") (List.mem_of_getElem? (i := 43) rfl)) (fun _ h9 => h9) rfl (by decide +kernel) rfl rfl (Nat.le_of_ble_eq_true rfl) dX11_init_143 (fun H locs hP hD hS => ?_)
  have hP : va_P (dC, dI) vwCl [(h0, .inr (11, [.ref q1, .int 0, .int 0, .int (-1), .ref q3, .ref q14, .ref q18, .ref q25, .ref q28, .ref q31, .ref q33, .ref q35, .int 0, .int 0, .ref q37, .null, .null])), (q1, .inl (k2, 1000, .inl (fun _ => 0))), (q3, .inr (3, [.ref r4, .ref r5, .ref r6, .ref r7, .ref r8, .int 0, .int 0, .int 0])), (r4, .inl (k9, 2, .inr (.inr (.inr (.inr (fun _ => none)))))), (r5, .inl (k10, 12, .inr (.inr (.inr (.inr (fun _ => none)))))), (r6, .inl (k11, 4, .inl (fun _ => 0))), (r7, .inl (k12, 4, .inl (fun _ => 0))), (r8, .inl (k13, 4, .inl (fun _ => 0))), (q14, .inr (7, [.ref s15, .ref s16, .int 0])), (s16, .inl (k17, 40, .inl (fun _ => 0))), (q18, .inr (0, [.ref a19, .ref a20, .ref a21, .ref a22, .ref a23, .int 0, .int 0])), (a23, .inl (k24, 12, .inl (fun _ => 0))), (q25, .inr (8, [.ref q3, .ref q18, .ref w26, .ref w27, .long 0, .long 0, .int 0, .int 0, .int 0])), (q28, .inr (10, [.ref q3, .ref q14, .ref q18, .ref v29, .ref v30])), (q31, .inl (k32, 4, .inl (fun _ => 0))), (q33, .inl (k34, 4, .inl (fun _ => 0))), (q35, .inl (k36, 4, .inl (fun _ => 0))), (q37, .inl (k38, 4, .inr (.inl (fun _ => 0))))] H := hP
  have hD : va_D A [(h0, .inr (11, [.ref q1, .int 0, .int 0, .int (-1), .ref q3, .ref q14, .ref q18, .ref q25, .ref q28, .ref q31, .ref q33, .ref q35, .int 0, .int 0, .ref q37, .null, .null])), (q1, .inl (k2, 1000, .inl (fun _ => 0))), (q3, .inr (3, [.ref r4, .ref r5, .ref r6, .ref r7, .ref r8, .int 0, .int 0, .int 0])), (r4, .inl (k9, 2, .inr (.inr (.inr (.inr (fun _ => none)))))), (r5, .inl (k10, 12, .inr (.inr (.inr (.inr (fun _ => none)))))), (r6, .inl (k11, 4, .inl (fun _ => 0))), (r7, .inl (k12, 4, .inl (fun _ => 0))), (r8, .inl (k13, 4, .inl (fun _ => 0))), (q14, .inr (7, [.ref s15, .ref s16, .int 0])), (s16, .inl (k17, 40, .inl (fun _ => 0))), (q18, .inr (0, [.ref a19, .ref a20, .ref a21, .ref a22, .ref a23, .int 0, .int 0])), (a23, .inl (k24, 12, .inl (fun _ => 0))), (q25, .inr (8, [.ref q3, .ref q18, .ref w26, .ref w27, .long 0, .long 0, .int 0, .int 0, .int 0])), (q28, .inr (10, [.ref q3, .ref q14, .ref q18, .ref v29, .ref v30])), (q31, .inl (k32, 4, .inl (fun _ => 0))), (q33, .inl (k34, 4, .inl (fun _ => 0))), (q35, .inl (k36, 4, .inl (fun _ => 0))), (q37, .inl (k38, 4, .inr (.inl (fun _ => 0))))] := hD
  refine lv_aload_n hx hb dX11_init_146 rfl (lv_at hl 0 rfl) ?_
  refine lv_null hx hb dX11_init_147 ?_
  refine va_put (D := (dC, dI)) (ci := 11) (v := .null) (ty := tyX11 16) (C := RX11) (T := TX11) (N := 17) hx hb hts hin11 tyX11 tyX11_ok nmX11 hown hK hP hD hS 0 rfl rfl 16 (by decide) (ho (.fieldLink RX11 86 "NearEnough" "planner" "LNearEnough$Plan;") (List.mem_of_getElem? (i := 44) rfl)) (fun _ h9 => h9) rfl (by decide +kernel) rfl rfl (Nat.le_of_ble_eq_true rfl) dX11_init_148 (fun H locs hP hD hS => ?_)
  have hP : va_P (dC, dI) vwCl [(h0, .inr (11, [.ref q1, .int 0, .int 0, .int (-1), .ref q3, .ref q14, .ref q18, .ref q25, .ref q28, .ref q31, .ref q33, .ref q35, .int 0, .int 0, .ref q37, .null, .null])), (q1, .inl (k2, 1000, .inl (fun _ => 0))), (q3, .inr (3, [.ref r4, .ref r5, .ref r6, .ref r7, .ref r8, .int 0, .int 0, .int 0])), (r4, .inl (k9, 2, .inr (.inr (.inr (.inr (fun _ => none)))))), (r5, .inl (k10, 12, .inr (.inr (.inr (.inr (fun _ => none)))))), (r6, .inl (k11, 4, .inl (fun _ => 0))), (r7, .inl (k12, 4, .inl (fun _ => 0))), (r8, .inl (k13, 4, .inl (fun _ => 0))), (q14, .inr (7, [.ref s15, .ref s16, .int 0])), (s16, .inl (k17, 40, .inl (fun _ => 0))), (q18, .inr (0, [.ref a19, .ref a20, .ref a21, .ref a22, .ref a23, .int 0, .int 0])), (a23, .inl (k24, 12, .inl (fun _ => 0))), (q25, .inr (8, [.ref q3, .ref q18, .ref w26, .ref w27, .long 0, .long 0, .int 0, .int 0, .int 0])), (q28, .inr (10, [.ref q3, .ref q14, .ref q18, .ref v29, .ref v30])), (q31, .inl (k32, 4, .inl (fun _ => 0))), (q33, .inl (k34, 4, .inl (fun _ => 0))), (q35, .inl (k36, 4, .inl (fun _ => 0))), (q37, .inl (k38, 4, .inr (.inl (fun _ => 0))))] H := hP
  have hD : va_D A [(h0, .inr (11, [.ref q1, .int 0, .int 0, .int (-1), .ref q3, .ref q14, .ref q18, .ref q25, .ref q28, .ref q31, .ref q33, .ref q35, .int 0, .int 0, .ref q37, .null, .null])), (q1, .inl (k2, 1000, .inl (fun _ => 0))), (q3, .inr (3, [.ref r4, .ref r5, .ref r6, .ref r7, .ref r8, .int 0, .int 0, .int 0])), (r4, .inl (k9, 2, .inr (.inr (.inr (.inr (fun _ => none)))))), (r5, .inl (k10, 12, .inr (.inr (.inr (.inr (fun _ => none)))))), (r6, .inl (k11, 4, .inl (fun _ => 0))), (r7, .inl (k12, 4, .inl (fun _ => 0))), (r8, .inl (k13, 4, .inl (fun _ => 0))), (q14, .inr (7, [.ref s15, .ref s16, .int 0])), (s16, .inl (k17, 40, .inl (fun _ => 0))), (q18, .inr (0, [.ref a19, .ref a20, .ref a21, .ref a22, .ref a23, .int 0, .int 0])), (a23, .inl (k24, 12, .inl (fun _ => 0))), (q25, .inr (8, [.ref q3, .ref q18, .ref w26, .ref w27, .long 0, .long 0, .int 0, .int 0, .int 0])), (q28, .inr (10, [.ref q3, .ref q14, .ref q18, .ref v29, .ref v30])), (q31, .inl (k32, 4, .inl (fun _ => 0))), (q33, .inl (k34, 4, .inl (fun _ => 0))), (q35, .inl (k36, 4, .inl (fun _ => 0))), (q37, .inl (k38, 4, .inr (.inl (fun _ => 0))))] := hD
  refine W.widen (k := 26) (n := 2674) (Nat.le_of_ble_eq_true rfl) (Nat.le_of_ble_eq_true rfl) ?_
  exact W.vret hx hb hr (fun t ht hW => ⟨⟨(q1, q3, q14, q18, q25, q28, q31, q33, q35, q37, r4, r5, r6, r7, r8, s15, s16, a19, a20, a21, a22, a23, w26, w27, v29, v30, k2, k9, k10, k11, k12, k13, k17, k24), rfl, trivial, wEn_of (hP.sub [0, 1, 2, 3, 4, 5, 6, 7, 8, 9, 10, 11, 12, 13] rfl) (hK.sub [0, 1, 2, 3, 4, 5, 6, 7] rfl) (hD.sub [0, 1, 2, 3, 4, 5, 6, 7, 8, 9, 10, 11, 12, 13] (by decide) rfl) ht hW⟩, hS.F ht⟩) hS.2.2 dX11_init_151
end
section
theorem dX12_init_0 : decode cX12_init 0 = .ok (.aload_n 0, 1) := by decide +kernel
theorem dX12_init_1 : decode cX12_init 1 = .ok (.invokespecial 1, 3) := by decide +kernel
theorem dX12_init_4 : decode cX12_init 4 = .ok (.aload_n 0, 1) := by decide +kernel
theorem dX12_init_5 : decode cX12_init 5 = .ok (.sipush 1020, 3) := by decide +kernel
theorem dX12_init_8 : decode cX12_init 8 = .ok (.newarray .byte, 2) := by decide +kernel
theorem dX12_init_10 : decode cX12_init 10 = .ok (.putfield 7, 3) := by decide +kernel
theorem dX12_init_13 : decode cX12_init 13 = .ok (.aload_n 0, 1) := by decide +kernel
theorem dX12_init_14 : decode cX12_init 14 = .ok (.sipush 1000, 3) := by decide +kernel
theorem dX12_init_17 : decode cX12_init 17 = .ok (.newarray .byte, 2) := by decide +kernel
theorem dX12_init_19 : decode cX12_init 19 = .ok (.putfield 13, 3) := by decide +kernel
theorem dX12_init_22 : decode cX12_init 22 = .ok (.aload_n 0, 1) := by decide +kernel
theorem dX12_init_23 : decode cX12_init 23 = .ok (.iconst (-1), 1) := by decide +kernel
theorem dX12_init_24 : decode cX12_init 24 = .ok (.putfield 16, 3) := by decide +kernel
theorem dX12_init_27 : decode cX12_init 27 = .ok (.aload_n 0, 1) := by decide +kernel
theorem dX12_init_28 : decode cX12_init 28 = .ok (.iconst 2, 1) := by decide +kernel
theorem dX12_init_29 : decode cX12_init 29 = .ok (.newarray .int, 2) := by decide +kernel
theorem dX12_init_31 : decode cX12_init 31 = .ok (.putfield 20, 3) := by decide +kernel
theorem dX12_init_34 : decode cX12_init 34 = .ok (.aload_n 0, 1) := by decide +kernel
theorem dX12_init_35 : decode cX12_init 35 = .ok (.iconst 2, 1) := by decide +kernel
theorem dX12_init_36 : decode cX12_init 36 = .ok (.newarray .int, 2) := by decide +kernel
theorem dX12_init_38 : decode cX12_init 38 = .ok (.putfield 24, 3) := by decide +kernel
theorem dX12_init_41 : decode cX12_init 41 = .ok (.aload_n 0, 1) := by decide +kernel
theorem dX12_init_42 : decode cX12_init 42 = .ok (.iconst 2, 1) := by decide +kernel
theorem dX12_init_43 : decode cX12_init 43 = .ok (.newarray .int, 2) := by decide +kernel
theorem dX12_init_45 : decode cX12_init 45 = .ok (.putfield 27, 3) := by decide +kernel
theorem dX12_init_48 : decode cX12_init 48 = .ok (.aload_n 0, 1) := by decide +kernel
theorem dX12_init_49 : decode cX12_init 49 = .ok (.iconst 4, 1) := by decide +kernel
theorem dX12_init_50 : decode cX12_init 50 = .ok (.newarray .int, 2) := by decide +kernel
theorem dX12_init_52 : decode cX12_init 52 = .ok (.putfield 30, 3) := by decide +kernel
theorem dX12_init_55 : decode cX12_init 55 = .ok (.aload_n 0, 1) := by decide +kernel
theorem dX12_init_56 : decode cX12_init 56 = .ok (.iconst 4, 1) := by decide +kernel
theorem dX12_init_57 : decode cX12_init 57 = .ok (.newarray .int, 2) := by decide +kernel
theorem dX12_init_59 : decode cX12_init 59 = .ok (.putfield 33, 3) := by decide +kernel
theorem dX12_init_62 : decode cX12_init 62 = .ok (.aload_n 0, 1) := by decide +kernel
theorem dX12_init_63 : decode cX12_init 63 = .ok (.iconst 4, 1) := by decide +kernel
theorem dX12_init_64 : decode cX12_init 64 = .ok (.newarray .int, 2) := by decide +kernel
theorem dX12_init_66 : decode cX12_init 66 = .ok (.putfield 36, 3) := by decide +kernel
theorem dX12_init_69 : decode cX12_init 69 = .ok (.aload_n 0, 1) := by decide +kernel
theorem dX12_init_70 : decode cX12_init 70 = .ok (.bipush 24, 2) := by decide +kernel
theorem dX12_init_72 : decode cX12_init 72 = .ok (.newarray .int, 2) := by decide +kernel
theorem dX12_init_74 : decode cX12_init 74 = .ok (.putfield 39, 3) := by decide +kernel
theorem dX12_init_77 : decode cX12_init 77 = .ok (.aload_n 0, 1) := by decide +kernel
theorem dX12_init_78 : decode cX12_init 78 = .ok (.bipush 24, 2) := by decide +kernel
theorem dX12_init_80 : decode cX12_init 80 = .ok (.newarray .int, 2) := by decide +kernel
theorem dX12_init_82 : decode cX12_init 82 = .ok (.putfield 42, 3) := by decide +kernel
theorem dX12_init_85 : decode cX12_init 85 = .ok (.aload_n 0, 1) := by decide +kernel
theorem dX12_init_86 : decode cX12_init 86 = .ok (.bipush 24, 2) := by decide +kernel
theorem dX12_init_88 : decode cX12_init 88 = .ok (.newarray .int, 2) := by decide +kernel
theorem dX12_init_90 : decode cX12_init 90 = .ok (.putfield 45, 3) := by decide +kernel
theorem dX12_init_93 : decode cX12_init 93 = .ok (.aload_n 0, 1) := by decide +kernel
theorem dX12_init_94 : decode cX12_init 94 = .ok (.bipush 24, 2) := by decide +kernel
theorem dX12_init_96 : decode cX12_init 96 = .ok (.newarray .int, 2) := by decide +kernel
theorem dX12_init_98 : decode cX12_init 98 = .ok (.putfield 48, 3) := by decide +kernel
theorem dX12_init_101 : decode cX12_init 101 = .ok (.aload_n 0, 1) := by decide +kernel
theorem dX12_init_102 : decode cX12_init 102 = .ok (.bipush 24, 2) := by decide +kernel
theorem dX12_init_104 : decode cX12_init 104 = .ok (.newarray .int, 2) := by decide +kernel
theorem dX12_init_106 : decode cX12_init 106 = .ok (.putfield 51, 3) := by decide +kernel
theorem dX12_init_109 : decode cX12_init 109 = .ok (.aload_n 0, 1) := by decide +kernel
theorem dX12_init_110 : decode cX12_init 110 = .ok (.bipush 8, 2) := by decide +kernel
theorem dX12_init_112 : decode cX12_init 112 = .ok (.newarray .int, 2) := by decide +kernel
theorem dX12_init_114 : decode cX12_init 114 = .ok (.putfield 54, 3) := by decide +kernel
theorem dX12_init_117 : decode cX12_init 117 = .ok (.aload_n 0, 1) := by decide +kernel
theorem dX12_init_118 : decode cX12_init 118 = .ok (.bipush 8, 2) := by decide +kernel
theorem dX12_init_120 : decode cX12_init 120 = .ok (.newarray .int, 2) := by decide +kernel
theorem dX12_init_122 : decode cX12_init 122 = .ok (.putfield 57, 3) := by decide +kernel
theorem dX12_init_125 : decode cX12_init 125 = .ok (.aload_n 0, 1) := by decide +kernel
theorem dX12_init_126 : decode cX12_init 126 = .ok (.bipush 8, 2) := by decide +kernel
theorem dX12_init_128 : decode cX12_init 128 = .ok (.newarray .int, 2) := by decide +kernel
theorem dX12_init_130 : decode cX12_init 130 = .ok (.putfield 60, 3) := by decide +kernel
theorem dX12_init_133 : decode cX12_init 133 = .ok (.aload_n 0, 1) := by decide +kernel
theorem dX12_init_134 : decode cX12_init 134 = .ok (.iconst 4, 1) := by decide +kernel
theorem dX12_init_135 : decode cX12_init 135 = .ok (.newarray .long, 2) := by decide +kernel
theorem dX12_init_137 : decode cX12_init 137 = .ok (.putfield 63, 3) := by decide +kernel
theorem dX12_init_140 : decode cX12_init 140 = .ok (.aload_n 0, 1) := by decide +kernel
theorem dX12_init_141 : decode cX12_init 141 = .ok (.bipush 24, 2) := by decide +kernel
theorem dX12_init_143 : decode cX12_init 143 = .ok (.newarray .long, 2) := by decide +kernel
theorem dX12_init_145 : decode cX12_init 145 = .ok (.putfield 67, 3) := by decide +kernel
theorem dX12_init_148 : decode cX12_init 148 = .ok (.aload_n 0, 1) := by decide +kernel
theorem dX12_init_149 : decode cX12_init 149 = .ok (.bipush 24, 2) := by decide +kernel
theorem dX12_init_151 : decode cX12_init 151 = .ok (.newarray .long, 2) := by decide +kernel
theorem dX12_init_153 : decode cX12_init 153 = .ok (.putfield 70, 3) := by decide +kernel
theorem dX12_init_156 : decode cX12_init 156 = .ok (.aload_n 0, 1) := by decide +kernel
theorem dX12_init_157 : decode cX12_init 157 = .ok (.bipush 24, 2) := by decide +kernel
theorem dX12_init_159 : decode cX12_init 159 = .ok (.newarray .long, 2) := by decide +kernel
theorem dX12_init_161 : decode cX12_init 161 = .ok (.putfield 73, 3) := by decide +kernel
theorem dX12_init_164 : decode cX12_init 164 = .ok (.aload_n 0, 1) := by decide +kernel
theorem dX12_init_165 : decode cX12_init 165 = .ok (.sipush 480, 3) := by decide +kernel
theorem dX12_init_168 : decode cX12_init 168 = .ok (.newarray .int, 2) := by decide +kernel
theorem dX12_init_170 : decode cX12_init 170 = .ok (.putfield 76, 3) := by decide +kernel
theorem dX12_init_173 : decode cX12_init 173 = .ok (.aload_n 0, 1) := by decide +kernel
theorem dX12_init_174 : decode cX12_init 174 = .ok (.bipush 12, 2) := by decide +kernel
theorem dX12_init_176 : decode cX12_init 176 = .ok (.newarray .int, 2) := by decide +kernel
theorem dX12_init_178 : decode cX12_init 178 = .ok (.putfield 79, 3) := by decide +kernel
theorem dX12_init_181 : decode cX12_init 181 = .ok (.aload_n 0, 1) := by decide +kernel
theorem dX12_init_182 : decode cX12_init 182 = .ok (.bipush 12, 2) := by decide +kernel
theorem dX12_init_184 : decode cX12_init 184 = .ok (.newarray .int, 2) := by decide +kernel
theorem dX12_init_186 : decode cX12_init 186 = .ok (.putfield 82, 3) := by decide +kernel
theorem dX12_init_189 : decode cX12_init 189 = .ok (.aload_n 0, 1) := by decide +kernel
theorem dX12_init_190 : decode cX12_init 190 = .ok (.bipush 12, 2) := by decide +kernel
theorem dX12_init_192 : decode cX12_init 192 = .ok (.newarray .int, 2) := by decide +kernel
theorem dX12_init_194 : decode cX12_init 194 = .ok (.putfield 85, 3) := by decide +kernel
theorem dX12_init_197 : decode cX12_init 197 = .ok (.aload_n 0, 1) := by decide +kernel
theorem dX12_init_198 : decode cX12_init 198 = .ok (.bipush 12, 2) := by decide +kernel
theorem dX12_init_200 : decode cX12_init 200 = .ok (.newarray .int, 2) := by decide +kernel
theorem dX12_init_202 : decode cX12_init 202 = .ok (.putfield 88, 3) := by decide +kernel
theorem dX12_init_205 : decode cX12_init 205 = .ok (.aload_n 0, 1) := by decide +kernel
theorem dX12_init_206 : decode cX12_init 206 = .ok (.bipush 12, 2) := by decide +kernel
theorem dX12_init_208 : decode cX12_init 208 = .ok (.newarray .int, 2) := by decide +kernel
theorem dX12_init_210 : decode cX12_init 210 = .ok (.putfield 91, 3) := by decide +kernel
theorem dX12_init_213 : decode cX12_init 213 = .ok (.aload_n 0, 1) := by decide +kernel
theorem dX12_init_214 : decode cX12_init 214 = .ok (.bipush 12, 2) := by decide +kernel
theorem dX12_init_216 : decode cX12_init 216 = .ok (.newarray .int, 2) := by decide +kernel
theorem dX12_init_218 : decode cX12_init 218 = .ok (.putfield 94, 3) := by decide +kernel
theorem dX12_init_221 : decode cX12_init 221 = .ok (.aload_n 0, 1) := by decide +kernel
theorem dX12_init_222 : decode cX12_init 222 = .ok (.bipush 40, 2) := by decide +kernel
theorem dX12_init_224 : decode cX12_init 224 = .ok (.newarray .boolean, 2) := by decide +kernel
theorem dX12_init_226 : decode cX12_init 226 = .ok (.putfield 97, 3) := by decide +kernel
theorem dX12_init_229 : decode cX12_init 229 = .ok (.aload_n 0, 1) := by decide +kernel
theorem dX12_init_230 : decode cX12_init 230 = .ok (.bipush 12, 2) := by decide +kernel
theorem dX12_init_232 : decode cX12_init 232 = .ok (.newarray .long, 2) := by decide +kernel
theorem dX12_init_234 : decode cX12_init 234 = .ok (.putfield 101, 3) := by decide +kernel
theorem dX12_init_237 : decode cX12_init 237 = .ok (.aload_n 0, 1) := by decide +kernel
theorem dX12_init_238 : decode cX12_init 238 = .ok (.bipush 12, 2) := by decide +kernel
theorem dX12_init_240 : decode cX12_init 240 = .ok (.newarray .long, 2) := by decide +kernel
theorem dX12_init_242 : decode cX12_init 242 = .ok (.putfield 104, 3) := by decide +kernel
theorem dX12_init_245 : decode cX12_init 245 = .ok (.aload_n 0, 1) := by decide +kernel
theorem dX12_init_246 : decode cX12_init 246 = .ok (.bipush 12, 2) := by decide +kernel
theorem dX12_init_248 : decode cX12_init 248 = .ok (.newarray .long, 2) := by decide +kernel
theorem dX12_init_250 : decode cX12_init 250 = .ok (.putfield 107, 3) := by decide +kernel
theorem dX12_init_253 : decode cX12_init 253 = .ok (.aload_n 0, 1) := by decide +kernel
theorem dX12_init_254 : decode cX12_init 254 = .ok (.bipush 12, 2) := by decide +kernel
theorem dX12_init_256 : decode cX12_init 256 = .ok (.newarray .long, 2) := by decide +kernel
theorem dX12_init_258 : decode cX12_init 258 = .ok (.putfield 110, 3) := by decide +kernel
theorem dX12_init_261 : decode cX12_init 261 = .ok (.aload_n 0, 1) := by decide +kernel
theorem dX12_init_262 : decode cX12_init 262 = .ok (.sipush 4096, 3) := by decide +kernel
theorem dX12_init_265 : decode cX12_init 265 = .ok (.newarray .long, 2) := by decide +kernel
theorem dX12_init_267 : decode cX12_init 267 = .ok (.putfield 113, 3) := by decide +kernel
theorem dX12_init_270 : decode cX12_init 270 = .ok (.aload_n 0, 1) := by decide +kernel
theorem dX12_init_271 : decode cX12_init 271 = .ok (.iconst 4, 1) := by decide +kernel
theorem dX12_init_272 : decode cX12_init 272 = .ok (.newarray .int, 2) := by decide +kernel
theorem dX12_init_274 : decode cX12_init 274 = .ok (.putfield 116, 3) := by decide +kernel
theorem dX12_init_277 : decode cX12_init 277 = .ok (.aload_n 0, 1) := by decide +kernel
theorem dX12_init_278 : decode cX12_init 278 = .ok (.iconst 4, 1) := by decide +kernel
theorem dX12_init_279 : decode cX12_init 279 = .ok (.newarray .int, 2) := by decide +kernel
theorem dX12_init_281 : decode cX12_init 281 = .ok (.putfield 119, 3) := by decide +kernel
theorem dX12_init_284 : decode cX12_init 284 = .ok (.aload_n 0, 1) := by decide +kernel
theorem dX12_init_285 : decode cX12_init 285 = .ok (.iconst 4, 1) := by decide +kernel
theorem dX12_init_286 : decode cX12_init 286 = .ok (.newarray .int, 2) := by decide +kernel
theorem dX12_init_288 : decode cX12_init 288 = .ok (.putfield 122, 3) := by decide +kernel
theorem dX12_init_291 : decode cX12_init 291 = .ok (.aload_n 0, 1) := by decide +kernel
theorem dX12_init_292 : decode cX12_init 292 = .ok (.sipush 16441, 3) := by decide +kernel
theorem dX12_init_295 : decode cX12_init 295 = .ok (.newarray .int, 2) := by decide +kernel
theorem dX12_init_297 : decode cX12_init 297 = .ok (.putfield 125, 3) := by decide +kernel
theorem dX12_init_300 : decode cX12_init 300 = .ok (.aload_n 0, 1) := by decide +kernel
theorem dX12_init_301 : decode cX12_init 301 = .ok (.sipush 16441, 3) := by decide +kernel
theorem dX12_init_304 : decode cX12_init 304 = .ok (.newarray .int, 2) := by decide +kernel
theorem dX12_init_306 : decode cX12_init 306 = .ok (.putfield 128, 3) := by decide +kernel
theorem dX12_init_309 : decode cX12_init 309 = .ok (.aload_n 0, 1) := by decide +kernel
theorem dX12_init_310 : decode cX12_init 310 = .ok (.sipush 4096, 3) := by decide +kernel
theorem dX12_init_313 : decode cX12_init 313 = .ok (.newarray .int, 2) := by decide +kernel
theorem dX12_init_315 : decode cX12_init 315 = .ok (.putfield 131, 3) := by decide +kernel
theorem dX12_init_318 : decode cX12_init 318 = .ok (.aload_n 0, 1) := by decide +kernel
theorem dX12_init_319 : decode cX12_init 319 = .ok (.sipush 4096, 3) := by decide +kernel
theorem dX12_init_322 : decode cX12_init 322 = .ok (.newarray .int, 2) := by decide +kernel
theorem dX12_init_324 : decode cX12_init 324 = .ok (.putfield 134, 3) := by decide +kernel
theorem dX12_init_327 : decode cX12_init 327 = .ok (.return_, 1) := by decide +kernel
def ow_c_M_init : List Cond := [.methodLink RX12 1 objectInit, .instanceMethod objectInit, .code objectInit ⟨#[0xb1]⟩ 1 none, .arrayClass .byte, .fieldLink RX12 7 "NearEnoughModel" "tape" "[B", .fieldLink RX12 13 "NearEnoughModel" "text" "[B", .fieldLink RX12 16 "NearEnoughModel" "faultPlace" "I", .arrayClass .int, .fieldLink RX12 20 "NearEnoughModel" "rowMany" "[I", .fieldLink RX12 24 "NearEnoughModel" "stepMany" "[I", .fieldLink RX12 27 "NearEnoughModel" "endMany" "[I", .fieldLink RX12 30 "NearEnoughModel" "rHas" "[I", .fieldLink RX12 33 "NearEnoughModel" "rLeast" "[I", .fieldLink RX12 36 "NearEnoughModel" "rMost" "[I", .fieldLink RX12 39 "NearEnoughModel" "sKind" "[I", .fieldLink RX12 42 "NearEnoughModel" "sA" "[I", .fieldLink RX12 45 "NearEnoughModel" "sB" "[I", .fieldLink RX12 48 "NearEnoughModel" "sC" "[I", .fieldLink RX12 51 "NearEnoughModel" "sD" "[I", .fieldLink RX12 54 "NearEnoughModel" "eStep" "[I", .fieldLink RX12 57 "NearEnoughModel" "eOff" "[I", .fieldLink RX12 60 "NearEnoughModel" "eHow" "[I", .arrayClass .long, .fieldLink RX12 63 "NearEnoughModel" "rName" "[J", .fieldLink RX12 67 "NearEnoughModel" "sName" "[J", .fieldLink RX12 70 "NearEnoughModel" "sLeast" "[J", .fieldLink RX12 73 "NearEnoughModel" "sMost" "[J", .fieldLink RX12 76 "NearEnoughModel" "numbers" "[I", .fieldLink RX12 79 "NearEnoughModel" "corner" "[I", .fieldLink RX12 82 "NearEnoughModel" "cStep" "[I", .fieldLink RX12 85 "NearEnoughModel" "cKind" "[I", .fieldLink RX12 88 "NearEnoughModel" "cN" "[I", .fieldLink RX12 91 "NearEnoughModel" "cSaves" "[I", .fieldLink RX12 94 "NearEnoughModel" "on" "[I", .arrayClass .boolean, .fieldLink RX12 97 "NearEnoughModel" "isKeptBack" "[Z", .fieldLink RX12 101 "NearEnoughModel" "came" "[J", .fieldLink RX12 104 "NearEnoughModel" "plain" "[J", .fieldLink RX12 107 "NearEnoughModel" "low" "[J", .fieldLink RX12 110 "NearEnoughModel" "high0" "[J", .fieldLink RX12 113 "NearEnoughModel" "offs" "[J", .fieldLink RX12 116 "NearEnoughModel" "gEnd" "[I", .fieldLink RX12 119 "NearEnoughModel" "gStep" "[I", .fieldLink RX12 122 "NearEnoughModel" "gWithin" "[I", .fieldLink RX12 125 "NearEnoughModel" "mostSaved" "[I", .fieldLink RX12 128 "NearEnoughModel" "picked" "[I", .fieldLink RX12 131 "NearEnoughModel" "fars" "[I", .fieldLink RX12 134 "NearEnoughModel" "savedAll" "[I"]
def vs_c_M_init : List Cond := .code yX12_init cX12_init 1 none :: (ow_c_M_init ++ (wsX120))
theorem vg_c_M_init : vs_c_M_init.all goodWord = true := by decide +kernel
set_option maxHeartbeats 4000000 in
set_option maxRecDepth 100000 in
/-- new NearEnoughModel() -/
theorem c_M_init (l : Launch) (dC : Nat → ClassId) (dI : Nat → Nat → Nat) (h0 : Nat) (sz : Nat) : Met l yX12_init vs_c_M_init ({ frames := 1, cells := 40, slots := 48080, locals := 24 }) (va_Pc [.ref h0] (wSt dC dI [(h0, .inr (12, [.null, .null, .int 0, .int 0, .int 0, .int 0, .int 0, .int 0, .int 0, .int 0, .long 0, .null, .null, .null, .null, .null, .null, .null, .null, .null, .null, .null, .null, .null, .null, .null, .null, .null, .null, .int 0, .int 0, .null, .null, .null, .null, .null, .null, .null, .null, .int 0, .int 0, .null, .null, .null, .null, .long 0, .long 0, .null, .long 0, .int 0, .null, .null, .null, .int 0, .null, .null, .null, .null, .int 0]))] [] sz)) (va_Qv (fun (_ : Nat × Nat × Nat × Nat × Nat × Nat × Nat × Nat × Nat × Nat × Nat × Nat × Nat × Nat × Nat × Nat × Nat × Nat × Nat × Nat × Nat × Nat × Nat × Nat × Nat × Nat × Nat × Nat × Nat × Nat × Nat × Nat × Nat × Nat × Nat × Nat × Nat × Nat × Nat × Nat × ClassId × ClassId × ClassId × ClassId × ClassId × ClassId) => True) (fun (u : Nat × Nat × Nat × Nat × Nat × Nat × Nat × Nat × Nat × Nat × Nat × Nat × Nat × Nat × Nat × Nat × Nat × Nat × Nat × Nat × Nat × Nat × Nat × Nat × Nat × Nat × Nat × Nat × Nat × Nat × Nat × Nat × Nat × Nat × Nat × Nat × Nat × Nat × Nat × Nat × ClassId × ClassId × ClassId × ClassId × ClassId × ClassId) => wEn dC dI (va_A [(h0, .inr (12, [.null, .null, .int 0, .int 0, .int 0, .int 0, .int 0, .int 0, .int 0, .int 0, .long 0, .null, .null, .null, .null, .null, .null, .null, .null, .null, .null, .null, .null, .null, .null, .null, .null, .null, .null, .int 0, .int 0, .null, .null, .null, .null, .null, .null, .null, .null, .int 0, .int 0, .null, .null, .null, .null, .long 0, .long 0, .null, .long 0, .int 0, .null, .null, .null, .int 0, .null, .null, .null, .null, .int 0]))] sz) [(h0, .inr (12, [.ref u.1, .ref u.2.1, .int 0, .int 0, .int 0, .int (-1), .int 0, .int 0, .int 0, .int 0, .long 0, .ref u.2.2.1, .ref u.2.2.2.1, .ref u.2.2.2.2.1, .ref u.2.2.2.2.2.1, .ref u.2.2.2.2.2.2.1, .ref u.2.2.2.2.2.2.2.1, .ref u.2.2.2.2.2.2.2.2.1, .ref u.2.2.2.2.2.2.2.2.2.1, .ref u.2.2.2.2.2.2.2.2.2.2.1, .ref u.2.2.2.2.2.2.2.2.2.2.2.1, .ref u.2.2.2.2.2.2.2.2.2.2.2.2.1, .ref u.2.2.2.2.2.2.2.2.2.2.2.2.2.1, .ref u.2.2.2.2.2.2.2.2.2.2.2.2.2.2.1, .ref u.2.2.2.2.2.2.2.2.2.2.2.2.2.2.2.1, .ref u.2.2.2.2.2.2.2.2.2.2.2.2.2.2.2.2.1, .ref u.2.2.2.2.2.2.2.2.2.2.2.2.2.2.2.2.2.1, .ref u.2.2.2.2.2.2.2.2.2.2.2.2.2.2.2.2.2.2.1, .ref u.2.2.2.2.2.2.2.2.2.2.2.2.2.2.2.2.2.2.2.1, .int 0, .int 0, .ref u.2.2.2.2.2.2.2.2.2.2.2.2.2.2.2.2.2.2.2.2.1, .ref u.2.2.2.2.2.2.2.2.2.2.2.2.2.2.2.2.2.2.2.2.2.1, .ref u.2.2.2.2.2.2.2.2.2.2.2.2.2.2.2.2.2.2.2.2.2.2.1, .ref u.2.2.2.2.2.2.2.2.2.2.2.2.2.2.2.2.2.2.2.2.2.2.2.1, .ref u.2.2.2.2.2.2.2.2.2.2.2.2.2.2.2.2.2.2.2.2.2.2.2.2.1, .ref u.2.2.2.2.2.2.2.2.2.2.2.2.2.2.2.2.2.2.2.2.2.2.2.2.2.1, .ref u.2.2.2.2.2.2.2.2.2.2.2.2.2.2.2.2.2.2.2.2.2.2.2.2.2.2.1, .ref u.2.2.2.2.2.2.2.2.2.2.2.2.2.2.2.2.2.2.2.2.2.2.2.2.2.2.2.1, .int 0, .int 0, .ref u.2.2.2.2.2.2.2.2.2.2.2.2.2.2.2.2.2.2.2.2.2.2.2.2.2.2.2.2.1, .ref u.2.2.2.2.2.2.2.2.2.2.2.2.2.2.2.2.2.2.2.2.2.2.2.2.2.2.2.2.2.1, .ref u.2.2.2.2.2.2.2.2.2.2.2.2.2.2.2.2.2.2.2.2.2.2.2.2.2.2.2.2.2.2.1, .ref u.2.2.2.2.2.2.2.2.2.2.2.2.2.2.2.2.2.2.2.2.2.2.2.2.2.2.2.2.2.2.2.1, .long 0, .long 0, .ref u.2.2.2.2.2.2.2.2.2.2.2.2.2.2.2.2.2.2.2.2.2.2.2.2.2.2.2.2.2.2.2.2.1, .long 0, .int 0, .ref u.2.2.2.2.2.2.2.2.2.2.2.2.2.2.2.2.2.2.2.2.2.2.2.2.2.2.2.2.2.2.2.2.2.1, .ref u.2.2.2.2.2.2.2.2.2.2.2.2.2.2.2.2.2.2.2.2.2.2.2.2.2.2.2.2.2.2.2.2.2.2.1, .ref u.2.2.2.2.2.2.2.2.2.2.2.2.2.2.2.2.2.2.2.2.2.2.2.2.2.2.2.2.2.2.2.2.2.2.2.1, .int 0, .ref u.2.2.2.2.2.2.2.2.2.2.2.2.2.2.2.2.2.2.2.2.2.2.2.2.2.2.2.2.2.2.2.2.2.2.2.2.1, .ref u.2.2.2.2.2.2.2.2.2.2.2.2.2.2.2.2.2.2.2.2.2.2.2.2.2.2.2.2.2.2.2.2.2.2.2.2.2.1, .ref u.2.2.2.2.2.2.2.2.2.2.2.2.2.2.2.2.2.2.2.2.2.2.2.2.2.2.2.2.2.2.2.2.2.2.2.2.2.2.1, .ref u.2.2.2.2.2.2.2.2.2.2.2.2.2.2.2.2.2.2.2.2.2.2.2.2.2.2.2.2.2.2.2.2.2.2.2.2.2.2.2.1, .int 0])), (u.1, .inl (u.2.2.2.2.2.2.2.2.2.2.2.2.2.2.2.2.2.2.2.2.2.2.2.2.2.2.2.2.2.2.2.2.2.2.2.2.2.2.2.2.1, 1020, .inl (fun _ => 0))), (u.2.2.1, .inl (u.2.2.2.2.2.2.2.2.2.2.2.2.2.2.2.2.2.2.2.2.2.2.2.2.2.2.2.2.2.2.2.2.2.2.2.2.2.2.2.2.2.1, 2, .inl (fun _ => 0))), (u.2.2.2.1, .inl (u.2.2.2.2.2.2.2.2.2.2.2.2.2.2.2.2.2.2.2.2.2.2.2.2.2.2.2.2.2.2.2.2.2.2.2.2.2.2.2.2.2.2.1, 2, .inl (fun _ => 0))), (u.2.2.2.2.1, .inl (u.2.2.2.2.2.2.2.2.2.2.2.2.2.2.2.2.2.2.2.2.2.2.2.2.2.2.2.2.2.2.2.2.2.2.2.2.2.2.2.2.2.2.2.1, 2, .inl (fun _ => 0))), (u.2.2.2.2.2.2.2.2.2.2.2.2.2.2.2.2.2.2.2.2.2.2.2.2.2.2.1, .inl (u.2.2.2.2.2.2.2.2.2.2.2.2.2.2.2.2.2.2.2.2.2.2.2.2.2.2.2.2.2.2.2.2.2.2.2.2.2.2.2.2.2.2.2.2.1, 12, .inl (fun _ => 0))), (u.2.2.2.2.2.2.2.2.2.2.2.2.2.2.2.2.2.2.2.2.2.2.2.2.2.2.2.1, .inl (u.2.2.2.2.2.2.2.2.2.2.2.2.2.2.2.2.2.2.2.2.2.2.2.2.2.2.2.2.2.2.2.2.2.2.2.2.2.2.2.2.2.2.2.2.2, 40, .inl (fun _ => 0)))] [(u.2.2.2.2.2.2.2.2.2.2.2.2.2.2.2.2.2.2.2.2.2.2.2.2.2.2.2.2.2.2.2.2.2.2.2.2.2.2.2.2.1, .byte), (u.2.2.2.2.2.2.2.2.2.2.2.2.2.2.2.2.2.2.2.2.2.2.2.2.2.2.2.2.2.2.2.2.2.2.2.2.2.2.2.2.2.1, .int), (u.2.2.2.2.2.2.2.2.2.2.2.2.2.2.2.2.2.2.2.2.2.2.2.2.2.2.2.2.2.2.2.2.2.2.2.2.2.2.2.2.2.2.1, .int), (u.2.2.2.2.2.2.2.2.2.2.2.2.2.2.2.2.2.2.2.2.2.2.2.2.2.2.2.2.2.2.2.2.2.2.2.2.2.2.2.2.2.2.2.1, .int), (u.2.2.2.2.2.2.2.2.2.2.2.2.2.2.2.2.2.2.2.2.2.2.2.2.2.2.2.2.2.2.2.2.2.2.2.2.2.2.2.2.2.2.2.2.1, .int), (u.2.2.2.2.2.2.2.2.2.2.2.2.2.2.2.2.2.2.2.2.2.2.2.2.2.2.2.2.2.2.2.2.2.2.2.2.2.2.2.2.2.2.2.2.2, .boolean)]) (va_A [(h0, .inr (12, [.null, .null, .int 0, .int 0, .int 0, .int 0, .int 0, .int 0, .int 0, .int 0, .long 0, .null, .null, .null, .null, .null, .null, .null, .null, .null, .null, .null, .null, .null, .null, .null, .null, .null, .null, .int 0, .int 0, .null, .null, .null, .null, .null, .null, .null, .null, .int 0, .int 0, .null, .null, .null, .null, .long 0, .long 0, .null, .long 0, .int 0, .null, .null, .null, .int 0, .null, .null, .null, .null, .int 0]))] sz)) 40 48080 (va_A [(h0, .inr (12, [.null, .null, .int 0, .int 0, .int 0, .int 0, .int 0, .int 0, .int 0, .int 0, .long 0, .null, .null, .null, .null, .null, .null, .null, .null, .null, .null, .null, .null, .null, .null, .null, .null, .null, .null, .int 0, .int 0, .null, .null, .null, .null, .null, .null, .null, .null, .int 0, .int 0, .null, .null, .null, .null, .long 0, .long 0, .null, .long 0, .int 0, .null, .null, .null, .int 0, .null, .null, .null, .null, .int 0]))] sz) := by
  refine Met.ofW (cc := cX12_init) (maxL := 1) (ret := none) (by decide) rfl ?_
  intro p e s m args below meth c s₁ B hml hv
  obtain ⟨rfl, hsz, hP, hK, hD0, hE⟩ := hv
  have hx := B.exec
  have hb := B.bytes
  have hr := B.returns
  have hts := atoms_spec (ws := vs_c_M_init) B.pre
  have hown : s.vm.findClass RX12 = some m.cls := findClass_of_methodNamed B.named
  have hlocks := B.notSynchronized
  have hin : meth.name = "<init>" := (name_of_methodNamed B.named B.method).1
  subst hsz
  have hD := hD0.self (sz := s.heap.size)
  generalize hAe : va_A [(h0, .inr (12, [.null, .null, .int 0, .int 0, .int 0, .int 0, .int 0, .int 0, .int 0, .int 0, .long 0, .null, .null, .null, .null, .null, .null, .null, .null, .null, .null, .null, .null, .null, .null, .null, .null, .null, .null, .int 0, .int 0, .null, .null, .null, .null, .null, .null, .null, .null, .int 0, .int 0, .null, .null, .null, .null, .long 0, .long 0, .null, .long 0, .int 0, .null, .null, .null, .int 0, .null, .null, .null, .null, .int 0]))] s.heap.size = A at hD ⊢
  have hA : ∀ q : Nat, s.heap.size ≤ q → A q := fun q h => by rw [← hAe]; exact Or.inr h
  have hl := lv_entry ([.ref h0]) (n := 1) (Nat.le_of_ble_eq_true rfl)
  rw [lg_entry_eq]
  generalize (lg_sl ([.ref h0]) ++ List.replicate (1 - (lg_sl ([.ref h0])).length) Slot.unset).toArray = ls at hl ⊢
  have hl : lv_has ls 1 [(0, .ref h0)] := hl
  refine zH (A := A) (ws := [(h0, .inr (12, [.null, .null, .int 0, .int 0, .int 0, .int 0, .int 0, .int 0, .int 0, .int 0, .long 0, .null, .null, .null, .null, .null, .null, .null, .null, .null, .null, .null, .null, .null, .null, .null, .null, .null, .null, .int 0, .int 0, .null, .null, .null, .null, .null, .null, .null, .null, .int 0, .int 0, .null, .null, .null, .null, .long 0, .long 0, .null, .long 0, .int 0, .null, .null, .null, .int 0, .null, .null, .null, .null, .int 0]))]) (fun H hP hS => ?_) hP
  have ho := fun w (h : w ∈ ow_c_M_init) => hts w (List.mem_cons_of_mem _ (List.mem_append_left _ h))
  have hin12 : ∀ w ∈ u_ws RX12 TX12 59, w ∈ vs_c_M_init := fun w h => (List.mem_cons_of_mem _ (List.mem_append_right _ h))
  refine lv_aload_n hx hb dX12_init_0 rfl (lv_at hl 0 rfl) ?_
  refine W.objInit hx hb hown (ho (.methodLink RX12 1 objectInit) (List.mem_of_getElem? (i := 0) rfl)) (ho (.instanceMethod objectInit) (List.mem_of_getElem? (i := 1) rfl)) (ho (.code objectInit ⟨#[0xb1]⟩ 1 none) (List.mem_of_getElem? (i := 2) rfl)) rfl (by rw [hml]; exact hl.1) rfl dX12_init_1 (Nat.le_of_ble_eq_true rfl) (Nat.le_of_ble_eq_true rfl) ?_
  refine W.eq (g2 := F0 m 4 ls []) rfl ?_
  refine lv_aload_n hx hb dX12_init_4 rfl (lv_at hl 0 rfl) ?_
  refine lv_sipush (v := 1020) hx hb dX12_init_5 (by decide) ?_
  refine va_newa (atype := .byte) (ty := .byte) (a0 := (1020, .inl (fun _ => 0))) (N' := 1020) hx hb (ho (.arrayClass .byte) (List.mem_of_getElem? (i := 3) rfl)) rfl hK hP hD hS hA (fun _ => rfl) (by decide) (by decide) (by decide +kernel) (Nat.le_of_ble_eq_true rfl) (Nat.le_of_ble_eq_true rfl) dX12_init_8 (fun q1 k2 H hK hP hD hS => ?_)
  have hP : va_P (dC, dI) vwCl [(h0, .inr (12, [.null, .null, .int 0, .int 0, .int 0, .int 0, .int 0, .int 0, .int 0, .int 0, .long 0, .null, .null, .null, .null, .null, .null, .null, .null, .null, .null, .null, .null, .null, .null, .null, .null, .null, .null, .int 0, .int 0, .null, .null, .null, .null, .null, .null, .null, .null, .int 0, .int 0, .null, .null, .null, .null, .long 0, .long 0, .null, .long 0, .int 0, .null, .null, .null, .int 0, .null, .null, .null, .null, .int 0])), (q1, .inl (k2, 1020, .inl (fun _ => 0)))] H := hP
  have hD : va_D A [(h0, .inr (12, [.null, .null, .int 0, .int 0, .int 0, .int 0, .int 0, .int 0, .int 0, .int 0, .long 0, .null, .null, .null, .null, .null, .null, .null, .null, .null, .null, .null, .null, .null, .null, .null, .null, .null, .null, .int 0, .int 0, .null, .null, .null, .null, .null, .null, .null, .null, .int 0, .int 0, .null, .null, .null, .null, .long 0, .long 0, .null, .long 0, .int 0, .null, .null, .null, .int 0, .null, .null, .null, .null, .int 0])), (q1, .inl (k2, 1020, .inl (fun _ => 0)))] := hD
  have hK : va_K (dC, dI) vwCl [(k2, .byte)] s := hK
  refine W.widen (k := 1) (n := 1020) (Nat.le_of_ble_eq_true rfl) (Nat.le_of_ble_eq_true rfl) ?_
  refine va_putF (D := (dC, dI)) (ci := 12) (v := .ref q1) (ty := tyX12 0) (C := RX12) (T := TX12) (N := 59) hx hb hts hin12 tyX12 tyX12_ok nmX12 hown hK hP hD hS 0 rfl rfl 0 (by decide) (ho (.fieldLink RX12 7 "NearEnoughModel" "tape" "[B") (List.mem_of_getElem? (i := 4) rfl)) (fun _ h9 => h9) rfl hin rfl (by decide +kernel) rfl rfl (Nat.le_of_ble_eq_true rfl) dX12_init_10 (fun H locs hP hD hS => ?_)
  have hP : va_P (dC, dI) vwCl [(h0, .inr (12, [.ref q1, .null, .int 0, .int 0, .int 0, .int 0, .int 0, .int 0, .int 0, .int 0, .long 0, .null, .null, .null, .null, .null, .null, .null, .null, .null, .null, .null, .null, .null, .null, .null, .null, .null, .null, .int 0, .int 0, .null, .null, .null, .null, .null, .null, .null, .null, .int 0, .int 0, .null, .null, .null, .null, .long 0, .long 0, .null, .long 0, .int 0, .null, .null, .null, .int 0, .null, .null, .null, .null, .int 0])), (q1, .inl (k2, 1020, .inl (fun _ => 0)))] H := hP
  have hD : va_D A [(h0, .inr (12, [.ref q1, .null, .int 0, .int 0, .int 0, .int 0, .int 0, .int 0, .int 0, .int 0, .long 0, .null, .null, .null, .null, .null, .null, .null, .null, .null, .null, .null, .null, .null, .null, .null, .null, .null, .null, .int 0, .int 0, .null, .null, .null, .null, .null, .null, .null, .null, .int 0, .int 0, .null, .null, .null, .null, .long 0, .long 0, .null, .long 0, .int 0, .null, .null, .null, .int 0, .null, .null, .null, .null, .int 0])), (q1, .inl (k2, 1020, .inl (fun _ => 0)))] := hD
  refine lv_aload_n hx hb dX12_init_13 rfl (lv_at hl 0 rfl) ?_
  refine lv_sipush (v := 1000) hx hb dX12_init_14 (by decide) ?_
  refine va_newa (atype := .byte) (ty := .byte) (a0 := (1000, .inl (fun _ => 0))) (N' := 1000) hx hb (ho (.arrayClass .byte) (List.mem_of_getElem? (i := 3) rfl)) rfl hK hP hD hS hA (fun _ => rfl) (by decide) (by decide) (by decide +kernel) (Nat.le_of_ble_eq_true rfl) (Nat.le_of_ble_eq_true rfl) dX12_init_17 (fun q3 k4 H hK hP hD hS => ?_)
  have hP : va_P (dC, dI) vwCl [(h0, .inr (12, [.ref q1, .null, .int 0, .int 0, .int 0, .int 0, .int 0, .int 0, .int 0, .int 0, .long 0, .null, .null, .null, .null, .null, .null, .null, .null, .null, .null, .null, .null, .null, .null, .null, .null, .null, .null, .int 0, .int 0, .null, .null, .null, .null, .null, .null, .null, .null, .int 0, .int 0, .null, .null, .null, .null, .long 0, .long 0, .null, .long 0, .int 0, .null, .null, .null, .int 0, .null, .null, .null, .null, .int 0])), (q1, .inl (k2, 1020, .inl (fun _ => 0))), (q3, .inl (k4, 1000, .inl (fun _ => 0)))] H := hP
  have hD : va_D A [(h0, .inr (12, [.ref q1, .null, .int 0, .int 0, .int 0, .int 0, .int 0, .int 0, .int 0, .int 0, .long 0, .null, .null, .null, .null, .null, .null, .null, .null, .null, .null, .null, .null, .null, .null, .null, .null, .null, .null, .int 0, .int 0, .null, .null, .null, .null, .null, .null, .null, .null, .int 0, .int 0, .null, .null, .null, .null, .long 0, .long 0, .null, .long 0, .int 0, .null, .null, .null, .int 0, .null, .null, .null, .null, .int 0])), (q1, .inl (k2, 1020, .inl (fun _ => 0))), (q3, .inl (k4, 1000, .inl (fun _ => 0)))] := hD
  have hK : va_K (dC, dI) vwCl [(k2, .byte), (k4, .byte)] s := hK
  refine W.widen (k := 2) (n := 2020) (Nat.le_of_ble_eq_true rfl) (Nat.le_of_ble_eq_true rfl) ?_
  have hP := hP.sub (ws' := [(h0, .inr (12, [.ref q1, .null, .int 0, .int 0, .int 0, .int 0, .int 0, .int 0, .int 0, .int 0, .long 0, .null, .null, .null, .null, .null, .null, .null, .null, .null, .null, .null, .null, .null, .null, .null, .null, .null, .null, .int 0, .int 0, .null, .null, .null, .null, .null, .null, .null, .null, .int 0, .int 0, .null, .null, .null, .null, .long 0, .long 0, .null, .long 0, .int 0, .null, .null, .null, .int 0, .null, .null, .null, .null, .int 0])), (q1, .inl (k2, 1020, .inl (fun _ => 0)))]) [0, 1] rfl
  have hD := hD.sub (ws' := [(h0, .inr (12, [.ref q1, .null, .int 0, .int 0, .int 0, .int 0, .int 0, .int 0, .int 0, .int 0, .long 0, .null, .null, .null, .null, .null, .null, .null, .null, .null, .null, .null, .null, .null, .null, .null, .null, .null, .null, .int 0, .int 0, .null, .null, .null, .null, .null, .null, .null, .null, .int 0, .int 0, .null, .null, .null, .null, .long 0, .long 0, .null, .long 0, .int 0, .null, .null, .null, .int 0, .null, .null, .null, .null, .int 0])), (q1, .inl (k2, 1020, .inl (fun _ => 0)))]) [0, 1] (by decide) rfl
  have hK := hK.sub (tys' := [(k2, .byte)]) [0] rfl
  refine va_putF (D := (dC, dI)) (ci := 12) (v := .ref q3) (ty := tyX12 1) (C := RX12) (T := TX12) (N := 59) hx hb hts hin12 tyX12 tyX12_ok nmX12 hown hK hP hD hS 0 rfl rfl 1 (by decide) (ho (.fieldLink RX12 13 "NearEnoughModel" "text" "[B") (List.mem_of_getElem? (i := 5) rfl)) (fun _ h9 => h9) rfl hin rfl (by decide +kernel) rfl rfl (Nat.le_of_ble_eq_true rfl) dX12_init_19 (fun H locs hP hD hS => ?_)
  have hP : va_P (dC, dI) vwCl [(h0, .inr (12, [.ref q1, .ref q3, .int 0, .int 0, .int 0, .int 0, .int 0, .int 0, .int 0, .int 0, .long 0, .null, .null, .null, .null, .null, .null, .null, .null, .null, .null, .null, .null, .null, .null, .null, .null, .null, .null, .int 0, .int 0, .null, .null, .null, .null, .null, .null, .null, .null, .int 0, .int 0, .null, .null, .null, .null, .long 0, .long 0, .null, .long 0, .int 0, .null, .null, .null, .int 0, .null, .null, .null, .null, .int 0])), (q1, .inl (k2, 1020, .inl (fun _ => 0)))] H := hP
  have hD : va_D A [(h0, .inr (12, [.ref q1, .ref q3, .int 0, .int 0, .int 0, .int 0, .int 0, .int 0, .int 0, .int 0, .long 0, .null, .null, .null, .null, .null, .null, .null, .null, .null, .null, .null, .null, .null, .null, .null, .null, .null, .null, .int 0, .int 0, .null, .null, .null, .null, .null, .null, .null, .null, .int 0, .int 0, .null, .null, .null, .null, .long 0, .long 0, .null, .long 0, .int 0, .null, .null, .null, .int 0, .null, .null, .null, .null, .int 0])), (q1, .inl (k2, 1020, .inl (fun _ => 0)))] := hD
  refine lv_aload_n hx hb dX12_init_22 rfl (lv_at hl 0 rfl) ?_
  refine lv_iconst (v := (-1)) hx hb dX12_init_23 (by decide) ?_
  refine va_put (D := (dC, dI)) (ci := 12) (v := .int (-1)) (ty := tyX12 5) (C := RX12) (T := TX12) (N := 59) hx hb hts hin12 tyX12 tyX12_ok nmX12 hown hK hP hD hS 0 rfl rfl 5 (by decide) (ho (.fieldLink RX12 16 "NearEnoughModel" "faultPlace" "I") (List.mem_of_getElem? (i := 6) rfl)) (fun _ h9 => h9) rfl (by decide +kernel) rfl rfl (Nat.le_of_ble_eq_true rfl) dX12_init_24 (fun H locs hP hD hS => ?_)
  have hP : va_P (dC, dI) vwCl [(h0, .inr (12, [.ref q1, .ref q3, .int 0, .int 0, .int 0, .int (-1), .int 0, .int 0, .int 0, .int 0, .long 0, .null, .null, .null, .null, .null, .null, .null, .null, .null, .null, .null, .null, .null, .null, .null, .null, .null, .null, .int 0, .int 0, .null, .null, .null, .null, .null, .null, .null, .null, .int 0, .int 0, .null, .null, .null, .null, .long 0, .long 0, .null, .long 0, .int 0, .null, .null, .null, .int 0, .null, .null, .null, .null, .int 0])), (q1, .inl (k2, 1020, .inl (fun _ => 0)))] H := hP
  have hD : va_D A [(h0, .inr (12, [.ref q1, .ref q3, .int 0, .int 0, .int 0, .int (-1), .int 0, .int 0, .int 0, .int 0, .long 0, .null, .null, .null, .null, .null, .null, .null, .null, .null, .null, .null, .null, .null, .null, .null, .null, .null, .null, .int 0, .int 0, .null, .null, .null, .null, .null, .null, .null, .null, .int 0, .int 0, .null, .null, .null, .null, .long 0, .long 0, .null, .long 0, .int 0, .null, .null, .null, .int 0, .null, .null, .null, .null, .int 0])), (q1, .inl (k2, 1020, .inl (fun _ => 0)))] := hD
  refine lv_aload_n hx hb dX12_init_27 rfl (lv_at hl 0 rfl) ?_
  refine lv_iconst (v := 2) hx hb dX12_init_28 (by decide) ?_
  refine va_newa (atype := .int) (ty := .int) (a0 := (2, .inl (fun _ => 0))) (N' := 2) hx hb (ho (.arrayClass .int) (List.mem_of_getElem? (i := 7) rfl)) rfl hK hP hD hS hA (fun _ => rfl) (by decide) (by decide) (by decide +kernel) (Nat.le_of_ble_eq_true rfl) (Nat.le_of_ble_eq_true rfl) dX12_init_29 (fun q5 k6 H hK hP hD hS => ?_)
  have hP : va_P (dC, dI) vwCl [(h0, .inr (12, [.ref q1, .ref q3, .int 0, .int 0, .int 0, .int (-1), .int 0, .int 0, .int 0, .int 0, .long 0, .null, .null, .null, .null, .null, .null, .null, .null, .null, .null, .null, .null, .null, .null, .null, .null, .null, .null, .int 0, .int 0, .null, .null, .null, .null, .null, .null, .null, .null, .int 0, .int 0, .null, .null, .null, .null, .long 0, .long 0, .null, .long 0, .int 0, .null, .null, .null, .int 0, .null, .null, .null, .null, .int 0])), (q1, .inl (k2, 1020, .inl (fun _ => 0))), (q5, .inl (k6, 2, .inl (fun _ => 0)))] H := hP
  have hD : va_D A [(h0, .inr (12, [.ref q1, .ref q3, .int 0, .int 0, .int 0, .int (-1), .int 0, .int 0, .int 0, .int 0, .long 0, .null, .null, .null, .null, .null, .null, .null, .null, .null, .null, .null, .null, .null, .null, .null, .null, .null, .null, .int 0, .int 0, .null, .null, .null, .null, .null, .null, .null, .null, .int 0, .int 0, .null, .null, .null, .null, .long 0, .long 0, .null, .long 0, .int 0, .null, .null, .null, .int 0, .null, .null, .null, .null, .int 0])), (q1, .inl (k2, 1020, .inl (fun _ => 0))), (q5, .inl (k6, 2, .inl (fun _ => 0)))] := hD
  have hK : va_K (dC, dI) vwCl [(k2, .byte), (k6, .int)] s := hK
  refine W.widen (k := 3) (n := 2022) (Nat.le_of_ble_eq_true rfl) (Nat.le_of_ble_eq_true rfl) ?_
  refine va_putF (D := (dC, dI)) (ci := 12) (v := .ref q5) (ty := tyX12 11) (C := RX12) (T := TX12) (N := 59) hx hb hts hin12 tyX12 tyX12_ok nmX12 hown hK hP hD hS 0 rfl rfl 11 (by decide) (ho (.fieldLink RX12 20 "NearEnoughModel" "rowMany" "[I") (List.mem_of_getElem? (i := 8) rfl)) (fun _ h9 => h9) rfl hin rfl (by decide +kernel) rfl rfl (Nat.le_of_ble_eq_true rfl) dX12_init_31 (fun H locs hP hD hS => ?_)
  have hP : va_P (dC, dI) vwCl [(h0, .inr (12, [.ref q1, .ref q3, .int 0, .int 0, .int 0, .int (-1), .int 0, .int 0, .int 0, .int 0, .long 0, .ref q5, .null, .null, .null, .null, .null, .null, .null, .null, .null, .null, .null, .null, .null, .null, .null, .null, .null, .int 0, .int 0, .null, .null, .null, .null, .null, .null, .null, .null, .int 0, .int 0, .null, .null, .null, .null, .long 0, .long 0, .null, .long 0, .int 0, .null, .null, .null, .int 0, .null, .null, .null, .null, .int 0])), (q1, .inl (k2, 1020, .inl (fun _ => 0))), (q5, .inl (k6, 2, .inl (fun _ => 0)))] H := hP
  have hD : va_D A [(h0, .inr (12, [.ref q1, .ref q3, .int 0, .int 0, .int 0, .int (-1), .int 0, .int 0, .int 0, .int 0, .long 0, .ref q5, .null, .null, .null, .null, .null, .null, .null, .null, .null, .null, .null, .null, .null, .null, .null, .null, .null, .int 0, .int 0, .null, .null, .null, .null, .null, .null, .null, .null, .int 0, .int 0, .null, .null, .null, .null, .long 0, .long 0, .null, .long 0, .int 0, .null, .null, .null, .int 0, .null, .null, .null, .null, .int 0])), (q1, .inl (k2, 1020, .inl (fun _ => 0))), (q5, .inl (k6, 2, .inl (fun _ => 0)))] := hD
  refine lv_aload_n hx hb dX12_init_34 rfl (lv_at hl 0 rfl) ?_
  refine lv_iconst (v := 2) hx hb dX12_init_35 (by decide) ?_
  refine va_newa (atype := .int) (ty := .int) (a0 := (2, .inl (fun _ => 0))) (N' := 2) hx hb (ho (.arrayClass .int) (List.mem_of_getElem? (i := 7) rfl)) rfl hK hP hD hS hA (fun _ => rfl) (by decide) (by decide) (by decide +kernel) (Nat.le_of_ble_eq_true rfl) (Nat.le_of_ble_eq_true rfl) dX12_init_36 (fun q7 k8 H hK hP hD hS => ?_)
  have hP : va_P (dC, dI) vwCl [(h0, .inr (12, [.ref q1, .ref q3, .int 0, .int 0, .int 0, .int (-1), .int 0, .int 0, .int 0, .int 0, .long 0, .ref q5, .null, .null, .null, .null, .null, .null, .null, .null, .null, .null, .null, .null, .null, .null, .null, .null, .null, .int 0, .int 0, .null, .null, .null, .null, .null, .null, .null, .null, .int 0, .int 0, .null, .null, .null, .null, .long 0, .long 0, .null, .long 0, .int 0, .null, .null, .null, .int 0, .null, .null, .null, .null, .int 0])), (q1, .inl (k2, 1020, .inl (fun _ => 0))), (q5, .inl (k6, 2, .inl (fun _ => 0))), (q7, .inl (k8, 2, .inl (fun _ => 0)))] H := hP
  have hD : va_D A [(h0, .inr (12, [.ref q1, .ref q3, .int 0, .int 0, .int 0, .int (-1), .int 0, .int 0, .int 0, .int 0, .long 0, .ref q5, .null, .null, .null, .null, .null, .null, .null, .null, .null, .null, .null, .null, .null, .null, .null, .null, .null, .int 0, .int 0, .null, .null, .null, .null, .null, .null, .null, .null, .int 0, .int 0, .null, .null, .null, .null, .long 0, .long 0, .null, .long 0, .int 0, .null, .null, .null, .int 0, .null, .null, .null, .null, .int 0])), (q1, .inl (k2, 1020, .inl (fun _ => 0))), (q5, .inl (k6, 2, .inl (fun _ => 0))), (q7, .inl (k8, 2, .inl (fun _ => 0)))] := hD
  have hK : va_K (dC, dI) vwCl [(k2, .byte), (k6, .int), (k8, .int)] s := hK
  refine W.widen (k := 4) (n := 2024) (Nat.le_of_ble_eq_true rfl) (Nat.le_of_ble_eq_true rfl) ?_
  refine va_putF (D := (dC, dI)) (ci := 12) (v := .ref q7) (ty := tyX12 12) (C := RX12) (T := TX12) (N := 59) hx hb hts hin12 tyX12 tyX12_ok nmX12 hown hK hP hD hS 0 rfl rfl 12 (by decide) (ho (.fieldLink RX12 24 "NearEnoughModel" "stepMany" "[I") (List.mem_of_getElem? (i := 9) rfl)) (fun _ h9 => h9) rfl hin rfl (by decide +kernel) rfl rfl (Nat.le_of_ble_eq_true rfl) dX12_init_38 (fun H locs hP hD hS => ?_)
  have hP : va_P (dC, dI) vwCl [(h0, .inr (12, [.ref q1, .ref q3, .int 0, .int 0, .int 0, .int (-1), .int 0, .int 0, .int 0, .int 0, .long 0, .ref q5, .ref q7, .null, .null, .null, .null, .null, .null, .null, .null, .null, .null, .null, .null, .null, .null, .null, .null, .int 0, .int 0, .null, .null, .null, .null, .null, .null, .null, .null, .int 0, .int 0, .null, .null, .null, .null, .long 0, .long 0, .null, .long 0, .int 0, .null, .null, .null, .int 0, .null, .null, .null, .null, .int 0])), (q1, .inl (k2, 1020, .inl (fun _ => 0))), (q5, .inl (k6, 2, .inl (fun _ => 0))), (q7, .inl (k8, 2, .inl (fun _ => 0)))] H := hP
  have hD : va_D A [(h0, .inr (12, [.ref q1, .ref q3, .int 0, .int 0, .int 0, .int (-1), .int 0, .int 0, .int 0, .int 0, .long 0, .ref q5, .ref q7, .null, .null, .null, .null, .null, .null, .null, .null, .null, .null, .null, .null, .null, .null, .null, .null, .int 0, .int 0, .null, .null, .null, .null, .null, .null, .null, .null, .int 0, .int 0, .null, .null, .null, .null, .long 0, .long 0, .null, .long 0, .int 0, .null, .null, .null, .int 0, .null, .null, .null, .null, .int 0])), (q1, .inl (k2, 1020, .inl (fun _ => 0))), (q5, .inl (k6, 2, .inl (fun _ => 0))), (q7, .inl (k8, 2, .inl (fun _ => 0)))] := hD
  refine lv_aload_n hx hb dX12_init_41 rfl (lv_at hl 0 rfl) ?_
  refine lv_iconst (v := 2) hx hb dX12_init_42 (by decide) ?_
  refine va_newa (atype := .int) (ty := .int) (a0 := (2, .inl (fun _ => 0))) (N' := 2) hx hb (ho (.arrayClass .int) (List.mem_of_getElem? (i := 7) rfl)) rfl hK hP hD hS hA (fun _ => rfl) (by decide) (by decide) (by decide +kernel) (Nat.le_of_ble_eq_true rfl) (Nat.le_of_ble_eq_true rfl) dX12_init_43 (fun q9 k10 H hK hP hD hS => ?_)
  have hP : va_P (dC, dI) vwCl [(h0, .inr (12, [.ref q1, .ref q3, .int 0, .int 0, .int 0, .int (-1), .int 0, .int 0, .int 0, .int 0, .long 0, .ref q5, .ref q7, .null, .null, .null, .null, .null, .null, .null, .null, .null, .null, .null, .null, .null, .null, .null, .null, .int 0, .int 0, .null, .null, .null, .null, .null, .null, .null, .null, .int 0, .int 0, .null, .null, .null, .null, .long 0, .long 0, .null, .long 0, .int 0, .null, .null, .null, .int 0, .null, .null, .null, .null, .int 0])), (q1, .inl (k2, 1020, .inl (fun _ => 0))), (q5, .inl (k6, 2, .inl (fun _ => 0))), (q7, .inl (k8, 2, .inl (fun _ => 0))), (q9, .inl (k10, 2, .inl (fun _ => 0)))] H := hP
  have hD : va_D A [(h0, .inr (12, [.ref q1, .ref q3, .int 0, .int 0, .int 0, .int (-1), .int 0, .int 0, .int 0, .int 0, .long 0, .ref q5, .ref q7, .null, .null, .null, .null, .null, .null, .null, .null, .null, .null, .null, .null, .null, .null, .null, .null, .int 0, .int 0, .null, .null, .null, .null, .null, .null, .null, .null, .int 0, .int 0, .null, .null, .null, .null, .long 0, .long 0, .null, .long 0, .int 0, .null, .null, .null, .int 0, .null, .null, .null, .null, .int 0])), (q1, .inl (k2, 1020, .inl (fun _ => 0))), (q5, .inl (k6, 2, .inl (fun _ => 0))), (q7, .inl (k8, 2, .inl (fun _ => 0))), (q9, .inl (k10, 2, .inl (fun _ => 0)))] := hD
  have hK : va_K (dC, dI) vwCl [(k2, .byte), (k6, .int), (k8, .int), (k10, .int)] s := hK
  refine W.widen (k := 5) (n := 2026) (Nat.le_of_ble_eq_true rfl) (Nat.le_of_ble_eq_true rfl) ?_
  refine va_putF (D := (dC, dI)) (ci := 12) (v := .ref q9) (ty := tyX12 13) (C := RX12) (T := TX12) (N := 59) hx hb hts hin12 tyX12 tyX12_ok nmX12 hown hK hP hD hS 0 rfl rfl 13 (by decide) (ho (.fieldLink RX12 27 "NearEnoughModel" "endMany" "[I") (List.mem_of_getElem? (i := 10) rfl)) (fun _ h9 => h9) rfl hin rfl (by decide +kernel) rfl rfl (Nat.le_of_ble_eq_true rfl) dX12_init_45 (fun H locs hP hD hS => ?_)
  have hP : va_P (dC, dI) vwCl [(h0, .inr (12, [.ref q1, .ref q3, .int 0, .int 0, .int 0, .int (-1), .int 0, .int 0, .int 0, .int 0, .long 0, .ref q5, .ref q7, .ref q9, .null, .null, .null, .null, .null, .null, .null, .null, .null, .null, .null, .null, .null, .null, .null, .int 0, .int 0, .null, .null, .null, .null, .null, .null, .null, .null, .int 0, .int 0, .null, .null, .null, .null, .long 0, .long 0, .null, .long 0, .int 0, .null, .null, .null, .int 0, .null, .null, .null, .null, .int 0])), (q1, .inl (k2, 1020, .inl (fun _ => 0))), (q5, .inl (k6, 2, .inl (fun _ => 0))), (q7, .inl (k8, 2, .inl (fun _ => 0))), (q9, .inl (k10, 2, .inl (fun _ => 0)))] H := hP
  have hD : va_D A [(h0, .inr (12, [.ref q1, .ref q3, .int 0, .int 0, .int 0, .int (-1), .int 0, .int 0, .int 0, .int 0, .long 0, .ref q5, .ref q7, .ref q9, .null, .null, .null, .null, .null, .null, .null, .null, .null, .null, .null, .null, .null, .null, .null, .int 0, .int 0, .null, .null, .null, .null, .null, .null, .null, .null, .int 0, .int 0, .null, .null, .null, .null, .long 0, .long 0, .null, .long 0, .int 0, .null, .null, .null, .int 0, .null, .null, .null, .null, .int 0])), (q1, .inl (k2, 1020, .inl (fun _ => 0))), (q5, .inl (k6, 2, .inl (fun _ => 0))), (q7, .inl (k8, 2, .inl (fun _ => 0))), (q9, .inl (k10, 2, .inl (fun _ => 0)))] := hD
  refine lv_aload_n hx hb dX12_init_48 rfl (lv_at hl 0 rfl) ?_
  refine lv_iconst (v := 4) hx hb dX12_init_49 (by decide) ?_
  refine va_newa (atype := .int) (ty := .int) (a0 := (4, .inl (fun _ => 0))) (N' := 4) hx hb (ho (.arrayClass .int) (List.mem_of_getElem? (i := 7) rfl)) rfl hK hP hD hS hA (fun _ => rfl) (by decide) (by decide) (by decide +kernel) (Nat.le_of_ble_eq_true rfl) (Nat.le_of_ble_eq_true rfl) dX12_init_50 (fun q11 k12 H hK hP hD hS => ?_)
  have hP : va_P (dC, dI) vwCl [(h0, .inr (12, [.ref q1, .ref q3, .int 0, .int 0, .int 0, .int (-1), .int 0, .int 0, .int 0, .int 0, .long 0, .ref q5, .ref q7, .ref q9, .null, .null, .null, .null, .null, .null, .null, .null, .null, .null, .null, .null, .null, .null, .null, .int 0, .int 0, .null, .null, .null, .null, .null, .null, .null, .null, .int 0, .int 0, .null, .null, .null, .null, .long 0, .long 0, .null, .long 0, .int 0, .null, .null, .null, .int 0, .null, .null, .null, .null, .int 0])), (q1, .inl (k2, 1020, .inl (fun _ => 0))), (q5, .inl (k6, 2, .inl (fun _ => 0))), (q7, .inl (k8, 2, .inl (fun _ => 0))), (q9, .inl (k10, 2, .inl (fun _ => 0))), (q11, .inl (k12, 4, .inl (fun _ => 0)))] H := hP
  have hD : va_D A [(h0, .inr (12, [.ref q1, .ref q3, .int 0, .int 0, .int 0, .int (-1), .int 0, .int 0, .int 0, .int 0, .long 0, .ref q5, .ref q7, .ref q9, .null, .null, .null, .null, .null, .null, .null, .null, .null, .null, .null, .null, .null, .null, .null, .int 0, .int 0, .null, .null, .null, .null, .null, .null, .null, .null, .int 0, .int 0, .null, .null, .null, .null, .long 0, .long 0, .null, .long 0, .int 0, .null, .null, .null, .int 0, .null, .null, .null, .null, .int 0])), (q1, .inl (k2, 1020, .inl (fun _ => 0))), (q5, .inl (k6, 2, .inl (fun _ => 0))), (q7, .inl (k8, 2, .inl (fun _ => 0))), (q9, .inl (k10, 2, .inl (fun _ => 0))), (q11, .inl (k12, 4, .inl (fun _ => 0)))] := hD
  have hK : va_K (dC, dI) vwCl [(k2, .byte), (k6, .int), (k8, .int), (k10, .int), (k12, .int)] s := hK
  refine W.widen (k := 6) (n := 2030) (Nat.le_of_ble_eq_true rfl) (Nat.le_of_ble_eq_true rfl) ?_
  have hP := hP.sub (ws' := [(h0, .inr (12, [.ref q1, .ref q3, .int 0, .int 0, .int 0, .int (-1), .int 0, .int 0, .int 0, .int 0, .long 0, .ref q5, .ref q7, .ref q9, .null, .null, .null, .null, .null, .null, .null, .null, .null, .null, .null, .null, .null, .null, .null, .int 0, .int 0, .null, .null, .null, .null, .null, .null, .null, .null, .int 0, .int 0, .null, .null, .null, .null, .long 0, .long 0, .null, .long 0, .int 0, .null, .null, .null, .int 0, .null, .null, .null, .null, .int 0])), (q1, .inl (k2, 1020, .inl (fun _ => 0))), (q5, .inl (k6, 2, .inl (fun _ => 0))), (q7, .inl (k8, 2, .inl (fun _ => 0))), (q9, .inl (k10, 2, .inl (fun _ => 0)))]) [0, 1, 2, 3, 4] rfl
  have hD := hD.sub (ws' := [(h0, .inr (12, [.ref q1, .ref q3, .int 0, .int 0, .int 0, .int (-1), .int 0, .int 0, .int 0, .int 0, .long 0, .ref q5, .ref q7, .ref q9, .null, .null, .null, .null, .null, .null, .null, .null, .null, .null, .null, .null, .null, .null, .null, .int 0, .int 0, .null, .null, .null, .null, .null, .null, .null, .null, .int 0, .int 0, .null, .null, .null, .null, .long 0, .long 0, .null, .long 0, .int 0, .null, .null, .null, .int 0, .null, .null, .null, .null, .int 0])), (q1, .inl (k2, 1020, .inl (fun _ => 0))), (q5, .inl (k6, 2, .inl (fun _ => 0))), (q7, .inl (k8, 2, .inl (fun _ => 0))), (q9, .inl (k10, 2, .inl (fun _ => 0)))]) [0, 1, 2, 3, 4] (by decide) rfl
  have hK := hK.sub (tys' := [(k2, .byte), (k6, .int), (k8, .int), (k10, .int)]) [0, 1, 2, 3] rfl
  refine va_putF (D := (dC, dI)) (ci := 12) (v := .ref q11) (ty := tyX12 14) (C := RX12) (T := TX12) (N := 59) hx hb hts hin12 tyX12 tyX12_ok nmX12 hown hK hP hD hS 0 rfl rfl 14 (by decide) (ho (.fieldLink RX12 30 "NearEnoughModel" "rHas" "[I") (List.mem_of_getElem? (i := 11) rfl)) (fun _ h9 => h9) rfl hin rfl (by decide +kernel) rfl rfl (Nat.le_of_ble_eq_true rfl) dX12_init_52 (fun H locs hP hD hS => ?_)
  have hP : va_P (dC, dI) vwCl [(h0, .inr (12, [.ref q1, .ref q3, .int 0, .int 0, .int 0, .int (-1), .int 0, .int 0, .int 0, .int 0, .long 0, .ref q5, .ref q7, .ref q9, .ref q11, .null, .null, .null, .null, .null, .null, .null, .null, .null, .null, .null, .null, .null, .null, .int 0, .int 0, .null, .null, .null, .null, .null, .null, .null, .null, .int 0, .int 0, .null, .null, .null, .null, .long 0, .long 0, .null, .long 0, .int 0, .null, .null, .null, .int 0, .null, .null, .null, .null, .int 0])), (q1, .inl (k2, 1020, .inl (fun _ => 0))), (q5, .inl (k6, 2, .inl (fun _ => 0))), (q7, .inl (k8, 2, .inl (fun _ => 0))), (q9, .inl (k10, 2, .inl (fun _ => 0)))] H := hP
  have hD : va_D A [(h0, .inr (12, [.ref q1, .ref q3, .int 0, .int 0, .int 0, .int (-1), .int 0, .int 0, .int 0, .int 0, .long 0, .ref q5, .ref q7, .ref q9, .ref q11, .null, .null, .null, .null, .null, .null, .null, .null, .null, .null, .null, .null, .null, .null, .int 0, .int 0, .null, .null, .null, .null, .null, .null, .null, .null, .int 0, .int 0, .null, .null, .null, .null, .long 0, .long 0, .null, .long 0, .int 0, .null, .null, .null, .int 0, .null, .null, .null, .null, .int 0])), (q1, .inl (k2, 1020, .inl (fun _ => 0))), (q5, .inl (k6, 2, .inl (fun _ => 0))), (q7, .inl (k8, 2, .inl (fun _ => 0))), (q9, .inl (k10, 2, .inl (fun _ => 0)))] := hD
  refine lv_aload_n hx hb dX12_init_55 rfl (lv_at hl 0 rfl) ?_
  refine lv_iconst (v := 4) hx hb dX12_init_56 (by decide) ?_
  refine va_newa (atype := .int) (ty := .int) (a0 := (4, .inl (fun _ => 0))) (N' := 4) hx hb (ho (.arrayClass .int) (List.mem_of_getElem? (i := 7) rfl)) rfl hK hP hD hS hA (fun _ => rfl) (by decide) (by decide) (by decide +kernel) (Nat.le_of_ble_eq_true rfl) (Nat.le_of_ble_eq_true rfl) dX12_init_57 (fun q13 k14 H hK hP hD hS => ?_)
  have hP : va_P (dC, dI) vwCl [(h0, .inr (12, [.ref q1, .ref q3, .int 0, .int 0, .int 0, .int (-1), .int 0, .int 0, .int 0, .int 0, .long 0, .ref q5, .ref q7, .ref q9, .ref q11, .null, .null, .null, .null, .null, .null, .null, .null, .null, .null, .null, .null, .null, .null, .int 0, .int 0, .null, .null, .null, .null, .null, .null, .null, .null, .int 0, .int 0, .null, .null, .null, .null, .long 0, .long 0, .null, .long 0, .int 0, .null, .null, .null, .int 0, .null, .null, .null, .null, .int 0])), (q1, .inl (k2, 1020, .inl (fun _ => 0))), (q5, .inl (k6, 2, .inl (fun _ => 0))), (q7, .inl (k8, 2, .inl (fun _ => 0))), (q9, .inl (k10, 2, .inl (fun _ => 0))), (q13, .inl (k14, 4, .inl (fun _ => 0)))] H := hP
  have hD : va_D A [(h0, .inr (12, [.ref q1, .ref q3, .int 0, .int 0, .int 0, .int (-1), .int 0, .int 0, .int 0, .int 0, .long 0, .ref q5, .ref q7, .ref q9, .ref q11, .null, .null, .null, .null, .null, .null, .null, .null, .null, .null, .null, .null, .null, .null, .int 0, .int 0, .null, .null, .null, .null, .null, .null, .null, .null, .int 0, .int 0, .null, .null, .null, .null, .long 0, .long 0, .null, .long 0, .int 0, .null, .null, .null, .int 0, .null, .null, .null, .null, .int 0])), (q1, .inl (k2, 1020, .inl (fun _ => 0))), (q5, .inl (k6, 2, .inl (fun _ => 0))), (q7, .inl (k8, 2, .inl (fun _ => 0))), (q9, .inl (k10, 2, .inl (fun _ => 0))), (q13, .inl (k14, 4, .inl (fun _ => 0)))] := hD
  have hK : va_K (dC, dI) vwCl [(k2, .byte), (k6, .int), (k8, .int), (k10, .int), (k14, .int)] s := hK
  refine W.widen (k := 7) (n := 2034) (Nat.le_of_ble_eq_true rfl) (Nat.le_of_ble_eq_true rfl) ?_
  have hP := hP.sub (ws' := [(h0, .inr (12, [.ref q1, .ref q3, .int 0, .int 0, .int 0, .int (-1), .int 0, .int 0, .int 0, .int 0, .long 0, .ref q5, .ref q7, .ref q9, .ref q11, .null, .null, .null, .null, .null, .null, .null, .null, .null, .null, .null, .null, .null, .null, .int 0, .int 0, .null, .null, .null, .null, .null, .null, .null, .null, .int 0, .int 0, .null, .null, .null, .null, .long 0, .long 0, .null, .long 0, .int 0, .null, .null, .null, .int 0, .null, .null, .null, .null, .int 0])), (q1, .inl (k2, 1020, .inl (fun _ => 0))), (q5, .inl (k6, 2, .inl (fun _ => 0))), (q7, .inl (k8, 2, .inl (fun _ => 0))), (q9, .inl (k10, 2, .inl (fun _ => 0)))]) [0, 1, 2, 3, 4] rfl
  have hD := hD.sub (ws' := [(h0, .inr (12, [.ref q1, .ref q3, .int 0, .int 0, .int 0, .int (-1), .int 0, .int 0, .int 0, .int 0, .long 0, .ref q5, .ref q7, .ref q9, .ref q11, .null, .null, .null, .null, .null, .null, .null, .null, .null, .null, .null, .null, .null, .null, .int 0, .int 0, .null, .null, .null, .null, .null, .null, .null, .null, .int 0, .int 0, .null, .null, .null, .null, .long 0, .long 0, .null, .long 0, .int 0, .null, .null, .null, .int 0, .null, .null, .null, .null, .int 0])), (q1, .inl (k2, 1020, .inl (fun _ => 0))), (q5, .inl (k6, 2, .inl (fun _ => 0))), (q7, .inl (k8, 2, .inl (fun _ => 0))), (q9, .inl (k10, 2, .inl (fun _ => 0)))]) [0, 1, 2, 3, 4] (by decide) rfl
  have hK := hK.sub (tys' := [(k2, .byte), (k6, .int), (k8, .int), (k10, .int)]) [0, 1, 2, 3] rfl
  refine va_putF (D := (dC, dI)) (ci := 12) (v := .ref q13) (ty := tyX12 15) (C := RX12) (T := TX12) (N := 59) hx hb hts hin12 tyX12 tyX12_ok nmX12 hown hK hP hD hS 0 rfl rfl 15 (by decide) (ho (.fieldLink RX12 33 "NearEnoughModel" "rLeast" "[I") (List.mem_of_getElem? (i := 12) rfl)) (fun _ h9 => h9) rfl hin rfl (by decide +kernel) rfl rfl (Nat.le_of_ble_eq_true rfl) dX12_init_59 (fun H locs hP hD hS => ?_)
  have hP : va_P (dC, dI) vwCl [(h0, .inr (12, [.ref q1, .ref q3, .int 0, .int 0, .int 0, .int (-1), .int 0, .int 0, .int 0, .int 0, .long 0, .ref q5, .ref q7, .ref q9, .ref q11, .ref q13, .null, .null, .null, .null, .null, .null, .null, .null, .null, .null, .null, .null, .null, .int 0, .int 0, .null, .null, .null, .null, .null, .null, .null, .null, .int 0, .int 0, .null, .null, .null, .null, .long 0, .long 0, .null, .long 0, .int 0, .null, .null, .null, .int 0, .null, .null, .null, .null, .int 0])), (q1, .inl (k2, 1020, .inl (fun _ => 0))), (q5, .inl (k6, 2, .inl (fun _ => 0))), (q7, .inl (k8, 2, .inl (fun _ => 0))), (q9, .inl (k10, 2, .inl (fun _ => 0)))] H := hP
  have hD : va_D A [(h0, .inr (12, [.ref q1, .ref q3, .int 0, .int 0, .int 0, .int (-1), .int 0, .int 0, .int 0, .int 0, .long 0, .ref q5, .ref q7, .ref q9, .ref q11, .ref q13, .null, .null, .null, .null, .null, .null, .null, .null, .null, .null, .null, .null, .null, .int 0, .int 0, .null, .null, .null, .null, .null, .null, .null, .null, .int 0, .int 0, .null, .null, .null, .null, .long 0, .long 0, .null, .long 0, .int 0, .null, .null, .null, .int 0, .null, .null, .null, .null, .int 0])), (q1, .inl (k2, 1020, .inl (fun _ => 0))), (q5, .inl (k6, 2, .inl (fun _ => 0))), (q7, .inl (k8, 2, .inl (fun _ => 0))), (q9, .inl (k10, 2, .inl (fun _ => 0)))] := hD
  refine lv_aload_n hx hb dX12_init_62 rfl (lv_at hl 0 rfl) ?_
  refine lv_iconst (v := 4) hx hb dX12_init_63 (by decide) ?_
  refine va_newa (atype := .int) (ty := .int) (a0 := (4, .inl (fun _ => 0))) (N' := 4) hx hb (ho (.arrayClass .int) (List.mem_of_getElem? (i := 7) rfl)) rfl hK hP hD hS hA (fun _ => rfl) (by decide) (by decide) (by decide +kernel) (Nat.le_of_ble_eq_true rfl) (Nat.le_of_ble_eq_true rfl) dX12_init_64 (fun q15 k16 H hK hP hD hS => ?_)
  have hP : va_P (dC, dI) vwCl [(h0, .inr (12, [.ref q1, .ref q3, .int 0, .int 0, .int 0, .int (-1), .int 0, .int 0, .int 0, .int 0, .long 0, .ref q5, .ref q7, .ref q9, .ref q11, .ref q13, .null, .null, .null, .null, .null, .null, .null, .null, .null, .null, .null, .null, .null, .int 0, .int 0, .null, .null, .null, .null, .null, .null, .null, .null, .int 0, .int 0, .null, .null, .null, .null, .long 0, .long 0, .null, .long 0, .int 0, .null, .null, .null, .int 0, .null, .null, .null, .null, .int 0])), (q1, .inl (k2, 1020, .inl (fun _ => 0))), (q5, .inl (k6, 2, .inl (fun _ => 0))), (q7, .inl (k8, 2, .inl (fun _ => 0))), (q9, .inl (k10, 2, .inl (fun _ => 0))), (q15, .inl (k16, 4, .inl (fun _ => 0)))] H := hP
  have hD : va_D A [(h0, .inr (12, [.ref q1, .ref q3, .int 0, .int 0, .int 0, .int (-1), .int 0, .int 0, .int 0, .int 0, .long 0, .ref q5, .ref q7, .ref q9, .ref q11, .ref q13, .null, .null, .null, .null, .null, .null, .null, .null, .null, .null, .null, .null, .null, .int 0, .int 0, .null, .null, .null, .null, .null, .null, .null, .null, .int 0, .int 0, .null, .null, .null, .null, .long 0, .long 0, .null, .long 0, .int 0, .null, .null, .null, .int 0, .null, .null, .null, .null, .int 0])), (q1, .inl (k2, 1020, .inl (fun _ => 0))), (q5, .inl (k6, 2, .inl (fun _ => 0))), (q7, .inl (k8, 2, .inl (fun _ => 0))), (q9, .inl (k10, 2, .inl (fun _ => 0))), (q15, .inl (k16, 4, .inl (fun _ => 0)))] := hD
  have hK : va_K (dC, dI) vwCl [(k2, .byte), (k6, .int), (k8, .int), (k10, .int), (k16, .int)] s := hK
  refine W.widen (k := 8) (n := 2038) (Nat.le_of_ble_eq_true rfl) (Nat.le_of_ble_eq_true rfl) ?_
  have hP := hP.sub (ws' := [(h0, .inr (12, [.ref q1, .ref q3, .int 0, .int 0, .int 0, .int (-1), .int 0, .int 0, .int 0, .int 0, .long 0, .ref q5, .ref q7, .ref q9, .ref q11, .ref q13, .null, .null, .null, .null, .null, .null, .null, .null, .null, .null, .null, .null, .null, .int 0, .int 0, .null, .null, .null, .null, .null, .null, .null, .null, .int 0, .int 0, .null, .null, .null, .null, .long 0, .long 0, .null, .long 0, .int 0, .null, .null, .null, .int 0, .null, .null, .null, .null, .int 0])), (q1, .inl (k2, 1020, .inl (fun _ => 0))), (q5, .inl (k6, 2, .inl (fun _ => 0))), (q7, .inl (k8, 2, .inl (fun _ => 0))), (q9, .inl (k10, 2, .inl (fun _ => 0)))]) [0, 1, 2, 3, 4] rfl
  have hD := hD.sub (ws' := [(h0, .inr (12, [.ref q1, .ref q3, .int 0, .int 0, .int 0, .int (-1), .int 0, .int 0, .int 0, .int 0, .long 0, .ref q5, .ref q7, .ref q9, .ref q11, .ref q13, .null, .null, .null, .null, .null, .null, .null, .null, .null, .null, .null, .null, .null, .int 0, .int 0, .null, .null, .null, .null, .null, .null, .null, .null, .int 0, .int 0, .null, .null, .null, .null, .long 0, .long 0, .null, .long 0, .int 0, .null, .null, .null, .int 0, .null, .null, .null, .null, .int 0])), (q1, .inl (k2, 1020, .inl (fun _ => 0))), (q5, .inl (k6, 2, .inl (fun _ => 0))), (q7, .inl (k8, 2, .inl (fun _ => 0))), (q9, .inl (k10, 2, .inl (fun _ => 0)))]) [0, 1, 2, 3, 4] (by decide) rfl
  have hK := hK.sub (tys' := [(k2, .byte), (k6, .int), (k8, .int), (k10, .int)]) [0, 1, 2, 3] rfl
  refine va_putF (D := (dC, dI)) (ci := 12) (v := .ref q15) (ty := tyX12 16) (C := RX12) (T := TX12) (N := 59) hx hb hts hin12 tyX12 tyX12_ok nmX12 hown hK hP hD hS 0 rfl rfl 16 (by decide) (ho (.fieldLink RX12 36 "NearEnoughModel" "rMost" "[I") (List.mem_of_getElem? (i := 13) rfl)) (fun _ h9 => h9) rfl hin rfl (by decide +kernel) rfl rfl (Nat.le_of_ble_eq_true rfl) dX12_init_66 (fun H locs hP hD hS => ?_)
  have hP : va_P (dC, dI) vwCl [(h0, .inr (12, [.ref q1, .ref q3, .int 0, .int 0, .int 0, .int (-1), .int 0, .int 0, .int 0, .int 0, .long 0, .ref q5, .ref q7, .ref q9, .ref q11, .ref q13, .ref q15, .null, .null, .null, .null, .null, .null, .null, .null, .null, .null, .null, .null, .int 0, .int 0, .null, .null, .null, .null, .null, .null, .null, .null, .int 0, .int 0, .null, .null, .null, .null, .long 0, .long 0, .null, .long 0, .int 0, .null, .null, .null, .int 0, .null, .null, .null, .null, .int 0])), (q1, .inl (k2, 1020, .inl (fun _ => 0))), (q5, .inl (k6, 2, .inl (fun _ => 0))), (q7, .inl (k8, 2, .inl (fun _ => 0))), (q9, .inl (k10, 2, .inl (fun _ => 0)))] H := hP
  have hD : va_D A [(h0, .inr (12, [.ref q1, .ref q3, .int 0, .int 0, .int 0, .int (-1), .int 0, .int 0, .int 0, .int 0, .long 0, .ref q5, .ref q7, .ref q9, .ref q11, .ref q13, .ref q15, .null, .null, .null, .null, .null, .null, .null, .null, .null, .null, .null, .null, .int 0, .int 0, .null, .null, .null, .null, .null, .null, .null, .null, .int 0, .int 0, .null, .null, .null, .null, .long 0, .long 0, .null, .long 0, .int 0, .null, .null, .null, .int 0, .null, .null, .null, .null, .int 0])), (q1, .inl (k2, 1020, .inl (fun _ => 0))), (q5, .inl (k6, 2, .inl (fun _ => 0))), (q7, .inl (k8, 2, .inl (fun _ => 0))), (q9, .inl (k10, 2, .inl (fun _ => 0)))] := hD
  refine lv_aload_n hx hb dX12_init_69 rfl (lv_at hl 0 rfl) ?_
  refine lv_bipush (v := 24) hx hb dX12_init_70 (by decide) ?_
  refine va_newa (atype := .int) (ty := .int) (a0 := (24, .inl (fun _ => 0))) (N' := 24) hx hb (ho (.arrayClass .int) (List.mem_of_getElem? (i := 7) rfl)) rfl hK hP hD hS hA (fun _ => rfl) (by decide) (by decide) (by decide +kernel) (Nat.le_of_ble_eq_true rfl) (Nat.le_of_ble_eq_true rfl) dX12_init_72 (fun q17 k18 H hK hP hD hS => ?_)
  have hP : va_P (dC, dI) vwCl [(h0, .inr (12, [.ref q1, .ref q3, .int 0, .int 0, .int 0, .int (-1), .int 0, .int 0, .int 0, .int 0, .long 0, .ref q5, .ref q7, .ref q9, .ref q11, .ref q13, .ref q15, .null, .null, .null, .null, .null, .null, .null, .null, .null, .null, .null, .null, .int 0, .int 0, .null, .null, .null, .null, .null, .null, .null, .null, .int 0, .int 0, .null, .null, .null, .null, .long 0, .long 0, .null, .long 0, .int 0, .null, .null, .null, .int 0, .null, .null, .null, .null, .int 0])), (q1, .inl (k2, 1020, .inl (fun _ => 0))), (q5, .inl (k6, 2, .inl (fun _ => 0))), (q7, .inl (k8, 2, .inl (fun _ => 0))), (q9, .inl (k10, 2, .inl (fun _ => 0))), (q17, .inl (k18, 24, .inl (fun _ => 0)))] H := hP
  have hD : va_D A [(h0, .inr (12, [.ref q1, .ref q3, .int 0, .int 0, .int 0, .int (-1), .int 0, .int 0, .int 0, .int 0, .long 0, .ref q5, .ref q7, .ref q9, .ref q11, .ref q13, .ref q15, .null, .null, .null, .null, .null, .null, .null, .null, .null, .null, .null, .null, .int 0, .int 0, .null, .null, .null, .null, .null, .null, .null, .null, .int 0, .int 0, .null, .null, .null, .null, .long 0, .long 0, .null, .long 0, .int 0, .null, .null, .null, .int 0, .null, .null, .null, .null, .int 0])), (q1, .inl (k2, 1020, .inl (fun _ => 0))), (q5, .inl (k6, 2, .inl (fun _ => 0))), (q7, .inl (k8, 2, .inl (fun _ => 0))), (q9, .inl (k10, 2, .inl (fun _ => 0))), (q17, .inl (k18, 24, .inl (fun _ => 0)))] := hD
  have hK : va_K (dC, dI) vwCl [(k2, .byte), (k6, .int), (k8, .int), (k10, .int), (k18, .int)] s := hK
  refine W.widen (k := 9) (n := 2062) (Nat.le_of_ble_eq_true rfl) (Nat.le_of_ble_eq_true rfl) ?_
  have hP := hP.sub (ws' := [(h0, .inr (12, [.ref q1, .ref q3, .int 0, .int 0, .int 0, .int (-1), .int 0, .int 0, .int 0, .int 0, .long 0, .ref q5, .ref q7, .ref q9, .ref q11, .ref q13, .ref q15, .null, .null, .null, .null, .null, .null, .null, .null, .null, .null, .null, .null, .int 0, .int 0, .null, .null, .null, .null, .null, .null, .null, .null, .int 0, .int 0, .null, .null, .null, .null, .long 0, .long 0, .null, .long 0, .int 0, .null, .null, .null, .int 0, .null, .null, .null, .null, .int 0])), (q1, .inl (k2, 1020, .inl (fun _ => 0))), (q5, .inl (k6, 2, .inl (fun _ => 0))), (q7, .inl (k8, 2, .inl (fun _ => 0))), (q9, .inl (k10, 2, .inl (fun _ => 0)))]) [0, 1, 2, 3, 4] rfl
  have hD := hD.sub (ws' := [(h0, .inr (12, [.ref q1, .ref q3, .int 0, .int 0, .int 0, .int (-1), .int 0, .int 0, .int 0, .int 0, .long 0, .ref q5, .ref q7, .ref q9, .ref q11, .ref q13, .ref q15, .null, .null, .null, .null, .null, .null, .null, .null, .null, .null, .null, .null, .int 0, .int 0, .null, .null, .null, .null, .null, .null, .null, .null, .int 0, .int 0, .null, .null, .null, .null, .long 0, .long 0, .null, .long 0, .int 0, .null, .null, .null, .int 0, .null, .null, .null, .null, .int 0])), (q1, .inl (k2, 1020, .inl (fun _ => 0))), (q5, .inl (k6, 2, .inl (fun _ => 0))), (q7, .inl (k8, 2, .inl (fun _ => 0))), (q9, .inl (k10, 2, .inl (fun _ => 0)))]) [0, 1, 2, 3, 4] (by decide) rfl
  have hK := hK.sub (tys' := [(k2, .byte), (k6, .int), (k8, .int), (k10, .int)]) [0, 1, 2, 3] rfl
  refine va_putF (D := (dC, dI)) (ci := 12) (v := .ref q17) (ty := tyX12 17) (C := RX12) (T := TX12) (N := 59) hx hb hts hin12 tyX12 tyX12_ok nmX12 hown hK hP hD hS 0 rfl rfl 17 (by decide) (ho (.fieldLink RX12 39 "NearEnoughModel" "sKind" "[I") (List.mem_of_getElem? (i := 14) rfl)) (fun _ h9 => h9) rfl hin rfl (by decide +kernel) rfl rfl (Nat.le_of_ble_eq_true rfl) dX12_init_74 (fun H locs hP hD hS => ?_)
  have hP : va_P (dC, dI) vwCl [(h0, .inr (12, [.ref q1, .ref q3, .int 0, .int 0, .int 0, .int (-1), .int 0, .int 0, .int 0, .int 0, .long 0, .ref q5, .ref q7, .ref q9, .ref q11, .ref q13, .ref q15, .ref q17, .null, .null, .null, .null, .null, .null, .null, .null, .null, .null, .null, .int 0, .int 0, .null, .null, .null, .null, .null, .null, .null, .null, .int 0, .int 0, .null, .null, .null, .null, .long 0, .long 0, .null, .long 0, .int 0, .null, .null, .null, .int 0, .null, .null, .null, .null, .int 0])), (q1, .inl (k2, 1020, .inl (fun _ => 0))), (q5, .inl (k6, 2, .inl (fun _ => 0))), (q7, .inl (k8, 2, .inl (fun _ => 0))), (q9, .inl (k10, 2, .inl (fun _ => 0)))] H := hP
  have hD : va_D A [(h0, .inr (12, [.ref q1, .ref q3, .int 0, .int 0, .int 0, .int (-1), .int 0, .int 0, .int 0, .int 0, .long 0, .ref q5, .ref q7, .ref q9, .ref q11, .ref q13, .ref q15, .ref q17, .null, .null, .null, .null, .null, .null, .null, .null, .null, .null, .null, .int 0, .int 0, .null, .null, .null, .null, .null, .null, .null, .null, .int 0, .int 0, .null, .null, .null, .null, .long 0, .long 0, .null, .long 0, .int 0, .null, .null, .null, .int 0, .null, .null, .null, .null, .int 0])), (q1, .inl (k2, 1020, .inl (fun _ => 0))), (q5, .inl (k6, 2, .inl (fun _ => 0))), (q7, .inl (k8, 2, .inl (fun _ => 0))), (q9, .inl (k10, 2, .inl (fun _ => 0)))] := hD
  refine lv_aload_n hx hb dX12_init_77 rfl (lv_at hl 0 rfl) ?_
  refine lv_bipush (v := 24) hx hb dX12_init_78 (by decide) ?_
  refine va_newa (atype := .int) (ty := .int) (a0 := (24, .inl (fun _ => 0))) (N' := 24) hx hb (ho (.arrayClass .int) (List.mem_of_getElem? (i := 7) rfl)) rfl hK hP hD hS hA (fun _ => rfl) (by decide) (by decide) (by decide +kernel) (Nat.le_of_ble_eq_true rfl) (Nat.le_of_ble_eq_true rfl) dX12_init_80 (fun q19 k20 H hK hP hD hS => ?_)
  have hP : va_P (dC, dI) vwCl [(h0, .inr (12, [.ref q1, .ref q3, .int 0, .int 0, .int 0, .int (-1), .int 0, .int 0, .int 0, .int 0, .long 0, .ref q5, .ref q7, .ref q9, .ref q11, .ref q13, .ref q15, .ref q17, .null, .null, .null, .null, .null, .null, .null, .null, .null, .null, .null, .int 0, .int 0, .null, .null, .null, .null, .null, .null, .null, .null, .int 0, .int 0, .null, .null, .null, .null, .long 0, .long 0, .null, .long 0, .int 0, .null, .null, .null, .int 0, .null, .null, .null, .null, .int 0])), (q1, .inl (k2, 1020, .inl (fun _ => 0))), (q5, .inl (k6, 2, .inl (fun _ => 0))), (q7, .inl (k8, 2, .inl (fun _ => 0))), (q9, .inl (k10, 2, .inl (fun _ => 0))), (q19, .inl (k20, 24, .inl (fun _ => 0)))] H := hP
  have hD : va_D A [(h0, .inr (12, [.ref q1, .ref q3, .int 0, .int 0, .int 0, .int (-1), .int 0, .int 0, .int 0, .int 0, .long 0, .ref q5, .ref q7, .ref q9, .ref q11, .ref q13, .ref q15, .ref q17, .null, .null, .null, .null, .null, .null, .null, .null, .null, .null, .null, .int 0, .int 0, .null, .null, .null, .null, .null, .null, .null, .null, .int 0, .int 0, .null, .null, .null, .null, .long 0, .long 0, .null, .long 0, .int 0, .null, .null, .null, .int 0, .null, .null, .null, .null, .int 0])), (q1, .inl (k2, 1020, .inl (fun _ => 0))), (q5, .inl (k6, 2, .inl (fun _ => 0))), (q7, .inl (k8, 2, .inl (fun _ => 0))), (q9, .inl (k10, 2, .inl (fun _ => 0))), (q19, .inl (k20, 24, .inl (fun _ => 0)))] := hD
  have hK : va_K (dC, dI) vwCl [(k2, .byte), (k6, .int), (k8, .int), (k10, .int), (k20, .int)] s := hK
  refine W.widen (k := 10) (n := 2086) (Nat.le_of_ble_eq_true rfl) (Nat.le_of_ble_eq_true rfl) ?_
  have hP := hP.sub (ws' := [(h0, .inr (12, [.ref q1, .ref q3, .int 0, .int 0, .int 0, .int (-1), .int 0, .int 0, .int 0, .int 0, .long 0, .ref q5, .ref q7, .ref q9, .ref q11, .ref q13, .ref q15, .ref q17, .null, .null, .null, .null, .null, .null, .null, .null, .null, .null, .null, .int 0, .int 0, .null, .null, .null, .null, .null, .null, .null, .null, .int 0, .int 0, .null, .null, .null, .null, .long 0, .long 0, .null, .long 0, .int 0, .null, .null, .null, .int 0, .null, .null, .null, .null, .int 0])), (q1, .inl (k2, 1020, .inl (fun _ => 0))), (q5, .inl (k6, 2, .inl (fun _ => 0))), (q7, .inl (k8, 2, .inl (fun _ => 0))), (q9, .inl (k10, 2, .inl (fun _ => 0)))]) [0, 1, 2, 3, 4] rfl
  have hD := hD.sub (ws' := [(h0, .inr (12, [.ref q1, .ref q3, .int 0, .int 0, .int 0, .int (-1), .int 0, .int 0, .int 0, .int 0, .long 0, .ref q5, .ref q7, .ref q9, .ref q11, .ref q13, .ref q15, .ref q17, .null, .null, .null, .null, .null, .null, .null, .null, .null, .null, .null, .int 0, .int 0, .null, .null, .null, .null, .null, .null, .null, .null, .int 0, .int 0, .null, .null, .null, .null, .long 0, .long 0, .null, .long 0, .int 0, .null, .null, .null, .int 0, .null, .null, .null, .null, .int 0])), (q1, .inl (k2, 1020, .inl (fun _ => 0))), (q5, .inl (k6, 2, .inl (fun _ => 0))), (q7, .inl (k8, 2, .inl (fun _ => 0))), (q9, .inl (k10, 2, .inl (fun _ => 0)))]) [0, 1, 2, 3, 4] (by decide) rfl
  have hK := hK.sub (tys' := [(k2, .byte), (k6, .int), (k8, .int), (k10, .int)]) [0, 1, 2, 3] rfl
  refine va_putF (D := (dC, dI)) (ci := 12) (v := .ref q19) (ty := tyX12 18) (C := RX12) (T := TX12) (N := 59) hx hb hts hin12 tyX12 tyX12_ok nmX12 hown hK hP hD hS 0 rfl rfl 18 (by decide) (ho (.fieldLink RX12 42 "NearEnoughModel" "sA" "[I") (List.mem_of_getElem? (i := 15) rfl)) (fun _ h9 => h9) rfl hin rfl (by decide +kernel) rfl rfl (Nat.le_of_ble_eq_true rfl) dX12_init_82 (fun H locs hP hD hS => ?_)
  have hP : va_P (dC, dI) vwCl [(h0, .inr (12, [.ref q1, .ref q3, .int 0, .int 0, .int 0, .int (-1), .int 0, .int 0, .int 0, .int 0, .long 0, .ref q5, .ref q7, .ref q9, .ref q11, .ref q13, .ref q15, .ref q17, .ref q19, .null, .null, .null, .null, .null, .null, .null, .null, .null, .null, .int 0, .int 0, .null, .null, .null, .null, .null, .null, .null, .null, .int 0, .int 0, .null, .null, .null, .null, .long 0, .long 0, .null, .long 0, .int 0, .null, .null, .null, .int 0, .null, .null, .null, .null, .int 0])), (q1, .inl (k2, 1020, .inl (fun _ => 0))), (q5, .inl (k6, 2, .inl (fun _ => 0))), (q7, .inl (k8, 2, .inl (fun _ => 0))), (q9, .inl (k10, 2, .inl (fun _ => 0)))] H := hP
  have hD : va_D A [(h0, .inr (12, [.ref q1, .ref q3, .int 0, .int 0, .int 0, .int (-1), .int 0, .int 0, .int 0, .int 0, .long 0, .ref q5, .ref q7, .ref q9, .ref q11, .ref q13, .ref q15, .ref q17, .ref q19, .null, .null, .null, .null, .null, .null, .null, .null, .null, .null, .int 0, .int 0, .null, .null, .null, .null, .null, .null, .null, .null, .int 0, .int 0, .null, .null, .null, .null, .long 0, .long 0, .null, .long 0, .int 0, .null, .null, .null, .int 0, .null, .null, .null, .null, .int 0])), (q1, .inl (k2, 1020, .inl (fun _ => 0))), (q5, .inl (k6, 2, .inl (fun _ => 0))), (q7, .inl (k8, 2, .inl (fun _ => 0))), (q9, .inl (k10, 2, .inl (fun _ => 0)))] := hD
  refine lv_aload_n hx hb dX12_init_85 rfl (lv_at hl 0 rfl) ?_
  refine lv_bipush (v := 24) hx hb dX12_init_86 (by decide) ?_
  refine va_newa (atype := .int) (ty := .int) (a0 := (24, .inl (fun _ => 0))) (N' := 24) hx hb (ho (.arrayClass .int) (List.mem_of_getElem? (i := 7) rfl)) rfl hK hP hD hS hA (fun _ => rfl) (by decide) (by decide) (by decide +kernel) (Nat.le_of_ble_eq_true rfl) (Nat.le_of_ble_eq_true rfl) dX12_init_88 (fun q21 k22 H hK hP hD hS => ?_)
  have hP : va_P (dC, dI) vwCl [(h0, .inr (12, [.ref q1, .ref q3, .int 0, .int 0, .int 0, .int (-1), .int 0, .int 0, .int 0, .int 0, .long 0, .ref q5, .ref q7, .ref q9, .ref q11, .ref q13, .ref q15, .ref q17, .ref q19, .null, .null, .null, .null, .null, .null, .null, .null, .null, .null, .int 0, .int 0, .null, .null, .null, .null, .null, .null, .null, .null, .int 0, .int 0, .null, .null, .null, .null, .long 0, .long 0, .null, .long 0, .int 0, .null, .null, .null, .int 0, .null, .null, .null, .null, .int 0])), (q1, .inl (k2, 1020, .inl (fun _ => 0))), (q5, .inl (k6, 2, .inl (fun _ => 0))), (q7, .inl (k8, 2, .inl (fun _ => 0))), (q9, .inl (k10, 2, .inl (fun _ => 0))), (q21, .inl (k22, 24, .inl (fun _ => 0)))] H := hP
  have hD : va_D A [(h0, .inr (12, [.ref q1, .ref q3, .int 0, .int 0, .int 0, .int (-1), .int 0, .int 0, .int 0, .int 0, .long 0, .ref q5, .ref q7, .ref q9, .ref q11, .ref q13, .ref q15, .ref q17, .ref q19, .null, .null, .null, .null, .null, .null, .null, .null, .null, .null, .int 0, .int 0, .null, .null, .null, .null, .null, .null, .null, .null, .int 0, .int 0, .null, .null, .null, .null, .long 0, .long 0, .null, .long 0, .int 0, .null, .null, .null, .int 0, .null, .null, .null, .null, .int 0])), (q1, .inl (k2, 1020, .inl (fun _ => 0))), (q5, .inl (k6, 2, .inl (fun _ => 0))), (q7, .inl (k8, 2, .inl (fun _ => 0))), (q9, .inl (k10, 2, .inl (fun _ => 0))), (q21, .inl (k22, 24, .inl (fun _ => 0)))] := hD
  have hK : va_K (dC, dI) vwCl [(k2, .byte), (k6, .int), (k8, .int), (k10, .int), (k22, .int)] s := hK
  refine W.widen (k := 11) (n := 2110) (Nat.le_of_ble_eq_true rfl) (Nat.le_of_ble_eq_true rfl) ?_
  have hP := hP.sub (ws' := [(h0, .inr (12, [.ref q1, .ref q3, .int 0, .int 0, .int 0, .int (-1), .int 0, .int 0, .int 0, .int 0, .long 0, .ref q5, .ref q7, .ref q9, .ref q11, .ref q13, .ref q15, .ref q17, .ref q19, .null, .null, .null, .null, .null, .null, .null, .null, .null, .null, .int 0, .int 0, .null, .null, .null, .null, .null, .null, .null, .null, .int 0, .int 0, .null, .null, .null, .null, .long 0, .long 0, .null, .long 0, .int 0, .null, .null, .null, .int 0, .null, .null, .null, .null, .int 0])), (q1, .inl (k2, 1020, .inl (fun _ => 0))), (q5, .inl (k6, 2, .inl (fun _ => 0))), (q7, .inl (k8, 2, .inl (fun _ => 0))), (q9, .inl (k10, 2, .inl (fun _ => 0)))]) [0, 1, 2, 3, 4] rfl
  have hD := hD.sub (ws' := [(h0, .inr (12, [.ref q1, .ref q3, .int 0, .int 0, .int 0, .int (-1), .int 0, .int 0, .int 0, .int 0, .long 0, .ref q5, .ref q7, .ref q9, .ref q11, .ref q13, .ref q15, .ref q17, .ref q19, .null, .null, .null, .null, .null, .null, .null, .null, .null, .null, .int 0, .int 0, .null, .null, .null, .null, .null, .null, .null, .null, .int 0, .int 0, .null, .null, .null, .null, .long 0, .long 0, .null, .long 0, .int 0, .null, .null, .null, .int 0, .null, .null, .null, .null, .int 0])), (q1, .inl (k2, 1020, .inl (fun _ => 0))), (q5, .inl (k6, 2, .inl (fun _ => 0))), (q7, .inl (k8, 2, .inl (fun _ => 0))), (q9, .inl (k10, 2, .inl (fun _ => 0)))]) [0, 1, 2, 3, 4] (by decide) rfl
  have hK := hK.sub (tys' := [(k2, .byte), (k6, .int), (k8, .int), (k10, .int)]) [0, 1, 2, 3] rfl
  refine va_putF (D := (dC, dI)) (ci := 12) (v := .ref q21) (ty := tyX12 19) (C := RX12) (T := TX12) (N := 59) hx hb hts hin12 tyX12 tyX12_ok nmX12 hown hK hP hD hS 0 rfl rfl 19 (by decide) (ho (.fieldLink RX12 45 "NearEnoughModel" "sB" "[I") (List.mem_of_getElem? (i := 16) rfl)) (fun _ h9 => h9) rfl hin rfl (by decide +kernel) rfl rfl (Nat.le_of_ble_eq_true rfl) dX12_init_90 (fun H locs hP hD hS => ?_)
  have hP : va_P (dC, dI) vwCl [(h0, .inr (12, [.ref q1, .ref q3, .int 0, .int 0, .int 0, .int (-1), .int 0, .int 0, .int 0, .int 0, .long 0, .ref q5, .ref q7, .ref q9, .ref q11, .ref q13, .ref q15, .ref q17, .ref q19, .ref q21, .null, .null, .null, .null, .null, .null, .null, .null, .null, .int 0, .int 0, .null, .null, .null, .null, .null, .null, .null, .null, .int 0, .int 0, .null, .null, .null, .null, .long 0, .long 0, .null, .long 0, .int 0, .null, .null, .null, .int 0, .null, .null, .null, .null, .int 0])), (q1, .inl (k2, 1020, .inl (fun _ => 0))), (q5, .inl (k6, 2, .inl (fun _ => 0))), (q7, .inl (k8, 2, .inl (fun _ => 0))), (q9, .inl (k10, 2, .inl (fun _ => 0)))] H := hP
  have hD : va_D A [(h0, .inr (12, [.ref q1, .ref q3, .int 0, .int 0, .int 0, .int (-1), .int 0, .int 0, .int 0, .int 0, .long 0, .ref q5, .ref q7, .ref q9, .ref q11, .ref q13, .ref q15, .ref q17, .ref q19, .ref q21, .null, .null, .null, .null, .null, .null, .null, .null, .null, .int 0, .int 0, .null, .null, .null, .null, .null, .null, .null, .null, .int 0, .int 0, .null, .null, .null, .null, .long 0, .long 0, .null, .long 0, .int 0, .null, .null, .null, .int 0, .null, .null, .null, .null, .int 0])), (q1, .inl (k2, 1020, .inl (fun _ => 0))), (q5, .inl (k6, 2, .inl (fun _ => 0))), (q7, .inl (k8, 2, .inl (fun _ => 0))), (q9, .inl (k10, 2, .inl (fun _ => 0)))] := hD
  refine lv_aload_n hx hb dX12_init_93 rfl (lv_at hl 0 rfl) ?_
  refine lv_bipush (v := 24) hx hb dX12_init_94 (by decide) ?_
  refine va_newa (atype := .int) (ty := .int) (a0 := (24, .inl (fun _ => 0))) (N' := 24) hx hb (ho (.arrayClass .int) (List.mem_of_getElem? (i := 7) rfl)) rfl hK hP hD hS hA (fun _ => rfl) (by decide) (by decide) (by decide +kernel) (Nat.le_of_ble_eq_true rfl) (Nat.le_of_ble_eq_true rfl) dX12_init_96 (fun q23 k24 H hK hP hD hS => ?_)
  have hP : va_P (dC, dI) vwCl [(h0, .inr (12, [.ref q1, .ref q3, .int 0, .int 0, .int 0, .int (-1), .int 0, .int 0, .int 0, .int 0, .long 0, .ref q5, .ref q7, .ref q9, .ref q11, .ref q13, .ref q15, .ref q17, .ref q19, .ref q21, .null, .null, .null, .null, .null, .null, .null, .null, .null, .int 0, .int 0, .null, .null, .null, .null, .null, .null, .null, .null, .int 0, .int 0, .null, .null, .null, .null, .long 0, .long 0, .null, .long 0, .int 0, .null, .null, .null, .int 0, .null, .null, .null, .null, .int 0])), (q1, .inl (k2, 1020, .inl (fun _ => 0))), (q5, .inl (k6, 2, .inl (fun _ => 0))), (q7, .inl (k8, 2, .inl (fun _ => 0))), (q9, .inl (k10, 2, .inl (fun _ => 0))), (q23, .inl (k24, 24, .inl (fun _ => 0)))] H := hP
  have hD : va_D A [(h0, .inr (12, [.ref q1, .ref q3, .int 0, .int 0, .int 0, .int (-1), .int 0, .int 0, .int 0, .int 0, .long 0, .ref q5, .ref q7, .ref q9, .ref q11, .ref q13, .ref q15, .ref q17, .ref q19, .ref q21, .null, .null, .null, .null, .null, .null, .null, .null, .null, .int 0, .int 0, .null, .null, .null, .null, .null, .null, .null, .null, .int 0, .int 0, .null, .null, .null, .null, .long 0, .long 0, .null, .long 0, .int 0, .null, .null, .null, .int 0, .null, .null, .null, .null, .int 0])), (q1, .inl (k2, 1020, .inl (fun _ => 0))), (q5, .inl (k6, 2, .inl (fun _ => 0))), (q7, .inl (k8, 2, .inl (fun _ => 0))), (q9, .inl (k10, 2, .inl (fun _ => 0))), (q23, .inl (k24, 24, .inl (fun _ => 0)))] := hD
  have hK : va_K (dC, dI) vwCl [(k2, .byte), (k6, .int), (k8, .int), (k10, .int), (k24, .int)] s := hK
  refine W.widen (k := 12) (n := 2134) (Nat.le_of_ble_eq_true rfl) (Nat.le_of_ble_eq_true rfl) ?_
  have hP := hP.sub (ws' := [(h0, .inr (12, [.ref q1, .ref q3, .int 0, .int 0, .int 0, .int (-1), .int 0, .int 0, .int 0, .int 0, .long 0, .ref q5, .ref q7, .ref q9, .ref q11, .ref q13, .ref q15, .ref q17, .ref q19, .ref q21, .null, .null, .null, .null, .null, .null, .null, .null, .null, .int 0, .int 0, .null, .null, .null, .null, .null, .null, .null, .null, .int 0, .int 0, .null, .null, .null, .null, .long 0, .long 0, .null, .long 0, .int 0, .null, .null, .null, .int 0, .null, .null, .null, .null, .int 0])), (q1, .inl (k2, 1020, .inl (fun _ => 0))), (q5, .inl (k6, 2, .inl (fun _ => 0))), (q7, .inl (k8, 2, .inl (fun _ => 0))), (q9, .inl (k10, 2, .inl (fun _ => 0)))]) [0, 1, 2, 3, 4] rfl
  have hD := hD.sub (ws' := [(h0, .inr (12, [.ref q1, .ref q3, .int 0, .int 0, .int 0, .int (-1), .int 0, .int 0, .int 0, .int 0, .long 0, .ref q5, .ref q7, .ref q9, .ref q11, .ref q13, .ref q15, .ref q17, .ref q19, .ref q21, .null, .null, .null, .null, .null, .null, .null, .null, .null, .int 0, .int 0, .null, .null, .null, .null, .null, .null, .null, .null, .int 0, .int 0, .null, .null, .null, .null, .long 0, .long 0, .null, .long 0, .int 0, .null, .null, .null, .int 0, .null, .null, .null, .null, .int 0])), (q1, .inl (k2, 1020, .inl (fun _ => 0))), (q5, .inl (k6, 2, .inl (fun _ => 0))), (q7, .inl (k8, 2, .inl (fun _ => 0))), (q9, .inl (k10, 2, .inl (fun _ => 0)))]) [0, 1, 2, 3, 4] (by decide) rfl
  have hK := hK.sub (tys' := [(k2, .byte), (k6, .int), (k8, .int), (k10, .int)]) [0, 1, 2, 3] rfl
  refine va_putF (D := (dC, dI)) (ci := 12) (v := .ref q23) (ty := tyX12 20) (C := RX12) (T := TX12) (N := 59) hx hb hts hin12 tyX12 tyX12_ok nmX12 hown hK hP hD hS 0 rfl rfl 20 (by decide) (ho (.fieldLink RX12 48 "NearEnoughModel" "sC" "[I") (List.mem_of_getElem? (i := 17) rfl)) (fun _ h9 => h9) rfl hin rfl (by decide +kernel) rfl rfl (Nat.le_of_ble_eq_true rfl) dX12_init_98 (fun H locs hP hD hS => ?_)
  have hP : va_P (dC, dI) vwCl [(h0, .inr (12, [.ref q1, .ref q3, .int 0, .int 0, .int 0, .int (-1), .int 0, .int 0, .int 0, .int 0, .long 0, .ref q5, .ref q7, .ref q9, .ref q11, .ref q13, .ref q15, .ref q17, .ref q19, .ref q21, .ref q23, .null, .null, .null, .null, .null, .null, .null, .null, .int 0, .int 0, .null, .null, .null, .null, .null, .null, .null, .null, .int 0, .int 0, .null, .null, .null, .null, .long 0, .long 0, .null, .long 0, .int 0, .null, .null, .null, .int 0, .null, .null, .null, .null, .int 0])), (q1, .inl (k2, 1020, .inl (fun _ => 0))), (q5, .inl (k6, 2, .inl (fun _ => 0))), (q7, .inl (k8, 2, .inl (fun _ => 0))), (q9, .inl (k10, 2, .inl (fun _ => 0)))] H := hP
  have hD : va_D A [(h0, .inr (12, [.ref q1, .ref q3, .int 0, .int 0, .int 0, .int (-1), .int 0, .int 0, .int 0, .int 0, .long 0, .ref q5, .ref q7, .ref q9, .ref q11, .ref q13, .ref q15, .ref q17, .ref q19, .ref q21, .ref q23, .null, .null, .null, .null, .null, .null, .null, .null, .int 0, .int 0, .null, .null, .null, .null, .null, .null, .null, .null, .int 0, .int 0, .null, .null, .null, .null, .long 0, .long 0, .null, .long 0, .int 0, .null, .null, .null, .int 0, .null, .null, .null, .null, .int 0])), (q1, .inl (k2, 1020, .inl (fun _ => 0))), (q5, .inl (k6, 2, .inl (fun _ => 0))), (q7, .inl (k8, 2, .inl (fun _ => 0))), (q9, .inl (k10, 2, .inl (fun _ => 0)))] := hD
  refine lv_aload_n hx hb dX12_init_101 rfl (lv_at hl 0 rfl) ?_
  refine lv_bipush (v := 24) hx hb dX12_init_102 (by decide) ?_
  refine va_newa (atype := .int) (ty := .int) (a0 := (24, .inl (fun _ => 0))) (N' := 24) hx hb (ho (.arrayClass .int) (List.mem_of_getElem? (i := 7) rfl)) rfl hK hP hD hS hA (fun _ => rfl) (by decide) (by decide) (by decide +kernel) (Nat.le_of_ble_eq_true rfl) (Nat.le_of_ble_eq_true rfl) dX12_init_104 (fun q25 k26 H hK hP hD hS => ?_)
  have hP : va_P (dC, dI) vwCl [(h0, .inr (12, [.ref q1, .ref q3, .int 0, .int 0, .int 0, .int (-1), .int 0, .int 0, .int 0, .int 0, .long 0, .ref q5, .ref q7, .ref q9, .ref q11, .ref q13, .ref q15, .ref q17, .ref q19, .ref q21, .ref q23, .null, .null, .null, .null, .null, .null, .null, .null, .int 0, .int 0, .null, .null, .null, .null, .null, .null, .null, .null, .int 0, .int 0, .null, .null, .null, .null, .long 0, .long 0, .null, .long 0, .int 0, .null, .null, .null, .int 0, .null, .null, .null, .null, .int 0])), (q1, .inl (k2, 1020, .inl (fun _ => 0))), (q5, .inl (k6, 2, .inl (fun _ => 0))), (q7, .inl (k8, 2, .inl (fun _ => 0))), (q9, .inl (k10, 2, .inl (fun _ => 0))), (q25, .inl (k26, 24, .inl (fun _ => 0)))] H := hP
  have hD : va_D A [(h0, .inr (12, [.ref q1, .ref q3, .int 0, .int 0, .int 0, .int (-1), .int 0, .int 0, .int 0, .int 0, .long 0, .ref q5, .ref q7, .ref q9, .ref q11, .ref q13, .ref q15, .ref q17, .ref q19, .ref q21, .ref q23, .null, .null, .null, .null, .null, .null, .null, .null, .int 0, .int 0, .null, .null, .null, .null, .null, .null, .null, .null, .int 0, .int 0, .null, .null, .null, .null, .long 0, .long 0, .null, .long 0, .int 0, .null, .null, .null, .int 0, .null, .null, .null, .null, .int 0])), (q1, .inl (k2, 1020, .inl (fun _ => 0))), (q5, .inl (k6, 2, .inl (fun _ => 0))), (q7, .inl (k8, 2, .inl (fun _ => 0))), (q9, .inl (k10, 2, .inl (fun _ => 0))), (q25, .inl (k26, 24, .inl (fun _ => 0)))] := hD
  have hK : va_K (dC, dI) vwCl [(k2, .byte), (k6, .int), (k8, .int), (k10, .int), (k26, .int)] s := hK
  refine W.widen (k := 13) (n := 2158) (Nat.le_of_ble_eq_true rfl) (Nat.le_of_ble_eq_true rfl) ?_
  have hP := hP.sub (ws' := [(h0, .inr (12, [.ref q1, .ref q3, .int 0, .int 0, .int 0, .int (-1), .int 0, .int 0, .int 0, .int 0, .long 0, .ref q5, .ref q7, .ref q9, .ref q11, .ref q13, .ref q15, .ref q17, .ref q19, .ref q21, .ref q23, .null, .null, .null, .null, .null, .null, .null, .null, .int 0, .int 0, .null, .null, .null, .null, .null, .null, .null, .null, .int 0, .int 0, .null, .null, .null, .null, .long 0, .long 0, .null, .long 0, .int 0, .null, .null, .null, .int 0, .null, .null, .null, .null, .int 0])), (q1, .inl (k2, 1020, .inl (fun _ => 0))), (q5, .inl (k6, 2, .inl (fun _ => 0))), (q7, .inl (k8, 2, .inl (fun _ => 0))), (q9, .inl (k10, 2, .inl (fun _ => 0)))]) [0, 1, 2, 3, 4] rfl
  have hD := hD.sub (ws' := [(h0, .inr (12, [.ref q1, .ref q3, .int 0, .int 0, .int 0, .int (-1), .int 0, .int 0, .int 0, .int 0, .long 0, .ref q5, .ref q7, .ref q9, .ref q11, .ref q13, .ref q15, .ref q17, .ref q19, .ref q21, .ref q23, .null, .null, .null, .null, .null, .null, .null, .null, .int 0, .int 0, .null, .null, .null, .null, .null, .null, .null, .null, .int 0, .int 0, .null, .null, .null, .null, .long 0, .long 0, .null, .long 0, .int 0, .null, .null, .null, .int 0, .null, .null, .null, .null, .int 0])), (q1, .inl (k2, 1020, .inl (fun _ => 0))), (q5, .inl (k6, 2, .inl (fun _ => 0))), (q7, .inl (k8, 2, .inl (fun _ => 0))), (q9, .inl (k10, 2, .inl (fun _ => 0)))]) [0, 1, 2, 3, 4] (by decide) rfl
  have hK := hK.sub (tys' := [(k2, .byte), (k6, .int), (k8, .int), (k10, .int)]) [0, 1, 2, 3] rfl
  refine va_putF (D := (dC, dI)) (ci := 12) (v := .ref q25) (ty := tyX12 21) (C := RX12) (T := TX12) (N := 59) hx hb hts hin12 tyX12 tyX12_ok nmX12 hown hK hP hD hS 0 rfl rfl 21 (by decide) (ho (.fieldLink RX12 51 "NearEnoughModel" "sD" "[I") (List.mem_of_getElem? (i := 18) rfl)) (fun _ h9 => h9) rfl hin rfl (by decide +kernel) rfl rfl (Nat.le_of_ble_eq_true rfl) dX12_init_106 (fun H locs hP hD hS => ?_)
  have hP : va_P (dC, dI) vwCl [(h0, .inr (12, [.ref q1, .ref q3, .int 0, .int 0, .int 0, .int (-1), .int 0, .int 0, .int 0, .int 0, .long 0, .ref q5, .ref q7, .ref q9, .ref q11, .ref q13, .ref q15, .ref q17, .ref q19, .ref q21, .ref q23, .ref q25, .null, .null, .null, .null, .null, .null, .null, .int 0, .int 0, .null, .null, .null, .null, .null, .null, .null, .null, .int 0, .int 0, .null, .null, .null, .null, .long 0, .long 0, .null, .long 0, .int 0, .null, .null, .null, .int 0, .null, .null, .null, .null, .int 0])), (q1, .inl (k2, 1020, .inl (fun _ => 0))), (q5, .inl (k6, 2, .inl (fun _ => 0))), (q7, .inl (k8, 2, .inl (fun _ => 0))), (q9, .inl (k10, 2, .inl (fun _ => 0)))] H := hP
  have hD : va_D A [(h0, .inr (12, [.ref q1, .ref q3, .int 0, .int 0, .int 0, .int (-1), .int 0, .int 0, .int 0, .int 0, .long 0, .ref q5, .ref q7, .ref q9, .ref q11, .ref q13, .ref q15, .ref q17, .ref q19, .ref q21, .ref q23, .ref q25, .null, .null, .null, .null, .null, .null, .null, .int 0, .int 0, .null, .null, .null, .null, .null, .null, .null, .null, .int 0, .int 0, .null, .null, .null, .null, .long 0, .long 0, .null, .long 0, .int 0, .null, .null, .null, .int 0, .null, .null, .null, .null, .int 0])), (q1, .inl (k2, 1020, .inl (fun _ => 0))), (q5, .inl (k6, 2, .inl (fun _ => 0))), (q7, .inl (k8, 2, .inl (fun _ => 0))), (q9, .inl (k10, 2, .inl (fun _ => 0)))] := hD
  refine lv_aload_n hx hb dX12_init_109 rfl (lv_at hl 0 rfl) ?_
  refine lv_bipush (v := 8) hx hb dX12_init_110 (by decide) ?_
  refine va_newa (atype := .int) (ty := .int) (a0 := (8, .inl (fun _ => 0))) (N' := 8) hx hb (ho (.arrayClass .int) (List.mem_of_getElem? (i := 7) rfl)) rfl hK hP hD hS hA (fun _ => rfl) (by decide) (by decide) (by decide +kernel) (Nat.le_of_ble_eq_true rfl) (Nat.le_of_ble_eq_true rfl) dX12_init_112 (fun q27 k28 H hK hP hD hS => ?_)
  have hP : va_P (dC, dI) vwCl [(h0, .inr (12, [.ref q1, .ref q3, .int 0, .int 0, .int 0, .int (-1), .int 0, .int 0, .int 0, .int 0, .long 0, .ref q5, .ref q7, .ref q9, .ref q11, .ref q13, .ref q15, .ref q17, .ref q19, .ref q21, .ref q23, .ref q25, .null, .null, .null, .null, .null, .null, .null, .int 0, .int 0, .null, .null, .null, .null, .null, .null, .null, .null, .int 0, .int 0, .null, .null, .null, .null, .long 0, .long 0, .null, .long 0, .int 0, .null, .null, .null, .int 0, .null, .null, .null, .null, .int 0])), (q1, .inl (k2, 1020, .inl (fun _ => 0))), (q5, .inl (k6, 2, .inl (fun _ => 0))), (q7, .inl (k8, 2, .inl (fun _ => 0))), (q9, .inl (k10, 2, .inl (fun _ => 0))), (q27, .inl (k28, 8, .inl (fun _ => 0)))] H := hP
  have hD : va_D A [(h0, .inr (12, [.ref q1, .ref q3, .int 0, .int 0, .int 0, .int (-1), .int 0, .int 0, .int 0, .int 0, .long 0, .ref q5, .ref q7, .ref q9, .ref q11, .ref q13, .ref q15, .ref q17, .ref q19, .ref q21, .ref q23, .ref q25, .null, .null, .null, .null, .null, .null, .null, .int 0, .int 0, .null, .null, .null, .null, .null, .null, .null, .null, .int 0, .int 0, .null, .null, .null, .null, .long 0, .long 0, .null, .long 0, .int 0, .null, .null, .null, .int 0, .null, .null, .null, .null, .int 0])), (q1, .inl (k2, 1020, .inl (fun _ => 0))), (q5, .inl (k6, 2, .inl (fun _ => 0))), (q7, .inl (k8, 2, .inl (fun _ => 0))), (q9, .inl (k10, 2, .inl (fun _ => 0))), (q27, .inl (k28, 8, .inl (fun _ => 0)))] := hD
  have hK : va_K (dC, dI) vwCl [(k2, .byte), (k6, .int), (k8, .int), (k10, .int), (k28, .int)] s := hK
  refine W.widen (k := 14) (n := 2166) (Nat.le_of_ble_eq_true rfl) (Nat.le_of_ble_eq_true rfl) ?_
  have hP := hP.sub (ws' := [(h0, .inr (12, [.ref q1, .ref q3, .int 0, .int 0, .int 0, .int (-1), .int 0, .int 0, .int 0, .int 0, .long 0, .ref q5, .ref q7, .ref q9, .ref q11, .ref q13, .ref q15, .ref q17, .ref q19, .ref q21, .ref q23, .ref q25, .null, .null, .null, .null, .null, .null, .null, .int 0, .int 0, .null, .null, .null, .null, .null, .null, .null, .null, .int 0, .int 0, .null, .null, .null, .null, .long 0, .long 0, .null, .long 0, .int 0, .null, .null, .null, .int 0, .null, .null, .null, .null, .int 0])), (q1, .inl (k2, 1020, .inl (fun _ => 0))), (q5, .inl (k6, 2, .inl (fun _ => 0))), (q7, .inl (k8, 2, .inl (fun _ => 0))), (q9, .inl (k10, 2, .inl (fun _ => 0)))]) [0, 1, 2, 3, 4] rfl
  have hD := hD.sub (ws' := [(h0, .inr (12, [.ref q1, .ref q3, .int 0, .int 0, .int 0, .int (-1), .int 0, .int 0, .int 0, .int 0, .long 0, .ref q5, .ref q7, .ref q9, .ref q11, .ref q13, .ref q15, .ref q17, .ref q19, .ref q21, .ref q23, .ref q25, .null, .null, .null, .null, .null, .null, .null, .int 0, .int 0, .null, .null, .null, .null, .null, .null, .null, .null, .int 0, .int 0, .null, .null, .null, .null, .long 0, .long 0, .null, .long 0, .int 0, .null, .null, .null, .int 0, .null, .null, .null, .null, .int 0])), (q1, .inl (k2, 1020, .inl (fun _ => 0))), (q5, .inl (k6, 2, .inl (fun _ => 0))), (q7, .inl (k8, 2, .inl (fun _ => 0))), (q9, .inl (k10, 2, .inl (fun _ => 0)))]) [0, 1, 2, 3, 4] (by decide) rfl
  have hK := hK.sub (tys' := [(k2, .byte), (k6, .int), (k8, .int), (k10, .int)]) [0, 1, 2, 3] rfl
  refine va_putF (D := (dC, dI)) (ci := 12) (v := .ref q27) (ty := tyX12 22) (C := RX12) (T := TX12) (N := 59) hx hb hts hin12 tyX12 tyX12_ok nmX12 hown hK hP hD hS 0 rfl rfl 22 (by decide) (ho (.fieldLink RX12 54 "NearEnoughModel" "eStep" "[I") (List.mem_of_getElem? (i := 19) rfl)) (fun _ h9 => h9) rfl hin rfl (by decide +kernel) rfl rfl (Nat.le_of_ble_eq_true rfl) dX12_init_114 (fun H locs hP hD hS => ?_)
  have hP : va_P (dC, dI) vwCl [(h0, .inr (12, [.ref q1, .ref q3, .int 0, .int 0, .int 0, .int (-1), .int 0, .int 0, .int 0, .int 0, .long 0, .ref q5, .ref q7, .ref q9, .ref q11, .ref q13, .ref q15, .ref q17, .ref q19, .ref q21, .ref q23, .ref q25, .ref q27, .null, .null, .null, .null, .null, .null, .int 0, .int 0, .null, .null, .null, .null, .null, .null, .null, .null, .int 0, .int 0, .null, .null, .null, .null, .long 0, .long 0, .null, .long 0, .int 0, .null, .null, .null, .int 0, .null, .null, .null, .null, .int 0])), (q1, .inl (k2, 1020, .inl (fun _ => 0))), (q5, .inl (k6, 2, .inl (fun _ => 0))), (q7, .inl (k8, 2, .inl (fun _ => 0))), (q9, .inl (k10, 2, .inl (fun _ => 0)))] H := hP
  have hD : va_D A [(h0, .inr (12, [.ref q1, .ref q3, .int 0, .int 0, .int 0, .int (-1), .int 0, .int 0, .int 0, .int 0, .long 0, .ref q5, .ref q7, .ref q9, .ref q11, .ref q13, .ref q15, .ref q17, .ref q19, .ref q21, .ref q23, .ref q25, .ref q27, .null, .null, .null, .null, .null, .null, .int 0, .int 0, .null, .null, .null, .null, .null, .null, .null, .null, .int 0, .int 0, .null, .null, .null, .null, .long 0, .long 0, .null, .long 0, .int 0, .null, .null, .null, .int 0, .null, .null, .null, .null, .int 0])), (q1, .inl (k2, 1020, .inl (fun _ => 0))), (q5, .inl (k6, 2, .inl (fun _ => 0))), (q7, .inl (k8, 2, .inl (fun _ => 0))), (q9, .inl (k10, 2, .inl (fun _ => 0)))] := hD
  refine lv_aload_n hx hb dX12_init_117 rfl (lv_at hl 0 rfl) ?_
  refine lv_bipush (v := 8) hx hb dX12_init_118 (by decide) ?_
  refine va_newa (atype := .int) (ty := .int) (a0 := (8, .inl (fun _ => 0))) (N' := 8) hx hb (ho (.arrayClass .int) (List.mem_of_getElem? (i := 7) rfl)) rfl hK hP hD hS hA (fun _ => rfl) (by decide) (by decide) (by decide +kernel) (Nat.le_of_ble_eq_true rfl) (Nat.le_of_ble_eq_true rfl) dX12_init_120 (fun q29 k30 H hK hP hD hS => ?_)
  have hP : va_P (dC, dI) vwCl [(h0, .inr (12, [.ref q1, .ref q3, .int 0, .int 0, .int 0, .int (-1), .int 0, .int 0, .int 0, .int 0, .long 0, .ref q5, .ref q7, .ref q9, .ref q11, .ref q13, .ref q15, .ref q17, .ref q19, .ref q21, .ref q23, .ref q25, .ref q27, .null, .null, .null, .null, .null, .null, .int 0, .int 0, .null, .null, .null, .null, .null, .null, .null, .null, .int 0, .int 0, .null, .null, .null, .null, .long 0, .long 0, .null, .long 0, .int 0, .null, .null, .null, .int 0, .null, .null, .null, .null, .int 0])), (q1, .inl (k2, 1020, .inl (fun _ => 0))), (q5, .inl (k6, 2, .inl (fun _ => 0))), (q7, .inl (k8, 2, .inl (fun _ => 0))), (q9, .inl (k10, 2, .inl (fun _ => 0))), (q29, .inl (k30, 8, .inl (fun _ => 0)))] H := hP
  have hD : va_D A [(h0, .inr (12, [.ref q1, .ref q3, .int 0, .int 0, .int 0, .int (-1), .int 0, .int 0, .int 0, .int 0, .long 0, .ref q5, .ref q7, .ref q9, .ref q11, .ref q13, .ref q15, .ref q17, .ref q19, .ref q21, .ref q23, .ref q25, .ref q27, .null, .null, .null, .null, .null, .null, .int 0, .int 0, .null, .null, .null, .null, .null, .null, .null, .null, .int 0, .int 0, .null, .null, .null, .null, .long 0, .long 0, .null, .long 0, .int 0, .null, .null, .null, .int 0, .null, .null, .null, .null, .int 0])), (q1, .inl (k2, 1020, .inl (fun _ => 0))), (q5, .inl (k6, 2, .inl (fun _ => 0))), (q7, .inl (k8, 2, .inl (fun _ => 0))), (q9, .inl (k10, 2, .inl (fun _ => 0))), (q29, .inl (k30, 8, .inl (fun _ => 0)))] := hD
  have hK : va_K (dC, dI) vwCl [(k2, .byte), (k6, .int), (k8, .int), (k10, .int), (k30, .int)] s := hK
  refine W.widen (k := 15) (n := 2174) (Nat.le_of_ble_eq_true rfl) (Nat.le_of_ble_eq_true rfl) ?_
  have hP := hP.sub (ws' := [(h0, .inr (12, [.ref q1, .ref q3, .int 0, .int 0, .int 0, .int (-1), .int 0, .int 0, .int 0, .int 0, .long 0, .ref q5, .ref q7, .ref q9, .ref q11, .ref q13, .ref q15, .ref q17, .ref q19, .ref q21, .ref q23, .ref q25, .ref q27, .null, .null, .null, .null, .null, .null, .int 0, .int 0, .null, .null, .null, .null, .null, .null, .null, .null, .int 0, .int 0, .null, .null, .null, .null, .long 0, .long 0, .null, .long 0, .int 0, .null, .null, .null, .int 0, .null, .null, .null, .null, .int 0])), (q1, .inl (k2, 1020, .inl (fun _ => 0))), (q5, .inl (k6, 2, .inl (fun _ => 0))), (q7, .inl (k8, 2, .inl (fun _ => 0))), (q9, .inl (k10, 2, .inl (fun _ => 0)))]) [0, 1, 2, 3, 4] rfl
  have hD := hD.sub (ws' := [(h0, .inr (12, [.ref q1, .ref q3, .int 0, .int 0, .int 0, .int (-1), .int 0, .int 0, .int 0, .int 0, .long 0, .ref q5, .ref q7, .ref q9, .ref q11, .ref q13, .ref q15, .ref q17, .ref q19, .ref q21, .ref q23, .ref q25, .ref q27, .null, .null, .null, .null, .null, .null, .int 0, .int 0, .null, .null, .null, .null, .null, .null, .null, .null, .int 0, .int 0, .null, .null, .null, .null, .long 0, .long 0, .null, .long 0, .int 0, .null, .null, .null, .int 0, .null, .null, .null, .null, .int 0])), (q1, .inl (k2, 1020, .inl (fun _ => 0))), (q5, .inl (k6, 2, .inl (fun _ => 0))), (q7, .inl (k8, 2, .inl (fun _ => 0))), (q9, .inl (k10, 2, .inl (fun _ => 0)))]) [0, 1, 2, 3, 4] (by decide) rfl
  have hK := hK.sub (tys' := [(k2, .byte), (k6, .int), (k8, .int), (k10, .int)]) [0, 1, 2, 3] rfl
  refine va_putF (D := (dC, dI)) (ci := 12) (v := .ref q29) (ty := tyX12 23) (C := RX12) (T := TX12) (N := 59) hx hb hts hin12 tyX12 tyX12_ok nmX12 hown hK hP hD hS 0 rfl rfl 23 (by decide) (ho (.fieldLink RX12 57 "NearEnoughModel" "eOff" "[I") (List.mem_of_getElem? (i := 20) rfl)) (fun _ h9 => h9) rfl hin rfl (by decide +kernel) rfl rfl (Nat.le_of_ble_eq_true rfl) dX12_init_122 (fun H locs hP hD hS => ?_)
  have hP : va_P (dC, dI) vwCl [(h0, .inr (12, [.ref q1, .ref q3, .int 0, .int 0, .int 0, .int (-1), .int 0, .int 0, .int 0, .int 0, .long 0, .ref q5, .ref q7, .ref q9, .ref q11, .ref q13, .ref q15, .ref q17, .ref q19, .ref q21, .ref q23, .ref q25, .ref q27, .ref q29, .null, .null, .null, .null, .null, .int 0, .int 0, .null, .null, .null, .null, .null, .null, .null, .null, .int 0, .int 0, .null, .null, .null, .null, .long 0, .long 0, .null, .long 0, .int 0, .null, .null, .null, .int 0, .null, .null, .null, .null, .int 0])), (q1, .inl (k2, 1020, .inl (fun _ => 0))), (q5, .inl (k6, 2, .inl (fun _ => 0))), (q7, .inl (k8, 2, .inl (fun _ => 0))), (q9, .inl (k10, 2, .inl (fun _ => 0)))] H := hP
  have hD : va_D A [(h0, .inr (12, [.ref q1, .ref q3, .int 0, .int 0, .int 0, .int (-1), .int 0, .int 0, .int 0, .int 0, .long 0, .ref q5, .ref q7, .ref q9, .ref q11, .ref q13, .ref q15, .ref q17, .ref q19, .ref q21, .ref q23, .ref q25, .ref q27, .ref q29, .null, .null, .null, .null, .null, .int 0, .int 0, .null, .null, .null, .null, .null, .null, .null, .null, .int 0, .int 0, .null, .null, .null, .null, .long 0, .long 0, .null, .long 0, .int 0, .null, .null, .null, .int 0, .null, .null, .null, .null, .int 0])), (q1, .inl (k2, 1020, .inl (fun _ => 0))), (q5, .inl (k6, 2, .inl (fun _ => 0))), (q7, .inl (k8, 2, .inl (fun _ => 0))), (q9, .inl (k10, 2, .inl (fun _ => 0)))] := hD
  refine lv_aload_n hx hb dX12_init_125 rfl (lv_at hl 0 rfl) ?_
  refine lv_bipush (v := 8) hx hb dX12_init_126 (by decide) ?_
  refine va_newa (atype := .int) (ty := .int) (a0 := (8, .inl (fun _ => 0))) (N' := 8) hx hb (ho (.arrayClass .int) (List.mem_of_getElem? (i := 7) rfl)) rfl hK hP hD hS hA (fun _ => rfl) (by decide) (by decide) (by decide +kernel) (Nat.le_of_ble_eq_true rfl) (Nat.le_of_ble_eq_true rfl) dX12_init_128 (fun q31 k32 H hK hP hD hS => ?_)
  have hP : va_P (dC, dI) vwCl [(h0, .inr (12, [.ref q1, .ref q3, .int 0, .int 0, .int 0, .int (-1), .int 0, .int 0, .int 0, .int 0, .long 0, .ref q5, .ref q7, .ref q9, .ref q11, .ref q13, .ref q15, .ref q17, .ref q19, .ref q21, .ref q23, .ref q25, .ref q27, .ref q29, .null, .null, .null, .null, .null, .int 0, .int 0, .null, .null, .null, .null, .null, .null, .null, .null, .int 0, .int 0, .null, .null, .null, .null, .long 0, .long 0, .null, .long 0, .int 0, .null, .null, .null, .int 0, .null, .null, .null, .null, .int 0])), (q1, .inl (k2, 1020, .inl (fun _ => 0))), (q5, .inl (k6, 2, .inl (fun _ => 0))), (q7, .inl (k8, 2, .inl (fun _ => 0))), (q9, .inl (k10, 2, .inl (fun _ => 0))), (q31, .inl (k32, 8, .inl (fun _ => 0)))] H := hP
  have hD : va_D A [(h0, .inr (12, [.ref q1, .ref q3, .int 0, .int 0, .int 0, .int (-1), .int 0, .int 0, .int 0, .int 0, .long 0, .ref q5, .ref q7, .ref q9, .ref q11, .ref q13, .ref q15, .ref q17, .ref q19, .ref q21, .ref q23, .ref q25, .ref q27, .ref q29, .null, .null, .null, .null, .null, .int 0, .int 0, .null, .null, .null, .null, .null, .null, .null, .null, .int 0, .int 0, .null, .null, .null, .null, .long 0, .long 0, .null, .long 0, .int 0, .null, .null, .null, .int 0, .null, .null, .null, .null, .int 0])), (q1, .inl (k2, 1020, .inl (fun _ => 0))), (q5, .inl (k6, 2, .inl (fun _ => 0))), (q7, .inl (k8, 2, .inl (fun _ => 0))), (q9, .inl (k10, 2, .inl (fun _ => 0))), (q31, .inl (k32, 8, .inl (fun _ => 0)))] := hD
  have hK : va_K (dC, dI) vwCl [(k2, .byte), (k6, .int), (k8, .int), (k10, .int), (k32, .int)] s := hK
  refine W.widen (k := 16) (n := 2182) (Nat.le_of_ble_eq_true rfl) (Nat.le_of_ble_eq_true rfl) ?_
  have hP := hP.sub (ws' := [(h0, .inr (12, [.ref q1, .ref q3, .int 0, .int 0, .int 0, .int (-1), .int 0, .int 0, .int 0, .int 0, .long 0, .ref q5, .ref q7, .ref q9, .ref q11, .ref q13, .ref q15, .ref q17, .ref q19, .ref q21, .ref q23, .ref q25, .ref q27, .ref q29, .null, .null, .null, .null, .null, .int 0, .int 0, .null, .null, .null, .null, .null, .null, .null, .null, .int 0, .int 0, .null, .null, .null, .null, .long 0, .long 0, .null, .long 0, .int 0, .null, .null, .null, .int 0, .null, .null, .null, .null, .int 0])), (q1, .inl (k2, 1020, .inl (fun _ => 0))), (q5, .inl (k6, 2, .inl (fun _ => 0))), (q7, .inl (k8, 2, .inl (fun _ => 0))), (q9, .inl (k10, 2, .inl (fun _ => 0)))]) [0, 1, 2, 3, 4] rfl
  have hD := hD.sub (ws' := [(h0, .inr (12, [.ref q1, .ref q3, .int 0, .int 0, .int 0, .int (-1), .int 0, .int 0, .int 0, .int 0, .long 0, .ref q5, .ref q7, .ref q9, .ref q11, .ref q13, .ref q15, .ref q17, .ref q19, .ref q21, .ref q23, .ref q25, .ref q27, .ref q29, .null, .null, .null, .null, .null, .int 0, .int 0, .null, .null, .null, .null, .null, .null, .null, .null, .int 0, .int 0, .null, .null, .null, .null, .long 0, .long 0, .null, .long 0, .int 0, .null, .null, .null, .int 0, .null, .null, .null, .null, .int 0])), (q1, .inl (k2, 1020, .inl (fun _ => 0))), (q5, .inl (k6, 2, .inl (fun _ => 0))), (q7, .inl (k8, 2, .inl (fun _ => 0))), (q9, .inl (k10, 2, .inl (fun _ => 0)))]) [0, 1, 2, 3, 4] (by decide) rfl
  have hK := hK.sub (tys' := [(k2, .byte), (k6, .int), (k8, .int), (k10, .int)]) [0, 1, 2, 3] rfl
  refine va_putF (D := (dC, dI)) (ci := 12) (v := .ref q31) (ty := tyX12 24) (C := RX12) (T := TX12) (N := 59) hx hb hts hin12 tyX12 tyX12_ok nmX12 hown hK hP hD hS 0 rfl rfl 24 (by decide) (ho (.fieldLink RX12 60 "NearEnoughModel" "eHow" "[I") (List.mem_of_getElem? (i := 21) rfl)) (fun _ h9 => h9) rfl hin rfl (by decide +kernel) rfl rfl (Nat.le_of_ble_eq_true rfl) dX12_init_130 (fun H locs hP hD hS => ?_)
  have hP : va_P (dC, dI) vwCl [(h0, .inr (12, [.ref q1, .ref q3, .int 0, .int 0, .int 0, .int (-1), .int 0, .int 0, .int 0, .int 0, .long 0, .ref q5, .ref q7, .ref q9, .ref q11, .ref q13, .ref q15, .ref q17, .ref q19, .ref q21, .ref q23, .ref q25, .ref q27, .ref q29, .ref q31, .null, .null, .null, .null, .int 0, .int 0, .null, .null, .null, .null, .null, .null, .null, .null, .int 0, .int 0, .null, .null, .null, .null, .long 0, .long 0, .null, .long 0, .int 0, .null, .null, .null, .int 0, .null, .null, .null, .null, .int 0])), (q1, .inl (k2, 1020, .inl (fun _ => 0))), (q5, .inl (k6, 2, .inl (fun _ => 0))), (q7, .inl (k8, 2, .inl (fun _ => 0))), (q9, .inl (k10, 2, .inl (fun _ => 0)))] H := hP
  have hD : va_D A [(h0, .inr (12, [.ref q1, .ref q3, .int 0, .int 0, .int 0, .int (-1), .int 0, .int 0, .int 0, .int 0, .long 0, .ref q5, .ref q7, .ref q9, .ref q11, .ref q13, .ref q15, .ref q17, .ref q19, .ref q21, .ref q23, .ref q25, .ref q27, .ref q29, .ref q31, .null, .null, .null, .null, .int 0, .int 0, .null, .null, .null, .null, .null, .null, .null, .null, .int 0, .int 0, .null, .null, .null, .null, .long 0, .long 0, .null, .long 0, .int 0, .null, .null, .null, .int 0, .null, .null, .null, .null, .int 0])), (q1, .inl (k2, 1020, .inl (fun _ => 0))), (q5, .inl (k6, 2, .inl (fun _ => 0))), (q7, .inl (k8, 2, .inl (fun _ => 0))), (q9, .inl (k10, 2, .inl (fun _ => 0)))] := hD
  refine lv_aload_n hx hb dX12_init_133 rfl (lv_at hl 0 rfl) ?_
  refine lv_iconst (v := 4) hx hb dX12_init_134 (by decide) ?_
  refine va_newa (atype := .long) (ty := .long) (a0 := (4, .inr (.inl (fun _ => 0)))) (N' := 4) hx hb (ho (.arrayClass .long) (List.mem_of_getElem? (i := 22) rfl)) rfl hK hP hD hS hA (fun _ => rfl) (by decide) (by decide) (by decide +kernel) (Nat.le_of_ble_eq_true rfl) (Nat.le_of_ble_eq_true rfl) dX12_init_135 (fun q33 k34 H hK hP hD hS => ?_)
  have hP : va_P (dC, dI) vwCl [(h0, .inr (12, [.ref q1, .ref q3, .int 0, .int 0, .int 0, .int (-1), .int 0, .int 0, .int 0, .int 0, .long 0, .ref q5, .ref q7, .ref q9, .ref q11, .ref q13, .ref q15, .ref q17, .ref q19, .ref q21, .ref q23, .ref q25, .ref q27, .ref q29, .ref q31, .null, .null, .null, .null, .int 0, .int 0, .null, .null, .null, .null, .null, .null, .null, .null, .int 0, .int 0, .null, .null, .null, .null, .long 0, .long 0, .null, .long 0, .int 0, .null, .null, .null, .int 0, .null, .null, .null, .null, .int 0])), (q1, .inl (k2, 1020, .inl (fun _ => 0))), (q5, .inl (k6, 2, .inl (fun _ => 0))), (q7, .inl (k8, 2, .inl (fun _ => 0))), (q9, .inl (k10, 2, .inl (fun _ => 0))), (q33, .inl (k34, 4, .inr (.inl (fun _ => 0))))] H := hP
  have hD : va_D A [(h0, .inr (12, [.ref q1, .ref q3, .int 0, .int 0, .int 0, .int (-1), .int 0, .int 0, .int 0, .int 0, .long 0, .ref q5, .ref q7, .ref q9, .ref q11, .ref q13, .ref q15, .ref q17, .ref q19, .ref q21, .ref q23, .ref q25, .ref q27, .ref q29, .ref q31, .null, .null, .null, .null, .int 0, .int 0, .null, .null, .null, .null, .null, .null, .null, .null, .int 0, .int 0, .null, .null, .null, .null, .long 0, .long 0, .null, .long 0, .int 0, .null, .null, .null, .int 0, .null, .null, .null, .null, .int 0])), (q1, .inl (k2, 1020, .inl (fun _ => 0))), (q5, .inl (k6, 2, .inl (fun _ => 0))), (q7, .inl (k8, 2, .inl (fun _ => 0))), (q9, .inl (k10, 2, .inl (fun _ => 0))), (q33, .inl (k34, 4, .inr (.inl (fun _ => 0))))] := hD
  have hK : va_K (dC, dI) vwCl [(k2, .byte), (k6, .int), (k8, .int), (k10, .int), (k34, .long)] s := hK
  refine W.widen (k := 17) (n := 2186) (Nat.le_of_ble_eq_true rfl) (Nat.le_of_ble_eq_true rfl) ?_
  have hP := hP.sub (ws' := [(h0, .inr (12, [.ref q1, .ref q3, .int 0, .int 0, .int 0, .int (-1), .int 0, .int 0, .int 0, .int 0, .long 0, .ref q5, .ref q7, .ref q9, .ref q11, .ref q13, .ref q15, .ref q17, .ref q19, .ref q21, .ref q23, .ref q25, .ref q27, .ref q29, .ref q31, .null, .null, .null, .null, .int 0, .int 0, .null, .null, .null, .null, .null, .null, .null, .null, .int 0, .int 0, .null, .null, .null, .null, .long 0, .long 0, .null, .long 0, .int 0, .null, .null, .null, .int 0, .null, .null, .null, .null, .int 0])), (q1, .inl (k2, 1020, .inl (fun _ => 0))), (q5, .inl (k6, 2, .inl (fun _ => 0))), (q7, .inl (k8, 2, .inl (fun _ => 0))), (q9, .inl (k10, 2, .inl (fun _ => 0)))]) [0, 1, 2, 3, 4] rfl
  have hD := hD.sub (ws' := [(h0, .inr (12, [.ref q1, .ref q3, .int 0, .int 0, .int 0, .int (-1), .int 0, .int 0, .int 0, .int 0, .long 0, .ref q5, .ref q7, .ref q9, .ref q11, .ref q13, .ref q15, .ref q17, .ref q19, .ref q21, .ref q23, .ref q25, .ref q27, .ref q29, .ref q31, .null, .null, .null, .null, .int 0, .int 0, .null, .null, .null, .null, .null, .null, .null, .null, .int 0, .int 0, .null, .null, .null, .null, .long 0, .long 0, .null, .long 0, .int 0, .null, .null, .null, .int 0, .null, .null, .null, .null, .int 0])), (q1, .inl (k2, 1020, .inl (fun _ => 0))), (q5, .inl (k6, 2, .inl (fun _ => 0))), (q7, .inl (k8, 2, .inl (fun _ => 0))), (q9, .inl (k10, 2, .inl (fun _ => 0)))]) [0, 1, 2, 3, 4] (by decide) rfl
  have hK := hK.sub (tys' := [(k2, .byte), (k6, .int), (k8, .int), (k10, .int)]) [0, 1, 2, 3] rfl
  refine va_putF (D := (dC, dI)) (ci := 12) (v := .ref q33) (ty := tyX12 25) (C := RX12) (T := TX12) (N := 59) hx hb hts hin12 tyX12 tyX12_ok nmX12 hown hK hP hD hS 0 rfl rfl 25 (by decide) (ho (.fieldLink RX12 63 "NearEnoughModel" "rName" "[J") (List.mem_of_getElem? (i := 23) rfl)) (fun _ h9 => h9) rfl hin rfl (by decide +kernel) rfl rfl (Nat.le_of_ble_eq_true rfl) dX12_init_137 (fun H locs hP hD hS => ?_)
  have hP : va_P (dC, dI) vwCl [(h0, .inr (12, [.ref q1, .ref q3, .int 0, .int 0, .int 0, .int (-1), .int 0, .int 0, .int 0, .int 0, .long 0, .ref q5, .ref q7, .ref q9, .ref q11, .ref q13, .ref q15, .ref q17, .ref q19, .ref q21, .ref q23, .ref q25, .ref q27, .ref q29, .ref q31, .ref q33, .null, .null, .null, .int 0, .int 0, .null, .null, .null, .null, .null, .null, .null, .null, .int 0, .int 0, .null, .null, .null, .null, .long 0, .long 0, .null, .long 0, .int 0, .null, .null, .null, .int 0, .null, .null, .null, .null, .int 0])), (q1, .inl (k2, 1020, .inl (fun _ => 0))), (q5, .inl (k6, 2, .inl (fun _ => 0))), (q7, .inl (k8, 2, .inl (fun _ => 0))), (q9, .inl (k10, 2, .inl (fun _ => 0)))] H := hP
  have hD : va_D A [(h0, .inr (12, [.ref q1, .ref q3, .int 0, .int 0, .int 0, .int (-1), .int 0, .int 0, .int 0, .int 0, .long 0, .ref q5, .ref q7, .ref q9, .ref q11, .ref q13, .ref q15, .ref q17, .ref q19, .ref q21, .ref q23, .ref q25, .ref q27, .ref q29, .ref q31, .ref q33, .null, .null, .null, .int 0, .int 0, .null, .null, .null, .null, .null, .null, .null, .null, .int 0, .int 0, .null, .null, .null, .null, .long 0, .long 0, .null, .long 0, .int 0, .null, .null, .null, .int 0, .null, .null, .null, .null, .int 0])), (q1, .inl (k2, 1020, .inl (fun _ => 0))), (q5, .inl (k6, 2, .inl (fun _ => 0))), (q7, .inl (k8, 2, .inl (fun _ => 0))), (q9, .inl (k10, 2, .inl (fun _ => 0)))] := hD
  refine lv_aload_n hx hb dX12_init_140 rfl (lv_at hl 0 rfl) ?_
  refine lv_bipush (v := 24) hx hb dX12_init_141 (by decide) ?_
  refine va_newa (atype := .long) (ty := .long) (a0 := (24, .inr (.inl (fun _ => 0)))) (N' := 24) hx hb (ho (.arrayClass .long) (List.mem_of_getElem? (i := 22) rfl)) rfl hK hP hD hS hA (fun _ => rfl) (by decide) (by decide) (by decide +kernel) (Nat.le_of_ble_eq_true rfl) (Nat.le_of_ble_eq_true rfl) dX12_init_143 (fun q35 k36 H hK hP hD hS => ?_)
  have hP : va_P (dC, dI) vwCl [(h0, .inr (12, [.ref q1, .ref q3, .int 0, .int 0, .int 0, .int (-1), .int 0, .int 0, .int 0, .int 0, .long 0, .ref q5, .ref q7, .ref q9, .ref q11, .ref q13, .ref q15, .ref q17, .ref q19, .ref q21, .ref q23, .ref q25, .ref q27, .ref q29, .ref q31, .ref q33, .null, .null, .null, .int 0, .int 0, .null, .null, .null, .null, .null, .null, .null, .null, .int 0, .int 0, .null, .null, .null, .null, .long 0, .long 0, .null, .long 0, .int 0, .null, .null, .null, .int 0, .null, .null, .null, .null, .int 0])), (q1, .inl (k2, 1020, .inl (fun _ => 0))), (q5, .inl (k6, 2, .inl (fun _ => 0))), (q7, .inl (k8, 2, .inl (fun _ => 0))), (q9, .inl (k10, 2, .inl (fun _ => 0))), (q35, .inl (k36, 24, .inr (.inl (fun _ => 0))))] H := hP
  have hD : va_D A [(h0, .inr (12, [.ref q1, .ref q3, .int 0, .int 0, .int 0, .int (-1), .int 0, .int 0, .int 0, .int 0, .long 0, .ref q5, .ref q7, .ref q9, .ref q11, .ref q13, .ref q15, .ref q17, .ref q19, .ref q21, .ref q23, .ref q25, .ref q27, .ref q29, .ref q31, .ref q33, .null, .null, .null, .int 0, .int 0, .null, .null, .null, .null, .null, .null, .null, .null, .int 0, .int 0, .null, .null, .null, .null, .long 0, .long 0, .null, .long 0, .int 0, .null, .null, .null, .int 0, .null, .null, .null, .null, .int 0])), (q1, .inl (k2, 1020, .inl (fun _ => 0))), (q5, .inl (k6, 2, .inl (fun _ => 0))), (q7, .inl (k8, 2, .inl (fun _ => 0))), (q9, .inl (k10, 2, .inl (fun _ => 0))), (q35, .inl (k36, 24, .inr (.inl (fun _ => 0))))] := hD
  have hK : va_K (dC, dI) vwCl [(k2, .byte), (k6, .int), (k8, .int), (k10, .int), (k36, .long)] s := hK
  refine W.widen (k := 18) (n := 2210) (Nat.le_of_ble_eq_true rfl) (Nat.le_of_ble_eq_true rfl) ?_
  have hP := hP.sub (ws' := [(h0, .inr (12, [.ref q1, .ref q3, .int 0, .int 0, .int 0, .int (-1), .int 0, .int 0, .int 0, .int 0, .long 0, .ref q5, .ref q7, .ref q9, .ref q11, .ref q13, .ref q15, .ref q17, .ref q19, .ref q21, .ref q23, .ref q25, .ref q27, .ref q29, .ref q31, .ref q33, .null, .null, .null, .int 0, .int 0, .null, .null, .null, .null, .null, .null, .null, .null, .int 0, .int 0, .null, .null, .null, .null, .long 0, .long 0, .null, .long 0, .int 0, .null, .null, .null, .int 0, .null, .null, .null, .null, .int 0])), (q1, .inl (k2, 1020, .inl (fun _ => 0))), (q5, .inl (k6, 2, .inl (fun _ => 0))), (q7, .inl (k8, 2, .inl (fun _ => 0))), (q9, .inl (k10, 2, .inl (fun _ => 0)))]) [0, 1, 2, 3, 4] rfl
  have hD := hD.sub (ws' := [(h0, .inr (12, [.ref q1, .ref q3, .int 0, .int 0, .int 0, .int (-1), .int 0, .int 0, .int 0, .int 0, .long 0, .ref q5, .ref q7, .ref q9, .ref q11, .ref q13, .ref q15, .ref q17, .ref q19, .ref q21, .ref q23, .ref q25, .ref q27, .ref q29, .ref q31, .ref q33, .null, .null, .null, .int 0, .int 0, .null, .null, .null, .null, .null, .null, .null, .null, .int 0, .int 0, .null, .null, .null, .null, .long 0, .long 0, .null, .long 0, .int 0, .null, .null, .null, .int 0, .null, .null, .null, .null, .int 0])), (q1, .inl (k2, 1020, .inl (fun _ => 0))), (q5, .inl (k6, 2, .inl (fun _ => 0))), (q7, .inl (k8, 2, .inl (fun _ => 0))), (q9, .inl (k10, 2, .inl (fun _ => 0)))]) [0, 1, 2, 3, 4] (by decide) rfl
  have hK := hK.sub (tys' := [(k2, .byte), (k6, .int), (k8, .int), (k10, .int)]) [0, 1, 2, 3] rfl
  refine va_putF (D := (dC, dI)) (ci := 12) (v := .ref q35) (ty := tyX12 26) (C := RX12) (T := TX12) (N := 59) hx hb hts hin12 tyX12 tyX12_ok nmX12 hown hK hP hD hS 0 rfl rfl 26 (by decide) (ho (.fieldLink RX12 67 "NearEnoughModel" "sName" "[J") (List.mem_of_getElem? (i := 24) rfl)) (fun _ h9 => h9) rfl hin rfl (by decide +kernel) rfl rfl (Nat.le_of_ble_eq_true rfl) dX12_init_145 (fun H locs hP hD hS => ?_)
  have hP : va_P (dC, dI) vwCl [(h0, .inr (12, [.ref q1, .ref q3, .int 0, .int 0, .int 0, .int (-1), .int 0, .int 0, .int 0, .int 0, .long 0, .ref q5, .ref q7, .ref q9, .ref q11, .ref q13, .ref q15, .ref q17, .ref q19, .ref q21, .ref q23, .ref q25, .ref q27, .ref q29, .ref q31, .ref q33, .ref q35, .null, .null, .int 0, .int 0, .null, .null, .null, .null, .null, .null, .null, .null, .int 0, .int 0, .null, .null, .null, .null, .long 0, .long 0, .null, .long 0, .int 0, .null, .null, .null, .int 0, .null, .null, .null, .null, .int 0])), (q1, .inl (k2, 1020, .inl (fun _ => 0))), (q5, .inl (k6, 2, .inl (fun _ => 0))), (q7, .inl (k8, 2, .inl (fun _ => 0))), (q9, .inl (k10, 2, .inl (fun _ => 0)))] H := hP
  have hD : va_D A [(h0, .inr (12, [.ref q1, .ref q3, .int 0, .int 0, .int 0, .int (-1), .int 0, .int 0, .int 0, .int 0, .long 0, .ref q5, .ref q7, .ref q9, .ref q11, .ref q13, .ref q15, .ref q17, .ref q19, .ref q21, .ref q23, .ref q25, .ref q27, .ref q29, .ref q31, .ref q33, .ref q35, .null, .null, .int 0, .int 0, .null, .null, .null, .null, .null, .null, .null, .null, .int 0, .int 0, .null, .null, .null, .null, .long 0, .long 0, .null, .long 0, .int 0, .null, .null, .null, .int 0, .null, .null, .null, .null, .int 0])), (q1, .inl (k2, 1020, .inl (fun _ => 0))), (q5, .inl (k6, 2, .inl (fun _ => 0))), (q7, .inl (k8, 2, .inl (fun _ => 0))), (q9, .inl (k10, 2, .inl (fun _ => 0)))] := hD
  refine lv_aload_n hx hb dX12_init_148 rfl (lv_at hl 0 rfl) ?_
  refine lv_bipush (v := 24) hx hb dX12_init_149 (by decide) ?_
  refine va_newa (atype := .long) (ty := .long) (a0 := (24, .inr (.inl (fun _ => 0)))) (N' := 24) hx hb (ho (.arrayClass .long) (List.mem_of_getElem? (i := 22) rfl)) rfl hK hP hD hS hA (fun _ => rfl) (by decide) (by decide) (by decide +kernel) (Nat.le_of_ble_eq_true rfl) (Nat.le_of_ble_eq_true rfl) dX12_init_151 (fun q37 k38 H hK hP hD hS => ?_)
  have hP : va_P (dC, dI) vwCl [(h0, .inr (12, [.ref q1, .ref q3, .int 0, .int 0, .int 0, .int (-1), .int 0, .int 0, .int 0, .int 0, .long 0, .ref q5, .ref q7, .ref q9, .ref q11, .ref q13, .ref q15, .ref q17, .ref q19, .ref q21, .ref q23, .ref q25, .ref q27, .ref q29, .ref q31, .ref q33, .ref q35, .null, .null, .int 0, .int 0, .null, .null, .null, .null, .null, .null, .null, .null, .int 0, .int 0, .null, .null, .null, .null, .long 0, .long 0, .null, .long 0, .int 0, .null, .null, .null, .int 0, .null, .null, .null, .null, .int 0])), (q1, .inl (k2, 1020, .inl (fun _ => 0))), (q5, .inl (k6, 2, .inl (fun _ => 0))), (q7, .inl (k8, 2, .inl (fun _ => 0))), (q9, .inl (k10, 2, .inl (fun _ => 0))), (q37, .inl (k38, 24, .inr (.inl (fun _ => 0))))] H := hP
  have hD : va_D A [(h0, .inr (12, [.ref q1, .ref q3, .int 0, .int 0, .int 0, .int (-1), .int 0, .int 0, .int 0, .int 0, .long 0, .ref q5, .ref q7, .ref q9, .ref q11, .ref q13, .ref q15, .ref q17, .ref q19, .ref q21, .ref q23, .ref q25, .ref q27, .ref q29, .ref q31, .ref q33, .ref q35, .null, .null, .int 0, .int 0, .null, .null, .null, .null, .null, .null, .null, .null, .int 0, .int 0, .null, .null, .null, .null, .long 0, .long 0, .null, .long 0, .int 0, .null, .null, .null, .int 0, .null, .null, .null, .null, .int 0])), (q1, .inl (k2, 1020, .inl (fun _ => 0))), (q5, .inl (k6, 2, .inl (fun _ => 0))), (q7, .inl (k8, 2, .inl (fun _ => 0))), (q9, .inl (k10, 2, .inl (fun _ => 0))), (q37, .inl (k38, 24, .inr (.inl (fun _ => 0))))] := hD
  have hK : va_K (dC, dI) vwCl [(k2, .byte), (k6, .int), (k8, .int), (k10, .int), (k38, .long)] s := hK
  refine W.widen (k := 19) (n := 2234) (Nat.le_of_ble_eq_true rfl) (Nat.le_of_ble_eq_true rfl) ?_
  have hP := hP.sub (ws' := [(h0, .inr (12, [.ref q1, .ref q3, .int 0, .int 0, .int 0, .int (-1), .int 0, .int 0, .int 0, .int 0, .long 0, .ref q5, .ref q7, .ref q9, .ref q11, .ref q13, .ref q15, .ref q17, .ref q19, .ref q21, .ref q23, .ref q25, .ref q27, .ref q29, .ref q31, .ref q33, .ref q35, .null, .null, .int 0, .int 0, .null, .null, .null, .null, .null, .null, .null, .null, .int 0, .int 0, .null, .null, .null, .null, .long 0, .long 0, .null, .long 0, .int 0, .null, .null, .null, .int 0, .null, .null, .null, .null, .int 0])), (q1, .inl (k2, 1020, .inl (fun _ => 0))), (q5, .inl (k6, 2, .inl (fun _ => 0))), (q7, .inl (k8, 2, .inl (fun _ => 0))), (q9, .inl (k10, 2, .inl (fun _ => 0)))]) [0, 1, 2, 3, 4] rfl
  have hD := hD.sub (ws' := [(h0, .inr (12, [.ref q1, .ref q3, .int 0, .int 0, .int 0, .int (-1), .int 0, .int 0, .int 0, .int 0, .long 0, .ref q5, .ref q7, .ref q9, .ref q11, .ref q13, .ref q15, .ref q17, .ref q19, .ref q21, .ref q23, .ref q25, .ref q27, .ref q29, .ref q31, .ref q33, .ref q35, .null, .null, .int 0, .int 0, .null, .null, .null, .null, .null, .null, .null, .null, .int 0, .int 0, .null, .null, .null, .null, .long 0, .long 0, .null, .long 0, .int 0, .null, .null, .null, .int 0, .null, .null, .null, .null, .int 0])), (q1, .inl (k2, 1020, .inl (fun _ => 0))), (q5, .inl (k6, 2, .inl (fun _ => 0))), (q7, .inl (k8, 2, .inl (fun _ => 0))), (q9, .inl (k10, 2, .inl (fun _ => 0)))]) [0, 1, 2, 3, 4] (by decide) rfl
  have hK := hK.sub (tys' := [(k2, .byte), (k6, .int), (k8, .int), (k10, .int)]) [0, 1, 2, 3] rfl
  refine va_putF (D := (dC, dI)) (ci := 12) (v := .ref q37) (ty := tyX12 27) (C := RX12) (T := TX12) (N := 59) hx hb hts hin12 tyX12 tyX12_ok nmX12 hown hK hP hD hS 0 rfl rfl 27 (by decide) (ho (.fieldLink RX12 70 "NearEnoughModel" "sLeast" "[J") (List.mem_of_getElem? (i := 25) rfl)) (fun _ h9 => h9) rfl hin rfl (by decide +kernel) rfl rfl (Nat.le_of_ble_eq_true rfl) dX12_init_153 (fun H locs hP hD hS => ?_)
  have hP : va_P (dC, dI) vwCl [(h0, .inr (12, [.ref q1, .ref q3, .int 0, .int 0, .int 0, .int (-1), .int 0, .int 0, .int 0, .int 0, .long 0, .ref q5, .ref q7, .ref q9, .ref q11, .ref q13, .ref q15, .ref q17, .ref q19, .ref q21, .ref q23, .ref q25, .ref q27, .ref q29, .ref q31, .ref q33, .ref q35, .ref q37, .null, .int 0, .int 0, .null, .null, .null, .null, .null, .null, .null, .null, .int 0, .int 0, .null, .null, .null, .null, .long 0, .long 0, .null, .long 0, .int 0, .null, .null, .null, .int 0, .null, .null, .null, .null, .int 0])), (q1, .inl (k2, 1020, .inl (fun _ => 0))), (q5, .inl (k6, 2, .inl (fun _ => 0))), (q7, .inl (k8, 2, .inl (fun _ => 0))), (q9, .inl (k10, 2, .inl (fun _ => 0)))] H := hP
  have hD : va_D A [(h0, .inr (12, [.ref q1, .ref q3, .int 0, .int 0, .int 0, .int (-1), .int 0, .int 0, .int 0, .int 0, .long 0, .ref q5, .ref q7, .ref q9, .ref q11, .ref q13, .ref q15, .ref q17, .ref q19, .ref q21, .ref q23, .ref q25, .ref q27, .ref q29, .ref q31, .ref q33, .ref q35, .ref q37, .null, .int 0, .int 0, .null, .null, .null, .null, .null, .null, .null, .null, .int 0, .int 0, .null, .null, .null, .null, .long 0, .long 0, .null, .long 0, .int 0, .null, .null, .null, .int 0, .null, .null, .null, .null, .int 0])), (q1, .inl (k2, 1020, .inl (fun _ => 0))), (q5, .inl (k6, 2, .inl (fun _ => 0))), (q7, .inl (k8, 2, .inl (fun _ => 0))), (q9, .inl (k10, 2, .inl (fun _ => 0)))] := hD
  refine lv_aload_n hx hb dX12_init_156 rfl (lv_at hl 0 rfl) ?_
  refine lv_bipush (v := 24) hx hb dX12_init_157 (by decide) ?_
  refine va_newa (atype := .long) (ty := .long) (a0 := (24, .inr (.inl (fun _ => 0)))) (N' := 24) hx hb (ho (.arrayClass .long) (List.mem_of_getElem? (i := 22) rfl)) rfl hK hP hD hS hA (fun _ => rfl) (by decide) (by decide) (by decide +kernel) (Nat.le_of_ble_eq_true rfl) (Nat.le_of_ble_eq_true rfl) dX12_init_159 (fun q39 k40 H hK hP hD hS => ?_)
  have hP : va_P (dC, dI) vwCl [(h0, .inr (12, [.ref q1, .ref q3, .int 0, .int 0, .int 0, .int (-1), .int 0, .int 0, .int 0, .int 0, .long 0, .ref q5, .ref q7, .ref q9, .ref q11, .ref q13, .ref q15, .ref q17, .ref q19, .ref q21, .ref q23, .ref q25, .ref q27, .ref q29, .ref q31, .ref q33, .ref q35, .ref q37, .null, .int 0, .int 0, .null, .null, .null, .null, .null, .null, .null, .null, .int 0, .int 0, .null, .null, .null, .null, .long 0, .long 0, .null, .long 0, .int 0, .null, .null, .null, .int 0, .null, .null, .null, .null, .int 0])), (q1, .inl (k2, 1020, .inl (fun _ => 0))), (q5, .inl (k6, 2, .inl (fun _ => 0))), (q7, .inl (k8, 2, .inl (fun _ => 0))), (q9, .inl (k10, 2, .inl (fun _ => 0))), (q39, .inl (k40, 24, .inr (.inl (fun _ => 0))))] H := hP
  have hD : va_D A [(h0, .inr (12, [.ref q1, .ref q3, .int 0, .int 0, .int 0, .int (-1), .int 0, .int 0, .int 0, .int 0, .long 0, .ref q5, .ref q7, .ref q9, .ref q11, .ref q13, .ref q15, .ref q17, .ref q19, .ref q21, .ref q23, .ref q25, .ref q27, .ref q29, .ref q31, .ref q33, .ref q35, .ref q37, .null, .int 0, .int 0, .null, .null, .null, .null, .null, .null, .null, .null, .int 0, .int 0, .null, .null, .null, .null, .long 0, .long 0, .null, .long 0, .int 0, .null, .null, .null, .int 0, .null, .null, .null, .null, .int 0])), (q1, .inl (k2, 1020, .inl (fun _ => 0))), (q5, .inl (k6, 2, .inl (fun _ => 0))), (q7, .inl (k8, 2, .inl (fun _ => 0))), (q9, .inl (k10, 2, .inl (fun _ => 0))), (q39, .inl (k40, 24, .inr (.inl (fun _ => 0))))] := hD
  have hK : va_K (dC, dI) vwCl [(k2, .byte), (k6, .int), (k8, .int), (k10, .int), (k40, .long)] s := hK
  refine W.widen (k := 20) (n := 2258) (Nat.le_of_ble_eq_true rfl) (Nat.le_of_ble_eq_true rfl) ?_
  have hP := hP.sub (ws' := [(h0, .inr (12, [.ref q1, .ref q3, .int 0, .int 0, .int 0, .int (-1), .int 0, .int 0, .int 0, .int 0, .long 0, .ref q5, .ref q7, .ref q9, .ref q11, .ref q13, .ref q15, .ref q17, .ref q19, .ref q21, .ref q23, .ref q25, .ref q27, .ref q29, .ref q31, .ref q33, .ref q35, .ref q37, .null, .int 0, .int 0, .null, .null, .null, .null, .null, .null, .null, .null, .int 0, .int 0, .null, .null, .null, .null, .long 0, .long 0, .null, .long 0, .int 0, .null, .null, .null, .int 0, .null, .null, .null, .null, .int 0])), (q1, .inl (k2, 1020, .inl (fun _ => 0))), (q5, .inl (k6, 2, .inl (fun _ => 0))), (q7, .inl (k8, 2, .inl (fun _ => 0))), (q9, .inl (k10, 2, .inl (fun _ => 0)))]) [0, 1, 2, 3, 4] rfl
  have hD := hD.sub (ws' := [(h0, .inr (12, [.ref q1, .ref q3, .int 0, .int 0, .int 0, .int (-1), .int 0, .int 0, .int 0, .int 0, .long 0, .ref q5, .ref q7, .ref q9, .ref q11, .ref q13, .ref q15, .ref q17, .ref q19, .ref q21, .ref q23, .ref q25, .ref q27, .ref q29, .ref q31, .ref q33, .ref q35, .ref q37, .null, .int 0, .int 0, .null, .null, .null, .null, .null, .null, .null, .null, .int 0, .int 0, .null, .null, .null, .null, .long 0, .long 0, .null, .long 0, .int 0, .null, .null, .null, .int 0, .null, .null, .null, .null, .int 0])), (q1, .inl (k2, 1020, .inl (fun _ => 0))), (q5, .inl (k6, 2, .inl (fun _ => 0))), (q7, .inl (k8, 2, .inl (fun _ => 0))), (q9, .inl (k10, 2, .inl (fun _ => 0)))]) [0, 1, 2, 3, 4] (by decide) rfl
  have hK := hK.sub (tys' := [(k2, .byte), (k6, .int), (k8, .int), (k10, .int)]) [0, 1, 2, 3] rfl
  refine va_putF (D := (dC, dI)) (ci := 12) (v := .ref q39) (ty := tyX12 28) (C := RX12) (T := TX12) (N := 59) hx hb hts hin12 tyX12 tyX12_ok nmX12 hown hK hP hD hS 0 rfl rfl 28 (by decide) (ho (.fieldLink RX12 73 "NearEnoughModel" "sMost" "[J") (List.mem_of_getElem? (i := 26) rfl)) (fun _ h9 => h9) rfl hin rfl (by decide +kernel) rfl rfl (Nat.le_of_ble_eq_true rfl) dX12_init_161 (fun H locs hP hD hS => ?_)
  have hP : va_P (dC, dI) vwCl [(h0, .inr (12, [.ref q1, .ref q3, .int 0, .int 0, .int 0, .int (-1), .int 0, .int 0, .int 0, .int 0, .long 0, .ref q5, .ref q7, .ref q9, .ref q11, .ref q13, .ref q15, .ref q17, .ref q19, .ref q21, .ref q23, .ref q25, .ref q27, .ref q29, .ref q31, .ref q33, .ref q35, .ref q37, .ref q39, .int 0, .int 0, .null, .null, .null, .null, .null, .null, .null, .null, .int 0, .int 0, .null, .null, .null, .null, .long 0, .long 0, .null, .long 0, .int 0, .null, .null, .null, .int 0, .null, .null, .null, .null, .int 0])), (q1, .inl (k2, 1020, .inl (fun _ => 0))), (q5, .inl (k6, 2, .inl (fun _ => 0))), (q7, .inl (k8, 2, .inl (fun _ => 0))), (q9, .inl (k10, 2, .inl (fun _ => 0)))] H := hP
  have hD : va_D A [(h0, .inr (12, [.ref q1, .ref q3, .int 0, .int 0, .int 0, .int (-1), .int 0, .int 0, .int 0, .int 0, .long 0, .ref q5, .ref q7, .ref q9, .ref q11, .ref q13, .ref q15, .ref q17, .ref q19, .ref q21, .ref q23, .ref q25, .ref q27, .ref q29, .ref q31, .ref q33, .ref q35, .ref q37, .ref q39, .int 0, .int 0, .null, .null, .null, .null, .null, .null, .null, .null, .int 0, .int 0, .null, .null, .null, .null, .long 0, .long 0, .null, .long 0, .int 0, .null, .null, .null, .int 0, .null, .null, .null, .null, .int 0])), (q1, .inl (k2, 1020, .inl (fun _ => 0))), (q5, .inl (k6, 2, .inl (fun _ => 0))), (q7, .inl (k8, 2, .inl (fun _ => 0))), (q9, .inl (k10, 2, .inl (fun _ => 0)))] := hD
  refine lv_aload_n hx hb dX12_init_164 rfl (lv_at hl 0 rfl) ?_
  refine lv_sipush (v := 480) hx hb dX12_init_165 (by decide) ?_
  refine va_newa (atype := .int) (ty := .int) (a0 := (480, .inl (fun _ => 0))) (N' := 480) hx hb (ho (.arrayClass .int) (List.mem_of_getElem? (i := 7) rfl)) rfl hK hP hD hS hA (fun _ => rfl) (by decide) (by decide) (by decide +kernel) (Nat.le_of_ble_eq_true rfl) (Nat.le_of_ble_eq_true rfl) dX12_init_168 (fun q41 k42 H hK hP hD hS => ?_)
  have hP : va_P (dC, dI) vwCl [(h0, .inr (12, [.ref q1, .ref q3, .int 0, .int 0, .int 0, .int (-1), .int 0, .int 0, .int 0, .int 0, .long 0, .ref q5, .ref q7, .ref q9, .ref q11, .ref q13, .ref q15, .ref q17, .ref q19, .ref q21, .ref q23, .ref q25, .ref q27, .ref q29, .ref q31, .ref q33, .ref q35, .ref q37, .ref q39, .int 0, .int 0, .null, .null, .null, .null, .null, .null, .null, .null, .int 0, .int 0, .null, .null, .null, .null, .long 0, .long 0, .null, .long 0, .int 0, .null, .null, .null, .int 0, .null, .null, .null, .null, .int 0])), (q1, .inl (k2, 1020, .inl (fun _ => 0))), (q5, .inl (k6, 2, .inl (fun _ => 0))), (q7, .inl (k8, 2, .inl (fun _ => 0))), (q9, .inl (k10, 2, .inl (fun _ => 0))), (q41, .inl (k42, 480, .inl (fun _ => 0)))] H := hP
  have hD : va_D A [(h0, .inr (12, [.ref q1, .ref q3, .int 0, .int 0, .int 0, .int (-1), .int 0, .int 0, .int 0, .int 0, .long 0, .ref q5, .ref q7, .ref q9, .ref q11, .ref q13, .ref q15, .ref q17, .ref q19, .ref q21, .ref q23, .ref q25, .ref q27, .ref q29, .ref q31, .ref q33, .ref q35, .ref q37, .ref q39, .int 0, .int 0, .null, .null, .null, .null, .null, .null, .null, .null, .int 0, .int 0, .null, .null, .null, .null, .long 0, .long 0, .null, .long 0, .int 0, .null, .null, .null, .int 0, .null, .null, .null, .null, .int 0])), (q1, .inl (k2, 1020, .inl (fun _ => 0))), (q5, .inl (k6, 2, .inl (fun _ => 0))), (q7, .inl (k8, 2, .inl (fun _ => 0))), (q9, .inl (k10, 2, .inl (fun _ => 0))), (q41, .inl (k42, 480, .inl (fun _ => 0)))] := hD
  have hK : va_K (dC, dI) vwCl [(k2, .byte), (k6, .int), (k8, .int), (k10, .int), (k42, .int)] s := hK
  refine W.widen (k := 21) (n := 2738) (Nat.le_of_ble_eq_true rfl) (Nat.le_of_ble_eq_true rfl) ?_
  have hP := hP.sub (ws' := [(h0, .inr (12, [.ref q1, .ref q3, .int 0, .int 0, .int 0, .int (-1), .int 0, .int 0, .int 0, .int 0, .long 0, .ref q5, .ref q7, .ref q9, .ref q11, .ref q13, .ref q15, .ref q17, .ref q19, .ref q21, .ref q23, .ref q25, .ref q27, .ref q29, .ref q31, .ref q33, .ref q35, .ref q37, .ref q39, .int 0, .int 0, .null, .null, .null, .null, .null, .null, .null, .null, .int 0, .int 0, .null, .null, .null, .null, .long 0, .long 0, .null, .long 0, .int 0, .null, .null, .null, .int 0, .null, .null, .null, .null, .int 0])), (q1, .inl (k2, 1020, .inl (fun _ => 0))), (q5, .inl (k6, 2, .inl (fun _ => 0))), (q7, .inl (k8, 2, .inl (fun _ => 0))), (q9, .inl (k10, 2, .inl (fun _ => 0)))]) [0, 1, 2, 3, 4] rfl
  have hD := hD.sub (ws' := [(h0, .inr (12, [.ref q1, .ref q3, .int 0, .int 0, .int 0, .int (-1), .int 0, .int 0, .int 0, .int 0, .long 0, .ref q5, .ref q7, .ref q9, .ref q11, .ref q13, .ref q15, .ref q17, .ref q19, .ref q21, .ref q23, .ref q25, .ref q27, .ref q29, .ref q31, .ref q33, .ref q35, .ref q37, .ref q39, .int 0, .int 0, .null, .null, .null, .null, .null, .null, .null, .null, .int 0, .int 0, .null, .null, .null, .null, .long 0, .long 0, .null, .long 0, .int 0, .null, .null, .null, .int 0, .null, .null, .null, .null, .int 0])), (q1, .inl (k2, 1020, .inl (fun _ => 0))), (q5, .inl (k6, 2, .inl (fun _ => 0))), (q7, .inl (k8, 2, .inl (fun _ => 0))), (q9, .inl (k10, 2, .inl (fun _ => 0)))]) [0, 1, 2, 3, 4] (by decide) rfl
  have hK := hK.sub (tys' := [(k2, .byte), (k6, .int), (k8, .int), (k10, .int)]) [0, 1, 2, 3] rfl
  refine va_putF (D := (dC, dI)) (ci := 12) (v := .ref q41) (ty := tyX12 31) (C := RX12) (T := TX12) (N := 59) hx hb hts hin12 tyX12 tyX12_ok nmX12 hown hK hP hD hS 0 rfl rfl 31 (by decide) (ho (.fieldLink RX12 76 "NearEnoughModel" "numbers" "[I") (List.mem_of_getElem? (i := 27) rfl)) (fun _ h9 => h9) rfl hin rfl (by decide +kernel) rfl rfl (Nat.le_of_ble_eq_true rfl) dX12_init_170 (fun H locs hP hD hS => ?_)
  have hP : va_P (dC, dI) vwCl [(h0, .inr (12, [.ref q1, .ref q3, .int 0, .int 0, .int 0, .int (-1), .int 0, .int 0, .int 0, .int 0, .long 0, .ref q5, .ref q7, .ref q9, .ref q11, .ref q13, .ref q15, .ref q17, .ref q19, .ref q21, .ref q23, .ref q25, .ref q27, .ref q29, .ref q31, .ref q33, .ref q35, .ref q37, .ref q39, .int 0, .int 0, .ref q41, .null, .null, .null, .null, .null, .null, .null, .int 0, .int 0, .null, .null, .null, .null, .long 0, .long 0, .null, .long 0, .int 0, .null, .null, .null, .int 0, .null, .null, .null, .null, .int 0])), (q1, .inl (k2, 1020, .inl (fun _ => 0))), (q5, .inl (k6, 2, .inl (fun _ => 0))), (q7, .inl (k8, 2, .inl (fun _ => 0))), (q9, .inl (k10, 2, .inl (fun _ => 0)))] H := hP
  have hD : va_D A [(h0, .inr (12, [.ref q1, .ref q3, .int 0, .int 0, .int 0, .int (-1), .int 0, .int 0, .int 0, .int 0, .long 0, .ref q5, .ref q7, .ref q9, .ref q11, .ref q13, .ref q15, .ref q17, .ref q19, .ref q21, .ref q23, .ref q25, .ref q27, .ref q29, .ref q31, .ref q33, .ref q35, .ref q37, .ref q39, .int 0, .int 0, .ref q41, .null, .null, .null, .null, .null, .null, .null, .int 0, .int 0, .null, .null, .null, .null, .long 0, .long 0, .null, .long 0, .int 0, .null, .null, .null, .int 0, .null, .null, .null, .null, .int 0])), (q1, .inl (k2, 1020, .inl (fun _ => 0))), (q5, .inl (k6, 2, .inl (fun _ => 0))), (q7, .inl (k8, 2, .inl (fun _ => 0))), (q9, .inl (k10, 2, .inl (fun _ => 0)))] := hD
  refine lv_aload_n hx hb dX12_init_173 rfl (lv_at hl 0 rfl) ?_
  refine lv_bipush (v := 12) hx hb dX12_init_174 (by decide) ?_
  refine va_newa (atype := .int) (ty := .int) (a0 := (12, .inl (fun _ => 0))) (N' := 12) hx hb (ho (.arrayClass .int) (List.mem_of_getElem? (i := 7) rfl)) rfl hK hP hD hS hA (fun _ => rfl) (by decide) (by decide) (by decide +kernel) (Nat.le_of_ble_eq_true rfl) (Nat.le_of_ble_eq_true rfl) dX12_init_176 (fun q43 k44 H hK hP hD hS => ?_)
  have hP : va_P (dC, dI) vwCl [(h0, .inr (12, [.ref q1, .ref q3, .int 0, .int 0, .int 0, .int (-1), .int 0, .int 0, .int 0, .int 0, .long 0, .ref q5, .ref q7, .ref q9, .ref q11, .ref q13, .ref q15, .ref q17, .ref q19, .ref q21, .ref q23, .ref q25, .ref q27, .ref q29, .ref q31, .ref q33, .ref q35, .ref q37, .ref q39, .int 0, .int 0, .ref q41, .null, .null, .null, .null, .null, .null, .null, .int 0, .int 0, .null, .null, .null, .null, .long 0, .long 0, .null, .long 0, .int 0, .null, .null, .null, .int 0, .null, .null, .null, .null, .int 0])), (q1, .inl (k2, 1020, .inl (fun _ => 0))), (q5, .inl (k6, 2, .inl (fun _ => 0))), (q7, .inl (k8, 2, .inl (fun _ => 0))), (q9, .inl (k10, 2, .inl (fun _ => 0))), (q43, .inl (k44, 12, .inl (fun _ => 0)))] H := hP
  have hD : va_D A [(h0, .inr (12, [.ref q1, .ref q3, .int 0, .int 0, .int 0, .int (-1), .int 0, .int 0, .int 0, .int 0, .long 0, .ref q5, .ref q7, .ref q9, .ref q11, .ref q13, .ref q15, .ref q17, .ref q19, .ref q21, .ref q23, .ref q25, .ref q27, .ref q29, .ref q31, .ref q33, .ref q35, .ref q37, .ref q39, .int 0, .int 0, .ref q41, .null, .null, .null, .null, .null, .null, .null, .int 0, .int 0, .null, .null, .null, .null, .long 0, .long 0, .null, .long 0, .int 0, .null, .null, .null, .int 0, .null, .null, .null, .null, .int 0])), (q1, .inl (k2, 1020, .inl (fun _ => 0))), (q5, .inl (k6, 2, .inl (fun _ => 0))), (q7, .inl (k8, 2, .inl (fun _ => 0))), (q9, .inl (k10, 2, .inl (fun _ => 0))), (q43, .inl (k44, 12, .inl (fun _ => 0)))] := hD
  have hK : va_K (dC, dI) vwCl [(k2, .byte), (k6, .int), (k8, .int), (k10, .int), (k44, .int)] s := hK
  refine W.widen (k := 22) (n := 2750) (Nat.le_of_ble_eq_true rfl) (Nat.le_of_ble_eq_true rfl) ?_
  have hP := hP.sub (ws' := [(h0, .inr (12, [.ref q1, .ref q3, .int 0, .int 0, .int 0, .int (-1), .int 0, .int 0, .int 0, .int 0, .long 0, .ref q5, .ref q7, .ref q9, .ref q11, .ref q13, .ref q15, .ref q17, .ref q19, .ref q21, .ref q23, .ref q25, .ref q27, .ref q29, .ref q31, .ref q33, .ref q35, .ref q37, .ref q39, .int 0, .int 0, .ref q41, .null, .null, .null, .null, .null, .null, .null, .int 0, .int 0, .null, .null, .null, .null, .long 0, .long 0, .null, .long 0, .int 0, .null, .null, .null, .int 0, .null, .null, .null, .null, .int 0])), (q1, .inl (k2, 1020, .inl (fun _ => 0))), (q5, .inl (k6, 2, .inl (fun _ => 0))), (q7, .inl (k8, 2, .inl (fun _ => 0))), (q9, .inl (k10, 2, .inl (fun _ => 0)))]) [0, 1, 2, 3, 4] rfl
  have hD := hD.sub (ws' := [(h0, .inr (12, [.ref q1, .ref q3, .int 0, .int 0, .int 0, .int (-1), .int 0, .int 0, .int 0, .int 0, .long 0, .ref q5, .ref q7, .ref q9, .ref q11, .ref q13, .ref q15, .ref q17, .ref q19, .ref q21, .ref q23, .ref q25, .ref q27, .ref q29, .ref q31, .ref q33, .ref q35, .ref q37, .ref q39, .int 0, .int 0, .ref q41, .null, .null, .null, .null, .null, .null, .null, .int 0, .int 0, .null, .null, .null, .null, .long 0, .long 0, .null, .long 0, .int 0, .null, .null, .null, .int 0, .null, .null, .null, .null, .int 0])), (q1, .inl (k2, 1020, .inl (fun _ => 0))), (q5, .inl (k6, 2, .inl (fun _ => 0))), (q7, .inl (k8, 2, .inl (fun _ => 0))), (q9, .inl (k10, 2, .inl (fun _ => 0)))]) [0, 1, 2, 3, 4] (by decide) rfl
  have hK := hK.sub (tys' := [(k2, .byte), (k6, .int), (k8, .int), (k10, .int)]) [0, 1, 2, 3] rfl
  refine va_putF (D := (dC, dI)) (ci := 12) (v := .ref q43) (ty := tyX12 32) (C := RX12) (T := TX12) (N := 59) hx hb hts hin12 tyX12 tyX12_ok nmX12 hown hK hP hD hS 0 rfl rfl 32 (by decide) (ho (.fieldLink RX12 79 "NearEnoughModel" "corner" "[I") (List.mem_of_getElem? (i := 28) rfl)) (fun _ h9 => h9) rfl hin rfl (by decide +kernel) rfl rfl (Nat.le_of_ble_eq_true rfl) dX12_init_178 (fun H locs hP hD hS => ?_)
  have hP : va_P (dC, dI) vwCl [(h0, .inr (12, [.ref q1, .ref q3, .int 0, .int 0, .int 0, .int (-1), .int 0, .int 0, .int 0, .int 0, .long 0, .ref q5, .ref q7, .ref q9, .ref q11, .ref q13, .ref q15, .ref q17, .ref q19, .ref q21, .ref q23, .ref q25, .ref q27, .ref q29, .ref q31, .ref q33, .ref q35, .ref q37, .ref q39, .int 0, .int 0, .ref q41, .ref q43, .null, .null, .null, .null, .null, .null, .int 0, .int 0, .null, .null, .null, .null, .long 0, .long 0, .null, .long 0, .int 0, .null, .null, .null, .int 0, .null, .null, .null, .null, .int 0])), (q1, .inl (k2, 1020, .inl (fun _ => 0))), (q5, .inl (k6, 2, .inl (fun _ => 0))), (q7, .inl (k8, 2, .inl (fun _ => 0))), (q9, .inl (k10, 2, .inl (fun _ => 0)))] H := hP
  have hD : va_D A [(h0, .inr (12, [.ref q1, .ref q3, .int 0, .int 0, .int 0, .int (-1), .int 0, .int 0, .int 0, .int 0, .long 0, .ref q5, .ref q7, .ref q9, .ref q11, .ref q13, .ref q15, .ref q17, .ref q19, .ref q21, .ref q23, .ref q25, .ref q27, .ref q29, .ref q31, .ref q33, .ref q35, .ref q37, .ref q39, .int 0, .int 0, .ref q41, .ref q43, .null, .null, .null, .null, .null, .null, .int 0, .int 0, .null, .null, .null, .null, .long 0, .long 0, .null, .long 0, .int 0, .null, .null, .null, .int 0, .null, .null, .null, .null, .int 0])), (q1, .inl (k2, 1020, .inl (fun _ => 0))), (q5, .inl (k6, 2, .inl (fun _ => 0))), (q7, .inl (k8, 2, .inl (fun _ => 0))), (q9, .inl (k10, 2, .inl (fun _ => 0)))] := hD
  refine lv_aload_n hx hb dX12_init_181 rfl (lv_at hl 0 rfl) ?_
  refine lv_bipush (v := 12) hx hb dX12_init_182 (by decide) ?_
  refine va_newa (atype := .int) (ty := .int) (a0 := (12, .inl (fun _ => 0))) (N' := 12) hx hb (ho (.arrayClass .int) (List.mem_of_getElem? (i := 7) rfl)) rfl hK hP hD hS hA (fun _ => rfl) (by decide) (by decide) (by decide +kernel) (Nat.le_of_ble_eq_true rfl) (Nat.le_of_ble_eq_true rfl) dX12_init_184 (fun q45 k46 H hK hP hD hS => ?_)
  have hP : va_P (dC, dI) vwCl [(h0, .inr (12, [.ref q1, .ref q3, .int 0, .int 0, .int 0, .int (-1), .int 0, .int 0, .int 0, .int 0, .long 0, .ref q5, .ref q7, .ref q9, .ref q11, .ref q13, .ref q15, .ref q17, .ref q19, .ref q21, .ref q23, .ref q25, .ref q27, .ref q29, .ref q31, .ref q33, .ref q35, .ref q37, .ref q39, .int 0, .int 0, .ref q41, .ref q43, .null, .null, .null, .null, .null, .null, .int 0, .int 0, .null, .null, .null, .null, .long 0, .long 0, .null, .long 0, .int 0, .null, .null, .null, .int 0, .null, .null, .null, .null, .int 0])), (q1, .inl (k2, 1020, .inl (fun _ => 0))), (q5, .inl (k6, 2, .inl (fun _ => 0))), (q7, .inl (k8, 2, .inl (fun _ => 0))), (q9, .inl (k10, 2, .inl (fun _ => 0))), (q45, .inl (k46, 12, .inl (fun _ => 0)))] H := hP
  have hD : va_D A [(h0, .inr (12, [.ref q1, .ref q3, .int 0, .int 0, .int 0, .int (-1), .int 0, .int 0, .int 0, .int 0, .long 0, .ref q5, .ref q7, .ref q9, .ref q11, .ref q13, .ref q15, .ref q17, .ref q19, .ref q21, .ref q23, .ref q25, .ref q27, .ref q29, .ref q31, .ref q33, .ref q35, .ref q37, .ref q39, .int 0, .int 0, .ref q41, .ref q43, .null, .null, .null, .null, .null, .null, .int 0, .int 0, .null, .null, .null, .null, .long 0, .long 0, .null, .long 0, .int 0, .null, .null, .null, .int 0, .null, .null, .null, .null, .int 0])), (q1, .inl (k2, 1020, .inl (fun _ => 0))), (q5, .inl (k6, 2, .inl (fun _ => 0))), (q7, .inl (k8, 2, .inl (fun _ => 0))), (q9, .inl (k10, 2, .inl (fun _ => 0))), (q45, .inl (k46, 12, .inl (fun _ => 0)))] := hD
  have hK : va_K (dC, dI) vwCl [(k2, .byte), (k6, .int), (k8, .int), (k10, .int), (k46, .int)] s := hK
  refine W.widen (k := 23) (n := 2762) (Nat.le_of_ble_eq_true rfl) (Nat.le_of_ble_eq_true rfl) ?_
  have hP := hP.sub (ws' := [(h0, .inr (12, [.ref q1, .ref q3, .int 0, .int 0, .int 0, .int (-1), .int 0, .int 0, .int 0, .int 0, .long 0, .ref q5, .ref q7, .ref q9, .ref q11, .ref q13, .ref q15, .ref q17, .ref q19, .ref q21, .ref q23, .ref q25, .ref q27, .ref q29, .ref q31, .ref q33, .ref q35, .ref q37, .ref q39, .int 0, .int 0, .ref q41, .ref q43, .null, .null, .null, .null, .null, .null, .int 0, .int 0, .null, .null, .null, .null, .long 0, .long 0, .null, .long 0, .int 0, .null, .null, .null, .int 0, .null, .null, .null, .null, .int 0])), (q1, .inl (k2, 1020, .inl (fun _ => 0))), (q5, .inl (k6, 2, .inl (fun _ => 0))), (q7, .inl (k8, 2, .inl (fun _ => 0))), (q9, .inl (k10, 2, .inl (fun _ => 0)))]) [0, 1, 2, 3, 4] rfl
  have hD := hD.sub (ws' := [(h0, .inr (12, [.ref q1, .ref q3, .int 0, .int 0, .int 0, .int (-1), .int 0, .int 0, .int 0, .int 0, .long 0, .ref q5, .ref q7, .ref q9, .ref q11, .ref q13, .ref q15, .ref q17, .ref q19, .ref q21, .ref q23, .ref q25, .ref q27, .ref q29, .ref q31, .ref q33, .ref q35, .ref q37, .ref q39, .int 0, .int 0, .ref q41, .ref q43, .null, .null, .null, .null, .null, .null, .int 0, .int 0, .null, .null, .null, .null, .long 0, .long 0, .null, .long 0, .int 0, .null, .null, .null, .int 0, .null, .null, .null, .null, .int 0])), (q1, .inl (k2, 1020, .inl (fun _ => 0))), (q5, .inl (k6, 2, .inl (fun _ => 0))), (q7, .inl (k8, 2, .inl (fun _ => 0))), (q9, .inl (k10, 2, .inl (fun _ => 0)))]) [0, 1, 2, 3, 4] (by decide) rfl
  have hK := hK.sub (tys' := [(k2, .byte), (k6, .int), (k8, .int), (k10, .int)]) [0, 1, 2, 3] rfl
  refine va_putF (D := (dC, dI)) (ci := 12) (v := .ref q45) (ty := tyX12 33) (C := RX12) (T := TX12) (N := 59) hx hb hts hin12 tyX12 tyX12_ok nmX12 hown hK hP hD hS 0 rfl rfl 33 (by decide) (ho (.fieldLink RX12 82 "NearEnoughModel" "cStep" "[I") (List.mem_of_getElem? (i := 29) rfl)) (fun _ h9 => h9) rfl hin rfl (by decide +kernel) rfl rfl (Nat.le_of_ble_eq_true rfl) dX12_init_186 (fun H locs hP hD hS => ?_)
  have hP : va_P (dC, dI) vwCl [(h0, .inr (12, [.ref q1, .ref q3, .int 0, .int 0, .int 0, .int (-1), .int 0, .int 0, .int 0, .int 0, .long 0, .ref q5, .ref q7, .ref q9, .ref q11, .ref q13, .ref q15, .ref q17, .ref q19, .ref q21, .ref q23, .ref q25, .ref q27, .ref q29, .ref q31, .ref q33, .ref q35, .ref q37, .ref q39, .int 0, .int 0, .ref q41, .ref q43, .ref q45, .null, .null, .null, .null, .null, .int 0, .int 0, .null, .null, .null, .null, .long 0, .long 0, .null, .long 0, .int 0, .null, .null, .null, .int 0, .null, .null, .null, .null, .int 0])), (q1, .inl (k2, 1020, .inl (fun _ => 0))), (q5, .inl (k6, 2, .inl (fun _ => 0))), (q7, .inl (k8, 2, .inl (fun _ => 0))), (q9, .inl (k10, 2, .inl (fun _ => 0)))] H := hP
  have hD : va_D A [(h0, .inr (12, [.ref q1, .ref q3, .int 0, .int 0, .int 0, .int (-1), .int 0, .int 0, .int 0, .int 0, .long 0, .ref q5, .ref q7, .ref q9, .ref q11, .ref q13, .ref q15, .ref q17, .ref q19, .ref q21, .ref q23, .ref q25, .ref q27, .ref q29, .ref q31, .ref q33, .ref q35, .ref q37, .ref q39, .int 0, .int 0, .ref q41, .ref q43, .ref q45, .null, .null, .null, .null, .null, .int 0, .int 0, .null, .null, .null, .null, .long 0, .long 0, .null, .long 0, .int 0, .null, .null, .null, .int 0, .null, .null, .null, .null, .int 0])), (q1, .inl (k2, 1020, .inl (fun _ => 0))), (q5, .inl (k6, 2, .inl (fun _ => 0))), (q7, .inl (k8, 2, .inl (fun _ => 0))), (q9, .inl (k10, 2, .inl (fun _ => 0)))] := hD
  refine lv_aload_n hx hb dX12_init_189 rfl (lv_at hl 0 rfl) ?_
  refine lv_bipush (v := 12) hx hb dX12_init_190 (by decide) ?_
  refine va_newa (atype := .int) (ty := .int) (a0 := (12, .inl (fun _ => 0))) (N' := 12) hx hb (ho (.arrayClass .int) (List.mem_of_getElem? (i := 7) rfl)) rfl hK hP hD hS hA (fun _ => rfl) (by decide) (by decide) (by decide +kernel) (Nat.le_of_ble_eq_true rfl) (Nat.le_of_ble_eq_true rfl) dX12_init_192 (fun q47 k48 H hK hP hD hS => ?_)
  have hP : va_P (dC, dI) vwCl [(h0, .inr (12, [.ref q1, .ref q3, .int 0, .int 0, .int 0, .int (-1), .int 0, .int 0, .int 0, .int 0, .long 0, .ref q5, .ref q7, .ref q9, .ref q11, .ref q13, .ref q15, .ref q17, .ref q19, .ref q21, .ref q23, .ref q25, .ref q27, .ref q29, .ref q31, .ref q33, .ref q35, .ref q37, .ref q39, .int 0, .int 0, .ref q41, .ref q43, .ref q45, .null, .null, .null, .null, .null, .int 0, .int 0, .null, .null, .null, .null, .long 0, .long 0, .null, .long 0, .int 0, .null, .null, .null, .int 0, .null, .null, .null, .null, .int 0])), (q1, .inl (k2, 1020, .inl (fun _ => 0))), (q5, .inl (k6, 2, .inl (fun _ => 0))), (q7, .inl (k8, 2, .inl (fun _ => 0))), (q9, .inl (k10, 2, .inl (fun _ => 0))), (q47, .inl (k48, 12, .inl (fun _ => 0)))] H := hP
  have hD : va_D A [(h0, .inr (12, [.ref q1, .ref q3, .int 0, .int 0, .int 0, .int (-1), .int 0, .int 0, .int 0, .int 0, .long 0, .ref q5, .ref q7, .ref q9, .ref q11, .ref q13, .ref q15, .ref q17, .ref q19, .ref q21, .ref q23, .ref q25, .ref q27, .ref q29, .ref q31, .ref q33, .ref q35, .ref q37, .ref q39, .int 0, .int 0, .ref q41, .ref q43, .ref q45, .null, .null, .null, .null, .null, .int 0, .int 0, .null, .null, .null, .null, .long 0, .long 0, .null, .long 0, .int 0, .null, .null, .null, .int 0, .null, .null, .null, .null, .int 0])), (q1, .inl (k2, 1020, .inl (fun _ => 0))), (q5, .inl (k6, 2, .inl (fun _ => 0))), (q7, .inl (k8, 2, .inl (fun _ => 0))), (q9, .inl (k10, 2, .inl (fun _ => 0))), (q47, .inl (k48, 12, .inl (fun _ => 0)))] := hD
  have hK : va_K (dC, dI) vwCl [(k2, .byte), (k6, .int), (k8, .int), (k10, .int), (k48, .int)] s := hK
  refine W.widen (k := 24) (n := 2774) (Nat.le_of_ble_eq_true rfl) (Nat.le_of_ble_eq_true rfl) ?_
  have hP := hP.sub (ws' := [(h0, .inr (12, [.ref q1, .ref q3, .int 0, .int 0, .int 0, .int (-1), .int 0, .int 0, .int 0, .int 0, .long 0, .ref q5, .ref q7, .ref q9, .ref q11, .ref q13, .ref q15, .ref q17, .ref q19, .ref q21, .ref q23, .ref q25, .ref q27, .ref q29, .ref q31, .ref q33, .ref q35, .ref q37, .ref q39, .int 0, .int 0, .ref q41, .ref q43, .ref q45, .null, .null, .null, .null, .null, .int 0, .int 0, .null, .null, .null, .null, .long 0, .long 0, .null, .long 0, .int 0, .null, .null, .null, .int 0, .null, .null, .null, .null, .int 0])), (q1, .inl (k2, 1020, .inl (fun _ => 0))), (q5, .inl (k6, 2, .inl (fun _ => 0))), (q7, .inl (k8, 2, .inl (fun _ => 0))), (q9, .inl (k10, 2, .inl (fun _ => 0)))]) [0, 1, 2, 3, 4] rfl
  have hD := hD.sub (ws' := [(h0, .inr (12, [.ref q1, .ref q3, .int 0, .int 0, .int 0, .int (-1), .int 0, .int 0, .int 0, .int 0, .long 0, .ref q5, .ref q7, .ref q9, .ref q11, .ref q13, .ref q15, .ref q17, .ref q19, .ref q21, .ref q23, .ref q25, .ref q27, .ref q29, .ref q31, .ref q33, .ref q35, .ref q37, .ref q39, .int 0, .int 0, .ref q41, .ref q43, .ref q45, .null, .null, .null, .null, .null, .int 0, .int 0, .null, .null, .null, .null, .long 0, .long 0, .null, .long 0, .int 0, .null, .null, .null, .int 0, .null, .null, .null, .null, .int 0])), (q1, .inl (k2, 1020, .inl (fun _ => 0))), (q5, .inl (k6, 2, .inl (fun _ => 0))), (q7, .inl (k8, 2, .inl (fun _ => 0))), (q9, .inl (k10, 2, .inl (fun _ => 0)))]) [0, 1, 2, 3, 4] (by decide) rfl
  have hK := hK.sub (tys' := [(k2, .byte), (k6, .int), (k8, .int), (k10, .int)]) [0, 1, 2, 3] rfl
  refine va_putF (D := (dC, dI)) (ci := 12) (v := .ref q47) (ty := tyX12 34) (C := RX12) (T := TX12) (N := 59) hx hb hts hin12 tyX12 tyX12_ok nmX12 hown hK hP hD hS 0 rfl rfl 34 (by decide) (ho (.fieldLink RX12 85 "NearEnoughModel" "cKind" "[I") (List.mem_of_getElem? (i := 30) rfl)) (fun _ h9 => h9) rfl hin rfl (by decide +kernel) rfl rfl (Nat.le_of_ble_eq_true rfl) dX12_init_194 (fun H locs hP hD hS => ?_)
  have hP : va_P (dC, dI) vwCl [(h0, .inr (12, [.ref q1, .ref q3, .int 0, .int 0, .int 0, .int (-1), .int 0, .int 0, .int 0, .int 0, .long 0, .ref q5, .ref q7, .ref q9, .ref q11, .ref q13, .ref q15, .ref q17, .ref q19, .ref q21, .ref q23, .ref q25, .ref q27, .ref q29, .ref q31, .ref q33, .ref q35, .ref q37, .ref q39, .int 0, .int 0, .ref q41, .ref q43, .ref q45, .ref q47, .null, .null, .null, .null, .int 0, .int 0, .null, .null, .null, .null, .long 0, .long 0, .null, .long 0, .int 0, .null, .null, .null, .int 0, .null, .null, .null, .null, .int 0])), (q1, .inl (k2, 1020, .inl (fun _ => 0))), (q5, .inl (k6, 2, .inl (fun _ => 0))), (q7, .inl (k8, 2, .inl (fun _ => 0))), (q9, .inl (k10, 2, .inl (fun _ => 0)))] H := hP
  have hD : va_D A [(h0, .inr (12, [.ref q1, .ref q3, .int 0, .int 0, .int 0, .int (-1), .int 0, .int 0, .int 0, .int 0, .long 0, .ref q5, .ref q7, .ref q9, .ref q11, .ref q13, .ref q15, .ref q17, .ref q19, .ref q21, .ref q23, .ref q25, .ref q27, .ref q29, .ref q31, .ref q33, .ref q35, .ref q37, .ref q39, .int 0, .int 0, .ref q41, .ref q43, .ref q45, .ref q47, .null, .null, .null, .null, .int 0, .int 0, .null, .null, .null, .null, .long 0, .long 0, .null, .long 0, .int 0, .null, .null, .null, .int 0, .null, .null, .null, .null, .int 0])), (q1, .inl (k2, 1020, .inl (fun _ => 0))), (q5, .inl (k6, 2, .inl (fun _ => 0))), (q7, .inl (k8, 2, .inl (fun _ => 0))), (q9, .inl (k10, 2, .inl (fun _ => 0)))] := hD
  refine lv_aload_n hx hb dX12_init_197 rfl (lv_at hl 0 rfl) ?_
  refine lv_bipush (v := 12) hx hb dX12_init_198 (by decide) ?_
  refine va_newa (atype := .int) (ty := .int) (a0 := (12, .inl (fun _ => 0))) (N' := 12) hx hb (ho (.arrayClass .int) (List.mem_of_getElem? (i := 7) rfl)) rfl hK hP hD hS hA (fun _ => rfl) (by decide) (by decide) (by decide +kernel) (Nat.le_of_ble_eq_true rfl) (Nat.le_of_ble_eq_true rfl) dX12_init_200 (fun q49 k50 H hK hP hD hS => ?_)
  have hP : va_P (dC, dI) vwCl [(h0, .inr (12, [.ref q1, .ref q3, .int 0, .int 0, .int 0, .int (-1), .int 0, .int 0, .int 0, .int 0, .long 0, .ref q5, .ref q7, .ref q9, .ref q11, .ref q13, .ref q15, .ref q17, .ref q19, .ref q21, .ref q23, .ref q25, .ref q27, .ref q29, .ref q31, .ref q33, .ref q35, .ref q37, .ref q39, .int 0, .int 0, .ref q41, .ref q43, .ref q45, .ref q47, .null, .null, .null, .null, .int 0, .int 0, .null, .null, .null, .null, .long 0, .long 0, .null, .long 0, .int 0, .null, .null, .null, .int 0, .null, .null, .null, .null, .int 0])), (q1, .inl (k2, 1020, .inl (fun _ => 0))), (q5, .inl (k6, 2, .inl (fun _ => 0))), (q7, .inl (k8, 2, .inl (fun _ => 0))), (q9, .inl (k10, 2, .inl (fun _ => 0))), (q49, .inl (k50, 12, .inl (fun _ => 0)))] H := hP
  have hD : va_D A [(h0, .inr (12, [.ref q1, .ref q3, .int 0, .int 0, .int 0, .int (-1), .int 0, .int 0, .int 0, .int 0, .long 0, .ref q5, .ref q7, .ref q9, .ref q11, .ref q13, .ref q15, .ref q17, .ref q19, .ref q21, .ref q23, .ref q25, .ref q27, .ref q29, .ref q31, .ref q33, .ref q35, .ref q37, .ref q39, .int 0, .int 0, .ref q41, .ref q43, .ref q45, .ref q47, .null, .null, .null, .null, .int 0, .int 0, .null, .null, .null, .null, .long 0, .long 0, .null, .long 0, .int 0, .null, .null, .null, .int 0, .null, .null, .null, .null, .int 0])), (q1, .inl (k2, 1020, .inl (fun _ => 0))), (q5, .inl (k6, 2, .inl (fun _ => 0))), (q7, .inl (k8, 2, .inl (fun _ => 0))), (q9, .inl (k10, 2, .inl (fun _ => 0))), (q49, .inl (k50, 12, .inl (fun _ => 0)))] := hD
  have hK : va_K (dC, dI) vwCl [(k2, .byte), (k6, .int), (k8, .int), (k10, .int), (k50, .int)] s := hK
  refine W.widen (k := 25) (n := 2786) (Nat.le_of_ble_eq_true rfl) (Nat.le_of_ble_eq_true rfl) ?_
  have hP := hP.sub (ws' := [(h0, .inr (12, [.ref q1, .ref q3, .int 0, .int 0, .int 0, .int (-1), .int 0, .int 0, .int 0, .int 0, .long 0, .ref q5, .ref q7, .ref q9, .ref q11, .ref q13, .ref q15, .ref q17, .ref q19, .ref q21, .ref q23, .ref q25, .ref q27, .ref q29, .ref q31, .ref q33, .ref q35, .ref q37, .ref q39, .int 0, .int 0, .ref q41, .ref q43, .ref q45, .ref q47, .null, .null, .null, .null, .int 0, .int 0, .null, .null, .null, .null, .long 0, .long 0, .null, .long 0, .int 0, .null, .null, .null, .int 0, .null, .null, .null, .null, .int 0])), (q1, .inl (k2, 1020, .inl (fun _ => 0))), (q5, .inl (k6, 2, .inl (fun _ => 0))), (q7, .inl (k8, 2, .inl (fun _ => 0))), (q9, .inl (k10, 2, .inl (fun _ => 0)))]) [0, 1, 2, 3, 4] rfl
  have hD := hD.sub (ws' := [(h0, .inr (12, [.ref q1, .ref q3, .int 0, .int 0, .int 0, .int (-1), .int 0, .int 0, .int 0, .int 0, .long 0, .ref q5, .ref q7, .ref q9, .ref q11, .ref q13, .ref q15, .ref q17, .ref q19, .ref q21, .ref q23, .ref q25, .ref q27, .ref q29, .ref q31, .ref q33, .ref q35, .ref q37, .ref q39, .int 0, .int 0, .ref q41, .ref q43, .ref q45, .ref q47, .null, .null, .null, .null, .int 0, .int 0, .null, .null, .null, .null, .long 0, .long 0, .null, .long 0, .int 0, .null, .null, .null, .int 0, .null, .null, .null, .null, .int 0])), (q1, .inl (k2, 1020, .inl (fun _ => 0))), (q5, .inl (k6, 2, .inl (fun _ => 0))), (q7, .inl (k8, 2, .inl (fun _ => 0))), (q9, .inl (k10, 2, .inl (fun _ => 0)))]) [0, 1, 2, 3, 4] (by decide) rfl
  have hK := hK.sub (tys' := [(k2, .byte), (k6, .int), (k8, .int), (k10, .int)]) [0, 1, 2, 3] rfl
  refine va_putF (D := (dC, dI)) (ci := 12) (v := .ref q49) (ty := tyX12 35) (C := RX12) (T := TX12) (N := 59) hx hb hts hin12 tyX12 tyX12_ok nmX12 hown hK hP hD hS 0 rfl rfl 35 (by decide) (ho (.fieldLink RX12 88 "NearEnoughModel" "cN" "[I") (List.mem_of_getElem? (i := 31) rfl)) (fun _ h9 => h9) rfl hin rfl (by decide +kernel) rfl rfl (Nat.le_of_ble_eq_true rfl) dX12_init_202 (fun H locs hP hD hS => ?_)
  have hP : va_P (dC, dI) vwCl [(h0, .inr (12, [.ref q1, .ref q3, .int 0, .int 0, .int 0, .int (-1), .int 0, .int 0, .int 0, .int 0, .long 0, .ref q5, .ref q7, .ref q9, .ref q11, .ref q13, .ref q15, .ref q17, .ref q19, .ref q21, .ref q23, .ref q25, .ref q27, .ref q29, .ref q31, .ref q33, .ref q35, .ref q37, .ref q39, .int 0, .int 0, .ref q41, .ref q43, .ref q45, .ref q47, .ref q49, .null, .null, .null, .int 0, .int 0, .null, .null, .null, .null, .long 0, .long 0, .null, .long 0, .int 0, .null, .null, .null, .int 0, .null, .null, .null, .null, .int 0])), (q1, .inl (k2, 1020, .inl (fun _ => 0))), (q5, .inl (k6, 2, .inl (fun _ => 0))), (q7, .inl (k8, 2, .inl (fun _ => 0))), (q9, .inl (k10, 2, .inl (fun _ => 0)))] H := hP
  have hD : va_D A [(h0, .inr (12, [.ref q1, .ref q3, .int 0, .int 0, .int 0, .int (-1), .int 0, .int 0, .int 0, .int 0, .long 0, .ref q5, .ref q7, .ref q9, .ref q11, .ref q13, .ref q15, .ref q17, .ref q19, .ref q21, .ref q23, .ref q25, .ref q27, .ref q29, .ref q31, .ref q33, .ref q35, .ref q37, .ref q39, .int 0, .int 0, .ref q41, .ref q43, .ref q45, .ref q47, .ref q49, .null, .null, .null, .int 0, .int 0, .null, .null, .null, .null, .long 0, .long 0, .null, .long 0, .int 0, .null, .null, .null, .int 0, .null, .null, .null, .null, .int 0])), (q1, .inl (k2, 1020, .inl (fun _ => 0))), (q5, .inl (k6, 2, .inl (fun _ => 0))), (q7, .inl (k8, 2, .inl (fun _ => 0))), (q9, .inl (k10, 2, .inl (fun _ => 0)))] := hD
  refine lv_aload_n hx hb dX12_init_205 rfl (lv_at hl 0 rfl) ?_
  refine lv_bipush (v := 12) hx hb dX12_init_206 (by decide) ?_
  refine va_newa (atype := .int) (ty := .int) (a0 := (12, .inl (fun _ => 0))) (N' := 12) hx hb (ho (.arrayClass .int) (List.mem_of_getElem? (i := 7) rfl)) rfl hK hP hD hS hA (fun _ => rfl) (by decide) (by decide) (by decide +kernel) (Nat.le_of_ble_eq_true rfl) (Nat.le_of_ble_eq_true rfl) dX12_init_208 (fun q51 k52 H hK hP hD hS => ?_)
  have hP : va_P (dC, dI) vwCl [(h0, .inr (12, [.ref q1, .ref q3, .int 0, .int 0, .int 0, .int (-1), .int 0, .int 0, .int 0, .int 0, .long 0, .ref q5, .ref q7, .ref q9, .ref q11, .ref q13, .ref q15, .ref q17, .ref q19, .ref q21, .ref q23, .ref q25, .ref q27, .ref q29, .ref q31, .ref q33, .ref q35, .ref q37, .ref q39, .int 0, .int 0, .ref q41, .ref q43, .ref q45, .ref q47, .ref q49, .null, .null, .null, .int 0, .int 0, .null, .null, .null, .null, .long 0, .long 0, .null, .long 0, .int 0, .null, .null, .null, .int 0, .null, .null, .null, .null, .int 0])), (q1, .inl (k2, 1020, .inl (fun _ => 0))), (q5, .inl (k6, 2, .inl (fun _ => 0))), (q7, .inl (k8, 2, .inl (fun _ => 0))), (q9, .inl (k10, 2, .inl (fun _ => 0))), (q51, .inl (k52, 12, .inl (fun _ => 0)))] H := hP
  have hD : va_D A [(h0, .inr (12, [.ref q1, .ref q3, .int 0, .int 0, .int 0, .int (-1), .int 0, .int 0, .int 0, .int 0, .long 0, .ref q5, .ref q7, .ref q9, .ref q11, .ref q13, .ref q15, .ref q17, .ref q19, .ref q21, .ref q23, .ref q25, .ref q27, .ref q29, .ref q31, .ref q33, .ref q35, .ref q37, .ref q39, .int 0, .int 0, .ref q41, .ref q43, .ref q45, .ref q47, .ref q49, .null, .null, .null, .int 0, .int 0, .null, .null, .null, .null, .long 0, .long 0, .null, .long 0, .int 0, .null, .null, .null, .int 0, .null, .null, .null, .null, .int 0])), (q1, .inl (k2, 1020, .inl (fun _ => 0))), (q5, .inl (k6, 2, .inl (fun _ => 0))), (q7, .inl (k8, 2, .inl (fun _ => 0))), (q9, .inl (k10, 2, .inl (fun _ => 0))), (q51, .inl (k52, 12, .inl (fun _ => 0)))] := hD
  have hK : va_K (dC, dI) vwCl [(k2, .byte), (k6, .int), (k8, .int), (k10, .int), (k52, .int)] s := hK
  refine W.widen (k := 26) (n := 2798) (Nat.le_of_ble_eq_true rfl) (Nat.le_of_ble_eq_true rfl) ?_
  have hP := hP.sub (ws' := [(h0, .inr (12, [.ref q1, .ref q3, .int 0, .int 0, .int 0, .int (-1), .int 0, .int 0, .int 0, .int 0, .long 0, .ref q5, .ref q7, .ref q9, .ref q11, .ref q13, .ref q15, .ref q17, .ref q19, .ref q21, .ref q23, .ref q25, .ref q27, .ref q29, .ref q31, .ref q33, .ref q35, .ref q37, .ref q39, .int 0, .int 0, .ref q41, .ref q43, .ref q45, .ref q47, .ref q49, .null, .null, .null, .int 0, .int 0, .null, .null, .null, .null, .long 0, .long 0, .null, .long 0, .int 0, .null, .null, .null, .int 0, .null, .null, .null, .null, .int 0])), (q1, .inl (k2, 1020, .inl (fun _ => 0))), (q5, .inl (k6, 2, .inl (fun _ => 0))), (q7, .inl (k8, 2, .inl (fun _ => 0))), (q9, .inl (k10, 2, .inl (fun _ => 0)))]) [0, 1, 2, 3, 4] rfl
  have hD := hD.sub (ws' := [(h0, .inr (12, [.ref q1, .ref q3, .int 0, .int 0, .int 0, .int (-1), .int 0, .int 0, .int 0, .int 0, .long 0, .ref q5, .ref q7, .ref q9, .ref q11, .ref q13, .ref q15, .ref q17, .ref q19, .ref q21, .ref q23, .ref q25, .ref q27, .ref q29, .ref q31, .ref q33, .ref q35, .ref q37, .ref q39, .int 0, .int 0, .ref q41, .ref q43, .ref q45, .ref q47, .ref q49, .null, .null, .null, .int 0, .int 0, .null, .null, .null, .null, .long 0, .long 0, .null, .long 0, .int 0, .null, .null, .null, .int 0, .null, .null, .null, .null, .int 0])), (q1, .inl (k2, 1020, .inl (fun _ => 0))), (q5, .inl (k6, 2, .inl (fun _ => 0))), (q7, .inl (k8, 2, .inl (fun _ => 0))), (q9, .inl (k10, 2, .inl (fun _ => 0)))]) [0, 1, 2, 3, 4] (by decide) rfl
  have hK := hK.sub (tys' := [(k2, .byte), (k6, .int), (k8, .int), (k10, .int)]) [0, 1, 2, 3] rfl
  refine va_putF (D := (dC, dI)) (ci := 12) (v := .ref q51) (ty := tyX12 36) (C := RX12) (T := TX12) (N := 59) hx hb hts hin12 tyX12 tyX12_ok nmX12 hown hK hP hD hS 0 rfl rfl 36 (by decide) (ho (.fieldLink RX12 91 "NearEnoughModel" "cSaves" "[I") (List.mem_of_getElem? (i := 32) rfl)) (fun _ h9 => h9) rfl hin rfl (by decide +kernel) rfl rfl (Nat.le_of_ble_eq_true rfl) dX12_init_210 (fun H locs hP hD hS => ?_)
  have hP : va_P (dC, dI) vwCl [(h0, .inr (12, [.ref q1, .ref q3, .int 0, .int 0, .int 0, .int (-1), .int 0, .int 0, .int 0, .int 0, .long 0, .ref q5, .ref q7, .ref q9, .ref q11, .ref q13, .ref q15, .ref q17, .ref q19, .ref q21, .ref q23, .ref q25, .ref q27, .ref q29, .ref q31, .ref q33, .ref q35, .ref q37, .ref q39, .int 0, .int 0, .ref q41, .ref q43, .ref q45, .ref q47, .ref q49, .ref q51, .null, .null, .int 0, .int 0, .null, .null, .null, .null, .long 0, .long 0, .null, .long 0, .int 0, .null, .null, .null, .int 0, .null, .null, .null, .null, .int 0])), (q1, .inl (k2, 1020, .inl (fun _ => 0))), (q5, .inl (k6, 2, .inl (fun _ => 0))), (q7, .inl (k8, 2, .inl (fun _ => 0))), (q9, .inl (k10, 2, .inl (fun _ => 0)))] H := hP
  have hD : va_D A [(h0, .inr (12, [.ref q1, .ref q3, .int 0, .int 0, .int 0, .int (-1), .int 0, .int 0, .int 0, .int 0, .long 0, .ref q5, .ref q7, .ref q9, .ref q11, .ref q13, .ref q15, .ref q17, .ref q19, .ref q21, .ref q23, .ref q25, .ref q27, .ref q29, .ref q31, .ref q33, .ref q35, .ref q37, .ref q39, .int 0, .int 0, .ref q41, .ref q43, .ref q45, .ref q47, .ref q49, .ref q51, .null, .null, .int 0, .int 0, .null, .null, .null, .null, .long 0, .long 0, .null, .long 0, .int 0, .null, .null, .null, .int 0, .null, .null, .null, .null, .int 0])), (q1, .inl (k2, 1020, .inl (fun _ => 0))), (q5, .inl (k6, 2, .inl (fun _ => 0))), (q7, .inl (k8, 2, .inl (fun _ => 0))), (q9, .inl (k10, 2, .inl (fun _ => 0)))] := hD
  refine lv_aload_n hx hb dX12_init_213 rfl (lv_at hl 0 rfl) ?_
  refine lv_bipush (v := 12) hx hb dX12_init_214 (by decide) ?_
  refine va_newa (atype := .int) (ty := .int) (a0 := (12, .inl (fun _ => 0))) (N' := 12) hx hb (ho (.arrayClass .int) (List.mem_of_getElem? (i := 7) rfl)) rfl hK hP hD hS hA (fun _ => rfl) (by decide) (by decide) (by decide +kernel) (Nat.le_of_ble_eq_true rfl) (Nat.le_of_ble_eq_true rfl) dX12_init_216 (fun q53 k54 H hK hP hD hS => ?_)
  have hP : va_P (dC, dI) vwCl [(h0, .inr (12, [.ref q1, .ref q3, .int 0, .int 0, .int 0, .int (-1), .int 0, .int 0, .int 0, .int 0, .long 0, .ref q5, .ref q7, .ref q9, .ref q11, .ref q13, .ref q15, .ref q17, .ref q19, .ref q21, .ref q23, .ref q25, .ref q27, .ref q29, .ref q31, .ref q33, .ref q35, .ref q37, .ref q39, .int 0, .int 0, .ref q41, .ref q43, .ref q45, .ref q47, .ref q49, .ref q51, .null, .null, .int 0, .int 0, .null, .null, .null, .null, .long 0, .long 0, .null, .long 0, .int 0, .null, .null, .null, .int 0, .null, .null, .null, .null, .int 0])), (q1, .inl (k2, 1020, .inl (fun _ => 0))), (q5, .inl (k6, 2, .inl (fun _ => 0))), (q7, .inl (k8, 2, .inl (fun _ => 0))), (q9, .inl (k10, 2, .inl (fun _ => 0))), (q53, .inl (k54, 12, .inl (fun _ => 0)))] H := hP
  have hD : va_D A [(h0, .inr (12, [.ref q1, .ref q3, .int 0, .int 0, .int 0, .int (-1), .int 0, .int 0, .int 0, .int 0, .long 0, .ref q5, .ref q7, .ref q9, .ref q11, .ref q13, .ref q15, .ref q17, .ref q19, .ref q21, .ref q23, .ref q25, .ref q27, .ref q29, .ref q31, .ref q33, .ref q35, .ref q37, .ref q39, .int 0, .int 0, .ref q41, .ref q43, .ref q45, .ref q47, .ref q49, .ref q51, .null, .null, .int 0, .int 0, .null, .null, .null, .null, .long 0, .long 0, .null, .long 0, .int 0, .null, .null, .null, .int 0, .null, .null, .null, .null, .int 0])), (q1, .inl (k2, 1020, .inl (fun _ => 0))), (q5, .inl (k6, 2, .inl (fun _ => 0))), (q7, .inl (k8, 2, .inl (fun _ => 0))), (q9, .inl (k10, 2, .inl (fun _ => 0))), (q53, .inl (k54, 12, .inl (fun _ => 0)))] := hD
  have hK : va_K (dC, dI) vwCl [(k2, .byte), (k6, .int), (k8, .int), (k10, .int), (k54, .int)] s := hK
  refine W.widen (k := 27) (n := 2810) (Nat.le_of_ble_eq_true rfl) (Nat.le_of_ble_eq_true rfl) ?_
  refine va_putF (D := (dC, dI)) (ci := 12) (v := .ref q53) (ty := tyX12 37) (C := RX12) (T := TX12) (N := 59) hx hb hts hin12 tyX12 tyX12_ok nmX12 hown hK hP hD hS 0 rfl rfl 37 (by decide) (ho (.fieldLink RX12 94 "NearEnoughModel" "on" "[I") (List.mem_of_getElem? (i := 33) rfl)) (fun _ h9 => h9) rfl hin rfl (by decide +kernel) rfl rfl (Nat.le_of_ble_eq_true rfl) dX12_init_218 (fun H locs hP hD hS => ?_)
  have hP : va_P (dC, dI) vwCl [(h0, .inr (12, [.ref q1, .ref q3, .int 0, .int 0, .int 0, .int (-1), .int 0, .int 0, .int 0, .int 0, .long 0, .ref q5, .ref q7, .ref q9, .ref q11, .ref q13, .ref q15, .ref q17, .ref q19, .ref q21, .ref q23, .ref q25, .ref q27, .ref q29, .ref q31, .ref q33, .ref q35, .ref q37, .ref q39, .int 0, .int 0, .ref q41, .ref q43, .ref q45, .ref q47, .ref q49, .ref q51, .ref q53, .null, .int 0, .int 0, .null, .null, .null, .null, .long 0, .long 0, .null, .long 0, .int 0, .null, .null, .null, .int 0, .null, .null, .null, .null, .int 0])), (q1, .inl (k2, 1020, .inl (fun _ => 0))), (q5, .inl (k6, 2, .inl (fun _ => 0))), (q7, .inl (k8, 2, .inl (fun _ => 0))), (q9, .inl (k10, 2, .inl (fun _ => 0))), (q53, .inl (k54, 12, .inl (fun _ => 0)))] H := hP
  have hD : va_D A [(h0, .inr (12, [.ref q1, .ref q3, .int 0, .int 0, .int 0, .int (-1), .int 0, .int 0, .int 0, .int 0, .long 0, .ref q5, .ref q7, .ref q9, .ref q11, .ref q13, .ref q15, .ref q17, .ref q19, .ref q21, .ref q23, .ref q25, .ref q27, .ref q29, .ref q31, .ref q33, .ref q35, .ref q37, .ref q39, .int 0, .int 0, .ref q41, .ref q43, .ref q45, .ref q47, .ref q49, .ref q51, .ref q53, .null, .int 0, .int 0, .null, .null, .null, .null, .long 0, .long 0, .null, .long 0, .int 0, .null, .null, .null, .int 0, .null, .null, .null, .null, .int 0])), (q1, .inl (k2, 1020, .inl (fun _ => 0))), (q5, .inl (k6, 2, .inl (fun _ => 0))), (q7, .inl (k8, 2, .inl (fun _ => 0))), (q9, .inl (k10, 2, .inl (fun _ => 0))), (q53, .inl (k54, 12, .inl (fun _ => 0)))] := hD
  refine lv_aload_n hx hb dX12_init_221 rfl (lv_at hl 0 rfl) ?_
  refine lv_bipush (v := 40) hx hb dX12_init_222 (by decide) ?_
  refine va_newa (atype := .boolean) (ty := .boolean) (a0 := (40, .inl (fun _ => 0))) (N' := 40) hx hb (ho (.arrayClass .boolean) (List.mem_of_getElem? (i := 34) rfl)) rfl hK hP hD hS hA (fun _ => rfl) (by decide) (by decide) (by decide +kernel) (Nat.le_of_ble_eq_true rfl) (Nat.le_of_ble_eq_true rfl) dX12_init_224 (fun q55 k56 H hK hP hD hS => ?_)
  have hP : va_P (dC, dI) vwCl [(h0, .inr (12, [.ref q1, .ref q3, .int 0, .int 0, .int 0, .int (-1), .int 0, .int 0, .int 0, .int 0, .long 0, .ref q5, .ref q7, .ref q9, .ref q11, .ref q13, .ref q15, .ref q17, .ref q19, .ref q21, .ref q23, .ref q25, .ref q27, .ref q29, .ref q31, .ref q33, .ref q35, .ref q37, .ref q39, .int 0, .int 0, .ref q41, .ref q43, .ref q45, .ref q47, .ref q49, .ref q51, .ref q53, .null, .int 0, .int 0, .null, .null, .null, .null, .long 0, .long 0, .null, .long 0, .int 0, .null, .null, .null, .int 0, .null, .null, .null, .null, .int 0])), (q1, .inl (k2, 1020, .inl (fun _ => 0))), (q5, .inl (k6, 2, .inl (fun _ => 0))), (q7, .inl (k8, 2, .inl (fun _ => 0))), (q9, .inl (k10, 2, .inl (fun _ => 0))), (q53, .inl (k54, 12, .inl (fun _ => 0))), (q55, .inl (k56, 40, .inl (fun _ => 0)))] H := hP
  have hD : va_D A [(h0, .inr (12, [.ref q1, .ref q3, .int 0, .int 0, .int 0, .int (-1), .int 0, .int 0, .int 0, .int 0, .long 0, .ref q5, .ref q7, .ref q9, .ref q11, .ref q13, .ref q15, .ref q17, .ref q19, .ref q21, .ref q23, .ref q25, .ref q27, .ref q29, .ref q31, .ref q33, .ref q35, .ref q37, .ref q39, .int 0, .int 0, .ref q41, .ref q43, .ref q45, .ref q47, .ref q49, .ref q51, .ref q53, .null, .int 0, .int 0, .null, .null, .null, .null, .long 0, .long 0, .null, .long 0, .int 0, .null, .null, .null, .int 0, .null, .null, .null, .null, .int 0])), (q1, .inl (k2, 1020, .inl (fun _ => 0))), (q5, .inl (k6, 2, .inl (fun _ => 0))), (q7, .inl (k8, 2, .inl (fun _ => 0))), (q9, .inl (k10, 2, .inl (fun _ => 0))), (q53, .inl (k54, 12, .inl (fun _ => 0))), (q55, .inl (k56, 40, .inl (fun _ => 0)))] := hD
  have hK : va_K (dC, dI) vwCl [(k2, .byte), (k6, .int), (k8, .int), (k10, .int), (k54, .int), (k56, .boolean)] s := hK
  refine W.widen (k := 28) (n := 2850) (Nat.le_of_ble_eq_true rfl) (Nat.le_of_ble_eq_true rfl) ?_
  refine va_putF (D := (dC, dI)) (ci := 12) (v := .ref q55) (ty := tyX12 38) (C := RX12) (T := TX12) (N := 59) hx hb hts hin12 tyX12 tyX12_ok nmX12 hown hK hP hD hS 0 rfl rfl 38 (by decide) (ho (.fieldLink RX12 97 "NearEnoughModel" "isKeptBack" "[Z") (List.mem_of_getElem? (i := 35) rfl)) (fun _ h9 => h9) rfl hin rfl (by decide +kernel) rfl rfl (Nat.le_of_ble_eq_true rfl) dX12_init_226 (fun H locs hP hD hS => ?_)
  have hP : va_P (dC, dI) vwCl [(h0, .inr (12, [.ref q1, .ref q3, .int 0, .int 0, .int 0, .int (-1), .int 0, .int 0, .int 0, .int 0, .long 0, .ref q5, .ref q7, .ref q9, .ref q11, .ref q13, .ref q15, .ref q17, .ref q19, .ref q21, .ref q23, .ref q25, .ref q27, .ref q29, .ref q31, .ref q33, .ref q35, .ref q37, .ref q39, .int 0, .int 0, .ref q41, .ref q43, .ref q45, .ref q47, .ref q49, .ref q51, .ref q53, .ref q55, .int 0, .int 0, .null, .null, .null, .null, .long 0, .long 0, .null, .long 0, .int 0, .null, .null, .null, .int 0, .null, .null, .null, .null, .int 0])), (q1, .inl (k2, 1020, .inl (fun _ => 0))), (q5, .inl (k6, 2, .inl (fun _ => 0))), (q7, .inl (k8, 2, .inl (fun _ => 0))), (q9, .inl (k10, 2, .inl (fun _ => 0))), (q53, .inl (k54, 12, .inl (fun _ => 0))), (q55, .inl (k56, 40, .inl (fun _ => 0)))] H := hP
  have hD : va_D A [(h0, .inr (12, [.ref q1, .ref q3, .int 0, .int 0, .int 0, .int (-1), .int 0, .int 0, .int 0, .int 0, .long 0, .ref q5, .ref q7, .ref q9, .ref q11, .ref q13, .ref q15, .ref q17, .ref q19, .ref q21, .ref q23, .ref q25, .ref q27, .ref q29, .ref q31, .ref q33, .ref q35, .ref q37, .ref q39, .int 0, .int 0, .ref q41, .ref q43, .ref q45, .ref q47, .ref q49, .ref q51, .ref q53, .ref q55, .int 0, .int 0, .null, .null, .null, .null, .long 0, .long 0, .null, .long 0, .int 0, .null, .null, .null, .int 0, .null, .null, .null, .null, .int 0])), (q1, .inl (k2, 1020, .inl (fun _ => 0))), (q5, .inl (k6, 2, .inl (fun _ => 0))), (q7, .inl (k8, 2, .inl (fun _ => 0))), (q9, .inl (k10, 2, .inl (fun _ => 0))), (q53, .inl (k54, 12, .inl (fun _ => 0))), (q55, .inl (k56, 40, .inl (fun _ => 0)))] := hD
  refine lv_aload_n hx hb dX12_init_229 rfl (lv_at hl 0 rfl) ?_
  refine lv_bipush (v := 12) hx hb dX12_init_230 (by decide) ?_
  refine va_newa (atype := .long) (ty := .long) (a0 := (12, .inr (.inl (fun _ => 0)))) (N' := 12) hx hb (ho (.arrayClass .long) (List.mem_of_getElem? (i := 22) rfl)) rfl hK hP hD hS hA (fun _ => rfl) (by decide) (by decide) (by decide +kernel) (Nat.le_of_ble_eq_true rfl) (Nat.le_of_ble_eq_true rfl) dX12_init_232 (fun q57 k58 H hK hP hD hS => ?_)
  have hP : va_P (dC, dI) vwCl [(h0, .inr (12, [.ref q1, .ref q3, .int 0, .int 0, .int 0, .int (-1), .int 0, .int 0, .int 0, .int 0, .long 0, .ref q5, .ref q7, .ref q9, .ref q11, .ref q13, .ref q15, .ref q17, .ref q19, .ref q21, .ref q23, .ref q25, .ref q27, .ref q29, .ref q31, .ref q33, .ref q35, .ref q37, .ref q39, .int 0, .int 0, .ref q41, .ref q43, .ref q45, .ref q47, .ref q49, .ref q51, .ref q53, .ref q55, .int 0, .int 0, .null, .null, .null, .null, .long 0, .long 0, .null, .long 0, .int 0, .null, .null, .null, .int 0, .null, .null, .null, .null, .int 0])), (q1, .inl (k2, 1020, .inl (fun _ => 0))), (q5, .inl (k6, 2, .inl (fun _ => 0))), (q7, .inl (k8, 2, .inl (fun _ => 0))), (q9, .inl (k10, 2, .inl (fun _ => 0))), (q53, .inl (k54, 12, .inl (fun _ => 0))), (q55, .inl (k56, 40, .inl (fun _ => 0))), (q57, .inl (k58, 12, .inr (.inl (fun _ => 0))))] H := hP
  have hD : va_D A [(h0, .inr (12, [.ref q1, .ref q3, .int 0, .int 0, .int 0, .int (-1), .int 0, .int 0, .int 0, .int 0, .long 0, .ref q5, .ref q7, .ref q9, .ref q11, .ref q13, .ref q15, .ref q17, .ref q19, .ref q21, .ref q23, .ref q25, .ref q27, .ref q29, .ref q31, .ref q33, .ref q35, .ref q37, .ref q39, .int 0, .int 0, .ref q41, .ref q43, .ref q45, .ref q47, .ref q49, .ref q51, .ref q53, .ref q55, .int 0, .int 0, .null, .null, .null, .null, .long 0, .long 0, .null, .long 0, .int 0, .null, .null, .null, .int 0, .null, .null, .null, .null, .int 0])), (q1, .inl (k2, 1020, .inl (fun _ => 0))), (q5, .inl (k6, 2, .inl (fun _ => 0))), (q7, .inl (k8, 2, .inl (fun _ => 0))), (q9, .inl (k10, 2, .inl (fun _ => 0))), (q53, .inl (k54, 12, .inl (fun _ => 0))), (q55, .inl (k56, 40, .inl (fun _ => 0))), (q57, .inl (k58, 12, .inr (.inl (fun _ => 0))))] := hD
  have hK : va_K (dC, dI) vwCl [(k2, .byte), (k6, .int), (k8, .int), (k10, .int), (k54, .int), (k56, .boolean), (k58, .long)] s := hK
  refine W.widen (k := 29) (n := 2862) (Nat.le_of_ble_eq_true rfl) (Nat.le_of_ble_eq_true rfl) ?_
  have hP := hP.sub (ws' := [(h0, .inr (12, [.ref q1, .ref q3, .int 0, .int 0, .int 0, .int (-1), .int 0, .int 0, .int 0, .int 0, .long 0, .ref q5, .ref q7, .ref q9, .ref q11, .ref q13, .ref q15, .ref q17, .ref q19, .ref q21, .ref q23, .ref q25, .ref q27, .ref q29, .ref q31, .ref q33, .ref q35, .ref q37, .ref q39, .int 0, .int 0, .ref q41, .ref q43, .ref q45, .ref q47, .ref q49, .ref q51, .ref q53, .ref q55, .int 0, .int 0, .null, .null, .null, .null, .long 0, .long 0, .null, .long 0, .int 0, .null, .null, .null, .int 0, .null, .null, .null, .null, .int 0])), (q1, .inl (k2, 1020, .inl (fun _ => 0))), (q5, .inl (k6, 2, .inl (fun _ => 0))), (q7, .inl (k8, 2, .inl (fun _ => 0))), (q9, .inl (k10, 2, .inl (fun _ => 0))), (q53, .inl (k54, 12, .inl (fun _ => 0))), (q55, .inl (k56, 40, .inl (fun _ => 0)))]) [0, 1, 2, 3, 4, 5, 6] rfl
  have hD := hD.sub (ws' := [(h0, .inr (12, [.ref q1, .ref q3, .int 0, .int 0, .int 0, .int (-1), .int 0, .int 0, .int 0, .int 0, .long 0, .ref q5, .ref q7, .ref q9, .ref q11, .ref q13, .ref q15, .ref q17, .ref q19, .ref q21, .ref q23, .ref q25, .ref q27, .ref q29, .ref q31, .ref q33, .ref q35, .ref q37, .ref q39, .int 0, .int 0, .ref q41, .ref q43, .ref q45, .ref q47, .ref q49, .ref q51, .ref q53, .ref q55, .int 0, .int 0, .null, .null, .null, .null, .long 0, .long 0, .null, .long 0, .int 0, .null, .null, .null, .int 0, .null, .null, .null, .null, .int 0])), (q1, .inl (k2, 1020, .inl (fun _ => 0))), (q5, .inl (k6, 2, .inl (fun _ => 0))), (q7, .inl (k8, 2, .inl (fun _ => 0))), (q9, .inl (k10, 2, .inl (fun _ => 0))), (q53, .inl (k54, 12, .inl (fun _ => 0))), (q55, .inl (k56, 40, .inl (fun _ => 0)))]) [0, 1, 2, 3, 4, 5, 6] (by decide) rfl
  have hK := hK.sub (tys' := [(k2, .byte), (k6, .int), (k8, .int), (k10, .int), (k54, .int), (k56, .boolean)]) [0, 1, 2, 3, 4, 5] rfl
  refine va_putF (D := (dC, dI)) (ci := 12) (v := .ref q57) (ty := tyX12 41) (C := RX12) (T := TX12) (N := 59) hx hb hts hin12 tyX12 tyX12_ok nmX12 hown hK hP hD hS 0 rfl rfl 41 (by decide) (ho (.fieldLink RX12 101 "NearEnoughModel" "came" "[J") (List.mem_of_getElem? (i := 36) rfl)) (fun _ h9 => h9) rfl hin rfl (by decide +kernel) rfl rfl (Nat.le_of_ble_eq_true rfl) dX12_init_234 (fun H locs hP hD hS => ?_)
  have hP : va_P (dC, dI) vwCl [(h0, .inr (12, [.ref q1, .ref q3, .int 0, .int 0, .int 0, .int (-1), .int 0, .int 0, .int 0, .int 0, .long 0, .ref q5, .ref q7, .ref q9, .ref q11, .ref q13, .ref q15, .ref q17, .ref q19, .ref q21, .ref q23, .ref q25, .ref q27, .ref q29, .ref q31, .ref q33, .ref q35, .ref q37, .ref q39, .int 0, .int 0, .ref q41, .ref q43, .ref q45, .ref q47, .ref q49, .ref q51, .ref q53, .ref q55, .int 0, .int 0, .ref q57, .null, .null, .null, .long 0, .long 0, .null, .long 0, .int 0, .null, .null, .null, .int 0, .null, .null, .null, .null, .int 0])), (q1, .inl (k2, 1020, .inl (fun _ => 0))), (q5, .inl (k6, 2, .inl (fun _ => 0))), (q7, .inl (k8, 2, .inl (fun _ => 0))), (q9, .inl (k10, 2, .inl (fun _ => 0))), (q53, .inl (k54, 12, .inl (fun _ => 0))), (q55, .inl (k56, 40, .inl (fun _ => 0)))] H := hP
  have hD : va_D A [(h0, .inr (12, [.ref q1, .ref q3, .int 0, .int 0, .int 0, .int (-1), .int 0, .int 0, .int 0, .int 0, .long 0, .ref q5, .ref q7, .ref q9, .ref q11, .ref q13, .ref q15, .ref q17, .ref q19, .ref q21, .ref q23, .ref q25, .ref q27, .ref q29, .ref q31, .ref q33, .ref q35, .ref q37, .ref q39, .int 0, .int 0, .ref q41, .ref q43, .ref q45, .ref q47, .ref q49, .ref q51, .ref q53, .ref q55, .int 0, .int 0, .ref q57, .null, .null, .null, .long 0, .long 0, .null, .long 0, .int 0, .null, .null, .null, .int 0, .null, .null, .null, .null, .int 0])), (q1, .inl (k2, 1020, .inl (fun _ => 0))), (q5, .inl (k6, 2, .inl (fun _ => 0))), (q7, .inl (k8, 2, .inl (fun _ => 0))), (q9, .inl (k10, 2, .inl (fun _ => 0))), (q53, .inl (k54, 12, .inl (fun _ => 0))), (q55, .inl (k56, 40, .inl (fun _ => 0)))] := hD
  refine lv_aload_n hx hb dX12_init_237 rfl (lv_at hl 0 rfl) ?_
  refine lv_bipush (v := 12) hx hb dX12_init_238 (by decide) ?_
  refine va_newa (atype := .long) (ty := .long) (a0 := (12, .inr (.inl (fun _ => 0)))) (N' := 12) hx hb (ho (.arrayClass .long) (List.mem_of_getElem? (i := 22) rfl)) rfl hK hP hD hS hA (fun _ => rfl) (by decide) (by decide) (by decide +kernel) (Nat.le_of_ble_eq_true rfl) (Nat.le_of_ble_eq_true rfl) dX12_init_240 (fun q59 k60 H hK hP hD hS => ?_)
  have hP : va_P (dC, dI) vwCl [(h0, .inr (12, [.ref q1, .ref q3, .int 0, .int 0, .int 0, .int (-1), .int 0, .int 0, .int 0, .int 0, .long 0, .ref q5, .ref q7, .ref q9, .ref q11, .ref q13, .ref q15, .ref q17, .ref q19, .ref q21, .ref q23, .ref q25, .ref q27, .ref q29, .ref q31, .ref q33, .ref q35, .ref q37, .ref q39, .int 0, .int 0, .ref q41, .ref q43, .ref q45, .ref q47, .ref q49, .ref q51, .ref q53, .ref q55, .int 0, .int 0, .ref q57, .null, .null, .null, .long 0, .long 0, .null, .long 0, .int 0, .null, .null, .null, .int 0, .null, .null, .null, .null, .int 0])), (q1, .inl (k2, 1020, .inl (fun _ => 0))), (q5, .inl (k6, 2, .inl (fun _ => 0))), (q7, .inl (k8, 2, .inl (fun _ => 0))), (q9, .inl (k10, 2, .inl (fun _ => 0))), (q53, .inl (k54, 12, .inl (fun _ => 0))), (q55, .inl (k56, 40, .inl (fun _ => 0))), (q59, .inl (k60, 12, .inr (.inl (fun _ => 0))))] H := hP
  have hD : va_D A [(h0, .inr (12, [.ref q1, .ref q3, .int 0, .int 0, .int 0, .int (-1), .int 0, .int 0, .int 0, .int 0, .long 0, .ref q5, .ref q7, .ref q9, .ref q11, .ref q13, .ref q15, .ref q17, .ref q19, .ref q21, .ref q23, .ref q25, .ref q27, .ref q29, .ref q31, .ref q33, .ref q35, .ref q37, .ref q39, .int 0, .int 0, .ref q41, .ref q43, .ref q45, .ref q47, .ref q49, .ref q51, .ref q53, .ref q55, .int 0, .int 0, .ref q57, .null, .null, .null, .long 0, .long 0, .null, .long 0, .int 0, .null, .null, .null, .int 0, .null, .null, .null, .null, .int 0])), (q1, .inl (k2, 1020, .inl (fun _ => 0))), (q5, .inl (k6, 2, .inl (fun _ => 0))), (q7, .inl (k8, 2, .inl (fun _ => 0))), (q9, .inl (k10, 2, .inl (fun _ => 0))), (q53, .inl (k54, 12, .inl (fun _ => 0))), (q55, .inl (k56, 40, .inl (fun _ => 0))), (q59, .inl (k60, 12, .inr (.inl (fun _ => 0))))] := hD
  have hK : va_K (dC, dI) vwCl [(k2, .byte), (k6, .int), (k8, .int), (k10, .int), (k54, .int), (k56, .boolean), (k60, .long)] s := hK
  refine W.widen (k := 30) (n := 2874) (Nat.le_of_ble_eq_true rfl) (Nat.le_of_ble_eq_true rfl) ?_
  have hP := hP.sub (ws' := [(h0, .inr (12, [.ref q1, .ref q3, .int 0, .int 0, .int 0, .int (-1), .int 0, .int 0, .int 0, .int 0, .long 0, .ref q5, .ref q7, .ref q9, .ref q11, .ref q13, .ref q15, .ref q17, .ref q19, .ref q21, .ref q23, .ref q25, .ref q27, .ref q29, .ref q31, .ref q33, .ref q35, .ref q37, .ref q39, .int 0, .int 0, .ref q41, .ref q43, .ref q45, .ref q47, .ref q49, .ref q51, .ref q53, .ref q55, .int 0, .int 0, .ref q57, .null, .null, .null, .long 0, .long 0, .null, .long 0, .int 0, .null, .null, .null, .int 0, .null, .null, .null, .null, .int 0])), (q1, .inl (k2, 1020, .inl (fun _ => 0))), (q5, .inl (k6, 2, .inl (fun _ => 0))), (q7, .inl (k8, 2, .inl (fun _ => 0))), (q9, .inl (k10, 2, .inl (fun _ => 0))), (q53, .inl (k54, 12, .inl (fun _ => 0))), (q55, .inl (k56, 40, .inl (fun _ => 0)))]) [0, 1, 2, 3, 4, 5, 6] rfl
  have hD := hD.sub (ws' := [(h0, .inr (12, [.ref q1, .ref q3, .int 0, .int 0, .int 0, .int (-1), .int 0, .int 0, .int 0, .int 0, .long 0, .ref q5, .ref q7, .ref q9, .ref q11, .ref q13, .ref q15, .ref q17, .ref q19, .ref q21, .ref q23, .ref q25, .ref q27, .ref q29, .ref q31, .ref q33, .ref q35, .ref q37, .ref q39, .int 0, .int 0, .ref q41, .ref q43, .ref q45, .ref q47, .ref q49, .ref q51, .ref q53, .ref q55, .int 0, .int 0, .ref q57, .null, .null, .null, .long 0, .long 0, .null, .long 0, .int 0, .null, .null, .null, .int 0, .null, .null, .null, .null, .int 0])), (q1, .inl (k2, 1020, .inl (fun _ => 0))), (q5, .inl (k6, 2, .inl (fun _ => 0))), (q7, .inl (k8, 2, .inl (fun _ => 0))), (q9, .inl (k10, 2, .inl (fun _ => 0))), (q53, .inl (k54, 12, .inl (fun _ => 0))), (q55, .inl (k56, 40, .inl (fun _ => 0)))]) [0, 1, 2, 3, 4, 5, 6] (by decide) rfl
  have hK := hK.sub (tys' := [(k2, .byte), (k6, .int), (k8, .int), (k10, .int), (k54, .int), (k56, .boolean)]) [0, 1, 2, 3, 4, 5] rfl
  refine va_putF (D := (dC, dI)) (ci := 12) (v := .ref q59) (ty := tyX12 42) (C := RX12) (T := TX12) (N := 59) hx hb hts hin12 tyX12 tyX12_ok nmX12 hown hK hP hD hS 0 rfl rfl 42 (by decide) (ho (.fieldLink RX12 104 "NearEnoughModel" "plain" "[J") (List.mem_of_getElem? (i := 37) rfl)) (fun _ h9 => h9) rfl hin rfl (by decide +kernel) rfl rfl (Nat.le_of_ble_eq_true rfl) dX12_init_242 (fun H locs hP hD hS => ?_)
  have hP : va_P (dC, dI) vwCl [(h0, .inr (12, [.ref q1, .ref q3, .int 0, .int 0, .int 0, .int (-1), .int 0, .int 0, .int 0, .int 0, .long 0, .ref q5, .ref q7, .ref q9, .ref q11, .ref q13, .ref q15, .ref q17, .ref q19, .ref q21, .ref q23, .ref q25, .ref q27, .ref q29, .ref q31, .ref q33, .ref q35, .ref q37, .ref q39, .int 0, .int 0, .ref q41, .ref q43, .ref q45, .ref q47, .ref q49, .ref q51, .ref q53, .ref q55, .int 0, .int 0, .ref q57, .ref q59, .null, .null, .long 0, .long 0, .null, .long 0, .int 0, .null, .null, .null, .int 0, .null, .null, .null, .null, .int 0])), (q1, .inl (k2, 1020, .inl (fun _ => 0))), (q5, .inl (k6, 2, .inl (fun _ => 0))), (q7, .inl (k8, 2, .inl (fun _ => 0))), (q9, .inl (k10, 2, .inl (fun _ => 0))), (q53, .inl (k54, 12, .inl (fun _ => 0))), (q55, .inl (k56, 40, .inl (fun _ => 0)))] H := hP
  have hD : va_D A [(h0, .inr (12, [.ref q1, .ref q3, .int 0, .int 0, .int 0, .int (-1), .int 0, .int 0, .int 0, .int 0, .long 0, .ref q5, .ref q7, .ref q9, .ref q11, .ref q13, .ref q15, .ref q17, .ref q19, .ref q21, .ref q23, .ref q25, .ref q27, .ref q29, .ref q31, .ref q33, .ref q35, .ref q37, .ref q39, .int 0, .int 0, .ref q41, .ref q43, .ref q45, .ref q47, .ref q49, .ref q51, .ref q53, .ref q55, .int 0, .int 0, .ref q57, .ref q59, .null, .null, .long 0, .long 0, .null, .long 0, .int 0, .null, .null, .null, .int 0, .null, .null, .null, .null, .int 0])), (q1, .inl (k2, 1020, .inl (fun _ => 0))), (q5, .inl (k6, 2, .inl (fun _ => 0))), (q7, .inl (k8, 2, .inl (fun _ => 0))), (q9, .inl (k10, 2, .inl (fun _ => 0))), (q53, .inl (k54, 12, .inl (fun _ => 0))), (q55, .inl (k56, 40, .inl (fun _ => 0)))] := hD
  refine lv_aload_n hx hb dX12_init_245 rfl (lv_at hl 0 rfl) ?_
  refine lv_bipush (v := 12) hx hb dX12_init_246 (by decide) ?_
  refine va_newa (atype := .long) (ty := .long) (a0 := (12, .inr (.inl (fun _ => 0)))) (N' := 12) hx hb (ho (.arrayClass .long) (List.mem_of_getElem? (i := 22) rfl)) rfl hK hP hD hS hA (fun _ => rfl) (by decide) (by decide) (by decide +kernel) (Nat.le_of_ble_eq_true rfl) (Nat.le_of_ble_eq_true rfl) dX12_init_248 (fun q61 k62 H hK hP hD hS => ?_)
  have hP : va_P (dC, dI) vwCl [(h0, .inr (12, [.ref q1, .ref q3, .int 0, .int 0, .int 0, .int (-1), .int 0, .int 0, .int 0, .int 0, .long 0, .ref q5, .ref q7, .ref q9, .ref q11, .ref q13, .ref q15, .ref q17, .ref q19, .ref q21, .ref q23, .ref q25, .ref q27, .ref q29, .ref q31, .ref q33, .ref q35, .ref q37, .ref q39, .int 0, .int 0, .ref q41, .ref q43, .ref q45, .ref q47, .ref q49, .ref q51, .ref q53, .ref q55, .int 0, .int 0, .ref q57, .ref q59, .null, .null, .long 0, .long 0, .null, .long 0, .int 0, .null, .null, .null, .int 0, .null, .null, .null, .null, .int 0])), (q1, .inl (k2, 1020, .inl (fun _ => 0))), (q5, .inl (k6, 2, .inl (fun _ => 0))), (q7, .inl (k8, 2, .inl (fun _ => 0))), (q9, .inl (k10, 2, .inl (fun _ => 0))), (q53, .inl (k54, 12, .inl (fun _ => 0))), (q55, .inl (k56, 40, .inl (fun _ => 0))), (q61, .inl (k62, 12, .inr (.inl (fun _ => 0))))] H := hP
  have hD : va_D A [(h0, .inr (12, [.ref q1, .ref q3, .int 0, .int 0, .int 0, .int (-1), .int 0, .int 0, .int 0, .int 0, .long 0, .ref q5, .ref q7, .ref q9, .ref q11, .ref q13, .ref q15, .ref q17, .ref q19, .ref q21, .ref q23, .ref q25, .ref q27, .ref q29, .ref q31, .ref q33, .ref q35, .ref q37, .ref q39, .int 0, .int 0, .ref q41, .ref q43, .ref q45, .ref q47, .ref q49, .ref q51, .ref q53, .ref q55, .int 0, .int 0, .ref q57, .ref q59, .null, .null, .long 0, .long 0, .null, .long 0, .int 0, .null, .null, .null, .int 0, .null, .null, .null, .null, .int 0])), (q1, .inl (k2, 1020, .inl (fun _ => 0))), (q5, .inl (k6, 2, .inl (fun _ => 0))), (q7, .inl (k8, 2, .inl (fun _ => 0))), (q9, .inl (k10, 2, .inl (fun _ => 0))), (q53, .inl (k54, 12, .inl (fun _ => 0))), (q55, .inl (k56, 40, .inl (fun _ => 0))), (q61, .inl (k62, 12, .inr (.inl (fun _ => 0))))] := hD
  have hK : va_K (dC, dI) vwCl [(k2, .byte), (k6, .int), (k8, .int), (k10, .int), (k54, .int), (k56, .boolean), (k62, .long)] s := hK
  refine W.widen (k := 31) (n := 2886) (Nat.le_of_ble_eq_true rfl) (Nat.le_of_ble_eq_true rfl) ?_
  have hP := hP.sub (ws' := [(h0, .inr (12, [.ref q1, .ref q3, .int 0, .int 0, .int 0, .int (-1), .int 0, .int 0, .int 0, .int 0, .long 0, .ref q5, .ref q7, .ref q9, .ref q11, .ref q13, .ref q15, .ref q17, .ref q19, .ref q21, .ref q23, .ref q25, .ref q27, .ref q29, .ref q31, .ref q33, .ref q35, .ref q37, .ref q39, .int 0, .int 0, .ref q41, .ref q43, .ref q45, .ref q47, .ref q49, .ref q51, .ref q53, .ref q55, .int 0, .int 0, .ref q57, .ref q59, .null, .null, .long 0, .long 0, .null, .long 0, .int 0, .null, .null, .null, .int 0, .null, .null, .null, .null, .int 0])), (q1, .inl (k2, 1020, .inl (fun _ => 0))), (q5, .inl (k6, 2, .inl (fun _ => 0))), (q7, .inl (k8, 2, .inl (fun _ => 0))), (q9, .inl (k10, 2, .inl (fun _ => 0))), (q53, .inl (k54, 12, .inl (fun _ => 0))), (q55, .inl (k56, 40, .inl (fun _ => 0)))]) [0, 1, 2, 3, 4, 5, 6] rfl
  have hD := hD.sub (ws' := [(h0, .inr (12, [.ref q1, .ref q3, .int 0, .int 0, .int 0, .int (-1), .int 0, .int 0, .int 0, .int 0, .long 0, .ref q5, .ref q7, .ref q9, .ref q11, .ref q13, .ref q15, .ref q17, .ref q19, .ref q21, .ref q23, .ref q25, .ref q27, .ref q29, .ref q31, .ref q33, .ref q35, .ref q37, .ref q39, .int 0, .int 0, .ref q41, .ref q43, .ref q45, .ref q47, .ref q49, .ref q51, .ref q53, .ref q55, .int 0, .int 0, .ref q57, .ref q59, .null, .null, .long 0, .long 0, .null, .long 0, .int 0, .null, .null, .null, .int 0, .null, .null, .null, .null, .int 0])), (q1, .inl (k2, 1020, .inl (fun _ => 0))), (q5, .inl (k6, 2, .inl (fun _ => 0))), (q7, .inl (k8, 2, .inl (fun _ => 0))), (q9, .inl (k10, 2, .inl (fun _ => 0))), (q53, .inl (k54, 12, .inl (fun _ => 0))), (q55, .inl (k56, 40, .inl (fun _ => 0)))]) [0, 1, 2, 3, 4, 5, 6] (by decide) rfl
  have hK := hK.sub (tys' := [(k2, .byte), (k6, .int), (k8, .int), (k10, .int), (k54, .int), (k56, .boolean)]) [0, 1, 2, 3, 4, 5] rfl
  refine va_putF (D := (dC, dI)) (ci := 12) (v := .ref q61) (ty := tyX12 43) (C := RX12) (T := TX12) (N := 59) hx hb hts hin12 tyX12 tyX12_ok nmX12 hown hK hP hD hS 0 rfl rfl 43 (by decide) (ho (.fieldLink RX12 107 "NearEnoughModel" "low" "[J") (List.mem_of_getElem? (i := 38) rfl)) (fun _ h9 => h9) rfl hin rfl (by decide +kernel) rfl rfl (Nat.le_of_ble_eq_true rfl) dX12_init_250 (fun H locs hP hD hS => ?_)
  have hP : va_P (dC, dI) vwCl [(h0, .inr (12, [.ref q1, .ref q3, .int 0, .int 0, .int 0, .int (-1), .int 0, .int 0, .int 0, .int 0, .long 0, .ref q5, .ref q7, .ref q9, .ref q11, .ref q13, .ref q15, .ref q17, .ref q19, .ref q21, .ref q23, .ref q25, .ref q27, .ref q29, .ref q31, .ref q33, .ref q35, .ref q37, .ref q39, .int 0, .int 0, .ref q41, .ref q43, .ref q45, .ref q47, .ref q49, .ref q51, .ref q53, .ref q55, .int 0, .int 0, .ref q57, .ref q59, .ref q61, .null, .long 0, .long 0, .null, .long 0, .int 0, .null, .null, .null, .int 0, .null, .null, .null, .null, .int 0])), (q1, .inl (k2, 1020, .inl (fun _ => 0))), (q5, .inl (k6, 2, .inl (fun _ => 0))), (q7, .inl (k8, 2, .inl (fun _ => 0))), (q9, .inl (k10, 2, .inl (fun _ => 0))), (q53, .inl (k54, 12, .inl (fun _ => 0))), (q55, .inl (k56, 40, .inl (fun _ => 0)))] H := hP
  have hD : va_D A [(h0, .inr (12, [.ref q1, .ref q3, .int 0, .int 0, .int 0, .int (-1), .int 0, .int 0, .int 0, .int 0, .long 0, .ref q5, .ref q7, .ref q9, .ref q11, .ref q13, .ref q15, .ref q17, .ref q19, .ref q21, .ref q23, .ref q25, .ref q27, .ref q29, .ref q31, .ref q33, .ref q35, .ref q37, .ref q39, .int 0, .int 0, .ref q41, .ref q43, .ref q45, .ref q47, .ref q49, .ref q51, .ref q53, .ref q55, .int 0, .int 0, .ref q57, .ref q59, .ref q61, .null, .long 0, .long 0, .null, .long 0, .int 0, .null, .null, .null, .int 0, .null, .null, .null, .null, .int 0])), (q1, .inl (k2, 1020, .inl (fun _ => 0))), (q5, .inl (k6, 2, .inl (fun _ => 0))), (q7, .inl (k8, 2, .inl (fun _ => 0))), (q9, .inl (k10, 2, .inl (fun _ => 0))), (q53, .inl (k54, 12, .inl (fun _ => 0))), (q55, .inl (k56, 40, .inl (fun _ => 0)))] := hD
  refine lv_aload_n hx hb dX12_init_253 rfl (lv_at hl 0 rfl) ?_
  refine lv_bipush (v := 12) hx hb dX12_init_254 (by decide) ?_
  refine va_newa (atype := .long) (ty := .long) (a0 := (12, .inr (.inl (fun _ => 0)))) (N' := 12) hx hb (ho (.arrayClass .long) (List.mem_of_getElem? (i := 22) rfl)) rfl hK hP hD hS hA (fun _ => rfl) (by decide) (by decide) (by decide +kernel) (Nat.le_of_ble_eq_true rfl) (Nat.le_of_ble_eq_true rfl) dX12_init_256 (fun q63 k64 H hK hP hD hS => ?_)
  have hP : va_P (dC, dI) vwCl [(h0, .inr (12, [.ref q1, .ref q3, .int 0, .int 0, .int 0, .int (-1), .int 0, .int 0, .int 0, .int 0, .long 0, .ref q5, .ref q7, .ref q9, .ref q11, .ref q13, .ref q15, .ref q17, .ref q19, .ref q21, .ref q23, .ref q25, .ref q27, .ref q29, .ref q31, .ref q33, .ref q35, .ref q37, .ref q39, .int 0, .int 0, .ref q41, .ref q43, .ref q45, .ref q47, .ref q49, .ref q51, .ref q53, .ref q55, .int 0, .int 0, .ref q57, .ref q59, .ref q61, .null, .long 0, .long 0, .null, .long 0, .int 0, .null, .null, .null, .int 0, .null, .null, .null, .null, .int 0])), (q1, .inl (k2, 1020, .inl (fun _ => 0))), (q5, .inl (k6, 2, .inl (fun _ => 0))), (q7, .inl (k8, 2, .inl (fun _ => 0))), (q9, .inl (k10, 2, .inl (fun _ => 0))), (q53, .inl (k54, 12, .inl (fun _ => 0))), (q55, .inl (k56, 40, .inl (fun _ => 0))), (q63, .inl (k64, 12, .inr (.inl (fun _ => 0))))] H := hP
  have hD : va_D A [(h0, .inr (12, [.ref q1, .ref q3, .int 0, .int 0, .int 0, .int (-1), .int 0, .int 0, .int 0, .int 0, .long 0, .ref q5, .ref q7, .ref q9, .ref q11, .ref q13, .ref q15, .ref q17, .ref q19, .ref q21, .ref q23, .ref q25, .ref q27, .ref q29, .ref q31, .ref q33, .ref q35, .ref q37, .ref q39, .int 0, .int 0, .ref q41, .ref q43, .ref q45, .ref q47, .ref q49, .ref q51, .ref q53, .ref q55, .int 0, .int 0, .ref q57, .ref q59, .ref q61, .null, .long 0, .long 0, .null, .long 0, .int 0, .null, .null, .null, .int 0, .null, .null, .null, .null, .int 0])), (q1, .inl (k2, 1020, .inl (fun _ => 0))), (q5, .inl (k6, 2, .inl (fun _ => 0))), (q7, .inl (k8, 2, .inl (fun _ => 0))), (q9, .inl (k10, 2, .inl (fun _ => 0))), (q53, .inl (k54, 12, .inl (fun _ => 0))), (q55, .inl (k56, 40, .inl (fun _ => 0))), (q63, .inl (k64, 12, .inr (.inl (fun _ => 0))))] := hD
  have hK : va_K (dC, dI) vwCl [(k2, .byte), (k6, .int), (k8, .int), (k10, .int), (k54, .int), (k56, .boolean), (k64, .long)] s := hK
  refine W.widen (k := 32) (n := 2898) (Nat.le_of_ble_eq_true rfl) (Nat.le_of_ble_eq_true rfl) ?_
  have hP := hP.sub (ws' := [(h0, .inr (12, [.ref q1, .ref q3, .int 0, .int 0, .int 0, .int (-1), .int 0, .int 0, .int 0, .int 0, .long 0, .ref q5, .ref q7, .ref q9, .ref q11, .ref q13, .ref q15, .ref q17, .ref q19, .ref q21, .ref q23, .ref q25, .ref q27, .ref q29, .ref q31, .ref q33, .ref q35, .ref q37, .ref q39, .int 0, .int 0, .ref q41, .ref q43, .ref q45, .ref q47, .ref q49, .ref q51, .ref q53, .ref q55, .int 0, .int 0, .ref q57, .ref q59, .ref q61, .null, .long 0, .long 0, .null, .long 0, .int 0, .null, .null, .null, .int 0, .null, .null, .null, .null, .int 0])), (q1, .inl (k2, 1020, .inl (fun _ => 0))), (q5, .inl (k6, 2, .inl (fun _ => 0))), (q7, .inl (k8, 2, .inl (fun _ => 0))), (q9, .inl (k10, 2, .inl (fun _ => 0))), (q53, .inl (k54, 12, .inl (fun _ => 0))), (q55, .inl (k56, 40, .inl (fun _ => 0)))]) [0, 1, 2, 3, 4, 5, 6] rfl
  have hD := hD.sub (ws' := [(h0, .inr (12, [.ref q1, .ref q3, .int 0, .int 0, .int 0, .int (-1), .int 0, .int 0, .int 0, .int 0, .long 0, .ref q5, .ref q7, .ref q9, .ref q11, .ref q13, .ref q15, .ref q17, .ref q19, .ref q21, .ref q23, .ref q25, .ref q27, .ref q29, .ref q31, .ref q33, .ref q35, .ref q37, .ref q39, .int 0, .int 0, .ref q41, .ref q43, .ref q45, .ref q47, .ref q49, .ref q51, .ref q53, .ref q55, .int 0, .int 0, .ref q57, .ref q59, .ref q61, .null, .long 0, .long 0, .null, .long 0, .int 0, .null, .null, .null, .int 0, .null, .null, .null, .null, .int 0])), (q1, .inl (k2, 1020, .inl (fun _ => 0))), (q5, .inl (k6, 2, .inl (fun _ => 0))), (q7, .inl (k8, 2, .inl (fun _ => 0))), (q9, .inl (k10, 2, .inl (fun _ => 0))), (q53, .inl (k54, 12, .inl (fun _ => 0))), (q55, .inl (k56, 40, .inl (fun _ => 0)))]) [0, 1, 2, 3, 4, 5, 6] (by decide) rfl
  have hK := hK.sub (tys' := [(k2, .byte), (k6, .int), (k8, .int), (k10, .int), (k54, .int), (k56, .boolean)]) [0, 1, 2, 3, 4, 5] rfl
  refine va_putF (D := (dC, dI)) (ci := 12) (v := .ref q63) (ty := tyX12 44) (C := RX12) (T := TX12) (N := 59) hx hb hts hin12 tyX12 tyX12_ok nmX12 hown hK hP hD hS 0 rfl rfl 44 (by decide) (ho (.fieldLink RX12 110 "NearEnoughModel" "high0" "[J") (List.mem_of_getElem? (i := 39) rfl)) (fun _ h9 => h9) rfl hin rfl (by decide +kernel) rfl rfl (Nat.le_of_ble_eq_true rfl) dX12_init_258 (fun H locs hP hD hS => ?_)
  have hP : va_P (dC, dI) vwCl [(h0, .inr (12, [.ref q1, .ref q3, .int 0, .int 0, .int 0, .int (-1), .int 0, .int 0, .int 0, .int 0, .long 0, .ref q5, .ref q7, .ref q9, .ref q11, .ref q13, .ref q15, .ref q17, .ref q19, .ref q21, .ref q23, .ref q25, .ref q27, .ref q29, .ref q31, .ref q33, .ref q35, .ref q37, .ref q39, .int 0, .int 0, .ref q41, .ref q43, .ref q45, .ref q47, .ref q49, .ref q51, .ref q53, .ref q55, .int 0, .int 0, .ref q57, .ref q59, .ref q61, .ref q63, .long 0, .long 0, .null, .long 0, .int 0, .null, .null, .null, .int 0, .null, .null, .null, .null, .int 0])), (q1, .inl (k2, 1020, .inl (fun _ => 0))), (q5, .inl (k6, 2, .inl (fun _ => 0))), (q7, .inl (k8, 2, .inl (fun _ => 0))), (q9, .inl (k10, 2, .inl (fun _ => 0))), (q53, .inl (k54, 12, .inl (fun _ => 0))), (q55, .inl (k56, 40, .inl (fun _ => 0)))] H := hP
  have hD : va_D A [(h0, .inr (12, [.ref q1, .ref q3, .int 0, .int 0, .int 0, .int (-1), .int 0, .int 0, .int 0, .int 0, .long 0, .ref q5, .ref q7, .ref q9, .ref q11, .ref q13, .ref q15, .ref q17, .ref q19, .ref q21, .ref q23, .ref q25, .ref q27, .ref q29, .ref q31, .ref q33, .ref q35, .ref q37, .ref q39, .int 0, .int 0, .ref q41, .ref q43, .ref q45, .ref q47, .ref q49, .ref q51, .ref q53, .ref q55, .int 0, .int 0, .ref q57, .ref q59, .ref q61, .ref q63, .long 0, .long 0, .null, .long 0, .int 0, .null, .null, .null, .int 0, .null, .null, .null, .null, .int 0])), (q1, .inl (k2, 1020, .inl (fun _ => 0))), (q5, .inl (k6, 2, .inl (fun _ => 0))), (q7, .inl (k8, 2, .inl (fun _ => 0))), (q9, .inl (k10, 2, .inl (fun _ => 0))), (q53, .inl (k54, 12, .inl (fun _ => 0))), (q55, .inl (k56, 40, .inl (fun _ => 0)))] := hD
  refine lv_aload_n hx hb dX12_init_261 rfl (lv_at hl 0 rfl) ?_
  refine lv_sipush (v := 4096) hx hb dX12_init_262 (by decide) ?_
  refine va_newa (atype := .long) (ty := .long) (a0 := (4096, .inr (.inl (fun _ => 0)))) (N' := 4096) hx hb (ho (.arrayClass .long) (List.mem_of_getElem? (i := 22) rfl)) rfl hK hP hD hS hA (fun _ => rfl) (by decide) (by decide) (by decide +kernel) (Nat.le_of_ble_eq_true rfl) (Nat.le_of_ble_eq_true rfl) dX12_init_265 (fun q65 k66 H hK hP hD hS => ?_)
  have hP : va_P (dC, dI) vwCl [(h0, .inr (12, [.ref q1, .ref q3, .int 0, .int 0, .int 0, .int (-1), .int 0, .int 0, .int 0, .int 0, .long 0, .ref q5, .ref q7, .ref q9, .ref q11, .ref q13, .ref q15, .ref q17, .ref q19, .ref q21, .ref q23, .ref q25, .ref q27, .ref q29, .ref q31, .ref q33, .ref q35, .ref q37, .ref q39, .int 0, .int 0, .ref q41, .ref q43, .ref q45, .ref q47, .ref q49, .ref q51, .ref q53, .ref q55, .int 0, .int 0, .ref q57, .ref q59, .ref q61, .ref q63, .long 0, .long 0, .null, .long 0, .int 0, .null, .null, .null, .int 0, .null, .null, .null, .null, .int 0])), (q1, .inl (k2, 1020, .inl (fun _ => 0))), (q5, .inl (k6, 2, .inl (fun _ => 0))), (q7, .inl (k8, 2, .inl (fun _ => 0))), (q9, .inl (k10, 2, .inl (fun _ => 0))), (q53, .inl (k54, 12, .inl (fun _ => 0))), (q55, .inl (k56, 40, .inl (fun _ => 0))), (q65, .inl (k66, 4096, .inr (.inl (fun _ => 0))))] H := hP
  have hD : va_D A [(h0, .inr (12, [.ref q1, .ref q3, .int 0, .int 0, .int 0, .int (-1), .int 0, .int 0, .int 0, .int 0, .long 0, .ref q5, .ref q7, .ref q9, .ref q11, .ref q13, .ref q15, .ref q17, .ref q19, .ref q21, .ref q23, .ref q25, .ref q27, .ref q29, .ref q31, .ref q33, .ref q35, .ref q37, .ref q39, .int 0, .int 0, .ref q41, .ref q43, .ref q45, .ref q47, .ref q49, .ref q51, .ref q53, .ref q55, .int 0, .int 0, .ref q57, .ref q59, .ref q61, .ref q63, .long 0, .long 0, .null, .long 0, .int 0, .null, .null, .null, .int 0, .null, .null, .null, .null, .int 0])), (q1, .inl (k2, 1020, .inl (fun _ => 0))), (q5, .inl (k6, 2, .inl (fun _ => 0))), (q7, .inl (k8, 2, .inl (fun _ => 0))), (q9, .inl (k10, 2, .inl (fun _ => 0))), (q53, .inl (k54, 12, .inl (fun _ => 0))), (q55, .inl (k56, 40, .inl (fun _ => 0))), (q65, .inl (k66, 4096, .inr (.inl (fun _ => 0))))] := hD
  have hK : va_K (dC, dI) vwCl [(k2, .byte), (k6, .int), (k8, .int), (k10, .int), (k54, .int), (k56, .boolean), (k66, .long)] s := hK
  refine W.widen (k := 33) (n := 6994) (Nat.le_of_ble_eq_true rfl) (Nat.le_of_ble_eq_true rfl) ?_
  have hP := hP.sub (ws' := [(h0, .inr (12, [.ref q1, .ref q3, .int 0, .int 0, .int 0, .int (-1), .int 0, .int 0, .int 0, .int 0, .long 0, .ref q5, .ref q7, .ref q9, .ref q11, .ref q13, .ref q15, .ref q17, .ref q19, .ref q21, .ref q23, .ref q25, .ref q27, .ref q29, .ref q31, .ref q33, .ref q35, .ref q37, .ref q39, .int 0, .int 0, .ref q41, .ref q43, .ref q45, .ref q47, .ref q49, .ref q51, .ref q53, .ref q55, .int 0, .int 0, .ref q57, .ref q59, .ref q61, .ref q63, .long 0, .long 0, .null, .long 0, .int 0, .null, .null, .null, .int 0, .null, .null, .null, .null, .int 0])), (q1, .inl (k2, 1020, .inl (fun _ => 0))), (q5, .inl (k6, 2, .inl (fun _ => 0))), (q7, .inl (k8, 2, .inl (fun _ => 0))), (q9, .inl (k10, 2, .inl (fun _ => 0))), (q53, .inl (k54, 12, .inl (fun _ => 0))), (q55, .inl (k56, 40, .inl (fun _ => 0)))]) [0, 1, 2, 3, 4, 5, 6] rfl
  have hD := hD.sub (ws' := [(h0, .inr (12, [.ref q1, .ref q3, .int 0, .int 0, .int 0, .int (-1), .int 0, .int 0, .int 0, .int 0, .long 0, .ref q5, .ref q7, .ref q9, .ref q11, .ref q13, .ref q15, .ref q17, .ref q19, .ref q21, .ref q23, .ref q25, .ref q27, .ref q29, .ref q31, .ref q33, .ref q35, .ref q37, .ref q39, .int 0, .int 0, .ref q41, .ref q43, .ref q45, .ref q47, .ref q49, .ref q51, .ref q53, .ref q55, .int 0, .int 0, .ref q57, .ref q59, .ref q61, .ref q63, .long 0, .long 0, .null, .long 0, .int 0, .null, .null, .null, .int 0, .null, .null, .null, .null, .int 0])), (q1, .inl (k2, 1020, .inl (fun _ => 0))), (q5, .inl (k6, 2, .inl (fun _ => 0))), (q7, .inl (k8, 2, .inl (fun _ => 0))), (q9, .inl (k10, 2, .inl (fun _ => 0))), (q53, .inl (k54, 12, .inl (fun _ => 0))), (q55, .inl (k56, 40, .inl (fun _ => 0)))]) [0, 1, 2, 3, 4, 5, 6] (by decide) rfl
  have hK := hK.sub (tys' := [(k2, .byte), (k6, .int), (k8, .int), (k10, .int), (k54, .int), (k56, .boolean)]) [0, 1, 2, 3, 4, 5] rfl
  refine va_putF (D := (dC, dI)) (ci := 12) (v := .ref q65) (ty := tyX12 47) (C := RX12) (T := TX12) (N := 59) hx hb hts hin12 tyX12 tyX12_ok nmX12 hown hK hP hD hS 0 rfl rfl 47 (by decide) (ho (.fieldLink RX12 113 "NearEnoughModel" "offs" "[J") (List.mem_of_getElem? (i := 40) rfl)) (fun _ h9 => h9) rfl hin rfl (by decide +kernel) rfl rfl (Nat.le_of_ble_eq_true rfl) dX12_init_267 (fun H locs hP hD hS => ?_)
  have hP : va_P (dC, dI) vwCl [(h0, .inr (12, [.ref q1, .ref q3, .int 0, .int 0, .int 0, .int (-1), .int 0, .int 0, .int 0, .int 0, .long 0, .ref q5, .ref q7, .ref q9, .ref q11, .ref q13, .ref q15, .ref q17, .ref q19, .ref q21, .ref q23, .ref q25, .ref q27, .ref q29, .ref q31, .ref q33, .ref q35, .ref q37, .ref q39, .int 0, .int 0, .ref q41, .ref q43, .ref q45, .ref q47, .ref q49, .ref q51, .ref q53, .ref q55, .int 0, .int 0, .ref q57, .ref q59, .ref q61, .ref q63, .long 0, .long 0, .ref q65, .long 0, .int 0, .null, .null, .null, .int 0, .null, .null, .null, .null, .int 0])), (q1, .inl (k2, 1020, .inl (fun _ => 0))), (q5, .inl (k6, 2, .inl (fun _ => 0))), (q7, .inl (k8, 2, .inl (fun _ => 0))), (q9, .inl (k10, 2, .inl (fun _ => 0))), (q53, .inl (k54, 12, .inl (fun _ => 0))), (q55, .inl (k56, 40, .inl (fun _ => 0)))] H := hP
  have hD : va_D A [(h0, .inr (12, [.ref q1, .ref q3, .int 0, .int 0, .int 0, .int (-1), .int 0, .int 0, .int 0, .int 0, .long 0, .ref q5, .ref q7, .ref q9, .ref q11, .ref q13, .ref q15, .ref q17, .ref q19, .ref q21, .ref q23, .ref q25, .ref q27, .ref q29, .ref q31, .ref q33, .ref q35, .ref q37, .ref q39, .int 0, .int 0, .ref q41, .ref q43, .ref q45, .ref q47, .ref q49, .ref q51, .ref q53, .ref q55, .int 0, .int 0, .ref q57, .ref q59, .ref q61, .ref q63, .long 0, .long 0, .ref q65, .long 0, .int 0, .null, .null, .null, .int 0, .null, .null, .null, .null, .int 0])), (q1, .inl (k2, 1020, .inl (fun _ => 0))), (q5, .inl (k6, 2, .inl (fun _ => 0))), (q7, .inl (k8, 2, .inl (fun _ => 0))), (q9, .inl (k10, 2, .inl (fun _ => 0))), (q53, .inl (k54, 12, .inl (fun _ => 0))), (q55, .inl (k56, 40, .inl (fun _ => 0)))] := hD
  refine lv_aload_n hx hb dX12_init_270 rfl (lv_at hl 0 rfl) ?_
  refine lv_iconst (v := 4) hx hb dX12_init_271 (by decide) ?_
  refine va_newa (atype := .int) (ty := .int) (a0 := (4, .inl (fun _ => 0))) (N' := 4) hx hb (ho (.arrayClass .int) (List.mem_of_getElem? (i := 7) rfl)) rfl hK hP hD hS hA (fun _ => rfl) (by decide) (by decide) (by decide +kernel) (Nat.le_of_ble_eq_true rfl) (Nat.le_of_ble_eq_true rfl) dX12_init_272 (fun q67 k68 H hK hP hD hS => ?_)
  have hP : va_P (dC, dI) vwCl [(h0, .inr (12, [.ref q1, .ref q3, .int 0, .int 0, .int 0, .int (-1), .int 0, .int 0, .int 0, .int 0, .long 0, .ref q5, .ref q7, .ref q9, .ref q11, .ref q13, .ref q15, .ref q17, .ref q19, .ref q21, .ref q23, .ref q25, .ref q27, .ref q29, .ref q31, .ref q33, .ref q35, .ref q37, .ref q39, .int 0, .int 0, .ref q41, .ref q43, .ref q45, .ref q47, .ref q49, .ref q51, .ref q53, .ref q55, .int 0, .int 0, .ref q57, .ref q59, .ref q61, .ref q63, .long 0, .long 0, .ref q65, .long 0, .int 0, .null, .null, .null, .int 0, .null, .null, .null, .null, .int 0])), (q1, .inl (k2, 1020, .inl (fun _ => 0))), (q5, .inl (k6, 2, .inl (fun _ => 0))), (q7, .inl (k8, 2, .inl (fun _ => 0))), (q9, .inl (k10, 2, .inl (fun _ => 0))), (q53, .inl (k54, 12, .inl (fun _ => 0))), (q55, .inl (k56, 40, .inl (fun _ => 0))), (q67, .inl (k68, 4, .inl (fun _ => 0)))] H := hP
  have hD : va_D A [(h0, .inr (12, [.ref q1, .ref q3, .int 0, .int 0, .int 0, .int (-1), .int 0, .int 0, .int 0, .int 0, .long 0, .ref q5, .ref q7, .ref q9, .ref q11, .ref q13, .ref q15, .ref q17, .ref q19, .ref q21, .ref q23, .ref q25, .ref q27, .ref q29, .ref q31, .ref q33, .ref q35, .ref q37, .ref q39, .int 0, .int 0, .ref q41, .ref q43, .ref q45, .ref q47, .ref q49, .ref q51, .ref q53, .ref q55, .int 0, .int 0, .ref q57, .ref q59, .ref q61, .ref q63, .long 0, .long 0, .ref q65, .long 0, .int 0, .null, .null, .null, .int 0, .null, .null, .null, .null, .int 0])), (q1, .inl (k2, 1020, .inl (fun _ => 0))), (q5, .inl (k6, 2, .inl (fun _ => 0))), (q7, .inl (k8, 2, .inl (fun _ => 0))), (q9, .inl (k10, 2, .inl (fun _ => 0))), (q53, .inl (k54, 12, .inl (fun _ => 0))), (q55, .inl (k56, 40, .inl (fun _ => 0))), (q67, .inl (k68, 4, .inl (fun _ => 0)))] := hD
  have hK : va_K (dC, dI) vwCl [(k2, .byte), (k6, .int), (k8, .int), (k10, .int), (k54, .int), (k56, .boolean), (k68, .int)] s := hK
  refine W.widen (k := 34) (n := 6998) (Nat.le_of_ble_eq_true rfl) (Nat.le_of_ble_eq_true rfl) ?_
  have hP := hP.sub (ws' := [(h0, .inr (12, [.ref q1, .ref q3, .int 0, .int 0, .int 0, .int (-1), .int 0, .int 0, .int 0, .int 0, .long 0, .ref q5, .ref q7, .ref q9, .ref q11, .ref q13, .ref q15, .ref q17, .ref q19, .ref q21, .ref q23, .ref q25, .ref q27, .ref q29, .ref q31, .ref q33, .ref q35, .ref q37, .ref q39, .int 0, .int 0, .ref q41, .ref q43, .ref q45, .ref q47, .ref q49, .ref q51, .ref q53, .ref q55, .int 0, .int 0, .ref q57, .ref q59, .ref q61, .ref q63, .long 0, .long 0, .ref q65, .long 0, .int 0, .null, .null, .null, .int 0, .null, .null, .null, .null, .int 0])), (q1, .inl (k2, 1020, .inl (fun _ => 0))), (q5, .inl (k6, 2, .inl (fun _ => 0))), (q7, .inl (k8, 2, .inl (fun _ => 0))), (q9, .inl (k10, 2, .inl (fun _ => 0))), (q53, .inl (k54, 12, .inl (fun _ => 0))), (q55, .inl (k56, 40, .inl (fun _ => 0)))]) [0, 1, 2, 3, 4, 5, 6] rfl
  have hD := hD.sub (ws' := [(h0, .inr (12, [.ref q1, .ref q3, .int 0, .int 0, .int 0, .int (-1), .int 0, .int 0, .int 0, .int 0, .long 0, .ref q5, .ref q7, .ref q9, .ref q11, .ref q13, .ref q15, .ref q17, .ref q19, .ref q21, .ref q23, .ref q25, .ref q27, .ref q29, .ref q31, .ref q33, .ref q35, .ref q37, .ref q39, .int 0, .int 0, .ref q41, .ref q43, .ref q45, .ref q47, .ref q49, .ref q51, .ref q53, .ref q55, .int 0, .int 0, .ref q57, .ref q59, .ref q61, .ref q63, .long 0, .long 0, .ref q65, .long 0, .int 0, .null, .null, .null, .int 0, .null, .null, .null, .null, .int 0])), (q1, .inl (k2, 1020, .inl (fun _ => 0))), (q5, .inl (k6, 2, .inl (fun _ => 0))), (q7, .inl (k8, 2, .inl (fun _ => 0))), (q9, .inl (k10, 2, .inl (fun _ => 0))), (q53, .inl (k54, 12, .inl (fun _ => 0))), (q55, .inl (k56, 40, .inl (fun _ => 0)))]) [0, 1, 2, 3, 4, 5, 6] (by decide) rfl
  have hK := hK.sub (tys' := [(k2, .byte), (k6, .int), (k8, .int), (k10, .int), (k54, .int), (k56, .boolean)]) [0, 1, 2, 3, 4, 5] rfl
  refine va_putF (D := (dC, dI)) (ci := 12) (v := .ref q67) (ty := tyX12 50) (C := RX12) (T := TX12) (N := 59) hx hb hts hin12 tyX12 tyX12_ok nmX12 hown hK hP hD hS 0 rfl rfl 50 (by decide) (ho (.fieldLink RX12 116 "NearEnoughModel" "gEnd" "[I") (List.mem_of_getElem? (i := 41) rfl)) (fun _ h9 => h9) rfl hin rfl (by decide +kernel) rfl rfl (Nat.le_of_ble_eq_true rfl) dX12_init_274 (fun H locs hP hD hS => ?_)
  have hP : va_P (dC, dI) vwCl [(h0, .inr (12, [.ref q1, .ref q3, .int 0, .int 0, .int 0, .int (-1), .int 0, .int 0, .int 0, .int 0, .long 0, .ref q5, .ref q7, .ref q9, .ref q11, .ref q13, .ref q15, .ref q17, .ref q19, .ref q21, .ref q23, .ref q25, .ref q27, .ref q29, .ref q31, .ref q33, .ref q35, .ref q37, .ref q39, .int 0, .int 0, .ref q41, .ref q43, .ref q45, .ref q47, .ref q49, .ref q51, .ref q53, .ref q55, .int 0, .int 0, .ref q57, .ref q59, .ref q61, .ref q63, .long 0, .long 0, .ref q65, .long 0, .int 0, .ref q67, .null, .null, .int 0, .null, .null, .null, .null, .int 0])), (q1, .inl (k2, 1020, .inl (fun _ => 0))), (q5, .inl (k6, 2, .inl (fun _ => 0))), (q7, .inl (k8, 2, .inl (fun _ => 0))), (q9, .inl (k10, 2, .inl (fun _ => 0))), (q53, .inl (k54, 12, .inl (fun _ => 0))), (q55, .inl (k56, 40, .inl (fun _ => 0)))] H := hP
  have hD : va_D A [(h0, .inr (12, [.ref q1, .ref q3, .int 0, .int 0, .int 0, .int (-1), .int 0, .int 0, .int 0, .int 0, .long 0, .ref q5, .ref q7, .ref q9, .ref q11, .ref q13, .ref q15, .ref q17, .ref q19, .ref q21, .ref q23, .ref q25, .ref q27, .ref q29, .ref q31, .ref q33, .ref q35, .ref q37, .ref q39, .int 0, .int 0, .ref q41, .ref q43, .ref q45, .ref q47, .ref q49, .ref q51, .ref q53, .ref q55, .int 0, .int 0, .ref q57, .ref q59, .ref q61, .ref q63, .long 0, .long 0, .ref q65, .long 0, .int 0, .ref q67, .null, .null, .int 0, .null, .null, .null, .null, .int 0])), (q1, .inl (k2, 1020, .inl (fun _ => 0))), (q5, .inl (k6, 2, .inl (fun _ => 0))), (q7, .inl (k8, 2, .inl (fun _ => 0))), (q9, .inl (k10, 2, .inl (fun _ => 0))), (q53, .inl (k54, 12, .inl (fun _ => 0))), (q55, .inl (k56, 40, .inl (fun _ => 0)))] := hD
  refine lv_aload_n hx hb dX12_init_277 rfl (lv_at hl 0 rfl) ?_
  refine lv_iconst (v := 4) hx hb dX12_init_278 (by decide) ?_
  refine va_newa (atype := .int) (ty := .int) (a0 := (4, .inl (fun _ => 0))) (N' := 4) hx hb (ho (.arrayClass .int) (List.mem_of_getElem? (i := 7) rfl)) rfl hK hP hD hS hA (fun _ => rfl) (by decide) (by decide) (by decide +kernel) (Nat.le_of_ble_eq_true rfl) (Nat.le_of_ble_eq_true rfl) dX12_init_279 (fun q69 k70 H hK hP hD hS => ?_)
  have hP : va_P (dC, dI) vwCl [(h0, .inr (12, [.ref q1, .ref q3, .int 0, .int 0, .int 0, .int (-1), .int 0, .int 0, .int 0, .int 0, .long 0, .ref q5, .ref q7, .ref q9, .ref q11, .ref q13, .ref q15, .ref q17, .ref q19, .ref q21, .ref q23, .ref q25, .ref q27, .ref q29, .ref q31, .ref q33, .ref q35, .ref q37, .ref q39, .int 0, .int 0, .ref q41, .ref q43, .ref q45, .ref q47, .ref q49, .ref q51, .ref q53, .ref q55, .int 0, .int 0, .ref q57, .ref q59, .ref q61, .ref q63, .long 0, .long 0, .ref q65, .long 0, .int 0, .ref q67, .null, .null, .int 0, .null, .null, .null, .null, .int 0])), (q1, .inl (k2, 1020, .inl (fun _ => 0))), (q5, .inl (k6, 2, .inl (fun _ => 0))), (q7, .inl (k8, 2, .inl (fun _ => 0))), (q9, .inl (k10, 2, .inl (fun _ => 0))), (q53, .inl (k54, 12, .inl (fun _ => 0))), (q55, .inl (k56, 40, .inl (fun _ => 0))), (q69, .inl (k70, 4, .inl (fun _ => 0)))] H := hP
  have hD : va_D A [(h0, .inr (12, [.ref q1, .ref q3, .int 0, .int 0, .int 0, .int (-1), .int 0, .int 0, .int 0, .int 0, .long 0, .ref q5, .ref q7, .ref q9, .ref q11, .ref q13, .ref q15, .ref q17, .ref q19, .ref q21, .ref q23, .ref q25, .ref q27, .ref q29, .ref q31, .ref q33, .ref q35, .ref q37, .ref q39, .int 0, .int 0, .ref q41, .ref q43, .ref q45, .ref q47, .ref q49, .ref q51, .ref q53, .ref q55, .int 0, .int 0, .ref q57, .ref q59, .ref q61, .ref q63, .long 0, .long 0, .ref q65, .long 0, .int 0, .ref q67, .null, .null, .int 0, .null, .null, .null, .null, .int 0])), (q1, .inl (k2, 1020, .inl (fun _ => 0))), (q5, .inl (k6, 2, .inl (fun _ => 0))), (q7, .inl (k8, 2, .inl (fun _ => 0))), (q9, .inl (k10, 2, .inl (fun _ => 0))), (q53, .inl (k54, 12, .inl (fun _ => 0))), (q55, .inl (k56, 40, .inl (fun _ => 0))), (q69, .inl (k70, 4, .inl (fun _ => 0)))] := hD
  have hK : va_K (dC, dI) vwCl [(k2, .byte), (k6, .int), (k8, .int), (k10, .int), (k54, .int), (k56, .boolean), (k70, .int)] s := hK
  refine W.widen (k := 35) (n := 7002) (Nat.le_of_ble_eq_true rfl) (Nat.le_of_ble_eq_true rfl) ?_
  have hP := hP.sub (ws' := [(h0, .inr (12, [.ref q1, .ref q3, .int 0, .int 0, .int 0, .int (-1), .int 0, .int 0, .int 0, .int 0, .long 0, .ref q5, .ref q7, .ref q9, .ref q11, .ref q13, .ref q15, .ref q17, .ref q19, .ref q21, .ref q23, .ref q25, .ref q27, .ref q29, .ref q31, .ref q33, .ref q35, .ref q37, .ref q39, .int 0, .int 0, .ref q41, .ref q43, .ref q45, .ref q47, .ref q49, .ref q51, .ref q53, .ref q55, .int 0, .int 0, .ref q57, .ref q59, .ref q61, .ref q63, .long 0, .long 0, .ref q65, .long 0, .int 0, .ref q67, .null, .null, .int 0, .null, .null, .null, .null, .int 0])), (q1, .inl (k2, 1020, .inl (fun _ => 0))), (q5, .inl (k6, 2, .inl (fun _ => 0))), (q7, .inl (k8, 2, .inl (fun _ => 0))), (q9, .inl (k10, 2, .inl (fun _ => 0))), (q53, .inl (k54, 12, .inl (fun _ => 0))), (q55, .inl (k56, 40, .inl (fun _ => 0)))]) [0, 1, 2, 3, 4, 5, 6] rfl
  have hD := hD.sub (ws' := [(h0, .inr (12, [.ref q1, .ref q3, .int 0, .int 0, .int 0, .int (-1), .int 0, .int 0, .int 0, .int 0, .long 0, .ref q5, .ref q7, .ref q9, .ref q11, .ref q13, .ref q15, .ref q17, .ref q19, .ref q21, .ref q23, .ref q25, .ref q27, .ref q29, .ref q31, .ref q33, .ref q35, .ref q37, .ref q39, .int 0, .int 0, .ref q41, .ref q43, .ref q45, .ref q47, .ref q49, .ref q51, .ref q53, .ref q55, .int 0, .int 0, .ref q57, .ref q59, .ref q61, .ref q63, .long 0, .long 0, .ref q65, .long 0, .int 0, .ref q67, .null, .null, .int 0, .null, .null, .null, .null, .int 0])), (q1, .inl (k2, 1020, .inl (fun _ => 0))), (q5, .inl (k6, 2, .inl (fun _ => 0))), (q7, .inl (k8, 2, .inl (fun _ => 0))), (q9, .inl (k10, 2, .inl (fun _ => 0))), (q53, .inl (k54, 12, .inl (fun _ => 0))), (q55, .inl (k56, 40, .inl (fun _ => 0)))]) [0, 1, 2, 3, 4, 5, 6] (by decide) rfl
  have hK := hK.sub (tys' := [(k2, .byte), (k6, .int), (k8, .int), (k10, .int), (k54, .int), (k56, .boolean)]) [0, 1, 2, 3, 4, 5] rfl
  refine va_putF (D := (dC, dI)) (ci := 12) (v := .ref q69) (ty := tyX12 51) (C := RX12) (T := TX12) (N := 59) hx hb hts hin12 tyX12 tyX12_ok nmX12 hown hK hP hD hS 0 rfl rfl 51 (by decide) (ho (.fieldLink RX12 119 "NearEnoughModel" "gStep" "[I") (List.mem_of_getElem? (i := 42) rfl)) (fun _ h9 => h9) rfl hin rfl (by decide +kernel) rfl rfl (Nat.le_of_ble_eq_true rfl) dX12_init_281 (fun H locs hP hD hS => ?_)
  have hP : va_P (dC, dI) vwCl [(h0, .inr (12, [.ref q1, .ref q3, .int 0, .int 0, .int 0, .int (-1), .int 0, .int 0, .int 0, .int 0, .long 0, .ref q5, .ref q7, .ref q9, .ref q11, .ref q13, .ref q15, .ref q17, .ref q19, .ref q21, .ref q23, .ref q25, .ref q27, .ref q29, .ref q31, .ref q33, .ref q35, .ref q37, .ref q39, .int 0, .int 0, .ref q41, .ref q43, .ref q45, .ref q47, .ref q49, .ref q51, .ref q53, .ref q55, .int 0, .int 0, .ref q57, .ref q59, .ref q61, .ref q63, .long 0, .long 0, .ref q65, .long 0, .int 0, .ref q67, .ref q69, .null, .int 0, .null, .null, .null, .null, .int 0])), (q1, .inl (k2, 1020, .inl (fun _ => 0))), (q5, .inl (k6, 2, .inl (fun _ => 0))), (q7, .inl (k8, 2, .inl (fun _ => 0))), (q9, .inl (k10, 2, .inl (fun _ => 0))), (q53, .inl (k54, 12, .inl (fun _ => 0))), (q55, .inl (k56, 40, .inl (fun _ => 0)))] H := hP
  have hD : va_D A [(h0, .inr (12, [.ref q1, .ref q3, .int 0, .int 0, .int 0, .int (-1), .int 0, .int 0, .int 0, .int 0, .long 0, .ref q5, .ref q7, .ref q9, .ref q11, .ref q13, .ref q15, .ref q17, .ref q19, .ref q21, .ref q23, .ref q25, .ref q27, .ref q29, .ref q31, .ref q33, .ref q35, .ref q37, .ref q39, .int 0, .int 0, .ref q41, .ref q43, .ref q45, .ref q47, .ref q49, .ref q51, .ref q53, .ref q55, .int 0, .int 0, .ref q57, .ref q59, .ref q61, .ref q63, .long 0, .long 0, .ref q65, .long 0, .int 0, .ref q67, .ref q69, .null, .int 0, .null, .null, .null, .null, .int 0])), (q1, .inl (k2, 1020, .inl (fun _ => 0))), (q5, .inl (k6, 2, .inl (fun _ => 0))), (q7, .inl (k8, 2, .inl (fun _ => 0))), (q9, .inl (k10, 2, .inl (fun _ => 0))), (q53, .inl (k54, 12, .inl (fun _ => 0))), (q55, .inl (k56, 40, .inl (fun _ => 0)))] := hD
  refine lv_aload_n hx hb dX12_init_284 rfl (lv_at hl 0 rfl) ?_
  refine lv_iconst (v := 4) hx hb dX12_init_285 (by decide) ?_
  refine va_newa (atype := .int) (ty := .int) (a0 := (4, .inl (fun _ => 0))) (N' := 4) hx hb (ho (.arrayClass .int) (List.mem_of_getElem? (i := 7) rfl)) rfl hK hP hD hS hA (fun _ => rfl) (by decide) (by decide) (by decide +kernel) (Nat.le_of_ble_eq_true rfl) (Nat.le_of_ble_eq_true rfl) dX12_init_286 (fun q71 k72 H hK hP hD hS => ?_)
  have hP : va_P (dC, dI) vwCl [(h0, .inr (12, [.ref q1, .ref q3, .int 0, .int 0, .int 0, .int (-1), .int 0, .int 0, .int 0, .int 0, .long 0, .ref q5, .ref q7, .ref q9, .ref q11, .ref q13, .ref q15, .ref q17, .ref q19, .ref q21, .ref q23, .ref q25, .ref q27, .ref q29, .ref q31, .ref q33, .ref q35, .ref q37, .ref q39, .int 0, .int 0, .ref q41, .ref q43, .ref q45, .ref q47, .ref q49, .ref q51, .ref q53, .ref q55, .int 0, .int 0, .ref q57, .ref q59, .ref q61, .ref q63, .long 0, .long 0, .ref q65, .long 0, .int 0, .ref q67, .ref q69, .null, .int 0, .null, .null, .null, .null, .int 0])), (q1, .inl (k2, 1020, .inl (fun _ => 0))), (q5, .inl (k6, 2, .inl (fun _ => 0))), (q7, .inl (k8, 2, .inl (fun _ => 0))), (q9, .inl (k10, 2, .inl (fun _ => 0))), (q53, .inl (k54, 12, .inl (fun _ => 0))), (q55, .inl (k56, 40, .inl (fun _ => 0))), (q71, .inl (k72, 4, .inl (fun _ => 0)))] H := hP
  have hD : va_D A [(h0, .inr (12, [.ref q1, .ref q3, .int 0, .int 0, .int 0, .int (-1), .int 0, .int 0, .int 0, .int 0, .long 0, .ref q5, .ref q7, .ref q9, .ref q11, .ref q13, .ref q15, .ref q17, .ref q19, .ref q21, .ref q23, .ref q25, .ref q27, .ref q29, .ref q31, .ref q33, .ref q35, .ref q37, .ref q39, .int 0, .int 0, .ref q41, .ref q43, .ref q45, .ref q47, .ref q49, .ref q51, .ref q53, .ref q55, .int 0, .int 0, .ref q57, .ref q59, .ref q61, .ref q63, .long 0, .long 0, .ref q65, .long 0, .int 0, .ref q67, .ref q69, .null, .int 0, .null, .null, .null, .null, .int 0])), (q1, .inl (k2, 1020, .inl (fun _ => 0))), (q5, .inl (k6, 2, .inl (fun _ => 0))), (q7, .inl (k8, 2, .inl (fun _ => 0))), (q9, .inl (k10, 2, .inl (fun _ => 0))), (q53, .inl (k54, 12, .inl (fun _ => 0))), (q55, .inl (k56, 40, .inl (fun _ => 0))), (q71, .inl (k72, 4, .inl (fun _ => 0)))] := hD
  have hK : va_K (dC, dI) vwCl [(k2, .byte), (k6, .int), (k8, .int), (k10, .int), (k54, .int), (k56, .boolean), (k72, .int)] s := hK
  refine W.widen (k := 36) (n := 7006) (Nat.le_of_ble_eq_true rfl) (Nat.le_of_ble_eq_true rfl) ?_
  have hP := hP.sub (ws' := [(h0, .inr (12, [.ref q1, .ref q3, .int 0, .int 0, .int 0, .int (-1), .int 0, .int 0, .int 0, .int 0, .long 0, .ref q5, .ref q7, .ref q9, .ref q11, .ref q13, .ref q15, .ref q17, .ref q19, .ref q21, .ref q23, .ref q25, .ref q27, .ref q29, .ref q31, .ref q33, .ref q35, .ref q37, .ref q39, .int 0, .int 0, .ref q41, .ref q43, .ref q45, .ref q47, .ref q49, .ref q51, .ref q53, .ref q55, .int 0, .int 0, .ref q57, .ref q59, .ref q61, .ref q63, .long 0, .long 0, .ref q65, .long 0, .int 0, .ref q67, .ref q69, .null, .int 0, .null, .null, .null, .null, .int 0])), (q1, .inl (k2, 1020, .inl (fun _ => 0))), (q5, .inl (k6, 2, .inl (fun _ => 0))), (q7, .inl (k8, 2, .inl (fun _ => 0))), (q9, .inl (k10, 2, .inl (fun _ => 0))), (q53, .inl (k54, 12, .inl (fun _ => 0))), (q55, .inl (k56, 40, .inl (fun _ => 0)))]) [0, 1, 2, 3, 4, 5, 6] rfl
  have hD := hD.sub (ws' := [(h0, .inr (12, [.ref q1, .ref q3, .int 0, .int 0, .int 0, .int (-1), .int 0, .int 0, .int 0, .int 0, .long 0, .ref q5, .ref q7, .ref q9, .ref q11, .ref q13, .ref q15, .ref q17, .ref q19, .ref q21, .ref q23, .ref q25, .ref q27, .ref q29, .ref q31, .ref q33, .ref q35, .ref q37, .ref q39, .int 0, .int 0, .ref q41, .ref q43, .ref q45, .ref q47, .ref q49, .ref q51, .ref q53, .ref q55, .int 0, .int 0, .ref q57, .ref q59, .ref q61, .ref q63, .long 0, .long 0, .ref q65, .long 0, .int 0, .ref q67, .ref q69, .null, .int 0, .null, .null, .null, .null, .int 0])), (q1, .inl (k2, 1020, .inl (fun _ => 0))), (q5, .inl (k6, 2, .inl (fun _ => 0))), (q7, .inl (k8, 2, .inl (fun _ => 0))), (q9, .inl (k10, 2, .inl (fun _ => 0))), (q53, .inl (k54, 12, .inl (fun _ => 0))), (q55, .inl (k56, 40, .inl (fun _ => 0)))]) [0, 1, 2, 3, 4, 5, 6] (by decide) rfl
  have hK := hK.sub (tys' := [(k2, .byte), (k6, .int), (k8, .int), (k10, .int), (k54, .int), (k56, .boolean)]) [0, 1, 2, 3, 4, 5] rfl
  refine va_putF (D := (dC, dI)) (ci := 12) (v := .ref q71) (ty := tyX12 52) (C := RX12) (T := TX12) (N := 59) hx hb hts hin12 tyX12 tyX12_ok nmX12 hown hK hP hD hS 0 rfl rfl 52 (by decide) (ho (.fieldLink RX12 122 "NearEnoughModel" "gWithin" "[I") (List.mem_of_getElem? (i := 43) rfl)) (fun _ h9 => h9) rfl hin rfl (by decide +kernel) rfl rfl (Nat.le_of_ble_eq_true rfl) dX12_init_288 (fun H locs hP hD hS => ?_)
  have hP : va_P (dC, dI) vwCl [(h0, .inr (12, [.ref q1, .ref q3, .int 0, .int 0, .int 0, .int (-1), .int 0, .int 0, .int 0, .int 0, .long 0, .ref q5, .ref q7, .ref q9, .ref q11, .ref q13, .ref q15, .ref q17, .ref q19, .ref q21, .ref q23, .ref q25, .ref q27, .ref q29, .ref q31, .ref q33, .ref q35, .ref q37, .ref q39, .int 0, .int 0, .ref q41, .ref q43, .ref q45, .ref q47, .ref q49, .ref q51, .ref q53, .ref q55, .int 0, .int 0, .ref q57, .ref q59, .ref q61, .ref q63, .long 0, .long 0, .ref q65, .long 0, .int 0, .ref q67, .ref q69, .ref q71, .int 0, .null, .null, .null, .null, .int 0])), (q1, .inl (k2, 1020, .inl (fun _ => 0))), (q5, .inl (k6, 2, .inl (fun _ => 0))), (q7, .inl (k8, 2, .inl (fun _ => 0))), (q9, .inl (k10, 2, .inl (fun _ => 0))), (q53, .inl (k54, 12, .inl (fun _ => 0))), (q55, .inl (k56, 40, .inl (fun _ => 0)))] H := hP
  have hD : va_D A [(h0, .inr (12, [.ref q1, .ref q3, .int 0, .int 0, .int 0, .int (-1), .int 0, .int 0, .int 0, .int 0, .long 0, .ref q5, .ref q7, .ref q9, .ref q11, .ref q13, .ref q15, .ref q17, .ref q19, .ref q21, .ref q23, .ref q25, .ref q27, .ref q29, .ref q31, .ref q33, .ref q35, .ref q37, .ref q39, .int 0, .int 0, .ref q41, .ref q43, .ref q45, .ref q47, .ref q49, .ref q51, .ref q53, .ref q55, .int 0, .int 0, .ref q57, .ref q59, .ref q61, .ref q63, .long 0, .long 0, .ref q65, .long 0, .int 0, .ref q67, .ref q69, .ref q71, .int 0, .null, .null, .null, .null, .int 0])), (q1, .inl (k2, 1020, .inl (fun _ => 0))), (q5, .inl (k6, 2, .inl (fun _ => 0))), (q7, .inl (k8, 2, .inl (fun _ => 0))), (q9, .inl (k10, 2, .inl (fun _ => 0))), (q53, .inl (k54, 12, .inl (fun _ => 0))), (q55, .inl (k56, 40, .inl (fun _ => 0)))] := hD
  refine lv_aload_n hx hb dX12_init_291 rfl (lv_at hl 0 rfl) ?_
  refine lv_sipush (v := 16441) hx hb dX12_init_292 (by decide) ?_
  refine va_newa (atype := .int) (ty := .int) (a0 := (16441, .inl (fun _ => 0))) (N' := 16441) hx hb (ho (.arrayClass .int) (List.mem_of_getElem? (i := 7) rfl)) rfl hK hP hD hS hA (fun _ => rfl) (by decide) (by decide) (by decide +kernel) (Nat.le_of_ble_eq_true rfl) (Nat.le_of_ble_eq_true rfl) dX12_init_295 (fun q73 k74 H hK hP hD hS => ?_)
  have hP : va_P (dC, dI) vwCl [(h0, .inr (12, [.ref q1, .ref q3, .int 0, .int 0, .int 0, .int (-1), .int 0, .int 0, .int 0, .int 0, .long 0, .ref q5, .ref q7, .ref q9, .ref q11, .ref q13, .ref q15, .ref q17, .ref q19, .ref q21, .ref q23, .ref q25, .ref q27, .ref q29, .ref q31, .ref q33, .ref q35, .ref q37, .ref q39, .int 0, .int 0, .ref q41, .ref q43, .ref q45, .ref q47, .ref q49, .ref q51, .ref q53, .ref q55, .int 0, .int 0, .ref q57, .ref q59, .ref q61, .ref q63, .long 0, .long 0, .ref q65, .long 0, .int 0, .ref q67, .ref q69, .ref q71, .int 0, .null, .null, .null, .null, .int 0])), (q1, .inl (k2, 1020, .inl (fun _ => 0))), (q5, .inl (k6, 2, .inl (fun _ => 0))), (q7, .inl (k8, 2, .inl (fun _ => 0))), (q9, .inl (k10, 2, .inl (fun _ => 0))), (q53, .inl (k54, 12, .inl (fun _ => 0))), (q55, .inl (k56, 40, .inl (fun _ => 0))), (q73, .inl (k74, 16441, .inl (fun _ => 0)))] H := hP
  have hD : va_D A [(h0, .inr (12, [.ref q1, .ref q3, .int 0, .int 0, .int 0, .int (-1), .int 0, .int 0, .int 0, .int 0, .long 0, .ref q5, .ref q7, .ref q9, .ref q11, .ref q13, .ref q15, .ref q17, .ref q19, .ref q21, .ref q23, .ref q25, .ref q27, .ref q29, .ref q31, .ref q33, .ref q35, .ref q37, .ref q39, .int 0, .int 0, .ref q41, .ref q43, .ref q45, .ref q47, .ref q49, .ref q51, .ref q53, .ref q55, .int 0, .int 0, .ref q57, .ref q59, .ref q61, .ref q63, .long 0, .long 0, .ref q65, .long 0, .int 0, .ref q67, .ref q69, .ref q71, .int 0, .null, .null, .null, .null, .int 0])), (q1, .inl (k2, 1020, .inl (fun _ => 0))), (q5, .inl (k6, 2, .inl (fun _ => 0))), (q7, .inl (k8, 2, .inl (fun _ => 0))), (q9, .inl (k10, 2, .inl (fun _ => 0))), (q53, .inl (k54, 12, .inl (fun _ => 0))), (q55, .inl (k56, 40, .inl (fun _ => 0))), (q73, .inl (k74, 16441, .inl (fun _ => 0)))] := hD
  have hK : va_K (dC, dI) vwCl [(k2, .byte), (k6, .int), (k8, .int), (k10, .int), (k54, .int), (k56, .boolean), (k74, .int)] s := hK
  refine W.widen (k := 37) (n := 23447) (Nat.le_of_ble_eq_true rfl) (Nat.le_of_ble_eq_true rfl) ?_
  have hP := hP.sub (ws' := [(h0, .inr (12, [.ref q1, .ref q3, .int 0, .int 0, .int 0, .int (-1), .int 0, .int 0, .int 0, .int 0, .long 0, .ref q5, .ref q7, .ref q9, .ref q11, .ref q13, .ref q15, .ref q17, .ref q19, .ref q21, .ref q23, .ref q25, .ref q27, .ref q29, .ref q31, .ref q33, .ref q35, .ref q37, .ref q39, .int 0, .int 0, .ref q41, .ref q43, .ref q45, .ref q47, .ref q49, .ref q51, .ref q53, .ref q55, .int 0, .int 0, .ref q57, .ref q59, .ref q61, .ref q63, .long 0, .long 0, .ref q65, .long 0, .int 0, .ref q67, .ref q69, .ref q71, .int 0, .null, .null, .null, .null, .int 0])), (q1, .inl (k2, 1020, .inl (fun _ => 0))), (q5, .inl (k6, 2, .inl (fun _ => 0))), (q7, .inl (k8, 2, .inl (fun _ => 0))), (q9, .inl (k10, 2, .inl (fun _ => 0))), (q53, .inl (k54, 12, .inl (fun _ => 0))), (q55, .inl (k56, 40, .inl (fun _ => 0)))]) [0, 1, 2, 3, 4, 5, 6] rfl
  have hD := hD.sub (ws' := [(h0, .inr (12, [.ref q1, .ref q3, .int 0, .int 0, .int 0, .int (-1), .int 0, .int 0, .int 0, .int 0, .long 0, .ref q5, .ref q7, .ref q9, .ref q11, .ref q13, .ref q15, .ref q17, .ref q19, .ref q21, .ref q23, .ref q25, .ref q27, .ref q29, .ref q31, .ref q33, .ref q35, .ref q37, .ref q39, .int 0, .int 0, .ref q41, .ref q43, .ref q45, .ref q47, .ref q49, .ref q51, .ref q53, .ref q55, .int 0, .int 0, .ref q57, .ref q59, .ref q61, .ref q63, .long 0, .long 0, .ref q65, .long 0, .int 0, .ref q67, .ref q69, .ref q71, .int 0, .null, .null, .null, .null, .int 0])), (q1, .inl (k2, 1020, .inl (fun _ => 0))), (q5, .inl (k6, 2, .inl (fun _ => 0))), (q7, .inl (k8, 2, .inl (fun _ => 0))), (q9, .inl (k10, 2, .inl (fun _ => 0))), (q53, .inl (k54, 12, .inl (fun _ => 0))), (q55, .inl (k56, 40, .inl (fun _ => 0)))]) [0, 1, 2, 3, 4, 5, 6] (by decide) rfl
  have hK := hK.sub (tys' := [(k2, .byte), (k6, .int), (k8, .int), (k10, .int), (k54, .int), (k56, .boolean)]) [0, 1, 2, 3, 4, 5] rfl
  refine va_putF (D := (dC, dI)) (ci := 12) (v := .ref q73) (ty := tyX12 54) (C := RX12) (T := TX12) (N := 59) hx hb hts hin12 tyX12 tyX12_ok nmX12 hown hK hP hD hS 0 rfl rfl 54 (by decide) (ho (.fieldLink RX12 125 "NearEnoughModel" "mostSaved" "[I") (List.mem_of_getElem? (i := 44) rfl)) (fun _ h9 => h9) rfl hin rfl (by decide +kernel) rfl rfl (Nat.le_of_ble_eq_true rfl) dX12_init_297 (fun H locs hP hD hS => ?_)
  have hP : va_P (dC, dI) vwCl [(h0, .inr (12, [.ref q1, .ref q3, .int 0, .int 0, .int 0, .int (-1), .int 0, .int 0, .int 0, .int 0, .long 0, .ref q5, .ref q7, .ref q9, .ref q11, .ref q13, .ref q15, .ref q17, .ref q19, .ref q21, .ref q23, .ref q25, .ref q27, .ref q29, .ref q31, .ref q33, .ref q35, .ref q37, .ref q39, .int 0, .int 0, .ref q41, .ref q43, .ref q45, .ref q47, .ref q49, .ref q51, .ref q53, .ref q55, .int 0, .int 0, .ref q57, .ref q59, .ref q61, .ref q63, .long 0, .long 0, .ref q65, .long 0, .int 0, .ref q67, .ref q69, .ref q71, .int 0, .ref q73, .null, .null, .null, .int 0])), (q1, .inl (k2, 1020, .inl (fun _ => 0))), (q5, .inl (k6, 2, .inl (fun _ => 0))), (q7, .inl (k8, 2, .inl (fun _ => 0))), (q9, .inl (k10, 2, .inl (fun _ => 0))), (q53, .inl (k54, 12, .inl (fun _ => 0))), (q55, .inl (k56, 40, .inl (fun _ => 0)))] H := hP
  have hD : va_D A [(h0, .inr (12, [.ref q1, .ref q3, .int 0, .int 0, .int 0, .int (-1), .int 0, .int 0, .int 0, .int 0, .long 0, .ref q5, .ref q7, .ref q9, .ref q11, .ref q13, .ref q15, .ref q17, .ref q19, .ref q21, .ref q23, .ref q25, .ref q27, .ref q29, .ref q31, .ref q33, .ref q35, .ref q37, .ref q39, .int 0, .int 0, .ref q41, .ref q43, .ref q45, .ref q47, .ref q49, .ref q51, .ref q53, .ref q55, .int 0, .int 0, .ref q57, .ref q59, .ref q61, .ref q63, .long 0, .long 0, .ref q65, .long 0, .int 0, .ref q67, .ref q69, .ref q71, .int 0, .ref q73, .null, .null, .null, .int 0])), (q1, .inl (k2, 1020, .inl (fun _ => 0))), (q5, .inl (k6, 2, .inl (fun _ => 0))), (q7, .inl (k8, 2, .inl (fun _ => 0))), (q9, .inl (k10, 2, .inl (fun _ => 0))), (q53, .inl (k54, 12, .inl (fun _ => 0))), (q55, .inl (k56, 40, .inl (fun _ => 0)))] := hD
  refine lv_aload_n hx hb dX12_init_300 rfl (lv_at hl 0 rfl) ?_
  refine lv_sipush (v := 16441) hx hb dX12_init_301 (by decide) ?_
  refine va_newa (atype := .int) (ty := .int) (a0 := (16441, .inl (fun _ => 0))) (N' := 16441) hx hb (ho (.arrayClass .int) (List.mem_of_getElem? (i := 7) rfl)) rfl hK hP hD hS hA (fun _ => rfl) (by decide) (by decide) (by decide +kernel) (Nat.le_of_ble_eq_true rfl) (Nat.le_of_ble_eq_true rfl) dX12_init_304 (fun q75 k76 H hK hP hD hS => ?_)
  have hP : va_P (dC, dI) vwCl [(h0, .inr (12, [.ref q1, .ref q3, .int 0, .int 0, .int 0, .int (-1), .int 0, .int 0, .int 0, .int 0, .long 0, .ref q5, .ref q7, .ref q9, .ref q11, .ref q13, .ref q15, .ref q17, .ref q19, .ref q21, .ref q23, .ref q25, .ref q27, .ref q29, .ref q31, .ref q33, .ref q35, .ref q37, .ref q39, .int 0, .int 0, .ref q41, .ref q43, .ref q45, .ref q47, .ref q49, .ref q51, .ref q53, .ref q55, .int 0, .int 0, .ref q57, .ref q59, .ref q61, .ref q63, .long 0, .long 0, .ref q65, .long 0, .int 0, .ref q67, .ref q69, .ref q71, .int 0, .ref q73, .null, .null, .null, .int 0])), (q1, .inl (k2, 1020, .inl (fun _ => 0))), (q5, .inl (k6, 2, .inl (fun _ => 0))), (q7, .inl (k8, 2, .inl (fun _ => 0))), (q9, .inl (k10, 2, .inl (fun _ => 0))), (q53, .inl (k54, 12, .inl (fun _ => 0))), (q55, .inl (k56, 40, .inl (fun _ => 0))), (q75, .inl (k76, 16441, .inl (fun _ => 0)))] H := hP
  have hD : va_D A [(h0, .inr (12, [.ref q1, .ref q3, .int 0, .int 0, .int 0, .int (-1), .int 0, .int 0, .int 0, .int 0, .long 0, .ref q5, .ref q7, .ref q9, .ref q11, .ref q13, .ref q15, .ref q17, .ref q19, .ref q21, .ref q23, .ref q25, .ref q27, .ref q29, .ref q31, .ref q33, .ref q35, .ref q37, .ref q39, .int 0, .int 0, .ref q41, .ref q43, .ref q45, .ref q47, .ref q49, .ref q51, .ref q53, .ref q55, .int 0, .int 0, .ref q57, .ref q59, .ref q61, .ref q63, .long 0, .long 0, .ref q65, .long 0, .int 0, .ref q67, .ref q69, .ref q71, .int 0, .ref q73, .null, .null, .null, .int 0])), (q1, .inl (k2, 1020, .inl (fun _ => 0))), (q5, .inl (k6, 2, .inl (fun _ => 0))), (q7, .inl (k8, 2, .inl (fun _ => 0))), (q9, .inl (k10, 2, .inl (fun _ => 0))), (q53, .inl (k54, 12, .inl (fun _ => 0))), (q55, .inl (k56, 40, .inl (fun _ => 0))), (q75, .inl (k76, 16441, .inl (fun _ => 0)))] := hD
  have hK : va_K (dC, dI) vwCl [(k2, .byte), (k6, .int), (k8, .int), (k10, .int), (k54, .int), (k56, .boolean), (k76, .int)] s := hK
  refine W.widen (k := 38) (n := 39888) (Nat.le_of_ble_eq_true rfl) (Nat.le_of_ble_eq_true rfl) ?_
  have hP := hP.sub (ws' := [(h0, .inr (12, [.ref q1, .ref q3, .int 0, .int 0, .int 0, .int (-1), .int 0, .int 0, .int 0, .int 0, .long 0, .ref q5, .ref q7, .ref q9, .ref q11, .ref q13, .ref q15, .ref q17, .ref q19, .ref q21, .ref q23, .ref q25, .ref q27, .ref q29, .ref q31, .ref q33, .ref q35, .ref q37, .ref q39, .int 0, .int 0, .ref q41, .ref q43, .ref q45, .ref q47, .ref q49, .ref q51, .ref q53, .ref q55, .int 0, .int 0, .ref q57, .ref q59, .ref q61, .ref q63, .long 0, .long 0, .ref q65, .long 0, .int 0, .ref q67, .ref q69, .ref q71, .int 0, .ref q73, .null, .null, .null, .int 0])), (q1, .inl (k2, 1020, .inl (fun _ => 0))), (q5, .inl (k6, 2, .inl (fun _ => 0))), (q7, .inl (k8, 2, .inl (fun _ => 0))), (q9, .inl (k10, 2, .inl (fun _ => 0))), (q53, .inl (k54, 12, .inl (fun _ => 0))), (q55, .inl (k56, 40, .inl (fun _ => 0)))]) [0, 1, 2, 3, 4, 5, 6] rfl
  have hD := hD.sub (ws' := [(h0, .inr (12, [.ref q1, .ref q3, .int 0, .int 0, .int 0, .int (-1), .int 0, .int 0, .int 0, .int 0, .long 0, .ref q5, .ref q7, .ref q9, .ref q11, .ref q13, .ref q15, .ref q17, .ref q19, .ref q21, .ref q23, .ref q25, .ref q27, .ref q29, .ref q31, .ref q33, .ref q35, .ref q37, .ref q39, .int 0, .int 0, .ref q41, .ref q43, .ref q45, .ref q47, .ref q49, .ref q51, .ref q53, .ref q55, .int 0, .int 0, .ref q57, .ref q59, .ref q61, .ref q63, .long 0, .long 0, .ref q65, .long 0, .int 0, .ref q67, .ref q69, .ref q71, .int 0, .ref q73, .null, .null, .null, .int 0])), (q1, .inl (k2, 1020, .inl (fun _ => 0))), (q5, .inl (k6, 2, .inl (fun _ => 0))), (q7, .inl (k8, 2, .inl (fun _ => 0))), (q9, .inl (k10, 2, .inl (fun _ => 0))), (q53, .inl (k54, 12, .inl (fun _ => 0))), (q55, .inl (k56, 40, .inl (fun _ => 0)))]) [0, 1, 2, 3, 4, 5, 6] (by decide) rfl
  have hK := hK.sub (tys' := [(k2, .byte), (k6, .int), (k8, .int), (k10, .int), (k54, .int), (k56, .boolean)]) [0, 1, 2, 3, 4, 5] rfl
  refine va_putF (D := (dC, dI)) (ci := 12) (v := .ref q75) (ty := tyX12 55) (C := RX12) (T := TX12) (N := 59) hx hb hts hin12 tyX12 tyX12_ok nmX12 hown hK hP hD hS 0 rfl rfl 55 (by decide) (ho (.fieldLink RX12 128 "NearEnoughModel" "picked" "[I") (List.mem_of_getElem? (i := 45) rfl)) (fun _ h9 => h9) rfl hin rfl (by decide +kernel) rfl rfl (Nat.le_of_ble_eq_true rfl) dX12_init_306 (fun H locs hP hD hS => ?_)
  have hP : va_P (dC, dI) vwCl [(h0, .inr (12, [.ref q1, .ref q3, .int 0, .int 0, .int 0, .int (-1), .int 0, .int 0, .int 0, .int 0, .long 0, .ref q5, .ref q7, .ref q9, .ref q11, .ref q13, .ref q15, .ref q17, .ref q19, .ref q21, .ref q23, .ref q25, .ref q27, .ref q29, .ref q31, .ref q33, .ref q35, .ref q37, .ref q39, .int 0, .int 0, .ref q41, .ref q43, .ref q45, .ref q47, .ref q49, .ref q51, .ref q53, .ref q55, .int 0, .int 0, .ref q57, .ref q59, .ref q61, .ref q63, .long 0, .long 0, .ref q65, .long 0, .int 0, .ref q67, .ref q69, .ref q71, .int 0, .ref q73, .ref q75, .null, .null, .int 0])), (q1, .inl (k2, 1020, .inl (fun _ => 0))), (q5, .inl (k6, 2, .inl (fun _ => 0))), (q7, .inl (k8, 2, .inl (fun _ => 0))), (q9, .inl (k10, 2, .inl (fun _ => 0))), (q53, .inl (k54, 12, .inl (fun _ => 0))), (q55, .inl (k56, 40, .inl (fun _ => 0)))] H := hP
  have hD : va_D A [(h0, .inr (12, [.ref q1, .ref q3, .int 0, .int 0, .int 0, .int (-1), .int 0, .int 0, .int 0, .int 0, .long 0, .ref q5, .ref q7, .ref q9, .ref q11, .ref q13, .ref q15, .ref q17, .ref q19, .ref q21, .ref q23, .ref q25, .ref q27, .ref q29, .ref q31, .ref q33, .ref q35, .ref q37, .ref q39, .int 0, .int 0, .ref q41, .ref q43, .ref q45, .ref q47, .ref q49, .ref q51, .ref q53, .ref q55, .int 0, .int 0, .ref q57, .ref q59, .ref q61, .ref q63, .long 0, .long 0, .ref q65, .long 0, .int 0, .ref q67, .ref q69, .ref q71, .int 0, .ref q73, .ref q75, .null, .null, .int 0])), (q1, .inl (k2, 1020, .inl (fun _ => 0))), (q5, .inl (k6, 2, .inl (fun _ => 0))), (q7, .inl (k8, 2, .inl (fun _ => 0))), (q9, .inl (k10, 2, .inl (fun _ => 0))), (q53, .inl (k54, 12, .inl (fun _ => 0))), (q55, .inl (k56, 40, .inl (fun _ => 0)))] := hD
  refine lv_aload_n hx hb dX12_init_309 rfl (lv_at hl 0 rfl) ?_
  refine lv_sipush (v := 4096) hx hb dX12_init_310 (by decide) ?_
  refine va_newa (atype := .int) (ty := .int) (a0 := (4096, .inl (fun _ => 0))) (N' := 4096) hx hb (ho (.arrayClass .int) (List.mem_of_getElem? (i := 7) rfl)) rfl hK hP hD hS hA (fun _ => rfl) (by decide) (by decide) (by decide +kernel) (Nat.le_of_ble_eq_true rfl) (Nat.le_of_ble_eq_true rfl) dX12_init_313 (fun q77 k78 H hK hP hD hS => ?_)
  have hP : va_P (dC, dI) vwCl [(h0, .inr (12, [.ref q1, .ref q3, .int 0, .int 0, .int 0, .int (-1), .int 0, .int 0, .int 0, .int 0, .long 0, .ref q5, .ref q7, .ref q9, .ref q11, .ref q13, .ref q15, .ref q17, .ref q19, .ref q21, .ref q23, .ref q25, .ref q27, .ref q29, .ref q31, .ref q33, .ref q35, .ref q37, .ref q39, .int 0, .int 0, .ref q41, .ref q43, .ref q45, .ref q47, .ref q49, .ref q51, .ref q53, .ref q55, .int 0, .int 0, .ref q57, .ref q59, .ref q61, .ref q63, .long 0, .long 0, .ref q65, .long 0, .int 0, .ref q67, .ref q69, .ref q71, .int 0, .ref q73, .ref q75, .null, .null, .int 0])), (q1, .inl (k2, 1020, .inl (fun _ => 0))), (q5, .inl (k6, 2, .inl (fun _ => 0))), (q7, .inl (k8, 2, .inl (fun _ => 0))), (q9, .inl (k10, 2, .inl (fun _ => 0))), (q53, .inl (k54, 12, .inl (fun _ => 0))), (q55, .inl (k56, 40, .inl (fun _ => 0))), (q77, .inl (k78, 4096, .inl (fun _ => 0)))] H := hP
  have hD : va_D A [(h0, .inr (12, [.ref q1, .ref q3, .int 0, .int 0, .int 0, .int (-1), .int 0, .int 0, .int 0, .int 0, .long 0, .ref q5, .ref q7, .ref q9, .ref q11, .ref q13, .ref q15, .ref q17, .ref q19, .ref q21, .ref q23, .ref q25, .ref q27, .ref q29, .ref q31, .ref q33, .ref q35, .ref q37, .ref q39, .int 0, .int 0, .ref q41, .ref q43, .ref q45, .ref q47, .ref q49, .ref q51, .ref q53, .ref q55, .int 0, .int 0, .ref q57, .ref q59, .ref q61, .ref q63, .long 0, .long 0, .ref q65, .long 0, .int 0, .ref q67, .ref q69, .ref q71, .int 0, .ref q73, .ref q75, .null, .null, .int 0])), (q1, .inl (k2, 1020, .inl (fun _ => 0))), (q5, .inl (k6, 2, .inl (fun _ => 0))), (q7, .inl (k8, 2, .inl (fun _ => 0))), (q9, .inl (k10, 2, .inl (fun _ => 0))), (q53, .inl (k54, 12, .inl (fun _ => 0))), (q55, .inl (k56, 40, .inl (fun _ => 0))), (q77, .inl (k78, 4096, .inl (fun _ => 0)))] := hD
  have hK : va_K (dC, dI) vwCl [(k2, .byte), (k6, .int), (k8, .int), (k10, .int), (k54, .int), (k56, .boolean), (k78, .int)] s := hK
  refine W.widen (k := 39) (n := 43984) (Nat.le_of_ble_eq_true rfl) (Nat.le_of_ble_eq_true rfl) ?_
  have hP := hP.sub (ws' := [(h0, .inr (12, [.ref q1, .ref q3, .int 0, .int 0, .int 0, .int (-1), .int 0, .int 0, .int 0, .int 0, .long 0, .ref q5, .ref q7, .ref q9, .ref q11, .ref q13, .ref q15, .ref q17, .ref q19, .ref q21, .ref q23, .ref q25, .ref q27, .ref q29, .ref q31, .ref q33, .ref q35, .ref q37, .ref q39, .int 0, .int 0, .ref q41, .ref q43, .ref q45, .ref q47, .ref q49, .ref q51, .ref q53, .ref q55, .int 0, .int 0, .ref q57, .ref q59, .ref q61, .ref q63, .long 0, .long 0, .ref q65, .long 0, .int 0, .ref q67, .ref q69, .ref q71, .int 0, .ref q73, .ref q75, .null, .null, .int 0])), (q1, .inl (k2, 1020, .inl (fun _ => 0))), (q5, .inl (k6, 2, .inl (fun _ => 0))), (q7, .inl (k8, 2, .inl (fun _ => 0))), (q9, .inl (k10, 2, .inl (fun _ => 0))), (q53, .inl (k54, 12, .inl (fun _ => 0))), (q55, .inl (k56, 40, .inl (fun _ => 0)))]) [0, 1, 2, 3, 4, 5, 6] rfl
  have hD := hD.sub (ws' := [(h0, .inr (12, [.ref q1, .ref q3, .int 0, .int 0, .int 0, .int (-1), .int 0, .int 0, .int 0, .int 0, .long 0, .ref q5, .ref q7, .ref q9, .ref q11, .ref q13, .ref q15, .ref q17, .ref q19, .ref q21, .ref q23, .ref q25, .ref q27, .ref q29, .ref q31, .ref q33, .ref q35, .ref q37, .ref q39, .int 0, .int 0, .ref q41, .ref q43, .ref q45, .ref q47, .ref q49, .ref q51, .ref q53, .ref q55, .int 0, .int 0, .ref q57, .ref q59, .ref q61, .ref q63, .long 0, .long 0, .ref q65, .long 0, .int 0, .ref q67, .ref q69, .ref q71, .int 0, .ref q73, .ref q75, .null, .null, .int 0])), (q1, .inl (k2, 1020, .inl (fun _ => 0))), (q5, .inl (k6, 2, .inl (fun _ => 0))), (q7, .inl (k8, 2, .inl (fun _ => 0))), (q9, .inl (k10, 2, .inl (fun _ => 0))), (q53, .inl (k54, 12, .inl (fun _ => 0))), (q55, .inl (k56, 40, .inl (fun _ => 0)))]) [0, 1, 2, 3, 4, 5, 6] (by decide) rfl
  have hK := hK.sub (tys' := [(k2, .byte), (k6, .int), (k8, .int), (k10, .int), (k54, .int), (k56, .boolean)]) [0, 1, 2, 3, 4, 5] rfl
  refine va_putF (D := (dC, dI)) (ci := 12) (v := .ref q77) (ty := tyX12 56) (C := RX12) (T := TX12) (N := 59) hx hb hts hin12 tyX12 tyX12_ok nmX12 hown hK hP hD hS 0 rfl rfl 56 (by decide) (ho (.fieldLink RX12 131 "NearEnoughModel" "fars" "[I") (List.mem_of_getElem? (i := 46) rfl)) (fun _ h9 => h9) rfl hin rfl (by decide +kernel) rfl rfl (Nat.le_of_ble_eq_true rfl) dX12_init_315 (fun H locs hP hD hS => ?_)
  have hP : va_P (dC, dI) vwCl [(h0, .inr (12, [.ref q1, .ref q3, .int 0, .int 0, .int 0, .int (-1), .int 0, .int 0, .int 0, .int 0, .long 0, .ref q5, .ref q7, .ref q9, .ref q11, .ref q13, .ref q15, .ref q17, .ref q19, .ref q21, .ref q23, .ref q25, .ref q27, .ref q29, .ref q31, .ref q33, .ref q35, .ref q37, .ref q39, .int 0, .int 0, .ref q41, .ref q43, .ref q45, .ref q47, .ref q49, .ref q51, .ref q53, .ref q55, .int 0, .int 0, .ref q57, .ref q59, .ref q61, .ref q63, .long 0, .long 0, .ref q65, .long 0, .int 0, .ref q67, .ref q69, .ref q71, .int 0, .ref q73, .ref q75, .ref q77, .null, .int 0])), (q1, .inl (k2, 1020, .inl (fun _ => 0))), (q5, .inl (k6, 2, .inl (fun _ => 0))), (q7, .inl (k8, 2, .inl (fun _ => 0))), (q9, .inl (k10, 2, .inl (fun _ => 0))), (q53, .inl (k54, 12, .inl (fun _ => 0))), (q55, .inl (k56, 40, .inl (fun _ => 0)))] H := hP
  have hD : va_D A [(h0, .inr (12, [.ref q1, .ref q3, .int 0, .int 0, .int 0, .int (-1), .int 0, .int 0, .int 0, .int 0, .long 0, .ref q5, .ref q7, .ref q9, .ref q11, .ref q13, .ref q15, .ref q17, .ref q19, .ref q21, .ref q23, .ref q25, .ref q27, .ref q29, .ref q31, .ref q33, .ref q35, .ref q37, .ref q39, .int 0, .int 0, .ref q41, .ref q43, .ref q45, .ref q47, .ref q49, .ref q51, .ref q53, .ref q55, .int 0, .int 0, .ref q57, .ref q59, .ref q61, .ref q63, .long 0, .long 0, .ref q65, .long 0, .int 0, .ref q67, .ref q69, .ref q71, .int 0, .ref q73, .ref q75, .ref q77, .null, .int 0])), (q1, .inl (k2, 1020, .inl (fun _ => 0))), (q5, .inl (k6, 2, .inl (fun _ => 0))), (q7, .inl (k8, 2, .inl (fun _ => 0))), (q9, .inl (k10, 2, .inl (fun _ => 0))), (q53, .inl (k54, 12, .inl (fun _ => 0))), (q55, .inl (k56, 40, .inl (fun _ => 0)))] := hD
  refine lv_aload_n hx hb dX12_init_318 rfl (lv_at hl 0 rfl) ?_
  refine lv_sipush (v := 4096) hx hb dX12_init_319 (by decide) ?_
  refine va_newa (atype := .int) (ty := .int) (a0 := (4096, .inl (fun _ => 0))) (N' := 4096) hx hb (ho (.arrayClass .int) (List.mem_of_getElem? (i := 7) rfl)) rfl hK hP hD hS hA (fun _ => rfl) (by decide) (by decide) (by decide +kernel) (Nat.le_of_ble_eq_true rfl) (Nat.le_of_ble_eq_true rfl) dX12_init_322 (fun q79 k80 H hK hP hD hS => ?_)
  have hP : va_P (dC, dI) vwCl [(h0, .inr (12, [.ref q1, .ref q3, .int 0, .int 0, .int 0, .int (-1), .int 0, .int 0, .int 0, .int 0, .long 0, .ref q5, .ref q7, .ref q9, .ref q11, .ref q13, .ref q15, .ref q17, .ref q19, .ref q21, .ref q23, .ref q25, .ref q27, .ref q29, .ref q31, .ref q33, .ref q35, .ref q37, .ref q39, .int 0, .int 0, .ref q41, .ref q43, .ref q45, .ref q47, .ref q49, .ref q51, .ref q53, .ref q55, .int 0, .int 0, .ref q57, .ref q59, .ref q61, .ref q63, .long 0, .long 0, .ref q65, .long 0, .int 0, .ref q67, .ref q69, .ref q71, .int 0, .ref q73, .ref q75, .ref q77, .null, .int 0])), (q1, .inl (k2, 1020, .inl (fun _ => 0))), (q5, .inl (k6, 2, .inl (fun _ => 0))), (q7, .inl (k8, 2, .inl (fun _ => 0))), (q9, .inl (k10, 2, .inl (fun _ => 0))), (q53, .inl (k54, 12, .inl (fun _ => 0))), (q55, .inl (k56, 40, .inl (fun _ => 0))), (q79, .inl (k80, 4096, .inl (fun _ => 0)))] H := hP
  have hD : va_D A [(h0, .inr (12, [.ref q1, .ref q3, .int 0, .int 0, .int 0, .int (-1), .int 0, .int 0, .int 0, .int 0, .long 0, .ref q5, .ref q7, .ref q9, .ref q11, .ref q13, .ref q15, .ref q17, .ref q19, .ref q21, .ref q23, .ref q25, .ref q27, .ref q29, .ref q31, .ref q33, .ref q35, .ref q37, .ref q39, .int 0, .int 0, .ref q41, .ref q43, .ref q45, .ref q47, .ref q49, .ref q51, .ref q53, .ref q55, .int 0, .int 0, .ref q57, .ref q59, .ref q61, .ref q63, .long 0, .long 0, .ref q65, .long 0, .int 0, .ref q67, .ref q69, .ref q71, .int 0, .ref q73, .ref q75, .ref q77, .null, .int 0])), (q1, .inl (k2, 1020, .inl (fun _ => 0))), (q5, .inl (k6, 2, .inl (fun _ => 0))), (q7, .inl (k8, 2, .inl (fun _ => 0))), (q9, .inl (k10, 2, .inl (fun _ => 0))), (q53, .inl (k54, 12, .inl (fun _ => 0))), (q55, .inl (k56, 40, .inl (fun _ => 0))), (q79, .inl (k80, 4096, .inl (fun _ => 0)))] := hD
  have hK : va_K (dC, dI) vwCl [(k2, .byte), (k6, .int), (k8, .int), (k10, .int), (k54, .int), (k56, .boolean), (k80, .int)] s := hK
  refine W.widen (k := 40) (n := 48080) (Nat.le_of_ble_eq_true rfl) (Nat.le_of_ble_eq_true rfl) ?_
  have hP := hP.sub (ws' := [(h0, .inr (12, [.ref q1, .ref q3, .int 0, .int 0, .int 0, .int (-1), .int 0, .int 0, .int 0, .int 0, .long 0, .ref q5, .ref q7, .ref q9, .ref q11, .ref q13, .ref q15, .ref q17, .ref q19, .ref q21, .ref q23, .ref q25, .ref q27, .ref q29, .ref q31, .ref q33, .ref q35, .ref q37, .ref q39, .int 0, .int 0, .ref q41, .ref q43, .ref q45, .ref q47, .ref q49, .ref q51, .ref q53, .ref q55, .int 0, .int 0, .ref q57, .ref q59, .ref q61, .ref q63, .long 0, .long 0, .ref q65, .long 0, .int 0, .ref q67, .ref q69, .ref q71, .int 0, .ref q73, .ref q75, .ref q77, .null, .int 0])), (q1, .inl (k2, 1020, .inl (fun _ => 0))), (q5, .inl (k6, 2, .inl (fun _ => 0))), (q7, .inl (k8, 2, .inl (fun _ => 0))), (q9, .inl (k10, 2, .inl (fun _ => 0))), (q53, .inl (k54, 12, .inl (fun _ => 0))), (q55, .inl (k56, 40, .inl (fun _ => 0)))]) [0, 1, 2, 3, 4, 5, 6] rfl
  have hD := hD.sub (ws' := [(h0, .inr (12, [.ref q1, .ref q3, .int 0, .int 0, .int 0, .int (-1), .int 0, .int 0, .int 0, .int 0, .long 0, .ref q5, .ref q7, .ref q9, .ref q11, .ref q13, .ref q15, .ref q17, .ref q19, .ref q21, .ref q23, .ref q25, .ref q27, .ref q29, .ref q31, .ref q33, .ref q35, .ref q37, .ref q39, .int 0, .int 0, .ref q41, .ref q43, .ref q45, .ref q47, .ref q49, .ref q51, .ref q53, .ref q55, .int 0, .int 0, .ref q57, .ref q59, .ref q61, .ref q63, .long 0, .long 0, .ref q65, .long 0, .int 0, .ref q67, .ref q69, .ref q71, .int 0, .ref q73, .ref q75, .ref q77, .null, .int 0])), (q1, .inl (k2, 1020, .inl (fun _ => 0))), (q5, .inl (k6, 2, .inl (fun _ => 0))), (q7, .inl (k8, 2, .inl (fun _ => 0))), (q9, .inl (k10, 2, .inl (fun _ => 0))), (q53, .inl (k54, 12, .inl (fun _ => 0))), (q55, .inl (k56, 40, .inl (fun _ => 0)))]) [0, 1, 2, 3, 4, 5, 6] (by decide) rfl
  have hK := hK.sub (tys' := [(k2, .byte), (k6, .int), (k8, .int), (k10, .int), (k54, .int), (k56, .boolean)]) [0, 1, 2, 3, 4, 5] rfl
  refine va_putF (D := (dC, dI)) (ci := 12) (v := .ref q79) (ty := tyX12 57) (C := RX12) (T := TX12) (N := 59) hx hb hts hin12 tyX12 tyX12_ok nmX12 hown hK hP hD hS 0 rfl rfl 57 (by decide) (ho (.fieldLink RX12 134 "NearEnoughModel" "savedAll" "[I") (List.mem_of_getElem? (i := 47) rfl)) (fun _ h9 => h9) rfl hin rfl (by decide +kernel) rfl rfl (Nat.le_of_ble_eq_true rfl) dX12_init_324 (fun H locs hP hD hS => ?_)
  have hP : va_P (dC, dI) vwCl [(h0, .inr (12, [.ref q1, .ref q3, .int 0, .int 0, .int 0, .int (-1), .int 0, .int 0, .int 0, .int 0, .long 0, .ref q5, .ref q7, .ref q9, .ref q11, .ref q13, .ref q15, .ref q17, .ref q19, .ref q21, .ref q23, .ref q25, .ref q27, .ref q29, .ref q31, .ref q33, .ref q35, .ref q37, .ref q39, .int 0, .int 0, .ref q41, .ref q43, .ref q45, .ref q47, .ref q49, .ref q51, .ref q53, .ref q55, .int 0, .int 0, .ref q57, .ref q59, .ref q61, .ref q63, .long 0, .long 0, .ref q65, .long 0, .int 0, .ref q67, .ref q69, .ref q71, .int 0, .ref q73, .ref q75, .ref q77, .ref q79, .int 0])), (q1, .inl (k2, 1020, .inl (fun _ => 0))), (q5, .inl (k6, 2, .inl (fun _ => 0))), (q7, .inl (k8, 2, .inl (fun _ => 0))), (q9, .inl (k10, 2, .inl (fun _ => 0))), (q53, .inl (k54, 12, .inl (fun _ => 0))), (q55, .inl (k56, 40, .inl (fun _ => 0)))] H := hP
  have hD : va_D A [(h0, .inr (12, [.ref q1, .ref q3, .int 0, .int 0, .int 0, .int (-1), .int 0, .int 0, .int 0, .int 0, .long 0, .ref q5, .ref q7, .ref q9, .ref q11, .ref q13, .ref q15, .ref q17, .ref q19, .ref q21, .ref q23, .ref q25, .ref q27, .ref q29, .ref q31, .ref q33, .ref q35, .ref q37, .ref q39, .int 0, .int 0, .ref q41, .ref q43, .ref q45, .ref q47, .ref q49, .ref q51, .ref q53, .ref q55, .int 0, .int 0, .ref q57, .ref q59, .ref q61, .ref q63, .long 0, .long 0, .ref q65, .long 0, .int 0, .ref q67, .ref q69, .ref q71, .int 0, .ref q73, .ref q75, .ref q77, .ref q79, .int 0])), (q1, .inl (k2, 1020, .inl (fun _ => 0))), (q5, .inl (k6, 2, .inl (fun _ => 0))), (q7, .inl (k8, 2, .inl (fun _ => 0))), (q9, .inl (k10, 2, .inl (fun _ => 0))), (q53, .inl (k54, 12, .inl (fun _ => 0))), (q55, .inl (k56, 40, .inl (fun _ => 0)))] := hD
  refine W.widen (k := 40) (n := 48080) (Nat.le_of_ble_eq_true rfl) (Nat.le_of_ble_eq_true rfl) ?_
  exact W.vret hx hb hr (fun t ht hW => ⟨⟨(q1, q3, q5, q7, q9, q11, q13, q15, q17, q19, q21, q23, q25, q27, q29, q31, q33, q35, q37, q39, q41, q43, q45, q47, q49, q51, q53, q55, q57, q59, q61, q63, q65, q67, q69, q71, q73, q75, q77, q79, k2, k6, k8, k10, k54, k56), rfl, trivial, wEn_of (hP.sub [0, 1, 2, 3, 4, 5, 6] rfl) (hK.sub [0, 1, 2, 3, 4, 5] rfl) (hD.sub [0, 1, 2, 3, 4, 5, 6] (by decide) rfl) ht hW⟩, hS.F ht⟩) hS.2.2 dX12_init_327
end
section
theorem dJ7_fill_53178_0 : decode cJ7_fill_53178 0 = .ok (.iconst 0, 1) := by decide +kernel
theorem dJ7_fill_53178_1 : decode cJ7_fill_53178 1 = .ok (.istore_n 2, 1) := by decide +kernel
theorem dJ7_fill_53178_2 : decode cJ7_fill_53178 2 = .ok (.aload_n 0, 1) := by decide +kernel
theorem dJ7_fill_53178_3 : decode cJ7_fill_53178 3 = .ok (.arraylength, 1) := by decide +kernel
theorem dJ7_fill_53178_4 : decode cJ7_fill_53178 4 = .ok (.istore_n 3, 1) := by decide +kernel
theorem dJ7_fill_53178_5 : decode cJ7_fill_53178 5 = .ok (.iload_n 2, 1) := by decide +kernel
theorem dJ7_fill_53178_6 : decode cJ7_fill_53178 6 = .ok (.iload_n 3, 1) := by decide +kernel
theorem dJ7_fill_53178_7 : decode cJ7_fill_53178 7 = .ok (.if_icmp .ge 13, 3) := by decide +kernel
theorem dJ7_fill_53178_10 : decode cJ7_fill_53178 10 = .ok (.aload_n 0, 1) := by decide +kernel
theorem dJ7_fill_53178_11 : decode cJ7_fill_53178 11 = .ok (.iload_n 2, 1) := by decide +kernel
theorem dJ7_fill_53178_12 : decode cJ7_fill_53178 12 = .ok (.iload_n 1, 1) := by decide +kernel
theorem dJ7_fill_53178_13 : decode cJ7_fill_53178 13 = .ok (.iastore, 1) := by decide +kernel
theorem dJ7_fill_53178_14 : decode cJ7_fill_53178 14 = .ok (.iinc 2 1, 3) := by decide +kernel
theorem dJ7_fill_53178_17 : decode cJ7_fill_53178 17 = .ok (.goto (-12), 3) := by decide +kernel
theorem dJ7_fill_53178_20 : decode cJ7_fill_53178 20 = .ok (.return_, 1) := by decide +kernel
theorem dX0_take_0 : decode cX0_take 0 = .ok (.aload_n 0, 1) := by decide +kernel
theorem dX0_take_1 : decode cX0_take 1 = .ok (.getfield 24, 3) := by decide +kernel
theorem dX0_take_4 : decode cX0_take 4 = .ok (.iconst (-1), 1) := by decide +kernel
theorem dX0_take_5 : decode cX0_take 5 = .ok (.invokestatic 40, 3) := by decide +kernel
theorem dX0_take_8 : decode cX0_take 8 = .ok (.aload_n 0, 1) := by decide +kernel
theorem dX0_take_9 : decode cX0_take 9 = .ok (.iconst 0, 1) := by decide +kernel
theorem dX0_take_10 : decode cX0_take 10 = .ok (.putfield 31, 3) := by decide +kernel
theorem dX0_take_13 : decode cX0_take 13 = .ok (.iload_n 1, 1) := by decide +kernel
theorem dX0_take_14 : decode cX0_take 14 = .ok (.ifCond .lt 13, 3) := by decide +kernel
theorem dX0_take_17 : decode cX0_take 17 = .ok (.iload_n 1, 1) := by decide +kernel
theorem dX0_take_18 : decode cX0_take 18 = .ok (.iconst 1, 1) := by decide +kernel
theorem dX0_take_19 : decode cX0_take 19 = .ok (.aload_n 0, 1) := by decide +kernel
theorem dX0_take_20 : decode cX0_take 20 = .ok (.getfield 27, 3) := by decide +kernel
theorem dX0_take_23 : decode cX0_take 23 = .ok (.ishl, 1) := by decide +kernel
theorem dX0_take_24 : decode cX0_take 24 = .ok (.if_icmp .lt 5, 3) := by decide +kernel
theorem dX0_take_29 : decode cX0_take 29 = .ok (.iconst 0, 1) := by decide +kernel
theorem dX0_take_30 : decode cX0_take 30 = .ok (.istore_n 2, 1) := by decide +kernel
theorem dX0_take_31 : decode cX0_take 31 = .ok (.iload_n 2, 1) := by decide +kernel
theorem dX0_take_32 : decode cX0_take 32 = .ok (.aload_n 0, 1) := by decide +kernel
theorem dX0_take_33 : decode cX0_take 33 = .ok (.getfield 27, 3) := by decide +kernel
theorem dX0_take_36 : decode cX0_take 36 = .ok (.if_icmp .ge 46, 3) := by decide +kernel
theorem dX0_take_82 : decode cX0_take 82 = .ok (.aload_n 0, 1) := by decide +kernel
theorem dX0_take_83 : decode cX0_take 83 = .ok (.iload_n 1, 1) := by decide +kernel
theorem dX0_take_84 : decode cX0_take 84 = .ok (.putfield 31, 3) := by decide +kernel
theorem dX0_take_87 : decode cX0_take 87 = .ok (.iconst 1, 1) := by decide +kernel
theorem dX0_take_88 : decode cX0_take 88 = .ok (.ireturn, 1) := by decide +kernel
theorem dX0_take_27 : decode cX0_take 27 = .ok (.iconst 0, 1) := by decide +kernel
theorem dX0_take_28 : decode cX0_take 28 = .ok (.ireturn, 1) := by decide +kernel
theorem dX0_clear_0 : decode cX0_clear 0 = .ok (.aload_n 0, 1) := by decide +kernel
theorem dX0_clear_1 : decode cX0_clear 1 = .ok (.iconst 0, 1) := by decide +kernel
theorem dX0_clear_2 : decode cX0_clear 2 = .ok (.putfield 27, 3) := by decide +kernel
theorem dX0_clear_5 : decode cX0_clear 5 = .ok (.aload_n 0, 1) := by decide +kernel
theorem dX0_clear_6 : decode cX0_clear 6 = .ok (.iconst 0, 1) := by decide +kernel
theorem dX0_clear_7 : decode cX0_clear 7 = .ok (.invokevirtual 34, 3) := by decide +kernel
theorem dX0_clear_10 : decode cX0_clear 10 = .ok (.pop, 1) := by decide +kernel
theorem dX0_clear_11 : decode cX0_clear 11 = .ok (.return_, 1) := by decide +kernel
theorem dX0_savedBy_0 : decode cX0_savedBy 0 = .ok (.iconst 0, 1) := by decide +kernel
theorem dX0_savedBy_1 : decode cX0_savedBy 1 = .ok (.istore_n 2, 1) := by decide +kernel
theorem dX0_savedBy_2 : decode cX0_savedBy 2 = .ok (.iconst 0, 1) := by decide +kernel
theorem dX0_savedBy_3 : decode cX0_savedBy 3 = .ok (.istore_n 3, 1) := by decide +kernel
theorem dX0_savedBy_4 : decode cX0_savedBy 4 = .ok (.iload_n 3, 1) := by decide +kernel
theorem dX0_savedBy_5 : decode cX0_savedBy 5 = .ok (.aload_n 0, 1) := by decide +kernel
theorem dX0_savedBy_6 : decode cX0_savedBy 6 = .ok (.getfield 27, 3) := by decide +kernel
theorem dX0_savedBy_9 : decode cX0_savedBy 9 = .ok (.if_icmp .ge 26, 3) := by decide +kernel
theorem dX0_savedBy_35 : decode cX0_savedBy 35 = .ok (.iload_n 2, 1) := by decide +kernel
theorem dX0_savedBy_36 : decode cX0_savedBy 36 = .ok (.ireturn, 1) := by decide +kernel
theorem dX0_advance_0 : decode cX0_advance 0 = .ok (.iload_n 1, 1) := by decide +kernel
theorem dX0_advance_1 : decode cX0_advance 1 = .ok (.istore_n 2, 1) := by decide +kernel
theorem dX0_advance_2 : decode cX0_advance 2 = .ok (.iload_n 2, 1) := by decide +kernel
theorem dX0_advance_3 : decode cX0_advance 3 = .ok (.ifCond .lt 72, 3) := by decide +kernel
theorem dX0_advance_75 : decode cX0_advance 75 = .ok (.iconst (-1), 1) := by decide +kernel
theorem dX0_advance_76 : decode cX0_advance 76 = .ok (.ireturn, 1) := by decide +kernel
theorem dX3_hasStep_0 : decode cX3_hasStep 0 = .ok (.iload_n 1, 1) := by decide +kernel
theorem dX3_hasStep_1 : decode cX3_hasStep 1 = .ok (.ifCond .lt 15, 3) := by decide +kernel
theorem dX3_hasStep_16 : decode cX3_hasStep 16 = .ok (.iconst 0, 1) := by decide +kernel
theorem dX3_hasStep_17 : decode cX3_hasStep 17 = .ok (.ireturn, 1) := by decide +kernel
theorem dX3_hasStep_4 : decode cX3_hasStep 4 = .ok (.iload_n 1, 1) := by decide +kernel
theorem dX3_hasStep_5 : decode cX3_hasStep 5 = .ok (.aload_n 0, 1) := by decide +kernel
theorem dX3_hasStep_6 : decode cX3_hasStep 6 = .ok (.getfield 37, 3) := by decide +kernel
theorem dX3_hasStep_9 : decode cX3_hasStep 9 = .ok (.if_icmp .ge 7, 3) := by decide +kernel
theorem dX3_hasEnd_0 : decode cX3_hasEnd 0 = .ok (.iload_n 1, 1) := by decide +kernel
theorem dX3_hasEnd_1 : decode cX3_hasEnd 1 = .ok (.ifCond .lt 15, 3) := by decide +kernel
theorem dX3_hasEnd_16 : decode cX3_hasEnd 16 = .ok (.iconst 0, 1) := by decide +kernel
theorem dX3_hasEnd_17 : decode cX3_hasEnd 17 = .ok (.ireturn, 1) := by decide +kernel
theorem dX3_hasEnd_4 : decode cX3_hasEnd 4 = .ok (.iload_n 1, 1) := by decide +kernel
theorem dX3_hasEnd_5 : decode cX3_hasEnd 5 = .ok (.aload_n 0, 1) := by decide +kernel
theorem dX3_hasEnd_6 : decode cX3_hasEnd 6 = .ok (.getfield 40, 3) := by decide +kernel
theorem dX3_hasEnd_9 : decode cX3_hasEnd 9 = .ok (.if_icmp .ge 7, 3) := by decide +kernel
theorem dX7_has_0 : decode cX7_has 0 = .ok (.iload_n 1, 1) := by decide +kernel
theorem dX7_has_1 : decode cX7_has 1 = .ok (.ifCond .lt 15, 3) := by decide +kernel
theorem dX7_has_16 : decode cX7_has 16 = .ok (.iconst 0, 1) := by decide +kernel
theorem dX7_has_17 : decode cX7_has 17 = .ok (.ireturn, 1) := by decide +kernel
theorem dX7_has_4 : decode cX7_has 4 = .ok (.iload_n 1, 1) := by decide +kernel
theorem dX7_has_5 : decode cX7_has 5 = .ok (.aload_n 0, 1) := by decide +kernel
theorem dX7_has_6 : decode cX7_has 6 = .ok (.getfield 19, 3) := by decide +kernel
theorem dX7_has_9 : decode cX7_has 9 = .ok (.if_icmp .ge 7, 3) := by decide +kernel
theorem dX7_lay_0 : decode cX7_lay 0 = .ok (.iconst 0, 1) := by decide +kernel
theorem dX7_lay_1 : decode cX7_lay 1 = .ok (.istore 4, 2) := by decide +kernel
theorem dX7_lay_3 : decode cX7_lay 3 = .ok (.iload 4, 2) := by decide +kernel
theorem dX7_lay_5 : decode cX7_lay 5 = .ok (.aload_n 3, 1) := by decide +kernel
theorem dX7_lay_6 : decode cX7_lay 6 = .ok (.getfield 23, 3) := by decide +kernel
theorem dX7_lay_9 : decode cX7_lay 9 = .ok (.if_icmp .ge 81, 3) := by decide +kernel
theorem dX7_lay_90 : decode cX7_lay 90 = .ok (.return_, 1) := by decide +kernel
theorem dX10_workPlain_0 : decode cX10_workPlain 0 = .ok (.iload_n 1, 1) := by decide +kernel
theorem dX10_workPlain_1 : decode cX10_workPlain 1 = .ok (.bipush 12, 2) := by decide +kernel
theorem dX10_workPlain_3 : decode cX10_workPlain 3 = .ok (.imul, 1) := by decide +kernel
theorem dX10_workPlain_4 : decode cX10_workPlain 4 = .ok (.istore_n 3, 1) := by decide +kernel
theorem dX10_workPlain_5 : decode cX10_workPlain 5 = .ok (.iconst 0, 1) := by decide +kernel
theorem dX10_workPlain_6 : decode cX10_workPlain 6 = .ok (.istore 4, 2) := by decide +kernel
theorem dX10_workPlain_8 : decode cX10_workPlain 8 = .ok (.iload 4, 2) := by decide +kernel
theorem dX10_workPlain_10 : decode cX10_workPlain 10 = .ok (.iload_n 2, 1) := by decide +kernel
theorem dX10_workPlain_11 : decode cX10_workPlain 11 = .ok (.if_icmp .gt 39, 3) := by decide +kernel
theorem dX10_workPlain_50 : decode cX10_workPlain 50 = .ok (.return_, 1) := by decide +kernel
theorem dX8_show_0 : decode cX8_show 0 = .ok (.iload_n 1, 1) := by decide +kernel
theorem dX8_show_1 : decode cX8_show 1 = .ok (.istore_n 2, 1) := by decide +kernel
theorem dX8_show_2 : decode cX8_show 2 = .ok (.iload_n 2, 1) := by decide +kernel
theorem dX8_show_3 : decode cX8_show 3 = .ok (.aload_n 0, 1) := by decide +kernel
theorem dX8_show_4 : decode cX8_show 4 = .ok (.getfield 36, 3) := by decide +kernel
theorem dX8_show_7 : decode cX8_show 7 = .ok (.getfield 63, 3) := by decide +kernel
theorem dX8_show_10 : decode cX8_show 10 = .ok (.if_icmp .ge 153, 3) := by decide +kernel
theorem dX8_show_163 : decode cX8_show 163 = .ok (.iconst (-1), 1) := by decide +kernel
theorem dX8_show_164 : decode cX8_show 164 = .ok (.ireturn, 1) := by decide +kernel
theorem dX8_restart_0 : decode cX8_restart 0 = .ok (.aload_n 0, 1) := by decide +kernel
theorem dX8_restart_1 : decode cX8_restart 1 = .ok (.getfield 40, 3) := by decide +kernel
theorem dX8_restart_4 : decode cX8_restart 4 = .ok (.iconst 0, 1) := by decide +kernel
theorem dX8_restart_5 : decode cX8_restart 5 = .ok (.invokevirtual 44, 3) := by decide +kernel
theorem dX8_restart_8 : decode cX8_restart 8 = .ok (.pop, 1) := by decide +kernel
theorem dX8_restart_9 : decode cX8_restart 9 = .ok (.aload_n 0, 1) := by decide +kernel
theorem dX8_restart_10 : decode cX8_restart 10 = .ok (.iconst 0, 1) := by decide +kernel
theorem dX8_restart_11 : decode cX8_restart 11 = .ok (.putfield 25, 3) := by decide +kernel
theorem dX8_restart_14 : decode cX8_restart 14 = .ok (.return_, 1) := by decide +kernel
theorem dX8_next_0 : decode cX8_next 0 = .ok (.aload_n 0, 1) := by decide +kernel
theorem dX8_next_1 : decode cX8_next 1 = .ok (.bipush 12, 2) := by decide +kernel
theorem dX8_next_3 : decode cX8_next 3 = .ok (.putfield 33, 3) := by decide +kernel
theorem dX8_next_6 : decode cX8_next 6 = .ok (.iconst 0, 1) := by decide +kernel
theorem dX8_next_7 : decode cX8_next 7 = .ok (.istore_n 1, 1) := by decide +kernel
theorem dX8_next_8 : decode cX8_next 8 = .ok (.iload_n 1, 1) := by decide +kernel
theorem dX8_next_9 : decode cX8_next 9 = .ok (.sipush 4096, 3) := by decide +kernel
theorem dX8_next_12 : decode cX8_next 12 = .ok (.if_icmp .ge 91, 3) := by decide +kernel
theorem dX8_next_15 : decode cX8_next 15 = .ok (.aload_n 0, 1) := by decide +kernel
theorem dX8_next_16 : decode cX8_next 16 = .ok (.getfield 25, 3) := by decide +kernel
theorem dX8_next_19 : decode cX8_next 19 = .ok (.ifCond .eq 17, 3) := by decide +kernel
theorem dX8_next_36 : decode cX8_next 36 = .ok (.iconst 0, 1) := by decide +kernel
theorem dX8_next_37 : decode cX8_next 37 = .ok (.istore_n 2, 1) := by decide +kernel
theorem dX8_next_38 : decode cX8_next 38 = .ok (.aload_n 0, 1) := by decide +kernel
theorem dX8_next_39 : decode cX8_next 39 = .ok (.iconst 1, 1) := by decide +kernel
theorem dX8_next_40 : decode cX8_next 40 = .ok (.putfield 25, 3) := by decide +kernel
theorem dX8_next_43 : decode cX8_next 43 = .ok (.iload_n 2, 1) := by decide +kernel
theorem dX8_next_44 : decode cX8_next 44 = .ok (.iconst (-1), 1) := by decide +kernel
theorem dX8_next_45 : decode cX8_next 45 = .ok (.if_icmp .ne 5, 3) := by decide +kernel
theorem dX8_next_50 : decode cX8_next 50 = .ok (.aload_n 0, 1) := by decide +kernel
theorem dX8_next_51 : decode cX8_next 51 = .ok (.aload_n 0, 1) := by decide +kernel
theorem dX8_next_52 : decode cX8_next 52 = .ok (.getfield 33, 3) := by decide +kernel
theorem dX8_next_55 : decode cX8_next 55 = .ok (.iload_n 2, 1) := by decide +kernel
theorem dX8_next_56 : decode cX8_next 56 = .ok (.invokestatic 54, 3) := by decide +kernel
theorem dX8_next_59 : decode cX8_next 59 = .ok (.putfield 33, 3) := by decide +kernel
theorem dX8_next_62 : decode cX8_next 62 = .ok (.aload_n 0, 1) := by decide +kernel
theorem dX8_next_63 : decode cX8_next 63 = .ok (.iload_n 2, 1) := by decide +kernel
theorem dX8_next_64 : decode cX8_next 64 = .ok (.invokevirtual 60, 3) := by decide +kernel
theorem dX8_next_67 : decode cX8_next 67 = .ok (.istore_n 3, 1) := by decide +kernel
theorem dX8_next_68 : decode cX8_next 68 = .ok (.aload_n 0, 1) := by decide +kernel
theorem dX8_next_69 : decode cX8_next 69 = .ok (.iload_n 3, 1) := by decide +kernel
theorem dX8_next_70 : decode cX8_next 70 = .ok (.iconst (-1), 1) := by decide +kernel
theorem dX8_next_71 : decode cX8_next 71 = .ok (.if_icmp .ne 15, 3) := by decide +kernel
theorem dX8_next_74 : decode cX8_next 74 = .ok (.aload_n 0, 1) := by decide +kernel
theorem dX8_next_75 : decode cX8_next 75 = .ok (.getfield 36, 3) := by decide +kernel
theorem dX8_next_78 : decode cX8_next 78 = .ok (.getfield 63, 3) := by decide +kernel
theorem dX8_next_81 : decode cX8_next 81 = .ok (.iconst 1, 1) := by decide +kernel
theorem dX8_next_82 : decode cX8_next 82 = .ok (.isub, 1) := by decide +kernel
theorem dX8_next_83 : decode cX8_next 83 = .ok (.goto 4, 3) := by decide +kernel
theorem dX8_next_87 : decode cX8_next 87 = .ok (.putfield 29, 3) := by decide +kernel
theorem dX8_next_90 : decode cX8_next 90 = .ok (.iload_n 3, 1) := by decide +kernel
theorem dX8_next_91 : decode cX8_next 91 = .ok (.iconst (-1), 1) := by decide +kernel
theorem dX8_next_92 : decode cX8_next 92 = .ok (.if_icmp .ne 5, 3) := by decide +kernel
theorem dX8_next_95 : decode cX8_next 95 = .ok (.iconst 1, 1) := by decide +kernel
theorem dX8_next_96 : decode cX8_next 96 = .ok (.ireturn, 1) := by decide +kernel
theorem dX8_next_22 : decode cX8_next 22 = .ok (.aload_n 0, 1) := by decide +kernel
theorem dX8_next_23 : decode cX8_next 23 = .ok (.getfield 40, 3) := by decide +kernel
theorem dX8_next_26 : decode cX8_next 26 = .ok (.aload_n 0, 1) := by decide +kernel
theorem dX8_next_27 : decode cX8_next 27 = .ok (.getfield 29, 3) := by decide +kernel
theorem dX8_next_30 : decode cX8_next 30 = .ok (.invokevirtual 50, 3) := by decide +kernel
theorem dX8_next_33 : decode cX8_next 33 = .ok (.goto 4, 3) := by decide +kernel
theorem dX8_next_48 : decode cX8_next 48 = .ok (.iconst 0, 1) := by decide +kernel
theorem dX8_next_49 : decode cX8_next 49 = .ok (.ireturn, 1) := by decide +kernel
theorem dJ6_bitCount_0f7a4_0 : decode cJ6_bitCount_0f7a4 0 = .ok (.iload_n 0, 1) := by decide +kernel
theorem dJ6_bitCount_0f7a4_1 : decode cJ6_bitCount_0f7a4 1 = .ok (.iload_n 0, 1) := by decide +kernel
theorem dJ6_bitCount_0f7a4_2 : decode cJ6_bitCount_0f7a4 2 = .ok (.iconst 1, 1) := by decide +kernel
theorem dJ6_bitCount_0f7a4_3 : decode cJ6_bitCount_0f7a4 3 = .ok (.iushr, 1) := by decide +kernel
theorem dJ6_bitCount_0f7a4_4 : decode cJ6_bitCount_0f7a4 4 = .ok (.ldc_w 265, 3) := by decide +kernel
theorem dJ6_bitCount_0f7a4_7 : decode cJ6_bitCount_0f7a4 7 = .ok (.iand, 1) := by decide +kernel
theorem dJ6_bitCount_0f7a4_8 : decode cJ6_bitCount_0f7a4 8 = .ok (.isub, 1) := by decide +kernel
theorem dJ6_bitCount_0f7a4_9 : decode cJ6_bitCount_0f7a4 9 = .ok (.istore_n 0, 1) := by decide +kernel
theorem dJ6_bitCount_0f7a4_10 : decode cJ6_bitCount_0f7a4 10 = .ok (.iload_n 0, 1) := by decide +kernel
theorem dJ6_bitCount_0f7a4_11 : decode cJ6_bitCount_0f7a4 11 = .ok (.ldc_w 266, 3) := by decide +kernel
theorem dJ6_bitCount_0f7a4_14 : decode cJ6_bitCount_0f7a4 14 = .ok (.iand, 1) := by decide +kernel
theorem dJ6_bitCount_0f7a4_15 : decode cJ6_bitCount_0f7a4 15 = .ok (.iload_n 0, 1) := by decide +kernel
theorem dJ6_bitCount_0f7a4_16 : decode cJ6_bitCount_0f7a4 16 = .ok (.iconst 2, 1) := by decide +kernel
theorem dJ6_bitCount_0f7a4_17 : decode cJ6_bitCount_0f7a4 17 = .ok (.iushr, 1) := by decide +kernel
theorem dJ6_bitCount_0f7a4_18 : decode cJ6_bitCount_0f7a4 18 = .ok (.ldc_w 266, 3) := by decide +kernel
theorem dJ6_bitCount_0f7a4_21 : decode cJ6_bitCount_0f7a4 21 = .ok (.iand, 1) := by decide +kernel
theorem dJ6_bitCount_0f7a4_22 : decode cJ6_bitCount_0f7a4 22 = .ok (.iadd, 1) := by decide +kernel
theorem dJ6_bitCount_0f7a4_23 : decode cJ6_bitCount_0f7a4 23 = .ok (.istore_n 0, 1) := by decide +kernel
theorem dJ6_bitCount_0f7a4_24 : decode cJ6_bitCount_0f7a4 24 = .ok (.iload_n 0, 1) := by decide +kernel
theorem dJ6_bitCount_0f7a4_25 : decode cJ6_bitCount_0f7a4 25 = .ok (.iload_n 0, 1) := by decide +kernel
theorem dJ6_bitCount_0f7a4_26 : decode cJ6_bitCount_0f7a4 26 = .ok (.iconst 4, 1) := by decide +kernel
theorem dJ6_bitCount_0f7a4_27 : decode cJ6_bitCount_0f7a4 27 = .ok (.iushr, 1) := by decide +kernel
theorem dJ6_bitCount_0f7a4_28 : decode cJ6_bitCount_0f7a4 28 = .ok (.iadd, 1) := by decide +kernel
theorem dJ6_bitCount_0f7a4_29 : decode cJ6_bitCount_0f7a4 29 = .ok (.ldc_w 267, 3) := by decide +kernel
theorem dJ6_bitCount_0f7a4_32 : decode cJ6_bitCount_0f7a4 32 = .ok (.iand, 1) := by decide +kernel
theorem dJ6_bitCount_0f7a4_33 : decode cJ6_bitCount_0f7a4 33 = .ok (.istore_n 0, 1) := by decide +kernel
theorem dJ6_bitCount_0f7a4_34 : decode cJ6_bitCount_0f7a4 34 = .ok (.iload_n 0, 1) := by decide +kernel
theorem dJ6_bitCount_0f7a4_35 : decode cJ6_bitCount_0f7a4 35 = .ok (.iload_n 0, 1) := by decide +kernel
theorem dJ6_bitCount_0f7a4_36 : decode cJ6_bitCount_0f7a4 36 = .ok (.bipush 8, 2) := by decide +kernel
theorem dJ6_bitCount_0f7a4_38 : decode cJ6_bitCount_0f7a4 38 = .ok (.iushr, 1) := by decide +kernel
theorem dJ6_bitCount_0f7a4_39 : decode cJ6_bitCount_0f7a4 39 = .ok (.iadd, 1) := by decide +kernel
theorem dJ6_bitCount_0f7a4_40 : decode cJ6_bitCount_0f7a4 40 = .ok (.istore_n 0, 1) := by decide +kernel
theorem dJ6_bitCount_0f7a4_41 : decode cJ6_bitCount_0f7a4 41 = .ok (.iload_n 0, 1) := by decide +kernel
theorem dJ6_bitCount_0f7a4_42 : decode cJ6_bitCount_0f7a4 42 = .ok (.iload_n 0, 1) := by decide +kernel
theorem dJ6_bitCount_0f7a4_43 : decode cJ6_bitCount_0f7a4 43 = .ok (.bipush 16, 2) := by decide +kernel
theorem dJ6_bitCount_0f7a4_45 : decode cJ6_bitCount_0f7a4 45 = .ok (.iushr, 1) := by decide +kernel
theorem dJ6_bitCount_0f7a4_46 : decode cJ6_bitCount_0f7a4 46 = .ok (.iadd, 1) := by decide +kernel
theorem dJ6_bitCount_0f7a4_47 : decode cJ6_bitCount_0f7a4 47 = .ok (.istore_n 0, 1) := by decide +kernel
theorem dJ6_bitCount_0f7a4_48 : decode cJ6_bitCount_0f7a4 48 = .ok (.iload_n 0, 1) := by decide +kernel
theorem dJ6_bitCount_0f7a4_49 : decode cJ6_bitCount_0f7a4 49 = .ok (.bipush 63, 2) := by decide +kernel
theorem dJ6_bitCount_0f7a4_51 : decode cJ6_bitCount_0f7a4 51 = .ok (.iand, 1) := by decide +kernel
theorem dJ6_bitCount_0f7a4_52 : decode cJ6_bitCount_0f7a4 52 = .ok (.ireturn, 1) := by decide +kernel
theorem dX11_isBetter_0 : decode cX11_isBetter 0 = .ok (.iload_n 0, 1) := by decide +kernel
theorem dX11_isBetter_1 : decode cX11_isBetter 1 = .ok (.iload_n 2, 1) := by decide +kernel
theorem dX11_isBetter_2 : decode cX11_isBetter 2 = .ok (.if_icmp .eq 14, 3) := by decide +kernel
theorem dX11_isBetter_16 : decode cX11_isBetter 16 = .ok (.iload_n 1, 1) := by decide +kernel
theorem dX11_isBetter_17 : decode cX11_isBetter 17 = .ok (.invokestatic 321, 3) := by decide +kernel
theorem dX11_isBetter_20 : decode cX11_isBetter 20 = .ok (.istore 4, 2) := by decide +kernel
theorem dX11_isBetter_22 : decode cX11_isBetter 22 = .ok (.iload_n 3, 1) := by decide +kernel
theorem dX11_isBetter_23 : decode cX11_isBetter 23 = .ok (.invokestatic 321, 3) := by decide +kernel
theorem dX11_isBetter_26 : decode cX11_isBetter 26 = .ok (.istore 5, 2) := by decide +kernel
theorem dX11_isBetter_28 : decode cX11_isBetter 28 = .ok (.iload 4, 2) := by decide +kernel
theorem dX11_isBetter_30 : decode cX11_isBetter 30 = .ok (.iload 5, 2) := by decide +kernel
theorem dX11_isBetter_32 : decode cX11_isBetter 32 = .ok (.if_icmp .eq 18, 3) := by decide +kernel
theorem dX11_isBetter_50 : decode cX11_isBetter 50 = .ok (.iload_n 1, 1) := by decide +kernel
theorem dX11_isBetter_51 : decode cX11_isBetter 51 = .ok (.iload_n 3, 1) := by decide +kernel
theorem dX11_isBetter_52 : decode cX11_isBetter 52 = .ok (.if_icmp .ge 7, 3) := by decide +kernel
theorem dX11_isBetter_59 : decode cX11_isBetter 59 = .ok (.iconst 0, 1) := by decide +kernel
theorem dX11_isBetter_60 : decode cX11_isBetter 60 = .ok (.ireturn, 1) := by decide +kernel
def ow_c_fill : List Cond := []
def vs_c_fill : List Cond := .code yJ7_fill_53178 cJ7_fill_53178 4 none :: (ow_c_fill)
theorem vg_c_fill : vs_c_fill.all goodWord = true := by decide +kernel
set_option maxHeartbeats 4000000 in
set_option maxRecDepth 100000 in
/-- Arrays.fill of twelve ints -/
theorem c_fill (l : Launch) (dC : Nat → ClassId) (dI : Nat → Nat → Nat) (a0 : Nat) (ka : ClassId) (f0 : Nat → Int32) (sz : Nat) : Met l yJ7_fill_53178 vs_c_fill ({ frames := 0, cells := 0, slots := 0, locals := 0 }) (va_Pc [.ref a0, .int (-1)] (wSt dC dI [(a0, .inl (ka, 12, .inl f0))] [(ka, .int)] sz)) (va_Qv (fun (_ : (Nat → Int32)) => True) (fun (u : (Nat → Int32)) => wEn dC dI (va_A [(a0, .inl (ka, 12, .inl f0))] sz) [(a0, .inl (ka, 12, .inl u))] []) (va_A [(a0, .inl (ka, 12, .inl f0))] sz)) 0 0 (va_A [(a0, .inl (ka, 12, .inl f0))] sz) := by
  refine Met.ofW (cc := cJ7_fill_53178) (maxL := 4) (ret := none) (by decide) rfl ?_
  intro p e s m args below meth c s₁ B hml hv
  obtain ⟨rfl, hsz, hP, hK, hD0, hE⟩ := hv
  have hx := B.exec
  have hb := B.bytes
  have hr := B.returns
  have hts := atoms_spec (ws := vs_c_fill) B.pre
  have hown : s.vm.findClass RJ7 = some m.cls := findClass_of_methodNamed B.named
  have hlocks := B.notSynchronized
  subst hsz
  have hD := hD0.self (sz := s.heap.size)
  generalize hAe : va_A [(a0, .inl (ka, 12, .inl f0))] s.heap.size = A at hD ⊢
  have hA : ∀ q : Nat, s.heap.size ≤ q → A q := fun q h => by rw [← hAe]; exact Or.inr h
  have hl := lv_entry ([.ref a0, .int (-1)]) (n := 4) (Nat.le_of_ble_eq_true rfl)
  rw [lg_entry_eq]
  generalize (lg_sl ([.ref a0, .int (-1)]) ++ List.replicate (4 - (lg_sl ([.ref a0, .int (-1)])).length) Slot.unset).toArray = ls at hl ⊢
  have hl : lv_has ls 4 [(0, .ref a0), (1, .int (-1))] := hl
  refine zH (A := A) (ws := [(a0, .inl (ka, 12, .inl f0))]) (fun H hP hS => ?_) hP
  have ho := fun w (h : w ∈ ow_c_fill) => hts w (List.mem_cons_of_mem _ h)
  refine lv_iconst (v := 0) hx hb dJ7_fill_53178_0 (by decide) ?_
  refine lv_istore_n (lv' := [(2, .int 0), (0, .ref a0), (1, .int (-1))]) hx hb dJ7_fill_53178_1 rfl hl (by decide) rfl (fun ls hl => ?_)
  refine lv_aload_n hx hb dJ7_fill_53178_2 rfl (lv_at hl 1 rfl) ?_
  refine va_alen (v := 12) hx hb hK hP 0 0 rfl rfl (by decide) dJ7_fill_53178_3 ?_
  refine lv_istore_n (lv' := [(3, .int 12), (2, .int 0), (0, .ref a0), (1, .int (-1))]) hx hb dJ7_fill_53178_4 rfl hl (by decide) rfl (fun ls hl => ?_)
  refine lv_iload_n hx hb dJ7_fill_53178_5 rfl (lv_at hl 1 rfl) ?_
  refine lv_iload_n hx hb dJ7_fill_53178_6 rfl (lv_at hl 0 rfl) ?_
  refine lv_icmp_ge (tgt := 20) hx hb dJ7_fill_53178_7 (by decide) (fun cc => absurd cc (by decide)) (fun _ => ?_)
  refine lv_aload_n hx hb dJ7_fill_53178_10 rfl (lv_at hl 2 rfl) ?_
  refine lv_iload_n hx hb dJ7_fill_53178_11 rfl (lv_at hl 1 rfl) ?_
  refine lv_iload_n hx hb dJ7_fill_53178_12 rfl (lv_at hl 3 rfl) ?_
  refine va_iast hx hb hK hP hD hS 0 0 rfl rfl (by decide) dJ7_fill_53178_13 (fun H locs hP hD hS => ?_)
  have hP : va_P (dC, dI) vwCl [(a0, .inl (ka, 12, .inl (upd f0 (Int32.toNatClampNeg 0) (-1))))] H := hP
  have hD : va_D A [(a0, .inl (ka, 12, .inl (upd f0 (Int32.toNatClampNeg 0) (-1))))] := hD
  generalize upd f0 (Int32.toNatClampNeg 0) (-1) = f2 at hP hD
  have hP : va_P (dC, dI) vwCl [(a0, .inl (ka, 12, .inl f2))] H := hP
  have hD : va_D A [(a0, .inl (ka, 12, .inl f2))] := hD
  refine lv_iinc (v := 1) (lv' := [(2, .int 1), (3, .int 12), (0, .ref a0), (1, .int (-1))]) hx hb dJ7_fill_53178_14 hl (k := 1) rfl (by decide) (by decide) rfl (fun ls hl => ?_)
  refine lv_goto (tgt := 5) hx hb dJ7_fill_53178_17 (by decide) ?_
  refine lv_iload_n hx hb dJ7_fill_53178_5 rfl (lv_at hl 0 rfl) ?_
  refine lv_iload_n hx hb dJ7_fill_53178_6 rfl (lv_at hl 1 rfl) ?_
  refine lv_icmp_ge (tgt := 20) hx hb dJ7_fill_53178_7 (by decide) (fun cc => absurd cc (by decide)) (fun _ => ?_)
  refine lv_aload_n hx hb dJ7_fill_53178_10 rfl (lv_at hl 2 rfl) ?_
  refine lv_iload_n hx hb dJ7_fill_53178_11 rfl (lv_at hl 0 rfl) ?_
  refine lv_iload_n hx hb dJ7_fill_53178_12 rfl (lv_at hl 3 rfl) ?_
  refine va_iast hx hb hK hP hD hS 0 0 rfl rfl (by decide) dJ7_fill_53178_13 (fun H locs hP hD hS => ?_)
  have hP : va_P (dC, dI) vwCl [(a0, .inl (ka, 12, .inl (upd f2 (Int32.toNatClampNeg 1) (-1))))] H := hP
  have hD : va_D A [(a0, .inl (ka, 12, .inl (upd f2 (Int32.toNatClampNeg 1) (-1))))] := hD
  generalize upd f2 (Int32.toNatClampNeg 1) (-1) = f4 at hP hD
  have hP : va_P (dC, dI) vwCl [(a0, .inl (ka, 12, .inl f4))] H := hP
  have hD : va_D A [(a0, .inl (ka, 12, .inl f4))] := hD
  refine lv_iinc (v := 2) (lv' := [(2, .int 2), (3, .int 12), (0, .ref a0), (1, .int (-1))]) hx hb dJ7_fill_53178_14 hl (k := 0) rfl (by decide) (by decide) rfl (fun ls hl => ?_)
  refine lv_goto (tgt := 5) hx hb dJ7_fill_53178_17 (by decide) ?_
  refine lv_iload_n hx hb dJ7_fill_53178_5 rfl (lv_at hl 0 rfl) ?_
  refine lv_iload_n hx hb dJ7_fill_53178_6 rfl (lv_at hl 1 rfl) ?_
  refine lv_icmp_ge (tgt := 20) hx hb dJ7_fill_53178_7 (by decide) (fun cc => absurd cc (by decide)) (fun _ => ?_)
  refine lv_aload_n hx hb dJ7_fill_53178_10 rfl (lv_at hl 2 rfl) ?_
  refine lv_iload_n hx hb dJ7_fill_53178_11 rfl (lv_at hl 0 rfl) ?_
  refine lv_iload_n hx hb dJ7_fill_53178_12 rfl (lv_at hl 3 rfl) ?_
  refine va_iast hx hb hK hP hD hS 0 0 rfl rfl (by decide) dJ7_fill_53178_13 (fun H locs hP hD hS => ?_)
  have hP : va_P (dC, dI) vwCl [(a0, .inl (ka, 12, .inl (upd f4 (Int32.toNatClampNeg 2) (-1))))] H := hP
  have hD : va_D A [(a0, .inl (ka, 12, .inl (upd f4 (Int32.toNatClampNeg 2) (-1))))] := hD
  generalize upd f4 (Int32.toNatClampNeg 2) (-1) = f6 at hP hD
  have hP : va_P (dC, dI) vwCl [(a0, .inl (ka, 12, .inl f6))] H := hP
  have hD : va_D A [(a0, .inl (ka, 12, .inl f6))] := hD
  refine lv_iinc (v := 3) (lv' := [(2, .int 3), (3, .int 12), (0, .ref a0), (1, .int (-1))]) hx hb dJ7_fill_53178_14 hl (k := 0) rfl (by decide) (by decide) rfl (fun ls hl => ?_)
  refine lv_goto (tgt := 5) hx hb dJ7_fill_53178_17 (by decide) ?_
  refine lv_iload_n hx hb dJ7_fill_53178_5 rfl (lv_at hl 0 rfl) ?_
  refine lv_iload_n hx hb dJ7_fill_53178_6 rfl (lv_at hl 1 rfl) ?_
  refine lv_icmp_ge (tgt := 20) hx hb dJ7_fill_53178_7 (by decide) (fun cc => absurd cc (by decide)) (fun _ => ?_)
  refine lv_aload_n hx hb dJ7_fill_53178_10 rfl (lv_at hl 2 rfl) ?_
  refine lv_iload_n hx hb dJ7_fill_53178_11 rfl (lv_at hl 0 rfl) ?_
  refine lv_iload_n hx hb dJ7_fill_53178_12 rfl (lv_at hl 3 rfl) ?_
  refine va_iast hx hb hK hP hD hS 0 0 rfl rfl (by decide) dJ7_fill_53178_13 (fun H locs hP hD hS => ?_)
  have hP : va_P (dC, dI) vwCl [(a0, .inl (ka, 12, .inl (upd f6 (Int32.toNatClampNeg 3) (-1))))] H := hP
  have hD : va_D A [(a0, .inl (ka, 12, .inl (upd f6 (Int32.toNatClampNeg 3) (-1))))] := hD
  generalize upd f6 (Int32.toNatClampNeg 3) (-1) = f8 at hP hD
  have hP : va_P (dC, dI) vwCl [(a0, .inl (ka, 12, .inl f8))] H := hP
  have hD : va_D A [(a0, .inl (ka, 12, .inl f8))] := hD
  refine lv_iinc (v := 4) (lv' := [(2, .int 4), (3, .int 12), (0, .ref a0), (1, .int (-1))]) hx hb dJ7_fill_53178_14 hl (k := 0) rfl (by decide) (by decide) rfl (fun ls hl => ?_)
  refine lv_goto (tgt := 5) hx hb dJ7_fill_53178_17 (by decide) ?_
  refine lv_iload_n hx hb dJ7_fill_53178_5 rfl (lv_at hl 0 rfl) ?_
  refine lv_iload_n hx hb dJ7_fill_53178_6 rfl (lv_at hl 1 rfl) ?_
  refine lv_icmp_ge (tgt := 20) hx hb dJ7_fill_53178_7 (by decide) (fun cc => absurd cc (by decide)) (fun _ => ?_)
  refine lv_aload_n hx hb dJ7_fill_53178_10 rfl (lv_at hl 2 rfl) ?_
  refine lv_iload_n hx hb dJ7_fill_53178_11 rfl (lv_at hl 0 rfl) ?_
  refine lv_iload_n hx hb dJ7_fill_53178_12 rfl (lv_at hl 3 rfl) ?_
  refine va_iast hx hb hK hP hD hS 0 0 rfl rfl (by decide) dJ7_fill_53178_13 (fun H locs hP hD hS => ?_)
  have hP : va_P (dC, dI) vwCl [(a0, .inl (ka, 12, .inl (upd f8 (Int32.toNatClampNeg 4) (-1))))] H := hP
  have hD : va_D A [(a0, .inl (ka, 12, .inl (upd f8 (Int32.toNatClampNeg 4) (-1))))] := hD
  generalize upd f8 (Int32.toNatClampNeg 4) (-1) = f10 at hP hD
  have hP : va_P (dC, dI) vwCl [(a0, .inl (ka, 12, .inl f10))] H := hP
  have hD : va_D A [(a0, .inl (ka, 12, .inl f10))] := hD
  refine lv_iinc (v := 5) (lv' := [(2, .int 5), (3, .int 12), (0, .ref a0), (1, .int (-1))]) hx hb dJ7_fill_53178_14 hl (k := 0) rfl (by decide) (by decide) rfl (fun ls hl => ?_)
  refine lv_goto (tgt := 5) hx hb dJ7_fill_53178_17 (by decide) ?_
  refine lv_iload_n hx hb dJ7_fill_53178_5 rfl (lv_at hl 0 rfl) ?_
  refine lv_iload_n hx hb dJ7_fill_53178_6 rfl (lv_at hl 1 rfl) ?_
  refine lv_icmp_ge (tgt := 20) hx hb dJ7_fill_53178_7 (by decide) (fun cc => absurd cc (by decide)) (fun _ => ?_)
  refine lv_aload_n hx hb dJ7_fill_53178_10 rfl (lv_at hl 2 rfl) ?_
  refine lv_iload_n hx hb dJ7_fill_53178_11 rfl (lv_at hl 0 rfl) ?_
  refine lv_iload_n hx hb dJ7_fill_53178_12 rfl (lv_at hl 3 rfl) ?_
  refine va_iast hx hb hK hP hD hS 0 0 rfl rfl (by decide) dJ7_fill_53178_13 (fun H locs hP hD hS => ?_)
  have hP : va_P (dC, dI) vwCl [(a0, .inl (ka, 12, .inl (upd f10 (Int32.toNatClampNeg 5) (-1))))] H := hP
  have hD : va_D A [(a0, .inl (ka, 12, .inl (upd f10 (Int32.toNatClampNeg 5) (-1))))] := hD
  generalize upd f10 (Int32.toNatClampNeg 5) (-1) = f12 at hP hD
  have hP : va_P (dC, dI) vwCl [(a0, .inl (ka, 12, .inl f12))] H := hP
  have hD : va_D A [(a0, .inl (ka, 12, .inl f12))] := hD
  refine lv_iinc (v := 6) (lv' := [(2, .int 6), (3, .int 12), (0, .ref a0), (1, .int (-1))]) hx hb dJ7_fill_53178_14 hl (k := 0) rfl (by decide) (by decide) rfl (fun ls hl => ?_)
  refine lv_goto (tgt := 5) hx hb dJ7_fill_53178_17 (by decide) ?_
  refine lv_iload_n hx hb dJ7_fill_53178_5 rfl (lv_at hl 0 rfl) ?_
  refine lv_iload_n hx hb dJ7_fill_53178_6 rfl (lv_at hl 1 rfl) ?_
  refine lv_icmp_ge (tgt := 20) hx hb dJ7_fill_53178_7 (by decide) (fun cc => absurd cc (by decide)) (fun _ => ?_)
  refine lv_aload_n hx hb dJ7_fill_53178_10 rfl (lv_at hl 2 rfl) ?_
  refine lv_iload_n hx hb dJ7_fill_53178_11 rfl (lv_at hl 0 rfl) ?_
  refine lv_iload_n hx hb dJ7_fill_53178_12 rfl (lv_at hl 3 rfl) ?_
  refine va_iast hx hb hK hP hD hS 0 0 rfl rfl (by decide) dJ7_fill_53178_13 (fun H locs hP hD hS => ?_)
  have hP : va_P (dC, dI) vwCl [(a0, .inl (ka, 12, .inl (upd f12 (Int32.toNatClampNeg 6) (-1))))] H := hP
  have hD : va_D A [(a0, .inl (ka, 12, .inl (upd f12 (Int32.toNatClampNeg 6) (-1))))] := hD
  generalize upd f12 (Int32.toNatClampNeg 6) (-1) = f14 at hP hD
  have hP : va_P (dC, dI) vwCl [(a0, .inl (ka, 12, .inl f14))] H := hP
  have hD : va_D A [(a0, .inl (ka, 12, .inl f14))] := hD
  refine lv_iinc (v := 7) (lv' := [(2, .int 7), (3, .int 12), (0, .ref a0), (1, .int (-1))]) hx hb dJ7_fill_53178_14 hl (k := 0) rfl (by decide) (by decide) rfl (fun ls hl => ?_)
  refine lv_goto (tgt := 5) hx hb dJ7_fill_53178_17 (by decide) ?_
  refine lv_iload_n hx hb dJ7_fill_53178_5 rfl (lv_at hl 0 rfl) ?_
  refine lv_iload_n hx hb dJ7_fill_53178_6 rfl (lv_at hl 1 rfl) ?_
  refine lv_icmp_ge (tgt := 20) hx hb dJ7_fill_53178_7 (by decide) (fun cc => absurd cc (by decide)) (fun _ => ?_)
  refine lv_aload_n hx hb dJ7_fill_53178_10 rfl (lv_at hl 2 rfl) ?_
  refine lv_iload_n hx hb dJ7_fill_53178_11 rfl (lv_at hl 0 rfl) ?_
  refine lv_iload_n hx hb dJ7_fill_53178_12 rfl (lv_at hl 3 rfl) ?_
  refine va_iast hx hb hK hP hD hS 0 0 rfl rfl (by decide) dJ7_fill_53178_13 (fun H locs hP hD hS => ?_)
  have hP : va_P (dC, dI) vwCl [(a0, .inl (ka, 12, .inl (upd f14 (Int32.toNatClampNeg 7) (-1))))] H := hP
  have hD : va_D A [(a0, .inl (ka, 12, .inl (upd f14 (Int32.toNatClampNeg 7) (-1))))] := hD
  generalize upd f14 (Int32.toNatClampNeg 7) (-1) = f16 at hP hD
  have hP : va_P (dC, dI) vwCl [(a0, .inl (ka, 12, .inl f16))] H := hP
  have hD : va_D A [(a0, .inl (ka, 12, .inl f16))] := hD
  refine lv_iinc (v := 8) (lv' := [(2, .int 8), (3, .int 12), (0, .ref a0), (1, .int (-1))]) hx hb dJ7_fill_53178_14 hl (k := 0) rfl (by decide) (by decide) rfl (fun ls hl => ?_)
  refine lv_goto (tgt := 5) hx hb dJ7_fill_53178_17 (by decide) ?_
  refine lv_iload_n hx hb dJ7_fill_53178_5 rfl (lv_at hl 0 rfl) ?_
  refine lv_iload_n hx hb dJ7_fill_53178_6 rfl (lv_at hl 1 rfl) ?_
  refine lv_icmp_ge (tgt := 20) hx hb dJ7_fill_53178_7 (by decide) (fun cc => absurd cc (by decide)) (fun _ => ?_)
  refine lv_aload_n hx hb dJ7_fill_53178_10 rfl (lv_at hl 2 rfl) ?_
  refine lv_iload_n hx hb dJ7_fill_53178_11 rfl (lv_at hl 0 rfl) ?_
  refine lv_iload_n hx hb dJ7_fill_53178_12 rfl (lv_at hl 3 rfl) ?_
  refine va_iast hx hb hK hP hD hS 0 0 rfl rfl (by decide) dJ7_fill_53178_13 (fun H locs hP hD hS => ?_)
  have hP : va_P (dC, dI) vwCl [(a0, .inl (ka, 12, .inl (upd f16 (Int32.toNatClampNeg 8) (-1))))] H := hP
  have hD : va_D A [(a0, .inl (ka, 12, .inl (upd f16 (Int32.toNatClampNeg 8) (-1))))] := hD
  generalize upd f16 (Int32.toNatClampNeg 8) (-1) = f18 at hP hD
  have hP : va_P (dC, dI) vwCl [(a0, .inl (ka, 12, .inl f18))] H := hP
  have hD : va_D A [(a0, .inl (ka, 12, .inl f18))] := hD
  refine lv_iinc (v := 9) (lv' := [(2, .int 9), (3, .int 12), (0, .ref a0), (1, .int (-1))]) hx hb dJ7_fill_53178_14 hl (k := 0) rfl (by decide) (by decide) rfl (fun ls hl => ?_)
  refine lv_goto (tgt := 5) hx hb dJ7_fill_53178_17 (by decide) ?_
  refine lv_iload_n hx hb dJ7_fill_53178_5 rfl (lv_at hl 0 rfl) ?_
  refine lv_iload_n hx hb dJ7_fill_53178_6 rfl (lv_at hl 1 rfl) ?_
  refine lv_icmp_ge (tgt := 20) hx hb dJ7_fill_53178_7 (by decide) (fun cc => absurd cc (by decide)) (fun _ => ?_)
  refine lv_aload_n hx hb dJ7_fill_53178_10 rfl (lv_at hl 2 rfl) ?_
  refine lv_iload_n hx hb dJ7_fill_53178_11 rfl (lv_at hl 0 rfl) ?_
  refine lv_iload_n hx hb dJ7_fill_53178_12 rfl (lv_at hl 3 rfl) ?_
  refine va_iast hx hb hK hP hD hS 0 0 rfl rfl (by decide) dJ7_fill_53178_13 (fun H locs hP hD hS => ?_)
  have hP : va_P (dC, dI) vwCl [(a0, .inl (ka, 12, .inl (upd f18 (Int32.toNatClampNeg 9) (-1))))] H := hP
  have hD : va_D A [(a0, .inl (ka, 12, .inl (upd f18 (Int32.toNatClampNeg 9) (-1))))] := hD
  generalize upd f18 (Int32.toNatClampNeg 9) (-1) = f20 at hP hD
  have hP : va_P (dC, dI) vwCl [(a0, .inl (ka, 12, .inl f20))] H := hP
  have hD : va_D A [(a0, .inl (ka, 12, .inl f20))] := hD
  refine lv_iinc (v := 10) (lv' := [(2, .int 10), (3, .int 12), (0, .ref a0), (1, .int (-1))]) hx hb dJ7_fill_53178_14 hl (k := 0) rfl (by decide) (by decide) rfl (fun ls hl => ?_)
  refine lv_goto (tgt := 5) hx hb dJ7_fill_53178_17 (by decide) ?_
  refine lv_iload_n hx hb dJ7_fill_53178_5 rfl (lv_at hl 0 rfl) ?_
  refine lv_iload_n hx hb dJ7_fill_53178_6 rfl (lv_at hl 1 rfl) ?_
  refine lv_icmp_ge (tgt := 20) hx hb dJ7_fill_53178_7 (by decide) (fun cc => absurd cc (by decide)) (fun _ => ?_)
  refine lv_aload_n hx hb dJ7_fill_53178_10 rfl (lv_at hl 2 rfl) ?_
  refine lv_iload_n hx hb dJ7_fill_53178_11 rfl (lv_at hl 0 rfl) ?_
  refine lv_iload_n hx hb dJ7_fill_53178_12 rfl (lv_at hl 3 rfl) ?_
  refine va_iast hx hb hK hP hD hS 0 0 rfl rfl (by decide) dJ7_fill_53178_13 (fun H locs hP hD hS => ?_)
  have hP : va_P (dC, dI) vwCl [(a0, .inl (ka, 12, .inl (upd f20 (Int32.toNatClampNeg 10) (-1))))] H := hP
  have hD : va_D A [(a0, .inl (ka, 12, .inl (upd f20 (Int32.toNatClampNeg 10) (-1))))] := hD
  generalize upd f20 (Int32.toNatClampNeg 10) (-1) = f22 at hP hD
  have hP : va_P (dC, dI) vwCl [(a0, .inl (ka, 12, .inl f22))] H := hP
  have hD : va_D A [(a0, .inl (ka, 12, .inl f22))] := hD
  refine lv_iinc (v := 11) (lv' := [(2, .int 11), (3, .int 12), (0, .ref a0), (1, .int (-1))]) hx hb dJ7_fill_53178_14 hl (k := 0) rfl (by decide) (by decide) rfl (fun ls hl => ?_)
  refine lv_goto (tgt := 5) hx hb dJ7_fill_53178_17 (by decide) ?_
  refine lv_iload_n hx hb dJ7_fill_53178_5 rfl (lv_at hl 0 rfl) ?_
  refine lv_iload_n hx hb dJ7_fill_53178_6 rfl (lv_at hl 1 rfl) ?_
  refine lv_icmp_ge (tgt := 20) hx hb dJ7_fill_53178_7 (by decide) (fun cc => absurd cc (by decide)) (fun _ => ?_)
  refine lv_aload_n hx hb dJ7_fill_53178_10 rfl (lv_at hl 2 rfl) ?_
  refine lv_iload_n hx hb dJ7_fill_53178_11 rfl (lv_at hl 0 rfl) ?_
  refine lv_iload_n hx hb dJ7_fill_53178_12 rfl (lv_at hl 3 rfl) ?_
  refine va_iast hx hb hK hP hD hS 0 0 rfl rfl (by decide) dJ7_fill_53178_13 (fun H locs hP hD hS => ?_)
  have hP : va_P (dC, dI) vwCl [(a0, .inl (ka, 12, .inl (upd f22 (Int32.toNatClampNeg 11) (-1))))] H := hP
  have hD : va_D A [(a0, .inl (ka, 12, .inl (upd f22 (Int32.toNatClampNeg 11) (-1))))] := hD
  generalize upd f22 (Int32.toNatClampNeg 11) (-1) = f24 at hP hD
  have hP : va_P (dC, dI) vwCl [(a0, .inl (ka, 12, .inl f24))] H := hP
  have hD : va_D A [(a0, .inl (ka, 12, .inl f24))] := hD
  refine lv_iinc (v := 12) (lv' := [(2, .int 12), (3, .int 12), (0, .ref a0), (1, .int (-1))]) hx hb dJ7_fill_53178_14 hl (k := 0) rfl (by decide) (by decide) rfl (fun ls hl => ?_)
  refine lv_goto (tgt := 5) hx hb dJ7_fill_53178_17 (by decide) ?_
  refine lv_iload_n hx hb dJ7_fill_53178_5 rfl (lv_at hl 0 rfl) ?_
  refine lv_iload_n hx hb dJ7_fill_53178_6 rfl (lv_at hl 1 rfl) ?_
  refine lv_icmp_ge (tgt := 20) hx hb dJ7_fill_53178_7 (by decide) (fun _ => ?_) (fun cc => absurd (by decide) cc)
  refine W.widen (k := 0) (n := 0) (Nat.le_of_ble_eq_true rfl) (Nat.le_of_ble_eq_true rfl) ?_
  exact W.vret hx hb hr (fun t ht hW => ⟨⟨f24, rfl, trivial, wEn_of (hP.sub [0] rfl) (hK.sub [] rfl) (hD.sub [0] (by decide) rfl) ht hW⟩, hS.F ht⟩) hS.2.2 dJ7_fill_53178_20
def ow_c_take0 : List Cond := [.fieldLink RX0 24 "NearEnough$Changes" "taken" "[I", .fieldLink RX0 31 "NearEnough$Changes" "bits" "I", .fieldLink RX0 27 "NearEnough$Changes" "count" "I"]
def vs_c_take0 : List Cond := .code yX0_take cX0_take 3 (some .boolean) :: (ow_c_take0 ++ (([.methodLink RX0 40 yJ7_fill_53178, .static yJ7_fill_53178, .initialized yJ7_fill_53178.cls] : List Cond) ++ (vs_c_fill ++ (wsX00))))
theorem vg_c_take0 : vs_c_take0.all goodWord = true := by decide +kernel
theorem gd_c_take0_40_c_fill : GoodIn vs_c_take0 (va_wsS RX0 40 yJ7_fill_53178 vs_c_fill) := goodIn_app (goodIn_sub (fun w h => (List.mem_cons_of_mem _ (List.mem_append_right _ (List.mem_append_left _ h)))) (by decide +kernel)) (goodIn_sub (fun w h => (List.mem_cons_of_mem _ (List.mem_append_right _ (List.mem_append_right _ (List.mem_append_left _ h))))) vg_c_fill)
set_option maxHeartbeats 4000000 in
set_option maxRecDepth 100000 in
/-- take(0) -/
theorem c_take0 (l : Launch) (dC : Nat → ClassId) (dI : Nat → Nat → Nat) (ch : Nat) (a1 : Nat) (a2 : Nat) (a3 : Nat) (a4 : Nat) (a5 : Nat) (kc : ClassId) (f0 : Nat → Int32) (bt : Int32) (sz : Nat) : Met l yX0_take vs_c_take0 ({ frames := 1, cells := 0, slots := 0, locals := 23 }) (va_Pc [.ref ch, .int 0] (wSt dC dI [(ch, .inr (0, [.ref a1, .ref a2, .ref a3, .ref a4, .ref a5, .int 0, .int bt])), (a5, .inl (kc, 12, .inl f0))] [(kc, .int)] sz)) (va_Qi (fun (r : Int32) (_ : (Nat → Int32)) => r = 1) (fun (u : (Nat → Int32)) => wEn dC dI (va_A [(ch, .inr (0, [.ref a1, .ref a2, .ref a3, .ref a4, .ref a5, .int 0, .int bt])), (a5, .inl (kc, 12, .inl f0))] sz) [(ch, .inr (0, [.ref a1, .ref a2, .ref a3, .ref a4, .ref a5, .int 0, .int 0])), (a5, .inl (kc, 12, .inl u))] []) (va_A [(ch, .inr (0, [.ref a1, .ref a2, .ref a3, .ref a4, .ref a5, .int 0, .int bt])), (a5, .inl (kc, 12, .inl f0))] sz)) 0 0 (va_A [(ch, .inr (0, [.ref a1, .ref a2, .ref a3, .ref a4, .ref a5, .int 0, .int bt])), (a5, .inl (kc, 12, .inl f0))] sz) := by
  refine Met.ofW (cc := cX0_take) (maxL := 3) (ret := (some .boolean)) (by decide) rfl ?_
  intro p e s m args below meth c s₁ B hml hv
  obtain ⟨rfl, hsz, hP, hK, hD0, hE⟩ := hv
  have hx := B.exec
  have hb := B.bytes
  have hr := B.returns
  have hts := atoms_spec (ws := vs_c_take0) B.pre
  have hown : s.vm.findClass RX0 = some m.cls := findClass_of_methodNamed B.named
  have hlocks := B.notSynchronized
  subst hsz
  have hD := hD0.self (sz := s.heap.size)
  generalize hAe : va_A [(ch, .inr (0, [.ref a1, .ref a2, .ref a3, .ref a4, .ref a5, .int 0, .int bt])), (a5, .inl (kc, 12, .inl f0))] s.heap.size = A at hD ⊢
  have hA : ∀ q : Nat, s.heap.size ≤ q → A q := fun q h => by rw [← hAe]; exact Or.inr h
  have hl := lv_entry ([.ref ch, .int 0]) (n := 3) (Nat.le_of_ble_eq_true rfl)
  rw [lg_entry_eq]
  generalize (lg_sl ([.ref ch, .int 0]) ++ List.replicate (3 - (lg_sl ([.ref ch, .int 0])).length) Slot.unset).toArray = ls at hl ⊢
  have hl : lv_has ls 3 [(0, .ref ch), (1, .int 0)] := hl
  refine zH (A := A) (ws := [(ch, .inr (0, [.ref a1, .ref a2, .ref a3, .ref a4, .ref a5, .int 0, .int bt])), (a5, .inl (kc, 12, .inl f0))]) (fun H hP hS => ?_) hP
  have ho := fun w (h : w ∈ ow_c_take0) => hts w (List.mem_cons_of_mem _ (List.mem_append_left _ h))
  have hin0 : ∀ w ∈ u_ws RX0 TX0 7, w ∈ vs_c_take0 := fun w h => (List.mem_cons_of_mem _ (List.mem_append_right _ (List.mem_append_right _ (List.mem_append_right _ h))))
  refine lv_aload_n hx hb dX0_take_0 rfl (lv_at hl 0 rfl) ?_
  refine va_get (D := (dC, dI)) (ci := 0) (v := .ref a5) (C := RX0) (T := TX0) (N := 7) hx hb hts hin0 hown hK hP 0 rfl rfl 4 (by decide) (ho (.fieldLink RX0 24 "NearEnough$Changes" "taken" "[I") (List.mem_of_getElem? (i := 0) rfl)) (fun _ h9 => h9) rfl dX0_take_1 ?_
  refine lv_iconst (v := (-1)) hx hb dX0_take_4 (by decide) ?_
  have hPc := hP.sub (ws' := [(a5, .inl (kc, 12, .inl f0))]) [1] rfl
  have hDc := hD.sub (ws' := [(a5, .inl (kc, 12, .inl f0))]) [1] (by decide) rfl
  have hKc := hK.sub (tys' := [(kc, .int)]) [0] rfl
  refine zz_v (wr := [(ch, .inr (0, [.ref a1, .ref a2, .ref a3, .ref a4, .ref a5, .int 0, .int bt]))]) (va_runS (As := [.ref a5, .int (-1)]) (rest := []) ⟨hx, hb, hml, hown, hts⟩ (c_fill l dC dI a5 kc f0 H.size) (va_cwS 2 hts gd_c_take0_40_c_fill rfl rfl rfl (by decide +kernel) ⟨Nat.le_of_ble_eq_true rfl, Nat.le_of_ble_eq_true rfl⟩) (preS hPc hKc hDc hE) rfl rfl hl.1 rfl (lv_room (Nat.le_of_ble_eq_true rfl)) dX0_take_5 ⟨Nat.le_of_ble_eq_true rfl, Nat.le_of_ble_eq_true rfl⟩) hK hP hD hS hA [1] [0] rfl rfl (by decide) (by decide) (fun u H locs hK hP hD hS => ?_)
  obtain ⟨f1⟩ := u
  have hP : va_P (dC, dI) vwCl [(ch, .inr (0, [.ref a1, .ref a2, .ref a3, .ref a4, .ref a5, .int 0, .int bt])), (a5, .inl (kc, 12, .inl f1))] H := hP
  have hD : va_D A [(ch, .inr (0, [.ref a1, .ref a2, .ref a3, .ref a4, .ref a5, .int 0, .int bt])), (a5, .inl (kc, 12, .inl f1))] := hD
  have hK : va_K (dC, dI) vwCl [(kc, .int)] s := hK
  refine W.widen (k := 0) (n := 0) (Nat.le_of_ble_eq_true rfl) (Nat.le_of_ble_eq_true rfl) ?_
  refine lv_aload_n hx hb dX0_take_8 rfl (lv_at hl 0 rfl) ?_
  refine lv_iconst (v := 0) hx hb dX0_take_9 (by decide) ?_
  refine va_put (D := (dC, dI)) (ci := 0) (v := .int 0) (ty := tyX0 6) (C := RX0) (T := TX0) (N := 7) hx hb hts hin0 tyX0 tyX0_ok nmX0 hown hK hP hD hS 0 rfl rfl 6 (by decide) (ho (.fieldLink RX0 31 "NearEnough$Changes" "bits" "I") (List.mem_of_getElem? (i := 1) rfl)) (fun _ h9 => h9) rfl (by decide +kernel) rfl rfl (Nat.le_of_ble_eq_true rfl) dX0_take_10 (fun H locs hP hD hS => ?_)
  have hP : va_P (dC, dI) vwCl [(ch, .inr (0, [.ref a1, .ref a2, .ref a3, .ref a4, .ref a5, .int 0, .int 0])), (a5, .inl (kc, 12, .inl f1))] H := hP
  have hD : va_D A [(ch, .inr (0, [.ref a1, .ref a2, .ref a3, .ref a4, .ref a5, .int 0, .int 0])), (a5, .inl (kc, 12, .inl f1))] := hD
  refine lv_iload_n hx hb dX0_take_13 rfl (lv_at hl 1 rfl) ?_
  refine lv_if_lt (tgt := 27) hx hb dX0_take_14 (by decide) (fun cc => absurd cc (by decide)) (fun _ => ?_)
  refine lv_iload_n hx hb dX0_take_17 rfl (lv_at hl 1 rfl) ?_
  refine lv_iconst (v := 1) hx hb dX0_take_18 (by decide) ?_
  refine lv_aload_n hx hb dX0_take_19 rfl (lv_at hl 0 rfl) ?_
  refine va_get (D := (dC, dI)) (ci := 0) (v := .int 0) (C := RX0) (T := TX0) (N := 7) hx hb hts hin0 hown hK hP 0 rfl rfl 5 (by decide) (ho (.fieldLink RX0 27 "NearEnough$Changes" "count" "I") (List.mem_of_getElem? (i := 2) rfl)) (fun _ h9 => h9) rfl dX0_take_20 ?_
  refine lv_ishl hx hb dX0_take_23 ?_
  refine zi (v := 1) (by decide) ?_
  refine lv_icmp_lt (tgt := 29) hx hb dX0_take_24 (by decide) (fun _ => ?_) (fun cc => absurd (by decide) cc)
  refine lv_iconst (v := 0) hx hb dX0_take_29 (by decide) ?_
  refine lv_istore_n (lv' := [(2, .int 0), (0, .ref ch), (1, .int 0)]) hx hb dX0_take_30 rfl hl (by decide) rfl (fun ls hl => ?_)
  refine lv_iload_n hx hb dX0_take_31 rfl (lv_at hl 0 rfl) ?_
  refine lv_aload_n hx hb dX0_take_32 rfl (lv_at hl 1 rfl) ?_
  refine va_get (D := (dC, dI)) (ci := 0) (v := .int 0) (C := RX0) (T := TX0) (N := 7) hx hb hts hin0 hown hK hP 0 rfl rfl 5 (by decide) (ho (.fieldLink RX0 27 "NearEnough$Changes" "count" "I") (List.mem_of_getElem? (i := 2) rfl)) (fun _ h9 => h9) rfl dX0_take_33 ?_
  refine lv_icmp_ge (tgt := 82) hx hb dX0_take_36 (by decide) (fun _ => ?_) (fun cc => absurd (by decide) cc)
  refine lv_aload_n hx hb dX0_take_82 rfl (lv_at hl 1 rfl) ?_
  refine lv_iload_n hx hb dX0_take_83 rfl (lv_at hl 2 rfl) ?_
  refine va_put (D := (dC, dI)) (ci := 0) (v := .int 0) (ty := tyX0 6) (C := RX0) (T := TX0) (N := 7) hx hb hts hin0 tyX0 tyX0_ok nmX0 hown hK hP hD hS 0 rfl rfl 6 (by decide) (ho (.fieldLink RX0 31 "NearEnough$Changes" "bits" "I") (List.mem_of_getElem? (i := 1) rfl)) (fun _ h9 => h9) rfl (by decide +kernel) rfl rfl (Nat.le_of_ble_eq_true rfl) dX0_take_84 (fun H locs hP hD hS => ?_)
  have hP : va_P (dC, dI) vwCl [(ch, .inr (0, [.ref a1, .ref a2, .ref a3, .ref a4, .ref a5, .int 0, .int 0])), (a5, .inl (kc, 12, .inl f1))] H := hP
  have hD : va_D A [(ch, .inr (0, [.ref a1, .ref a2, .ref a3, .ref a4, .ref a5, .int 0, .int 0])), (a5, .inl (kc, 12, .inl f1))] := hD
  refine lv_iconst (v := 1) hx hb dX0_take_87 (by decide) ?_
  refine W.widen (k := 0) (n := 0) (Nat.le_of_ble_eq_true rfl) (Nat.le_of_ble_eq_true rfl) ?_
  exact W.zret (v := 1) hx hb hr rfl (fun t ht hW => ⟨⟨1, f1, rfl, rfl, wEn_of (hP.sub [0, 1] rfl) (hK.sub [] rfl) (hD.sub [0, 1] (by decide) rfl) ht hW⟩, hS.F ht⟩) hS.2.2 dX0_take_88
def ow_c_take : List Cond := [.fieldLink RX0 24 "NearEnough$Changes" "taken" "[I", .fieldLink RX0 31 "NearEnough$Changes" "bits" "I", .fieldLink RX0 27 "NearEnough$Changes" "count" "I"]
def vs_c_take : List Cond := .code yX0_take cX0_take 3 (some .boolean) :: (ow_c_take ++ (([.methodLink RX0 40 yJ7_fill_53178, .static yJ7_fill_53178, .initialized yJ7_fill_53178.cls] : List Cond) ++ (vs_c_fill ++ (wsX00))))
theorem vg_c_take : vs_c_take.all goodWord = true := by decide +kernel
theorem gd_c_take_40_c_fill : GoodIn vs_c_take (va_wsS RX0 40 yJ7_fill_53178 vs_c_fill) := goodIn_app (goodIn_sub (fun w h => (List.mem_cons_of_mem _ (List.mem_append_right _ (List.mem_append_left _ h)))) (by decide +kernel)) (goodIn_sub (fun w h => (List.mem_cons_of_mem _ (List.mem_append_right _ (List.mem_append_right _ (List.mem_append_left _ h))))) vg_c_fill)
set_option maxHeartbeats 4000000 in
set_option maxRecDepth 100000 in
/-- take(x) while there are no CHANGES -/
theorem c_take (l : Launch) (dC : Nat → ClassId) (dI : Nat → Nat → Nat) (ch : Nat) (a1 : Nat) (a2 : Nat) (a3 : Nat) (a4 : Nat) (a5 : Nat) (kc : ClassId) (f0 : Nat → Int32) (x : Int32) (bt : Int32) (sz : Nat) : Met l yX0_take vs_c_take ({ frames := 1, cells := 0, slots := 0, locals := 23 }) (va_Pc [.ref ch, .int x] (wSt dC dI [(ch, .inr (0, [.ref a1, .ref a2, .ref a3, .ref a4, .ref a5, .int 0, .int bt])), (a5, .inl (kc, 12, .inl f0))] [(kc, .int)] sz)) (va_Qi (fun (r : Int32) (_ : Int32 × (Nat → Int32)) => r = tk x) (fun (u : Int32 × (Nat → Int32)) => wEn dC dI (va_A [(ch, .inr (0, [.ref a1, .ref a2, .ref a3, .ref a4, .ref a5, .int 0, .int bt])), (a5, .inl (kc, 12, .inl f0))] sz) [(ch, .inr (0, [.ref a1, .ref a2, .ref a3, .ref a4, .ref a5, .int 0, .int u.1])), (a5, .inl (kc, 12, .inl u.2))] []) (va_A [(ch, .inr (0, [.ref a1, .ref a2, .ref a3, .ref a4, .ref a5, .int 0, .int bt])), (a5, .inl (kc, 12, .inl f0))] sz)) 0 0 (va_A [(ch, .inr (0, [.ref a1, .ref a2, .ref a3, .ref a4, .ref a5, .int 0, .int bt])), (a5, .inl (kc, 12, .inl f0))] sz) := by
  refine Met.ofW (cc := cX0_take) (maxL := 3) (ret := (some .boolean)) (by decide) rfl ?_
  intro p e s m args below meth c s₁ B hml hv
  obtain ⟨rfl, hsz, hP, hK, hD0, hE⟩ := hv
  have hx := B.exec
  have hb := B.bytes
  have hr := B.returns
  have hts := atoms_spec (ws := vs_c_take) B.pre
  have hown : s.vm.findClass RX0 = some m.cls := findClass_of_methodNamed B.named
  have hlocks := B.notSynchronized
  subst hsz
  have hD := hD0.self (sz := s.heap.size)
  generalize hAe : va_A [(ch, .inr (0, [.ref a1, .ref a2, .ref a3, .ref a4, .ref a5, .int 0, .int bt])), (a5, .inl (kc, 12, .inl f0))] s.heap.size = A at hD ⊢
  have hA : ∀ q : Nat, s.heap.size ≤ q → A q := fun q h => by rw [← hAe]; exact Or.inr h
  have hl := lv_entry ([.ref ch, .int x]) (n := 3) (Nat.le_of_ble_eq_true rfl)
  rw [lg_entry_eq]
  generalize (lg_sl ([.ref ch, .int x]) ++ List.replicate (3 - (lg_sl ([.ref ch, .int x])).length) Slot.unset).toArray = ls at hl ⊢
  have hl : lv_has ls 3 [(0, .ref ch), (1, .int x)] := hl
  refine zH (A := A) (ws := [(ch, .inr (0, [.ref a1, .ref a2, .ref a3, .ref a4, .ref a5, .int 0, .int bt])), (a5, .inl (kc, 12, .inl f0))]) (fun H hP hS => ?_) hP
  have ho := fun w (h : w ∈ ow_c_take) => hts w (List.mem_cons_of_mem _ (List.mem_append_left _ h))
  have hin0 : ∀ w ∈ u_ws RX0 TX0 7, w ∈ vs_c_take := fun w h => (List.mem_cons_of_mem _ (List.mem_append_right _ (List.mem_append_right _ (List.mem_append_right _ h))))
  refine lv_aload_n hx hb dX0_take_0 rfl (lv_at hl 0 rfl) ?_
  refine va_get (D := (dC, dI)) (ci := 0) (v := .ref a5) (C := RX0) (T := TX0) (N := 7) hx hb hts hin0 hown hK hP 0 rfl rfl 4 (by decide) (ho (.fieldLink RX0 24 "NearEnough$Changes" "taken" "[I") (List.mem_of_getElem? (i := 0) rfl)) (fun _ h9 => h9) rfl dX0_take_1 ?_
  refine lv_iconst (v := (-1)) hx hb dX0_take_4 (by decide) ?_
  have hPc := hP.sub (ws' := [(a5, .inl (kc, 12, .inl f0))]) [1] rfl
  have hDc := hD.sub (ws' := [(a5, .inl (kc, 12, .inl f0))]) [1] (by decide) rfl
  have hKc := hK.sub (tys' := [(kc, .int)]) [0] rfl
  refine zz_v (wr := [(ch, .inr (0, [.ref a1, .ref a2, .ref a3, .ref a4, .ref a5, .int 0, .int bt]))]) (va_runS (As := [.ref a5, .int (-1)]) (rest := []) ⟨hx, hb, hml, hown, hts⟩ (c_fill l dC dI a5 kc f0 H.size) (va_cwS 2 hts gd_c_take_40_c_fill rfl rfl rfl (by decide +kernel) ⟨Nat.le_of_ble_eq_true rfl, Nat.le_of_ble_eq_true rfl⟩) (preS hPc hKc hDc hE) rfl rfl hl.1 rfl (lv_room (Nat.le_of_ble_eq_true rfl)) dX0_take_5 ⟨Nat.le_of_ble_eq_true rfl, Nat.le_of_ble_eq_true rfl⟩) hK hP hD hS hA [1] [0] rfl rfl (by decide) (by decide) (fun u H locs hK hP hD hS => ?_)
  obtain ⟨f1⟩ := u
  have hP : va_P (dC, dI) vwCl [(ch, .inr (0, [.ref a1, .ref a2, .ref a3, .ref a4, .ref a5, .int 0, .int bt])), (a5, .inl (kc, 12, .inl f1))] H := hP
  have hD : va_D A [(ch, .inr (0, [.ref a1, .ref a2, .ref a3, .ref a4, .ref a5, .int 0, .int bt])), (a5, .inl (kc, 12, .inl f1))] := hD
  have hK : va_K (dC, dI) vwCl [(kc, .int)] s := hK
  refine W.widen (k := 0) (n := 0) (Nat.le_of_ble_eq_true rfl) (Nat.le_of_ble_eq_true rfl) ?_
  refine lv_aload_n hx hb dX0_take_8 rfl (lv_at hl 0 rfl) ?_
  refine lv_iconst (v := 0) hx hb dX0_take_9 (by decide) ?_
  refine va_put (D := (dC, dI)) (ci := 0) (v := .int 0) (ty := tyX0 6) (C := RX0) (T := TX0) (N := 7) hx hb hts hin0 tyX0 tyX0_ok nmX0 hown hK hP hD hS 0 rfl rfl 6 (by decide) (ho (.fieldLink RX0 31 "NearEnough$Changes" "bits" "I") (List.mem_of_getElem? (i := 1) rfl)) (fun _ h9 => h9) rfl (by decide +kernel) rfl rfl (Nat.le_of_ble_eq_true rfl) dX0_take_10 (fun H locs hP hD hS => ?_)
  have hP : va_P (dC, dI) vwCl [(ch, .inr (0, [.ref a1, .ref a2, .ref a3, .ref a4, .ref a5, .int 0, .int 0])), (a5, .inl (kc, 12, .inl f1))] H := hP
  have hD : va_D A [(ch, .inr (0, [.ref a1, .ref a2, .ref a3, .ref a4, .ref a5, .int 0, .int 0])), (a5, .inl (kc, 12, .inl f1))] := hD
  refine lv_iload_n hx hb dX0_take_13 rfl (lv_at hl 1 rfl) ?_
  refine lv_if_lt (tgt := 27) hx hb dX0_take_14 (by decide) (fun c_14 => ?_) (fun c_14 => ?_)
  · refine lv_iconst (v := 0) hx hb dX0_take_27 (by decide) ?_
    refine W.widen (k := 0) (n := 0) (Nat.le_of_ble_eq_true rfl) (Nat.le_of_ble_eq_true rfl) ?_
    exact W.zret (v := 0) hx hb hr rfl (fun t ht hW => ⟨⟨0, (0, f1), rfl, (by first | exact (tk_neg c_14).symm | exact (tk_out c_14 c_24).symm | exact (tk_pos c_14 c_24).symm), wEn_of (hP.sub [0, 1] rfl) (hK.sub [] rfl) (hD.sub [0, 1] (by decide) rfl) ht hW⟩, hS.F ht⟩) hS.2.2 dX0_take_28
  · refine lv_iload_n hx hb dX0_take_17 rfl (lv_at hl 1 rfl) ?_
    refine lv_iconst (v := 1) hx hb dX0_take_18 (by decide) ?_
    refine lv_aload_n hx hb dX0_take_19 rfl (lv_at hl 0 rfl) ?_
    refine va_get (D := (dC, dI)) (ci := 0) (v := .int 0) (C := RX0) (T := TX0) (N := 7) hx hb hts hin0 hown hK hP 0 rfl rfl 5 (by decide) (ho (.fieldLink RX0 27 "NearEnough$Changes" "count" "I") (List.mem_of_getElem? (i := 2) rfl)) (fun _ h9 => h9) rfl dX0_take_20 ?_
    refine lv_ishl hx hb dX0_take_23 ?_
    refine zi (v := 1) (by decide) ?_
    refine lv_icmp_lt (tgt := 29) hx hb dX0_take_24 (by decide) (fun c_24 => ?_) (fun c_24 => ?_)
    · refine lv_iconst (v := 0) hx hb dX0_take_29 (by decide) ?_
      refine lv_istore_n (lv' := [(2, .int 0), (0, .ref ch), (1, .int x)]) hx hb dX0_take_30 rfl hl (by decide) rfl (fun ls hl => ?_)
      refine lv_iload_n hx hb dX0_take_31 rfl (lv_at hl 0 rfl) ?_
      refine lv_aload_n hx hb dX0_take_32 rfl (lv_at hl 1 rfl) ?_
      refine va_get (D := (dC, dI)) (ci := 0) (v := .int 0) (C := RX0) (T := TX0) (N := 7) hx hb hts hin0 hown hK hP 0 rfl rfl 5 (by decide) (ho (.fieldLink RX0 27 "NearEnough$Changes" "count" "I") (List.mem_of_getElem? (i := 2) rfl)) (fun _ h9 => h9) rfl dX0_take_33 ?_
      refine lv_icmp_ge (tgt := 82) hx hb dX0_take_36 (by decide) (fun _ => ?_) (fun cc => absurd (by decide) cc)
      refine lv_aload_n hx hb dX0_take_82 rfl (lv_at hl 1 rfl) ?_
      refine lv_iload_n hx hb dX0_take_83 rfl (lv_at hl 2 rfl) ?_
      refine va_put (D := (dC, dI)) (ci := 0) (v := .int x) (ty := tyX0 6) (C := RX0) (T := TX0) (N := 7) hx hb hts hin0 tyX0 tyX0_ok nmX0 hown hK hP hD hS 0 rfl rfl 6 (by decide) (ho (.fieldLink RX0 31 "NearEnough$Changes" "bits" "I") (List.mem_of_getElem? (i := 1) rfl)) (fun _ h9 => h9) rfl (by decide +kernel) rfl rfl (Nat.le_of_ble_eq_true rfl) dX0_take_84 (fun H locs hP hD hS => ?_)
      have hP : va_P (dC, dI) vwCl [(ch, .inr (0, [.ref a1, .ref a2, .ref a3, .ref a4, .ref a5, .int 0, .int x])), (a5, .inl (kc, 12, .inl f1))] H := hP
      have hD : va_D A [(ch, .inr (0, [.ref a1, .ref a2, .ref a3, .ref a4, .ref a5, .int 0, .int x])), (a5, .inl (kc, 12, .inl f1))] := hD
      refine lv_iconst (v := 1) hx hb dX0_take_87 (by decide) ?_
      refine W.widen (k := 0) (n := 0) (Nat.le_of_ble_eq_true rfl) (Nat.le_of_ble_eq_true rfl) ?_
      exact W.zret (v := 1) hx hb hr rfl (fun t ht hW => ⟨⟨1, (x, f1), rfl, (by first | exact (tk_neg c_14).symm | exact (tk_out c_14 c_24).symm | exact (tk_pos c_14 c_24).symm), wEn_of (hP.sub [0, 1] rfl) (hK.sub [] rfl) (hD.sub [0, 1] (by decide) rfl) ht hW⟩, hS.F ht⟩) hS.2.2 dX0_take_88
    · refine lv_iconst (v := 0) hx hb dX0_take_27 (by decide) ?_
      refine W.widen (k := 0) (n := 0) (Nat.le_of_ble_eq_true rfl) (Nat.le_of_ble_eq_true rfl) ?_
      exact W.zret (v := 0) hx hb hr rfl (fun t ht hW => ⟨⟨0, (0, f1), rfl, (by first | exact (tk_neg c_14).symm | exact (tk_out c_14 c_24).symm | exact (tk_pos c_14 c_24).symm), wEn_of (hP.sub [0, 1] rfl) (hK.sub [] rfl) (hD.sub [0, 1] (by decide) rfl) ht hW⟩, hS.F ht⟩) hS.2.2 dX0_take_28
def ow_c_clear : List Cond := [.fieldLink RX0 27 "NearEnough$Changes" "count" "I"]
def vs_c_clear : List Cond := .code yX0_clear cX0_clear 1 none :: (ow_c_clear ++ (([.methodLink RX0 34 yX0_take, .instanceMethod yX0_take, .selects RX0 yX0_take yX0_take, .initialized RX0] : List Cond) ++ (vs_c_take0 ++ (wsX00))))
theorem vg_c_clear : vs_c_clear.all goodWord = true := by decide +kernel
theorem gd_c_clear_34_c_take0 : GoodIn vs_c_clear (wsV RX0 34 RX0 yX0_take vs_c_take0) := goodIn_app (goodIn_sub (fun w h => (List.mem_cons_of_mem _ (List.mem_append_right _ (List.mem_append_left _ h)))) (by decide +kernel)) (goodIn_sub (fun w h => (List.mem_cons_of_mem _ (List.mem_append_right _ (List.mem_append_right _ (List.mem_append_left _ h))))) vg_c_take0)
set_option maxHeartbeats 4000000 in
set_option maxRecDepth 100000 in
theorem c_clear (l : Launch) (dC : Nat → ClassId) (dI : Nat → Nat → Nat) (ch : Nat) (a1 : Nat) (a2 : Nat) (a3 : Nat) (a4 : Nat) (a5 : Nat) (kc : ClassId) (f0 : Nat → Int32) (bt : Int32) (sz : Nat) : Met l yX0_clear vs_c_clear ({ frames := 2, cells := 0, slots := 0, locals := 45 }) (va_Pc [.ref ch] (wSt dC dI [(ch, .inr (0, [.ref a1, .ref a2, .ref a3, .ref a4, .ref a5, .int 0, .int bt])), (a5, .inl (kc, 12, .inl f0))] [(kc, .int)] sz)) (va_Qv (fun (_ : (Nat → Int32)) => True) (fun (u : (Nat → Int32)) => wEn dC dI (va_A [(ch, .inr (0, [.ref a1, .ref a2, .ref a3, .ref a4, .ref a5, .int 0, .int bt])), (a5, .inl (kc, 12, .inl f0))] sz) [(ch, .inr (0, [.ref a1, .ref a2, .ref a3, .ref a4, .ref a5, .int 0, .int 0])), (a5, .inl (kc, 12, .inl u))] []) (va_A [(ch, .inr (0, [.ref a1, .ref a2, .ref a3, .ref a4, .ref a5, .int 0, .int bt])), (a5, .inl (kc, 12, .inl f0))] sz)) 0 0 (va_A [(ch, .inr (0, [.ref a1, .ref a2, .ref a3, .ref a4, .ref a5, .int 0, .int bt])), (a5, .inl (kc, 12, .inl f0))] sz) := by
  refine Met.ofW (cc := cX0_clear) (maxL := 1) (ret := none) (by decide) rfl ?_
  intro p e s m args below meth c s₁ B hml hv
  obtain ⟨rfl, hsz, hP, hK, hD0, hE⟩ := hv
  have hx := B.exec
  have hb := B.bytes
  have hr := B.returns
  have hts := atoms_spec (ws := vs_c_clear) B.pre
  have hown : s.vm.findClass RX0 = some m.cls := findClass_of_methodNamed B.named
  have hlocks := B.notSynchronized
  subst hsz
  have hD := hD0.self (sz := s.heap.size)
  generalize hAe : va_A [(ch, .inr (0, [.ref a1, .ref a2, .ref a3, .ref a4, .ref a5, .int 0, .int bt])), (a5, .inl (kc, 12, .inl f0))] s.heap.size = A at hD ⊢
  have hA : ∀ q : Nat, s.heap.size ≤ q → A q := fun q h => by rw [← hAe]; exact Or.inr h
  have hl := lv_entry ([.ref ch]) (n := 1) (Nat.le_of_ble_eq_true rfl)
  rw [lg_entry_eq]
  generalize (lg_sl ([.ref ch]) ++ List.replicate (1 - (lg_sl ([.ref ch])).length) Slot.unset).toArray = ls at hl ⊢
  have hl : lv_has ls 1 [(0, .ref ch)] := hl
  refine zH (A := A) (ws := [(ch, .inr (0, [.ref a1, .ref a2, .ref a3, .ref a4, .ref a5, .int 0, .int bt])), (a5, .inl (kc, 12, .inl f0))]) (fun H hP hS => ?_) hP
  have ho := fun w (h : w ∈ ow_c_clear) => hts w (List.mem_cons_of_mem _ (List.mem_append_left _ h))
  have hin0 : ∀ w ∈ u_ws RX0 TX0 7, w ∈ vs_c_clear := fun w h => (List.mem_cons_of_mem _ (List.mem_append_right _ (List.mem_append_right _ (List.mem_append_right _ h))))
  refine lv_aload_n hx hb dX0_clear_0 rfl (lv_at hl 0 rfl) ?_
  refine lv_iconst (v := 0) hx hb dX0_clear_1 (by decide) ?_
  refine va_put (D := (dC, dI)) (ci := 0) (v := .int 0) (ty := tyX0 5) (C := RX0) (T := TX0) (N := 7) hx hb hts hin0 tyX0 tyX0_ok nmX0 hown hK hP hD hS 0 rfl rfl 5 (by decide) (ho (.fieldLink RX0 27 "NearEnough$Changes" "count" "I") (List.mem_of_getElem? (i := 0) rfl)) (fun _ h9 => h9) rfl (by decide +kernel) rfl rfl (Nat.le_of_ble_eq_true rfl) dX0_clear_2 (fun H locs hP hD hS => ?_)
  have hP : va_P (dC, dI) vwCl [(ch, .inr (0, [.ref a1, .ref a2, .ref a3, .ref a4, .ref a5, .int 0, .int bt])), (a5, .inl (kc, 12, .inl f0))] H := hP
  have hD : va_D A [(ch, .inr (0, [.ref a1, .ref a2, .ref a3, .ref a4, .ref a5, .int 0, .int bt])), (a5, .inl (kc, 12, .inl f0))] := hD
  refine lv_aload_n hx hb dX0_clear_5 rfl (lv_at hl 0 rfl) ?_
  refine lv_iconst (v := 0) hx hb dX0_clear_6 (by decide) ?_
  have hPc := hP.sub (ws' := [(ch, .inr (0, [.ref a1, .ref a2, .ref a3, .ref a4, .ref a5, .int 0, .int bt])), (a5, .inl (kc, 12, .inl f0))]) [0, 1] rfl
  have hDc := hD.sub (ws' := [(ch, .inr (0, [.ref a1, .ref a2, .ref a3, .ref a4, .ref a5, .int 0, .int bt])), (a5, .inl (kc, 12, .inl f0))]) [0, 1] (by decide) rfl
  have hKc := hK.sub (tys' := [(kc, .int)]) [0] rfl
  refine zz_i (wr := []) (va_runV (As := [.int 0]) (rest := []) ⟨hx, hb, hml, hown, hts⟩ (c_take0 l dC dI ch a1 a2 a3 a4 a5 kc f0 bt H.size) (cwV 1 hts gd_c_clear_34_c_take0 rfl rfl rfl (by decide +kernel) ⟨Nat.le_of_ble_eq_true rfl, Nat.le_of_ble_eq_true rfl⟩) (preV hPc hKc hDc hE (ci := 0) (q0 := 0) rfl rfl) rfl rfl hl.1 rfl (lv_room (Nat.le_of_ble_eq_true rfl)) dX0_clear_7 ⟨Nat.le_of_ble_eq_true rfl, Nat.le_of_ble_eq_true rfl⟩) hK hP hD hS hA [0, 1] [] rfl rfl (by decide) (by decide) (fun u H locs hK hP hD hS => ?_)
  obtain ⟨f1⟩ := u
  have hP : va_P (dC, dI) vwCl [(ch, .inr (0, [.ref a1, .ref a2, .ref a3, .ref a4, .ref a5, .int 0, .int 0])), (a5, .inl (kc, 12, .inl f1))] H := hP
  have hD : va_D A [(ch, .inr (0, [.ref a1, .ref a2, .ref a3, .ref a4, .ref a5, .int 0, .int 0])), (a5, .inl (kc, 12, .inl f1))] := hD
  have hK : va_K (dC, dI) vwCl [(kc, .int)] s := hK
  refine W.widen (k := 0) (n := 0) (Nat.le_of_ble_eq_true rfl) (Nat.le_of_ble_eq_true rfl) ?_
  refine lv_pop hx hb dX0_clear_10 rfl ?_
  refine W.widen (k := 0) (n := 0) (Nat.le_of_ble_eq_true rfl) (Nat.le_of_ble_eq_true rfl) ?_
  exact W.vret hx hb hr (fun t ht hW => ⟨⟨f1, rfl, trivial, wEn_of (hP.sub [0, 1] rfl) (hK.sub [] rfl) (hD.sub [0, 1] (by decide) rfl) ht hW⟩, hS.F ht⟩) hS.2.2 dX0_clear_11
def ow_c_savedBy : List Cond := [.fieldLink RX0 27 "NearEnough$Changes" "count" "I"]
def vs_c_savedBy : List Cond := .code yX0_savedBy cX0_savedBy 4 (some .int) :: (ow_c_savedBy ++ (wsX00))
theorem vg_c_savedBy : vs_c_savedBy.all goodWord = true := by decide +kernel
set_option maxHeartbeats 4000000 in
set_option maxRecDepth 100000 in
theorem c_savedBy (l : Launch) (dC : Nat → ClassId) (dI : Nat → Nat → Nat) (ch : Nat) (a1 : Nat) (a2 : Nat) (a3 : Nat) (a4 : Nat) (a5 : Nat) (bt : Int32) (x : Int32) (sz : Nat) : Met l yX0_savedBy vs_c_savedBy ({ frames := 0, cells := 0, slots := 0, locals := 0 }) (va_Pc [.ref ch, .int x] (wSt dC dI [(ch, .inr (0, [.ref a1, .ref a2, .ref a3, .ref a4, .ref a5, .int 0, .int bt]))] [] sz)) (va_Qi (fun (r : Int32) (_ : Unit) => r = 0) (fun (u : Unit) => wEn dC dI (va_A [(ch, .inr (0, [.ref a1, .ref a2, .ref a3, .ref a4, .ref a5, .int 0, .int bt]))] sz) [(ch, .inr (0, [.ref a1, .ref a2, .ref a3, .ref a4, .ref a5, .int 0, .int bt]))] []) (va_A [(ch, .inr (0, [.ref a1, .ref a2, .ref a3, .ref a4, .ref a5, .int 0, .int bt]))] sz)) 0 0 (va_A [(ch, .inr (0, [.ref a1, .ref a2, .ref a3, .ref a4, .ref a5, .int 0, .int bt]))] sz) := by
  refine Met.ofW (cc := cX0_savedBy) (maxL := 4) (ret := (some .int)) (by decide) rfl ?_
  intro p e s m args below meth c s₁ B hml hv
  obtain ⟨rfl, hsz, hP, hK, hD0, hE⟩ := hv
  have hx := B.exec
  have hb := B.bytes
  have hr := B.returns
  have hts := atoms_spec (ws := vs_c_savedBy) B.pre
  have hown : s.vm.findClass RX0 = some m.cls := findClass_of_methodNamed B.named
  have hlocks := B.notSynchronized
  subst hsz
  have hD := hD0.self (sz := s.heap.size)
  generalize hAe : va_A [(ch, .inr (0, [.ref a1, .ref a2, .ref a3, .ref a4, .ref a5, .int 0, .int bt]))] s.heap.size = A at hD ⊢
  have hA : ∀ q : Nat, s.heap.size ≤ q → A q := fun q h => by rw [← hAe]; exact Or.inr h
  have hl := lv_entry ([.ref ch, .int x]) (n := 4) (Nat.le_of_ble_eq_true rfl)
  rw [lg_entry_eq]
  generalize (lg_sl ([.ref ch, .int x]) ++ List.replicate (4 - (lg_sl ([.ref ch, .int x])).length) Slot.unset).toArray = ls at hl ⊢
  have hl : lv_has ls 4 [(0, .ref ch), (1, .int x)] := hl
  refine zH (A := A) (ws := [(ch, .inr (0, [.ref a1, .ref a2, .ref a3, .ref a4, .ref a5, .int 0, .int bt]))]) (fun H hP hS => ?_) hP
  have ho := fun w (h : w ∈ ow_c_savedBy) => hts w (List.mem_cons_of_mem _ (List.mem_append_left _ h))
  have hin0 : ∀ w ∈ u_ws RX0 TX0 7, w ∈ vs_c_savedBy := fun w h => (List.mem_cons_of_mem _ (List.mem_append_right _ h))
  refine lv_iconst (v := 0) hx hb dX0_savedBy_0 (by decide) ?_
  refine lv_istore_n (lv' := [(2, .int 0), (0, .ref ch), (1, .int x)]) hx hb dX0_savedBy_1 rfl hl (by decide) rfl (fun ls hl => ?_)
  refine lv_iconst (v := 0) hx hb dX0_savedBy_2 (by decide) ?_
  refine lv_istore_n (lv' := [(3, .int 0), (2, .int 0), (0, .ref ch), (1, .int x)]) hx hb dX0_savedBy_3 rfl hl (by decide) rfl (fun ls hl => ?_)
  refine lv_iload_n hx hb dX0_savedBy_4 rfl (lv_at hl 0 rfl) ?_
  refine lv_aload_n hx hb dX0_savedBy_5 rfl (lv_at hl 2 rfl) ?_
  refine va_get (D := (dC, dI)) (ci := 0) (v := .int 0) (C := RX0) (T := TX0) (N := 7) hx hb hts hin0 hown hK hP 0 rfl rfl 5 (by decide) (ho (.fieldLink RX0 27 "NearEnough$Changes" "count" "I") (List.mem_of_getElem? (i := 0) rfl)) (fun _ h9 => h9) rfl dX0_savedBy_6 ?_
  refine lv_icmp_ge (tgt := 35) hx hb dX0_savedBy_9 (by decide) (fun _ => ?_) (fun cc => absurd (by decide) cc)
  refine lv_iload_n hx hb dX0_savedBy_35 rfl (lv_at hl 1 rfl) ?_
  refine W.widen (k := 0) (n := 0) (Nat.le_of_ble_eq_true rfl) (Nat.le_of_ble_eq_true rfl) ?_
  exact W.iret (v := 0) hx hb hr (fun t ht hW => ⟨⟨0, (), rfl, rfl, wEn_of (hP.sub [0] rfl) (hK.sub [] rfl) (hD.sub [0] (by decide) rfl) ht hW⟩, hS.F ht⟩) hS.2.2 dX0_savedBy_36
def ow_c_advance : List Cond := []
def vs_c_advance : List Cond := .code yX0_advance cX0_advance 5 (some .int) :: (ow_c_advance)
theorem vg_c_advance : vs_c_advance.all goodWord = true := by decide +kernel
set_option maxHeartbeats 4000000 in
set_option maxRecDepth 100000 in
theorem c_advance (l : Launch) (dC : Nat → ClassId) (dI : Nat → Nat → Nat) (ch : Nat) (a1 : Nat) (a2 : Nat) (a3 : Nat) (a4 : Nat) (a5 : Nat) (bt : Int32) (sz : Nat) : Met l yX0_advance vs_c_advance ({ frames := 0, cells := 0, slots := 0, locals := 0 }) (va_Pc [.ref ch, .int (-1)] (wSt dC dI [(ch, .inr (0, [.ref a1, .ref a2, .ref a3, .ref a4, .ref a5, .int 0, .int bt]))] [] sz)) (va_Qi (fun (r : Int32) (_ : Unit) => r = (-1)) (fun (u : Unit) => wEn dC dI (va_A [(ch, .inr (0, [.ref a1, .ref a2, .ref a3, .ref a4, .ref a5, .int 0, .int bt]))] sz) [(ch, .inr (0, [.ref a1, .ref a2, .ref a3, .ref a4, .ref a5, .int 0, .int bt]))] []) (va_A [(ch, .inr (0, [.ref a1, .ref a2, .ref a3, .ref a4, .ref a5, .int 0, .int bt]))] sz)) 0 0 (va_A [(ch, .inr (0, [.ref a1, .ref a2, .ref a3, .ref a4, .ref a5, .int 0, .int bt]))] sz) := by
  refine Met.ofW (cc := cX0_advance) (maxL := 5) (ret := (some .int)) (by decide) rfl ?_
  intro p e s m args below meth c s₁ B hml hv
  obtain ⟨rfl, hsz, hP, hK, hD0, hE⟩ := hv
  have hx := B.exec
  have hb := B.bytes
  have hr := B.returns
  have hts := atoms_spec (ws := vs_c_advance) B.pre
  have hown : s.vm.findClass RX0 = some m.cls := findClass_of_methodNamed B.named
  have hlocks := B.notSynchronized
  subst hsz
  have hD := hD0.self (sz := s.heap.size)
  generalize hAe : va_A [(ch, .inr (0, [.ref a1, .ref a2, .ref a3, .ref a4, .ref a5, .int 0, .int bt]))] s.heap.size = A at hD ⊢
  have hA : ∀ q : Nat, s.heap.size ≤ q → A q := fun q h => by rw [← hAe]; exact Or.inr h
  have hl := lv_entry ([.ref ch, .int (-1)]) (n := 5) (Nat.le_of_ble_eq_true rfl)
  rw [lg_entry_eq]
  generalize (lg_sl ([.ref ch, .int (-1)]) ++ List.replicate (5 - (lg_sl ([.ref ch, .int (-1)])).length) Slot.unset).toArray = ls at hl ⊢
  have hl : lv_has ls 5 [(0, .ref ch), (1, .int (-1))] := hl
  refine zH (A := A) (ws := [(ch, .inr (0, [.ref a1, .ref a2, .ref a3, .ref a4, .ref a5, .int 0, .int bt]))]) (fun H hP hS => ?_) hP
  have ho := fun w (h : w ∈ ow_c_advance) => hts w (List.mem_cons_of_mem _ h)
  refine lv_iload_n hx hb dX0_advance_0 rfl (lv_at hl 1 rfl) ?_
  refine lv_istore_n (lv' := [(2, .int (-1)), (0, .ref ch), (1, .int (-1))]) hx hb dX0_advance_1 rfl hl (by decide) rfl (fun ls hl => ?_)
  refine lv_iload_n hx hb dX0_advance_2 rfl (lv_at hl 0 rfl) ?_
  refine lv_if_lt (tgt := 75) hx hb dX0_advance_3 (by decide) (fun _ => ?_) (fun cc => absurd (by decide) cc)
  refine lv_iconst (v := (-1)) hx hb dX0_advance_75 (by decide) ?_
  refine W.widen (k := 0) (n := 0) (Nat.le_of_ble_eq_true rfl) (Nat.le_of_ble_eq_true rfl) ?_
  exact W.iret (v := (-1)) hx hb hr (fun t ht hW => ⟨⟨(-1), (), rfl, rfl, wEn_of (hP.sub [0] rfl) (hK.sub [] rfl) (hD.sub [0] (by decide) rfl) ht hW⟩, hS.F ht⟩) hS.2.2 dX0_advance_76
def ow_c_hasStep : List Cond := [.fieldLink RX3 37 "NearEnough$Program" "stepCount" "I"]
def vs_c_hasStep : List Cond := .code yX3_hasStep cX3_hasStep 2 (some .boolean) :: (ow_c_hasStep ++ (wsX30))
theorem vg_c_hasStep : vs_c_hasStep.all goodWord = true := by decide +kernel
set_option maxHeartbeats 4000000 in
set_option maxRecDepth 100000 in
theorem c_hasStep (l : Launch) (dC : Nat → ClassId) (dI : Nat → Nat → Nat) (td : Nat) (r1 : Nat) (r2 : Nat) (r3 : Nat) (r4 : Nat) (r5 : Nat) (x : Int32) (sz : Nat) : Met l yX3_hasStep vs_c_hasStep ({ frames := 0, cells := 0, slots := 0, locals := 0 }) (va_Pc [.ref td, .int x] (wSt dC dI [(td, .inr (3, [.ref r1, .ref r2, .ref r3, .ref r4, .ref r5, .int 0, .int 0, .int 0]))] [] sz)) (va_Qi (fun (r : Int32) (_ : Unit) => r = 0) (fun (u : Unit) => wEn dC dI (va_A [(td, .inr (3, [.ref r1, .ref r2, .ref r3, .ref r4, .ref r5, .int 0, .int 0, .int 0]))] sz) [(td, .inr (3, [.ref r1, .ref r2, .ref r3, .ref r4, .ref r5, .int 0, .int 0, .int 0]))] []) (va_A [(td, .inr (3, [.ref r1, .ref r2, .ref r3, .ref r4, .ref r5, .int 0, .int 0, .int 0]))] sz)) 0 0 (va_A [(td, .inr (3, [.ref r1, .ref r2, .ref r3, .ref r4, .ref r5, .int 0, .int 0, .int 0]))] sz) := by
  refine Met.ofW (cc := cX3_hasStep) (maxL := 2) (ret := (some .boolean)) (by decide) rfl ?_
  intro p e s m args below meth c s₁ B hml hv
  obtain ⟨rfl, hsz, hP, hK, hD0, hE⟩ := hv
  have hx := B.exec
  have hb := B.bytes
  have hr := B.returns
  have hts := atoms_spec (ws := vs_c_hasStep) B.pre
  have hown : s.vm.findClass RX3 = some m.cls := findClass_of_methodNamed B.named
  have hlocks := B.notSynchronized
  subst hsz
  have hD := hD0.self (sz := s.heap.size)
  generalize hAe : va_A [(td, .inr (3, [.ref r1, .ref r2, .ref r3, .ref r4, .ref r5, .int 0, .int 0, .int 0]))] s.heap.size = A at hD ⊢
  have hA : ∀ q : Nat, s.heap.size ≤ q → A q := fun q h => by rw [← hAe]; exact Or.inr h
  have hl := lv_entry ([.ref td, .int x]) (n := 2) (Nat.le_of_ble_eq_true rfl)
  rw [lg_entry_eq]
  generalize (lg_sl ([.ref td, .int x]) ++ List.replicate (2 - (lg_sl ([.ref td, .int x])).length) Slot.unset).toArray = ls at hl ⊢
  have hl : lv_has ls 2 [(0, .ref td), (1, .int x)] := hl
  refine zH (A := A) (ws := [(td, .inr (3, [.ref r1, .ref r2, .ref r3, .ref r4, .ref r5, .int 0, .int 0, .int 0]))]) (fun H hP hS => ?_) hP
  have ho := fun w (h : w ∈ ow_c_hasStep) => hts w (List.mem_cons_of_mem _ (List.mem_append_left _ h))
  have hin3 : ∀ w ∈ u_ws RX3 TX3 8, w ∈ vs_c_hasStep := fun w h => (List.mem_cons_of_mem _ (List.mem_append_right _ h))
  refine lv_iload_n hx hb dX3_hasStep_0 rfl (lv_at hl 1 rfl) ?_
  refine lv_if_lt (tgt := 16) hx hb dX3_hasStep_1 (by decide) (fun c_1 => ?_) (fun c_1 => ?_)
  · refine lv_iconst (v := 0) hx hb dX3_hasStep_16 (by decide) ?_
    refine W.widen (k := 0) (n := 0) (Nat.le_of_ble_eq_true rfl) (Nat.le_of_ble_eq_true rfl) ?_
    exact W.zret (v := 0) hx hb hr rfl (fun t ht hW => ⟨⟨0, (), rfl, rfl, wEn_of (hP.sub [0] rfl) (hK.sub [] rfl) (hD.sub [0] (by decide) rfl) ht hW⟩, hS.F ht⟩) hS.2.2 dX3_hasStep_17
  · refine lv_iload_n hx hb dX3_hasStep_4 rfl (lv_at hl 1 rfl) ?_
    refine lv_aload_n hx hb dX3_hasStep_5 rfl (lv_at hl 0 rfl) ?_
    refine va_get (D := (dC, dI)) (ci := 3) (v := .int 0) (C := RX3) (T := TX3) (N := 8) hx hb hts hin3 hown hK hP 0 rfl rfl 6 (by decide) (ho (.fieldLink RX3 37 "NearEnough$Program" "stepCount" "I") (List.mem_of_getElem? (i := 0) rfl)) (fun _ h9 => h9) rfl dX3_hasStep_6 ?_
    refine lv_icmp_ge (tgt := 16) hx hb dX3_hasStep_9 (by decide) (fun c_9 => ?_) (fun c_9 => absurd (Int32.not_le.mp c_9) c_1)
    refine lv_iconst (v := 0) hx hb dX3_hasStep_16 (by decide) ?_
    refine W.widen (k := 0) (n := 0) (Nat.le_of_ble_eq_true rfl) (Nat.le_of_ble_eq_true rfl) ?_
    exact W.zret (v := 0) hx hb hr rfl (fun t ht hW => ⟨⟨0, (), rfl, rfl, wEn_of (hP.sub [0] rfl) (hK.sub [] rfl) (hD.sub [0] (by decide) rfl) ht hW⟩, hS.F ht⟩) hS.2.2 dX3_hasStep_17
def ow_c_hasEnd : List Cond := [.fieldLink RX3 40 "NearEnough$Program" "endCount" "I"]
def vs_c_hasEnd : List Cond := .code yX3_hasEnd cX3_hasEnd 2 (some .boolean) :: (ow_c_hasEnd ++ (wsX30))
theorem vg_c_hasEnd : vs_c_hasEnd.all goodWord = true := by decide +kernel
set_option maxHeartbeats 4000000 in
set_option maxRecDepth 100000 in
theorem c_hasEnd (l : Launch) (dC : Nat → ClassId) (dI : Nat → Nat → Nat) (td : Nat) (r1 : Nat) (r2 : Nat) (r3 : Nat) (r4 : Nat) (r5 : Nat) (x : Int32) (sz : Nat) : Met l yX3_hasEnd vs_c_hasEnd ({ frames := 0, cells := 0, slots := 0, locals := 0 }) (va_Pc [.ref td, .int x] (wSt dC dI [(td, .inr (3, [.ref r1, .ref r2, .ref r3, .ref r4, .ref r5, .int 0, .int 0, .int 0]))] [] sz)) (va_Qi (fun (r : Int32) (_ : Unit) => r = 0) (fun (u : Unit) => wEn dC dI (va_A [(td, .inr (3, [.ref r1, .ref r2, .ref r3, .ref r4, .ref r5, .int 0, .int 0, .int 0]))] sz) [(td, .inr (3, [.ref r1, .ref r2, .ref r3, .ref r4, .ref r5, .int 0, .int 0, .int 0]))] []) (va_A [(td, .inr (3, [.ref r1, .ref r2, .ref r3, .ref r4, .ref r5, .int 0, .int 0, .int 0]))] sz)) 0 0 (va_A [(td, .inr (3, [.ref r1, .ref r2, .ref r3, .ref r4, .ref r5, .int 0, .int 0, .int 0]))] sz) := by
  refine Met.ofW (cc := cX3_hasEnd) (maxL := 2) (ret := (some .boolean)) (by decide) rfl ?_
  intro p e s m args below meth c s₁ B hml hv
  obtain ⟨rfl, hsz, hP, hK, hD0, hE⟩ := hv
  have hx := B.exec
  have hb := B.bytes
  have hr := B.returns
  have hts := atoms_spec (ws := vs_c_hasEnd) B.pre
  have hown : s.vm.findClass RX3 = some m.cls := findClass_of_methodNamed B.named
  have hlocks := B.notSynchronized
  subst hsz
  have hD := hD0.self (sz := s.heap.size)
  generalize hAe : va_A [(td, .inr (3, [.ref r1, .ref r2, .ref r3, .ref r4, .ref r5, .int 0, .int 0, .int 0]))] s.heap.size = A at hD ⊢
  have hA : ∀ q : Nat, s.heap.size ≤ q → A q := fun q h => by rw [← hAe]; exact Or.inr h
  have hl := lv_entry ([.ref td, .int x]) (n := 2) (Nat.le_of_ble_eq_true rfl)
  rw [lg_entry_eq]
  generalize (lg_sl ([.ref td, .int x]) ++ List.replicate (2 - (lg_sl ([.ref td, .int x])).length) Slot.unset).toArray = ls at hl ⊢
  have hl : lv_has ls 2 [(0, .ref td), (1, .int x)] := hl
  refine zH (A := A) (ws := [(td, .inr (3, [.ref r1, .ref r2, .ref r3, .ref r4, .ref r5, .int 0, .int 0, .int 0]))]) (fun H hP hS => ?_) hP
  have ho := fun w (h : w ∈ ow_c_hasEnd) => hts w (List.mem_cons_of_mem _ (List.mem_append_left _ h))
  have hin3 : ∀ w ∈ u_ws RX3 TX3 8, w ∈ vs_c_hasEnd := fun w h => (List.mem_cons_of_mem _ (List.mem_append_right _ h))
  refine lv_iload_n hx hb dX3_hasEnd_0 rfl (lv_at hl 1 rfl) ?_
  refine lv_if_lt (tgt := 16) hx hb dX3_hasEnd_1 (by decide) (fun c_1 => ?_) (fun c_1 => ?_)
  · refine lv_iconst (v := 0) hx hb dX3_hasEnd_16 (by decide) ?_
    refine W.widen (k := 0) (n := 0) (Nat.le_of_ble_eq_true rfl) (Nat.le_of_ble_eq_true rfl) ?_
    exact W.zret (v := 0) hx hb hr rfl (fun t ht hW => ⟨⟨0, (), rfl, rfl, wEn_of (hP.sub [0] rfl) (hK.sub [] rfl) (hD.sub [0] (by decide) rfl) ht hW⟩, hS.F ht⟩) hS.2.2 dX3_hasEnd_17
  · refine lv_iload_n hx hb dX3_hasEnd_4 rfl (lv_at hl 1 rfl) ?_
    refine lv_aload_n hx hb dX3_hasEnd_5 rfl (lv_at hl 0 rfl) ?_
    refine va_get (D := (dC, dI)) (ci := 3) (v := .int 0) (C := RX3) (T := TX3) (N := 8) hx hb hts hin3 hown hK hP 0 rfl rfl 7 (by decide) (ho (.fieldLink RX3 40 "NearEnough$Program" "endCount" "I") (List.mem_of_getElem? (i := 0) rfl)) (fun _ h9 => h9) rfl dX3_hasEnd_6 ?_
    refine lv_icmp_ge (tgt := 16) hx hb dX3_hasEnd_9 (by decide) (fun c_9 => ?_) (fun c_9 => absurd (Int32.not_le.mp c_9) c_1)
    refine lv_iconst (v := 0) hx hb dX3_hasEnd_16 (by decide) ?_
    refine W.widen (k := 0) (n := 0) (Nat.le_of_ble_eq_true rfl) (Nat.le_of_ble_eq_true rfl) ?_
    exact W.zret (v := 0) hx hb hr rfl (fun t ht hW => ⟨⟨0, (), rfl, rfl, wEn_of (hP.sub [0] rfl) (hK.sub [] rfl) (hD.sub [0] (by decide) rfl) ht hW⟩, hS.F ht⟩) hS.2.2 dX3_hasEnd_17
def ow_c_has : List Cond := [.fieldLink RX7 19 "NearEnough$Sheets" "count" "I"]
def vs_c_has : List Cond := .code yX7_has cX7_has 2 (some .boolean) :: (ow_c_has ++ (wsX70))
theorem vg_c_has : vs_c_has.all goodWord = true := by decide +kernel
set_option maxHeartbeats 4000000 in
set_option maxRecDepth 100000 in
theorem c_has (l : Launch) (dC : Nat → ClassId) (dI : Nat → Nat → Nat) (sh : Nat) (sn : Nat) (sk : Nat) (x : Int32) (sz : Nat) : Met l yX7_has vs_c_has ({ frames := 0, cells := 0, slots := 0, locals := 0 }) (va_Pc [.ref sh, .int x] (wSt dC dI [(sh, .inr (7, [.ref sn, .ref sk, .int 0]))] [] sz)) (va_Qi (fun (r : Int32) (_ : Unit) => r = 0) (fun (u : Unit) => wEn dC dI (va_A [(sh, .inr (7, [.ref sn, .ref sk, .int 0]))] sz) [(sh, .inr (7, [.ref sn, .ref sk, .int 0]))] []) (va_A [(sh, .inr (7, [.ref sn, .ref sk, .int 0]))] sz)) 0 0 (va_A [(sh, .inr (7, [.ref sn, .ref sk, .int 0]))] sz) := by
  refine Met.ofW (cc := cX7_has) (maxL := 2) (ret := (some .boolean)) (by decide) rfl ?_
  intro p e s m args below meth c s₁ B hml hv
  obtain ⟨rfl, hsz, hP, hK, hD0, hE⟩ := hv
  have hx := B.exec
  have hb := B.bytes
  have hr := B.returns
  have hts := atoms_spec (ws := vs_c_has) B.pre
  have hown : s.vm.findClass RX7 = some m.cls := findClass_of_methodNamed B.named
  have hlocks := B.notSynchronized
  subst hsz
  have hD := hD0.self (sz := s.heap.size)
  generalize hAe : va_A [(sh, .inr (7, [.ref sn, .ref sk, .int 0]))] s.heap.size = A at hD ⊢
  have hA : ∀ q : Nat, s.heap.size ≤ q → A q := fun q h => by rw [← hAe]; exact Or.inr h
  have hl := lv_entry ([.ref sh, .int x]) (n := 2) (Nat.le_of_ble_eq_true rfl)
  rw [lg_entry_eq]
  generalize (lg_sl ([.ref sh, .int x]) ++ List.replicate (2 - (lg_sl ([.ref sh, .int x])).length) Slot.unset).toArray = ls at hl ⊢
  have hl : lv_has ls 2 [(0, .ref sh), (1, .int x)] := hl
  refine zH (A := A) (ws := [(sh, .inr (7, [.ref sn, .ref sk, .int 0]))]) (fun H hP hS => ?_) hP
  have ho := fun w (h : w ∈ ow_c_has) => hts w (List.mem_cons_of_mem _ (List.mem_append_left _ h))
  have hin7 : ∀ w ∈ u_ws RX7 TX7 3, w ∈ vs_c_has := fun w h => (List.mem_cons_of_mem _ (List.mem_append_right _ h))
  refine lv_iload_n hx hb dX7_has_0 rfl (lv_at hl 1 rfl) ?_
  refine lv_if_lt (tgt := 16) hx hb dX7_has_1 (by decide) (fun c_1 => ?_) (fun c_1 => ?_)
  · refine lv_iconst (v := 0) hx hb dX7_has_16 (by decide) ?_
    refine W.widen (k := 0) (n := 0) (Nat.le_of_ble_eq_true rfl) (Nat.le_of_ble_eq_true rfl) ?_
    exact W.zret (v := 0) hx hb hr rfl (fun t ht hW => ⟨⟨0, (), rfl, rfl, wEn_of (hP.sub [0] rfl) (hK.sub [] rfl) (hD.sub [0] (by decide) rfl) ht hW⟩, hS.F ht⟩) hS.2.2 dX7_has_17
  · refine lv_iload_n hx hb dX7_has_4 rfl (lv_at hl 1 rfl) ?_
    refine lv_aload_n hx hb dX7_has_5 rfl (lv_at hl 0 rfl) ?_
    refine va_get (D := (dC, dI)) (ci := 7) (v := .int 0) (C := RX7) (T := TX7) (N := 3) hx hb hts hin7 hown hK hP 0 rfl rfl 2 (by decide) (ho (.fieldLink RX7 19 "NearEnough$Sheets" "count" "I") (List.mem_of_getElem? (i := 0) rfl)) (fun _ h9 => h9) rfl dX7_has_6 ?_
    refine lv_icmp_ge (tgt := 16) hx hb dX7_has_9 (by decide) (fun c_9 => ?_) (fun c_9 => absurd (Int32.not_le.mp c_9) c_1)
    refine lv_iconst (v := 0) hx hb dX7_has_16 (by decide) ?_
    refine W.widen (k := 0) (n := 0) (Nat.le_of_ble_eq_true rfl) (Nat.le_of_ble_eq_true rfl) ?_
    exact W.zret (v := 0) hx hb hr rfl (fun t ht hW => ⟨⟨0, (), rfl, rfl, wEn_of (hP.sub [0] rfl) (hK.sub [] rfl) (hD.sub [0] (by decide) rfl) ht hW⟩, hS.F ht⟩) hS.2.2 dX7_has_17
def ow_c_lay : List Cond := [.fieldLink RX7 23 "NearEnough$Program" "rowCount" "I"]
def vs_c_lay : List Cond := .code yX7_lay cX7_lay 7 none :: (ow_c_lay ++ (wsX30))
theorem vg_c_lay : vs_c_lay.all goodWord = true := by decide +kernel
set_option maxHeartbeats 4000000 in
set_option maxRecDepth 100000 in
theorem c_lay (l : Launch) (dC : Nat → ClassId) (dI : Nat → Nat → Nat) (sh : Nat) (sn : Nat) (sk : Nat) (td : Nat) (r1 : Nat) (r2 : Nat) (r3 : Nat) (r4 : Nat) (r5 : Nat) (sz : Nat) : Met l yX7_lay vs_c_lay ({ frames := 0, cells := 0, slots := 0, locals := 0 }) (va_Pc [.ref sh, .int 0, .int 0, .ref td] (wSt dC dI [(sh, .inr (7, [.ref sn, .ref sk, .int 0])), (td, .inr (3, [.ref r1, .ref r2, .ref r3, .ref r4, .ref r5, .int 0, .int 0, .int 0]))] [] sz)) (va_Qv (fun (_ : Unit) => True) (fun (u : Unit) => wEn dC dI (va_A [(sh, .inr (7, [.ref sn, .ref sk, .int 0])), (td, .inr (3, [.ref r1, .ref r2, .ref r3, .ref r4, .ref r5, .int 0, .int 0, .int 0]))] sz) [(sh, .inr (7, [.ref sn, .ref sk, .int 0])), (td, .inr (3, [.ref r1, .ref r2, .ref r3, .ref r4, .ref r5, .int 0, .int 0, .int 0]))] []) (va_A [(sh, .inr (7, [.ref sn, .ref sk, .int 0])), (td, .inr (3, [.ref r1, .ref r2, .ref r3, .ref r4, .ref r5, .int 0, .int 0, .int 0]))] sz)) 0 0 (va_A [(sh, .inr (7, [.ref sn, .ref sk, .int 0])), (td, .inr (3, [.ref r1, .ref r2, .ref r3, .ref r4, .ref r5, .int 0, .int 0, .int 0]))] sz) := by
  refine Met.ofW (cc := cX7_lay) (maxL := 7) (ret := none) (by decide) rfl ?_
  intro p e s m args below meth c s₁ B hml hv
  obtain ⟨rfl, hsz, hP, hK, hD0, hE⟩ := hv
  have hx := B.exec
  have hb := B.bytes
  have hr := B.returns
  have hts := atoms_spec (ws := vs_c_lay) B.pre
  have hown : s.vm.findClass RX7 = some m.cls := findClass_of_methodNamed B.named
  have hlocks := B.notSynchronized
  subst hsz
  have hD := hD0.self (sz := s.heap.size)
  generalize hAe : va_A [(sh, .inr (7, [.ref sn, .ref sk, .int 0])), (td, .inr (3, [.ref r1, .ref r2, .ref r3, .ref r4, .ref r5, .int 0, .int 0, .int 0]))] s.heap.size = A at hD ⊢
  have hA : ∀ q : Nat, s.heap.size ≤ q → A q := fun q h => by rw [← hAe]; exact Or.inr h
  have hl := lv_entry ([.ref sh, .int 0, .int 0, .ref td]) (n := 7) (Nat.le_of_ble_eq_true rfl)
  rw [lg_entry_eq]
  generalize (lg_sl ([.ref sh, .int 0, .int 0, .ref td]) ++ List.replicate (7 - (lg_sl ([.ref sh, .int 0, .int 0, .ref td])).length) Slot.unset).toArray = ls at hl ⊢
  have hl : lv_has ls 7 [(0, .ref sh), (1, .int 0), (2, .int 0), (3, .ref td)] := hl
  refine zH (A := A) (ws := [(sh, .inr (7, [.ref sn, .ref sk, .int 0])), (td, .inr (3, [.ref r1, .ref r2, .ref r3, .ref r4, .ref r5, .int 0, .int 0, .int 0]))]) (fun H hP hS => ?_) hP
  have ho := fun w (h : w ∈ ow_c_lay) => hts w (List.mem_cons_of_mem _ (List.mem_append_left _ h))
  have hin3 : ∀ w ∈ u_ws RX3 TX3 8, w ∈ vs_c_lay := fun w h => (List.mem_cons_of_mem _ (List.mem_append_right _ h))
  refine lv_iconst (v := 0) hx hb dX7_lay_0 (by decide) ?_
  refine lv_istore (lv' := [(4, .int 0), (0, .ref sh), (1, .int 0), (2, .int 0), (3, .ref td)]) hx hb dX7_lay_1 hl (by decide) rfl (fun ls hl => ?_)
  refine lv_iload hx hb dX7_lay_3 (lv_at hl 0 rfl) ?_
  refine lv_aload_n hx hb dX7_lay_5 rfl (lv_at hl 4 rfl) ?_
  refine va_get (D := (dC, dI)) (ci := 3) (v := .int 0) (C := RX3) (T := TX3) (N := 8) hx hb hts hin3 hown hK hP 1 rfl rfl 5 (by decide) (ho (.fieldLink RX7 23 "NearEnough$Program" "rowCount" "I") (List.mem_of_getElem? (i := 0) rfl)) (fun _ h9 => h9) rfl dX7_lay_6 ?_
  refine lv_icmp_ge (tgt := 90) hx hb dX7_lay_9 (by decide) (fun _ => ?_) (fun cc => absurd (by decide) cc)
  refine W.widen (k := 0) (n := 0) (Nat.le_of_ble_eq_true rfl) (Nat.le_of_ble_eq_true rfl) ?_
  exact W.vret hx hb hr (fun t ht hW => ⟨⟨(), rfl, trivial, wEn_of (hP.sub [0, 1] rfl) (hK.sub [] rfl) (hD.sub [0, 1] (by decide) rfl) ht hW⟩, hS.F ht⟩) hS.2.2 dX7_lay_90
def ow_c_workPlain : List Cond := []
def vs_c_workPlain : List Cond := .code yX10_workPlain cX10_workPlain 5 none :: (ow_c_workPlain)
theorem vg_c_workPlain : vs_c_workPlain.all goodWord = true := by decide +kernel
set_option maxHeartbeats 4000000 in
set_option maxRecDepth 100000 in
theorem c_workPlain (l : Launch) (dC : Nat → ClassId) (dI : Nat → Nat → Nat) (wk : Nat) (td : Nat) (sh : Nat) (ch : Nat) (v1 : Nat) (v2 : Nat) (sz : Nat) : Met l yX10_workPlain vs_c_workPlain ({ frames := 0, cells := 0, slots := 0, locals := 0 }) (va_Pc [.ref wk, .int 0, .int (-1)] (wSt dC dI [(wk, .inr (10, [.ref td, .ref sh, .ref ch, .ref v1, .ref v2]))] [] sz)) (va_Qv (fun (_ : Unit) => True) (fun (u : Unit) => wEn dC dI (va_A [(wk, .inr (10, [.ref td, .ref sh, .ref ch, .ref v1, .ref v2]))] sz) [(wk, .inr (10, [.ref td, .ref sh, .ref ch, .ref v1, .ref v2]))] []) (va_A [(wk, .inr (10, [.ref td, .ref sh, .ref ch, .ref v1, .ref v2]))] sz)) 0 0 (va_A [(wk, .inr (10, [.ref td, .ref sh, .ref ch, .ref v1, .ref v2]))] sz) := by
  refine Met.ofW (cc := cX10_workPlain) (maxL := 5) (ret := none) (by decide) rfl ?_
  intro p e s m args below meth c s₁ B hml hv
  obtain ⟨rfl, hsz, hP, hK, hD0, hE⟩ := hv
  have hx := B.exec
  have hb := B.bytes
  have hr := B.returns
  have hts := atoms_spec (ws := vs_c_workPlain) B.pre
  have hown : s.vm.findClass RX10 = some m.cls := findClass_of_methodNamed B.named
  have hlocks := B.notSynchronized
  subst hsz
  have hD := hD0.self (sz := s.heap.size)
  generalize hAe : va_A [(wk, .inr (10, [.ref td, .ref sh, .ref ch, .ref v1, .ref v2]))] s.heap.size = A at hD ⊢
  have hA : ∀ q : Nat, s.heap.size ≤ q → A q := fun q h => by rw [← hAe]; exact Or.inr h
  have hl := lv_entry ([.ref wk, .int 0, .int (-1)]) (n := 5) (Nat.le_of_ble_eq_true rfl)
  rw [lg_entry_eq]
  generalize (lg_sl ([.ref wk, .int 0, .int (-1)]) ++ List.replicate (5 - (lg_sl ([.ref wk, .int 0, .int (-1)])).length) Slot.unset).toArray = ls at hl ⊢
  have hl : lv_has ls 5 [(0, .ref wk), (1, .int 0), (2, .int (-1))] := hl
  refine zH (A := A) (ws := [(wk, .inr (10, [.ref td, .ref sh, .ref ch, .ref v1, .ref v2]))]) (fun H hP hS => ?_) hP
  have ho := fun w (h : w ∈ ow_c_workPlain) => hts w (List.mem_cons_of_mem _ h)
  refine lv_iload_n hx hb dX10_workPlain_0 rfl (lv_at hl 1 rfl) ?_
  refine lv_bipush (v := 12) hx hb dX10_workPlain_1 (by decide) ?_
  refine lv_imul hx hb dX10_workPlain_3 ?_
  refine zi (v := 0) (by decide) ?_
  refine lv_istore_n (lv' := [(3, .int 0), (0, .ref wk), (1, .int 0), (2, .int (-1))]) hx hb dX10_workPlain_4 rfl hl (by decide) rfl (fun ls hl => ?_)
  refine lv_iconst (v := 0) hx hb dX10_workPlain_5 (by decide) ?_
  refine lv_istore (lv' := [(4, .int 0), (3, .int 0), (0, .ref wk), (1, .int 0), (2, .int (-1))]) hx hb dX10_workPlain_6 hl (by decide) rfl (fun ls hl => ?_)
  refine lv_iload hx hb dX10_workPlain_8 (lv_at hl 0 rfl) ?_
  refine lv_iload_n hx hb dX10_workPlain_10 rfl (lv_at hl 4 rfl) ?_
  refine lv_icmp_gt (tgt := 50) hx hb dX10_workPlain_11 (by decide) (fun _ => ?_) (fun cc => absurd (by decide) cc)
  refine W.widen (k := 0) (n := 0) (Nat.le_of_ble_eq_true rfl) (Nat.le_of_ble_eq_true rfl) ?_
  exact W.vret hx hb hr (fun t ht hW => ⟨⟨(), rfl, trivial, wEn_of (hP.sub [0] rfl) (hK.sub [] rfl) (hD.sub [0] (by decide) rfl) ht hW⟩, hS.F ht⟩) hS.2.2 dX10_workPlain_50
def ow_c_show : List Cond := [.fieldLink RX8 36 "NearEnough$Shown" "told" "LNearEnough$Program;", .fieldLink RX8 63 "NearEnough$Program" "stepCount" "I"]
def vs_c_show : List Cond := .code yX8_show cX8_show 5 (some .int) :: (ow_c_show ++ (wsX30 ++ (wsX80)))
theorem vg_c_show : vs_c_show.all goodWord = true := by decide +kernel
set_option maxHeartbeats 4000000 in
set_option maxRecDepth 100000 in
theorem c_show (l : Launch) (dC : Nat → ClassId) (dI : Nat → Nat → Nat) (sw : Nat) (ch : Nat) (w1 : Nat) (w2 : Nat) (td : Nat) (r1 : Nat) (r2 : Nat) (r3 : Nat) (r4 : Nat) (r5 : Nat) (ww : Int32) (wl : Int32) (wt : Int32) (sz : Nat) : Met l yX8_show vs_c_show ({ frames := 0, cells := 0, slots := 0, locals := 0 }) (va_Pc [.ref sw, .int 0] (wSt dC dI [(sw, .inr (8, [.ref td, .ref ch, .ref w1, .ref w2, .long 0, .long 0, .int ww, .int wl, .int wt])), (td, .inr (3, [.ref r1, .ref r2, .ref r3, .ref r4, .ref r5, .int 0, .int 0, .int 0]))] [] sz)) (va_Qi (fun (r : Int32) (_ : Unit) => r = (-1)) (fun (u : Unit) => wEn dC dI (va_A [(sw, .inr (8, [.ref td, .ref ch, .ref w1, .ref w2, .long 0, .long 0, .int ww, .int wl, .int wt])), (td, .inr (3, [.ref r1, .ref r2, .ref r3, .ref r4, .ref r5, .int 0, .int 0, .int 0]))] sz) [(sw, .inr (8, [.ref td, .ref ch, .ref w1, .ref w2, .long 0, .long 0, .int ww, .int wl, .int wt])), (td, .inr (3, [.ref r1, .ref r2, .ref r3, .ref r4, .ref r5, .int 0, .int 0, .int 0]))] []) (va_A [(sw, .inr (8, [.ref td, .ref ch, .ref w1, .ref w2, .long 0, .long 0, .int ww, .int wl, .int wt])), (td, .inr (3, [.ref r1, .ref r2, .ref r3, .ref r4, .ref r5, .int 0, .int 0, .int 0]))] sz)) 0 0 (va_A [(sw, .inr (8, [.ref td, .ref ch, .ref w1, .ref w2, .long 0, .long 0, .int ww, .int wl, .int wt])), (td, .inr (3, [.ref r1, .ref r2, .ref r3, .ref r4, .ref r5, .int 0, .int 0, .int 0]))] sz) := by
  refine Met.ofW (cc := cX8_show) (maxL := 5) (ret := (some .int)) (by decide) rfl ?_
  intro p e s m args below meth c s₁ B hml hv
  obtain ⟨rfl, hsz, hP, hK, hD0, hE⟩ := hv
  have hx := B.exec
  have hb := B.bytes
  have hr := B.returns
  have hts := atoms_spec (ws := vs_c_show) B.pre
  have hown : s.vm.findClass RX8 = some m.cls := findClass_of_methodNamed B.named
  have hlocks := B.notSynchronized
  subst hsz
  have hD := hD0.self (sz := s.heap.size)
  generalize hAe : va_A [(sw, .inr (8, [.ref td, .ref ch, .ref w1, .ref w2, .long 0, .long 0, .int ww, .int wl, .int wt])), (td, .inr (3, [.ref r1, .ref r2, .ref r3, .ref r4, .ref r5, .int 0, .int 0, .int 0]))] s.heap.size = A at hD ⊢
  have hA : ∀ q : Nat, s.heap.size ≤ q → A q := fun q h => by rw [← hAe]; exact Or.inr h
  have hl := lv_entry ([.ref sw, .int 0]) (n := 5) (Nat.le_of_ble_eq_true rfl)
  rw [lg_entry_eq]
  generalize (lg_sl ([.ref sw, .int 0]) ++ List.replicate (5 - (lg_sl ([.ref sw, .int 0])).length) Slot.unset).toArray = ls at hl ⊢
  have hl : lv_has ls 5 [(0, .ref sw), (1, .int 0)] := hl
  refine zH (A := A) (ws := [(sw, .inr (8, [.ref td, .ref ch, .ref w1, .ref w2, .long 0, .long 0, .int ww, .int wl, .int wt])), (td, .inr (3, [.ref r1, .ref r2, .ref r3, .ref r4, .ref r5, .int 0, .int 0, .int 0]))]) (fun H hP hS => ?_) hP
  have ho := fun w (h : w ∈ ow_c_show) => hts w (List.mem_cons_of_mem _ (List.mem_append_left _ h))
  have hin3 : ∀ w ∈ u_ws RX3 TX3 8, w ∈ vs_c_show := fun w h => (List.mem_cons_of_mem _ (List.mem_append_right _ (List.mem_append_left _ h)))
  have hin8 : ∀ w ∈ u_ws RX8 TX8 9, w ∈ vs_c_show := fun w h => (List.mem_cons_of_mem _ (List.mem_append_right _ (List.mem_append_right _ h)))
  refine lv_iload_n hx hb dX8_show_0 rfl (lv_at hl 1 rfl) ?_
  refine lv_istore_n (lv' := [(2, .int 0), (0, .ref sw), (1, .int 0)]) hx hb dX8_show_1 rfl hl (by decide) rfl (fun ls hl => ?_)
  refine lv_iload_n hx hb dX8_show_2 rfl (lv_at hl 0 rfl) ?_
  refine lv_aload_n hx hb dX8_show_3 rfl (lv_at hl 1 rfl) ?_
  refine va_get (D := (dC, dI)) (ci := 8) (v := .ref td) (C := RX8) (T := TX8) (N := 9) hx hb hts hin8 hown hK hP 0 rfl rfl 0 (by decide) (ho (.fieldLink RX8 36 "NearEnough$Shown" "told" "LNearEnough$Program;") (List.mem_of_getElem? (i := 0) rfl)) (fun _ h9 => h9) rfl dX8_show_4 ?_
  refine va_get (D := (dC, dI)) (ci := 3) (v := .int 0) (C := RX3) (T := TX3) (N := 8) hx hb hts hin3 hown hK hP 1 rfl rfl 6 (by decide) (ho (.fieldLink RX8 63 "NearEnough$Program" "stepCount" "I") (List.mem_of_getElem? (i := 1) rfl)) (fun _ h9 => h9) rfl dX8_show_7 ?_
  refine lv_icmp_ge (tgt := 163) hx hb dX8_show_10 (by decide) (fun _ => ?_) (fun cc => absurd (by decide) cc)
  refine lv_iconst (v := (-1)) hx hb dX8_show_163 (by decide) ?_
  refine W.widen (k := 0) (n := 0) (Nat.le_of_ble_eq_true rfl) (Nat.le_of_ble_eq_true rfl) ?_
  exact W.iret (v := (-1)) hx hb hr (fun t ht hW => ⟨⟨(-1), (), rfl, rfl, wEn_of (hP.sub [0, 1] rfl) (hK.sub [] rfl) (hD.sub [0, 1] (by decide) rfl) ht hW⟩, hS.F ht⟩) hS.2.2 dX8_show_164
def ow_c_restart : List Cond := [.fieldLink RX8 40 "NearEnough$Shown" "changes" "LNearEnough$Changes;", .fieldLink RX8 25 "NearEnough$Shown" "walking" "Z"]
def vs_c_restart : List Cond := .code yX8_restart cX8_restart 1 none :: (ow_c_restart ++ (([.methodLink RX8 44 yX0_take, .instanceMethod yX0_take, .selects RX0 yX0_take yX0_take, .initialized RX0] : List Cond) ++ (vs_c_take0 ++ (wsX80))))
theorem vg_c_restart : vs_c_restart.all goodWord = true := by decide +kernel
theorem gd_c_restart_44_c_take0 : GoodIn vs_c_restart (wsV RX8 44 RX0 yX0_take vs_c_take0) := goodIn_app (goodIn_sub (fun w h => (List.mem_cons_of_mem _ (List.mem_append_right _ (List.mem_append_left _ h)))) (by decide +kernel)) (goodIn_sub (fun w h => (List.mem_cons_of_mem _ (List.mem_append_right _ (List.mem_append_right _ (List.mem_append_left _ h))))) vg_c_take0)
set_option maxHeartbeats 4000000 in
set_option maxRecDepth 100000 in
theorem c_restart (l : Launch) (dC : Nat → ClassId) (dI : Nat → Nat → Nat) (sw : Nat) (ch : Nat) (w1 : Nat) (w2 : Nat) (td : Nat) (a1 : Nat) (a2 : Nat) (a3 : Nat) (a4 : Nat) (a5 : Nat) (kc : ClassId) (f0 : Nat → Int32) (ww : Int32) (wl : Int32) (wt : Int32) (bt : Int32) (sz : Nat) : Met l yX8_restart vs_c_restart ({ frames := 2, cells := 0, slots := 0, locals := 45 }) (va_Pc [.ref sw] (wSt dC dI [(sw, .inr (8, [.ref td, .ref ch, .ref w1, .ref w2, .long 0, .long 0, .int ww, .int wl, .int wt])), (ch, .inr (0, [.ref a1, .ref a2, .ref a3, .ref a4, .ref a5, .int 0, .int bt])), (a5, .inl (kc, 12, .inl f0))] [(kc, .int)] sz)) (va_Qv (fun (_ : (Nat → Int32)) => True) (fun (u : (Nat → Int32)) => wEn dC dI (va_A [(sw, .inr (8, [.ref td, .ref ch, .ref w1, .ref w2, .long 0, .long 0, .int ww, .int wl, .int wt])), (ch, .inr (0, [.ref a1, .ref a2, .ref a3, .ref a4, .ref a5, .int 0, .int bt])), (a5, .inl (kc, 12, .inl f0))] sz) [(sw, .inr (8, [.ref td, .ref ch, .ref w1, .ref w2, .long 0, .long 0, .int 0, .int wl, .int wt])), (ch, .inr (0, [.ref a1, .ref a2, .ref a3, .ref a4, .ref a5, .int 0, .int 0])), (a5, .inl (kc, 12, .inl u))] []) (va_A [(sw, .inr (8, [.ref td, .ref ch, .ref w1, .ref w2, .long 0, .long 0, .int ww, .int wl, .int wt])), (ch, .inr (0, [.ref a1, .ref a2, .ref a3, .ref a4, .ref a5, .int 0, .int bt])), (a5, .inl (kc, 12, .inl f0))] sz)) 0 0 (va_A [(sw, .inr (8, [.ref td, .ref ch, .ref w1, .ref w2, .long 0, .long 0, .int ww, .int wl, .int wt])), (ch, .inr (0, [.ref a1, .ref a2, .ref a3, .ref a4, .ref a5, .int 0, .int bt])), (a5, .inl (kc, 12, .inl f0))] sz) := by
  refine Met.ofW (cc := cX8_restart) (maxL := 1) (ret := none) (by decide) rfl ?_
  intro p e s m args below meth c s₁ B hml hv
  obtain ⟨rfl, hsz, hP, hK, hD0, hE⟩ := hv
  have hx := B.exec
  have hb := B.bytes
  have hr := B.returns
  have hts := atoms_spec (ws := vs_c_restart) B.pre
  have hown : s.vm.findClass RX8 = some m.cls := findClass_of_methodNamed B.named
  have hlocks := B.notSynchronized
  subst hsz
  have hD := hD0.self (sz := s.heap.size)
  generalize hAe : va_A [(sw, .inr (8, [.ref td, .ref ch, .ref w1, .ref w2, .long 0, .long 0, .int ww, .int wl, .int wt])), (ch, .inr (0, [.ref a1, .ref a2, .ref a3, .ref a4, .ref a5, .int 0, .int bt])), (a5, .inl (kc, 12, .inl f0))] s.heap.size = A at hD ⊢
  have hA : ∀ q : Nat, s.heap.size ≤ q → A q := fun q h => by rw [← hAe]; exact Or.inr h
  have hl := lv_entry ([.ref sw]) (n := 1) (Nat.le_of_ble_eq_true rfl)
  rw [lg_entry_eq]
  generalize (lg_sl ([.ref sw]) ++ List.replicate (1 - (lg_sl ([.ref sw])).length) Slot.unset).toArray = ls at hl ⊢
  have hl : lv_has ls 1 [(0, .ref sw)] := hl
  refine zH (A := A) (ws := [(sw, .inr (8, [.ref td, .ref ch, .ref w1, .ref w2, .long 0, .long 0, .int ww, .int wl, .int wt])), (ch, .inr (0, [.ref a1, .ref a2, .ref a3, .ref a4, .ref a5, .int 0, .int bt])), (a5, .inl (kc, 12, .inl f0))]) (fun H hP hS => ?_) hP
  have ho := fun w (h : w ∈ ow_c_restart) => hts w (List.mem_cons_of_mem _ (List.mem_append_left _ h))
  have hin8 : ∀ w ∈ u_ws RX8 TX8 9, w ∈ vs_c_restart := fun w h => (List.mem_cons_of_mem _ (List.mem_append_right _ (List.mem_append_right _ (List.mem_append_right _ h))))
  refine lv_aload_n hx hb dX8_restart_0 rfl (lv_at hl 0 rfl) ?_
  refine va_get (D := (dC, dI)) (ci := 8) (v := .ref ch) (C := RX8) (T := TX8) (N := 9) hx hb hts hin8 hown hK hP 0 rfl rfl 1 (by decide) (ho (.fieldLink RX8 40 "NearEnough$Shown" "changes" "LNearEnough$Changes;") (List.mem_of_getElem? (i := 0) rfl)) (fun _ h9 => h9) rfl dX8_restart_1 ?_
  refine lv_iconst (v := 0) hx hb dX8_restart_4 (by decide) ?_
  have hPc := hP.sub (ws' := [(ch, .inr (0, [.ref a1, .ref a2, .ref a3, .ref a4, .ref a5, .int 0, .int bt])), (a5, .inl (kc, 12, .inl f0))]) [1, 2] rfl
  have hDc := hD.sub (ws' := [(ch, .inr (0, [.ref a1, .ref a2, .ref a3, .ref a4, .ref a5, .int 0, .int bt])), (a5, .inl (kc, 12, .inl f0))]) [1, 2] (by decide) rfl
  have hKc := hK.sub (tys' := [(kc, .int)]) [0] rfl
  refine zz_i (wr := [(sw, .inr (8, [.ref td, .ref ch, .ref w1, .ref w2, .long 0, .long 0, .int ww, .int wl, .int wt]))]) (va_runV (As := [.int 0]) (rest := []) ⟨hx, hb, hml, hown, hts⟩ (c_take0 l dC dI ch a1 a2 a3 a4 a5 kc f0 bt H.size) (cwV 1 hts gd_c_restart_44_c_take0 rfl rfl rfl (by decide +kernel) ⟨Nat.le_of_ble_eq_true rfl, Nat.le_of_ble_eq_true rfl⟩) (preV hPc hKc hDc hE (ci := 0) (q0 := 0) rfl rfl) rfl rfl hl.1 rfl (lv_room (Nat.le_of_ble_eq_true rfl)) dX8_restart_5 ⟨Nat.le_of_ble_eq_true rfl, Nat.le_of_ble_eq_true rfl⟩) hK hP hD hS hA [1, 2] [0] rfl rfl (by decide) (by decide) (fun u H locs hK hP hD hS => ?_)
  obtain ⟨f1⟩ := u
  have hP : va_P (dC, dI) vwCl [(sw, .inr (8, [.ref td, .ref ch, .ref w1, .ref w2, .long 0, .long 0, .int ww, .int wl, .int wt])), (ch, .inr (0, [.ref a1, .ref a2, .ref a3, .ref a4, .ref a5, .int 0, .int 0])), (a5, .inl (kc, 12, .inl f1))] H := hP
  have hD : va_D A [(sw, .inr (8, [.ref td, .ref ch, .ref w1, .ref w2, .long 0, .long 0, .int ww, .int wl, .int wt])), (ch, .inr (0, [.ref a1, .ref a2, .ref a3, .ref a4, .ref a5, .int 0, .int 0])), (a5, .inl (kc, 12, .inl f1))] := hD
  have hK : va_K (dC, dI) vwCl [(kc, .int)] s := hK
  refine W.widen (k := 0) (n := 0) (Nat.le_of_ble_eq_true rfl) (Nat.le_of_ble_eq_true rfl) ?_
  refine lv_pop hx hb dX8_restart_8 rfl ?_
  refine lv_aload_n hx hb dX8_restart_9 rfl (lv_at hl 0 rfl) ?_
  refine lv_iconst (v := 0) hx hb dX8_restart_10 (by decide) ?_
  refine va_put (D := (dC, dI)) (ci := 8) (v := .int 0) (ty := tyX8 6) (C := RX8) (T := TX8) (N := 9) hx hb hts hin8 tyX8 tyX8_ok nmX8 hown hK hP hD hS 0 rfl rfl 6 (by decide) (ho (.fieldLink RX8 25 "NearEnough$Shown" "walking" "Z") (List.mem_of_getElem? (i := 1) rfl)) (fun _ h9 => h9) rfl (by decide +kernel) rfl rfl (Nat.le_of_ble_eq_true rfl) dX8_restart_11 (fun H locs hP hD hS => ?_)
  have hP : va_P (dC, dI) vwCl [(sw, .inr (8, [.ref td, .ref ch, .ref w1, .ref w2, .long 0, .long 0, .int 0, .int wl, .int wt])), (ch, .inr (0, [.ref a1, .ref a2, .ref a3, .ref a4, .ref a5, .int 0, .int 0])), (a5, .inl (kc, 12, .inl f1))] H := hP
  have hD : va_D A [(sw, .inr (8, [.ref td, .ref ch, .ref w1, .ref w2, .long 0, .long 0, .int 0, .int wl, .int wt])), (ch, .inr (0, [.ref a1, .ref a2, .ref a3, .ref a4, .ref a5, .int 0, .int 0])), (a5, .inl (kc, 12, .inl f1))] := hD
  refine W.widen (k := 0) (n := 0) (Nat.le_of_ble_eq_true rfl) (Nat.le_of_ble_eq_true rfl) ?_
  exact W.vret hx hb hr (fun t ht hW => ⟨⟨f1, rfl, trivial, wEn_of (hP.sub [0, 1, 2] rfl) (hK.sub [] rfl) (hD.sub [0, 1, 2] (by decide) rfl) ht hW⟩, hS.F ht⟩) hS.2.2 dX8_restart_14
def ow_c_next1 : List Cond := [.fieldLink RX8 33 "NearEnough$Shown" "stale" "I", .fieldLink RX8 25 "NearEnough$Shown" "walking" "Z", .methodLink RX8 54 Lib.Math.min.name, .static Lib.Math.min.name, .initialized "java/lang/Math", .code Lib.Math.min.name Lib.Math.min.code 2 (some .int), .fieldLink RX8 36 "NearEnough$Shown" "told" "LNearEnough$Program;", .fieldLink RX8 63 "NearEnough$Program" "stepCount" "I", .fieldLink RX8 29 "NearEnough$Shown" "last" "I"]
def vs_c_next1 : List Cond := .code yX8_next cX8_next 4 (some .boolean) :: (ow_c_next1 ++ (([.methodLink RX8 60 yX8_show, .instanceMethod yX8_show, .selects RX8 yX8_show yX8_show, .initialized RX8] : List Cond) ++ (vs_c_show ++ (wsX30 ++ (wsX80)))))
theorem vg_c_next1 : vs_c_next1.all goodWord = true := by decide +kernel
theorem gd_c_next1_60_c_show : GoodIn vs_c_next1 (wsV RX8 60 RX8 yX8_show vs_c_show) := goodIn_app (goodIn_sub (fun w h => (List.mem_cons_of_mem _ (List.mem_append_right _ (List.mem_append_left _ h)))) (by decide +kernel)) (goodIn_sub (fun w h => (List.mem_cons_of_mem _ (List.mem_append_right _ (List.mem_append_right _ (List.mem_append_left _ h))))) vg_c_show)
set_option maxHeartbeats 4000000 in
set_option maxRecDepth 100000 in
theorem c_next1 (l : Launch) (dC : Nat → ClassId) (dI : Nat → Nat → Nat) (sw : Nat) (ch : Nat) (w1 : Nat) (w2 : Nat) (td : Nat) (r1 : Nat) (r2 : Nat) (r3 : Nat) (r4 : Nat) (r5 : Nat) (wl : Int32) (wt : Int32) (sz : Nat) : Met l yX8_next vs_c_next1 ({ frames := 1, cells := 0, slots := 0, locals := 24 }) (va_Pc [.ref sw] (wSt dC dI [(sw, .inr (8, [.ref td, .ref ch, .ref w1, .ref w2, .long 0, .long 0, .int 0, .int wl, .int wt])), (td, .inr (3, [.ref r1, .ref r2, .ref r3, .ref r4, .ref r5, .int 0, .int 0, .int 0]))] [] sz)) (va_Qi (fun (r : Int32) (_ : Unit) => r = 1) (fun (u : Unit) => wEn dC dI (va_A [(sw, .inr (8, [.ref td, .ref ch, .ref w1, .ref w2, .long 0, .long 0, .int 0, .int wl, .int wt])), (td, .inr (3, [.ref r1, .ref r2, .ref r3, .ref r4, .ref r5, .int 0, .int 0, .int 0]))] sz) [(sw, .inr (8, [.ref td, .ref ch, .ref w1, .ref w2, .long 0, .long 0, .int 1, .int (-1), .int 0])), (td, .inr (3, [.ref r1, .ref r2, .ref r3, .ref r4, .ref r5, .int 0, .int 0, .int 0]))] []) (va_A [(sw, .inr (8, [.ref td, .ref ch, .ref w1, .ref w2, .long 0, .long 0, .int 0, .int wl, .int wt])), (td, .inr (3, [.ref r1, .ref r2, .ref r3, .ref r4, .ref r5, .int 0, .int 0, .int 0]))] sz)) 0 0 (va_A [(sw, .inr (8, [.ref td, .ref ch, .ref w1, .ref w2, .long 0, .long 0, .int 0, .int wl, .int wt])), (td, .inr (3, [.ref r1, .ref r2, .ref r3, .ref r4, .ref r5, .int 0, .int 0, .int 0]))] sz) := by
  refine Met.ofW (cc := cX8_next) (maxL := 4) (ret := (some .boolean)) (by decide) rfl ?_
  intro p e s m args below meth c s₁ B hml hv
  obtain ⟨rfl, hsz, hP, hK, hD0, hE⟩ := hv
  have hx := B.exec
  have hb := B.bytes
  have hr := B.returns
  have hts := atoms_spec (ws := vs_c_next1) B.pre
  have hown : s.vm.findClass RX8 = some m.cls := findClass_of_methodNamed B.named
  have hlocks := B.notSynchronized
  subst hsz
  have hD := hD0.self (sz := s.heap.size)
  generalize hAe : va_A [(sw, .inr (8, [.ref td, .ref ch, .ref w1, .ref w2, .long 0, .long 0, .int 0, .int wl, .int wt])), (td, .inr (3, [.ref r1, .ref r2, .ref r3, .ref r4, .ref r5, .int 0, .int 0, .int 0]))] s.heap.size = A at hD ⊢
  have hA : ∀ q : Nat, s.heap.size ≤ q → A q := fun q h => by rw [← hAe]; exact Or.inr h
  have hl := lv_entry ([.ref sw]) (n := 4) (Nat.le_of_ble_eq_true rfl)
  rw [lg_entry_eq]
  generalize (lg_sl ([.ref sw]) ++ List.replicate (4 - (lg_sl ([.ref sw])).length) Slot.unset).toArray = ls at hl ⊢
  have hl : lv_has ls 4 [(0, .ref sw)] := hl
  refine zH (A := A) (ws := [(sw, .inr (8, [.ref td, .ref ch, .ref w1, .ref w2, .long 0, .long 0, .int 0, .int wl, .int wt])), (td, .inr (3, [.ref r1, .ref r2, .ref r3, .ref r4, .ref r5, .int 0, .int 0, .int 0]))]) (fun H hP hS => ?_) hP
  have ho := fun w (h : w ∈ ow_c_next1) => hts w (List.mem_cons_of_mem _ (List.mem_append_left _ h))
  have hin3 : ∀ w ∈ u_ws RX3 TX3 8, w ∈ vs_c_next1 := fun w h => (List.mem_cons_of_mem _ (List.mem_append_right _ (List.mem_append_right _ (List.mem_append_right _ (List.mem_append_left _ h)))))
  have hin8 : ∀ w ∈ u_ws RX8 TX8 9, w ∈ vs_c_next1 := fun w h => (List.mem_cons_of_mem _ (List.mem_append_right _ (List.mem_append_right _ (List.mem_append_right _ (List.mem_append_right _ h)))))
  refine lv_aload_n hx hb dX8_next_0 rfl (lv_at hl 0 rfl) ?_
  refine lv_bipush (v := 12) hx hb dX8_next_1 (by decide) ?_
  refine va_put (D := (dC, dI)) (ci := 8) (v := .int 12) (ty := tyX8 8) (C := RX8) (T := TX8) (N := 9) hx hb hts hin8 tyX8 tyX8_ok nmX8 hown hK hP hD hS 0 rfl rfl 8 (by decide) (ho (.fieldLink RX8 33 "NearEnough$Shown" "stale" "I") (List.mem_of_getElem? (i := 0) rfl)) (fun _ h9 => h9) rfl (by decide +kernel) rfl rfl (Nat.le_of_ble_eq_true rfl) dX8_next_3 (fun H locs hP hD hS => ?_)
  have hP : va_P (dC, dI) vwCl [(sw, .inr (8, [.ref td, .ref ch, .ref w1, .ref w2, .long 0, .long 0, .int 0, .int wl, .int 12])), (td, .inr (3, [.ref r1, .ref r2, .ref r3, .ref r4, .ref r5, .int 0, .int 0, .int 0]))] H := hP
  have hD : va_D A [(sw, .inr (8, [.ref td, .ref ch, .ref w1, .ref w2, .long 0, .long 0, .int 0, .int wl, .int 12])), (td, .inr (3, [.ref r1, .ref r2, .ref r3, .ref r4, .ref r5, .int 0, .int 0, .int 0]))] := hD
  refine lv_iconst (v := 0) hx hb dX8_next_6 (by decide) ?_
  refine lv_istore_n (lv' := [(1, .int 0), (0, .ref sw)]) hx hb dX8_next_7 rfl hl (by decide) rfl (fun ls hl => ?_)
  refine lv_iload_n hx hb dX8_next_8 rfl (lv_at hl 0 rfl) ?_
  refine lv_sipush (v := 4096) hx hb dX8_next_9 (by decide) ?_
  refine lv_icmp_ge (tgt := 103) hx hb dX8_next_12 (by decide) (fun cc => absurd cc (by decide)) (fun _ => ?_)
  refine lv_aload_n hx hb dX8_next_15 rfl (lv_at hl 1 rfl) ?_
  refine va_get (D := (dC, dI)) (ci := 8) (v := .int 0) (C := RX8) (T := TX8) (N := 9) hx hb hts hin8 hown hK hP 0 rfl rfl 6 (by decide) (ho (.fieldLink RX8 25 "NearEnough$Shown" "walking" "Z") (List.mem_of_getElem? (i := 1) rfl)) (fun _ h9 => h9) rfl dX8_next_16 ?_
  refine lv_if_eq (tgt := 36) hx hb dX8_next_19 (by decide) (fun _ => ?_) (fun cc => absurd (by decide) cc)
  refine lv_iconst (v := 0) hx hb dX8_next_36 (by decide) ?_
  refine lv_istore_n (lv' := [(2, .int 0), (1, .int 0), (0, .ref sw)]) hx hb dX8_next_37 rfl hl (by decide) rfl (fun ls hl => ?_)
  refine lv_aload_n hx hb dX8_next_38 rfl (lv_at hl 2 rfl) ?_
  refine lv_iconst (v := 1) hx hb dX8_next_39 (by decide) ?_
  refine va_put (D := (dC, dI)) (ci := 8) (v := .int 1) (ty := tyX8 6) (C := RX8) (T := TX8) (N := 9) hx hb hts hin8 tyX8 tyX8_ok nmX8 hown hK hP hD hS 0 rfl rfl 6 (by decide) (ho (.fieldLink RX8 25 "NearEnough$Shown" "walking" "Z") (List.mem_of_getElem? (i := 1) rfl)) (fun _ h9 => h9) rfl (by decide +kernel) rfl rfl (Nat.le_of_ble_eq_true rfl) dX8_next_40 (fun H locs hP hD hS => ?_)
  have hP : va_P (dC, dI) vwCl [(sw, .inr (8, [.ref td, .ref ch, .ref w1, .ref w2, .long 0, .long 0, .int 1, .int wl, .int 12])), (td, .inr (3, [.ref r1, .ref r2, .ref r3, .ref r4, .ref r5, .int 0, .int 0, .int 0]))] H := hP
  have hD : va_D A [(sw, .inr (8, [.ref td, .ref ch, .ref w1, .ref w2, .long 0, .long 0, .int 1, .int wl, .int 12])), (td, .inr (3, [.ref r1, .ref r2, .ref r3, .ref r4, .ref r5, .int 0, .int 0, .int 0]))] := hD
  refine lv_iload_n hx hb dX8_next_43 rfl (lv_at hl 0 rfl) ?_
  refine lv_iconst (v := (-1)) hx hb dX8_next_44 (by decide) ?_
  refine lv_icmp_ne (tgt := 50) hx hb dX8_next_45 (by decide) (fun _ => ?_) (fun cc => absurd (by decide) cc)
  refine lv_aload_n hx hb dX8_next_50 rfl (lv_at hl 2 rfl) ?_
  refine lv_aload_n hx hb dX8_next_51 rfl (lv_at hl 2 rfl) ?_
  refine va_get (D := (dC, dI)) (ci := 8) (v := .int 12) (C := RX8) (T := TX8) (N := 9) hx hb hts hin8 hown hK hP 0 rfl rfl 8 (by decide) (ho (.fieldLink RX8 33 "NearEnough$Shown" "stale" "I") (List.mem_of_getElem? (i := 0) rfl)) (fun _ h9 => h9) rfl dX8_next_52 ?_
  refine lv_iload_n hx hb dX8_next_55 rfl (lv_at hl 0 rfl) ?_
  refine va_mmin hx hb (hml.trans hl.1.symm) hown (ho (.methodLink RX8 54 Lib.Math.min.name) (List.mem_of_getElem? (i := 2) rfl)) (ho (.static Lib.Math.min.name) (List.mem_of_getElem? (i := 3) rfl)) (ho (.initialized "java/lang/Math") (List.mem_of_getElem? (i := 4) rfl)) (ho (.code Lib.Math.min.name Lib.Math.min.code 2 (some .int)) (List.mem_of_getElem? (i := 5) rfl)) (Nat.le_of_ble_eq_true rfl) (Nat.le_of_ble_eq_true rfl) (Nat.le_of_ble_eq_true rfl) (Nat.le_of_ble_eq_true rfl) dX8_next_56 ?_
  refine zi (v := 0) (by decide) ?_
  refine va_put (D := (dC, dI)) (ci := 8) (v := .int 0) (ty := tyX8 8) (C := RX8) (T := TX8) (N := 9) hx hb hts hin8 tyX8 tyX8_ok nmX8 hown hK hP hD hS 0 rfl rfl 8 (by decide) (ho (.fieldLink RX8 33 "NearEnough$Shown" "stale" "I") (List.mem_of_getElem? (i := 0) rfl)) (fun _ h9 => h9) rfl (by decide +kernel) rfl rfl (Nat.le_of_ble_eq_true rfl) dX8_next_59 (fun H locs hP hD hS => ?_)
  have hP : va_P (dC, dI) vwCl [(sw, .inr (8, [.ref td, .ref ch, .ref w1, .ref w2, .long 0, .long 0, .int 1, .int wl, .int 0])), (td, .inr (3, [.ref r1, .ref r2, .ref r3, .ref r4, .ref r5, .int 0, .int 0, .int 0]))] H := hP
  have hD : va_D A [(sw, .inr (8, [.ref td, .ref ch, .ref w1, .ref w2, .long 0, .long 0, .int 1, .int wl, .int 0])), (td, .inr (3, [.ref r1, .ref r2, .ref r3, .ref r4, .ref r5, .int 0, .int 0, .int 0]))] := hD
  refine lv_aload_n hx hb dX8_next_62 rfl (lv_at hl 2 rfl) ?_
  refine lv_iload_n hx hb dX8_next_63 rfl (lv_at hl 0 rfl) ?_
  have hPc := hP.sub (ws' := [(sw, .inr (8, [.ref td, .ref ch, .ref w1, .ref w2, .long 0, .long 0, .int 1, .int wl, .int 0])), (td, .inr (3, [.ref r1, .ref r2, .ref r3, .ref r4, .ref r5, .int 0, .int 0, .int 0]))]) [0, 1] rfl
  have hDc := hD.sub (ws' := [(sw, .inr (8, [.ref td, .ref ch, .ref w1, .ref w2, .long 0, .long 0, .int 1, .int wl, .int 0])), (td, .inr (3, [.ref r1, .ref r2, .ref r3, .ref r4, .ref r5, .int 0, .int 0, .int 0]))]) [0, 1] (by decide) rfl
  have hKc := hK.sub (tys' := []) [] rfl
  refine zz_i (wr := []) (va_runV (As := [.int 0]) (rest := []) ⟨hx, hb, hml, hown, hts⟩ (c_show l dC dI sw ch w1 w2 td r1 r2 r3 r4 r5 1 wl 0 H.size) (cwV 1 hts gd_c_next1_60_c_show rfl rfl rfl (by decide +kernel) ⟨Nat.le_of_ble_eq_true rfl, Nat.le_of_ble_eq_true rfl⟩) (preV hPc hKc hDc hE (ci := 8) (q0 := 0) rfl rfl) rfl rfl hl.1 rfl (lv_room (Nat.le_of_ble_eq_true rfl)) dX8_next_64 ⟨Nat.le_of_ble_eq_true rfl, Nat.le_of_ble_eq_true rfl⟩) hK hP hD hS hA [0, 1] [] rfl rfl (by decide) (by decide) (fun u H locs hK hP hD hS => ?_)
  have hP : va_P (dC, dI) vwCl [(sw, .inr (8, [.ref td, .ref ch, .ref w1, .ref w2, .long 0, .long 0, .int 1, .int wl, .int 0])), (td, .inr (3, [.ref r1, .ref r2, .ref r3, .ref r4, .ref r5, .int 0, .int 0, .int 0]))] H := hP
  have hD : va_D A [(sw, .inr (8, [.ref td, .ref ch, .ref w1, .ref w2, .long 0, .long 0, .int 1, .int wl, .int 0])), (td, .inr (3, [.ref r1, .ref r2, .ref r3, .ref r4, .ref r5, .int 0, .int 0, .int 0]))] := hD
  have hK : va_K (dC, dI) vwCl [] s := hK
  refine W.widen (k := 0) (n := 0) (Nat.le_of_ble_eq_true rfl) (Nat.le_of_ble_eq_true rfl) ?_
  refine lv_istore_n (lv' := [(3, .int (-1)), (2, .int 0), (1, .int 0), (0, .ref sw)]) hx hb dX8_next_67 rfl hl (by decide) rfl (fun ls hl => ?_)
  refine lv_aload_n hx hb dX8_next_68 rfl (lv_at hl 3 rfl) ?_
  refine lv_iload_n hx hb dX8_next_69 rfl (lv_at hl 0 rfl) ?_
  refine lv_iconst (v := (-1)) hx hb dX8_next_70 (by decide) ?_
  refine lv_icmp_ne (tgt := 86) hx hb dX8_next_71 (by decide) (fun cc => absurd cc (by decide)) (fun _ => ?_)
  refine lv_aload_n hx hb dX8_next_74 rfl (lv_at hl 3 rfl) ?_
  refine va_get (D := (dC, dI)) (ci := 8) (v := .ref td) (C := RX8) (T := TX8) (N := 9) hx hb hts hin8 hown hK hP 0 rfl rfl 0 (by decide) (ho (.fieldLink RX8 36 "NearEnough$Shown" "told" "LNearEnough$Program;") (List.mem_of_getElem? (i := 6) rfl)) (fun _ h9 => h9) rfl dX8_next_75 ?_
  refine va_get (D := (dC, dI)) (ci := 3) (v := .int 0) (C := RX3) (T := TX3) (N := 8) hx hb hts hin3 hown hK hP 1 rfl rfl 6 (by decide) (ho (.fieldLink RX8 63 "NearEnough$Program" "stepCount" "I") (List.mem_of_getElem? (i := 7) rfl)) (fun _ h9 => h9) rfl dX8_next_78 ?_
  refine lv_iconst (v := 1) hx hb dX8_next_81 (by decide) ?_
  refine lv_isub hx hb dX8_next_82 ?_
  refine zi (v := (-1)) (by decide) ?_
  refine lv_goto (tgt := 87) hx hb dX8_next_83 (by decide) ?_
  refine va_put (D := (dC, dI)) (ci := 8) (v := .int (-1)) (ty := tyX8 7) (C := RX8) (T := TX8) (N := 9) hx hb hts hin8 tyX8 tyX8_ok nmX8 hown hK hP hD hS 0 rfl rfl 7 (by decide) (ho (.fieldLink RX8 29 "NearEnough$Shown" "last" "I") (List.mem_of_getElem? (i := 8) rfl)) (fun _ h9 => h9) rfl (by decide +kernel) rfl rfl (Nat.le_of_ble_eq_true rfl) dX8_next_87 (fun H locs hP hD hS => ?_)
  have hP : va_P (dC, dI) vwCl [(sw, .inr (8, [.ref td, .ref ch, .ref w1, .ref w2, .long 0, .long 0, .int 1, .int (-1), .int 0])), (td, .inr (3, [.ref r1, .ref r2, .ref r3, .ref r4, .ref r5, .int 0, .int 0, .int 0]))] H := hP
  have hD : va_D A [(sw, .inr (8, [.ref td, .ref ch, .ref w1, .ref w2, .long 0, .long 0, .int 1, .int (-1), .int 0])), (td, .inr (3, [.ref r1, .ref r2, .ref r3, .ref r4, .ref r5, .int 0, .int 0, .int 0]))] := hD
  refine lv_iload_n hx hb dX8_next_90 rfl (lv_at hl 0 rfl) ?_
  refine lv_iconst (v := (-1)) hx hb dX8_next_91 (by decide) ?_
  refine lv_icmp_ne (tgt := 97) hx hb dX8_next_92 (by decide) (fun cc => absurd cc (by decide)) (fun _ => ?_)
  refine lv_iconst (v := 1) hx hb dX8_next_95 (by decide) ?_
  refine W.widen (k := 0) (n := 0) (Nat.le_of_ble_eq_true rfl) (Nat.le_of_ble_eq_true rfl) ?_
  exact W.zret (v := 1) hx hb hr rfl (fun t ht hW => ⟨⟨1, (), rfl, rfl, wEn_of (hP.sub [0, 1] rfl) (hK.sub [] rfl) (hD.sub [0, 1] (by decide) rfl) ht hW⟩, hS.F ht⟩) hS.2.2 dX8_next_96
def ow_c_next2 : List Cond := [.fieldLink RX8 33 "NearEnough$Shown" "stale" "I", .fieldLink RX8 25 "NearEnough$Shown" "walking" "Z", .fieldLink RX8 40 "NearEnough$Shown" "changes" "LNearEnough$Changes;", .fieldLink RX8 29 "NearEnough$Shown" "last" "I"]
def vs_c_next2 : List Cond := .code yX8_next cX8_next 4 (some .boolean) :: (ow_c_next2 ++ (([.methodLink RX8 50 yX0_advance, .instanceMethod yX0_advance, .selects RX0 yX0_advance yX0_advance, .initialized RX0] : List Cond) ++ (vs_c_advance ++ (wsX80))))
theorem vg_c_next2 : vs_c_next2.all goodWord = true := by decide +kernel
theorem gd_c_next2_50_c_advance : GoodIn vs_c_next2 (wsV RX8 50 RX0 yX0_advance vs_c_advance) := goodIn_app (goodIn_sub (fun w h => (List.mem_cons_of_mem _ (List.mem_append_right _ (List.mem_append_left _ h)))) (by decide +kernel)) (goodIn_sub (fun w h => (List.mem_cons_of_mem _ (List.mem_append_right _ (List.mem_append_right _ (List.mem_append_left _ h))))) vg_c_advance)
set_option maxHeartbeats 4000000 in
set_option maxRecDepth 100000 in
theorem c_next2 (l : Launch) (dC : Nat → ClassId) (dI : Nat → Nat → Nat) (sw : Nat) (ch : Nat) (w1 : Nat) (w2 : Nat) (td : Nat) (a1 : Nat) (a2 : Nat) (a3 : Nat) (a4 : Nat) (a5 : Nat) (wt : Int32) (bt : Int32) (sz : Nat) : Met l yX8_next vs_c_next2 ({ frames := 1, cells := 0, slots := 0, locals := 24 }) (va_Pc [.ref sw] (wSt dC dI [(sw, .inr (8, [.ref td, .ref ch, .ref w1, .ref w2, .long 0, .long 0, .int 1, .int (-1), .int wt])), (ch, .inr (0, [.ref a1, .ref a2, .ref a3, .ref a4, .ref a5, .int 0, .int bt]))] [] sz)) (va_Qi (fun (r : Int32) (_ : Unit) => r = 0) (fun (u : Unit) => wEn dC dI (va_A [(sw, .inr (8, [.ref td, .ref ch, .ref w1, .ref w2, .long 0, .long 0, .int 1, .int (-1), .int wt])), (ch, .inr (0, [.ref a1, .ref a2, .ref a3, .ref a4, .ref a5, .int 0, .int bt]))] sz) [(sw, .inr (8, [.ref td, .ref ch, .ref w1, .ref w2, .long 0, .long 0, .int 1, .int (-1), .int 12])), (ch, .inr (0, [.ref a1, .ref a2, .ref a3, .ref a4, .ref a5, .int 0, .int bt]))] []) (va_A [(sw, .inr (8, [.ref td, .ref ch, .ref w1, .ref w2, .long 0, .long 0, .int 1, .int (-1), .int wt])), (ch, .inr (0, [.ref a1, .ref a2, .ref a3, .ref a4, .ref a5, .int 0, .int bt]))] sz)) 0 0 (va_A [(sw, .inr (8, [.ref td, .ref ch, .ref w1, .ref w2, .long 0, .long 0, .int 1, .int (-1), .int wt])), (ch, .inr (0, [.ref a1, .ref a2, .ref a3, .ref a4, .ref a5, .int 0, .int bt]))] sz) := by
  refine Met.ofW (cc := cX8_next) (maxL := 4) (ret := (some .boolean)) (by decide) rfl ?_
  intro p e s m args below meth c s₁ B hml hv
  obtain ⟨rfl, hsz, hP, hK, hD0, hE⟩ := hv
  have hx := B.exec
  have hb := B.bytes
  have hr := B.returns
  have hts := atoms_spec (ws := vs_c_next2) B.pre
  have hown : s.vm.findClass RX8 = some m.cls := findClass_of_methodNamed B.named
  have hlocks := B.notSynchronized
  subst hsz
  have hD := hD0.self (sz := s.heap.size)
  generalize hAe : va_A [(sw, .inr (8, [.ref td, .ref ch, .ref w1, .ref w2, .long 0, .long 0, .int 1, .int (-1), .int wt])), (ch, .inr (0, [.ref a1, .ref a2, .ref a3, .ref a4, .ref a5, .int 0, .int bt]))] s.heap.size = A at hD ⊢
  have hA : ∀ q : Nat, s.heap.size ≤ q → A q := fun q h => by rw [← hAe]; exact Or.inr h
  have hl := lv_entry ([.ref sw]) (n := 4) (Nat.le_of_ble_eq_true rfl)
  rw [lg_entry_eq]
  generalize (lg_sl ([.ref sw]) ++ List.replicate (4 - (lg_sl ([.ref sw])).length) Slot.unset).toArray = ls at hl ⊢
  have hl : lv_has ls 4 [(0, .ref sw)] := hl
  refine zH (A := A) (ws := [(sw, .inr (8, [.ref td, .ref ch, .ref w1, .ref w2, .long 0, .long 0, .int 1, .int (-1), .int wt])), (ch, .inr (0, [.ref a1, .ref a2, .ref a3, .ref a4, .ref a5, .int 0, .int bt]))]) (fun H hP hS => ?_) hP
  have ho := fun w (h : w ∈ ow_c_next2) => hts w (List.mem_cons_of_mem _ (List.mem_append_left _ h))
  have hin8 : ∀ w ∈ u_ws RX8 TX8 9, w ∈ vs_c_next2 := fun w h => (List.mem_cons_of_mem _ (List.mem_append_right _ (List.mem_append_right _ (List.mem_append_right _ h))))
  refine lv_aload_n hx hb dX8_next_0 rfl (lv_at hl 0 rfl) ?_
  refine lv_bipush (v := 12) hx hb dX8_next_1 (by decide) ?_
  refine va_put (D := (dC, dI)) (ci := 8) (v := .int 12) (ty := tyX8 8) (C := RX8) (T := TX8) (N := 9) hx hb hts hin8 tyX8 tyX8_ok nmX8 hown hK hP hD hS 0 rfl rfl 8 (by decide) (ho (.fieldLink RX8 33 "NearEnough$Shown" "stale" "I") (List.mem_of_getElem? (i := 0) rfl)) (fun _ h9 => h9) rfl (by decide +kernel) rfl rfl (Nat.le_of_ble_eq_true rfl) dX8_next_3 (fun H locs hP hD hS => ?_)
  have hP : va_P (dC, dI) vwCl [(sw, .inr (8, [.ref td, .ref ch, .ref w1, .ref w2, .long 0, .long 0, .int 1, .int (-1), .int 12])), (ch, .inr (0, [.ref a1, .ref a2, .ref a3, .ref a4, .ref a5, .int 0, .int bt]))] H := hP
  have hD : va_D A [(sw, .inr (8, [.ref td, .ref ch, .ref w1, .ref w2, .long 0, .long 0, .int 1, .int (-1), .int 12])), (ch, .inr (0, [.ref a1, .ref a2, .ref a3, .ref a4, .ref a5, .int 0, .int bt]))] := hD
  refine lv_iconst (v := 0) hx hb dX8_next_6 (by decide) ?_
  refine lv_istore_n (lv' := [(1, .int 0), (0, .ref sw)]) hx hb dX8_next_7 rfl hl (by decide) rfl (fun ls hl => ?_)
  refine lv_iload_n hx hb dX8_next_8 rfl (lv_at hl 0 rfl) ?_
  refine lv_sipush (v := 4096) hx hb dX8_next_9 (by decide) ?_
  refine lv_icmp_ge (tgt := 103) hx hb dX8_next_12 (by decide) (fun cc => absurd cc (by decide)) (fun _ => ?_)
  refine lv_aload_n hx hb dX8_next_15 rfl (lv_at hl 1 rfl) ?_
  refine va_get (D := (dC, dI)) (ci := 8) (v := .int 1) (C := RX8) (T := TX8) (N := 9) hx hb hts hin8 hown hK hP 0 rfl rfl 6 (by decide) (ho (.fieldLink RX8 25 "NearEnough$Shown" "walking" "Z") (List.mem_of_getElem? (i := 1) rfl)) (fun _ h9 => h9) rfl dX8_next_16 ?_
  refine lv_if_eq (tgt := 36) hx hb dX8_next_19 (by decide) (fun cc => absurd cc (by decide)) (fun _ => ?_)
  refine lv_aload_n hx hb dX8_next_22 rfl (lv_at hl 1 rfl) ?_
  refine va_get (D := (dC, dI)) (ci := 8) (v := .ref ch) (C := RX8) (T := TX8) (N := 9) hx hb hts hin8 hown hK hP 0 rfl rfl 1 (by decide) (ho (.fieldLink RX8 40 "NearEnough$Shown" "changes" "LNearEnough$Changes;") (List.mem_of_getElem? (i := 2) rfl)) (fun _ h9 => h9) rfl dX8_next_23 ?_
  refine lv_aload_n hx hb dX8_next_26 rfl (lv_at hl 1 rfl) ?_
  refine va_get (D := (dC, dI)) (ci := 8) (v := .int (-1)) (C := RX8) (T := TX8) (N := 9) hx hb hts hin8 hown hK hP 0 rfl rfl 7 (by decide) (ho (.fieldLink RX8 29 "NearEnough$Shown" "last" "I") (List.mem_of_getElem? (i := 3) rfl)) (fun _ h9 => h9) rfl dX8_next_27 ?_
  have hPc := hP.sub (ws' := [(ch, .inr (0, [.ref a1, .ref a2, .ref a3, .ref a4, .ref a5, .int 0, .int bt]))]) [1] rfl
  have hDc := hD.sub (ws' := [(ch, .inr (0, [.ref a1, .ref a2, .ref a3, .ref a4, .ref a5, .int 0, .int bt]))]) [1] (by decide) rfl
  have hKc := hK.sub (tys' := []) [] rfl
  refine zz_i (wr := [(sw, .inr (8, [.ref td, .ref ch, .ref w1, .ref w2, .long 0, .long 0, .int 1, .int (-1), .int 12]))]) (va_runV (As := [.int (-1)]) (rest := []) ⟨hx, hb, hml, hown, hts⟩ (c_advance l dC dI ch a1 a2 a3 a4 a5 bt H.size) (cwV 1 hts gd_c_next2_50_c_advance rfl rfl rfl (by decide +kernel) ⟨Nat.le_of_ble_eq_true rfl, Nat.le_of_ble_eq_true rfl⟩) (preV hPc hKc hDc hE (ci := 0) (q0 := 0) rfl rfl) rfl rfl hl.1 rfl (lv_room (Nat.le_of_ble_eq_true rfl)) dX8_next_30 ⟨Nat.le_of_ble_eq_true rfl, Nat.le_of_ble_eq_true rfl⟩) hK hP hD hS hA [1] [0] rfl rfl (by decide) (by decide) (fun u H locs hK hP hD hS => ?_)
  have hP : va_P (dC, dI) vwCl [(sw, .inr (8, [.ref td, .ref ch, .ref w1, .ref w2, .long 0, .long 0, .int 1, .int (-1), .int 12])), (ch, .inr (0, [.ref a1, .ref a2, .ref a3, .ref a4, .ref a5, .int 0, .int bt]))] H := hP
  have hD : va_D A [(sw, .inr (8, [.ref td, .ref ch, .ref w1, .ref w2, .long 0, .long 0, .int 1, .int (-1), .int 12])), (ch, .inr (0, [.ref a1, .ref a2, .ref a3, .ref a4, .ref a5, .int 0, .int bt]))] := hD
  have hK : va_K (dC, dI) vwCl [] s := hK
  refine W.widen (k := 0) (n := 0) (Nat.le_of_ble_eq_true rfl) (Nat.le_of_ble_eq_true rfl) ?_
  refine lv_goto (tgt := 37) hx hb dX8_next_33 (by decide) ?_
  refine lv_istore_n (lv' := [(2, .int (-1)), (1, .int 0), (0, .ref sw)]) hx hb dX8_next_37 rfl hl (by decide) rfl (fun ls hl => ?_)
  refine lv_aload_n hx hb dX8_next_38 rfl (lv_at hl 2 rfl) ?_
  refine lv_iconst (v := 1) hx hb dX8_next_39 (by decide) ?_
  refine va_put (D := (dC, dI)) (ci := 8) (v := .int 1) (ty := tyX8 6) (C := RX8) (T := TX8) (N := 9) hx hb hts hin8 tyX8 tyX8_ok nmX8 hown hK hP hD hS 0 rfl rfl 6 (by decide) (ho (.fieldLink RX8 25 "NearEnough$Shown" "walking" "Z") (List.mem_of_getElem? (i := 1) rfl)) (fun _ h9 => h9) rfl (by decide +kernel) rfl rfl (Nat.le_of_ble_eq_true rfl) dX8_next_40 (fun H locs hP hD hS => ?_)
  have hP : va_P (dC, dI) vwCl [(sw, .inr (8, [.ref td, .ref ch, .ref w1, .ref w2, .long 0, .long 0, .int 1, .int (-1), .int 12])), (ch, .inr (0, [.ref a1, .ref a2, .ref a3, .ref a4, .ref a5, .int 0, .int bt]))] H := hP
  have hD : va_D A [(sw, .inr (8, [.ref td, .ref ch, .ref w1, .ref w2, .long 0, .long 0, .int 1, .int (-1), .int 12])), (ch, .inr (0, [.ref a1, .ref a2, .ref a3, .ref a4, .ref a5, .int 0, .int bt]))] := hD
  refine lv_iload_n hx hb dX8_next_43 rfl (lv_at hl 0 rfl) ?_
  refine lv_iconst (v := (-1)) hx hb dX8_next_44 (by decide) ?_
  refine lv_icmp_ne (tgt := 50) hx hb dX8_next_45 (by decide) (fun cc => absurd cc (by decide)) (fun _ => ?_)
  refine lv_iconst (v := 0) hx hb dX8_next_48 (by decide) ?_
  refine W.widen (k := 0) (n := 0) (Nat.le_of_ble_eq_true rfl) (Nat.le_of_ble_eq_true rfl) ?_
  exact W.zret (v := 0) hx hb hr rfl (fun t ht hW => ⟨⟨0, (), rfl, rfl, wEn_of (hP.sub [0, 1] rfl) (hK.sub [] rfl) (hD.sub [0, 1] (by decide) rfl) ht hW⟩, hS.F ht⟩) hS.2.2 dX8_next_49
def ow_c_bitCount0 : List Cond := [.constant RJ6 265 (1431655765), .constant RJ6 266 (858993459), .constant RJ6 267 (252645135)]
def vs_c_bitCount0 : List Cond := .code yJ6_bitCount_0f7a4 cJ6_bitCount_0f7a4 1 (some .int) :: (ow_c_bitCount0)
theorem vg_c_bitCount0 : vs_c_bitCount0.all goodWord = true := by decide +kernel
set_option maxHeartbeats 4000000 in
set_option maxRecDepth 100000 in
theorem c_bitCount0 (l : Launch) (dC : Nat → ClassId) (dI : Nat → Nat → Nat) (sz : Nat) : Met l yJ6_bitCount_0f7a4 vs_c_bitCount0 ({ frames := 0, cells := 0, slots := 0, locals := 0 }) (va_Pc [.int 0] (wSt dC dI [] [] sz)) (va_Qi (fun (r : Int32) (_ : Unit) => r = 0) (fun (u : Unit) => wEn dC dI (va_A [] sz) [] []) (va_A [] sz)) 0 0 (va_A [] sz) := by
  refine Met.ofW (cc := cJ6_bitCount_0f7a4) (maxL := 1) (ret := (some .int)) (by decide) rfl ?_
  intro p e s m args below meth c s₁ B hml hv
  obtain ⟨rfl, hsz, hP, hK, hD0, hE⟩ := hv
  have hx := B.exec
  have hb := B.bytes
  have hr := B.returns
  have hts := atoms_spec (ws := vs_c_bitCount0) B.pre
  have hown : s.vm.findClass RJ6 = some m.cls := findClass_of_methodNamed B.named
  have hlocks := B.notSynchronized
  subst hsz
  have hD := hD0.self (sz := s.heap.size)
  generalize hAe : va_A [] s.heap.size = A at hD ⊢
  have hA : ∀ q : Nat, s.heap.size ≤ q → A q := fun q h => by rw [← hAe]; exact Or.inr h
  have hl := lv_entry ([.int 0]) (n := 1) (Nat.le_of_ble_eq_true rfl)
  rw [lg_entry_eq]
  generalize (lg_sl ([.int 0]) ++ List.replicate (1 - (lg_sl ([.int 0])).length) Slot.unset).toArray = ls at hl ⊢
  have hl : lv_has ls 1 [(0, .int 0)] := hl
  refine zH (A := A) (ws := []) (fun H hP hS => ?_) hP
  have ho := fun w (h : w ∈ ow_c_bitCount0) => hts w (List.mem_cons_of_mem _ h)
  refine lv_iload_n hx hb dJ6_bitCount_0f7a4_0 rfl (lv_at hl 0 rfl) ?_
  refine lv_iload_n hx hb dJ6_bitCount_0f7a4_1 rfl (lv_at hl 0 rfl) ?_
  refine lv_iconst (v := 1) hx hb dJ6_bitCount_0f7a4_2 (by decide) ?_
  refine lv_iushr (v := 0) hx hb dJ6_bitCount_0f7a4_3 (by decide) ?_
  refine lv_ldcw (v := (1431655765)) hx hb hown (ho (.constant RJ6 265 (1431655765)) (List.mem_of_getElem? (i := 0) rfl)) dJ6_bitCount_0f7a4_4 ?_
  refine lv_iand hx hb dJ6_bitCount_0f7a4_7 ?_
  refine zi (v := 0) (by decide) ?_
  refine lv_isub hx hb dJ6_bitCount_0f7a4_8 ?_
  refine zi (v := 0) (by decide) ?_
  refine lv_istore_n (lv' := [(0, .int 0)]) hx hb dJ6_bitCount_0f7a4_9 rfl hl (by decide) rfl (fun ls hl => ?_)
  refine lv_iload_n hx hb dJ6_bitCount_0f7a4_10 rfl (lv_at hl 0 rfl) ?_
  refine lv_ldcw (v := (858993459)) hx hb hown (ho (.constant RJ6 266 (858993459)) (List.mem_of_getElem? (i := 1) rfl)) dJ6_bitCount_0f7a4_11 ?_
  refine lv_iand hx hb dJ6_bitCount_0f7a4_14 ?_
  refine zi (v := 0) (by decide) ?_
  refine lv_iload_n hx hb dJ6_bitCount_0f7a4_15 rfl (lv_at hl 0 rfl) ?_
  refine lv_iconst (v := 2) hx hb dJ6_bitCount_0f7a4_16 (by decide) ?_
  refine lv_iushr (v := 0) hx hb dJ6_bitCount_0f7a4_17 (by decide) ?_
  refine lv_ldcw (v := (858993459)) hx hb hown (ho (.constant RJ6 266 (858993459)) (List.mem_of_getElem? (i := 1) rfl)) dJ6_bitCount_0f7a4_18 ?_
  refine lv_iand hx hb dJ6_bitCount_0f7a4_21 ?_
  refine zi (v := 0) (by decide) ?_
  refine lv_iadd hx hb dJ6_bitCount_0f7a4_22 ?_
  refine zi (v := 0) (by decide) ?_
  refine lv_istore_n (lv' := [(0, .int 0)]) hx hb dJ6_bitCount_0f7a4_23 rfl hl (by decide) rfl (fun ls hl => ?_)
  refine lv_iload_n hx hb dJ6_bitCount_0f7a4_24 rfl (lv_at hl 0 rfl) ?_
  refine lv_iload_n hx hb dJ6_bitCount_0f7a4_25 rfl (lv_at hl 0 rfl) ?_
  refine lv_iconst (v := 4) hx hb dJ6_bitCount_0f7a4_26 (by decide) ?_
  refine lv_iushr (v := 0) hx hb dJ6_bitCount_0f7a4_27 (by decide) ?_
  refine lv_iadd hx hb dJ6_bitCount_0f7a4_28 ?_
  refine zi (v := 0) (by decide) ?_
  refine lv_ldcw (v := (252645135)) hx hb hown (ho (.constant RJ6 267 (252645135)) (List.mem_of_getElem? (i := 2) rfl)) dJ6_bitCount_0f7a4_29 ?_
  refine lv_iand hx hb dJ6_bitCount_0f7a4_32 ?_
  refine zi (v := 0) (by decide) ?_
  refine lv_istore_n (lv' := [(0, .int 0)]) hx hb dJ6_bitCount_0f7a4_33 rfl hl (by decide) rfl (fun ls hl => ?_)
  refine lv_iload_n hx hb dJ6_bitCount_0f7a4_34 rfl (lv_at hl 0 rfl) ?_
  refine lv_iload_n hx hb dJ6_bitCount_0f7a4_35 rfl (lv_at hl 0 rfl) ?_
  refine lv_bipush (v := 8) hx hb dJ6_bitCount_0f7a4_36 (by decide) ?_
  refine lv_iushr (v := 0) hx hb dJ6_bitCount_0f7a4_38 (by decide) ?_
  refine lv_iadd hx hb dJ6_bitCount_0f7a4_39 ?_
  refine zi (v := 0) (by decide) ?_
  refine lv_istore_n (lv' := [(0, .int 0)]) hx hb dJ6_bitCount_0f7a4_40 rfl hl (by decide) rfl (fun ls hl => ?_)
  refine lv_iload_n hx hb dJ6_bitCount_0f7a4_41 rfl (lv_at hl 0 rfl) ?_
  refine lv_iload_n hx hb dJ6_bitCount_0f7a4_42 rfl (lv_at hl 0 rfl) ?_
  refine lv_bipush (v := 16) hx hb dJ6_bitCount_0f7a4_43 (by decide) ?_
  refine lv_iushr (v := 0) hx hb dJ6_bitCount_0f7a4_45 (by decide) ?_
  refine lv_iadd hx hb dJ6_bitCount_0f7a4_46 ?_
  refine zi (v := 0) (by decide) ?_
  refine lv_istore_n (lv' := [(0, .int 0)]) hx hb dJ6_bitCount_0f7a4_47 rfl hl (by decide) rfl (fun ls hl => ?_)
  refine lv_iload_n hx hb dJ6_bitCount_0f7a4_48 rfl (lv_at hl 0 rfl) ?_
  refine lv_bipush (v := 63) hx hb dJ6_bitCount_0f7a4_49 (by decide) ?_
  refine lv_iand hx hb dJ6_bitCount_0f7a4_51 ?_
  refine zi (v := 0) (by decide) ?_
  refine W.widen (k := 0) (n := 0) (Nat.le_of_ble_eq_true rfl) (Nat.le_of_ble_eq_true rfl) ?_
  exact W.iret (v := 0) hx hb hr (fun t ht hW => ⟨⟨0, (), rfl, rfl, wEn_of (hP.sub [] rfl) (hK.sub [] rfl) (hD.sub [] (by decide) rfl) ht hW⟩, hS.F ht⟩) hS.2.2 dJ6_bitCount_0f7a4_52
def ow_c_isBetter0 : List Cond := []
def vs_c_isBetter0 : List Cond := .code yX11_isBetter cX11_isBetter 6 (some .boolean) :: (ow_c_isBetter0 ++ (([.methodLink RX11 321 yJ6_bitCount_0f7a4, .static yJ6_bitCount_0f7a4, .initialized yJ6_bitCount_0f7a4.cls] : List Cond) ++ (vs_c_bitCount0)))
theorem vg_c_isBetter0 : vs_c_isBetter0.all goodWord = true := by decide +kernel
theorem gd_c_isBetter0_321_c_bitCount0 : GoodIn vs_c_isBetter0 (va_wsS RX11 321 yJ6_bitCount_0f7a4 vs_c_bitCount0) := goodIn_app (goodIn_sub (fun w h => (List.mem_cons_of_mem _ (List.mem_append_right _ (List.mem_append_left _ h)))) (by decide +kernel)) (goodIn_sub (fun w h => (List.mem_cons_of_mem _ (List.mem_append_right _ (List.mem_append_right _ h)))) vg_c_bitCount0)
set_option maxHeartbeats 4000000 in
set_option maxRecDepth 100000 in
theorem c_isBetter0 (l : Launch) (dC : Nat → ClassId) (dI : Nat → Nat → Nat) (sz : Nat) : Met l yX11_isBetter vs_c_isBetter0 ({ frames := 1, cells := 0, slots := 0, locals := 20 }) (va_Pc [.int 0, .int 0, .int 0, .int 0] (wSt dC dI [] [] sz)) (va_Qi (fun (r : Int32) (_ : Unit) => r = 0) (fun (u : Unit) => wEn dC dI (va_A [] sz) [] []) (va_A [] sz)) 0 0 (va_A [] sz) := by
  refine Met.ofW (cc := cX11_isBetter) (maxL := 6) (ret := (some .boolean)) (by decide) rfl ?_
  intro p e s m args below meth c s₁ B hml hv
  obtain ⟨rfl, hsz, hP, hK, hD0, hE⟩ := hv
  have hx := B.exec
  have hb := B.bytes
  have hr := B.returns
  have hts := atoms_spec (ws := vs_c_isBetter0) B.pre
  have hown : s.vm.findClass RX11 = some m.cls := findClass_of_methodNamed B.named
  have hlocks := B.notSynchronized
  subst hsz
  have hD := hD0.self (sz := s.heap.size)
  generalize hAe : va_A [] s.heap.size = A at hD ⊢
  have hA : ∀ q : Nat, s.heap.size ≤ q → A q := fun q h => by rw [← hAe]; exact Or.inr h
  have hl := lv_entry ([.int 0, .int 0, .int 0, .int 0]) (n := 6) (Nat.le_of_ble_eq_true rfl)
  rw [lg_entry_eq]
  generalize (lg_sl ([.int 0, .int 0, .int 0, .int 0]) ++ List.replicate (6 - (lg_sl ([.int 0, .int 0, .int 0, .int 0])).length) Slot.unset).toArray = ls at hl ⊢
  have hl : lv_has ls 6 [(0, .int 0), (1, .int 0), (2, .int 0), (3, .int 0)] := hl
  refine zH (A := A) (ws := []) (fun H hP hS => ?_) hP
  have ho := fun w (h : w ∈ ow_c_isBetter0) => hts w (List.mem_cons_of_mem _ (List.mem_append_left _ h))
  refine lv_iload_n hx hb dX11_isBetter_0 rfl (lv_at hl 0 rfl) ?_
  refine lv_iload_n hx hb dX11_isBetter_1 rfl (lv_at hl 2 rfl) ?_
  refine lv_icmp_eq (tgt := 16) hx hb dX11_isBetter_2 (by decide) (fun _ => ?_) (fun cc => absurd (by decide) cc)
  refine lv_iload_n hx hb dX11_isBetter_16 rfl (lv_at hl 1 rfl) ?_
  have hPc := hP.sub (ws' := []) [] rfl
  have hDc := hD.sub (ws' := []) [] (by decide) rfl
  have hKc := hK.sub (tys' := []) [] rfl
  refine zz_i (wr := []) (va_runS (As := [.int 0]) (rest := []) ⟨hx, hb, hml, hown, hts⟩ (c_bitCount0 l dC dI H.size) (va_cwS 1 hts gd_c_isBetter0_321_c_bitCount0 rfl rfl rfl (by decide +kernel) ⟨Nat.le_of_ble_eq_true rfl, Nat.le_of_ble_eq_true rfl⟩) (preS hPc hKc hDc hE) rfl rfl hl.1 rfl (lv_room (Nat.le_of_ble_eq_true rfl)) dX11_isBetter_17 ⟨Nat.le_of_ble_eq_true rfl, Nat.le_of_ble_eq_true rfl⟩) hK hP hD hS hA [] [] rfl rfl (by decide) (by decide) (fun u H locs hK hP hD hS => ?_)
  have hP : va_P (dC, dI) vwCl [] H := hP
  have hD : va_D A [] := hD
  have hK : va_K (dC, dI) vwCl [] s := hK
  refine W.widen (k := 0) (n := 0) (Nat.le_of_ble_eq_true rfl) (Nat.le_of_ble_eq_true rfl) ?_
  refine lv_istore (lv' := [(4, .int 0), (0, .int 0), (1, .int 0), (2, .int 0), (3, .int 0)]) hx hb dX11_isBetter_20 hl (by decide) rfl (fun ls hl => ?_)
  refine lv_iload_n hx hb dX11_isBetter_22 rfl (lv_at hl 4 rfl) ?_
  have hPc := hP.sub (ws' := []) [] rfl
  have hDc := hD.sub (ws' := []) [] (by decide) rfl
  have hKc := hK.sub (tys' := []) [] rfl
  refine zz_i (wr := []) (va_runS (As := [.int 0]) (rest := []) ⟨hx, hb, hml, hown, hts⟩ (c_bitCount0 l dC dI H.size) (va_cwS 1 hts gd_c_isBetter0_321_c_bitCount0 rfl rfl rfl (by decide +kernel) ⟨Nat.le_of_ble_eq_true rfl, Nat.le_of_ble_eq_true rfl⟩) (preS hPc hKc hDc hE) rfl rfl hl.1 rfl (lv_room (Nat.le_of_ble_eq_true rfl)) dX11_isBetter_23 ⟨Nat.le_of_ble_eq_true rfl, Nat.le_of_ble_eq_true rfl⟩) hK hP hD hS hA [] [] rfl rfl (by decide) (by decide) (fun u H locs hK hP hD hS => ?_)
  have hP : va_P (dC, dI) vwCl [] H := hP
  have hD : va_D A [] := hD
  have hK : va_K (dC, dI) vwCl [] s := hK
  refine W.widen (k := 0) (n := 0) (Nat.le_of_ble_eq_true rfl) (Nat.le_of_ble_eq_true rfl) ?_
  refine lv_istore (lv' := [(5, .int 0), (4, .int 0), (0, .int 0), (1, .int 0), (2, .int 0), (3, .int 0)]) hx hb dX11_isBetter_26 hl (by decide) rfl (fun ls hl => ?_)
  refine lv_iload hx hb dX11_isBetter_28 (lv_at hl 1 rfl) ?_
  refine lv_iload hx hb dX11_isBetter_30 (lv_at hl 0 rfl) ?_
  refine lv_icmp_eq (tgt := 50) hx hb dX11_isBetter_32 (by decide) (fun _ => ?_) (fun cc => absurd (by decide) cc)
  refine lv_iload_n hx hb dX11_isBetter_50 rfl (lv_at hl 3 rfl) ?_
  refine lv_iload_n hx hb dX11_isBetter_51 rfl (lv_at hl 5 rfl) ?_
  refine lv_icmp_ge (tgt := 59) hx hb dX11_isBetter_52 (by decide) (fun _ => ?_) (fun cc => absurd (by decide) cc)
  refine lv_iconst (v := 0) hx hb dX11_isBetter_59 (by decide) ?_
  refine W.widen (k := 0) (n := 0) (Nat.le_of_ble_eq_true rfl) (Nat.le_of_ble_eq_true rfl) ?_
  exact W.zret (v := 0) hx hb hr rfl (fun t ht hW => ⟨⟨0, (), rfl, rfl, wEn_of (hP.sub [] rfl) (hK.sub [] rfl) (hD.sub [] (by decide) rfl) ht hW⟩, hS.F ht⟩) hS.2.2 dX11_isBetter_60
end
