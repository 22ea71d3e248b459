section
-- ===== PART A: goes FIRST, ahead of the names: the tables' words, and 'selects' of the private methods out of them =====
/-- a private method of a class that the tables say can be made, by its rows of tables_1 -/
def lw_okq (q : MethodName × Nat) : Prop := (q.1.cls ≠ "java/lang/invoke/MethodHandle" ∧ q.1.cls ≠ "java/lang/invoke/VarHandle") ∧ Cond.instantiable q.1.cls q.2 ∈ tables_1 ∧ Cond.privateMethod q.1 ∈ tables_1 ∧ Cond.instanceMethod q.1 ∈ tables_1
theorem lw_p0 : lw_okq (⟨"GluedMachines$Invariants", "isRight", "(III[I)Z"⟩, 6) := ⟨⟨by decide +kernel, by decide +kernel⟩, List.mem_of_getElem? (i := 65) (by decide +kernel), List.mem_of_getElem? (i := 227) (by decide +kernel), List.mem_of_getElem? (i := 228) (by decide +kernel)⟩
theorem lw_p1 : lw_okq (⟨"GluedMachines$Duties", "mentionsFor", "(LGluedMachines$Event;)I"⟩, 4) := ⟨⟨by decide +kernel, by decide +kernel⟩, List.mem_of_getElem? (i := 135) (by decide +kernel), List.mem_of_getElem? (i := 259) (by decide +kernel), List.mem_of_getElem? (i := 260) (by decide +kernel)⟩
theorem lw_p2 : lw_okq (⟨"GluedMachines$Duties", "beginRows", "(II)V"⟩, 4) := ⟨⟨by decide +kernel, by decide +kernel⟩, List.mem_of_getElem? (i := 135) (by decide +kernel), List.mem_of_getElem? (i := 276) (by decide +kernel), List.mem_of_getElem? (i := 277) (by decide +kernel)⟩
theorem lw_p3 : lw_okq (⟨"GluedMachines$Duties", "isKept", "(ILGluedMachines$Event;)Z"⟩, 4) := ⟨⟨by decide +kernel, by decide +kernel⟩, List.mem_of_getElem? (i := 135) (by decide +kernel), List.mem_of_getElem? (i := 285) (by decide +kernel), List.mem_of_getElem? (i := 286) (by decide +kernel)⟩
theorem lw_p4 : lw_okq (⟨"GluedMachines$Model", "lookAbove", "(LGluedMachines$Event;[I)V"⟩, 8) := ⟨⟨by decide +kernel, by decide +kernel⟩, List.mem_of_getElem? (i := 57) (by decide +kernel), List.mem_of_getElem? (i := 301) (by decide +kernel), List.mem_of_getElem? (i := 302) (by decide +kernel)⟩
theorem lw_p5 : lw_okq (⟨"GluedMachines$Duties", "nextRow", "()V"⟩, 4) := ⟨⟨by decide +kernel, by decide +kernel⟩, List.mem_of_getElem? (i := 135) (by decide +kernel), List.mem_of_getElem? (i := 316) (by decide +kernel), List.mem_of_getElem? (i := 317) (by decide +kernel)⟩
theorem lw_p6 : lw_okq (⟨"java/lang/Throwable", "fillInStackTrace", "(I)Ljava/lang/Throwable;"⟩, 6) := ⟨⟨by decide +kernel, by decide +kernel⟩, List.mem_of_getElem? (i := 398) (by decide +kernel), List.mem_of_getElem? (i := 396) (by decide +kernel), List.mem_of_getElem? (i := 397) (by decide +kernel)⟩
theorem lw_p7 : lw_okq (⟨"GluedMachines$Writing", "endFrom", "(I)I"⟩, 4) := ⟨⟨by decide +kernel, by decide +kernel⟩, List.mem_of_getElem? (i := 30) (by decide +kernel), List.mem_of_getElem? (i := 468) (by decide +kernel), List.mem_of_getElem? (i := 469) (by decide +kernel)⟩
theorem lw_p8 : lw_okq (⟨"GluedMachines", "mayRefine", "(II)Z"⟩, 8) := ⟨⟨by decide +kernel, by decide +kernel⟩, List.mem_of_getElem? (i := 22) (by decide +kernel), List.mem_of_getElem? (i := 542) (by decide +kernel), List.mem_of_getElem? (i := 543) (by decide +kernel)⟩
theorem lw_p9 : lw_okq (⟨"GluedMachines", "eventAt", "(I)LGluedMachines$Event;"⟩, 8) := ⟨⟨by decide +kernel, by decide +kernel⟩, List.mem_of_getElem? (i := 22) (by decide +kernel), List.mem_of_getElem? (i := 600) (by decide +kernel), List.mem_of_getElem? (i := 601) (by decide +kernel)⟩
theorem lw_p10 : lw_okq (⟨"GluedMachines", "truthAt", "(I)LGluedMachines$Formula;"⟩, 8) := ⟨⟨by decide +kernel, by decide +kernel⟩, List.mem_of_getElem? (i := 22) (by decide +kernel), List.mem_of_getElem? (i := 604) (by decide +kernel), List.mem_of_getElem? (i := 605) (by decide +kernel)⟩
theorem lw_p11 : lw_okq (⟨"GluedMachines", "numberAt", "(I)LGluedMachines$Formula;"⟩, 8) := ⟨⟨by decide +kernel, by decide +kernel⟩, List.mem_of_getElem? (i := 22) (by decide +kernel), List.mem_of_getElem? (i := 626) (by decide +kernel), List.mem_of_getElem? (i := 627) (by decide +kernel)⟩
theorem lw_p12 : lw_okq (⟨"GluedMachines", "isDuty", "(II)Z"⟩, 8) := ⟨⟨by decide +kernel, by decide +kernel⟩, List.mem_of_getElem? (i := 22) (by decide +kernel), List.mem_of_getElem? (i := 674) (by decide +kernel), List.mem_of_getElem? (i := 675) (by decide +kernel)⟩
theorem lw_p13 : lw_okq (⟨"GluedMachines$Duties", "isMoving", "()Z"⟩, 4) := ⟨⟨by decide +kernel, by decide +kernel⟩, List.mem_of_getElem? (i := 135) (by decide +kernel), List.mem_of_getElem? (i := 683) (by decide +kernel), List.mem_of_getElem? (i := 684) (by decide +kernel)⟩
theorem lw_p14 : lw_okq (⟨"GluedMachines", "lowerEventAt", "(II)LGluedMachines$Event;"⟩, 8) := ⟨⟨by decide +kernel, by decide +kernel⟩, List.mem_of_getElem? (i := 22) (by decide +kernel), List.mem_of_getElem? (i := 702) (by decide +kernel), List.mem_of_getElem? (i := 703) (by decide +kernel)⟩
theorem lw_p15 : lw_okq (⟨"GluedMachinesModel", "isWord", "(I)Z"⟩, 33) := ⟨⟨by decide +kernel, by decide +kernel⟩, List.mem_of_getElem? (i := 758) (by decide +kernel), List.mem_of_getElem? (i := 872) (by decide +kernel), List.mem_of_getElem? (i := 873) (by decide +kernel)⟩
def lw_privs_1 : List (MethodName × Nat) := [(⟨"GluedMachines$Invariants", "isRight", "(III[I)Z"⟩, 6), (⟨"GluedMachines$Duties", "mentionsFor", "(LGluedMachines$Event;)I"⟩, 4), (⟨"GluedMachines$Duties", "beginRows", "(II)V"⟩, 4), (⟨"GluedMachines$Duties", "isKept", "(ILGluedMachines$Event;)Z"⟩, 4), (⟨"GluedMachines$Model", "lookAbove", "(LGluedMachines$Event;[I)V"⟩, 8), (⟨"GluedMachines$Duties", "nextRow", "()V"⟩, 4), (⟨"java/lang/Throwable", "fillInStackTrace", "(I)Ljava/lang/Throwable;"⟩, 6), (⟨"GluedMachines$Writing", "endFrom", "(I)I"⟩, 4), (⟨"GluedMachines", "mayRefine", "(II)Z"⟩, 8), (⟨"GluedMachines", "eventAt", "(I)LGluedMachines$Event;"⟩, 8), (⟨"GluedMachines", "truthAt", "(I)LGluedMachines$Formula;"⟩, 8), (⟨"GluedMachines", "numberAt", "(I)LGluedMachines$Formula;"⟩, 8), (⟨"GluedMachines", "isDuty", "(II)Z"⟩, 8), (⟨"GluedMachines$Duties", "isMoving", "()Z"⟩, 4), (⟨"GluedMachines", "lowerEventAt", "(II)LGluedMachines$Event;"⟩, 8), (⟨"GluedMachinesModel", "isWord", "(I)Z"⟩, 33)]
theorem lw_r1 : ∀ q ∈ lw_privs_1, lw_okq q := List.forall_mem_cons.mpr ⟨lw_p0, List.forall_mem_cons.mpr ⟨lw_p1, List.forall_mem_cons.mpr ⟨lw_p2, List.forall_mem_cons.mpr ⟨lw_p3, List.forall_mem_cons.mpr ⟨lw_p4, List.forall_mem_cons.mpr ⟨lw_p5, List.forall_mem_cons.mpr ⟨lw_p6, List.forall_mem_cons.mpr ⟨lw_p7, List.forall_mem_cons.mpr ⟨lw_p8, List.forall_mem_cons.mpr ⟨lw_p9, List.forall_mem_cons.mpr ⟨lw_p10, List.forall_mem_cons.mpr ⟨lw_p11, List.forall_mem_cons.mpr ⟨lw_p12, List.forall_mem_cons.mpr ⟨lw_p13, List.forall_mem_cons.mpr ⟨lw_p14, List.forall_mem_cons.mpr ⟨lw_p15, fun _ h => absurd h List.not_mem_nil⟩⟩⟩⟩⟩⟩⟩⟩⟩⟩⟩⟩⟩⟩⟩⟩
theorem lw_p16 : lw_okq (⟨"GluedMachinesModel", "isFormula", "()Z"⟩, 33) := ⟨⟨by decide +kernel, by decide +kernel⟩, List.mem_of_getElem? (i := 758) (by decide +kernel), List.mem_of_getElem? (i := 880) (by decide +kernel), List.mem_of_getElem? (i := 881) (by decide +kernel)⟩
theorem lw_p17 : lw_okq (⟨"GluedMachinesModel", "parts", "(I)I"⟩, 33) := ⟨⟨by decide +kernel, by decide +kernel⟩, List.mem_of_getElem? (i := 758) (by decide +kernel), List.mem_of_getElem? (i := 884) (by decide +kernel), List.mem_of_getElem? (i := 885) (by decide +kernel)⟩
theorem lw_p18 : lw_okq (⟨"GluedMachinesModel", "wantsTruth", "(II)Z"⟩, 33) := ⟨⟨by decide +kernel, by decide +kernel⟩, List.mem_of_getElem? (i := 758) (by decide +kernel), List.mem_of_getElem? (i := 888) (by decide +kernel), List.mem_of_getElem? (i := 889) (by decide +kernel)⟩
theorem lw_p19 : lw_okq (⟨"GluedMachinesModel", "makesTruth", "(I)Z"⟩, 33) := ⟨⟨by decide +kernel, by decide +kernel⟩, List.mem_of_getElem? (i := 758) (by decide +kernel), List.mem_of_getElem? (i := 892) (by decide +kernel), List.mem_of_getElem? (i := 893) (by decide +kernel)⟩
theorem lw_p20 : lw_okq (⟨"GluedMachinesModel", "noEvent", "(I)Z"⟩, 33) := ⟨⟨by decide +kernel, by decide +kernel⟩, List.mem_of_getElem? (i := 758) (by decide +kernel), List.mem_of_getElem? (i := 904) (by decide +kernel), List.mem_of_getElem? (i := 905) (by decide +kernel)⟩
theorem lw_p21 : lw_okq (⟨"GluedMachinesModel", "mayNot", "(IIZ)Z"⟩, 33) := ⟨⟨by decide +kernel, by decide +kernel⟩, List.mem_of_getElem? (i := 758) (by decide +kernel), List.mem_of_getElem? (i := 912) (by decide +kernel), List.mem_of_getElem? (i := 913) (by decide +kernel)⟩
theorem lw_p22 : lw_okq (⟨"GluedMachinesModel", "noFormula", "(I)Z"⟩, 33) := ⟨⟨by decide +kernel, by decide +kernel⟩, List.mem_of_getElem? (i := 758) (by decide +kernel), List.mem_of_getElem? (i := 916) (by decide +kernel), List.mem_of_getElem? (i := 917) (by decide +kernel)⟩
theorem lw_p23 : lw_okq (⟨"GluedMachinesModel", "noDuty", "(II)Z"⟩, 33) := ⟨⟨by decide +kernel, by decide +kernel⟩, List.mem_of_getElem? (i := 758) (by decide +kernel), List.mem_of_getElem? (i := 940) (by decide +kernel), List.mem_of_getElem? (i := 941) (by decide +kernel)⟩
theorem lw_p24 : lw_okq (⟨"GluedMachinesModel", "isDone", "(II)Z"⟩, 33) := ⟨⟨by decide +kernel, by decide +kernel⟩, List.mem_of_getElem? (i := 758) (by decide +kernel), List.mem_of_getElem? (i := 944) (by decide +kernel), List.mem_of_getElem? (i := 945) (by decide +kernel)⟩
theorem lw_p25 : lw_okq (⟨"GluedMachinesModel", "isRight", "(Z)Z"⟩, 33) := ⟨⟨by decide +kernel, by decide +kernel⟩, List.mem_of_getElem? (i := 758) (by decide +kernel), List.mem_of_getElem? (i := 948) (by decide +kernel), List.mem_of_getElem? (i := 949) (by decide +kernel)⟩
theorem lw_p26 : lw_okq (⟨"GluedMachinesModel", "holds", "(IZ)Z"⟩, 33) := ⟨⟨by decide +kernel, by decide +kernel⟩, List.mem_of_getElem? (i := 758) (by decide +kernel), List.mem_of_getElem? (i := 952) (by decide +kernel), List.mem_of_getElem? (i := 953) (by decide +kernel)⟩
theorem lw_p27 : lw_okq (⟨"GluedMachinesModel", "find", "(IZI)I"⟩, 33) := ⟨⟨by decide +kernel, by decide +kernel⟩, List.mem_of_getElem? (i := 758) (by decide +kernel), List.mem_of_getElem? (i := 956) (by decide +kernel), List.mem_of_getElem? (i := 957) (by decide +kernel)⟩
theorem lw_p28 : lw_okq (⟨"GluedMachinesModel", "worked", "(III)I"⟩, 33) := ⟨⟨by decide +kernel, by decide +kernel⟩, List.mem_of_getElem? (i := 758) (by decide +kernel), List.mem_of_getElem? (i := 960) (by decide +kernel), List.mem_of_getElem? (i := 961) (by decide +kernel)⟩
theorem lw_p29 : lw_okq (⟨"GluedMachinesModel", "clamped", "(I)I"⟩, 33) := ⟨⟨by decide +kernel, by decide +kernel⟩, List.mem_of_getElem? (i := 758) (by decide +kernel), List.mem_of_getElem? (i := 964) (by decide +kernel), List.mem_of_getElem? (i := 965) (by decide +kernel)⟩
theorem lw_p30 : lw_okq (⟨"GluedMachinesModel", "someMoves", "()Z"⟩, 33) := ⟨⟨by decide +kernel, by decide +kernel⟩, List.mem_of_getElem? (i := 758) (by decide +kernel), List.mem_of_getElem? (i := 968) (by decide +kernel), List.mem_of_getElem? (i := 969) (by decide +kernel)⟩
theorem lw_p31 : lw_okq (⟨"GluedMachinesModel", "isEnabled", "(II)Z"⟩, 33) := ⟨⟨by decide +kernel, by decide +kernel⟩, List.mem_of_getElem? (i := 758) (by decide +kernel), List.mem_of_getElem? (i := 972) (by decide +kernel), List.mem_of_getElem? (i := 973) (by decide +kernel)⟩
def lw_privs_2 : List (MethodName × Nat) := [(⟨"GluedMachinesModel", "isFormula", "()Z"⟩, 33), (⟨"GluedMachinesModel", "parts", "(I)I"⟩, 33), (⟨"GluedMachinesModel", "wantsTruth", "(II)Z"⟩, 33), (⟨"GluedMachinesModel", "makesTruth", "(I)Z"⟩, 33), (⟨"GluedMachinesModel", "noEvent", "(I)Z"⟩, 33), (⟨"GluedMachinesModel", "mayNot", "(IIZ)Z"⟩, 33), (⟨"GluedMachinesModel", "noFormula", "(I)Z"⟩, 33), (⟨"GluedMachinesModel", "noDuty", "(II)Z"⟩, 33), (⟨"GluedMachinesModel", "isDone", "(II)Z"⟩, 33), (⟨"GluedMachinesModel", "isRight", "(Z)Z"⟩, 33), (⟨"GluedMachinesModel", "holds", "(IZ)Z"⟩, 33), (⟨"GluedMachinesModel", "find", "(IZI)I"⟩, 33), (⟨"GluedMachinesModel", "worked", "(III)I"⟩, 33), (⟨"GluedMachinesModel", "clamped", "(I)I"⟩, 33), (⟨"GluedMachinesModel", "someMoves", "()Z"⟩, 33), (⟨"GluedMachinesModel", "isEnabled", "(II)Z"⟩, 33)]
theorem lw_r2 : ∀ q ∈ lw_privs_2, lw_okq q := List.forall_mem_cons.mpr ⟨lw_p16, List.forall_mem_cons.mpr ⟨lw_p17, List.forall_mem_cons.mpr ⟨lw_p18, List.forall_mem_cons.mpr ⟨lw_p19, List.forall_mem_cons.mpr ⟨lw_p20, List.forall_mem_cons.mpr ⟨lw_p21, List.forall_mem_cons.mpr ⟨lw_p22, List.forall_mem_cons.mpr ⟨lw_p23, List.forall_mem_cons.mpr ⟨lw_p24, List.forall_mem_cons.mpr ⟨lw_p25, List.forall_mem_cons.mpr ⟨lw_p26, List.forall_mem_cons.mpr ⟨lw_p27, List.forall_mem_cons.mpr ⟨lw_p28, List.forall_mem_cons.mpr ⟨lw_p29, List.forall_mem_cons.mpr ⟨lw_p30, List.forall_mem_cons.mpr ⟨lw_p31, fun _ h => absurd h List.not_mem_nil⟩⟩⟩⟩⟩⟩⟩⟩⟩⟩⟩⟩⟩⟩⟩⟩
theorem lw_p32 : lw_okq (⟨"GluedMachinesModel", "isKept", "(III)Z"⟩, 33) := ⟨⟨by decide +kernel, by decide +kernel⟩, List.mem_of_getElem? (i := 758) (by decide +kernel), List.mem_of_getElem? (i := 976) (by decide +kernel), List.mem_of_getElem? (i := 977) (by decide +kernel)⟩
theorem lw_p33 : lw_okq (⟨"GluedMachinesModel", "lead", "(II)V"⟩, 33) := ⟨⟨by decide +kernel, by decide +kernel⟩, List.mem_of_getElem? (i := 758) (by decide +kernel), List.mem_of_getElem? (i := 980) (by decide +kernel), List.mem_of_getElem? (i := 981) (by decide +kernel)⟩
theorem lw_p34 : lw_okq (⟨"GluedMachinesModel", "isWithin", "(II)Z"⟩, 33) := ⟨⟨by decide +kernel, by decide +kernel⟩, List.mem_of_getElem? (i := 758) (by decide +kernel), List.mem_of_getElem? (i := 984) (by decide +kernel), List.mem_of_getElem? (i := 985) (by decide +kernel)⟩
theorem lw_p35 : lw_okq (⟨"GluedMachinesModel", "isFollowed", "(II)Z"⟩, 33) := ⟨⟨by decide +kernel, by decide +kernel⟩, List.mem_of_getElem? (i := 758) (by decide +kernel), List.mem_of_getElem? (i := 988) (by decide +kernel), List.mem_of_getElem? (i := 989) (by decide +kernel)⟩
theorem lw_p36 : lw_okq (⟨"GluedMachinesModel", "witnessOf", "(II)I"⟩, 33) := ⟨⟨by decide +kernel, by decide +kernel⟩, List.mem_of_getElem? (i := 758) (by decide +kernel), List.mem_of_getElem? (i := 992) (by decide +kernel), List.mem_of_getElem? (i := 993) (by decide +kernel)⟩
theorem lw_p37 : lw_okq (⟨"GluedMachinesModel", "leadBoth", "(II)Z"⟩, 33) := ⟨⟨by decide +kernel, by decide +kernel⟩, List.mem_of_getElem? (i := 758) (by decide +kernel), List.mem_of_getElem? (i := 996) (by decide +kernel), List.mem_of_getElem? (i := 997) (by decide +kernel)⟩
theorem lw_p38 : lw_okq (⟨"GluedMachinesModel", "count", "(I)Z"⟩, 33) := ⟨⟨by decide +kernel, by decide +kernel⟩, List.mem_of_getElem? (i := 758) (by decide +kernel), List.mem_of_getElem? (i := 1000) (by decide +kernel), List.mem_of_getElem? (i := 1001) (by decide +kernel)⟩
theorem lw_p39 : lw_okq (⟨"GluedMachinesModel", "checked", "(II)I"⟩, 33) := ⟨⟨by decide +kernel, by decide +kernel⟩, List.mem_of_getElem? (i := 758) (by decide +kernel), List.mem_of_getElem? (i := 1020) (by decide +kernel), List.mem_of_getElem? (i := 1021) (by decide +kernel)⟩
theorem lw_p40 : lw_okq (⟨"GluedMachinesModel", "look", "()V"⟩, 33) := ⟨⟨by decide +kernel, by decide +kernel⟩, List.mem_of_getElem? (i := 758) (by decide +kernel), List.mem_of_getElem? (i := 1024) (by decide +kernel), List.mem_of_getElem? (i := 1025) (by decide +kernel)⟩
def lw_privs_3 : List (MethodName × Nat) := [(⟨"GluedMachinesModel", "isKept", "(III)Z"⟩, 33), (⟨"GluedMachinesModel", "lead", "(II)V"⟩, 33), (⟨"GluedMachinesModel", "isWithin", "(II)Z"⟩, 33), (⟨"GluedMachinesModel", "isFollowed", "(II)Z"⟩, 33), (⟨"GluedMachinesModel", "witnessOf", "(II)I"⟩, 33), (⟨"GluedMachinesModel", "leadBoth", "(II)Z"⟩, 33), (⟨"GluedMachinesModel", "count", "(I)Z"⟩, 33), (⟨"GluedMachinesModel", "checked", "(II)I"⟩, 33), (⟨"GluedMachinesModel", "look", "()V"⟩, 33)]
theorem lw_r3 : ∀ q ∈ lw_privs_3, lw_okq q := List.forall_mem_cons.mpr ⟨lw_p32, List.forall_mem_cons.mpr ⟨lw_p33, List.forall_mem_cons.mpr ⟨lw_p34, List.forall_mem_cons.mpr ⟨lw_p35, List.forall_mem_cons.mpr ⟨lw_p36, List.forall_mem_cons.mpr ⟨lw_p37, List.forall_mem_cons.mpr ⟨lw_p38, List.forall_mem_cons.mpr ⟨lw_p39, List.forall_mem_cons.mpr ⟨lw_p40, fun _ h => absurd h List.not_mem_nil⟩⟩⟩⟩⟩⟩⟩⟩⟩
def lw_privs : List (MethodName × Nat) := lw_privs_1 ++ (lw_privs_2 ++ (lw_privs_3))
def lw_tbl : List Cond := k2_sels lw_privs ++ tables_1
theorem lw_privs_ok : ∀ q ∈ lw_privs, lw_okq q := by
  show ∀ q ∈ lw_privs_1 ++ (lw_privs_2 ++ (lw_privs_3)), lw_okq q
  exact List.forall_mem_append.mpr ⟨lw_r1, List.forall_mem_append.mpr ⟨lw_r2, lw_r3⟩⟩
end
section
/-! An abstract machine of our own: a heap is a list of cells at addresses 0, 1, ..; a run is a function of fuel. -/
section AM
abbrev am_E : Type := (Nat × vp_A) ⊕ (Nat × List Value)
abbrev am_H : Type := List am_E
abbrev am_L : Type := List (Option Value)
/-- how a method ends: it returned, or threw an exception of a class by its number -/
abbrev am_A : Type := Option Value ⊕ Nat
abbrev am_O : Type := (Nat × am_L × List Value × am_H) ⊕ ((Nat × List Value × List Value) ⊕ am_A)
/-- a method: its name, code, locals, answer, handlers (from, to, where, place in the pool, class), frames, words -/
abbrev am_M : Type := MethodName × ByteArray × Nat × Option FieldType × List (Nat × Nat × Nat × Nat × Nat) × Nat × Nat
/-- methods; fields (class, place, type, may be written here); callees (number, arguments, kind: 0 static, 1 virtual, 2 a constructor); members that are known; classes that are made; exceptions that are made; arrays of objects that are made; what a new object holds; the class of a method's own objects; the component of an array; the script; constants of the pool; the exceptions' classes -/
abbrev am_P : Type := (Nat → am_M) × (Nat → Nat → Option (Nat × Nat × FieldType × Bool)) × (Nat → Nat → Option (Nat × Nat × Nat)) × (Nat → Nat → Option Nat) × (Nat → Nat → Option Nat) × (Nat → Nat → Nat → Option Nat) × (Nat → Nat → Option Nat) × (Nat → List Value) × (Nat → Nat) × (Nat → Nat) × Nat × (Nat → Int32) × (Nat → Nat → Option Int32) × List Nat
abbrev am_me (P : am_P) : Nat → am_M := P.1
abbrev am_fd (P : am_P) : Nat → Nat → Option (Nat × Nat × FieldType × Bool) := P.2.1
abbrev am_ca (P : am_P) : Nat → Nat → Option (Nat × Nat × Nat) := P.2.2.1
abbrev am_sp (P : am_P) : Nat → Nat → Option Nat := P.2.2.2.1
abbrev am_nw (P : am_P) : Nat → Nat → Option Nat := P.2.2.2.2.1
abbrev am_xn (P : am_P) : Nat → Nat → Nat → Option Nat := P.2.2.2.2.2.1
abbrev am_an (P : am_P) : Nat → Nat → Option Nat := P.2.2.2.2.2.2.1
abbrev am_df (P : am_P) : Nat → List Value := P.2.2.2.2.2.2.2.1
abbrev am_rc (P : am_P) : Nat → Nat := P.2.2.2.2.2.2.2.2.1
abbrev am_cp (P : am_P) : Nat → Nat := P.2.2.2.2.2.2.2.2.2.1
abbrev am_sL (P : am_P) : Nat := P.2.2.2.2.2.2.2.2.2.2.1
abbrev am_sX (P : am_P) : Nat → Int32 := P.2.2.2.2.2.2.2.2.2.2.2.1
abbrev am_kc (P : am_P) : Nat → Nat → Option Int32 := P.2.2.2.2.2.2.2.2.2.2.2.2.1
abbrev am_xl (P : am_P) : List Nat := P.2.2.2.2.2.2.2.2.2.2.2.2.2
abbrev am_nm (M : am_M) : MethodName := M.1
abbrev am_cd (M : am_M) : ByteArray := M.2.1
abbrev am_ml (M : am_M) : Nat := M.2.2.1
abbrev am_rt (M : am_M) : Option FieldType := M.2.2.2.1
abbrev am_hd (M : am_M) : List (Nat × Nat × Nat × Nat × Nat) := M.2.2.2.2.1
abbrev am_rf (M : am_M) : Nat := M.2.2.2.2.2.1
abbrev am_rl (M : am_M) : Nat := M.2.2.2.2.2.2
/-- the script's own address -/
def am_scr : Nat := 1000000000
abbrev am_I (n : Nat) (f : Nat → Int32) : am_E := .inl (0, n, .inl f)
abbrev am_J (n : Nat) (f : Nat → Int64) : am_E := .inl (1, n, .inr (.inl f))
abbrev am_Z (n : Nat) (f : Nat → Int32) : am_E := .inl (2, n, .inl f)
abbrev am_R (t n : Nat) (g : Nat → Option Nat) : am_E := .inl (t, n, .inr (.inr (.inr (.inr g))))
abbrev am_B (c : Nat) (fs : List Value) : am_E := .inr (c, fs)
/-- the slots of a cell; an exception has six -/
def am_ez : am_E → Nat
  | .inl a => a.2.1
  | .inr (_, []) => 6
  | .inr (_, v :: r) => (v :: r).length
def am_sl (h : am_H) : Nat := (h.map am_ez).sum
def am_nx (pc : Nat) (lo : am_L) (st : List Value) (h : am_H) : Option am_O := some (.inl (pc, lo, st, h))
def am_wd (st : List Value) : Nat := (st.map fun v => v.category).sum
def am_in (i : Int32) (n : Nat) : Bool := decide (0 ≤ i.toInt) && decide (i.toInt < n)
-- what an instruction takes from the stack
def am_i1 (st : List Value) (k : Int32 → List Value → Option am_O) : Option am_O := match st with
  | .int x :: r => k x r
  | _ => none
def am_i2 (st : List Value) (k : Int32 → Int32 → List Value → Option am_O) : Option am_O := match st with
  | .int y :: .int x :: r => k x y r
  | _ => none
def am_j2 (st : List Value) (k : Int64 → Int64 → List Value → Option am_O) : Option am_O := match st with
  | .long y :: .long x :: r => k x y r
  | _ => none
def am_ij (st : List Value) (k : Int64 → Int32 → List Value → Option am_O) : Option am_O := match st with
  | .int y :: .long x :: r => k x y r
  | _ => none
def am_r1 (st : List Value) (k : Nat → List Value → Option am_O) : Option am_O := match st with
  | .ref a :: r => k a r
  | _ => none
def am_ir (st : List Value) (k : Int32 → Nat → List Value → Option am_O) : Option am_O := match st with
  | .int i :: .ref a :: r => k i a r
  | _ => none
def am_vr (st : List Value) (k : Value → Nat → List Value → Option am_O) : Option am_O := match st with
  | v :: .ref a :: r => k v a r
  | _ => none
def am_vir (st : List Value) (k : Value → Int32 → Nat → List Value → Option am_O) : Option am_O := match st with
  | v :: .int i :: .ref a :: r => k v i a r
  | _ => none
def am_cy (st : List Value) (k : Nat → Int32 → Nat → Int32 → Int32 → List Value → Option am_O) : Option am_O := match st with
  | .int n :: .int dp :: .ref a1 :: .int sp :: .ref a0 :: r => k a0 sp a1 dp n r
  | _ => none
-- what lies at an address
def am_gI (h : am_H) (a : Nat) (k : Nat → (Nat → Int32) → Option am_O) : Option am_O := match h[a]? with
  | some (.inl (0, n, .inl f)) => k n f
  | _ => none
def am_gJ (h : am_H) (a : Nat) (k : Nat → (Nat → Int64) → Option am_O) : Option am_O := match h[a]? with
  | some (.inl (1, n, .inr (.inl f))) => k n f
  | _ => none
def am_gZ (h : am_H) (a : Nat) (k : Nat → (Nat → Int32) → Option am_O) : Option am_O := match h[a]? with
  | some (.inl (2, n, .inl f)) => k n f
  | _ => none
def am_gR (h : am_H) (a : Nat) (k : Nat → Nat → (Nat → Option Nat) → Option am_O) : Option am_O := match h[a]? with
  | some (.inl (t, n, .inr (.inr (.inr (.inr g))))) => k t n g
  | _ => none
def am_gB (h : am_H) (a : Nat) (k : Nat → List Value → Option am_O) : Option am_O := match h[a]? with
  | some (.inr (c, fs)) => k c fs
  | _ => none
-- locals
def am_li (pc k : Nat) (lo : am_L) (st : List Value) (h : am_H) : Option am_O := match lo[k]? with
  | some (some (.int x)) => am_nx pc lo (.int x :: st) h
  | _ => none
def am_lj (pc k : Nat) (lo : am_L) (st : List Value) (h : am_H) : Option am_O := match lo[k]? with
  | some (some (.long x)) => am_nx pc lo (.long x :: st) h
  | _ => none
def am_la (pc k : Nat) (lo : am_L) (st : List Value) (h : am_H) : Option am_O := match lo[k]? with
  | some (some (.ref x)) => am_nx pc lo (.ref x :: st) h
  | some (some .null) => am_nx pc lo (.null :: st) h
  | _ => none
/-- no long before the place -/
def am_pv (lo : am_L) : Nat → Bool
  | 0 => true
  | j + 1 => match lo[j]? with
    | some (some v) => v.category == 1
    | _ => true
def am_s1 (pc k : Nat) (v : Value) (lo : am_L) (r : List Value) (h : am_H) : Option am_O :=
  if (decide (k < lo.length) && am_pv lo k && v.category == 1) = true then am_nx pc (lo.set k (some v)) r h else none
def am_s2 (pc k : Nat) (v : Value) (lo : am_L) (r : List Value) (h : am_H) : Option am_O :=
  if (decide (k + 1 < lo.length) && am_pv lo k && v.category == 2) = true then am_nx pc ((lo.set k (some v)).set (k + 1) none) r h else none
def am_si (pc k : Nat) (lo : am_L) (st : List Value) (h : am_H) : Option am_O := match st with
  | .int x :: r => am_s1 pc k (.int x) lo r h
  | _ => none
def am_sj (pc k : Nat) (lo : am_L) (st : List Value) (h : am_H) : Option am_O := match st with
  | .long x :: r => am_s2 pc k (.long x) lo r h
  | _ => none
def am_sa (pc k : Nat) (lo : am_L) (st : List Value) (h : am_H) : Option am_O := match st with
  | .ref x :: r => am_s1 pc k (.ref x) lo r h
  | .null :: r => am_s1 pc k .null lo r h
  | _ => none
-- jumps
def am_to (pc : Nat) (off : Int) (k : Nat → Option am_O) : Option am_O := if 0 ≤ (pc : Int) + off then k ((pc : Int) + off).toNat else none
def am_cc (c : ClassFile.Cond) (x y : Int32) : Bool := match c with
  | .eq => decide (x = y)
  | .ne => !decide (x = y)
  | .lt => decide (x < y)
  | .ge => decide (y ≤ x)
  | .gt => decide (y < x)
  | .le => decide (x ≤ y)
/-- a value that a field of a type takes as it is -/
def am_ft (ty : FieldType) (v : Value) : Bool := match ty, v with
  | .int, .int _ => true
  | .boolean, .int x => decide (x = 0) || decide (x = 1)
  | .object _, .ref _ => true
  | .object _, .null => true
  | .array _, .ref _ => true
  | .array _, .null => true
  | _, _ => false
def am_call (P : am_P) (y z : Nat) (as rest : List Value) : Option am_O :=
  if (decide (am_rf (am_me P z) + 1 ≤ am_rf (am_me P y)) && decide (am_wd rest + (am_ml (am_me P z) + 11) + am_rl (am_me P z) ≤ am_rl (am_me P y))) = true then some (.inr (.inl (z, as, rest))) else none
/-- n arguments from the stack, the last on top -/
def am_as (n : Nat) (st : List Value) (k : List Value → List Value → Option am_O) : Option am_O := if n ≤ st.length then k (st.take n).reverse (st.drop n) else none
end AM
section AMX
/-- the length of an instruction (a switch has any) -/
def am_ln (i : Instr) (len : Nat) : Bool := match i with
  | .bipush _ => len == 2
  | .sipush _ => len == 3
  | .iload _ => len == 2
  | .lload _ => len == 2
  | .aload _ => len == 2
  | .istore _ => len == 2
  | .lstore _ => len == 2
  | .astore _ => len == 2
  | .iinc _ _ => len == 3
  | .ifCond _ _ => len == 3
  | .if_icmp _ _ => len == 3
  | .ifnull _ => len == 3
  | .ifnonnull _ => len == 3
  | .goto _ => len == 3
  | .getfield _ => len == 3
  | .putfield _ => len == 3
  | .new _ => len == 3
  | .anewarray _ => len == 3
  | .newarray _ => len == 2
  | .ldc_w _ => len == 3
  | .checkcast _ => len == 3
  | .invokestatic _ => len == 3
  | .invokevirtual _ => len == 3
  | .invokespecial _ => len == 3
  | .tableswitch _ _ _ _ => true
  | .lookupswitch _ _ => true
  | _ => len == 1
/-- the answer is an object -/
def am_ro (t : Option FieldType) : Bool := match t with
  | some (.object _) => true
  | some (.array _) => true
  | _ => false
def am_ex (P : am_P) (y pc : Nat) (i : Instr) (lo : am_L) (st : List Value) (h : am_H) : Option am_O := match i with
  | .iconst n => am_nx (pc + 1) lo (.int (Int32.ofInt n) :: st) h
  | .bipush n => am_nx (pc + 2) lo (.int (Int8.ofInt n).toInt32 :: st) h
  | .sipush n => am_nx (pc + 3) lo (.int (Int16.ofInt n).toInt32 :: st) h
  | .lconst n => am_nx (pc + 1) lo (.long (Int64.ofNat (n : Nat)) :: st) h
  | .aconst_null => am_nx (pc + 1) lo (.null :: st) h
  | .ldc_w ix => (match am_kc P y ix with
    | some v => am_nx (pc + 3) lo (.int v :: st) h
    | none => none)
  | .iload k => am_li (pc + 2) k lo st h
  | .iload_n k => am_li (pc + 1) k lo st h
  | .lload k => am_lj (pc + 2) k lo st h
  | .lload_n k => am_lj (pc + 1) k lo st h
  | .aload k => am_la (pc + 2) k lo st h
  | .aload_n k => am_la (pc + 1) k lo st h
  | .istore k => am_si (pc + 2) k lo st h
  | .istore_n k => am_si (pc + 1) k lo st h
  | .lstore k => am_sj (pc + 2) k lo st h
  | .lstore_n k => am_sj (pc + 1) k lo st h
  | .astore k => am_sa (pc + 2) k lo st h
  | .astore_n k => am_sa (pc + 1) k lo st h
  | .iinc k n => (match lo[k]? with
    | some (some (.int x)) => am_s1 (pc + 3) k (.int (x + Int32.ofInt n)) lo st h
    | _ => none)
  | .iadd => am_i2 st fun a b r => am_nx (pc + 1) lo (.int (a + b) :: r) h
  | .isub => am_i2 st fun a b r => am_nx (pc + 1) lo (.int (a - b) :: r) h
  | .imul => am_i2 st fun a b r => am_nx (pc + 1) lo (.int (a * b) :: r) h
  | .idiv => am_i2 st fun a b r => if b = 0 then none else am_nx (pc + 1) lo (.int (a / b) :: r) h
  | .iand => am_i2 st fun a b r => am_nx (pc + 1) lo (.int (a &&& b) :: r) h
  | .ior => am_i2 st fun a b r => am_nx (pc + 1) lo (.int (a ||| b) :: r) h
  | .ixor => am_i2 st fun a b r => am_nx (pc + 1) lo (.int (a ^^^ b) :: r) h
  | .ishl => am_i2 st fun a b r => am_nx (pc + 1) lo (.int (a <<< (b &&& 31)) :: r) h
  | .iushr => am_i2 st fun a b r => am_nx (pc + 1) lo (.int (a.toUInt32 >>> (b.toUInt32 &&& Int32.toUInt32 31)).toInt32 :: r) h
  | .land => am_j2 st fun a b r => am_nx (pc + 1) lo (.long (a &&& b) :: r) h
  | .lor => am_j2 st fun a b r => am_nx (pc + 1) lo (.long (a ||| b) :: r) h
  | .lshl => am_ij st fun a b r => am_nx (pc + 1) lo (.long (a <<< (b.toInt64 &&& 63)) :: r) h
  | .lcmp => am_j2 st fun a b r => am_nx (pc + 1) lo (.int (lg_cmp a b) :: r) h
  | .i2l => am_i1 st fun a r => am_nx (pc + 1) lo (.long a.toInt64 :: r) h
  | .dup => (match st with
    | v :: r => if v.category = 1 then am_nx (pc + 1) lo (v :: v :: r) h else none
    | _ => none)
  | .pop => (match st with
    | v :: r => if v.category = 1 then am_nx (pc + 1) lo r h else none
    | _ => none)
  | .dup_x1 => (match st with
    | v :: w :: r => if v.category = 1 ∧ w.category = 1 then am_nx (pc + 1) lo (v :: w :: v :: r) h else none
    | _ => none)
  | .dup_x2 => (match st with
    | v :: w :: u :: r => if v.category = 1 ∧ w.category = 1 ∧ u.category = 1 then am_nx (pc + 1) lo (v :: w :: u :: v :: r) h else none
    | _ => none)
  | .dup2 => (match st with
    | v :: w :: r => if v.category = 1 ∧ w.category = 1 then am_nx (pc + 1) lo (v :: w :: v :: w :: r) h else none
    | _ => none)
  | .ifCond c off => am_i1 st fun x r => am_to pc off fun t => am_nx (if am_cc c x 0 = true then t else pc + 3) lo r h
  | .if_icmp c off => am_i2 st fun a b r => am_to pc off fun t => am_nx (if am_cc c a b = true then t else pc + 3) lo r h
  | .ifnull off => (match st with
    | .null :: r => am_to pc off fun t => am_nx t lo r h
    | .ref _ :: r => am_nx (pc + 3) lo r h
    | _ => none)
  | .ifnonnull off => (match st with
    | .null :: r => am_nx (pc + 3) lo r h
    | .ref _ :: r => am_to pc off fun t => am_nx t lo r h
    | _ => none)
  | .goto off => am_to pc off fun t => am_nx t lo st h
  | .tableswitch d a b offs => am_i1 st fun x r => if x.toInt < a ∨ b < x.toInt then am_to pc d fun t => am_nx t lo r h else match offs[(x.toInt - a).toNat]? with
    | some o => am_to pc o fun t => am_nx t lo r h
    | none => none
  | .lookupswitch d ps => am_i1 st fun x r => if (ps.toList.zip (ps.toList.drop 1)).all (fun q => decide (q.1.1 < q.2.1)) = true then am_to pc (Op.lookupswitch.offset ps.toList d x.toInt) fun t => am_nx t lo r h else none
  | .getfield ix => (match am_fd P y ix with
    | some (ci, k, _, _) => am_r1 st fun a r => am_gB h a fun c fs => if c = ci then (match fs[k]? with
      | some v => am_nx (pc + 3) lo (v :: r) h
      | none => none) else none
    | none => none)
  | .putfield ix => (match am_fd P y ix with
    | some (ci, k, ty, true) => am_vr st fun v a r => am_gB h a fun c fs => if c = ci ∧ k < fs.length ∧ am_ft ty v = true then am_nx (pc + 3) lo r (h.set a (.inr (c, fs.set k v))) else none
    | _ => none)
  | .iaload => am_ir st fun i a r => if a = am_scr then (if am_in i (am_sL P) = true then am_nx (pc + 1) lo (.int (am_sX P i.toNatClampNeg) :: r) h else none) else am_gI h a fun n f => if am_in i n = true then am_nx (pc + 1) lo (.int (f i.toNatClampNeg) :: r) h else none
  | .baload => am_ir st fun i a r => am_gZ h a fun n f => if am_in i n = true then am_nx (pc + 1) lo (.int (f i.toNatClampNeg) :: r) h else none
  | .laload => am_ir st fun i a r => am_gJ h a fun n f => if am_in i n = true then am_nx (pc + 1) lo (.long (f i.toNatClampNeg) :: r) h else none
  | .aaload => am_ir st fun i a r => am_gR h a fun t n g => if am_in i n = true ∧ 2 < t ∧ t < 5 then am_nx (pc + 1) lo (va_rf (g i.toNatClampNeg) :: r) h else none
  | .iastore => am_vir st fun v i a r => (match v with
    | .int x => am_gI h a fun n f => if am_in i n = true then am_nx (pc + 1) lo r (h.set a (am_I n (upd f i.toNatClampNeg x))) else none
    | _ => none)
  | .bastore => am_vir st fun v i a r => (match v with
    | .int x => am_gZ h a fun n f => if am_in i n = true then am_nx (pc + 1) lo r (h.set a (am_Z n (upd f i.toNatClampNeg (vp_nar .boolean x)))) else none
    | _ => none)
  | .lastore => am_vir st fun v i a r => (match v with
    | .long x => am_gJ h a fun n f => if am_in i n = true then am_nx (pc + 1) lo r (h.set a (am_J n (vp_updL f i.toNatClampNeg x))) else none
    | _ => none)
  | .aastore => am_vir st fun v i a r => (match v with
    | .ref x => am_gR h a fun t n g => am_gB h x fun ci _ => if (am_in i n = true ∧ 2 < t ∧ t < 5) ∧ am_cp P t = ci then am_nx (pc + 1) lo r (h.set a (am_R t n (va_up g i.toNatClampNeg (some x)))) else none
    | _ => none)
  | .arraylength => am_r1 st fun a r => if a = am_scr then am_nx (pc + 1) lo (.int (Int32.ofNat (am_sL P)) :: r) h else (match h[a]? with
    | some (.inl (t, n, _)) => if t < 5 then am_nx (pc + 1) lo (.int (Int32.ofNat n) :: r) h else none
    | _ => none)
  | .newarray ty => am_i1 st fun x r => if 0 ≤ x.toInt ∧ x.toInt < 100000 then (match ty with
    | .int => am_nx (pc + 2) lo (.ref h.length :: r) (h ++ [am_I x.toNatClampNeg (fun _ => 0)])
    | .long => am_nx (pc + 2) lo (.ref h.length :: r) (h ++ [am_J x.toNatClampNeg (fun _ => 0)])
    | .boolean => am_nx (pc + 2) lo (.ref h.length :: r) (h ++ [am_Z x.toNatClampNeg (fun _ => 0)])
    | _ => none) else none
  | .anewarray ix => (match am_an P y ix with
    | some t => am_i1 st fun x r => if 0 ≤ x.toInt ∧ x.toInt < 100000 then am_nx (pc + 3) lo (.ref h.length :: r) (h ++ [am_R t x.toNatClampNeg (fun _ => none)]) else none
    | none => none)
  | .new ix => (match am_nw P y ix with
    | some ci => am_nx (pc + 3) lo (.ref h.length :: st) (h ++ [.inr (ci, am_df P ci)])
    | none => (match decode (am_cd (am_me P y)) (pc + 3), decode (am_cd (am_me P y)) (pc + 4), decode (am_cd (am_me P y)) (pc + 7) with
      | .ok (.dup, 1), .ok (.invokespecial ic, 3), .ok (.athrow, 1) => (match am_xn P y ix ic with
        | some ci => if 5 < am_rf (am_me P y) ∧ am_wd st + 82 ≤ am_rl (am_me P y) then some (.inr (.inr (.inr ci))) else none
        | none => none)
      | _, _, _ => none))
  | .invokespecial ix => (match am_sp P y ix with
    | some 0 => am_r1 st fun _ r => if 1 ≤ am_rf (am_me P y) ∧ am_wd r + 12 ≤ am_rl (am_me P y) then am_nx (pc + 3) lo r h else none
    | some _ => none
    | none => (match am_ca P y ix with
      | some (z, n, 2) => am_as n st fun as r => am_r1 r fun a r => am_call P y z (.ref a :: as) r
      | _ => none))
  | .checkcast ix => (match am_sp P y ix with
    | some 5 => am_r1 st fun a r => am_gI h a fun _ _ => am_nx (pc + 3) lo (.ref a :: r) h
    | _ => none)
  | .invokevirtual ix => (match am_sp P y ix with
    | some 4 => am_r1 st fun a r => am_gI h a fun n f => if 1 ≤ am_rf (am_me P y) ∧ am_wd r + 14 ≤ am_rl (am_me P y) then am_nx (pc + 3) lo (.ref h.length :: r) (h ++ [am_I n f]) else none
    | some _ => none
    | none => (match am_ca P y ix with
      | some (z, n, 1) => am_as n st fun as r => am_r1 r fun a r => am_gB h a fun c _ => if c = am_rc P z then am_call P y z (.ref a :: as) r else none
      | _ => none))
  | .invokestatic ix => (match am_sp P y ix with
    | some 1 => am_i2 st fun a b r => if 1 ≤ am_rf (am_me P y) ∧ am_wd r + 13 ≤ am_rl (am_me P y) then am_nx (pc + 3) lo (.int (if a < b then b else a) :: r) h else none
    | some 2 => am_i2 st fun a b r => if 1 ≤ am_rf (am_me P y) ∧ am_wd r + 13 ≤ am_rl (am_me P y) then am_nx (pc + 3) lo (.int (if b < a then b else a) :: r) h else none
    | some 3 => am_cy st fun a0 sp a1 dp k r => am_gI h a0 fun n0 f => am_gI h a1 fun n1 g =>
        if (0 ≤ sp.toInt ∧ 0 ≤ dp.toInt ∧ 0 ≤ k.toInt ∧ sp.toNatClampNeg + k.toNatClampNeg ≤ n0 ∧ dp.toNatClampNeg + k.toNatClampNeg ≤ n1) ∧ 1 ≤ am_rf (am_me P y) ∧ am_wd r + (nativeFrameWords "java/lang/System" "arraycopy" 5 + 11) ≤ am_rl (am_me P y) then
          am_nx (pc + 3) lo r (h.set a1 (am_I n1 (va_cpy f g sp.toNatClampNeg dp.toNatClampNeg k.toNatClampNeg))) else none
    | some _ => none
    | none => (match am_ca P y ix with
      | some (z, n, 0) => am_as n st fun as r => am_call P y z as r
      | _ => none))
  | .ireturn => (match st with
    | [.int x] => if am_rt (am_me P y) = some .int ∨ (am_rt (am_me P y) = some .boolean ∧ (x = 0 ∨ x = 1)) then some (.inr (.inr (.inl (some (.int x))))) else none
    | _ => none)
  | .areturn => if am_ro (am_rt (am_me P y)) = true then (match st with
    | [.ref x] => some (.inr (.inr (.inl (some (.ref x)))))
    | [.null] => some (.inr (.inr (.inl (some .null))))
    | _ => none) else none
  | .return_ => if am_rt (am_me P y) = none then (match st with
    | [] => some (.inr (.inr (.inl none)))
    | _ => none) else none
  | _ => none
def am_st (P : am_P) (y pc : Nat) (lo : am_L) (st : List Value) (h : am_H) : Option am_O := match decode (am_cd (am_me P y)) pc with
  | .ok (i, len) => if am_ln i len = true then am_ex P y pc i lo st h else none
  | _ => none
/-- the slots of the arguments; a long takes two -/
def am_en : List Value → am_L
  | [] => []
  | v :: r => if v.category = 1 then some v :: am_en r else some v :: none :: am_en r
def am_en0 (P : am_P) (z : Nat) (as : List Value) : Option am_L := if (am_en as).length ≤ am_ml (am_me P z) then some (am_en as ++ List.replicate (am_ml (am_me P z) - (am_en as).length) none) else none
/-- where an exception of a class is caught: behind the handler's store, and the place that it stores into -/
def am_fh (P : am_P) (y pc E : Nat) : Option (Nat × Nat) := if E ∈ am_xl P then (match (am_hd (am_me P y)).find? (fun q => decide (q.1 ≤ pc) && decide (pc < q.2.1) && decide (q.2.2.2.2 = E)) with
  | some q => (match decode (am_cd (am_me P y)) q.2.2.1 with
    | .ok (.astore k, 2) => some (q.2.2.1 + 2, k)
    | .ok (.astore_n k, 1) => some (q.2.2.1 + 1, k)
    | _ => none)
  | none => none) else none
/-- nothing is caught here -/
def am_no (P : am_P) (y pc : Nat) : Bool := (am_hd (am_me P y)).all (fun q => !(decide (q.1 ≤ pc) && decide (pc < q.2.1)))
def am_run (P : am_P) : Nat → Nat → Nat → am_L → List Value → am_H → Option (am_A × am_H)
  | 0, _, _, _, _, _ => none
  | n + 1, y, pc, lo, st, h => match am_st P y pc lo st h with
    | none => none
    | some (.inl (pc', lo', st', h')) => am_run P n y pc' lo' st' h'
    | some (.inr (.inl (z, as, rest))) => (match am_en0 P z as with
      | none => none
      | some l0 => (match am_run P n z 0 l0 [] h with
        | none => none
        | some (.inl v, h1) => am_run P n y (pc + 3) lo (v.toList ++ rest) h1
        | some (.inr E, h1) => if am_no P y pc = true then some (.inr E, h1) else (match am_fh P y pc E with
          | some (pc', k) => if k < lo.length ∧ am_pv lo k = true then am_run P n y pc' (lo.set k none) [] h1 else none
          | none => none)))
    | some (.inr (.inr (.inl v))) => some (.inl v, h)
    | some (.inr (.inr (.inr E))) => if am_no P y (pc + 7) = true then some (.inr E, h ++ [.inr (E, [])]) else none
end AMX
end
section
/-! The abstract machine's heap and locals beside the real ones. -/
section AR
/-- where an abstract address lies: the script apart, all others from b on -/
def am_ad (b bs a : Nat) : Nat := if a = am_scr then bs else b + a
def am_sv (b bs : Nat) : Value → Value
  | .ref a => .ref (am_ad b bs a)
  | v => v
def am_sA (b bs : Nat) (a : vp_A) : vp_A := match a with
  | (n, .inr (.inr (.inr (.inr g)))) => (n, .inr (.inr (.inr (.inr (fun j => (g j).map (am_ad b bs))))))
  | a => a
def am_sE (b bs : Nat) (ac : Nat → ClassId) : am_E → va_E
  | .inl (t, a) => .inl (ac t, am_sA b bs a)
  | .inr (c, fs) => .inr (c, fs.map (am_sv b bs))
def am_ws (b bs : Nat) (ac : Nat → ClassId) (h : am_H) : va_W := h.mapIdx (fun i e => (b + i, am_sE b bs ac e))
theorem am_sv_cat (b bs : Nat) (v : Value) : (am_sv b bs v).category = v.category := by cases v <;> rfl
theorem am_wd_sv (b bs : Nat) (st : List Value) : ((st.map (am_sv b bs)).map fun v => v.category).sum = am_wd st := by
  unfold am_wd
  induction st with
  | nil => rfl
  | cons v r ih => simp only [List.map_cons, List.sum_cons, am_sv_cat, ih]
theorem am_ws_at (b bs : Nat) (ac : Nat → ClassId) (h : am_H) (i : Nat) : (am_ws b bs ac h)[i]? = (h[i]?).map (fun e => (b + i, am_sE b bs ac e)) := by
  unfold am_ws
  rw [List.getElem?_mapIdx]
theorem am_ws_get {b bs : Nat} {ac : Nat → ClassId} {h : am_H} {i : Nat} {e : am_E} (hi : h[i]? = some e) : (am_ws b bs ac h)[i]? = some (b + i, am_sE b bs ac e) := by
  rw [am_ws_at, hi]; rfl
theorem am_ws_len (b bs : Nat) (ac : Nat → ClassId) (h : am_H) : (am_ws b bs ac h).length = h.length := by
  unfold am_ws
  rw [List.length_mapIdx]
theorem am_ws_set (b bs : Nat) (ac : Nat → ClassId) (h : am_H) (i : Nat) (e : am_E) : (am_ws b bs ac h).set i (b + i, am_sE b bs ac e) = am_ws b bs ac (h.set i e) := by
  refine List.ext_getElem? fun j => ?_
  rw [am_ws_at, List.getElem?_set, List.getElem?_set, am_ws_len]
  by_cases hj : i = j
  · subst hj
    by_cases hl : i < h.length
    · simp [hl]
    · simp [hl]
  · simp [hj, am_ws_at]
theorem am_ws_push (b bs : Nat) (ac : Nat → ClassId) (h : am_H) (e : am_E) : am_ws b bs ac h ++ [(b + h.length, am_sE b bs ac e)] = am_ws b bs ac (h ++ [e]) := by
  unfold am_ws
  rw [List.mapIdx_append]
  simp
theorem am_ws_D (b bs : Nat) (ac : Nat → ClassId) (h : am_H) : va_D (fun q => b ≤ q) (am_ws b bs ac h) := by
  have key : ∀ (i : Nat) (q : Nat × va_E), (am_ws b bs ac h)[i]? = some q → q.1 = b + i := by
    intro i q hq
    rw [am_ws_at] at hq
    cases hh : h[i]? with
    | none => rw [hh] at hq; cases hq
    | some e => rw [hh] at hq; cases hq; rfl
  refine ⟨fun i j x y hi hj hxy => ?_, fun k q hk => ?_⟩
  · have h1 := key i x hi
    have h2 := key j y hj
    omega
  · have h1 := key k q hk
    show b ≤ q.1
    omega
def am_HR (D : va_G) (cl : List vw_C) (b bs : Nat) (ac : Nat → ClassId) (h : am_H) (H : Heap) : Prop := va_P D cl (am_ws b bs ac h) H ∧ H.size = b + h.length
theorem am_lt {h : am_H} {a : Nat} {e : am_E} (hh : h[a]? = some e) : a < h.length := (List.getElem?_eq_some_iff.mp hh).1
theorem am_ad_in {b bs a : Nat} {h : am_H} {e : am_E} (hl : h.length ≤ am_scr) (hh : h[a]? = some e) : am_ad b bs a = b + a := by
  have := am_lt hh
  unfold am_ad
  rw [if_neg (by omega)]
/-- the locals -/
def am_LR (b bs n : Nat) (ls : Array Slot) (lo : am_L) : Prop := ls.size = n ∧ lo.length = n ∧ lv_wf ls ∧ ∀ (i : Nat) (v : Value), lo[i]? = some (some v) → ls[i]? = some (.val (am_sv b bs v))
def am_pr (b bs : Nat) (lo : am_L) : List (Nat × Value) := (lo.mapIdx (fun i o => o.map (fun v => (i, am_sv b bs v)))).filterMap id
theorem am_pr_mem {b bs : Nat} {lo : am_L} {q : Nat × Value} (h : q ∈ am_pr b bs lo) : ∃ v, lo[q.1]? = some (some v) ∧ q.2 = am_sv b bs v := by
  obtain ⟨o, ho, hq⟩ := List.mem_filterMap.mp h
  obtain ⟨i, hi⟩ := List.getElem?_of_mem ho
  rw [List.getElem?_mapIdx] at hi
  cases hx : lo[i]? with
  | none => rw [hx] at hi; cases hi
  | some o2 =>
    rw [hx] at hi
    cases o2 with
    | none =>
      cases hi
      cases hq
    | some v =>
      cases hi
      cases hq
      exact ⟨v, hx, rfl⟩
theorem am_mem_pr {b bs : Nat} {lo : am_L} {i : Nat} {v : Value} (h : lo[i]? = some (some v)) : (i, am_sv b bs v) ∈ am_pr b bs lo := by
  refine List.mem_filterMap.mpr ⟨some (i, am_sv b bs v), ?_, rfl⟩
  refine List.mem_of_getElem? (i := i) ?_
  rw [List.getElem?_mapIdx, h]
  rfl
theorem am_LR.has {b bs n : Nat} {ls : Array Slot} {lo : am_L} (h : am_LR b bs n ls lo) : lv_has ls n (am_pr b bs lo) := by
  refine ⟨h.1, h.2.2.1, fun q hq => ?_⟩
  obtain ⟨v, h1, h2⟩ := am_pr_mem hq
  rw [h2]
  exact h.2.2.2 _ _ h1
theorem am_LR.st1 {b bs n k : Nat} {ls ls' : Array Slot} {lo : am_L} {w : Value} {o : Option Value} (h : am_LR b bs n ls lo) (hk : am_pv lo k = true) (ho : ∀ v, o = some v → w = am_sv b bs v)
    (h' : lv_has ls' n ((k, w) :: (am_pr b bs lo).filter (fun q => !(q.1 == k) && !(q.1 + 1 == k && q.2.category == 2)))) : am_LR b bs n ls' (lo.set k o) := by
  refine ⟨h'.1, by rw [List.length_set]; exact h.2.1, h'.2.1, fun i v hi => ?_⟩
  rw [List.getElem?_set] at hi
  by_cases hik : k = i
  · subst hik
    rw [if_pos rfl] at hi
    split at hi
    · have := ho v (Option.some.inj hi)
      rw [← this]
      exact h'.2.2 (k, w) List.mem_cons_self
    · cases hi
  · rw [if_neg hik] at hi
    refine h'.2.2 (i, am_sv b bs v) (List.mem_cons_of_mem _ (List.mem_filter.mpr ⟨am_mem_pr hi, ?_⟩))
    have h1 : (i == k) = false := by simp; omega
    simp only [h1, Bool.not_false, Bool.true_and, Bool.not_eq_true', Bool.and_eq_false_iff]
    by_cases h2 : i + 1 = k
    · subst h2
      right
      have h3 : (v.category == 1) = true := by
        have h4 := hk
        simp only [am_pv, hi] at h4
        exact h4
      have h5 : v.category = 1 := by simpa using h3
      rw [am_sv_cat, h5]
      rfl
    · left
      simpa using h2
theorem am_LR.st2 {b bs n k : Nat} {ls ls' : Array Slot} {lo : am_L} {v : Value} (h : am_LR b bs n ls lo) (hk : am_pv lo k = true)
    (h' : lv_has ls' n ((k, am_sv b bs v) :: (am_pr b bs lo).filter (fun q => !(q.1 == k) && (!(q.1 == k + 1) && !(q.1 + 1 == k && q.2.category == 2))))) : am_LR b bs n ls' ((lo.set k (some v)).set (k + 1) none) := by
  refine ⟨h'.1, by rw [List.length_set, List.length_set]; exact h.2.1, h'.2.1, fun i w hi => ?_⟩
  rw [List.getElem?_set] at hi
  by_cases hik : k + 1 = i
  · rw [if_pos hik] at hi
    split at hi <;> cases hi
  · rw [if_neg hik, List.getElem?_set] at hi
    by_cases hik2 : k = i
    · subst hik2
      rw [if_pos rfl] at hi
      split at hi
      · cases hi
        exact h'.2.2 (k, am_sv b bs v) List.mem_cons_self
      · cases hi
    · rw [if_neg hik2] at hi
      refine h'.2.2 (i, am_sv b bs w) (List.mem_cons_of_mem _ (List.mem_filter.mpr ⟨am_mem_pr hi, ?_⟩))
      have h1 : (i == k) = false := by simp; omega
      have h0 : (i == k + 1) = false := by simp; omega
      simp only [h1, h0, Bool.not_false, Bool.true_and, Bool.not_eq_true', Bool.and_eq_false_iff]
      by_cases h2 : i + 1 = k
      · subst h2
        right
        have h3 : (w.category == 1) = true := by
          have h4 := hk
          simp only [am_pv, hi] at h4
          exact h4
        have h5 : w.category = 1 := by simpa using h3
        rw [am_sv_cat, h5]
        rfl
      · left
        simpa using h2
theorem am_sl_map (b bs : Nat) (as : List Value) : (lg_sl (as.map (am_sv b bs))).length = (am_en as).length := by
  induction as with
  | nil => rfl
  | cons v r ih =>
    simp only [lg_sl, List.map_cons, List.flatMap_cons, List.length_append, am_en] at ih ⊢
    rw [am_sv_cat, ih]
    rcases lv_cat v with hc | hc
    · simp [hc]; omega
    · simp [hc]; omega
theorem am_en_args (b bs : Nat) : ∀ (as : List Value) (j i : Nat) (v : Value), (am_en as)[i]? = some (some v) → (j + i, am_sv b bs v) ∈ lv_args j (as.map (am_sv b bs))
  | [], j, i, v, h => by simp [am_en] at h
  | w :: r, j, i, v, h => by
    simp only [List.map_cons, lv_args, am_sv_cat]
    unfold am_en at h
    rcases lv_cat w with hc | hc
    · rw [if_pos hc] at h
      rw [if_neg (by omega)]
      cases i with
      | zero =>
        cases h
        exact List.mem_cons_self
      | succ i =>
        have := am_en_args b bs r (j + 1) i v (by simpa using h)
        rw [show j + 1 + i = j + (i + 1) by omega] at this
        exact List.mem_cons_of_mem _ this
    · rw [if_neg (by omega)] at h
      rw [if_pos hc]
      match i, h with
      | 0, h =>
        cases h
        exact List.mem_cons_self
      | 1, h => cases h
      | i + 2, h =>
        have := am_en_args b bs r (j + 2) i v (by simpa using h)
        rw [show j + 2 + i = j + (i + 2) by omega] at this
        exact List.mem_cons_of_mem _ this
theorem am_entry {b bs n : Nat} (as : List Value) (hn : (am_en as).length ≤ n) :
    am_LR b bs n ((lg_sl (as.map (am_sv b bs)) ++ List.replicate (n - (lg_sl (as.map (am_sv b bs))).length) Slot.unset).toArray) (am_en as ++ List.replicate (n - (am_en as).length) none) := by
  have h := lv_entry (as.map (am_sv b bs)) (n := n) (by rw [am_sl_map]; exact hn)
  refine ⟨h.1, by rw [List.length_append, List.length_replicate]; omega, h.2.1, fun i v hi => ?_⟩
  have h1 : (am_en as)[i]? = some (some v) := by
    by_cases hl : i < (am_en as).length
    · rw [List.getElem?_append_left hl] at hi
      exact hi
    · rw [List.getElem?_append_right (by omega), List.getElem?_replicate] at hi
      split at hi <;> cases hi
  have h2 := am_en_args b bs as 0 i v h1
  rw [Nat.zero_add] at h2
  exact h.2.2 _ h2
end AR
end
section
/-! Each step of the abstract machine that goes on is a step of the real one. -/
section AS
theorem am_nx_inv {pc pc' : Nat} {lo lo' : am_L} {st st' : List Value} {h h' : am_H} (hx : am_nx pc lo st h = some (.inl (pc', lo', st', h'))) : pc = pc' ∧ lo = lo' ∧ st = st' ∧ h = h' := by
  unfold am_nx at hx
  cases hx
  exact ⟨rfl, rfl, rfl, rfl⟩
theorem am_i1_inv {st : List Value} {k : Int32 → List Value → Option am_O} {o : am_O} (hx : am_i1 st k = some o) : ∃ (x : Int32) (r : List Value), st = .int x :: r ∧ k x r = some o := by
  unfold am_i1 at hx
  split at hx
  · exact ⟨_, _, rfl, hx⟩
  · cases hx
theorem am_i2_inv {st : List Value} {k : Int32 → Int32 → List Value → Option am_O} {o : am_O} (hx : am_i2 st k = some o) : ∃ (x y : Int32) (r : List Value), st = .int y :: .int x :: r ∧ k x y r = some o := by
  unfold am_i2 at hx
  split at hx
  · exact ⟨_, _, _, rfl, hx⟩
  · cases hx
theorem am_j2_inv {st : List Value} {k : Int64 → Int64 → List Value → Option am_O} {o : am_O} (hx : am_j2 st k = some o) : ∃ (x y : Int64) (r : List Value), st = .long y :: .long x :: r ∧ k x y r = some o := by
  unfold am_j2 at hx
  split at hx
  · exact ⟨_, _, _, rfl, hx⟩
  · cases hx
theorem am_ij_inv {st : List Value} {k : Int64 → Int32 → List Value → Option am_O} {o : am_O} (hx : am_ij st k = some o) : ∃ (x : Int64) (y : Int32) (r : List Value), st = .int y :: .long x :: r ∧ k x y r = some o := by
  unfold am_ij at hx
  split at hx
  · exact ⟨_, _, _, rfl, hx⟩
  · cases hx
theorem am_r1_inv {st : List Value} {k : Nat → List Value → Option am_O} {o : am_O} (hx : am_r1 st k = some o) : ∃ (a : Nat) (r : List Value), st = .ref a :: r ∧ k a r = some o := by
  unfold am_r1 at hx
  split at hx
  · exact ⟨_, _, rfl, hx⟩
  · cases hx
theorem am_ir_inv {st : List Value} {k : Int32 → Nat → List Value → Option am_O} {o : am_O} (hx : am_ir st k = some o) : ∃ (i : Int32) (a : Nat) (r : List Value), st = .int i :: .ref a :: r ∧ k i a r = some o := by
  unfold am_ir at hx
  split at hx
  · exact ⟨_, _, _, rfl, hx⟩
  · cases hx
theorem am_vr_inv {st : List Value} {k : Value → Nat → List Value → Option am_O} {o : am_O} (hx : am_vr st k = some o) : ∃ (v : Value) (a : Nat) (r : List Value), st = v :: .ref a :: r ∧ k v a r = some o := by
  unfold am_vr at hx
  split at hx
  · exact ⟨_, _, _, rfl, hx⟩
  · cases hx
theorem am_vir_inv {st : List Value} {k : Value → Int32 → Nat → List Value → Option am_O} {o : am_O} (hx : am_vir st k = some o) : ∃ (v : Value) (i : Int32) (a : Nat) (r : List Value), st = v :: .int i :: .ref a :: r ∧ k v i a r = some o := by
  unfold am_vir at hx
  split at hx
  · exact ⟨_, _, _, _, rfl, hx⟩
  · cases hx
theorem am_cy_inv {st : List Value} {k : Nat → Int32 → Nat → Int32 → Int32 → List Value → Option am_O} {o : am_O} (hx : am_cy st k = some o) : ∃ (a0 : Nat) (sp : Int32) (a1 : Nat) (dp n : Int32) (r : List Value), st = .int n :: .int dp :: .ref a1 :: .int sp :: .ref a0 :: r ∧ k a0 sp a1 dp n r = some o := by
  unfold am_cy at hx
  split at hx
  · exact ⟨_, _, _, _, _, _, rfl, hx⟩
  · cases hx
theorem am_gI_inv {h : am_H} {a : Nat} {k : Nat → (Nat → Int32) → Option am_O} {o : am_O} (hx : am_gI h a k = some o) : ∃ (n : Nat) (f : Nat → Int32), h[a]? = some (am_I n f) ∧ k n f = some o := by
  unfold am_gI at hx
  split at hx
  · rename_i he
    exact ⟨_, _, he, hx⟩
  · cases hx
theorem am_gJ_inv {h : am_H} {a : Nat} {k : Nat → (Nat → Int64) → Option am_O} {o : am_O} (hx : am_gJ h a k = some o) : ∃ (n : Nat) (f : Nat → Int64), h[a]? = some (am_J n f) ∧ k n f = some o := by
  unfold am_gJ at hx
  split at hx
  · rename_i he
    exact ⟨_, _, he, hx⟩
  · cases hx
theorem am_gZ_inv {h : am_H} {a : Nat} {k : Nat → (Nat → Int32) → Option am_O} {o : am_O} (hx : am_gZ h a k = some o) : ∃ (n : Nat) (f : Nat → Int32), h[a]? = some (am_Z n f) ∧ k n f = some o := by
  unfold am_gZ at hx
  split at hx
  · rename_i he
    exact ⟨_, _, he, hx⟩
  · cases hx
theorem am_gR_inv {h : am_H} {a : Nat} {k : Nat → Nat → (Nat → Option Nat) → Option am_O} {o : am_O} (hx : am_gR h a k = some o) : ∃ (t n : Nat) (g : Nat → Option Nat), h[a]? = some (am_R t n g) ∧ k t n g = some o := by
  unfold am_gR at hx
  split at hx
  · rename_i he
    exact ⟨_, _, _, he, hx⟩
  · cases hx
theorem am_gB_inv {h : am_H} {a : Nat} {k : Nat → List Value → Option am_O} {o : am_O} (hx : am_gB h a k = some o) : ∃ (c : Nat) (fs : List Value), h[a]? = some (am_B c fs) ∧ k c fs = some o := by
  unfold am_gB at hx
  split at hx
  · rename_i he
    exact ⟨_, _, he, hx⟩
  · cases hx
theorem am_to_inv {pc : Nat} {off : Int} {k : Nat → Option am_O} {o : am_O} (hx : am_to pc off k = some o) : ∃ t : Nat, (pc : Int) + off = (t : Int) ∧ k t = some o := by
  unfold am_to at hx
  split at hx
  · rename_i h0
    exact ⟨_, (Int.toNat_of_nonneg h0).symm, hx⟩
  · cases hx
theorem am_if_inv {c : Prop} [Decidable c] {x : Option am_O} {o : am_O} (hx : (if c then x else none) = some o) : c ∧ x = some o := by
  split at hx
  · rename_i h
    exact ⟨h, hx⟩
  · cases hx
theorem am_vin {i : Int32} {n : Nat} (h : am_in i n = true) : vp_in i n := by
  unfold am_in at h
  simp only [Bool.and_eq_true, decide_eq_true_eq] at h
  exact vp_in_iff.mpr h
def am_tys (ac : Nat → ClassId) (tt : List FieldType) : List (ClassId × FieldType) := tt.mapIdx (fun t ty => (ac t, ty))
theorem am_tys_at {ac : Nat → ClassId} {tt : List FieldType} {t : Nat} {ty : FieldType} (h : tt[t]? = some ty) : (am_tys ac tt)[t]? = some (ac t, ty) := by
  unfold am_tys
  rw [List.getElem?_mapIdx, h]
  rfl
/-- the real frame beside the abstract one: KC and KS are the cells and slots of the abstract heap at the run's end -/
def am_fr (D : va_G) (cl : List vw_C) (b bs : Nat) (ac : Nat → ClassId) (n KC KS : Nat) (R : Room) (s : State) (ls : Array Slot) (H : Heap) (locs : List Loc) (cells slots : Nat) (lo : am_L) (h : am_H) : Prop :=
  am_LR b bs n ls lo ∧ am_HR D cl b bs ac h H ∧ va_S (fun q => b ≤ q) s.heap H locs ∧ s.heap.size + cells = H.size ∧ (h.length ≤ KC ∧ cells + (KC - h.length) ≤ R.cells) ∧ (am_sl h ≤ KS ∧ slots + (KS - am_sl h) ≤ R.slots) ∧ KC ≤ am_scr
/-- what the tables say of fields -/
def am_okF (P : am_P) (TAB : List Cond) (cl : List vw_C) : Prop := ∀ (y ix ci k : Nat) (ty : FieldType) (wr : Bool), am_fd P y ix = some (ci, k, ty, wr) → ∃ (C : String) (T : u_T) (N : Nat), cl[ci]? = some (C, T, N) ∧ k < N ∧ Cond.fieldLink (am_nm (am_me P y)).cls ix (T k).1 (T k).2.1 (T k).2.2.1 ∈ TAB ∧ parseFieldDescriptor (T k).2.2.1 = some ty ∧ (wr = true → (T k).2.2.2 = false ∨ ((T k).2.2.2 = true ∧ (am_nm (am_me P y)).name = "<init>" ∧ (T k).1 = (am_nm (am_me P y)).cls))
/-- .. of classes -/
def am_okC (TAB : List Cond) (cl : List vw_C) : Prop := ∀ (ci : Nat) (C : String) (T : u_T) (N : Nat), cl[ci]? = some (C, T, N) → (∀ w ∈ u_ws C T N, w ∈ TAB) ∧ (∃ ty0 : Nat → FieldType, ∀ k, k < N → parseFieldDescriptor (T k).2.2.1 = some (ty0 k)) ∧ ∀ x, x < N → ∀ z, z < N → x ≠ z → (T x).2.1 ≠ (T z).2.1
/-- .. of types of arrays -/
def am_okT (P : am_P) (cl : List vw_C) (tt : List FieldType) : Prop := tt[0]? = some .int ∧ tt[1]? = some .long ∧ tt[2]? = some .boolean ∧ tt.length = 5 ∧ ∀ t : Nat, 2 < t → ∀ ty, tt[t]? = some ty → ∃ (C : String) (T : u_T) (N : Nat), ty = .object C ∧ cl[am_cp P t]? = some (C, T, N)
variable {P : am_P} {TAB : List Cond} {cl : List vw_C} {tt : List FieldType} {D : va_G} {ac : Nat → ClassId} {b bs n KC KS y pc pc' len : Nat} {lo lo' : am_L} {st st' : List Value} {h h' : am_H}
variable {p : Program} {l : Launch} {e : Env} {R : Room} {s : State} {m : MethodId} {args : Array Value} {below : List Frame} {meth : Method} {c : Code} {ls : Array Slot} {H : Heap} {locs : List Loc} {cells slots : Nat} {Q : State → Prop} {cc : ByteArray}

theorem am_n_iconst (hexec : p.tables.exec = Jvm.exec) (hb : c.code = cc) {k : Int} (hd : decode cc pc = .ok (.iconst k, 1)) (hx : am_nx (pc + 1) lo (.int (Int32.ofInt k) :: st) h = some (.inl (pc', lo', st', h'))) (hf : am_fr D cl b bs ac n KC KS R s ls H locs cells slots lo h) 
    (kk : ∀ (ls' : Array Slot) (H' : Heap) (locs' : List Loc) (cells' slots' : Nat), am_fr D cl b bs ac n KC KS R s ls' H' locs' cells' slots' lo' h' → W p l e R s m args below meth c H' locs' cells' slots' Q (F0 m pc' ls' (st'.map (am_sv b bs)))) : W p l e R s m args below meth c H locs cells slots Q (F0 m pc ls (st.map (am_sv b bs))) := by
  obtain ⟨rfl, rfl, rfl, rfl⟩ := am_nx_inv hx
  exact lv_iconst hexec hb hd rfl (kk _ _ _ _ _ hf)
theorem am_n_bipush (hexec : p.tables.exec = Jvm.exec) (hb : c.code = cc) {k : Int} (hd : decode cc pc = .ok (.bipush k, 2)) (hx : am_nx (pc + 2) lo (.int (Int8.ofInt k).toInt32 :: st) h = some (.inl (pc', lo', st', h'))) (hf : am_fr D cl b bs ac n KC KS R s ls H locs cells slots lo h) 
    (kk : ∀ (ls' : Array Slot) (H' : Heap) (locs' : List Loc) (cells' slots' : Nat), am_fr D cl b bs ac n KC KS R s ls' H' locs' cells' slots' lo' h' → W p l e R s m args below meth c H' locs' cells' slots' Q (F0 m pc' ls' (st'.map (am_sv b bs)))) : W p l e R s m args below meth c H locs cells slots Q (F0 m pc ls (st.map (am_sv b bs))) := by
  obtain ⟨rfl, rfl, rfl, rfl⟩ := am_nx_inv hx
  exact lv_bipush hexec hb hd rfl (kk _ _ _ _ _ hf)
theorem am_n_sipush (hexec : p.tables.exec = Jvm.exec) (hb : c.code = cc) {k : Int} (hd : decode cc pc = .ok (.sipush k, 3)) (hx : am_nx (pc + 3) lo (.int (Int16.ofInt k).toInt32 :: st) h = some (.inl (pc', lo', st', h'))) (hf : am_fr D cl b bs ac n KC KS R s ls H locs cells slots lo h) 
    (kk : ∀ (ls' : Array Slot) (H' : Heap) (locs' : List Loc) (cells' slots' : Nat), am_fr D cl b bs ac n KC KS R s ls' H' locs' cells' slots' lo' h' → W p l e R s m args below meth c H' locs' cells' slots' Q (F0 m pc' ls' (st'.map (am_sv b bs)))) : W p l e R s m args below meth c H locs cells slots Q (F0 m pc ls (st.map (am_sv b bs))) := by
  obtain ⟨rfl, rfl, rfl, rfl⟩ := am_nx_inv hx
  exact lv_sipush hexec hb hd rfl (kk _ _ _ _ _ hf)
theorem am_n_lconst (hexec : p.tables.exec = Jvm.exec) (hb : c.code = cc) {k : Fin 2} (hd : decode cc pc = .ok (.lconst k, 1)) (hx : am_nx (pc + 1) lo (.long (Int64.ofNat (k : Nat)) :: st) h = some (.inl (pc', lo', st', h'))) (hf : am_fr D cl b bs ac n KC KS R s ls H locs cells slots lo h) 
    (kk : ∀ (ls' : Array Slot) (H' : Heap) (locs' : List Loc) (cells' slots' : Nat), am_fr D cl b bs ac n KC KS R s ls' H' locs' cells' slots' lo' h' → W p l e R s m args below meth c H' locs' cells' slots' Q (F0 m pc' ls' (st'.map (am_sv b bs)))) : W p l e R s m args below meth c H locs cells slots Q (F0 m pc ls (st.map (am_sv b bs))) := by
  obtain ⟨rfl, rfl, rfl, rfl⟩ := am_nx_inv hx
  exact lv_lconst hexec hb hd rfl (kk _ _ _ _ _ hf)
theorem am_n_aconst_null (hexec : p.tables.exec = Jvm.exec) (hb : c.code = cc)  (hd : decode cc pc = .ok (.aconst_null, 1)) (hx : am_nx (pc + 1) lo (.null :: st) h = some (.inl (pc', lo', st', h'))) (hf : am_fr D cl b bs ac n KC KS R s ls H locs cells slots lo h) 
    (kk : ∀ (ls' : Array Slot) (H' : Heap) (locs' : List Loc) (cells' slots' : Nat), am_fr D cl b bs ac n KC KS R s ls' H' locs' cells' slots' lo' h' → W p l e R s m args below meth c H' locs' cells' slots' Q (F0 m pc' ls' (st'.map (am_sv b bs)))) : W p l e R s m args below meth c H locs cells slots Q (F0 m pc ls (st.map (am_sv b bs))) := by
  obtain ⟨rfl, rfl, rfl, rfl⟩ := am_nx_inv hx
  exact lv_null hexec hb hd (kk _ _ _ _ _ hf)
theorem am_n_iload (hexec : p.tables.exec = Jvm.exec) (hb : c.code = cc) {k : Nat} (hd : decode cc pc = .ok (.iload k, 2)) (hx : am_li (pc + 2) k lo st h = some (.inl (pc', lo', st', h'))) (hf : am_fr D cl b bs ac n KC KS R s ls H locs cells slots lo h) 
    (kk : ∀ (ls' : Array Slot) (H' : Heap) (locs' : List Loc) (cells' slots' : Nat), am_fr D cl b bs ac n KC KS R s ls' H' locs' cells' slots' lo' h' → W p l e R s m args below meth c H' locs' cells' slots' Q (F0 m pc' ls' (st'.map (am_sv b bs)))) : W p l e R s m args below meth c H locs cells slots Q (F0 m pc ls (st.map (am_sv b bs))) := by
  unfold am_li at hx
  split at hx
  · rename_i hk
    obtain ⟨rfl, rfl, rfl, rfl⟩ := am_nx_inv hx
    exact lv_iload hexec hb hd (hf.1.2.2.2 _ _ hk) (kk _ _ _ _ _ hf)
  · cases hx
theorem am_n_iload_n (hexec : p.tables.exec = Jvm.exec) (hb : c.code = cc) {k : Fin 4} (hd : decode cc pc = .ok (.iload_n k, 1)) (hx : am_li (pc + 1) k lo st h = some (.inl (pc', lo', st', h'))) (hf : am_fr D cl b bs ac n KC KS R s ls H locs cells slots lo h) 
    (kk : ∀ (ls' : Array Slot) (H' : Heap) (locs' : List Loc) (cells' slots' : Nat), am_fr D cl b bs ac n KC KS R s ls' H' locs' cells' slots' lo' h' → W p l e R s m args below meth c H' locs' cells' slots' Q (F0 m pc' ls' (st'.map (am_sv b bs)))) : W p l e R s m args below meth c H locs cells slots Q (F0 m pc ls (st.map (am_sv b bs))) := by
  unfold am_li at hx
  split at hx
  · rename_i hk
    obtain ⟨rfl, rfl, rfl, rfl⟩ := am_nx_inv hx
    exact lv_iload_n hexec hb hd rfl (hf.1.2.2.2 _ _ hk) (kk _ _ _ _ _ hf)
  · cases hx
theorem am_n_lload (hexec : p.tables.exec = Jvm.exec) (hb : c.code = cc) {k : Nat} (hd : decode cc pc = .ok (.lload k, 2)) (hx : am_lj (pc + 2) k lo st h = some (.inl (pc', lo', st', h'))) (hf : am_fr D cl b bs ac n KC KS R s ls H locs cells slots lo h) 
    (kk : ∀ (ls' : Array Slot) (H' : Heap) (locs' : List Loc) (cells' slots' : Nat), am_fr D cl b bs ac n KC KS R s ls' H' locs' cells' slots' lo' h' → W p l e R s m args below meth c H' locs' cells' slots' Q (F0 m pc' ls' (st'.map (am_sv b bs)))) : W p l e R s m args below meth c H locs cells slots Q (F0 m pc ls (st.map (am_sv b bs))) := by
  unfold am_lj at hx
  split at hx
  · rename_i hk
    obtain ⟨rfl, rfl, rfl, rfl⟩ := am_nx_inv hx
    exact lv_lload hexec hb hd (hf.1.2.2.2 _ _ hk) (kk _ _ _ _ _ hf)
  · cases hx
theorem am_n_lload_n (hexec : p.tables.exec = Jvm.exec) (hb : c.code = cc) {k : Fin 4} (hd : decode cc pc = .ok (.lload_n k, 1)) (hx : am_lj (pc + 1) k lo st h = some (.inl (pc', lo', st', h'))) (hf : am_fr D cl b bs ac n KC KS R s ls H locs cells slots lo h) 
    (kk : ∀ (ls' : Array Slot) (H' : Heap) (locs' : List Loc) (cells' slots' : Nat), am_fr D cl b bs ac n KC KS R s ls' H' locs' cells' slots' lo' h' → W p l e R s m args below meth c H' locs' cells' slots' Q (F0 m pc' ls' (st'.map (am_sv b bs)))) : W p l e R s m args below meth c H locs cells slots Q (F0 m pc ls (st.map (am_sv b bs))) := by
  unfold am_lj at hx
  split at hx
  · rename_i hk
    obtain ⟨rfl, rfl, rfl, rfl⟩ := am_nx_inv hx
    exact lv_lload_n hexec hb hd rfl (hf.1.2.2.2 _ _ hk) (kk _ _ _ _ _ hf)
  · cases hx
theorem am_n_aload (hexec : p.tables.exec = Jvm.exec) (hb : c.code = cc) {k : Nat} (hd : decode cc pc = .ok (.aload k, 2)) (hx : am_la (pc + 2) k lo st h = some (.inl (pc', lo', st', h'))) (hf : am_fr D cl b bs ac n KC KS R s ls H locs cells slots lo h) 
    (kk : ∀ (ls' : Array Slot) (H' : Heap) (locs' : List Loc) (cells' slots' : Nat), am_fr D cl b bs ac n KC KS R s ls' H' locs' cells' slots' lo' h' → W p l e R s m args below meth c H' locs' cells' slots' Q (F0 m pc' ls' (st'.map (am_sv b bs)))) : W p l e R s m args below meth c H locs cells slots Q (F0 m pc ls (st.map (am_sv b bs))) := by
  unfold am_la at hx
  split at hx
  · rename_i hk
    obtain ⟨rfl, rfl, rfl, rfl⟩ := am_nx_inv hx
    exact lv_aload hexec hb hd (hf.1.2.2.2 _ _ hk) (kk _ _ _ _ _ hf)
  · rename_i hk
    obtain ⟨rfl, rfl, rfl, rfl⟩ := am_nx_inv hx
    exact lv_aloadN hexec hb hd (hf.1.2.2.2 _ _ hk) (kk _ _ _ _ _ hf)
  · cases hx
theorem am_n_aload_n (hexec : p.tables.exec = Jvm.exec) (hb : c.code = cc) {k : Fin 4} (hd : decode cc pc = .ok (.aload_n k, 1)) (hx : am_la (pc + 1) k lo st h = some (.inl (pc', lo', st', h'))) (hf : am_fr D cl b bs ac n KC KS R s ls H locs cells slots lo h) 
    (kk : ∀ (ls' : Array Slot) (H' : Heap) (locs' : List Loc) (cells' slots' : Nat), am_fr D cl b bs ac n KC KS R s ls' H' locs' cells' slots' lo' h' → W p l e R s m args below meth c H' locs' cells' slots' Q (F0 m pc' ls' (st'.map (am_sv b bs)))) : W p l e R s m args below meth c H locs cells slots Q (F0 m pc ls (st.map (am_sv b bs))) := by
  unfold am_la at hx
  split at hx
  · rename_i hk
    obtain ⟨rfl, rfl, rfl, rfl⟩ := am_nx_inv hx
    exact lv_aload_n hexec hb hd rfl (hf.1.2.2.2 _ _ hk) (kk _ _ _ _ _ hf)
  · rename_i hk
    obtain ⟨rfl, rfl, rfl, rfl⟩ := am_nx_inv hx
    exact lv_aload_nN hexec hb hd rfl (hf.1.2.2.2 _ _ hk) (kk _ _ _ _ _ hf)
  · cases hx
theorem am_s1_inv {k : Nat} {v : Value} {r : List Value} (hx : am_s1 pc' k v lo r h = some (.inl (pc, lo', st', h'))) : (k < lo.length ∧ am_pv lo k = true ∧ v.category = 1) ∧ pc' = pc ∧ lo' = lo.set k (some v) ∧ st' = r ∧ h' = h := by
  unfold am_s1 at hx
  obtain ⟨hc, hy⟩ := am_if_inv hx
  clear hx; have hx := hy; clear hy
  obtain ⟨rfl, rfl, rfl, rfl⟩ := am_nx_inv hx
  simp only [Bool.and_eq_true, decide_eq_true_eq, beq_iff_eq] at hc
  exact ⟨⟨hc.1.1, hc.1.2, hc.2⟩, rfl, rfl, rfl, rfl⟩
theorem am_s2_inv {k : Nat} {v : Value} {r : List Value} (hx : am_s2 pc' k v lo r h = some (.inl (pc, lo', st', h'))) : (k + 1 < lo.length ∧ am_pv lo k = true ∧ v.category = 2) ∧ pc' = pc ∧ lo' = (lo.set k (some v)).set (k + 1) none ∧ st' = r ∧ h' = h := by
  unfold am_s2 at hx
  obtain ⟨hc, hy⟩ := am_if_inv hx
  clear hx; have hx := hy; clear hy
  obtain ⟨rfl, rfl, rfl, rfl⟩ := am_nx_inv hx
  simp only [Bool.and_eq_true, decide_eq_true_eq, beq_iff_eq] at hc
  exact ⟨⟨hc.1.1, hc.1.2, hc.2⟩, rfl, rfl, rfl, rfl⟩
theorem am_n_istore (hexec : p.tables.exec = Jvm.exec) (hb : c.code = cc) {k : Nat} (hd : decode cc pc = .ok (.istore k, 2)) (hx : am_si (pc + 2) k lo st h = some (.inl (pc', lo', st', h'))) (hf : am_fr D cl b bs ac n KC KS R s ls H locs cells slots lo h) 
    (kk : ∀ (ls' : Array Slot) (H' : Heap) (locs' : List Loc) (cells' slots' : Nat), am_fr D cl b bs ac n KC KS R s ls' H' locs' cells' slots' lo' h' → W p l e R s m args below meth c H' locs' cells' slots' Q (F0 m pc' ls' (st'.map (am_sv b bs)))) : W p l e R s m args below meth c H locs cells slots Q (F0 m pc ls (st.map (am_sv b bs))) := by
  unfold am_si at hx
  split at hx
  · obtain ⟨⟨h1, h2, -⟩, rfl, rfl, rfl, rfl⟩ := am_s1_inv hx
    refine lv_istore hexec hb hd hf.1.has (by rw [← hf.1.2.1]; exact h1) rfl fun ls' hl' => kk _ _ _ _ _ ⟨hf.1.st1 h2 (fun v hv => by cases hv; rfl) hl', hf.2⟩
  · cases hx
theorem am_n_astore (hexec : p.tables.exec = Jvm.exec) (hb : c.code = cc) {k : Nat} (hd : decode cc pc = .ok (.astore k, 2)) (hx : am_sa (pc + 2) k lo st h = some (.inl (pc', lo', st', h'))) (hf : am_fr D cl b bs ac n KC KS R s ls H locs cells slots lo h) 
    (kk : ∀ (ls' : Array Slot) (H' : Heap) (locs' : List Loc) (cells' slots' : Nat), am_fr D cl b bs ac n KC KS R s ls' H' locs' cells' slots' lo' h' → W p l e R s m args below meth c H' locs' cells' slots' Q (F0 m pc' ls' (st'.map (am_sv b bs)))) : W p l e R s m args below meth c H locs cells slots Q (F0 m pc ls (st.map (am_sv b bs))) := by
  unfold am_sa at hx
  split at hx
  · obtain ⟨⟨h1, h2, -⟩, rfl, rfl, rfl, rfl⟩ := am_s1_inv hx
    refine lv_astore hexec hb hd hf.1.has (by rw [← hf.1.2.1]; exact h1) rfl fun ls' hl' => kk _ _ _ _ _ ⟨hf.1.st1 h2 (fun v hv => by cases hv; rfl) hl', hf.2⟩
  · obtain ⟨⟨h1, h2, -⟩, rfl, rfl, rfl, rfl⟩ := am_s1_inv hx
    refine lv_astoreN hexec hb hd hf.1.has (by rw [← hf.1.2.1]; exact h1) rfl fun ls' hl' => kk _ _ _ _ _ ⟨hf.1.st1 h2 (fun v hv => by cases hv; rfl) hl', hf.2⟩
  · cases hx
theorem am_n_lstore (hexec : p.tables.exec = Jvm.exec) (hb : c.code = cc) {k : Nat} (hd : decode cc pc = .ok (.lstore k, 2)) (hx : am_sj (pc + 2) k lo st h = some (.inl (pc', lo', st', h'))) (hf : am_fr D cl b bs ac n KC KS R s ls H locs cells slots lo h) 
    (kk : ∀ (ls' : Array Slot) (H' : Heap) (locs' : List Loc) (cells' slots' : Nat), am_fr D cl b bs ac n KC KS R s ls' H' locs' cells' slots' lo' h' → W p l e R s m args below meth c H' locs' cells' slots' Q (F0 m pc' ls' (st'.map (am_sv b bs)))) : W p l e R s m args below meth c H locs cells slots Q (F0 m pc ls (st.map (am_sv b bs))) := by
  unfold am_sj at hx
  split at hx
  · obtain ⟨⟨h1, h2, -⟩, rfl, rfl, rfl, rfl⟩ := am_s2_inv hx
    refine lv_lstore hexec hb hd hf.1.has (by rw [← hf.1.2.1]; exact h1) rfl fun ls' hl' => kk _ _ _ _ _ ⟨hf.1.st2 h2 hl', hf.2⟩
  · cases hx
theorem am_n_istore_n (hexec : p.tables.exec = Jvm.exec) (hb : c.code = cc) {k : Fin 4} (hd : decode cc pc = .ok (.istore_n k, 1)) (hx : am_si (pc + 1) k lo st h = some (.inl (pc', lo', st', h'))) (hf : am_fr D cl b bs ac n KC KS R s ls H locs cells slots lo h) 
    (kk : ∀ (ls' : Array Slot) (H' : Heap) (locs' : List Loc) (cells' slots' : Nat), am_fr D cl b bs ac n KC KS R s ls' H' locs' cells' slots' lo' h' → W p l e R s m args below meth c H' locs' cells' slots' Q (F0 m pc' ls' (st'.map (am_sv b bs)))) : W p l e R s m args below meth c H locs cells slots Q (F0 m pc ls (st.map (am_sv b bs))) := by
  unfold am_si at hx
  split at hx
  · obtain ⟨⟨h1, h2, -⟩, rfl, rfl, rfl, rfl⟩ := am_s1_inv hx
    refine lv_istore_n hexec hb hd rfl hf.1.has (by rw [← hf.1.2.1]; exact h1) rfl fun ls' hl' => kk _ _ _ _ _ ⟨hf.1.st1 h2 (fun v hv => by cases hv; rfl) hl', hf.2⟩
  · cases hx
theorem am_n_astore_n (hexec : p.tables.exec = Jvm.exec) (hb : c.code = cc) {k : Fin 4} (hd : decode cc pc = .ok (.astore_n k, 1)) (hx : am_sa (pc + 1) k lo st h = some (.inl (pc', lo', st', h'))) (hf : am_fr D cl b bs ac n KC KS R s ls H locs cells slots lo h) 
    (kk : ∀ (ls' : Array Slot) (H' : Heap) (locs' : List Loc) (cells' slots' : Nat), am_fr D cl b bs ac n KC KS R s ls' H' locs' cells' slots' lo' h' → W p l e R s m args below meth c H' locs' cells' slots' Q (F0 m pc' ls' (st'.map (am_sv b bs)))) : W p l e R s m args below meth c H locs cells slots Q (F0 m pc ls (st.map (am_sv b bs))) := by
  unfold am_sa at hx
  split at hx
  · obtain ⟨⟨h1, h2, -⟩, rfl, rfl, rfl, rfl⟩ := am_s1_inv hx
    refine lv_astore_n hexec hb hd rfl hf.1.has (by rw [← hf.1.2.1]; exact h1) rfl fun ls' hl' => kk _ _ _ _ _ ⟨hf.1.st1 h2 (fun v hv => by cases hv; rfl) hl', hf.2⟩
  · obtain ⟨⟨h1, h2, -⟩, rfl, rfl, rfl, rfl⟩ := am_s1_inv hx
    refine lv_astore_nN hexec hb hd rfl hf.1.has (by rw [← hf.1.2.1]; exact h1) rfl fun ls' hl' => kk _ _ _ _ _ ⟨hf.1.st1 h2 (fun v hv => by cases hv; rfl) hl', hf.2⟩
  · cases hx
theorem am_n_lstore_n (hexec : p.tables.exec = Jvm.exec) (hb : c.code = cc) {k : Fin 4} (hd : decode cc pc = .ok (.lstore_n k, 1)) (hx : am_sj (pc + 1) k lo st h = some (.inl (pc', lo', st', h'))) (hf : am_fr D cl b bs ac n KC KS R s ls H locs cells slots lo h) 
    (kk : ∀ (ls' : Array Slot) (H' : Heap) (locs' : List Loc) (cells' slots' : Nat), am_fr D cl b bs ac n KC KS R s ls' H' locs' cells' slots' lo' h' → W p l e R s m args below meth c H' locs' cells' slots' Q (F0 m pc' ls' (st'.map (am_sv b bs)))) : W p l e R s m args below meth c H locs cells slots Q (F0 m pc ls (st.map (am_sv b bs))) := by
  unfold am_sj at hx
  split at hx
  · obtain ⟨⟨h1, h2, -⟩, rfl, rfl, rfl, rfl⟩ := am_s2_inv hx
    refine lv_lstore_n hexec hb hd rfl hf.1.has (by rw [← hf.1.2.1]; exact h1) rfl fun ls' hl' => kk _ _ _ _ _ ⟨hf.1.st2 h2 hl', hf.2⟩
  · cases hx
theorem am_n_iinc (hexec : p.tables.exec = Jvm.exec) (hb : c.code = cc) {k : Nat} {d : Int} (hd : decode cc pc = .ok (.iinc k d, 3)) (hx : (match lo[k]? with
    | some (some (.int x)) => am_s1 (pc + 3) k (.int (x + Int32.ofInt d)) lo st h
    | _ => none) = some (.inl (pc', lo', st', h'))) (hf : am_fr D cl b bs ac n KC KS R s ls H locs cells slots lo h) 
    (kk : ∀ (ls' : Array Slot) (H' : Heap) (locs' : List Loc) (cells' slots' : Nat), am_fr D cl b bs ac n KC KS R s ls' H' locs' cells' slots' lo' h' → W p l e R s m args below meth c H' locs' cells' slots' Q (F0 m pc' ls' (st'.map (am_sv b bs)))) : W p l e R s m args below meth c H locs cells slots Q (F0 m pc ls (st.map (am_sv b bs))) := by
  split at hx
  · rename_i x hk
    obtain ⟨⟨h1, h2, -⟩, rfl, rfl, rfl, rfl⟩ := am_s1_inv hx
    obtain ⟨j, hj⟩ := List.getElem?_of_mem (am_mem_pr (b := b) (bs := bs) hk)
    refine lv_iinc hexec hb hd hf.1.has hj rfl (by rw [← hf.1.2.1]; exact h1) rfl fun ls' hl' => kk _ _ _ _ _ ⟨hf.1.st1 h2 (fun v hv => by cases hv; rfl) hl', hf.2⟩
  · cases hx
theorem am_n_iadd (hexec : p.tables.exec = Jvm.exec) (hb : c.code = cc)  (hd : decode cc pc = .ok (.iadd, 1)) (hx : am_i2 st (fun u v r => am_nx (pc + 1) lo (.int (u + v) :: r) h) = some (.inl (pc', lo', st', h'))) (hf : am_fr D cl b bs ac n KC KS R s ls H locs cells slots lo h) 
    (kk : ∀ (ls' : Array Slot) (H' : Heap) (locs' : List Loc) (cells' slots' : Nat), am_fr D cl b bs ac n KC KS R s ls' H' locs' cells' slots' lo' h' → W p l e R s m args below meth c H' locs' cells' slots' Q (F0 m pc' ls' (st'.map (am_sv b bs)))) : W p l e R s m args below meth c H locs cells slots Q (F0 m pc ls (st.map (am_sv b bs))) := by
  obtain ⟨u, v, r, rfl, hy⟩ := am_i2_inv hx
  clear hx; have hx := hy; clear hy
  obtain ⟨rfl, rfl, rfl, rfl⟩ := am_nx_inv hx
  exact lv_iadd hexec hb hd (kk _ _ _ _ _ hf)
theorem am_n_isub (hexec : p.tables.exec = Jvm.exec) (hb : c.code = cc)  (hd : decode cc pc = .ok (.isub, 1)) (hx : am_i2 st (fun u v r => am_nx (pc + 1) lo (.int (u - v) :: r) h) = some (.inl (pc', lo', st', h'))) (hf : am_fr D cl b bs ac n KC KS R s ls H locs cells slots lo h) 
    (kk : ∀ (ls' : Array Slot) (H' : Heap) (locs' : List Loc) (cells' slots' : Nat), am_fr D cl b bs ac n KC KS R s ls' H' locs' cells' slots' lo' h' → W p l e R s m args below meth c H' locs' cells' slots' Q (F0 m pc' ls' (st'.map (am_sv b bs)))) : W p l e R s m args below meth c H locs cells slots Q (F0 m pc ls (st.map (am_sv b bs))) := by
  obtain ⟨u, v, r, rfl, hy⟩ := am_i2_inv hx
  clear hx; have hx := hy; clear hy
  obtain ⟨rfl, rfl, rfl, rfl⟩ := am_nx_inv hx
  exact lv_isub hexec hb hd (kk _ _ _ _ _ hf)
theorem am_n_imul (hexec : p.tables.exec = Jvm.exec) (hb : c.code = cc)  (hd : decode cc pc = .ok (.imul, 1)) (hx : am_i2 st (fun u v r => am_nx (pc + 1) lo (.int (u * v) :: r) h) = some (.inl (pc', lo', st', h'))) (hf : am_fr D cl b bs ac n KC KS R s ls H locs cells slots lo h) 
    (kk : ∀ (ls' : Array Slot) (H' : Heap) (locs' : List Loc) (cells' slots' : Nat), am_fr D cl b bs ac n KC KS R s ls' H' locs' cells' slots' lo' h' → W p l e R s m args below meth c H' locs' cells' slots' Q (F0 m pc' ls' (st'.map (am_sv b bs)))) : W p l e R s m args below meth c H locs cells slots Q (F0 m pc ls (st.map (am_sv b bs))) := by
  obtain ⟨u, v, r, rfl, hy⟩ := am_i2_inv hx
  clear hx; have hx := hy; clear hy
  obtain ⟨rfl, rfl, rfl, rfl⟩ := am_nx_inv hx
  exact lv_imul hexec hb hd (kk _ _ _ _ _ hf)
theorem am_n_iand (hexec : p.tables.exec = Jvm.exec) (hb : c.code = cc)  (hd : decode cc pc = .ok (.iand, 1)) (hx : am_i2 st (fun u v r => am_nx (pc + 1) lo (.int (u &&& v) :: r) h) = some (.inl (pc', lo', st', h'))) (hf : am_fr D cl b bs ac n KC KS R s ls H locs cells slots lo h) 
    (kk : ∀ (ls' : Array Slot) (H' : Heap) (locs' : List Loc) (cells' slots' : Nat), am_fr D cl b bs ac n KC KS R s ls' H' locs' cells' slots' lo' h' → W p l e R s m args below meth c H' locs' cells' slots' Q (F0 m pc' ls' (st'.map (am_sv b bs)))) : W p l e R s m args below meth c H locs cells slots Q (F0 m pc ls (st.map (am_sv b bs))) := by
  obtain ⟨u, v, r, rfl, hy⟩ := am_i2_inv hx
  clear hx; have hx := hy; clear hy
  obtain ⟨rfl, rfl, rfl, rfl⟩ := am_nx_inv hx
  exact lv_iand hexec hb hd (kk _ _ _ _ _ hf)
theorem am_n_ior (hexec : p.tables.exec = Jvm.exec) (hb : c.code = cc)  (hd : decode cc pc = .ok (.ior, 1)) (hx : am_i2 st (fun u v r => am_nx (pc + 1) lo (.int (u ||| v) :: r) h) = some (.inl (pc', lo', st', h'))) (hf : am_fr D cl b bs ac n KC KS R s ls H locs cells slots lo h) 
    (kk : ∀ (ls' : Array Slot) (H' : Heap) (locs' : List Loc) (cells' slots' : Nat), am_fr D cl b bs ac n KC KS R s ls' H' locs' cells' slots' lo' h' → W p l e R s m args below meth c H' locs' cells' slots' Q (F0 m pc' ls' (st'.map (am_sv b bs)))) : W p l e R s m args below meth c H locs cells slots Q (F0 m pc ls (st.map (am_sv b bs))) := by
  obtain ⟨u, v, r, rfl, hy⟩ := am_i2_inv hx
  clear hx; have hx := hy; clear hy
  obtain ⟨rfl, rfl, rfl, rfl⟩ := am_nx_inv hx
  exact lv_ior hexec hb hd (kk _ _ _ _ _ hf)
theorem am_n_ixor (hexec : p.tables.exec = Jvm.exec) (hb : c.code = cc)  (hd : decode cc pc = .ok (.ixor, 1)) (hx : am_i2 st (fun u v r => am_nx (pc + 1) lo (.int (u ^^^ v) :: r) h) = some (.inl (pc', lo', st', h'))) (hf : am_fr D cl b bs ac n KC KS R s ls H locs cells slots lo h) 
    (kk : ∀ (ls' : Array Slot) (H' : Heap) (locs' : List Loc) (cells' slots' : Nat), am_fr D cl b bs ac n KC KS R s ls' H' locs' cells' slots' lo' h' → W p l e R s m args below meth c H' locs' cells' slots' Q (F0 m pc' ls' (st'.map (am_sv b bs)))) : W p l e R s m args below meth c H locs cells slots Q (F0 m pc ls (st.map (am_sv b bs))) := by
  obtain ⟨u, v, r, rfl, hy⟩ := am_i2_inv hx
  clear hx; have hx := hy; clear hy
  obtain ⟨rfl, rfl, rfl, rfl⟩ := am_nx_inv hx
  exact lv_ixor hexec hb hd (kk _ _ _ _ _ hf)
theorem am_n_ishl (hexec : p.tables.exec = Jvm.exec) (hb : c.code = cc)  (hd : decode cc pc = .ok (.ishl, 1)) (hx : am_i2 st (fun u v r => am_nx (pc + 1) lo (.int (u <<< (v &&& 31)) :: r) h) = some (.inl (pc', lo', st', h'))) (hf : am_fr D cl b bs ac n KC KS R s ls H locs cells slots lo h) 
    (kk : ∀ (ls' : Array Slot) (H' : Heap) (locs' : List Loc) (cells' slots' : Nat), am_fr D cl b bs ac n KC KS R s ls' H' locs' cells' slots' lo' h' → W p l e R s m args below meth c H' locs' cells' slots' Q (F0 m pc' ls' (st'.map (am_sv b bs)))) : W p l e R s m args below meth c H locs cells slots Q (F0 m pc ls (st.map (am_sv b bs))) := by
  obtain ⟨u, v, r, rfl, hy⟩ := am_i2_inv hx
  clear hx; have hx := hy; clear hy
  obtain ⟨rfl, rfl, rfl, rfl⟩ := am_nx_inv hx
  exact lv_ishl hexec hb hd (kk _ _ _ _ _ hf)
theorem am_n_iushr (hexec : p.tables.exec = Jvm.exec) (hb : c.code = cc)  (hd : decode cc pc = .ok (.iushr, 1)) (hx : am_i2 st (fun u v r => am_nx (pc + 1) lo (.int (u.toUInt32 >>> (v.toUInt32 &&& Int32.toUInt32 31)).toInt32 :: r) h) = some (.inl (pc', lo', st', h'))) (hf : am_fr D cl b bs ac n KC KS R s ls H locs cells slots lo h) 
    (kk : ∀ (ls' : Array Slot) (H' : Heap) (locs' : List Loc) (cells' slots' : Nat), am_fr D cl b bs ac n KC KS R s ls' H' locs' cells' slots' lo' h' → W p l e R s m args below meth c H' locs' cells' slots' Q (F0 m pc' ls' (st'.map (am_sv b bs)))) : W p l e R s m args below meth c H locs cells slots Q (F0 m pc ls (st.map (am_sv b bs))) := by
  obtain ⟨u, v, r, rfl, hy⟩ := am_i2_inv hx
  clear hx; have hx := hy; clear hy
  obtain ⟨rfl, rfl, rfl, rfl⟩ := am_nx_inv hx
  exact lv_iushr hexec hb hd rfl (kk _ _ _ _ _ hf)
theorem am_n_idiv (hexec : p.tables.exec = Jvm.exec) (hb : c.code = cc)  (hd : decode cc pc = .ok (.idiv, 1)) (hx : am_i2 st (fun u v r => if v = 0 then none else am_nx (pc + 1) lo (.int (u / v) :: r) h) = some (.inl (pc', lo', st', h'))) (hf : am_fr D cl b bs ac n KC KS R s ls H locs cells slots lo h) 
    (kk : ∀ (ls' : Array Slot) (H' : Heap) (locs' : List Loc) (cells' slots' : Nat), am_fr D cl b bs ac n KC KS R s ls' H' locs' cells' slots' lo' h' → W p l e R s m args below meth c H' locs' cells' slots' Q (F0 m pc' ls' (st'.map (am_sv b bs)))) : W p l e R s m args below meth c H locs cells slots Q (F0 m pc ls (st.map (am_sv b bs))) := by
  obtain ⟨u, v, r, rfl, hy⟩ := am_i2_inv hx
  clear hx; have hx := hy; clear hy
  split at hx
  · cases hx
  · rename_i hne
    obtain ⟨rfl, rfl, rfl, rfl⟩ := am_nx_inv hx
    exact lv_idiv hexec hb hd hne (kk _ _ _ _ _ hf)
theorem am_n_land (hexec : p.tables.exec = Jvm.exec) (hb : c.code = cc)  (hd : decode cc pc = .ok (.land, 1)) (hx : am_j2 st (fun u v r => am_nx (pc + 1) lo (.long (u &&& v) :: r) h) = some (.inl (pc', lo', st', h'))) (hf : am_fr D cl b bs ac n KC KS R s ls H locs cells slots lo h) 
    (kk : ∀ (ls' : Array Slot) (H' : Heap) (locs' : List Loc) (cells' slots' : Nat), am_fr D cl b bs ac n KC KS R s ls' H' locs' cells' slots' lo' h' → W p l e R s m args below meth c H' locs' cells' slots' Q (F0 m pc' ls' (st'.map (am_sv b bs)))) : W p l e R s m args below meth c H locs cells slots Q (F0 m pc ls (st.map (am_sv b bs))) := by
  obtain ⟨u, v, r, rfl, hy⟩ := am_j2_inv hx
  clear hx; have hx := hy; clear hy
  obtain ⟨rfl, rfl, rfl, rfl⟩ := am_nx_inv hx
  exact lv_land hexec hb hd (kk _ _ _ _ _ hf)
theorem am_n_lor (hexec : p.tables.exec = Jvm.exec) (hb : c.code = cc)  (hd : decode cc pc = .ok (.lor, 1)) (hx : am_j2 st (fun u v r => am_nx (pc + 1) lo (.long (u ||| v) :: r) h) = some (.inl (pc', lo', st', h'))) (hf : am_fr D cl b bs ac n KC KS R s ls H locs cells slots lo h) 
    (kk : ∀ (ls' : Array Slot) (H' : Heap) (locs' : List Loc) (cells' slots' : Nat), am_fr D cl b bs ac n KC KS R s ls' H' locs' cells' slots' lo' h' → W p l e R s m args below meth c H' locs' cells' slots' Q (F0 m pc' ls' (st'.map (am_sv b bs)))) : W p l e R s m args below meth c H locs cells slots Q (F0 m pc ls (st.map (am_sv b bs))) := by
  obtain ⟨u, v, r, rfl, hy⟩ := am_j2_inv hx
  clear hx; have hx := hy; clear hy
  obtain ⟨rfl, rfl, rfl, rfl⟩ := am_nx_inv hx
  exact lv_lor hexec hb hd (kk _ _ _ _ _ hf)
theorem am_n_lshl (hexec : p.tables.exec = Jvm.exec) (hb : c.code = cc)  (hd : decode cc pc = .ok (.lshl, 1)) (hx : am_ij st (fun u v r => am_nx (pc + 1) lo (.long (u <<< (v.toInt64 &&& 63)) :: r) h) = some (.inl (pc', lo', st', h'))) (hf : am_fr D cl b bs ac n KC KS R s ls H locs cells slots lo h) 
    (kk : ∀ (ls' : Array Slot) (H' : Heap) (locs' : List Loc) (cells' slots' : Nat), am_fr D cl b bs ac n KC KS R s ls' H' locs' cells' slots' lo' h' → W p l e R s m args below meth c H' locs' cells' slots' Q (F0 m pc' ls' (st'.map (am_sv b bs)))) : W p l e R s m args below meth c H locs cells slots Q (F0 m pc ls (st.map (am_sv b bs))) := by
  obtain ⟨u, v, r, rfl, hy⟩ := am_ij_inv hx
  clear hx; have hx := hy; clear hy
  obtain ⟨rfl, rfl, rfl, rfl⟩ := am_nx_inv hx
  exact lv_lshl hexec hb hd rfl (kk _ _ _ _ _ hf)
theorem am_n_lcmp (hexec : p.tables.exec = Jvm.exec) (hb : c.code = cc)  (hd : decode cc pc = .ok (.lcmp, 1)) (hx : am_j2 st (fun u v r => am_nx (pc + 1) lo (.int (lg_cmp u v) :: r) h) = some (.inl (pc', lo', st', h'))) (hf : am_fr D cl b bs ac n KC KS R s ls H locs cells slots lo h) 
    (kk : ∀ (ls' : Array Slot) (H' : Heap) (locs' : List Loc) (cells' slots' : Nat), am_fr D cl b bs ac n KC KS R s ls' H' locs' cells' slots' lo' h' → W p l e R s m args below meth c H' locs' cells' slots' Q (F0 m pc' ls' (st'.map (am_sv b bs)))) : W p l e R s m args below meth c H locs cells slots Q (F0 m pc ls (st.map (am_sv b bs))) := by
  obtain ⟨u, v, r, rfl, hy⟩ := am_j2_inv hx
  clear hx; have hx := hy; clear hy
  obtain ⟨rfl, rfl, rfl, rfl⟩ := am_nx_inv hx
  exact W.lcmp hexec hb hd (kk _ _ _ _ _ hf)
theorem am_n_i2l (hexec : p.tables.exec = Jvm.exec) (hb : c.code = cc)  (hd : decode cc pc = .ok (.i2l, 1)) (hx : am_i1 st (fun u r => am_nx (pc + 1) lo (.long u.toInt64 :: r) h) = some (.inl (pc', lo', st', h'))) (hf : am_fr D cl b bs ac n KC KS R s ls H locs cells slots lo h) 
    (kk : ∀ (ls' : Array Slot) (H' : Heap) (locs' : List Loc) (cells' slots' : Nat), am_fr D cl b bs ac n KC KS R s ls' H' locs' cells' slots' lo' h' → W p l e R s m args below meth c H' locs' cells' slots' Q (F0 m pc' ls' (st'.map (am_sv b bs)))) : W p l e R s m args below meth c H locs cells slots Q (F0 m pc ls (st.map (am_sv b bs))) := by
  obtain ⟨u, r, rfl, hy⟩ := am_i1_inv hx
  clear hx; have hx := hy; clear hy
  obtain ⟨rfl, rfl, rfl, rfl⟩ := am_nx_inv hx
  exact lv_i2l hexec hb hd rfl (kk _ _ _ _ _ hf)
-- the stack
theorem am_n_dup (hexec : p.tables.exec = Jvm.exec) (hb : c.code = cc)  (hd : decode cc pc = .ok (.dup, 1)) (hx : (match st with
    | v :: r => if v.category = 1 then am_nx (pc + 1) lo (v :: v :: r) h else none
    | _ => none) = some (.inl (pc', lo', st', h'))) (hf : am_fr D cl b bs ac n KC KS R s ls H locs cells slots lo h) 
    (kk : ∀ (ls' : Array Slot) (H' : Heap) (locs' : List Loc) (cells' slots' : Nat), am_fr D cl b bs ac n KC KS R s ls' H' locs' cells' slots' lo' h' → W p l e R s m args below meth c H' locs' cells' slots' Q (F0 m pc' ls' (st'.map (am_sv b bs)))) : W p l e R s m args below meth c H locs cells slots Q (F0 m pc ls (st.map (am_sv b bs))) := by
  split at hx
  · obtain ⟨hc, hy⟩ := am_if_inv hx
    clear hx; have hx := hy; clear hy
    obtain ⟨rfl, rfl, rfl, rfl⟩ := am_nx_inv hx
    exact lv_dup hexec hb hd (by rw [am_sv_cat]; exact hc) (kk _ _ _ _ _ hf)
  · cases hx
theorem am_n_dup_x1 (hexec : p.tables.exec = Jvm.exec) (hb : c.code = cc)  (hd : decode cc pc = .ok (.dup_x1, 1)) (hx : (match st with
    | v :: w :: r => if v.category = 1 ∧ w.category = 1 then am_nx (pc + 1) lo (v :: w :: v :: r) h else none
    | _ => none) = some (.inl (pc', lo', st', h'))) (hf : am_fr D cl b bs ac n KC KS R s ls H locs cells slots lo h) 
    (kk : ∀ (ls' : Array Slot) (H' : Heap) (locs' : List Loc) (cells' slots' : Nat), am_fr D cl b bs ac n KC KS R s ls' H' locs' cells' slots' lo' h' → W p l e R s m args below meth c H' locs' cells' slots' Q (F0 m pc' ls' (st'.map (am_sv b bs)))) : W p l e R s m args below meth c H locs cells slots Q (F0 m pc ls (st.map (am_sv b bs))) := by
  split at hx
  · obtain ⟨hc, hy⟩ := am_if_inv hx
    clear hx; have hx := hy; clear hy
    obtain ⟨rfl, rfl, rfl, rfl⟩ := am_nx_inv hx
    exact lv_dup_x1 hexec hb hd (by rw [am_sv_cat]; exact hc.1) (by rw [am_sv_cat]; exact hc.2) (kk _ _ _ _ _ hf)
  · cases hx
theorem am_n_dup_x2 (hexec : p.tables.exec = Jvm.exec) (hb : c.code = cc)  (hd : decode cc pc = .ok (.dup_x2, 1)) (hx : (match st with
    | v :: w :: u :: r => if v.category = 1 ∧ w.category = 1 ∧ u.category = 1 then am_nx (pc + 1) lo (v :: w :: u :: v :: r) h else none
    | _ => none) = some (.inl (pc', lo', st', h'))) (hf : am_fr D cl b bs ac n KC KS R s ls H locs cells slots lo h) 
    (kk : ∀ (ls' : Array Slot) (H' : Heap) (locs' : List Loc) (cells' slots' : Nat), am_fr D cl b bs ac n KC KS R s ls' H' locs' cells' slots' lo' h' → W p l e R s m args below meth c H' locs' cells' slots' Q (F0 m pc' ls' (st'.map (am_sv b bs)))) : W p l e R s m args below meth c H locs cells slots Q (F0 m pc ls (st.map (am_sv b bs))) := by
  split at hx
  · obtain ⟨hc, hy⟩ := am_if_inv hx
    clear hx; have hx := hy; clear hy
    obtain ⟨rfl, rfl, rfl, rfl⟩ := am_nx_inv hx
    exact lv_dup_x2 hexec hb hd (by rw [am_sv_cat]; exact hc.1) (by rw [am_sv_cat]; exact hc.2.1) (by rw [am_sv_cat]; exact hc.2.2) (kk _ _ _ _ _ hf)
  · cases hx
theorem am_n_dup2 (hexec : p.tables.exec = Jvm.exec) (hb : c.code = cc)  (hd : decode cc pc = .ok (.dup2, 1)) (hx : (match st with
    | v :: w :: r => if v.category = 1 ∧ w.category = 1 then am_nx (pc + 1) lo (v :: w :: v :: w :: r) h else none
    | _ => none) = some (.inl (pc', lo', st', h'))) (hf : am_fr D cl b bs ac n KC KS R s ls H locs cells slots lo h) 
    (kk : ∀ (ls' : Array Slot) (H' : Heap) (locs' : List Loc) (cells' slots' : Nat), am_fr D cl b bs ac n KC KS R s ls' H' locs' cells' slots' lo' h' → W p l e R s m args below meth c H' locs' cells' slots' Q (F0 m pc' ls' (st'.map (am_sv b bs)))) : W p l e R s m args below meth c H locs cells slots Q (F0 m pc ls (st.map (am_sv b bs))) := by
  split at hx
  · obtain ⟨hc, hy⟩ := am_if_inv hx
    clear hx; have hx := hy; clear hy
    obtain ⟨rfl, rfl, rfl, rfl⟩ := am_nx_inv hx
    exact lv_dup2_11 hexec hb hd (by rw [am_sv_cat]; exact hc.1) (by rw [am_sv_cat]; exact hc.2) (kk _ _ _ _ _ hf)
  · cases hx
theorem am_n_pop (hexec : p.tables.exec = Jvm.exec) (hb : c.code = cc)  (hd : decode cc pc = .ok (.pop, 1)) (hx : (match st with
    | v :: r => if v.category = 1 then am_nx (pc + 1) lo r h else none
    | _ => none) = some (.inl (pc', lo', st', h'))) (hf : am_fr D cl b bs ac n KC KS R s ls H locs cells slots lo h) 
    (kk : ∀ (ls' : Array Slot) (H' : Heap) (locs' : List Loc) (cells' slots' : Nat), am_fr D cl b bs ac n KC KS R s ls' H' locs' cells' slots' lo' h' → W p l e R s m args below meth c H' locs' cells' slots' Q (F0 m pc' ls' (st'.map (am_sv b bs)))) : W p l e R s m args below meth c H locs cells slots Q (F0 m pc ls (st.map (am_sv b bs))) := by
  split at hx
  · obtain ⟨hc, hy⟩ := am_if_inv hx
    clear hx; have hx := hy; clear hy
    obtain ⟨rfl, rfl, rfl, rfl⟩ := am_nx_inv hx
    exact lv_pop hexec hb hd (by rw [am_sv_cat]; exact hc) (kk _ _ _ _ _ hf)
  · cases hx
theorem am_n_ifCond (hexec : p.tables.exec = Jvm.exec) (hb : c.code = cc) {cn : ClassFile.Cond} {off : Int} (hd : decode cc pc = .ok (.ifCond cn off, 3)) (hx : am_i1 st (fun u r => am_to pc off fun t => am_nx (if am_cc cn u 0 = true then t else pc + 3) lo r h) = some (.inl (pc', lo', st', h'))) (hf : am_fr D cl b bs ac n KC KS R s ls H locs cells slots lo h) 
    (kk : ∀ (ls' : Array Slot) (H' : Heap) (locs' : List Loc) (cells' slots' : Nat), am_fr D cl b bs ac n KC KS R s ls' H' locs' cells' slots' lo' h' → W p l e R s m args below meth c H' locs' cells' slots' Q (F0 m pc' ls' (st'.map (am_sv b bs)))) : W p l e R s m args below meth c H locs cells slots Q (F0 m pc ls (st.map (am_sv b bs))) := by
  obtain ⟨u, r, rfl, hy⟩ := am_i1_inv hx
  clear hx; have hx := hy; clear hy
  obtain ⟨t, ht, hy⟩ := am_to_inv hx
  clear hx; have hx := hy; clear hy
  obtain ⟨rfl, rfl, rfl, rfl⟩ := am_nx_inv hx
  cases cn with
  | eq =>
    refine lv_if_eq hexec hb hd ht (fun hc => ?_) (fun hc => ?_)
    · have e1 : am_cc .eq u 0 = true := by simp [am_cc, hc]
      rw [if_pos e1] at kk
      exact kk _ _ _ _ _ hf
    · have e1 : ¬ am_cc .eq u 0 = true := by simp [am_cc, hc]
      rw [if_neg e1] at kk
      exact kk _ _ _ _ _ hf
  | ne =>
    refine lv_if_ne hexec hb hd ht (fun hc => ?_) (fun hc => ?_)
    · have e1 : am_cc .ne u 0 = true := by simp [am_cc, hc]
      rw [if_pos e1] at kk
      exact kk _ _ _ _ _ hf
    · have e1 : ¬ am_cc .ne u 0 = true := by simp [am_cc, hc]
      rw [if_neg e1] at kk
      exact kk _ _ _ _ _ hf
  | lt =>
    refine lv_if_lt hexec hb hd ht (fun hc => ?_) (fun hc => ?_)
    · have e1 : am_cc .lt u 0 = true := by simp [am_cc, hc]
      rw [if_pos e1] at kk
      exact kk _ _ _ _ _ hf
    · have e1 : ¬ am_cc .lt u 0 = true := by simp [am_cc, hc]
      rw [if_neg e1] at kk
      exact kk _ _ _ _ _ hf
  | ge =>
    refine lv_if_ge hexec hb hd ht (fun hc => ?_) (fun hc => ?_)
    · have e1 : am_cc .ge u 0 = true := by simp [am_cc, hc]
      rw [if_pos e1] at kk
      exact kk _ _ _ _ _ hf
    · have e1 : ¬ am_cc .ge u 0 = true := by simp [am_cc, hc]
      rw [if_neg e1] at kk
      exact kk _ _ _ _ _ hf
  | gt =>
    refine lv_if_gt hexec hb hd ht (fun hc => ?_) (fun hc => ?_)
    · have e1 : am_cc .gt u 0 = true := by simp [am_cc, hc]
      rw [if_pos e1] at kk
      exact kk _ _ _ _ _ hf
    · have e1 : ¬ am_cc .gt u 0 = true := by simp [am_cc, hc]
      rw [if_neg e1] at kk
      exact kk _ _ _ _ _ hf
  | le =>
    refine lv_if_le hexec hb hd ht (fun hc => ?_) (fun hc => ?_)
    · have e1 : am_cc .le u 0 = true := by simp [am_cc, hc]
      rw [if_pos e1] at kk
      exact kk _ _ _ _ _ hf
    · have e1 : ¬ am_cc .le u 0 = true := by simp [am_cc, hc]
      rw [if_neg e1] at kk
      exact kk _ _ _ _ _ hf
theorem am_n_if_icmp (hexec : p.tables.exec = Jvm.exec) (hb : c.code = cc) {cn : ClassFile.Cond} {off : Int} (hd : decode cc pc = .ok (.if_icmp cn off, 3)) (hx : am_i2 st (fun u v r => am_to pc off fun t => am_nx (if am_cc cn u v = true then t else pc + 3) lo r h) = some (.inl (pc', lo', st', h'))) (hf : am_fr D cl b bs ac n KC KS R s ls H locs cells slots lo h) 
    (kk : ∀ (ls' : Array Slot) (H' : Heap) (locs' : List Loc) (cells' slots' : Nat), am_fr D cl b bs ac n KC KS R s ls' H' locs' cells' slots' lo' h' → W p l e R s m args below meth c H' locs' cells' slots' Q (F0 m pc' ls' (st'.map (am_sv b bs)))) : W p l e R s m args below meth c H locs cells slots Q (F0 m pc ls (st.map (am_sv b bs))) := by
  obtain ⟨u, v, r, rfl, hy⟩ := am_i2_inv hx
  clear hx; have hx := hy; clear hy
  obtain ⟨t, ht, hy⟩ := am_to_inv hx
  clear hx; have hx := hy; clear hy
  obtain ⟨rfl, rfl, rfl, rfl⟩ := am_nx_inv hx
  cases cn with
  | eq =>
    refine lv_icmp_eq hexec hb hd ht (fun hc => ?_) (fun hc => ?_)
    · have e1 : am_cc .eq u v = true := by simp [am_cc, hc]
      rw [if_pos e1] at kk
      exact kk _ _ _ _ _ hf
    · have e1 : ¬ am_cc .eq u v = true := by simp [am_cc, hc]
      rw [if_neg e1] at kk
      exact kk _ _ _ _ _ hf
  | ne =>
    refine lv_icmp_ne hexec hb hd ht (fun hc => ?_) (fun hc => ?_)
    · have e1 : am_cc .ne u v = true := by simp [am_cc, hc]
      rw [if_pos e1] at kk
      exact kk _ _ _ _ _ hf
    · have e1 : ¬ am_cc .ne u v = true := by simp [am_cc, hc]
      rw [if_neg e1] at kk
      exact kk _ _ _ _ _ hf
  | lt =>
    refine lv_icmp_lt hexec hb hd ht (fun hc => ?_) (fun hc => ?_)
    · have e1 : am_cc .lt u v = true := by simp [am_cc, hc]
      rw [if_pos e1] at kk
      exact kk _ _ _ _ _ hf
    · have e1 : ¬ am_cc .lt u v = true := by simp [am_cc, hc]
      rw [if_neg e1] at kk
      exact kk _ _ _ _ _ hf
  | ge =>
    refine lv_icmp_ge hexec hb hd ht (fun hc => ?_) (fun hc => ?_)
    · have e1 : am_cc .ge u v = true := by simp [am_cc, hc]
      rw [if_pos e1] at kk
      exact kk _ _ _ _ _ hf
    · have e1 : ¬ am_cc .ge u v = true := by simp [am_cc, hc]
      rw [if_neg e1] at kk
      exact kk _ _ _ _ _ hf
  | gt =>
    refine lv_icmp_gt hexec hb hd ht (fun hc => ?_) (fun hc => ?_)
    · have e1 : am_cc .gt u v = true := by simp [am_cc, hc]
      rw [if_pos e1] at kk
      exact kk _ _ _ _ _ hf
    · have e1 : ¬ am_cc .gt u v = true := by simp [am_cc, hc]
      rw [if_neg e1] at kk
      exact kk _ _ _ _ _ hf
  | le =>
    refine lv_icmp_le hexec hb hd ht (fun hc => ?_) (fun hc => ?_)
    · have e1 : am_cc .le u v = true := by simp [am_cc, hc]
      rw [if_pos e1] at kk
      exact kk _ _ _ _ _ hf
    · have e1 : ¬ am_cc .le u v = true := by simp [am_cc, hc]
      rw [if_neg e1] at kk
      exact kk _ _ _ _ _ hf
theorem am_n_ifnull (hexec : p.tables.exec = Jvm.exec) (hb : c.code = cc) {off : Int} (hd : decode cc pc = .ok (.ifnull off, 3)) (hx : (match st with
    | .null :: r => am_to pc off fun t => am_nx t lo r h
    | .ref _ :: r => am_nx (pc + 3) lo r h
    | _ => none) = some (.inl (pc', lo', st', h'))) (hf : am_fr D cl b bs ac n KC KS R s ls H locs cells slots lo h) 
    (kk : ∀ (ls' : Array Slot) (H' : Heap) (locs' : List Loc) (cells' slots' : Nat), am_fr D cl b bs ac n KC KS R s ls' H' locs' cells' slots' lo' h' → W p l e R s m args below meth c H' locs' cells' slots' Q (F0 m pc' ls' (st'.map (am_sv b bs)))) : W p l e R s m args below meth c H locs cells slots Q (F0 m pc ls (st.map (am_sv b bs))) := by
  split at hx
  · obtain ⟨t, ht, hy⟩ := am_to_inv hx
    clear hx; have hx := hy; clear hy
    obtain ⟨rfl, rfl, rfl, rfl⟩ := am_nx_inv hx
    exact lv_ifnullN hexec hb hd ht (kk _ _ _ _ _ hf)
  · obtain ⟨rfl, rfl, rfl, rfl⟩ := am_nx_inv hx
    exact lv_ifnull hexec hb hd (kk _ _ _ _ _ hf)
  · cases hx
theorem am_n_ifnonnull (hexec : p.tables.exec = Jvm.exec) (hb : c.code = cc) {off : Int} (hd : decode cc pc = .ok (.ifnonnull off, 3)) (hx : (match st with
    | .null :: r => am_nx (pc + 3) lo r h
    | .ref _ :: r => am_to pc off fun t => am_nx t lo r h
    | _ => none) = some (.inl (pc', lo', st', h'))) (hf : am_fr D cl b bs ac n KC KS R s ls H locs cells slots lo h) 
    (kk : ∀ (ls' : Array Slot) (H' : Heap) (locs' : List Loc) (cells' slots' : Nat), am_fr D cl b bs ac n KC KS R s ls' H' locs' cells' slots' lo' h' → W p l e R s m args below meth c H' locs' cells' slots' Q (F0 m pc' ls' (st'.map (am_sv b bs)))) : W p l e R s m args below meth c H locs cells slots Q (F0 m pc ls (st.map (am_sv b bs))) := by
  split at hx
  · obtain ⟨rfl, rfl, rfl, rfl⟩ := am_nx_inv hx
    exact lv_ifnonnullN hexec hb hd (kk _ _ _ _ _ hf)
  · obtain ⟨t, ht, hy⟩ := am_to_inv hx
    clear hx; have hx := hy; clear hy
    obtain ⟨rfl, rfl, rfl, rfl⟩ := am_nx_inv hx
    exact lv_ifnonnull hexec hb hd ht (kk _ _ _ _ _ hf)
  · cases hx
theorem am_n_goto (hexec : p.tables.exec = Jvm.exec) (hb : c.code = cc) {off : Int} (hd : decode cc pc = .ok (.goto off, 3)) (hx : am_to pc off (fun t => am_nx t lo st h) = some (.inl (pc', lo', st', h'))) (hf : am_fr D cl b bs ac n KC KS R s ls H locs cells slots lo h) 
    (kk : ∀ (ls' : Array Slot) (H' : Heap) (locs' : List Loc) (cells' slots' : Nat), am_fr D cl b bs ac n KC KS R s ls' H' locs' cells' slots' lo' h' → W p l e R s m args below meth c H' locs' cells' slots' Q (F0 m pc' ls' (st'.map (am_sv b bs)))) : W p l e R s m args below meth c H locs cells slots Q (F0 m pc ls (st.map (am_sv b bs))) := by
  obtain ⟨t, ht, hy⟩ := am_to_inv hx
  clear hx; have hx := hy; clear hy
  obtain ⟨rfl, rfl, rfl, rfl⟩ := am_nx_inv hx
  exact lv_goto hexec hb hd ht (kk _ _ _ _ _ hf)
theorem am_n_tableswitch (hexec : p.tables.exec = Jvm.exec) (hb : c.code = cc) {d a z : Int} {offs : Array Int} (hd : decode cc pc = .ok (.tableswitch d a z offs, len)) (hx : am_i1 st (fun x r => if x.toInt < a ∨ z < x.toInt then am_to pc d fun t => am_nx t lo r h else match offs[(x.toInt - a).toNat]? with
    | some o => am_to pc o fun t => am_nx t lo r h
    | none => none) = some (.inl (pc', lo', st', h'))) (hf : am_fr D cl b bs ac n KC KS R s ls H locs cells slots lo h) 
    (kk : ∀ (ls' : Array Slot) (H' : Heap) (locs' : List Loc) (cells' slots' : Nat), am_fr D cl b bs ac n KC KS R s ls' H' locs' cells' slots' lo' h' → W p l e R s m args below meth c H' locs' cells' slots' Q (F0 m pc' ls' (st'.map (am_sv b bs)))) : W p l e R s m args below meth c H locs cells slots Q (F0 m pc ls (st.map (am_sv b bs))) := by
  obtain ⟨u, r, rfl, hy⟩ := am_i1_inv hx
  clear hx; have hx := hy; clear hy
  split at hx
  · rename_i hc
    obtain ⟨t, ht, hy⟩ := am_to_inv hx
    clear hx; have hx := hy; clear hy
    obtain ⟨rfl, rfl, rfl, rfl⟩ := am_nx_inv hx
    exact lv_tableOut hexec hb hd hc ht (kk _ _ _ _ _ hf)
  · rename_i hc
    split at hx
    · rename_i o ho
      obtain ⟨t, ht, hy⟩ := am_to_inv hx
      clear hx; have hx := hy; clear hy
      obtain ⟨rfl, rfl, rfl, rfl⟩ := am_nx_inv hx
      exact lv_tableIn hexec hb hd (fun q => hc (Or.inl q)) (fun q => hc (Or.inr q)) ho ht (kk _ _ _ _ _ hf)
    · cases hx
theorem am_n_lookupswitch (hexec : p.tables.exec = Jvm.exec) (hb : c.code = cc) {d : Int} {ps : Array (Int × Int)} (hd : decode cc pc = .ok (.lookupswitch d ps, len)) (hx : am_i1 st (fun x r => if (ps.toList.zip (ps.toList.drop 1)).all (fun q => decide (q.1.1 < q.2.1)) = true then am_to pc (Op.lookupswitch.offset ps.toList d x.toInt) fun t => am_nx t lo r h else none) = some (.inl (pc', lo', st', h'))) (hf : am_fr D cl b bs ac n KC KS R s ls H locs cells slots lo h) 
    (kk : ∀ (ls' : Array Slot) (H' : Heap) (locs' : List Loc) (cells' slots' : Nat), am_fr D cl b bs ac n KC KS R s ls' H' locs' cells' slots' lo' h' → W p l e R s m args below meth c H' locs' cells' slots' Q (F0 m pc' ls' (st'.map (am_sv b bs)))) : W p l e R s m args below meth c H locs cells slots Q (F0 m pc ls (st.map (am_sv b bs))) := by
  obtain ⟨u, r, rfl, hy⟩ := am_i1_inv hx
  clear hx; have hx := hy; clear hy
  obtain ⟨hc, hy⟩ := am_if_inv hx
  clear hx; have hx := hy; clear hy
  obtain ⟨t, ht, hy⟩ := am_to_inv hx
  clear hx; have hx := hy; clear hy
  obtain ⟨rfl, rfl, rfl, rfl⟩ := am_nx_inv hx
  exact lv_lookup hexec hb hd hc rfl ht (kk _ _ _ _ _ hf)
end AS
end
section
/-! Steps that read, write or make cells. -/
section AT
variable {P : am_P} {TAB : List Cond} {cl : List vw_C} {tt : List FieldType} {D : va_G} {ac : Nat → ClassId} {b bs n KC KS y pc pc' len : Nat} {lo lo' : am_L} {st st' : List Value} {h h' : am_H}
variable {p : Program} {l : Launch} {e : Env} {R : Room} {s : State} {m : MethodId} {args : Array Value} {below : List Frame} {meth : Method} {c : Code} {ls : Array Slot} {H : Heap} {locs : List Loc} {cells slots : Nat} {Q : State → Prop} {cc : ByteArray}
theorem am_sl_push (h : am_H) (x : am_E) : am_sl (h ++ [x]) = am_sl h + am_ez x := by
  unfold am_sl
  simp
theorem am_sl_set {h : am_H} {a : Nat} {x z : am_E} (ha : h[a]? = some x) (hz : am_ez z = am_ez x) : am_sl (h.set a z) = am_sl h := by
  unfold am_sl
  induction h generalizing a with
  | nil => simp at ha
  | cons v r ih =>
    cases a with
    | zero =>
      simp at ha
      subst ha
      simp [hz]
    | succ a =>
      simp at ha
      have h1 := ih ha
      simp only [List.set_cons_succ, List.map_cons, List.sum_cons, h1]
/-- the heap is just as long as the abstract one -/
theorem am_exact {H1 : Heap} {locs1 : List Loc} {g : JFrame} (hP : va_P D cl (am_ws b bs ac h) H1) (hS : s.heap.size ≤ H1.size) (hbs : b ≤ s.heap.size) (hc : s.heap.size + cells = b + h.length)
    (k : H1.size = b + h.length → W p l e R s m args below meth c H1 locs1 cells slots Q g) : W p l e R s m args below meth c H1 locs1 cells slots Q g := by
  intro T hT X
  have up := X.heapSize
  rw [hT] at up
  have lw : b + h.length ≤ H1.size := by
    by_cases h0 : h.length = 0
    · omega
    · have hi : h.length - 1 < h.length := by omega
      have h1 : h[h.length - 1]? = some (h[h.length - 1]) := List.getElem?_eq_getElem hi
      have h2 := (hP _ _ (am_ws_get (b := b) (bs := bs) (ac := ac) h1)).lt
      dsimp only at h2
      omega
  exact k (by omega) T hT X
theorem am_fresh {q : Nat} {x : va_E} (hD : va_D (fun q => b ≤ q) (am_ws b bs ac h ++ [(q, x)])) : b + h.length ≤ q := by
  have hl := am_ws_len b bs ac h
  have h1 : (am_ws b bs ac h ++ [(q, x)])[h.length]? = some (q, x) := by
    rw [List.getElem?_append_right (by omega), hl, Nat.sub_self]
    rfl
  have h2 : b ≤ q := hD.2 _ _ h1
  by_cases h3 : b + h.length ≤ q
  · exact h3
  · have hi : q - b < h.length := by omega
    have h4 : (am_ws b bs ac h ++ [(q, x)])[q - b]? = some (b + (q - b), am_sE b bs ac h[q - b]) := by
      rw [List.getElem?_append_left (by omega)]
      exact am_ws_get (List.getElem?_eq_getElem hi)
    have h5 := hD.1 _ _ _ _ h4 h1 (by dsimp only; omega)
    omega
theorem am_exactN {H1 : Heap} {locs1 : List Loc} {q : Nat} {x : va_E} {g : JFrame} (hP : va_P D cl (am_ws b bs ac h ++ [(q, x)]) H1) (hD : va_D (fun q => b ≤ q) (am_ws b bs ac h ++ [(q, x)])) (hc : s.heap.size + cells = b + h.length)
    (k : q = b + h.length → H1.size = b + h.length + 1 → W p l e R s m args below meth c H1 locs1 (cells + 1) slots Q g) : W p l e R s m args below meth c H1 locs1 (cells + 1) slots Q g := by
  intro T hT X
  have up := X.heapSize
  rw [hT] at up
  have h1 := am_fresh hD
  have h2 : (am_ws b bs ac h ++ [(q, x)])[h.length]? = some (q, x) := by
    rw [List.getElem?_append_right (by rw [am_ws_len]; omega), am_ws_len, Nat.sub_self]
    rfl
  have h3 := (hP _ _ h2).lt
  dsimp only at h3
  exact k (by omega) (by omega) T hT X
theorem am_fr.ad {a : Nat} {x : am_E} (hf : am_fr D cl b bs ac n KC KS R s ls H locs cells slots lo h) (ha : h[a]? = some x) : am_ad b bs a = b + a := am_ad_in (Nat.le_trans hf.2.2.2.2.1.1 hf.2.2.2.2.2.2) ha
/-- a cell is written -/
theorem am_fr.put {H1 : Heap} {locs1 : List Loc} {a : Nat} {x z : am_E} (hf : am_fr D cl b bs ac n KC KS R s ls H locs cells slots lo h) (ha : h[a]? = some x) (hz : am_ez z = am_ez x) (hP : va_P D cl (am_ws b bs ac (h.set a z)) H1) (hS : va_S (fun q => b ≤ q) s.heap H1 locs1) (hs : H1.size = b + (h.set a z).length) : am_fr D cl b bs ac n KC KS R s ls H1 locs1 cells slots lo (h.set a z) := by
  obtain ⟨f1, ⟨-, f2⟩, f3, f4, f5, f6, f7⟩ := hf
  rw [List.length_set] at hs
  refine ⟨f1, ⟨hP, by rw [List.length_set]; exact hs⟩, hS, by omega, by rw [List.length_set]; exact f5, by rw [am_sl_set ha hz]; exact f6, f7⟩
theorem am_fr.eq (hf : am_fr D cl b bs ac n KC KS R s ls H locs cells slots lo h) : s.heap.size + cells = b + h.length := by
  have h1 := hf.2.1.2
  have h2 := hf.2.2.2.1
  omega
/-- a cell is made -/
theorem am_fr.push {H1 : Heap} {z : am_E} {k : Nat} (hf : am_fr D cl b bs ac n KC KS R s ls H locs cells slots lo h) (hz : am_ez z = k) (hP : va_P D cl (am_ws b bs ac (h ++ [z])) H1) (hS : va_S (fun q => b ≤ q) s.heap H1 locs) (hs : H1.size = b + h.length + 1) (hk : (h ++ [z]).length ≤ KC ∧ am_sl (h ++ [z]) ≤ KS) : am_fr D cl b bs ac n KC KS R s ls H1 locs (cells + 1) (slots + k) lo (h ++ [z]) := by
  obtain ⟨f1, ⟨-, f2⟩, f3, f4, f5, f6, f7⟩ := hf
  have e1 : (h ++ [z]).length = h.length + 1 := by simp
  have e2 := am_sl_push h z
  rw [e1] at hk
  refine ⟨f1, ⟨hP, by rw [e1]; omega⟩, hS, by omega, ⟨by omega, by omega⟩, ⟨by omega, by omega⟩, f7⟩
theorem am_fr.room {z : am_E} {k : Nat} (hf : am_fr D cl b bs ac n KC KS R s ls H locs cells slots lo h) (hz : am_ez z = k) (hk : (h ++ [z]).length ≤ KC ∧ am_sl (h ++ [z]) ≤ KS) : cells + 1 ≤ R.cells ∧ slots + k ≤ R.slots := by
  obtain ⟨f1, ⟨-, f2⟩, f3, f4, f5, f6, f7⟩ := hf
  have e1 : (h ++ [z]).length = h.length + 1 := by simp
  have e2 := am_sl_push h z
  rw [e1] at hk
  exact ⟨by omega, by omega⟩

theorem am_n_getfield (hexec : p.tables.exec = Jvm.exec) (hb : c.code = cc) {ix : Nat} (hts : ∀ w ∈ TAB, w.before args s = true) (hown : s.vm.findClass (am_nm (am_me P y)).cls = some m.cls) (hK : va_K D cl (am_tys ac tt) s) (oF : am_okF P TAB cl) (oC : am_okC TAB cl) (hd : decode cc pc = .ok (.getfield ix, 3)) (hx : (match am_fd P y ix with
    | some (ci, k, _, _) => am_r1 st fun a r => am_gB h a fun c fs => if c = ci then (match fs[k]? with
      | some v => am_nx (pc + 3) lo (v :: r) h
      | none => none) else none
    | none => none) = some (.inl (pc', lo', st', h'))) (hf : am_fr D cl b bs ac n KC KS R s ls H locs cells slots lo h)
    (kk : ∀ (ls' : Array Slot) (H' : Heap) (locs' : List Loc) (cells' slots' : Nat), am_fr D cl b bs ac n KC KS R s ls' H' locs' cells' slots' lo' h' → W p l e R s m args below meth c H' locs' cells' slots' Q (F0 m pc' ls' (st'.map (am_sv b bs)))) : W p l e R s m args below meth c H locs cells slots Q (F0 m pc ls (st.map (am_sv b bs))) := by
  split at hx
  · rename_i ci k ty wr hfd
    obtain ⟨a, r, rfl, hy⟩ := am_r1_inv hx
    clear hx; have hx := hy; clear hy
    obtain ⟨c1, fs, ha, hy⟩ := am_gB_inv hx
    clear hx; have hx := hy; clear hy
    obtain ⟨hc1, hy⟩ := am_if_inv hx
    clear hx; have hx := hy; clear hy
    subst hc1
    split at hx
    · rename_i v hv
      obtain ⟨rfl, rfl, rfl, rfl⟩ := am_nx_inv hx
      obtain ⟨C, T, N, h1, h2, h3, h4, -⟩ := oF y ix _ k ty wr hfd
      have e2 : (Value.ref a :: r).map (am_sv b bs) = .ref (b + a) :: r.map (am_sv b bs) := by simp [am_sv, hf.ad ha]
      rw [e2]
      exact va_get (D := D) (v := am_sv b bs v) hexec hb hts (oC _ _ _ _ h1).1 hown hK hf.2.1.1 a (am_ws_get ha) h1 k h2 (hts _ h3) (fun _ q => q) (by rw [List.getElem?_map, hv]; rfl) hd (kk _ _ _ _ _ hf)
    · cases hx
  · cases hx
theorem am_ft_ok {ty : FieldType} {v : Value} (h : am_ft ty v = true) : narrow ty (am_sv b bs v) = am_sv b bs v ∧ fits ty (am_sv b bs v) = true := by
  cases ty <;> cases v <;> simp [am_ft] at h
  all_goals first
    | exact ⟨rfl, rfl⟩
    | (rcases h with h | h <;> subst h <;> exact ⟨by rfl, by rfl⟩)
theorem am_n_putfield (hexec : p.tables.exec = Jvm.exec) (hb : c.code = cc) {ix : Nat} (hts : ∀ w ∈ TAB, w.before args s = true) (hown : s.vm.findClass (am_nm (am_me P y)).cls = some m.cls) (hK : va_K D cl (am_tys ac tt) s) (oF : am_okF P TAB cl) (oC : am_okC TAB cl) (hbs : b ≤ s.heap.size) (hnm : meth.name = (am_nm (am_me P y)).name) (hd : decode cc pc = .ok (.putfield ix, 3)) (hx : (match am_fd P y ix with
    | some (ci, k, ty, true) => am_vr st fun v a r => am_gB h a fun c fs => if c = ci ∧ k < fs.length ∧ am_ft ty v = true then am_nx (pc + 3) lo r (h.set a (.inr (c, fs.set k v))) else none
    | _ => none) = some (.inl (pc', lo', st', h'))) (hf : am_fr D cl b bs ac n KC KS R s ls H locs cells slots lo h)
    (kk : ∀ (ls' : Array Slot) (H' : Heap) (locs' : List Loc) (cells' slots' : Nat), am_fr D cl b bs ac n KC KS R s ls' H' locs' cells' slots' lo' h' → W p l e R s m args below meth c H' locs' cells' slots' Q (F0 m pc' ls' (st'.map (am_sv b bs)))) : W p l e R s m args below meth c H locs cells slots Q (F0 m pc ls (st.map (am_sv b bs))) := by
  split at hx
  · rename_i ci k ty hfd
    obtain ⟨v, a, r, rfl, hy⟩ := am_vr_inv hx
    clear hx; have hx := hy; clear hy
    obtain ⟨c1, fs, ha, hy⟩ := am_gB_inv hx
    clear hx; have hx := hy; clear hy
    obtain ⟨⟨hc1, hk, hft⟩, hy⟩ := am_if_inv hx
    clear hx; have hx := hy; clear hy
    subst hc1
    obtain ⟨rfl, rfl, rfl, rfl⟩ := am_nx_inv hx
    obtain ⟨C, T, N, h1, h2, h3, h4, h5⟩ := oF y ix _ k ty true hfd
    obtain ⟨o1, ⟨ty0, o2⟩, o3⟩ := oC _ _ _ _ h1
    obtain ⟨g1, g2⟩ := am_ft_ok (b := b) (bs := bs) hft
    have e2 : (v :: Value.ref a :: r).map (am_sv b bs) = am_sv b bs v :: .ref (b + a) :: r.map (am_sv b bs) := by simp [am_sv, hf.ad ha]
    rw [e2]
    have e3 : (am_ws b bs ac h).set a (b + a, .inr (c1, (fs.map (am_sv b bs)).set k (am_sv b bs v))) = am_ws b bs ac (h.set a (.inr (c1, fs.set k v))) := by
      rw [← am_ws_set, am_sE, List.map_set]
    have e4 : am_ez (.inr (c1, fs.set k v)) = am_ez (.inr (c1, fs)) := by
      cases fs with
      | nil => simp at hk
      | cons x t => cases k <;> simp [am_ez]
    have hl : k < (fs.map (am_sv b bs)).length := by rw [List.length_map]; exact hk
    have fin : ∀ (H1 : Heap) (locs1 : List Loc), va_P D cl ((am_ws b bs ac h).set a (b + a, .inr (c1, (fs.map (am_sv b bs)).set k (am_sv b bs v)))) H1 → va_D (fun q => b ≤ q) ((am_ws b bs ac h).set a (b + a, .inr (c1, (fs.map (am_sv b bs)).set k (am_sv b bs v)))) → va_S (fun q => b ≤ q) s.heap H1 locs1 → W p l e R s m args below meth c H1 locs1 cells slots Q (F0 m (pc + 3) ls (r.map (am_sv b bs))) := by
      intro H1 locs1 hP _ hS
      rw [e3] at hP
      exact am_exact hP hS.1 hbs (by rw [List.length_set]; exact hf.eq) fun hz => kk _ _ _ _ _ (hf.put ha e4 hP hS hz)
    rcases h5 rfl with h6 | ⟨h6, h7, h8⟩
    · exact va_put (D := D) hexec hb hts o1 ty0 o2 o3 hown hK hf.2.1.1 (am_ws_D b bs ac h) hf.2.2.1 a (am_ws_get ha) h1 k h2 (hts _ h3) (fun _ q => q) h6 h4 g1 g2 hl hd fin
    · exact va_putF (D := D) hexec hb hts o1 ty0 o2 o3 hown hK hf.2.1.1 (am_ws_D b bs ac h) hf.2.2.1 a (am_ws_get ha) h1 k h2 (hts _ h3) (fun _ q => q) h6 (hnm.trans h7) h8 h4 g1 g2 hl hd fin
  · cases hx
theorem am_n_baload (hexec : p.tables.exec = Jvm.exec) (hb : c.code = cc)  (hK : va_K D cl (am_tys ac tt) s) (oT : am_okT P cl tt) (hd : decode cc pc = .ok (.baload, 1)) (hx : am_ir st (fun i a r => am_gZ h a fun n f => if am_in i n = true then am_nx (pc + 1) lo (.int (f i.toNatClampNeg) :: r) h else none) = some (.inl (pc', lo', st', h'))) (hf : am_fr D cl b bs ac n KC KS R s ls H locs cells slots lo h)
    (kk : ∀ (ls' : Array Slot) (H' : Heap) (locs' : List Loc) (cells' slots' : Nat), am_fr D cl b bs ac n KC KS R s ls' H' locs' cells' slots' lo' h' → W p l e R s m args below meth c H' locs' cells' slots' Q (F0 m pc' ls' (st'.map (am_sv b bs)))) : W p l e R s m args below meth c H locs cells slots Q (F0 m pc ls (st.map (am_sv b bs))) := by
  obtain ⟨i, a, r, rfl, hy⟩ := am_ir_inv hx
  clear hx; have hx := hy; clear hy
  obtain ⟨k, f, ha, hy⟩ := am_gZ_inv hx
  clear hx; have hx := hy; clear hy
  obtain ⟨hi, hy⟩ := am_if_inv hx
  clear hx; have hx := hy; clear hy
  obtain ⟨rfl, rfl, rfl, rfl⟩ := am_nx_inv hx
  have e2 : (Value.int i :: Value.ref a :: r).map (am_sv b bs) = .int i :: .ref (b + a) :: r.map (am_sv b bs) := by simp [am_sv, hf.ad ha]
  rw [e2]
  exact va_zald (D := D) hexec hb hK hf.2.1.1 a 2 (am_ws_get ha) (am_tys_at oT.2.2.1) (am_vin hi) hd (kk _ _ _ _ _ hf)
theorem am_n_laload (hexec : p.tables.exec = Jvm.exec) (hb : c.code = cc)  (hK : va_K D cl (am_tys ac tt) s) (oT : am_okT P cl tt) (hd : decode cc pc = .ok (.laload, 1)) (hx : am_ir st (fun i a r => am_gJ h a fun n f => if am_in i n = true then am_nx (pc + 1) lo (.long (f i.toNatClampNeg) :: r) h else none) = some (.inl (pc', lo', st', h'))) (hf : am_fr D cl b bs ac n KC KS R s ls H locs cells slots lo h)
    (kk : ∀ (ls' : Array Slot) (H' : Heap) (locs' : List Loc) (cells' slots' : Nat), am_fr D cl b bs ac n KC KS R s ls' H' locs' cells' slots' lo' h' → W p l e R s m args below meth c H' locs' cells' slots' Q (F0 m pc' ls' (st'.map (am_sv b bs)))) : W p l e R s m args below meth c H locs cells slots Q (F0 m pc ls (st.map (am_sv b bs))) := by
  obtain ⟨i, a, r, rfl, hy⟩ := am_ir_inv hx
  clear hx; have hx := hy; clear hy
  obtain ⟨k, f, ha, hy⟩ := am_gJ_inv hx
  clear hx; have hx := hy; clear hy
  obtain ⟨hi, hy⟩ := am_if_inv hx
  clear hx; have hx := hy; clear hy
  obtain ⟨rfl, rfl, rfl, rfl⟩ := am_nx_inv hx
  have e2 : (Value.int i :: Value.ref a :: r).map (am_sv b bs) = .int i :: .ref (b + a) :: r.map (am_sv b bs) := by simp [am_sv, hf.ad ha]
  rw [e2]
  exact va_lald (D := D) hexec hb hK hf.2.1.1 a 1 (am_ws_get ha) (am_tys_at oT.2.1) (am_vin hi) hd (kk _ _ _ _ _ hf)
theorem am_n_iaload (hexec : p.tables.exec = Jvm.exec) (hb : c.code = cc)  (hK : va_K D cl (am_tys ac tt) s) (oT : am_okT P cl tt) (hX : va_X bs (am_sL P) (am_sX P) s s.heap) (hbl : bs < s.heap.size) (hbb : bs < b) (hd : decode cc pc = .ok (.iaload, 1)) (hx : am_ir st (fun i a r => if a = am_scr then (if am_in i (am_sL P) = true then am_nx (pc + 1) lo (.int (am_sX P i.toNatClampNeg) :: r) h else none) else am_gI h a fun n f => if am_in i n = true then am_nx (pc + 1) lo (.int (f i.toNatClampNeg) :: r) h else none) = some (.inl (pc', lo', st', h'))) (hf : am_fr D cl b bs ac n KC KS R s ls H locs cells slots lo h)
    (kk : ∀ (ls' : Array Slot) (H' : Heap) (locs' : List Loc) (cells' slots' : Nat), am_fr D cl b bs ac n KC KS R s ls' H' locs' cells' slots' lo' h' → W p l e R s m args below meth c H' locs' cells' slots' Q (F0 m pc' ls' (st'.map (am_sv b bs)))) : W p l e R s m args below meth c H locs cells slots Q (F0 m pc ls (st.map (am_sv b bs))) := by
  obtain ⟨i, a, r, rfl, hy⟩ := am_ir_inv hx
  clear hx; have hx := hy; clear hy
  split at hx
  · rename_i ha
    obtain ⟨hi, hy⟩ := am_if_inv hx
    clear hx; have hx := hy; clear hy
    obtain ⟨rfl, rfl, rfl, rfl⟩ := am_nx_inv hx
    have e2 : (Value.int i :: Value.ref a :: r).map (am_sv b bs) = .int i :: .ref bs :: r.map (am_sv b bs) := by simp [am_sv, am_ad, ha]
    rw [e2]
    exact va_sld hexec hb hX hbl (show ¬ b ≤ bs by omega) hf.2.2.1 (am_vin hi) hd (kk _ _ _ _ _ hf)
  · obtain ⟨k, f, ha, hy⟩ := am_gI_inv hx
    clear hx; have hx := hy; clear hy
    obtain ⟨hi, hy⟩ := am_if_inv hx
    clear hx; have hx := hy; clear hy
    obtain ⟨rfl, rfl, rfl, rfl⟩ := am_nx_inv hx
    have e2 : (Value.int i :: Value.ref a :: r).map (am_sv b bs) = .int i :: .ref (b + a) :: r.map (am_sv b bs) := by simp [am_sv, hf.ad ha]
    rw [e2]
    exact va_iald (D := D) hexec hb hK hf.2.1.1 a 0 (am_ws_get ha) (am_tys_at oT.1) (am_vin hi) hd (kk _ _ _ _ _ hf)
theorem am_n_aaload (hexec : p.tables.exec = Jvm.exec) (hb : c.code = cc)  (hK : va_K D cl (am_tys ac tt) s) (oT : am_okT P cl tt) (hd : decode cc pc = .ok (.aaload, 1)) (hx : am_ir st (fun i a r => am_gR h a fun t n g => if am_in i n = true ∧ 2 < t ∧ t < 5 then am_nx (pc + 1) lo (va_rf (g i.toNatClampNeg) :: r) h else none) = some (.inl (pc', lo', st', h'))) (hf : am_fr D cl b bs ac n KC KS R s ls H locs cells slots lo h)
    (kk : ∀ (ls' : Array Slot) (H' : Heap) (locs' : List Loc) (cells' slots' : Nat), am_fr D cl b bs ac n KC KS R s ls' H' locs' cells' slots' lo' h' → W p l e R s m args below meth c H' locs' cells' slots' Q (F0 m pc' ls' (st'.map (am_sv b bs)))) : W p l e R s m args below meth c H locs cells slots Q (F0 m pc ls (st.map (am_sv b bs))) := by
  obtain ⟨i, a, r, rfl, hy⟩ := am_ir_inv hx
  clear hx; have hx := hy; clear hy
  obtain ⟨t, k, g, ha, hy⟩ := am_gR_inv hx
  clear hx; have hx := hy; clear hy
  obtain ⟨⟨hi, t1, t2⟩, hy⟩ := am_if_inv hx
  clear hx; have hx := hy; clear hy
  obtain ⟨rfl, rfl, rfl, rfl⟩ := am_nx_inv hx
  have ht := List.getElem?_eq_getElem (show t < tt.length by rw [oT.2.2.2.1]; exact t2)
  obtain ⟨C, T, N, t3, -⟩ := oT.2.2.2.2 t t1 _ ht
  rw [t3] at ht
  have e2 : (Value.int i :: Value.ref a :: r).map (am_sv b bs) = .int i :: .ref (b + a) :: r.map (am_sv b bs) := by simp [am_sv, hf.ad ha]
  rw [e2]
  refine va_aldq (D := D) (f := fun j => (g j).map (am_ad b bs)) hexec hb hK hf.2.1.1 a t (am_ws_get ha) (am_tys_at ht) (am_vin hi) hd ?_
  have e3 : va_rf ((g i.toNatClampNeg).map (am_ad b bs)) = am_sv b bs (va_rf (g i.toNatClampNeg)) := by cases g i.toNatClampNeg <;> rfl
  rw [e3]
  exact kk _ _ _ _ _ hf
theorem am_n_iastore (hexec : p.tables.exec = Jvm.exec) (hb : c.code = cc)  (hK : va_K D cl (am_tys ac tt) s) (oT : am_okT P cl tt) (hbs : b ≤ s.heap.size) (hd : decode cc pc = .ok (.iastore, 1)) (hx : am_vir st (fun v i a r => (match v with
    | .int x => am_gI h a fun n f => if am_in i n = true then am_nx (pc + 1) lo r (h.set a (am_I n (upd f i.toNatClampNeg x))) else none
    | _ => none)) = some (.inl (pc', lo', st', h'))) (hf : am_fr D cl b bs ac n KC KS R s ls H locs cells slots lo h)
    (kk : ∀ (ls' : Array Slot) (H' : Heap) (locs' : List Loc) (cells' slots' : Nat), am_fr D cl b bs ac n KC KS R s ls' H' locs' cells' slots' lo' h' → W p l e R s m args below meth c H' locs' cells' slots' Q (F0 m pc' ls' (st'.map (am_sv b bs)))) : W p l e R s m args below meth c H locs cells slots Q (F0 m pc ls (st.map (am_sv b bs))) := by
  obtain ⟨v, i, a, r, rfl, hy⟩ := am_vir_inv hx
  clear hx; have hx := hy; clear hy
  split at hx
  · rename_i x
    obtain ⟨k, f, ha, hy⟩ := am_gI_inv hx
    clear hx; have hx := hy; clear hy
    obtain ⟨hi, hy⟩ := am_if_inv hx
    clear hx; have hx := hy; clear hy
    obtain ⟨rfl, rfl, rfl, rfl⟩ := am_nx_inv hx
    have e2 : (Value.int x :: Value.int i :: Value.ref a :: r).map (am_sv b bs) = .int x :: .int i :: .ref (b + a) :: r.map (am_sv b bs) := by simp [am_sv, hf.ad ha]
    rw [e2]
    refine va_iast (D := D) hexec hb hK hf.2.1.1 (am_ws_D b bs ac h) hf.2.2.1 a 0 (am_ws_get ha) (am_tys_at oT.1) (am_vin hi) hd fun H1 locs1 hP _ hS => ?_
    have hP : va_P D cl ((am_ws b bs ac h).set a (b + a, am_sE b bs ac (am_I k (upd f i.toNatClampNeg x)))) H1 := hP
    rw [am_ws_set] at hP
    exact am_exact hP hS.1 hbs (by rw [List.length_set]; exact hf.eq) fun hz => kk _ _ _ _ _ (hf.put ha rfl hP hS hz)
  · cases hx
theorem am_n_bastore (hexec : p.tables.exec = Jvm.exec) (hb : c.code = cc)  (hK : va_K D cl (am_tys ac tt) s) (oT : am_okT P cl tt) (hbs : b ≤ s.heap.size) (hd : decode cc pc = .ok (.bastore, 1)) (hx : am_vir st (fun v i a r => (match v with
    | .int x => am_gZ h a fun n f => if am_in i n = true then am_nx (pc + 1) lo r (h.set a (am_Z n (upd f i.toNatClampNeg (vp_nar .boolean x)))) else none
    | _ => none)) = some (.inl (pc', lo', st', h'))) (hf : am_fr D cl b bs ac n KC KS R s ls H locs cells slots lo h)
    (kk : ∀ (ls' : Array Slot) (H' : Heap) (locs' : List Loc) (cells' slots' : Nat), am_fr D cl b bs ac n KC KS R s ls' H' locs' cells' slots' lo' h' → W p l e R s m args below meth c H' locs' cells' slots' Q (F0 m pc' ls' (st'.map (am_sv b bs)))) : W p l e R s m args below meth c H locs cells slots Q (F0 m pc ls (st.map (am_sv b bs))) := by
  obtain ⟨v, i, a, r, rfl, hy⟩ := am_vir_inv hx
  clear hx; have hx := hy; clear hy
  split at hx
  · rename_i x
    obtain ⟨k, f, ha, hy⟩ := am_gZ_inv hx
    clear hx; have hx := hy; clear hy
    obtain ⟨hi, hy⟩ := am_if_inv hx
    clear hx; have hx := hy; clear hy
    obtain ⟨rfl, rfl, rfl, rfl⟩ := am_nx_inv hx
    have e2 : (Value.int x :: Value.int i :: Value.ref a :: r).map (am_sv b bs) = .int x :: .int i :: .ref (b + a) :: r.map (am_sv b bs) := by simp [am_sv, hf.ad ha]
    rw [e2]
    refine va_zast (D := D) hexec hb hK hf.2.1.1 (am_ws_D b bs ac h) hf.2.2.1 a 2 (am_ws_get ha) (am_tys_at oT.2.2.1) (am_vin hi) hd fun H1 locs1 hP _ hS => ?_
    have hP : va_P D cl ((am_ws b bs ac h).set a (b + a, am_sE b bs ac (am_Z k (upd f i.toNatClampNeg (vp_nar .boolean x))))) H1 := hP
    rw [am_ws_set] at hP
    exact am_exact hP hS.1 hbs (by rw [List.length_set]; exact hf.eq) fun hz => kk _ _ _ _ _ (hf.put ha rfl hP hS hz)
  · cases hx
theorem am_n_lastore (hexec : p.tables.exec = Jvm.exec) (hb : c.code = cc)  (hK : va_K D cl (am_tys ac tt) s) (oT : am_okT P cl tt) (hbs : b ≤ s.heap.size) (hd : decode cc pc = .ok (.lastore, 1)) (hx : am_vir st (fun v i a r => (match v with
    | .long x => am_gJ h a fun n f => if am_in i n = true then am_nx (pc + 1) lo r (h.set a (am_J n (vp_updL f i.toNatClampNeg x))) else none
    | _ => none)) = some (.inl (pc', lo', st', h'))) (hf : am_fr D cl b bs ac n KC KS R s ls H locs cells slots lo h)
    (kk : ∀ (ls' : Array Slot) (H' : Heap) (locs' : List Loc) (cells' slots' : Nat), am_fr D cl b bs ac n KC KS R s ls' H' locs' cells' slots' lo' h' → W p l e R s m args below meth c H' locs' cells' slots' Q (F0 m pc' ls' (st'.map (am_sv b bs)))) : W p l e R s m args below meth c H locs cells slots Q (F0 m pc ls (st.map (am_sv b bs))) := by
  obtain ⟨v, i, a, r, rfl, hy⟩ := am_vir_inv hx
  clear hx; have hx := hy; clear hy
  split at hx
  · rename_i x
    obtain ⟨k, f, ha, hy⟩ := am_gJ_inv hx
    clear hx; have hx := hy; clear hy
    obtain ⟨hi, hy⟩ := am_if_inv hx
    clear hx; have hx := hy; clear hy
    obtain ⟨rfl, rfl, rfl, rfl⟩ := am_nx_inv hx
    have e2 : (Value.long x :: Value.int i :: Value.ref a :: r).map (am_sv b bs) = .long x :: .int i :: .ref (b + a) :: r.map (am_sv b bs) := by simp [am_sv, hf.ad ha]
    rw [e2]
    refine va_last (D := D) hexec hb hK hf.2.1.1 (am_ws_D b bs ac h) hf.2.2.1 a 1 (am_ws_get ha) (am_tys_at oT.2.1) (am_vin hi) hd fun H1 locs1 hP _ hS => ?_
    have hP : va_P D cl ((am_ws b bs ac h).set a (b + a, am_sE b bs ac (am_J k (vp_updL f i.toNatClampNeg x)))) H1 := hP
    rw [am_ws_set] at hP
    exact am_exact hP hS.1 hbs (by rw [List.length_set]; exact hf.eq) fun hz => kk _ _ _ _ _ (hf.put ha rfl hP hS hz)
  · cases hx
theorem am_n_aastore (hexec : p.tables.exec = Jvm.exec) (hb : c.code = cc)  (hK : va_K D cl (am_tys ac tt) s) (oT : am_okT P cl tt) (hbs : b ≤ s.heap.size) (hd : decode cc pc = .ok (.aastore, 1)) (hx : am_vir st (fun v i a r => (match v with
    | .ref x => am_gR h a fun t n g => am_gB h x fun ci _ => if (am_in i n = true ∧ 2 < t ∧ t < 5) ∧ am_cp P t = ci then am_nx (pc + 1) lo r (h.set a (am_R t n (va_up g i.toNatClampNeg (some x)))) else none
    | _ => none)) = some (.inl (pc', lo', st', h'))) (hf : am_fr D cl b bs ac n KC KS R s ls H locs cells slots lo h)
    (kk : ∀ (ls' : Array Slot) (H' : Heap) (locs' : List Loc) (cells' slots' : Nat), am_fr D cl b bs ac n KC KS R s ls' H' locs' cells' slots' lo' h' → W p l e R s m args below meth c H' locs' cells' slots' Q (F0 m pc' ls' (st'.map (am_sv b bs)))) : W p l e R s m args below meth c H locs cells slots Q (F0 m pc ls (st.map (am_sv b bs))) := by
  obtain ⟨v, i, a, r, rfl, hy⟩ := am_vir_inv hx
  clear hx; have hx := hy; clear hy
  split at hx
  · rename_i x
    obtain ⟨t, k, g, ha, hy⟩ := am_gR_inv hx
    clear hx; have hx := hy; clear hy
    obtain ⟨ci, fs, hv, hy⟩ := am_gB_inv hx
    clear hx; have hx := hy; clear hy
    obtain ⟨⟨⟨hi, t1, t2⟩, hci⟩, hy⟩ := am_if_inv hx
    clear hx; have hx := hy; clear hy
    subst hci
    obtain ⟨rfl, rfl, rfl, rfl⟩ := am_nx_inv hx
    have ht := List.getElem?_eq_getElem (show t < tt.length by rw [oT.2.2.2.1]; exact t2)
    obtain ⟨C, T, N, t3, t4⟩ := oT.2.2.2.2 t t1 _ ht
    rw [t3] at ht
    have e2 : (Value.ref x :: Value.int i :: Value.ref a :: r).map (am_sv b bs) = .ref (b + x) :: .int i :: .ref (b + a) :: r.map (am_sv b bs) := by simp [am_sv, hf.ad ha, hf.ad hv]
    rw [e2]
    refine va_astq (D := D) (r := (C, T, N)) (f := fun j => (g j).map (am_ad b bs)) hexec hb hK hf.2.1.1 (am_ws_D b bs ac h) hf.2.2.1 a t x _ (am_ws_get ha) (am_tys_at ht) (am_ws_get hv) t4 (am_vin hi) hd fun H1 locs1 hP _ hS => ?_
    have e3 : va_up (fun j => (g j).map (am_ad b bs)) i.toNatClampNeg (some (b + x)) = fun j => (va_up g i.toNatClampNeg (some x) j).map (am_ad b bs) := by
      funext j
      unfold va_up
      split
      · simp [hf.ad hv]
      · rfl
    rw [e3] at hP
    have hP : va_P D cl ((am_ws b bs ac h).set a (b + a, am_sE b bs ac (am_R t k (va_up g i.toNatClampNeg (some x))))) H1 := hP
    rw [am_ws_set] at hP
    exact am_exact hP hS.1 hbs (by rw [List.length_set]; exact hf.eq) fun hz => kk _ _ _ _ _ (hf.put ha rfl hP hS hz)
  · cases hx
theorem am_n_arraylength (hexec : p.tables.exec = Jvm.exec) (hb : c.code = cc)  (hK : va_K D cl (am_tys ac tt) s) (oT : am_okT P cl tt) (hX : va_X bs (am_sL P) (am_sX P) s s.heap) (hbl : bs < s.heap.size) (hbb : bs < b) (hd : decode cc pc = .ok (.arraylength, 1)) (hx : am_r1 st (fun a r => if a = am_scr then am_nx (pc + 1) lo (.int (Int32.ofNat (am_sL P)) :: r) h else (match h[a]? with
    | some (.inl (t, n, _)) => if t < 5 then am_nx (pc + 1) lo (.int (Int32.ofNat n) :: r) h else none
    | _ => none)) = some (.inl (pc', lo', st', h'))) (hf : am_fr D cl b bs ac n KC KS R s ls H locs cells slots lo h)
    (kk : ∀ (ls' : Array Slot) (H' : Heap) (locs' : List Loc) (cells' slots' : Nat), am_fr D cl b bs ac n KC KS R s ls' H' locs' cells' slots' lo' h' → W p l e R s m args below meth c H' locs' cells' slots' Q (F0 m pc' ls' (st'.map (am_sv b bs)))) : W p l e R s m args below meth c H locs cells slots Q (F0 m pc ls (st.map (am_sv b bs))) := by
  obtain ⟨a, r, rfl, hy⟩ := am_r1_inv hx
  clear hx; have hx := hy; clear hy
  split at hx
  · rename_i ha
    obtain ⟨rfl, rfl, rfl, rfl⟩ := am_nx_inv hx
    have e2 : (Value.ref a :: r).map (am_sv b bs) = .ref bs :: r.map (am_sv b bs) := by simp [am_sv, am_ad, ha]
    rw [e2]
    exact va_slen hexec hb hX hbl (show ¬ b ≤ bs by omega) hf.2.2.1 hd (kk _ _ _ _ _ hf)
  · split at hx
    · rename_i t k z ha
      obtain ⟨t5, hy⟩ := am_if_inv hx
      clear hx; have hx := hy; clear hy
      obtain ⟨rfl, rfl, rfl, rfl⟩ := am_nx_inv hx
      have e2 : (Value.ref a :: r).map (am_sv b bs) = .ref (b + a) :: r.map (am_sv b bs) := by simp [am_sv, hf.ad ha]
      rw [e2]
      have ht := List.getElem?_eq_getElem (show t < tt.length by rw [oT.2.2.2.1]; exact t5)
      refine va_alen (D := D) hexec hb hK hf.2.1.1 a t (am_ws_get ha) (am_tys_at ht) ?_ hd (kk _ _ _ _ _ hf)
      rcases z with z | z | z | z | z <;> rfl
    · cases hx
/-- .. of the classes of arrays of numbers -/
def am_okA (TAB : List Cond) : Prop := Cond.arrayClass .int ∈ TAB ∧ Cond.arrayClass .long ∈ TAB ∧ Cond.arrayClass .boolean ∈ TAB
theorem am_n_newarray (hexec : p.tables.exec = Jvm.exec) (hb : c.code = cc) {ty : ArrayType} (hts : ∀ w ∈ TAB, w.before args s = true) (oA : am_okA TAB) (hK : va_K D cl (am_tys ac tt) s) (oT : am_okT P cl tt) (hbs : b ≤ s.heap.size) (hkk : h'.length ≤ KC ∧ am_sl h' ≤ KS) (hd : decode cc pc = .ok (.newarray ty, 2)) (hx : am_i1 st (fun x r => if 0 ≤ x.toInt ∧ x.toInt < 100000 then (match (generalizing := false) ty with
    | .int => am_nx (pc + 2) lo (.ref h.length :: r) (h ++ [am_I x.toNatClampNeg (fun _ => 0)])
    | .long => am_nx (pc + 2) lo (.ref h.length :: r) (h ++ [am_J x.toNatClampNeg (fun _ => 0)])
    | .boolean => am_nx (pc + 2) lo (.ref h.length :: r) (h ++ [am_Z x.toNatClampNeg (fun _ => 0)])
    | _ => none) else none) = some (.inl (pc', lo', st', h'))) (hf : am_fr D cl b bs ac n KC KS R s ls H locs cells slots lo h)
    (kk : ∀ (ls' : Array Slot) (H' : Heap) (locs' : List Loc) (cells' slots' : Nat), am_fr D cl b bs ac n KC KS R s ls' H' locs' cells' slots' lo' h' → W p l e R s m args below meth c H' locs' cells' slots' Q (F0 m pc' ls' (st'.map (am_sv b bs)))) : W p l e R s m args below meth c H locs cells slots Q (F0 m pc ls (st.map (am_sv b bs))) := by
  obtain ⟨u, r, rfl, hy⟩ := am_i1_inv hx
  clear hx; have hx := hy; clear hy
  obtain ⟨⟨hu0, hu1⟩, hy⟩ := am_if_inv hx
  clear hx; have hx := hy; clear hy
  have hn : ¬ u < 0 := by
    intro q
    have := Int32.lt_iff_toInt_lt.mp q
    simp at this
    omega
  have hN : u.toNatClampNeg < 100000 := by
    show u.toInt.toNat < 100000
    omega
  cases ty with
  | int =>
    obtain ⟨rfl, rfl, rfl, rfl⟩ := am_nx_inv hx
    obtain ⟨r1, r2⟩ := hf.room (z := am_I u.toNatClampNeg (fun _ => 0)) rfl hkk
    refine va_newa (D := D) (atype := .int) (ty := .int) (a0 := (u.toNatClampNeg, .inl (fun _ => 0))) hexec hb (hts _ (oA.1)) rfl hK hf.2.1.1 (am_ws_D b bs ac h) hf.2.2.1 (fun q hq => Nat.le_trans hbs hq) (fun cA => rfl) hn rfl (by simp only [componentBytes]; omega) r1 r2 hd fun q cA H1 hK1 hP hD hS => ?_
    have hcA : cA = ac 0 := by
      have h1 : va_RA s cA .int := (hK1.2 (am_tys ac tt).length (cA, .int) (by simp)).2
      have h2 : va_RA s (ac 0) .int := (hK.2 0 _ (am_tys_at oT.1)).2
      exact Option.some.inj (h1.symm.trans h2)
    subst hcA
    refine am_exactN hP hD hf.eq fun hq hz => ?_
    subst hq
    have hP : va_P D cl (am_ws b bs ac h ++ [(b + h.length, am_sE b bs ac (am_I u.toNatClampNeg (fun _ => 0)))]) H1 := hP
    rw [am_ws_push] at hP
    have e5 : am_ad b bs h.length = b + h.length := by
      unfold am_ad
      rw [if_neg]
      have := hf.2.2.2.2.2.2
      have := hkk.1
      simp at this
      omega
    have e6 := kk _ _ _ _ _ (hf.push (k := u.toNatClampNeg) rfl hP hS hz hkk)
    simp only [List.map_cons, am_sv, e5] at e6
    exact e6
  | long =>
    obtain ⟨rfl, rfl, rfl, rfl⟩ := am_nx_inv hx
    obtain ⟨r1, r2⟩ := hf.room (z := am_J u.toNatClampNeg (fun _ => 0)) rfl hkk
    refine va_newa (D := D) (atype := .long) (ty := .long) (a0 := (u.toNatClampNeg, .inr (.inl (fun _ => 0)))) hexec hb (hts _ (oA.2.1)) rfl hK hf.2.1.1 (am_ws_D b bs ac h) hf.2.2.1 (fun q hq => Nat.le_trans hbs hq) (fun cA => rfl) hn rfl (by simp only [componentBytes]; omega) r1 r2 hd fun q cA H1 hK1 hP hD hS => ?_
    have hcA : cA = ac 1 := by
      have h1 : va_RA s cA .long := (hK1.2 (am_tys ac tt).length (cA, .long) (by simp)).2
      have h2 : va_RA s (ac 1) .long := (hK.2 1 _ (am_tys_at oT.2.1)).2
      exact Option.some.inj (h1.symm.trans h2)
    subst hcA
    refine am_exactN hP hD hf.eq fun hq hz => ?_
    subst hq
    have hP : va_P D cl (am_ws b bs ac h ++ [(b + h.length, am_sE b bs ac (am_J u.toNatClampNeg (fun _ => 0)))]) H1 := hP
    rw [am_ws_push] at hP
    have e5 : am_ad b bs h.length = b + h.length := by
      unfold am_ad
      rw [if_neg]
      have := hf.2.2.2.2.2.2
      have := hkk.1
      simp at this
      omega
    have e6 := kk _ _ _ _ _ (hf.push (k := u.toNatClampNeg) rfl hP hS hz hkk)
    simp only [List.map_cons, am_sv, e5] at e6
    exact e6
  | boolean =>
    obtain ⟨rfl, rfl, rfl, rfl⟩ := am_nx_inv hx
    obtain ⟨r1, r2⟩ := hf.room (z := am_Z u.toNatClampNeg (fun _ => 0)) rfl hkk
    refine va_newa (D := D) (atype := .boolean) (ty := .boolean) (a0 := (u.toNatClampNeg, .inl (fun _ => 0))) hexec hb (hts _ (oA.2.2)) rfl hK hf.2.1.1 (am_ws_D b bs ac h) hf.2.2.1 (fun q hq => Nat.le_trans hbs hq) (fun cA => rfl) hn rfl (by simp only [componentBytes]; omega) r1 r2 hd fun q cA H1 hK1 hP hD hS => ?_
    have hcA : cA = ac 2 := by
      have h1 : va_RA s cA .boolean := (hK1.2 (am_tys ac tt).length (cA, .boolean) (by simp)).2
      have h2 : va_RA s (ac 2) .boolean := (hK.2 2 _ (am_tys_at oT.2.2.1)).2
      exact Option.some.inj (h1.symm.trans h2)
    subst hcA
    refine am_exactN hP hD hf.eq fun hq hz => ?_
    subst hq
    have hP : va_P D cl (am_ws b bs ac h ++ [(b + h.length, am_sE b bs ac (am_Z u.toNatClampNeg (fun _ => 0)))]) H1 := hP
    rw [am_ws_push] at hP
    have e5 : am_ad b bs h.length = b + h.length := by
      unfold am_ad
      rw [if_neg]
      have := hf.2.2.2.2.2.2
      have := hkk.1
      simp at this
      omega
    have e6 := kk _ _ _ _ _ (hf.push (k := u.toNatClampNeg) rfl hP hS hz hkk)
    simp only [List.map_cons, am_sv, e5] at e6
    exact e6
  | _ => cases hx
end AT
end
section
/-! Steps that make objects and arrays of objects, and calls of members that are known. -/
section AU
/-- what the tables say of the classes that are made -/
def am_okN (P : am_P) (TAB : List Cond) (cl : List vw_C) : Prop := ∀ (y ix ci : Nat), am_nw P y ix = some ci → ∃ (C : String) (T : u_T) (N : Nat) (ty : Nat → FieldType), cl[ci]? = some (C, T, N) ∧ Cond.classLink (am_nm (am_me P y)).cls ix C ∈ TAB ∧ Cond.instantiable C N ∈ TAB ∧ Cond.initialized C ∈ TAB ∧ am_ez (.inr (ci, am_df P ci)) = N ∧ (∀ k, k < N → parseFieldDescriptor (T k).2.2.1 = some (ty k)) ∧ (∀ j, j < N → defaultValue (ty j) = vp_V (am_df P ci) j) ∧ ∀ b bs : Nat, (am_df P ci).map (am_sv b bs) = am_df P ci
/-- .. of the arrays of objects that are made -/
def am_okR (P : am_P) (TAB : List Cond) (tt : List FieldType) (AO : List String) : Prop := ∀ (y ix t : Nat), am_an P y ix = some t → ∃ C : String, tt[t]? = some (.object C) ∧ Cond.classLink (am_nm (am_me P y)).cls ix C ∈ TAB ∧ C ∈ AO
/-- .. of members that are known -/
def am_okS (P : am_P) (TAB : List Cond) : Prop := ∀ (y ix k : Nat), am_sp P y ix = some k →
  (k = 0 → Cond.methodLink (am_nm (am_me P y)).cls ix Lib.objectInit ∈ TAB ∧ Cond.instanceMethod Lib.objectInit ∈ TAB ∧ Cond.code Lib.objectInit ⟨#[0xb1]⟩ 1 none ∈ TAB) ∧
  (k = 1 → Cond.methodLink (am_nm (am_me P y)).cls ix Lib.Math.max.name ∈ TAB ∧ Cond.static Lib.Math.max.name ∈ TAB ∧ Cond.initialized "java/lang/Math" ∈ TAB ∧ Cond.code Lib.Math.max.name Lib.Math.max.code 2 (some .int) ∈ TAB) ∧
  (k = 2 → Cond.methodLink (am_nm (am_me P y)).cls ix Lib.Math.min.name ∈ TAB ∧ Cond.static Lib.Math.min.name ∈ TAB ∧ Cond.initialized "java/lang/Math" ∈ TAB ∧ Cond.code Lib.Math.min.name Lib.Math.min.code 2 (some .int) ∈ TAB) ∧
  (k = 3 → Cond.methodLink (am_nm (am_me P y)).cls ix arraycopyName ∈ TAB ∧ Cond.native arraycopyName ∈ TAB ∧ Cond.static arraycopyName ∈ TAB ∧ Cond.initialized "java/lang/System" ∈ TAB) ∧
  (k = 4 → Cond.methodLink (am_nm (am_me P y)).cls ix ⟨"[I", "clone", "()Ljava/lang/Object;"⟩ ∈ TAB ∧ Cond.sameMethod "[I" "java/lang/Object" "clone" "()Ljava/lang/Object;" ∈ TAB ∧ Cond.native ⟨"java/lang/Object", "clone", "()Ljava/lang/Object;"⟩ ∈ TAB ∧ Cond.instanceMethod ⟨"java/lang/Object", "clone", "()Ljava/lang/Object;"⟩ ∈ TAB ∧ Cond.selects "[I" ⟨"[I", "clone", "()Ljava/lang/Object;"⟩ ⟨"java/lang/Object", "clone", "()Ljava/lang/Object;"⟩ ∈ TAB) ∧
  (k = 5 → Cond.classLink (am_nm (am_me P y)).cls ix "[I" ∈ TAB)
/-- .. of constants -/
def am_okL (P : am_P) (TAB : List Cond) : Prop := ∀ (y ix : Nat) (v : Int32), am_kc P y ix = some v → Cond.constant (am_nm (am_me P y)).cls ix v ∈ TAB
variable {P : am_P} {TAB : List Cond} {cl : List vw_C} {tt : List FieldType} {D : va_G} {ac : Nat → ClassId} {AO : List String} {b bs n KC KS y pc pc' len : Nat} {lo lo' : am_L} {st st' : List Value} {h h' : am_H}
variable {p : Program} {l : Launch} {e : Env} {R : Room} {s : State} {m : MethodId} {args : Array Value} {below : List Frame} {meth : Method} {c : Code} {ls : Array Slot} {H : Heap} {locs : List Loc} {cells slots : Nat} {Q : State → Prop} {cc : ByteArray}
theorem am_ad_len (hf : am_fr D cl b bs ac n KC KS R s ls H locs cells slots lo h) {z : am_E} (hk : (h ++ [z]).length ≤ KC) : am_ad b bs h.length = b + h.length := by
  unfold am_ad
  rw [if_neg]
  have h1 := hf.2.2.2.2.2.2
  simp at hk
  omega
theorem am_n_new (hexec : p.tables.exec = Jvm.exec) (hb : c.code = cc) {ix ci : Nat} (hnw : am_nw P y ix = some ci) (hts : ∀ w ∈ TAB, w.before args s = true) (hown : s.vm.findClass (am_nm (am_me P y)).cls = some m.cls) (hK : va_K D cl (am_tys ac tt) s) (oN : am_okN P TAB cl) (oC : am_okC TAB cl) (hbs : b ≤ s.heap.size) (hkk : h'.length ≤ KC ∧ am_sl h' ≤ KS) (hd : decode cc pc = .ok (.new ix, 3)) (hx : am_nx (pc + 3) lo (.ref h.length :: st) (h ++ [.inr (ci, am_df P ci)]) = some (.inl (pc', lo', st', h'))) (hf : am_fr D cl b bs ac n KC KS R s ls H locs cells slots lo h)
    (kk : ∀ (ls' : Array Slot) (H' : Heap) (locs' : List Loc) (cells' slots' : Nat), am_fr D cl b bs ac n KC KS R s ls' H' locs' cells' slots' lo' h' → W p l e R s m args below meth c H' locs' cells' slots' Q (F0 m pc' ls' (st'.map (am_sv b bs)))) : W p l e R s m args below meth c H locs cells slots Q (F0 m pc ls (st.map (am_sv b bs))) := by
  obtain ⟨rfl, rfl, rfl, rfl⟩ := am_nx_inv hx
  obtain ⟨C, T, N, ty, h1, h2, h3, h4, h5, h6, h7, h8⟩ := oN y ix ci hnw
  obtain ⟨r1, r2⟩ := hf.room (z := .inr (ci, am_df P ci)) h5 hkk
  refine va_new (D := D) hexec hb hts (oC _ _ _ _ h1).1 ty h6 hown (hts _ h2) (hts _ h3) (hts _ h4) hK hf.2.1.1 (am_ws_D b bs ac h) hf.2.2.1 (fun q hq => Nat.le_trans hbs hq) h1 h7 r1 r2 hd fun q H1 hP hD hS => ?_
  refine am_exactN hP hD hf.eq fun hq hz => ?_
  subst hq
  have hP : va_P D cl (am_ws b bs ac h ++ [(b + h.length, am_sE b bs ac (.inr (ci, am_df P ci)))]) H1 := by
    show va_P D cl (am_ws b bs ac h ++ [(b + h.length, .inr (ci, (am_df P ci).map (am_sv b bs)))]) H1
    rw [h8]
    exact hP
  rw [am_ws_push] at hP
  have e6 := kk _ _ _ _ _ (hf.push (k := N) h5 hP hS hz hkk)
  simp only [List.map_cons, am_sv, am_ad_len hf hkk.1] at e6
  exact e6
theorem am_n_anewarray (hexec : p.tables.exec = Jvm.exec) (hb : c.code = cc) {ix : Nat} (hts : ∀ w ∈ TAB, w.before args s = true) (hown : s.vm.findClass (am_nm (am_me P y)).cls = some m.cls) (hK : va_K D cl (am_tys ac tt) s) (oR : am_okR P TAB tt AO) (hAO : ∀ C ∈ AO, va_AO C s) (hbs : b ≤ s.heap.size) (hkk : h'.length ≤ KC ∧ am_sl h' ≤ KS) (hd : decode cc pc = .ok (.anewarray ix, 3)) (hx : (match am_an P y ix with
    | some t => am_i1 st fun x r => if 0 ≤ x.toInt ∧ x.toInt < 100000 then am_nx (pc + 3) lo (.ref h.length :: r) (h ++ [am_R t x.toNatClampNeg (fun _ => none)]) else none
    | none => none) = some (.inl (pc', lo', st', h'))) (hf : am_fr D cl b bs ac n KC KS R s ls H locs cells slots lo h)
    (kk : ∀ (ls' : Array Slot) (H' : Heap) (locs' : List Loc) (cells' slots' : Nat), am_fr D cl b bs ac n KC KS R s ls' H' locs' cells' slots' lo' h' → W p l e R s m args below meth c H' locs' cells' slots' Q (F0 m pc' ls' (st'.map (am_sv b bs)))) : W p l e R s m args below meth c H locs cells slots Q (F0 m pc ls (st.map (am_sv b bs))) := by
  split at hx
  · rename_i t ht
    obtain ⟨C, c1, c2, c3⟩ := oR y ix t ht
    obtain ⟨u, r, rfl, hy⟩ := am_i1_inv hx
    clear hx; have hx := hy; clear hy
    obtain ⟨⟨hu0, hu1⟩, hy⟩ := am_if_inv hx
    clear hx; have hx := hy; clear hy
    have hn : ¬ u < 0 := by
      intro q
      have := Int32.lt_iff_toInt_lt.mp q
      simp at this
      omega
    have hN : u.toNatClampNeg < 100000 := by
      show u.toInt.toNat < 100000
      omega
    obtain ⟨rfl, rfl, rfl, rfl⟩ := am_nx_inv hx
    obtain ⟨r1, r2⟩ := hf.room (z := am_R t u.toNatClampNeg (fun _ => none)) rfl hkk
    refine va_newq (D := D) hexec hb hown (hts _ c2) (hAO C c3) hK hf.2.1.1 (am_ws_D b bs ac h) hf.2.2.1 (fun q hq => Nat.le_trans hbs hq) hn rfl (by omega) r1 r2 hd fun q cA H1 hK1 hP hD hS => ?_
    have hcA : cA = ac t := by
      have h1 : va_RA s cA (.object C) := (hK1.2 (am_tys ac tt).length (cA, .object C) (by simp)).2
      have h2 : va_RA s (ac t) (.object C) := (hK.2 t _ (am_tys_at c1)).2
      obtain ⟨-, -, -, -, -, g1⟩ := h1
      obtain ⟨-, -, -, -, -, g2⟩ := h2
      exact Option.some.inj (g1.symm.trans g2)
    subst hcA
    refine am_exactN hP hD hf.eq fun hq hz => ?_
    subst hq
    have hP : va_P D cl (am_ws b bs ac h ++ [(b + h.length, am_sE b bs ac (am_R t u.toNatClampNeg (fun _ => none)))]) H1 := hP
    rw [am_ws_push] at hP
    have e6 := kk _ _ _ _ _ (hf.push (k := u.toNatClampNeg) rfl hP hS hz hkk)
    simp only [List.map_cons, am_sv, am_ad_len hf hkk.1] at e6
    exact e6
  · cases hx
theorem am_n_objInit (hexec : p.tables.exec = Jvm.exec) (hb : c.code = cc) {ix : Nat} (hsp : am_sp P y ix = some 0) (hts : ∀ w ∈ TAB, w.before args s = true) (hown : s.vm.findClass (am_nm (am_me P y)).cls = some m.cls) (oS : am_okS P TAB) (hml : c.maxLocals = n) (hrf : am_rf (am_me P y) ≤ R.frames) (hrl : am_rl (am_me P y) ≤ R.locals) (hd : decode cc pc = .ok (.invokespecial ix, 3)) (hx : am_r1 st (fun _ r => if 1 ≤ am_rf (am_me P y) ∧ am_wd r + 12 ≤ am_rl (am_me P y) then am_nx (pc + 3) lo r h else none) = some (.inl (pc', lo', st', h'))) (hf : am_fr D cl b bs ac n KC KS R s ls H locs cells slots lo h)
    (kk : ∀ (ls' : Array Slot) (H' : Heap) (locs' : List Loc) (cells' slots' : Nat), am_fr D cl b bs ac n KC KS R s ls' H' locs' cells' slots' lo' h' → W p l e R s m args below meth c H' locs' cells' slots' Q (F0 m pc' ls' (st'.map (am_sv b bs)))) : W p l e R s m args below meth c H locs cells slots Q (F0 m pc ls (st.map (am_sv b bs))) := by
  obtain ⟨a, r, rfl, hy⟩ := am_r1_inv hx
  clear hx; have hx := hy; clear hy
  obtain ⟨⟨q1, q2⟩, hy⟩ := am_if_inv hx
  clear hx; have hx := hy; clear hy
  obtain ⟨rfl, rfl, rfl, rfl⟩ := am_nx_inv hx
  obtain ⟨w1, w2, w3⟩ := (oS y ix 0 hsp).1 rfl
  refine W.objInit hexec hb hown (hts _ w1) (hts _ w2) (hts _ w3) (g := F0 m pc ls ((Value.ref a :: r).map (am_sv b bs))) rfl (by rw [hml]; exact hf.1.1) (a := am_ad b bs a) (rest := r.map (am_sv b bs)) rfl hd (Nat.le_trans q1 hrf) ?_ (kk _ _ _ _ _ hf)
  rw [am_wd_sv]
  show 2 * 0 + _ + 12 ≤ _
  omega
theorem am_n_mmax (hexec : p.tables.exec = Jvm.exec) (hb : c.code = cc) {ix : Nat} (hsp : am_sp P y ix = some 1) (hts : ∀ w ∈ TAB, w.before args s = true) (hown : s.vm.findClass (am_nm (am_me P y)).cls = some m.cls) (oS : am_okS P TAB) (hml : c.maxLocals = n) (hrf : am_rf (am_me P y) ≤ R.frames) (hrl : am_rl (am_me P y) ≤ R.locals) (hd : decode cc pc = .ok (.invokestatic ix, 3)) (hx : am_i2 st (fun u v r => if 1 ≤ am_rf (am_me P y) ∧ am_wd r + 13 ≤ am_rl (am_me P y) then am_nx (pc + 3) lo (.int (if u < v then v else u) :: r) h else none) = some (.inl (pc', lo', st', h'))) (hf : am_fr D cl b bs ac n KC KS R s ls H locs cells slots lo h)
    (kk : ∀ (ls' : Array Slot) (H' : Heap) (locs' : List Loc) (cells' slots' : Nat), am_fr D cl b bs ac n KC KS R s ls' H' locs' cells' slots' lo' h' → W p l e R s m args below meth c H' locs' cells' slots' Q (F0 m pc' ls' (st'.map (am_sv b bs)))) : W p l e R s m args below meth c H locs cells slots Q (F0 m pc ls (st.map (am_sv b bs))) := by
  obtain ⟨u, v, r, rfl, hy⟩ := am_i2_inv hx
  clear hx; have hx := hy; clear hy
  obtain ⟨⟨q1, q2⟩, hy⟩ := am_if_inv hx
  clear hx; have hx := hy; clear hy
  obtain ⟨rfl, rfl, rfl, rfl⟩ := am_nx_inv hx
  obtain ⟨w1, w2, w3, w4⟩ := (oS y ix 1 hsp).2.1 rfl
  exact va_mmax hexec hb (by rw [hml]; exact hf.1.1.symm) hown (hts _ w1) (hts _ w2) (hts _ w3) (hts _ w4) (Nat.le_trans q1 hrf) (by rw [am_wd_sv]; omega) (Nat.le_trans (Nat.le_add_right _ _) hf.2.2.2.2.1.2) (Nat.le_trans (Nat.le_add_right _ _) hf.2.2.2.2.2.1.2) hd (kk _ _ _ _ _ hf)
theorem am_n_mmin (hexec : p.tables.exec = Jvm.exec) (hb : c.code = cc) {ix : Nat} (hsp : am_sp P y ix = some 2) (hts : ∀ w ∈ TAB, w.before args s = true) (hown : s.vm.findClass (am_nm (am_me P y)).cls = some m.cls) (oS : am_okS P TAB) (hml : c.maxLocals = n) (hrf : am_rf (am_me P y) ≤ R.frames) (hrl : am_rl (am_me P y) ≤ R.locals) (hd : decode cc pc = .ok (.invokestatic ix, 3)) (hx : am_i2 st (fun u v r => if 1 ≤ am_rf (am_me P y) ∧ am_wd r + 13 ≤ am_rl (am_me P y) then am_nx (pc + 3) lo (.int (if v < u then v else u) :: r) h else none) = some (.inl (pc', lo', st', h'))) (hf : am_fr D cl b bs ac n KC KS R s ls H locs cells slots lo h)
    (kk : ∀ (ls' : Array Slot) (H' : Heap) (locs' : List Loc) (cells' slots' : Nat), am_fr D cl b bs ac n KC KS R s ls' H' locs' cells' slots' lo' h' → W p l e R s m args below meth c H' locs' cells' slots' Q (F0 m pc' ls' (st'.map (am_sv b bs)))) : W p l e R s m args below meth c H locs cells slots Q (F0 m pc ls (st.map (am_sv b bs))) := by
  obtain ⟨u, v, r, rfl, hy⟩ := am_i2_inv hx
  clear hx; have hx := hy; clear hy
  obtain ⟨⟨q1, q2⟩, hy⟩ := am_if_inv hx
  clear hx; have hx := hy; clear hy
  obtain ⟨rfl, rfl, rfl, rfl⟩ := am_nx_inv hx
  obtain ⟨w1, w2, w3, w4⟩ := (oS y ix 2 hsp).2.2.1 rfl
  exact va_mmin hexec hb (by rw [hml]; exact hf.1.1.symm) hown (hts _ w1) (hts _ w2) (hts _ w3) (hts _ w4) (Nat.le_trans q1 hrf) (by rw [am_wd_sv]; omega) (Nat.le_trans (Nat.le_add_right _ _) hf.2.2.2.2.1.2) (Nat.le_trans (Nat.le_add_right _ _) hf.2.2.2.2.2.1.2) hd (kk _ _ _ _ _ hf)
theorem am_n_copy (hexec : p.tables.exec = Jvm.exec) (hb : c.code = cc) {ix : Nat} (hsp : am_sp P y ix = some 3) (hts : ∀ w ∈ TAB, w.before args s = true) (hown : s.vm.findClass (am_nm (am_me P y)).cls = some m.cls) (oS : am_okS P TAB) (hK : va_K D cl (am_tys ac tt) s) (oT : am_okT P cl tt) (hbs : b ≤ s.heap.size) (hml : c.maxLocals = n) (hrf : am_rf (am_me P y) ≤ R.frames) (hrl : am_rl (am_me P y) ≤ R.locals) (hd : decode cc pc = .ok (.invokestatic ix, 3)) (hx : am_cy st (fun a0 sp a1 dp k r => am_gI h a0 fun n0 f => am_gI h a1 fun n1 g =>
        if (0 ≤ sp.toInt ∧ 0 ≤ dp.toInt ∧ 0 ≤ k.toInt ∧ sp.toNatClampNeg + k.toNatClampNeg ≤ n0 ∧ dp.toNatClampNeg + k.toNatClampNeg ≤ n1) ∧ 1 ≤ am_rf (am_me P y) ∧ am_wd r + (nativeFrameWords "java/lang/System" "arraycopy" 5 + 11) ≤ am_rl (am_me P y) then
          am_nx (pc + 3) lo r (h.set a1 (am_I n1 (va_cpy f g sp.toNatClampNeg dp.toNatClampNeg k.toNatClampNeg))) else none) = some (.inl (pc', lo', st', h'))) (hf : am_fr D cl b bs ac n KC KS R s ls H locs cells slots lo h)
    (kk : ∀ (ls' : Array Slot) (H' : Heap) (locs' : List Loc) (cells' slots' : Nat), am_fr D cl b bs ac n KC KS R s ls' H' locs' cells' slots' lo' h' → W p l e R s m args below meth c H' locs' cells' slots' Q (F0 m pc' ls' (st'.map (am_sv b bs)))) : W p l e R s m args below meth c H locs cells slots Q (F0 m pc ls (st.map (am_sv b bs))) := by
  obtain ⟨a0, sp, a1, dp, k, r, rfl, hy⟩ := am_cy_inv hx
  clear hx; have hx := hy; clear hy
  obtain ⟨n0, f, ha0, hy⟩ := am_gI_inv hx
  clear hx; have hx := hy; clear hy
  obtain ⟨n1, g, ha1, hy⟩ := am_gI_inv hx
  clear hx; have hx := hy; clear hy
  obtain ⟨⟨⟨k1, k2, k3, k4, k5⟩, q1, q2⟩, hy⟩ := am_if_inv hx
  clear hx; have hx := hy; clear hy
  obtain ⟨rfl, rfl, rfl, rfl⟩ := am_nx_inv hx
  have nn : ∀ u : Int32, 0 ≤ u.toInt → ¬ u < 0 := by
    intro u hu q
    have := Int32.lt_iff_toInt_lt.mp q
    simp at this
    omega
  obtain ⟨w1, w2, w3, w4⟩ := (oS y ix 3 hsp).2.2.2.1 rfl
  have e2 : (Value.int k :: .int dp :: Value.ref a1 :: .int sp :: Value.ref a0 :: r).map (am_sv b bs) = .int k :: .int dp :: .ref (b + a1) :: .int sp :: .ref (b + a0) :: r.map (am_sv b bs) := by simp [am_sv, hf.ad ha0, hf.ad ha1]
  rw [e2]
  refine va_copyi (D := D) (ty := .int) hexec hb (by rw [hml]; exact hf.1.1.symm) hown (hts _ w1) (hts _ w2) (hts _ w3) (hts _ w4) hK hf.2.1.1 (am_ws_D b bs ac h) hf.2.2.1 a0 a1 0 0 (am_ws_get ha0) (am_ws_get ha1) (am_tys_at oT.1) (am_tys_at oT.1) rfl (nn sp k1) (nn dp k2) (nn k k3) k4 k5 (fun _ _ => rfl) (Nat.le_trans q1 hrf) (by rw [am_wd_sv]; omega) hd fun H1 locs1 hP _ hS => ?_
  have hP : va_P D cl ((am_ws b bs ac h).set a1 (b + a1, am_sE b bs ac (am_I n1 (va_cpy f g sp.toNatClampNeg dp.toNatClampNeg k.toNatClampNeg)))) H1 := hP
  rw [am_ws_set] at hP
  exact am_exact hP hS.1 hbs (by rw [List.length_set]; exact hf.eq) fun hz => kk _ _ _ _ _ (hf.put ha1 rfl hP hS hz)
theorem am_n_ldc_w (hexec : p.tables.exec = Jvm.exec) (hb : c.code = cc) {ix : Nat} (hts : ∀ w ∈ TAB, w.before args s = true) (hown : s.vm.findClass (am_nm (am_me P y)).cls = some m.cls) (oK : am_okL P TAB) (hd : decode cc pc = .ok (.ldc_w ix, 3)) (hx : (match am_kc P y ix with
    | some v => am_nx (pc + 3) lo (.int v :: st) h
    | none => none) = some (.inl (pc', lo', st', h'))) (hf : am_fr D cl b bs ac n KC KS R s ls H locs cells slots lo h)
    (kk : ∀ (ls' : Array Slot) (H' : Heap) (locs' : List Loc) (cells' slots' : Nat), am_fr D cl b bs ac n KC KS R s ls' H' locs' cells' slots' lo' h' → W p l e R s m args below meth c H' locs' cells' slots' Q (F0 m pc' ls' (st'.map (am_sv b bs)))) : W p l e R s m args below meth c H locs cells slots Q (F0 m pc ls (st.map (am_sv b bs))) := by
  split at hx
  · rename_i v hv
    obtain ⟨rfl, rfl, rfl, rfl⟩ := am_nx_inv hx
    exact lv_ldcw hexec hb hown (hts _ (oK y ix v hv)) hd (kk _ _ _ _ _ hf)
  · cases hx
theorem am_n_clone (hexec : p.tables.exec = Jvm.exec) (hb : c.code = cc) {ix : Nat} (hsp : am_sp P y ix = some 4) (hts : ∀ w ∈ TAB, w.before args s = true) (hown : s.vm.findClass (am_nm (am_me P y)).cls = some m.cls) (oS : am_okS P TAB) (hcc : va_Nw (.castable "[I" "java/lang/Cloneable") s) (hK : va_K D cl (am_tys ac tt) s) (oT : am_okT P cl tt) (hbs : b ≤ s.heap.size) (hml : c.maxLocals = n) (hrf : am_rf (am_me P y) ≤ R.frames) (hrl : am_rl (am_me P y) ≤ R.locals) (hkk : h'.length ≤ KC ∧ am_sl h' ≤ KS) (hd : decode cc pc = .ok (.invokevirtual ix, 3)) (hx : am_r1 st (fun a r => am_gI h a fun n f => if 1 ≤ am_rf (am_me P y) ∧ am_wd r + 14 ≤ am_rl (am_me P y) then am_nx (pc + 3) lo (.ref h.length :: r) (h ++ [am_I n f]) else none) = some (.inl (pc', lo', st', h'))) (hf : am_fr D cl b bs ac n KC KS R s ls H locs cells slots lo h)
    (kk : ∀ (ls' : Array Slot) (H' : Heap) (locs' : List Loc) (cells' slots' : Nat), am_fr D cl b bs ac n KC KS R s ls' H' locs' cells' slots' lo' h' → W p l e R s m args below meth c H' locs' cells' slots' Q (F0 m pc' ls' (st'.map (am_sv b bs)))) : W p l e R s m args below meth c H locs cells slots Q (F0 m pc ls (st.map (am_sv b bs))) := by
  obtain ⟨a, r, rfl, hy⟩ := am_r1_inv hx
  clear hx; have hx := hy; clear hy
  obtain ⟨k, f, ha, hy⟩ := am_gI_inv hx
  clear hx; have hx := hy; clear hy
  obtain ⟨⟨q1, q2⟩, hy⟩ := am_if_inv hx
  clear hx; have hx := hy; clear hy
  obtain ⟨rfl, rfl, rfl, rfl⟩ := am_nx_inv hx
  obtain ⟨w1, w2, w3, w4, w5⟩ := (oS y ix 4 hsp).2.2.2.2.1 rfl
  obtain ⟨r1, r2⟩ := hf.room (z := am_I k f) (k := k) rfl hkk
  have e2 : (Value.ref a :: r).map (am_sv b bs) = .ref (b + a) :: r.map (am_sv b bs) := by simp [am_sv, hf.ad ha]
  rw [e2]
  have hRA : va_RA s (ac 0) .int := (hK.2 0 _ (am_tys_at oT.1)).2
  refine va_clone (D := D) (x := (k, .inl f)) hexec hb (by rw [hml]; exact hf.1.1.symm) hown (hts _ w1) (hts _ w2) (hts _ w3) (hts _ w4) (hts _ w5) hcc hK hf.2.1.1 (am_ws_D b bs ac h) hf.2.2.1 (fun q hq => Nat.le_trans hbs hq) a 0 (am_ws_get ha) (am_tys_at oT.1) (va_nm_int hRA) (fun i v hv => ?_) (Nat.le_trans q1 hrf) (by rw [am_wd_sv]; omega) r1 r2 hd fun q H1 hK1 hP hD hS => ?_
  · have hz : (vp_cell (ac 0) (k, .inl f)).slots[i]? = some v := hv
    have hi : i < k := by
      have := (Array.getElem?_eq_some_iff.mp hz).1
      rw [vp_cell_i, arrV_size] at this
      exact this
    rw [vp_cell_i, arrV_read _ _ hi] at hz
    cases hz
    rfl
  · refine am_exactN hP hD hf.eq fun hq hz => ?_
    subst hq
    have hP : va_P D cl (am_ws b bs ac h ++ [(b + h.length, am_sE b bs ac (am_I k f))]) H1 := hP
    rw [am_ws_push] at hP
    have e6 := kk _ _ _ _ _ (hf.push (k := k) rfl hP hS hz hkk)
    simp only [List.map_cons, am_sv, am_ad_len hf hkk.1] at e6
    exact e6
theorem am_n_castA (hexec : p.tables.exec = Jvm.exec) (hb : c.code = cc) {ix : Nat} (hsp : am_sp P y ix = some 5) (hts : ∀ w ∈ TAB, w.before args s = true) (hown : s.vm.findClass (am_nm (am_me P y)).cls = some m.cls) (oS : am_okS P TAB) (hK : va_K D cl (am_tys ac tt) s) (oT : am_okT P cl tt) (hd : decode cc pc = .ok (.checkcast ix, 3)) (hx : am_r1 st (fun a r => am_gI h a fun _ _ => am_nx (pc + 3) lo (.ref a :: r) h) = some (.inl (pc', lo', st', h'))) (hf : am_fr D cl b bs ac n KC KS R s ls H locs cells slots lo h)
    (kk : ∀ (ls' : Array Slot) (H' : Heap) (locs' : List Loc) (cells' slots' : Nat), am_fr D cl b bs ac n KC KS R s ls' H' locs' cells' slots' lo' h' → W p l e R s m args below meth c H' locs' cells' slots' Q (F0 m pc' ls' (st'.map (am_sv b bs)))) : W p l e R s m args below meth c H locs cells slots Q (F0 m pc ls (st.map (am_sv b bs))) := by
  obtain ⟨a, r, rfl, hy⟩ := am_r1_inv hx
  clear hx; have hx := hy; clear hy
  obtain ⟨k, f, ha, hy⟩ := am_gI_inv hx
  clear hx; have hx := hy; clear hy
  obtain ⟨rfl, rfl, rfl, rfl⟩ := am_nx_inv hx
  have w1 := (oS y ix 5 hsp).2.2.2.2.2 rfl
  have e2 : (Value.ref a :: r).map (am_sv b bs) = .ref (b + a) :: r.map (am_sv b bs) := by simp [am_sv, hf.ad ha]
  have e3 := kk _ _ _ _ _ hf
  rw [e2] at e3 ⊢
  exact va_castA (D := D) hexec hb hown (hts _ w1) hf.2.1.1 a (am_ws_get ha) (va_nm_int (hK.2 0 _ (am_tys_at oT.1)).2) hd e3
end AU
end
section
/-! The abstract heap never shrinks; more fuel gives the same end. -/
section AV
def am_le (h h' : am_H) : Prop := h.length ≤ h'.length ∧ am_sl h ≤ am_sl h'
theorem am_le.rf (h : am_H) : am_le h h := ⟨Nat.le_refl _, Nat.le_refl _⟩
theorem am_le.tr {h h1 h2 : am_H} (a : am_le h h1) (b : am_le h1 h2) : am_le h h2 := ⟨Nat.le_trans a.1 b.1, Nat.le_trans a.2 b.2⟩
/-- all that an instruction may give -/
def am_al (Pp : am_O → Prop) (o : Option am_O) : Prop := ∀ x, o = some x → Pp x
variable {Pp : am_O → Prop} {h : am_H} {st : List Value} {lo : am_L} {pc : Nat}
theorem am_al_none : am_al Pp none := fun _ e => by cases e
theorem am_al_inr {x : (Nat × List Value × List Value) ⊕ am_A} (hx : Pp (.inr x)) : am_al Pp (some (.inr x)) := fun _ e => by
  cases e
  exact hx
theorem am_al_nx {h1 : am_H} (hh : Pp (.inl (pc, lo, st, h1))) : am_al Pp (am_nx pc lo st h1) := fun _ e => by
  unfold am_nx at e
  cases e
  exact hh
theorem am_al_if {c : Prop} [Decidable c] {x z : Option am_O} (hx : c → am_al Pp x) (hz : am_al Pp z) : am_al Pp (if c then x else z) := by
  split
  · exact hx (by assumption)
  · exact hz
theorem am_al_i1 {k : Int32 → List Value → Option am_O} (hk : ∀ x r, am_al Pp (k x r)) : am_al Pp (am_i1 st k) := by
  unfold am_i1; split
  · exact hk _ _
  · exact am_al_none
theorem am_al_i2 {k : Int32 → Int32 → List Value → Option am_O} (hk : ∀ x y r, am_al Pp (k x y r)) : am_al Pp (am_i2 st k) := by
  unfold am_i2; split
  · exact hk _ _ _
  · exact am_al_none
theorem am_al_j2 {k : Int64 → Int64 → List Value → Option am_O} (hk : ∀ x y r, am_al Pp (k x y r)) : am_al Pp (am_j2 st k) := by
  unfold am_j2; split
  · exact hk _ _ _
  · exact am_al_none
theorem am_al_ij {k : Int64 → Int32 → List Value → Option am_O} (hk : ∀ x y r, am_al Pp (k x y r)) : am_al Pp (am_ij st k) := by
  unfold am_ij; split
  · exact hk _ _ _
  · exact am_al_none
theorem am_al_r1 {k : Nat → List Value → Option am_O} (hk : ∀ x r, st = .ref x :: r → am_al Pp (k x r)) : am_al Pp (am_r1 st k) := by
  unfold am_r1; split
  · exact hk _ _ rfl
  · exact am_al_none
theorem am_al_ir {k : Int32 → Nat → List Value → Option am_O} (hk : ∀ x y r, am_al Pp (k x y r)) : am_al Pp (am_ir st k) := by
  unfold am_ir; split
  · exact hk _ _ _
  · exact am_al_none
theorem am_al_vr {k : Value → Nat → List Value → Option am_O} (hk : ∀ x y r, am_al Pp (k x y r)) : am_al Pp (am_vr st k) := by
  unfold am_vr; split
  · exact hk _ _ _
  · exact am_al_none
theorem am_al_vir {k : Value → Int32 → Nat → List Value → Option am_O} (hk : ∀ v x y r, am_al Pp (k v x y r)) : am_al Pp (am_vir st k) := by
  unfold am_vir; split
  · exact hk _ _ _ _
  · exact am_al_none
theorem am_al_cy {k : Nat → Int32 → Nat → Int32 → Int32 → List Value → Option am_O} (hk : ∀ a b c d e r, am_al Pp (k a b c d e r)) : am_al Pp (am_cy st k) := by
  unfold am_cy; split
  · exact hk _ _ _ _ _ _
  · exact am_al_none
theorem am_al_as {n : Nat} {k : List Value → List Value → Option am_O} (hk : n ≤ st.length → am_al Pp (k (st.take n).reverse (st.drop n))) : am_al Pp (am_as n st k) := by
  unfold am_as
  exact am_al_if hk am_al_none
theorem am_al_to {off : Int} {k : Nat → Option am_O} (hk : ∀ t, am_al Pp (k t)) : am_al Pp (am_to pc off k) := by
  unfold am_to
  exact am_al_if (fun _ => hk _) am_al_none
theorem am_al_gI {a : Nat} {k : Nat → (Nat → Int32) → Option am_O} (hk : ∀ n f, h[a]? = some (am_I n f) → am_al Pp (k n f)) : am_al Pp (am_gI h a k) := by
  unfold am_gI; split
  · exact hk _ _ (by assumption)
  · exact am_al_none
theorem am_al_gJ {a : Nat} {k : Nat → (Nat → Int64) → Option am_O} (hk : ∀ n f, h[a]? = some (am_J n f) → am_al Pp (k n f)) : am_al Pp (am_gJ h a k) := by
  unfold am_gJ; split
  · exact hk _ _ (by assumption)
  · exact am_al_none
theorem am_al_gZ {a : Nat} {k : Nat → (Nat → Int32) → Option am_O} (hk : ∀ n f, h[a]? = some (am_Z n f) → am_al Pp (k n f)) : am_al Pp (am_gZ h a k) := by
  unfold am_gZ; split
  · exact hk _ _ (by assumption)
  · exact am_al_none
theorem am_al_gR {a : Nat} {k : Nat → Nat → (Nat → Option Nat) → Option am_O} (hk : ∀ t n f, h[a]? = some (am_R t n f) → am_al Pp (k t n f)) : am_al Pp (am_gR h a k) := by
  unfold am_gR; split
  · exact hk _ _ _ (by assumption)
  · exact am_al_none
theorem am_al_gB {a : Nat} {k : Nat → List Value → Option am_O} (hk : ∀ c fs, h[a]? = some (am_B c fs) → am_al Pp (k c fs)) : am_al Pp (am_gB h a k) := by
  unfold am_gB; split
  · exact hk _ _ (by assumption)
  · exact am_al_none
theorem am_al_li {k : Nat} (hN : ∀ pc lo st, Pp (.inl (pc, lo, st, h))) : am_al Pp (am_li pc k lo st h) := by
  unfold am_li; split
  · exact (am_al_nx (hN _ _ _))
  · exact am_al_none
theorem am_al_lj {k : Nat} (hN : ∀ pc lo st, Pp (.inl (pc, lo, st, h))) : am_al Pp (am_lj pc k lo st h) := by
  unfold am_lj; split
  · exact (am_al_nx (hN _ _ _))
  · exact am_al_none
theorem am_al_la {k : Nat} (hN : ∀ pc lo st, Pp (.inl (pc, lo, st, h))) : am_al Pp (am_la pc k lo st h) := by
  unfold am_la; split
  · exact (am_al_nx (hN _ _ _))
  · exact (am_al_nx (hN _ _ _))
  · exact am_al_none
theorem am_al_s1 {k : Nat} {v : Value} (hN : ∀ pc lo st, Pp (.inl (pc, lo, st, h))) : am_al Pp (am_s1 pc k v lo st h) := by
  unfold am_s1
  exact am_al_if (fun _ => (am_al_nx (hN _ _ _))) am_al_none
theorem am_al_s2 {k : Nat} {v : Value} (hN : ∀ pc lo st, Pp (.inl (pc, lo, st, h))) : am_al Pp (am_s2 pc k v lo st h) := by
  unfold am_s2
  exact am_al_if (fun _ => (am_al_nx (hN _ _ _))) am_al_none
theorem am_al_si {k : Nat} (hN : ∀ pc lo st, Pp (.inl (pc, lo, st, h))) : am_al Pp (am_si pc k lo st h) := by
  unfold am_si; split
  · exact am_al_s1 hN
  · exact am_al_none
theorem am_al_sj {k : Nat} (hN : ∀ pc lo st, Pp (.inl (pc, lo, st, h))) : am_al Pp (am_sj pc k lo st h) := by
  unfold am_sj; split
  · exact am_al_s2 hN
  · exact am_al_none
theorem am_al_sa {k : Nat} (hN : ∀ pc lo st, Pp (.inl (pc, lo, st, h))) : am_al Pp (am_sa pc k lo st h) := by
  unfold am_sa; split
  · exact am_al_s1 hN
  · exact am_al_s1 hN
  · exact am_al_none
theorem am_al_call {P : am_P} {y z : Nat} {as r : List Value} (hC : (decide (am_rf (am_me P z) + 1 ≤ am_rf (am_me P y)) && decide (am_wd r + (am_ml (am_me P z) + 11) + am_rl (am_me P z) ≤ am_rl (am_me P y))) = true → Pp (.inr (.inl (z, as, r)))) : am_al Pp (am_call P y z as r) := by
  unfold am_call
  exact am_al_if (fun q => am_al_inr (hC q)) am_al_none
def am_mo (h : am_H) (x : am_O) : Prop := match x with
  | .inl (_, _, _, h') => am_le h h'
  | _ => True
theorem am_ez_set {c k : Nat} {fs : List Value} {v : Value} (hk : k < fs.length) : am_ez (.inr (c, fs.set k v)) = am_ez (.inr (c, fs)) := by
  cases fs with
  | nil => simp at hk
  | cons x t => cases k <;> simp [am_ez]
theorem am_le_push (h : am_H) (x : am_E) : am_le h (h ++ [x]) := ⟨by simp, by rw [am_sl_push]; omega⟩
theorem am_le_set {h : am_H} {a : Nat} {x z : am_E} (ha : h[a]? = some x) (hz : am_ez z = am_ez x) : am_le h (h.set a z) := ⟨by simp, by rw [am_sl_set ha hz]; exact Nat.le_refl _⟩
set_option maxHeartbeats 4000000 in
theorem am_ex_mo (P : am_P) (y pc : Nat) (i : Instr) (lo : am_L) (st : List Value) (h : am_H) : am_al (am_mo h) (am_ex P y pc i lo st h) := by
  cases i <;> simp only [am_ex] <;> repeat' (first
    | exact am_al_none | exact am_al_nx (am_le.rf h) | exact am_al_nx (am_le_push h _) | exact am_al_inr (trivial) | exact am_al_call (fun _ => trivial) | exact am_al_li (fun _ _ _ => am_le.rf h) | exact am_al_lj (fun _ _ _ => am_le.rf h) | exact am_al_la (fun _ _ _ => am_le.rf h) | exact am_al_si (fun _ _ _ => am_le.rf h) | exact am_al_sj (fun _ _ _ => am_le.rf h) | exact am_al_sa (fun _ _ _ => am_le.rf h) | exact am_al_s1 (fun _ _ _ => am_le.rf h)
    | (refine am_al_nx (am_le_set (by assumption) ?_); rfl)
    | (refine am_al_i2 fun _ _ _ => ?_) | (refine am_al_i1 fun _ _ => ?_) | (refine am_al_j2 fun _ _ _ => ?_) | (refine am_al_ij fun _ _ _ => ?_) | (refine am_al_r1 fun _ _ _ => ?_) | (refine am_al_ir fun _ _ _ => ?_) | (refine am_al_vr fun _ _ _ => ?_) | (refine am_al_vir fun _ _ _ _ => ?_) | (refine am_al_cy fun _ _ _ _ _ _ => ?_) | (refine am_al_as fun _ => ?_) | (refine am_al_to fun _ => ?_)
    | (refine am_al_gI fun _ _ _ => ?_) | (refine am_al_gJ fun _ _ _ => ?_) | (refine am_al_gZ fun _ _ _ => ?_) | (refine am_al_gR fun _ _ _ _ => ?_) | (refine am_al_gB fun _ _ _ => ?_)
    | (refine am_al_if (fun hq => am_al_nx (am_le_set (by assumption) (am_ez_set hq.2.1))) am_al_none)
    | (refine am_al_if (fun _ => ?_) ?_)
    | split)
theorem am_st_mo (P : am_P) (y pc : Nat) (lo : am_L) (st : List Value) (h : am_H) : am_al (am_mo h) (am_st P y pc lo st h) := by
  unfold am_st
  split
  · exact am_al_if (fun _ => am_ex_mo P y pc _ lo st h) am_al_none
  · exact am_al_none
theorem am_run_le (P : am_P) : ∀ (n y pc : Nat) (lo : am_L) (st : List Value) (h : am_H) (o : am_A) (h' : am_H), am_run P n y pc lo st h = some (o, h') → am_le h h'
  | 0, y, pc, lo, st, h, o, h', hx => by cases hx
  | n + 1, y, pc, lo, st, h, o, h', hx => by
    unfold am_run at hx
    split at hx
    · cases hx
    · rename_i pc1 lo1 st1 h1 hs
      exact am_le.tr (am_st_mo P y pc lo st h _ hs) (am_run_le P n y pc1 lo1 st1 h1 o h' hx)
    · rename_i z as rest hs
      split at hx
      · cases hx
      · rename_i l0 h0
        split at hx
        · cases hx
        · rename_i v h1 hr
          exact (am_run_le P n z 0 l0 [] h _ h1 hr).tr (am_run_le P n y (pc + 3) lo _ h1 o h' hx)
        · rename_i E h1 hr
          have e1 := am_run_le P n z 0 l0 [] h _ h1 hr
          split at hx
          · cases hx
            exact e1
          · split at hx
            · split at hx
              · exact e1.tr (am_run_le P n y _ _ _ h1 o h' hx)
              · cases hx
            · cases hx
    · cases hx
      exact am_le.rf h
    · split at hx
      · cases hx
        exact am_le_push h _
      · cases hx
/-- what a call is -/
def am_cv (P : am_P) (y : Nat) (i : Instr) (st : List Value) (h : am_H) (x : am_O) : Prop := ∀ (z : Nat) (as rest : List Value), x = .inr (.inl (z, as, rest)) → ∃ ix n k : Nat, am_ca P y ix = some (z, n, k) ∧ n ≤ st.length ∧ (decide (am_rf (am_me P z) + 1 ≤ am_rf (am_me P y)) && decide (am_wd rest + (am_ml (am_me P z) + 11) + am_rl (am_me P z) ≤ am_rl (am_me P y))) = true ∧
  ((k = 0 ∧ i = .invokestatic ix ∧ as = (st.take n).reverse ∧ rest = st.drop n) ∨
   (k = 1 ∧ i = .invokevirtual ix ∧ ∃ (a : Nat) (fs : List Value), as = .ref a :: (st.take n).reverse ∧ st.drop n = .ref a :: rest ∧ h[a]? = some (am_B (am_rc P z) fs)) ∨
   (k = 2 ∧ i = .invokespecial ix ∧ ∃ a : Nat, as = .ref a :: (st.take n).reverse ∧ st.drop n = .ref a :: rest))
theorem am_cv0 {P : am_P} {y : Nat} {i : Instr} {st : List Value} {h : am_H} {q : Nat × am_L × List Value × am_H} : am_cv P y i st h (.inl q) := fun _ _ _ e => by cases e
theorem am_cv1 {P : am_P} {y : Nat} {i : Instr} {st : List Value} {h : am_H} {q : am_A} : am_cv P y i st h (.inr (.inr q)) := fun _ _ _ e => by cases e
set_option maxHeartbeats 4000000 in
theorem am_ex_cv (P : am_P) (y pc : Nat) (i : Instr) (lo : am_L) (st : List Value) (h : am_H) : am_al (am_cv P y i st h) (am_ex P y pc i lo st h) := by
  cases i <;> simp only [am_ex] <;> repeat' (first
    | exact am_al_none | exact am_al_nx (am_cv0) | exact am_al_nx (am_cv0) | exact am_al_inr (am_cv1) | (refine am_al_call (fun hr => ?_); intro z' as' rest' he; cases he; first | exact ⟨_, _, 0, by assumption, by assumption, hr, Or.inl ⟨rfl, rfl, rfl, rfl⟩⟩ | exact ⟨_, _, 1, by assumption, by assumption, hr, Or.inr (Or.inl ⟨rfl, rfl, _, _, rfl, by assumption, by subst_vars; assumption⟩)⟩ | exact ⟨_, _, 2, by assumption, by assumption, hr, Or.inr (Or.inr ⟨rfl, rfl, _, rfl, by assumption⟩)⟩) | exact am_al_li (fun _ _ _ => am_cv0) | exact am_al_lj (fun _ _ _ => am_cv0) | exact am_al_la (fun _ _ _ => am_cv0) | exact am_al_si (fun _ _ _ => am_cv0) | exact am_al_sj (fun _ _ _ => am_cv0) | exact am_al_sa (fun _ _ _ => am_cv0) | exact am_al_s1 (fun _ _ _ => am_cv0)
    | exact am_al_nx (am_cv0)
    | (refine am_al_i2 fun _ _ _ => ?_) | (refine am_al_i1 fun _ _ => ?_) | (refine am_al_j2 fun _ _ _ => ?_) | (refine am_al_ij fun _ _ _ => ?_) | (refine am_al_r1 fun _ _ _ => ?_) | (refine am_al_ir fun _ _ _ => ?_) | (refine am_al_vr fun _ _ _ => ?_) | (refine am_al_vir fun _ _ _ _ => ?_) | (refine am_al_cy fun _ _ _ _ _ _ => ?_) | (refine am_al_as fun _ => ?_) | (refine am_al_to fun _ => ?_)
    | (refine am_al_gI fun _ _ _ => ?_) | (refine am_al_gJ fun _ _ _ => ?_) | (refine am_al_gZ fun _ _ _ => ?_) | (refine am_al_gR fun _ _ _ _ => ?_) | (refine am_al_gB fun _ _ _ => ?_)
    | (refine am_al_if (fun _ => ?_) ?_)
    | split)
/-- how a method's end comes about -/
def am_ev (P : am_P) (y pc : Nat) (i : Instr) (st : List Value) (x : am_O) : Prop := (∀ v, x = .inr (.inr (.inl v)) → i = .ireturn ∨ i = .areturn ∨ i = .return_) ∧ ∀ E, x = .inr (.inr (.inr E)) → ∃ ix ic : Nat, i = .new ix ∧ am_nw P y ix = none ∧ am_xn P y ix ic = some E ∧ decode (am_cd (am_me P y)) (pc + 3) = .ok (.dup, 1) ∧ decode (am_cd (am_me P y)) (pc + 4) = .ok (.invokespecial ic, 3) ∧ decode (am_cd (am_me P y)) (pc + 7) = .ok (.athrow, 1) ∧ 5 < am_rf (am_me P y) ∧ am_wd st + 82 ≤ am_rl (am_me P y)
theorem am_ev0 {P : am_P} {y pc : Nat} {i : Instr} {st : List Value} {q : Nat × am_L × List Value × am_H} : am_ev P y pc i st (.inl q) := ⟨fun _ e => (by cases e), fun _ e => (by cases e)⟩
theorem am_ev1 {P : am_P} {y pc : Nat} {i : Instr} {st : List Value} {q : Nat × List Value × List Value} : am_ev P y pc i st (.inr (.inl q)) := ⟨fun _ e => (by cases e), fun _ e => (by cases e)⟩
theorem am_ev2 {P : am_P} {y pc : Nat} {i : Instr} {st : List Value} {v : Option Value} (hi : (decide (i = .ireturn) || decide (i = .areturn) || decide (i = .return_)) = true) : am_ev P y pc i st (.inr (.inr (.inl v))) := by
  refine ⟨fun _ _ => ?_, fun _ e => (by cases e)⟩
  simp only [Bool.or_eq_true, decide_eq_true_eq] at hi
  rcases hi with (hi | hi) | hi
  · exact Or.inl hi
  · exact Or.inr (Or.inl hi)
  · exact Or.inr (Or.inr hi)
theorem am_ev3 {P : am_P} {y pc : Nat} {st : List Value} {E ix ic : Nat} (h1 : am_nw P y ix = none) (h2 : am_xn P y ix ic = some E) (h3 : decode (am_cd (am_me P y)) (pc + 3) = .ok (.dup, 1)) (h4 : decode (am_cd (am_me P y)) (pc + 4) = .ok (.invokespecial ic, 3)) (h5 : decode (am_cd (am_me P y)) (pc + 7) = .ok (.athrow, 1)) (h6 : 5 < am_rf (am_me P y) ∧ am_wd st + 82 ≤ am_rl (am_me P y)) : am_ev P y pc (.new ix) st (.inr (.inr (.inr E))) := ⟨fun _ e => (by cases e), fun _ e => by cases e; exact ⟨ix, ic, rfl, h1, h2, h3, h4, h5, h6⟩⟩
set_option maxHeartbeats 4000000 in
theorem am_ex_ev (P : am_P) (y pc : Nat) (i : Instr) (lo : am_L) (st : List Value) (h : am_H) : am_al (am_ev P y pc i st) (am_ex P y pc i lo st h) := by
  cases i <;> simp only [am_ex] <;> repeat' (first
    | exact am_al_none | exact am_al_nx (am_ev0) | exact am_al_nx (am_ev0) | exact am_al_inr (am_ev2 rfl) | exact am_al_inr (am_ev3 (by assumption) (by assumption) (by assumption) (by assumption) (by assumption) (by assumption)) | exact am_al_call (fun _ => am_ev1) | exact am_al_li (fun _ _ _ => am_ev0) | exact am_al_lj (fun _ _ _ => am_ev0) | exact am_al_la (fun _ _ _ => am_ev0) | exact am_al_si (fun _ _ _ => am_ev0) | exact am_al_sj (fun _ _ _ => am_ev0) | exact am_al_sa (fun _ _ _ => am_ev0) | exact am_al_s1 (fun _ _ _ => am_ev0)
    | exact am_al_nx (am_ev0)
    | (refine am_al_i2 fun _ _ _ => ?_) | (refine am_al_i1 fun _ _ => ?_) | (refine am_al_j2 fun _ _ _ => ?_) | (refine am_al_ij fun _ _ _ => ?_) | (refine am_al_r1 fun _ _ _ => ?_) | (refine am_al_ir fun _ _ _ => ?_) | (refine am_al_vr fun _ _ _ => ?_) | (refine am_al_vir fun _ _ _ _ => ?_) | (refine am_al_cy fun _ _ _ _ _ _ => ?_) | (refine am_al_as fun _ => ?_) | (refine am_al_to fun _ => ?_)
    | (refine am_al_gI fun _ _ _ => ?_) | (refine am_al_gJ fun _ _ _ => ?_) | (refine am_al_gZ fun _ _ _ => ?_) | (refine am_al_gR fun _ _ _ _ => ?_) | (refine am_al_gB fun _ _ _ => ?_)
    | (refine am_al_if (fun _ => ?_) ?_)
    | split)
end AV
end
section
/-! How an invocation ends; calls. -/
section AW
/-- the end of an invocation that began at s, in a room R -/
def am_Q (D : va_G) (cl : List vw_C) (b bs : Nat) (ac : Nat → ClassId) (R : Room) (s : State) (below : List Frame) (o : am_A) (h' : am_H) : State → Prop := fun t =>
  t.status = .running ∧ am_HR D cl b bs ac h' t.heap ∧ s.WarmedH t.vm ∧ va_F (fun q => b ≤ q) s t ∧ (∃ L : List Loc, s.sameButNew ({ t with vm := s.vm } : State) L R.cells R.slots ∧ ∀ q ∈ L, b ≤ q.base) ∧
  match o with
  | .inl v => Ended t below (.returned (v.map (am_sv b bs)))
  | .inr E => ∃ (q : Addr) (ce : Cell) (r : vw_C), Ended t below (.threw q) ∧ t.heap[q]? = some ce ∧ ce.vm = .none ∧ cl[E]? = some r ∧ s.vm.findClass r.1 = some ce.cls
variable {P : am_P} {TAB : List Cond} {cl : List vw_C} {tt : List FieldType} {D : va_G} {ac : Nat → ClassId} {AO : List String} {b bs n KC KS y pc pc' len : Nat} {lo lo' : am_L} {st st' : List Value} {h h' : am_H}
variable {p : Program} {l : Launch} {e : Env} {R : Room} {s : State} {m : MethodId} {args : Array Value} {below : List Frame} {meth : Method} {c : Code} {ls : Array Slot} {H : Heap} {locs : List Loc} {cells slots : Nat} {Q : State → Prop} {cc : ByteArray}
theorem am_W_mono {Q Q' : State → Prop} {g : JFrame} (hq : ∀ t, Q t → Q' t) (k : W p l e R s m args below meth c H locs cells slots Q g) : W p l e R s m args below meth c H locs cells slots Q' g := by
  intro T hT X
  obtain ⟨t, a1, b1⟩ := k T hT X
  exact ⟨t, a1, hq t b1⟩
theorem am_done {v : Option Value} (hf : am_fr D cl b bs ac n KC KS R s ls H locs cells slots lo h) (t : State) (hq : MQ below (fun _ _ o u => o = .returned (v.map (am_sv b bs)) ∧ u.heap = H) args s cells slots (fun q => b ≤ q) t) : am_Q D cl b bs ac R s below (.inl v) h t := by
  obtain ⟨o, h1, h2, ⟨rfl, h4⟩, L, ⟨-, h5, h6⟩, h7⟩ := hq
  obtain ⟨f1, f2, f3, f4, f5, f6, f7⟩ := hf
  refine ⟨h1, by rw [h4]; exact f2, h5, f3.F h4, ⟨L, h6.mono (by omega) (by omega), h7⟩, h2⟩
theorem am_e_ireturn (hexec : p.tables.exec = Jvm.exec) (hb : c.code = cc) (hr : meth.sig.returnType = am_rt (am_me P y)) (hlocks : meth.locks = false) (hd : decode cc pc = .ok (.ireturn, 1)) {v : Option Value}
    (hx : (match st with
      | [.int x] => if am_rt (am_me P y) = some .int ∨ (am_rt (am_me P y) = some .boolean ∧ (x = 0 ∨ x = 1)) then some (.inr (.inr (.inl (some (.int x))))) else none
      | _ => none) = (some (.inr (.inr (.inl v))) : Option am_O)) (hf : am_fr D cl b bs ac n KC KS R s ls H locs cells slots lo h) : W p l e R s m args below meth c H locs cells slots (am_Q D cl b bs ac R s below (.inl v) h) (F0 m pc ls (st.map (am_sv b bs))) := by
  split at hx
  · rename_i x
    obtain ⟨hc, hy⟩ := am_if_inv hx
    clear hx; have hx := hy; clear hy
    cases hx
    refine am_W_mono (fun t => am_done (args := args) (v := some (.int x)) hf t) ?_
    rcases hc with hc | ⟨hc, hz⟩
    · exact W.iret hexec hb (hr.trans hc) (fun t ht _ => ⟨rfl, ht⟩) hf.2.2.1.2.2 hd hlocks
    · refine W.zret hexec hb (hr.trans hc) ?_ (fun t ht _ => ⟨rfl, ht⟩) hf.2.2.1.2.2 hd hlocks
      rcases hz with rfl | rfl <;> decide +kernel
  · cases hx
theorem am_e_areturn (hexec : p.tables.exec = Jvm.exec) (hb : c.code = cc) (hr : meth.sig.returnType = am_rt (am_me P y)) (hlocks : meth.locks = false) (hd : decode cc pc = .ok (.areturn, 1)) {v : Option Value}
    (hx : (if am_ro (am_rt (am_me P y)) = true then (match st with
      | [.ref x] => some (.inr (.inr (.inl (some (.ref x)))))
      | [.null] => some (.inr (.inr (.inl (some .null))))
      | _ => none) else none) = (some (.inr (.inr (.inl v))) : Option am_O)) (hf : am_fr D cl b bs ac n KC KS R s ls H locs cells slots lo h) : W p l e R s m args below meth c H locs cells slots (am_Q D cl b bs ac R s below (.inl v) h) (F0 m pc ls (st.map (am_sv b bs))) := by
  obtain ⟨hro, hy⟩ := am_if_inv hx
  clear hx; have hx := hy; clear hy
  have hrt : ∃ rt : FieldType, am_rt (am_me P y) = some rt ∧ ((∃ k, rt = .object k) ∨ ∃ t, rt = .array t) := by
    cases hz : am_rt (am_me P y) with
    | none => rw [hz] at hro; cases hro
    | some rt =>
      rw [hz] at hro
      refine ⟨rt, rfl, ?_⟩
      cases rt <;> first | exact Or.inl ⟨_, rfl⟩ | exact Or.inr ⟨_, rfl⟩ | cases hro
  obtain ⟨rt, h1, hrt⟩ := hrt
  have hr := hr.trans h1
  split at hx
  · rename_i x
    cases hx
    refine am_W_mono (fun t => am_done (args := args) (v := some (.ref x)) hf t) ?_
    exact W.aret hexec hb hr hrt (Or.inr ⟨_, rfl⟩) (fun t ht _ => ⟨rfl, ht⟩) hf.2.2.1.2.2 hd hlocks
  · cases hx
    refine am_W_mono (fun t => am_done (args := args) (v := some .null) hf t) ?_
    exact W.aret hexec hb hr hrt (Or.inl rfl) (fun t ht _ => ⟨rfl, ht⟩) hf.2.2.1.2.2 hd hlocks
  · cases hx
theorem am_e_return (hexec : p.tables.exec = Jvm.exec) (hb : c.code = cc) (hr : meth.sig.returnType = am_rt (am_me P y)) (hlocks : meth.locks = false) (hd : decode cc pc = .ok (.return_, 1)) {v : Option Value}
    (hx : (if am_rt (am_me P y) = none then (match st with
      | [] => some (.inr (.inr (.inl none)))
      | _ => none) else none) = (some (.inr (.inr (.inl v))) : Option am_O)) (hf : am_fr D cl b bs ac n KC KS R s ls H locs cells slots lo h) : W p l e R s m args below meth c H locs cells slots (am_Q D cl b bs ac R s below (.inl v) h) (F0 m pc ls (st.map (am_sv b bs))) := by
  obtain ⟨hro, hy⟩ := am_if_inv hx
  clear hx; have hx := hy; clear hy
  split at hx
  · cases hx
    refine am_W_mono (fun t => am_done (args := args) (v := none) hf t) ?_
    exact W.vret hexec hb (hr.trans hro) (fun t ht _ => ⟨rfl, ht⟩) hf.2.2.1.2.2 hd hlocks
  · cases hx
theorem am_weak {tb : Tables} {mid below : List Frame} {x z : State} (hs : Steps tb e (mid ++ below) x z) : Steps tb e below x z := by
  obtain ⟨k, h1, h2⟩ := hs
  exact ⟨k, h1, fun i hi => (h2 i hi).weaken⟩
/-- a call goes into a body and comes back -/
theorem am_into {T : State} {g : JFrame} {ig : Instr} {mk : MethodId} {methk : Method} {ck : Code} {a : Array Value} {R' : Room} {o : am_A} {h1 : am_H}
    (X : Stand p l e R s m args below meth c T locs cells slots) (hg : g.method = m) (hsize : g.locals.size = c.maxLocals) (hdg : decode c.code g.pc = .ok (ig, 3))
    (hmk : T.vm.method? mk = some methk) (hck : methk.code = some ck) (hlk : methk.locks = false) (hpk : T.plainMethod mk)
    (hframes : R'.frames + 1 ≤ R.frames) (hlocals : 2 * g.monitorRoom + (g.stack.map fun v => v.category).sum + (ck.maxLocals + 11) + R'.locals ≤ R.locals) (hcells : cells + R'.cells ≤ R.cells) (hslots : slots + R'.slots ≤ R.slots)
    (hW : W p l e R' (T.calling g mk a) mk a (.java g :: below) methk ck T.heap [] 0 0 (am_Q D cl b bs ac R' (T.calling g mk a) (.java g :: below) o h1) (entryFrame mk a ck.maxLocals)) :
    ∃ (T' : State) (L : List Loc), Stand p l e R s m args below meth c T' (locs ++ L) (cells + R'.cells) (slots + R'.slots) ∧ am_HR D cl b bs ac h1 T'.heap ∧ (∀ q ∈ L, b ≤ q.base) ∧ (T.heap.size ≤ T'.heap.size ∧ ∀ q : Nat, q < T.heap.size → ¬ b ≤ q → T'.heap[q]? = T.heap[q]?) ∧
      match o with
      | .inl v => ∀ target, Steps p.tables e below (T'.setTop { g with pc := g.pc + 3, stack := (v.map (am_sv b bs)).toList ++ g.stack }) target → ∀ acts, Steps p.tables e below (doInvoke e (T.setTop g) acts mk a).1 target
      | .inr E => ∃ (q : Addr) (ce : Cell) (r : vw_C), T'.heap[q]? = some ce ∧ ce.vm = .none ∧ cl[E]? = some r ∧ s.vm.findClass r.1 = some ce.cls ∧ ∀ target, Steps p.tables e below ((T'.setTop g).pushFrame (.throwing q)) target → ∀ acts, Steps p.tables e below (doInvoke e (T.setTop g) acts mk a).1 target := by
  obtain ⟨X2, hin⟩ := X.into hg hsize hdg a (R' := R') hmk hck hlk hpk hframes hlocals hcells hslots
  obtain ⟨t, hst, q1, q2, q3, q4, ⟨L, q5, q6⟩, q7⟩ := hW ((T.setTop g).pushFrame (.java (entryFrame mk a ck.maxLocals))) rfl X2
  have hst2 : ∀ acts, Steps p.tables e below (doInvoke e (T.setTop g) acts mk a).1 t := fun acts => by
    rw [hin acts]
    exact am_weak (mid := [.java g]) hst
  have hv : (T.calling g mk a).vm = T.vm := rfl
  cases o with
  | inl v =>
    obtain ⟨T', X', hW', -, ht⟩ := X.outOf hg hdg (mk := mk) (a := a) q7 q3 q5
    have hh : T'.heap = t.heap := by rw [ht]; rfl
    refine ⟨T', L, X', by rw [hh]; exact q2, q6, by rw [hh]; exact q4, fun target hs acts => ?_⟩
    refine (hst2 acts).trans ?_
    rw [ht]
    exact hs
  | inr E =>
    obtain ⟨q, ce, r, q8, q9, q10, q11, q12⟩ := q7
    obtain ⟨T', X', hW', -, ht⟩ := X.outOfThrown hg (mk := mk) (a := a) q8 q3 q5
    have hh : T'.heap = t.heap := by rw [ht]; exact (Stand.throwing_heap T' g q).symm
    have hc : s.vm.findClass r.1 = some ce.cls := by
      have h1 : T.vm.findClass r.1 = some ce.cls := q12
      rw [X.warmed.alike.findClass] at h1
      exact h1
    refine ⟨T', L, X', by rw [hh]; exact q2, q6, by rw [hh]; exact q4, q, ce, r, by rw [hh]; exact q9, q10, q11, hc, fun target hs acts => ?_⟩
    refine (hst2 acts).trans ?_
    rw [ht]
    exact hs
end AW
end
section
/-! Static fields that nobody writes, kept in the heap below b. -/
section AW2
variable {b : Nat} {s : State} {args : Array Value}
/-- a static field that holds a reference or null, its class's cell below b -/
def am_SF (C n d : String) (b : Nat) (U : State) (H : Heap) : Prop := ∃ (cS : ClassId) (k : Class) (i : Nat) (f : Field) (a : Nat) (cell : Cell) (v : Value), U.vm.findClass C = some cS ∧ U.fieldFound? C n d = some (cS, k, i, f) ∧ f.isStatic = true ∧ k.statics = some a ∧ H[a]? = some cell ∧ cell.vm.isStatics = true ∧ cell.cls = cS ∧ f.slot < cell.slots.size ∧ k.staticTypes[f.slot]? = some f.type ∧ cell.slots[f.slot]? = some v ∧ v.isRef = true ∧ a < b
theorem am_SF.moved {C n d : String} {u U : State} {H H1 : Heap} (hvm : u.vm.Alike U.vm) (hk : ∀ q : Nat, q < b → q < H.size → H1[q]? = H[q]?) (hz : am_SF C n d b u H) : am_SF C n d b U H1 := by
  obtain ⟨cS, k, i, f, a, cell, v, h1, h2, h3, h4, h5, h6, h7, h8, h9, h10, h11, h12⟩ := hz
  obtain ⟨k', hi', he⟩ := State.fieldFound?_setVm hvm h2
  exact ⟨cS, k', i, f, a, cell, v, by rw [hvm.findClass]; exact h1, hi', h3, by rw [he]; exact h4, by rw [hk a h12 (Array.getElem?_eq_some_iff.mp h5).1]; exact h5, h6, h7, h8, by rw [he]; exact h9, h10, h11, h12⟩
theorem am_SF.words {C n d : String} (hz : am_SF C n d b s s.heap) : (Cond.laysStatic C n d).before args s = true ∧ (Cond.isRef (.static C n d)).before args s = true := by
  obtain ⟨cS, k, i, f, a, cell, v, h1, h2, h3, h4, h5, h6, h7, h8, h9, h10, h11, h12⟩ := hz
  refine ⟨?_, ?_⟩
  · show (Cond.laysStatic C n d).holds args s none s [] = true
    exact Cond.laysStatic_of h1 h2 h3 h4 h5 h6 h7 h8 h9
  · have he : (Term.static C n d).eval args s none [] s = some v := by
      simp [Term.eval, State.fieldNamed?, h2, h3, h4, h5, h6, h10]
    simp only [Cond.before, Cond.holds, Cond.value, he]
    cases v <;> simp_all [Value.isRef]
end AW2
end
section
/-! One step that goes on, of any instruction. -/
section AX
/-- what holds of the machine's tables and of the heap below b at the beginning of an invocation -/
def am_env (P : am_P) (TAB : List Cond) (NST : (List (String × Nat × MethodName × String)) × (List (String × String × String)) × (List MethodName) × (List (Nat × Nat))) (AO : List String) (cl : List vw_C) (tt : List FieldType) (D : va_G) (ac : Nat → ClassId) (b bs : Nat) (s : State) (args : Array Value) : Prop :=
  (∀ w ∈ TAB, w.before args s = true) ∧ (∀ q ∈ NST.1, va_Nw (.methodLinkNest q.1 q.2.1 q.2.2.1 q.2.2.2) s) ∧ (∀ C ∈ AO, va_AO C s) ∧ va_K D cl (am_tys ac tt) s ∧ va_X bs (am_sL P) (am_sX P) s s.heap ∧ bs < s.heap.size ∧ bs < b ∧ b ≤ s.heap.size ∧ (∀ q ∈ NST.2.1, am_SF q.1 q.2.1 q.2.2 b s s.heap) ∧ (∀ x ∈ NST.2.2.1, va_Nw (.declares x) s) ∧ (∀ q ∈ NST.2.2.2, s.vm.assignable (D.1 q.1) (D.1 q.2) = false) ∧ va_Nw (.castable "[I" "java/lang/Cloneable") s
/-- the method y is the one that runs -/
def am_at (P : am_P) (y : Nat) (s : State) (m : MethodId) (meth : Method) (c : Code) : Prop :=
  c.code = am_cd (am_me P y) ∧ c.maxLocals = am_ml (am_me P y) ∧ meth.sig.returnType = am_rt (am_me P y) ∧ meth.locks = false ∧ s.vm.findClass (am_nm (am_me P y)).cls = some m.cls ∧ meth.name = (am_nm (am_me P y)).name ∧ c.exceptionTable.toList.map (fun q => (q.startPc, q.endPc, q.handlerPc, q.catchType)) = (am_hd (am_me P y)).map (fun q => (q.1, q.2.1, q.2.2.1, q.2.2.2.1))
/-- what the tables of the abstract machine say is in the words -/
def am_OK (P : am_P) (TAB : List Cond) (AO : List String) (cl : List vw_C) (tt : List FieldType) : Prop :=
  am_okF P TAB cl ∧ am_okC TAB cl ∧ am_okT P cl tt ∧ am_okA TAB ∧ am_okN P TAB cl ∧ am_okR P TAB tt AO ∧ am_okS P TAB ∧ am_okL P TAB
variable {P : am_P} {TAB : List Cond} {NST : (List (String × Nat × MethodName × String)) × (List (String × String × String)) × (List MethodName) × (List (Nat × Nat))} {cl : List vw_C} {tt : List FieldType} {D : va_G} {ac : Nat → ClassId} {AO : List String} {b bs KC KS y pc pc' len : Nat} {lo lo' : am_L} {st st' : List Value} {h h' : am_H}
variable {p : Program} {l : Launch} {e : Env} {R : Room} {s : State} {m : MethodId} {args : Array Value} {below : List Frame} {meth : Method} {c : Code} {ls : Array Slot} {H : Heap} {locs : List Loc} {cells slots : Nat} {Q : State → Prop}
-- a step that goes on is no call
theorem am_call_no {P : am_P} {y z : Nat} {as r : List Value} {q : Nat × am_L × List Value × am_H} : ¬ am_call P y z as r = some (.inl q) := by
  unfold am_call
  intro hx
  obtain ⟨-, hy⟩ := am_if_inv hx
  clear hx; have hx := hy; clear hy
  cases hx
theorem am_as_no {n : Nat} {st : List Value} {k : List Value → List Value → Option am_O} {o : am_O} (hk : ∀ a r, ¬ k a r = some o) : ¬ am_as n st k = some o := by
  unfold am_as
  intro hx
  obtain ⟨-, hy⟩ := am_if_inv hx
  clear hx; have hx := hy; clear hy
  exact hk _ _ hx
theorem am_r1_no {st : List Value} {k : Nat → List Value → Option am_O} {o : am_O} (hk : ∀ a r, ¬ k a r = some o) : ¬ am_r1 st k = some o := by
  intro hx
  obtain ⟨a, r, -, hy⟩ := am_r1_inv hx
  clear hx; have hx := hy; clear hy
  exact hk _ _ hx
theorem am_gB_no {h : am_H} {a : Nat} {k : Nat → List Value → Option am_O} {o : am_O} (hk : ∀ a r, ¬ k a r = some o) : ¬ am_gB h a k = some o := by
  intro hx
  obtain ⟨a, r, -, hy⟩ := am_gB_inv hx
  clear hx; have hx := hy; clear hy
  exact hk _ _ hx
theorem am_if_no {c : Prop} [Decidable c] {x : Option am_O} {o : am_O} (hk : ¬ x = some o) : ¬ (if c then x else none) = some o := by
  intro hx
  exact hk (am_if_inv hx).2
set_option maxHeartbeats 4000000 in
theorem am_next (hexec : p.tables.exec = Jvm.exec) (ok : am_OK P TAB AO cl tt) (env : am_env P TAB NST AO cl tt D ac b bs s args) (at_ : am_at P y s m meth c) (hrf : am_rf (am_me P y) ≤ R.frames) (hrl : am_rl (am_me P y) ≤ R.locals) {i : Instr}
    (hd : decode (am_cd (am_me P y)) pc = .ok (i, len)) (hl : am_ln i len = true) (hx : am_ex P y pc i lo st h = some (.inl (pc', lo', st', h'))) (hkk : h'.length ≤ KC ∧ am_sl h' ≤ KS) (hf : am_fr D cl b bs ac (am_ml (am_me P y)) KC KS R s ls H locs cells slots lo h)
    (kk : ∀ (ls' : Array Slot) (H' : Heap) (locs' : List Loc) (cells' slots' : Nat), am_fr D cl b bs ac (am_ml (am_me P y)) KC KS R s ls' H' locs' cells' slots' lo' h' → W p l e R s m args below meth c H' locs' cells' slots' Q (F0 m pc' ls' (st'.map (am_sv b bs)))) :
    W p l e R s m args below meth c H locs cells slots Q (F0 m pc ls (st.map (am_sv b bs))) := by
  obtain ⟨oF, oC, oT, oA, oN, oR, oS, oK⟩ := ok
  obtain ⟨hts, hnst, hAO, hK, hX, hbl, hbb, hbs, -, -, -, hcc⟩ := env
  obtain ⟨hb, hml, hr, hlocks, hown, hnm, -⟩ := at_
  cases i with
  | iconst =>
    obtain rfl : len = 1 := by simpa [am_ln] using hl
    exact am_n_iconst hexec hb hd hx hf kk
  | bipush =>
    obtain rfl : len = 2 := by simpa [am_ln] using hl
    exact am_n_bipush hexec hb hd hx hf kk
  | sipush =>
    obtain rfl : len = 3 := by simpa [am_ln] using hl
    exact am_n_sipush hexec hb hd hx hf kk
  | lconst =>
    obtain rfl : len = 1 := by simpa [am_ln] using hl
    exact am_n_lconst hexec hb hd hx hf kk
  | aconst_null =>
    obtain rfl : len = 1 := by simpa [am_ln] using hl
    exact am_n_aconst_null hexec hb hd hx hf kk
  | iload =>
    obtain rfl : len = 2 := by simpa [am_ln] using hl
    exact am_n_iload hexec hb hd hx hf kk
  | iload_n =>
    obtain rfl : len = 1 := by simpa [am_ln] using hl
    exact am_n_iload_n hexec hb hd hx hf kk
  | lload =>
    obtain rfl : len = 2 := by simpa [am_ln] using hl
    exact am_n_lload hexec hb hd hx hf kk
  | lload_n =>
    obtain rfl : len = 1 := by simpa [am_ln] using hl
    exact am_n_lload_n hexec hb hd hx hf kk
  | aload =>
    obtain rfl : len = 2 := by simpa [am_ln] using hl
    exact am_n_aload hexec hb hd hx hf kk
  | aload_n =>
    obtain rfl : len = 1 := by simpa [am_ln] using hl
    exact am_n_aload_n hexec hb hd hx hf kk
  | istore =>
    obtain rfl : len = 2 := by simpa [am_ln] using hl
    exact am_n_istore hexec hb hd hx hf kk
  | istore_n =>
    obtain rfl : len = 1 := by simpa [am_ln] using hl
    exact am_n_istore_n hexec hb hd hx hf kk
  | lstore =>
    obtain rfl : len = 2 := by simpa [am_ln] using hl
    exact am_n_lstore hexec hb hd hx hf kk
  | lstore_n =>
    obtain rfl : len = 1 := by simpa [am_ln] using hl
    exact am_n_lstore_n hexec hb hd hx hf kk
  | astore =>
    obtain rfl : len = 2 := by simpa [am_ln] using hl
    exact am_n_astore hexec hb hd hx hf kk
  | astore_n =>
    obtain rfl : len = 1 := by simpa [am_ln] using hl
    exact am_n_astore_n hexec hb hd hx hf kk
  | iinc =>
    obtain rfl : len = 3 := by simpa [am_ln] using hl
    exact am_n_iinc hexec hb hd hx hf kk
  | iadd =>
    obtain rfl : len = 1 := by simpa [am_ln] using hl
    exact am_n_iadd hexec hb hd hx hf kk
  | isub =>
    obtain rfl : len = 1 := by simpa [am_ln] using hl
    exact am_n_isub hexec hb hd hx hf kk
  | imul =>
    obtain rfl : len = 1 := by simpa [am_ln] using hl
    exact am_n_imul hexec hb hd hx hf kk
  | idiv =>
    obtain rfl : len = 1 := by simpa [am_ln] using hl
    exact am_n_idiv hexec hb hd hx hf kk
  | iand =>
    obtain rfl : len = 1 := by simpa [am_ln] using hl
    exact am_n_iand hexec hb hd hx hf kk
  | ior =>
    obtain rfl : len = 1 := by simpa [am_ln] using hl
    exact am_n_ior hexec hb hd hx hf kk
  | ixor =>
    obtain rfl : len = 1 := by simpa [am_ln] using hl
    exact am_n_ixor hexec hb hd hx hf kk
  | ishl =>
    obtain rfl : len = 1 := by simpa [am_ln] using hl
    exact am_n_ishl hexec hb hd hx hf kk
  | iushr =>
    obtain rfl : len = 1 := by simpa [am_ln] using hl
    exact am_n_iushr hexec hb hd hx hf kk
  | land =>
    obtain rfl : len = 1 := by simpa [am_ln] using hl
    exact am_n_land hexec hb hd hx hf kk
  | lor =>
    obtain rfl : len = 1 := by simpa [am_ln] using hl
    exact am_n_lor hexec hb hd hx hf kk
  | lshl =>
    obtain rfl : len = 1 := by simpa [am_ln] using hl
    exact am_n_lshl hexec hb hd hx hf kk
  | lcmp =>
    obtain rfl : len = 1 := by simpa [am_ln] using hl
    exact am_n_lcmp hexec hb hd hx hf kk
  | i2l =>
    obtain rfl : len = 1 := by simpa [am_ln] using hl
    exact am_n_i2l hexec hb hd hx hf kk
  | dup =>
    obtain rfl : len = 1 := by simpa [am_ln] using hl
    exact am_n_dup hexec hb hd hx hf kk
  | pop =>
    obtain rfl : len = 1 := by simpa [am_ln] using hl
    exact am_n_pop hexec hb hd hx hf kk
  | dup_x1 =>
    obtain rfl : len = 1 := by simpa [am_ln] using hl
    exact am_n_dup_x1 hexec hb hd hx hf kk
  | dup_x2 =>
    obtain rfl : len = 1 := by simpa [am_ln] using hl
    exact am_n_dup_x2 hexec hb hd hx hf kk
  | dup2 =>
    obtain rfl : len = 1 := by simpa [am_ln] using hl
    exact am_n_dup2 hexec hb hd hx hf kk
  | ifCond =>
    obtain rfl : len = 3 := by simpa [am_ln] using hl
    exact am_n_ifCond hexec hb hd hx hf kk
  | if_icmp =>
    obtain rfl : len = 3 := by simpa [am_ln] using hl
    exact am_n_if_icmp hexec hb hd hx hf kk
  | ifnull =>
    obtain rfl : len = 3 := by simpa [am_ln] using hl
    exact am_n_ifnull hexec hb hd hx hf kk
  | ifnonnull =>
    obtain rfl : len = 3 := by simpa [am_ln] using hl
    exact am_n_ifnonnull hexec hb hd hx hf kk
  | goto =>
    obtain rfl : len = 3 := by simpa [am_ln] using hl
    exact am_n_goto hexec hb hd hx hf kk
  | tableswitch => exact am_n_tableswitch hexec hb hd hx hf kk
  | lookupswitch => exact am_n_lookupswitch hexec hb hd hx hf kk
  | ldc_w =>
    obtain rfl : len = 3 := by simpa [am_ln] using hl
    exact am_n_ldc_w hexec hb hts hown oK hd hx hf kk
  | getfield =>
    obtain rfl : len = 3 := by simpa [am_ln] using hl
    exact am_n_getfield hexec hb hts hown hK oF oC hd hx hf kk
  | putfield =>
    obtain rfl : len = 3 := by simpa [am_ln] using hl
    exact am_n_putfield hexec hb hts hown hK oF oC hbs hnm hd hx hf kk
  | iaload =>
    obtain rfl : len = 1 := by simpa [am_ln] using hl
    exact am_n_iaload hexec hb hK oT hX hbl hbb hd hx hf kk
  | baload =>
    obtain rfl : len = 1 := by simpa [am_ln] using hl
    exact am_n_baload hexec hb hK oT hd hx hf kk
  | laload =>
    obtain rfl : len = 1 := by simpa [am_ln] using hl
    exact am_n_laload hexec hb hK oT hd hx hf kk
  | aaload =>
    obtain rfl : len = 1 := by simpa [am_ln] using hl
    exact am_n_aaload hexec hb hK oT hd hx hf kk
  | iastore =>
    obtain rfl : len = 1 := by simpa [am_ln] using hl
    exact am_n_iastore hexec hb hK oT hbs hd hx hf kk
  | bastore =>
    obtain rfl : len = 1 := by simpa [am_ln] using hl
    exact am_n_bastore hexec hb hK oT hbs hd hx hf kk
  | lastore =>
    obtain rfl : len = 1 := by simpa [am_ln] using hl
    exact am_n_lastore hexec hb hK oT hbs hd hx hf kk
  | aastore =>
    obtain rfl : len = 1 := by simpa [am_ln] using hl
    exact am_n_aastore hexec hb hK oT hbs hd hx hf kk
  | arraylength =>
    obtain rfl : len = 1 := by simpa [am_ln] using hl
    exact am_n_arraylength hexec hb hK oT hX hbl hbb hd hx hf kk
  | newarray =>
    obtain rfl : len = 2 := by simpa [am_ln] using hl
    exact am_n_newarray hexec hb hts oA hK oT hbs hkk hd hx hf kk
  | anewarray =>
    obtain rfl : len = 3 := by simpa [am_ln] using hl
    exact am_n_anewarray hexec hb hts hown hK oR hAO hbs hkk hd hx hf kk
  | new ix =>
    obtain rfl : len = 3 := by simpa [am_ln] using hl
    simp only [am_ex] at hx
    split at hx
    · rename_i hnw
      exact am_n_new hexec hb hnw hts hown hK oN oC hbs hkk hd hx hf kk
    · split at hx
      · split at hx
        · obtain ⟨-, hy⟩ := am_if_inv hx
          clear hx; have hx := hy; clear hy
          cases hx
        · cases hx
      · cases hx
  | invokespecial ix =>
    obtain rfl : len = 3 := by simpa [am_ln] using hl
    simp only [am_ex] at hx
    split at hx
    · rename_i hsp
      exact am_n_objInit hexec hb hsp hts hown oS hml hrf hrl hd hx hf kk
    · cases hx
    · split at hx
      · exact absurd hx (am_as_no fun as r => am_r1_no fun a r => am_call_no)
      · cases hx
  | checkcast ix =>
    obtain rfl : len = 3 := by simpa [am_ln] using hl
    simp only [am_ex] at hx
    split at hx
    · rename_i hsp
      exact am_n_castA hexec hb hsp hts hown oS hK oT hd hx hf kk
    · cases hx
  | invokevirtual ix =>
    obtain rfl : len = 3 := by simpa [am_ln] using hl
    simp only [am_ex] at hx
    split at hx
    · rename_i hsp
      exact am_n_clone hexec hb hsp hts hown oS hcc hK oT hbs hml hrf hrl hkk hd hx hf kk
    · cases hx
    · split at hx
      · exact absurd hx (am_as_no fun as r => am_r1_no fun a r => am_gB_no fun c fs => am_if_no am_call_no)
      · cases hx
  | invokestatic ix =>
    obtain rfl : len = 3 := by simpa [am_ln] using hl
    simp only [am_ex] at hx
    split at hx
    · rename_i hsp
      exact am_n_mmax hexec hb hsp hts hown oS hml hrf hrl hd hx hf kk
    · rename_i hsp
      exact am_n_mmin hexec hb hsp hts hown oS hml hrf hrl hd hx hf kk
    · rename_i hsp
      exact am_n_copy hexec hb hsp hts hown oS hK oT hbs hml hrf hrl hd hx hf kk
    · cases hx
    · split at hx
      · exact absurd hx (am_as_no fun as r => am_call_no)
      · cases hx
  | ireturn =>
    simp only [am_ex] at hx
    split at hx
    · exact absurd hx (am_if_no (fun q => by cases q))
    · cases hx
  | areturn =>
    simp only [am_ex] at hx
    obtain ⟨-, hy⟩ := am_if_inv hx
    clear hx; have hx := hy; clear hy
    split at hx <;> cases hx
  | return_ =>
    simp only [am_ex] at hx
    obtain ⟨-, hy⟩ := am_if_inv hx
    clear hx; have hx := hy; clear hy
    split at hx <;> cases hx
  | _ =>
    simp only [am_ex] at hx
    cases hx
end AX
end
section
/-! The abstract machine's runs are runs of the real one. -/
section AY
variable {P : am_P} {TAB : List Cond} {NST : (List (String × Nat × MethodName × String)) × (List (String × String × String)) × (List MethodName) × (List (Nat × Nat))} {cl : List vw_C} {tt : List FieldType} {D : va_G} {ac : Nat → ClassId} {AO : List String} {b bs KC KS y pc pc' len : Nat} {lo lo' : am_L} {st st' : List Value} {h h' : am_H}
variable {p : Program} {l : Launch} {e : Env} {R : Room} {s : State} {m : MethodId} {args : Array Value} {below : List Frame} {meth : Method} {c : Code} {ls : Array Slot} {H : Heap} {locs : List Loc} {cells slots : Nat} {Q : State → Prop}
/-- a link of a method, across a nest or not -/
def am_lk (own : String) (ix : Nat) (x : MethodName) (args : Array Value) (s : State) : Prop := (Cond.methodLink own ix x).before args s = true ∨ ∃ host, va_Nw (.methodLinkNest own ix x host) s
theorem am_invS {T : State} (X : Stand p l e R s m args below meth c T locs cells slots) (hexec : p.tables.exec = Jvm.exec) {own : String} {ix : Nat} {x : MethodName} (hown : s.vm.findClass own = some m.cls) (hlink : am_lk own ix x args s)
    (hstat : (Cond.static x).before args s = true) (hini : (Cond.initialized x.cls).before args s = true) (hx : x.cls ≠ "java/lang/invoke/MethodHandle" ∧ x.cls ≠ "java/lang/invoke/VarHandle") {mk : MethodId} {methk : Method} (hn : s.methodNamed? x = some mk) (hm : s.vm.method? mk = some methk)
    {g : JFrame} (hg : g.method = m) {as rest : List Value} (hlen : as.length = methk.sig.parameters.length) (hstack : g.stack = as.reverse ++ rest) (hdg : decode c.code g.pc = .ok (.invokestatic ix, 3)) :
    ∃ vm', Stand p l e R s m args below meth c (T.setVm vm') locs cells slots ∧ ∀ target, (∀ acts, Steps p.tables e below (doInvoke e ((T.setVm vm').setTop { g with stack := rest }) acts mk as.toArray).1 target) → Steps p.tables e below (T.setTop g) target := by
  have hstatic : methk.isStatic = true := Cond.static_spec hn hm hstat
  obtain ⟨kP, hkP, -⟩ := className_of_methodNamed hn
  have hinitP : kP.init = .initialized := Cond.initialized_spec (findClass_of_methodNamed hn) hkP hini
  rcases hlink with hl | ⟨host, hl⟩
  · exact X.invokestatic hexec hown hl hn hm hstatic hkP hinitP hx (g := g) hg (argsL := as) (rest := rest) hlen hstack hdg
  · exact X.invokestaticNest hexec hown (va_Nw.use rfl hl) hn hm hstatic hkP hinitP hx (g := g) hg (argsL := as) (rest := rest) hlen hstack hdg
theorem am_invV {T : State} (X : Stand p l e R s m args below meth c T locs cells slots) (hexec : p.tables.exec = Jvm.exec) {own C : String} {ix : Nat} {x : MethodName} (hown : s.vm.findClass own = some m.cls) (hlink : am_lk own ix x args s)
    (hinst : (Cond.instanceMethod x).before args s = true) (hsel : (Cond.selects C x x).before args s = true) (hx : x.cls ≠ "java/lang/invoke/MethodHandle" ∧ x.cls ≠ "java/lang/invoke/VarHandle") {mk : MethodId} {methk : Method} (hn : s.methodNamed? x = some mk) (hm : s.vm.method? mk = some methk)
    {q : Addr} {cellB : Cell} (hcell : T.heap[q]? = some cellB) (hobj : cellB.vm.isStatics = false) (hcls : s.vm.findClass C = some cellB.cls)
    {g : JFrame} (hg : g.method = m) {as rest : List Value} (hlen : as.length = methk.sig.parameters.length) (hstack : g.stack = as.reverse ++ .ref q :: rest) (hdg : decode c.code g.pc = .ok (.invokevirtual ix, 3)) :
    ∃ vm', Stand p l e R s m args below meth c (T.setVm vm') locs cells slots ∧ ∀ target, (∀ acts, Steps p.tables e below (doInvoke e ((T.setVm vm').setTop { g with stack := rest }) acts mk (.ref q :: as).toArray).1 target) → Steps p.tables e below (T.setTop g) target := by
  obtain ⟨mk', methM, hnamed, hmethM, hstM, habM⟩ := Cond.instanceMethod_spec hinst
  cases hn.symm.trans hnamed
  cases hm.symm.trans hmethM
  obtain ⟨c2, r2, m2, q1, q2, q3, q4, kP, hkP, hkPi⟩ := Cond.selects_spec hsel
  cases hcls.symm.trans q1
  cases (State.methodFound?_of_named hn hx).symm.trans q2
  cases hn.symm.trans q3
  have hselP : selectMethod e.platform s.vm cellB.cls mk = .method mk := by rw [Launch.admits_selectMethod X.admits]; exact q4
  rcases hlink with hl | ⟨host, hl⟩
  · exact X.invokevirtual hexec hown hl hn hm hstM hkP hkPi hx (a := q) (cell := cellB) hcell (fun z h => by rw [h] at hobj; cases hobj) hselP hm habM hkP hkPi (g := g) hg (argsL := as) (rest := rest) hlen hstack hdg
  · exact X.invokevirtualNest hexec hown (va_Nw.use rfl hl) hn hm hstM hkP hkPi hx (a := q) (cell := cellB) hcell (fun z h => by rw [h] at hobj; cases hobj) hselP hm habM hkP hkPi (g := g) hg (argsL := as) (rest := rest) hlen hstack hdg
theorem am_invI {T : State} (X : Stand p l e R s m args below meth c T locs cells slots) (hexec : p.tables.exec = Jvm.exec) {own : String} {ix : Nat} {x : MethodName} {bytes : ByteArray} {maxL : Nat} (hown : s.vm.findClass own = some m.cls) (hlink : am_lk own ix x args s)
    (hinst : (Cond.instanceMethod x).before args s = true) (hcode : (Cond.code x bytes maxL none).before args s = true) (hname : x.name = "<init>") (hx : x.cls ≠ "java/lang/invoke/MethodHandle" ∧ x.cls ≠ "java/lang/invoke/VarHandle") {mk : MethodId} (hn : s.methodNamed? x = some mk)
    {q : Addr} {g : JFrame} (hg : g.method = m) {as rest : List Value} (hlen : ∀ sig, parseMethodDescriptor x.desc = some sig → as.length = sig.parameters.length) (hstack : g.stack = as.reverse ++ .ref q :: rest) (hdg : decode c.code g.pc = .ok (.invokespecial ix, 3)) :
    ∃ vm', Stand p l e R s m args below meth c (T.setVm vm') locs cells slots ∧ ∀ target, (∀ acts, Steps p.tables e below (doInvoke e ((T.setVm vm').setTop { g with stack := rest }) acts mk (.ref q :: as).toArray).1 target) → Steps p.tables e below (T.setTop g) target := by
  subst hg
  have hpl : e.platform.magicAccessors = ({} : Platform).magicAccessors := by rw [X.admits.platform]
  rcases hlink with hl | ⟨host, hl⟩
  · obtain ⟨mk', methM, cM, kP, vm₁, hnamed, hmethM, hcodeM, -, hlocalsM, -, hkP, -, hW₁, hstep₁⟩ := Steps.initColdArgs (e := e) X.here hexec X.warmed hpl hown hname hx hl hinst hcode (f := g) rfl hlen hstack hdg
    cases hn.symm.trans hnamed
    exact ⟨vm₁, X.noted hW₁, hstep₁⟩
  · obtain ⟨mk', methM, cM, kP, vm₁, hnamed, hmethM, hcodeM, -, hlocalsM, -, hkP, -, hW₁, hstep₁⟩ := Steps.initColdArgsNest (e := e) X.here hexec X.warmed hpl hown hname hx (va_Nw.use rfl hl) hinst hcode (f := g) rfl hlen hstack hdg
    cases hn.symm.trans hnamed
    exact ⟨vm₁, X.noted hW₁, hstep₁⟩
/-- what the tables say of a method that is called -/
def am_okM (P : am_P) (TAB : List Cond) (z : Nat) : Prop := plainFor (am_nm (am_me P z)) = true ∧ ((am_nm (am_me P z)).cls ≠ "java/lang/invoke/MethodHandle" ∧ (am_nm (am_me P z)).cls ≠ "java/lang/invoke/VarHandle") ∧ Cond.initialized (am_nm (am_me P z)).cls ∈ TAB ∧
  ((am_hd (am_me P z) = [] ∧ Cond.code (am_nm (am_me P z)) (am_cd (am_me P z)) (am_ml (am_me P z)) (am_rt (am_me P z)) ∈ TAB) ∨ Cond.codeWith (am_nm (am_me P z)) (am_cd (am_me P z)) (am_ml (am_me P z)) (am_rt (am_me P z)) ((am_hd (am_me P z)).map (fun q => (q.1, q.2.1, q.2.2.1, q.2.2.2.1))) ∈ TAB)
/-- .. and of a call -/
def am_okK (P : am_P) (TAB : List Cond) (NST : (List (String × Nat × MethodName × String)) × (List (String × String × String)) × (List MethodName) × (List (Nat × Nat))) (cl : List vw_C) : Prop := ∀ (y ix z n k : Nat), am_ca P y ix = some (z, n, k) → am_okM P TAB z ∧
  (Cond.methodLink (am_nm (am_me P y)).cls ix (am_nm (am_me P z)) ∈ TAB ∨ ∃ host, ((am_nm (am_me P y)).cls, ix, am_nm (am_me P z), host) ∈ NST.1) ∧ (parseMethodDescriptor (am_nm (am_me P z)).desc).map (fun d => d.parameters.length) = some n ∧
  (k = 0 → Cond.static (am_nm (am_me P z)) ∈ TAB) ∧
  (k = 1 → Cond.instanceMethod (am_nm (am_me P z)) ∈ TAB ∧ ∃ (C : String) (T : u_T) (N : Nat), cl[am_rc P z]? = some (C, T, N) ∧ Cond.selects C (am_nm (am_me P z)) (am_nm (am_me P z)) ∈ TAB) ∧
  (k = 2 → Cond.instanceMethod (am_nm (am_me P z)) ∈ TAB ∧ (am_nm (am_me P z)).name = "<init>" ∧ Cond.code (am_nm (am_me P z)) (am_cd (am_me P z)) (am_ml (am_me P z)) none ∈ TAB)
/-- the words stay true in a state of warmer tables whose heap has grown and is the same below b -/
theorem am_env.moved (hgood : ∀ w ∈ TAB, (w.onTables && w.keeps) = true ∨ ∃ ty, w = .arrayClass ty) {U : State} {a' : Array Value} (env : am_env P TAB NST AO cl tt D ac b bs s args) (hW : s.WarmedH U.vm) (hz : s.heap.size ≤ U.heap.size) (hk : ∀ q : Nat, q < s.heap.size → ¬ b ≤ q → U.heap[q]? = s.heap[q]?) : am_env P TAB NST AO cl tt D ac b bs U a' := by
  obtain ⟨h1, h2, h3, h4, h5, h6, h7, h8, h9, h10, h11, h12⟩ := env
  refine ⟨fun w hw => word_at hW (hgood w hw) (h1 w hw), fun q hq => va_Nw.warmM hW (h2 q hq), fun C hC => va_AO.moved hW.alike (h3 C hC), va_K.moved hW.alike h4, ?_, Nat.lt_of_lt_of_le h6 hz, h7, Nat.le_trans h8 hz, fun q hq => (h9 q hq).moved hW.alike (fun a ha hl => hk a hl (by omega)), fun x hx => va_Nw.warmD hW (h10 x hx), fun q hq => by rw [hW.alike.assignable]; exact h11 q hq, ?_⟩
  · exact va_X.moved hW.alike (h5.kept (hk bs h6 (by omega)))
  · obtain ⟨c1, t1, g1, g2, g3⟩ := Cond.castable_spec h12
    show (Cond.castable "[I" "java/lang/Cloneable").holds #[] U none U [] = true
    have e1 : U.vm.findClass "[I" = some c1 := by rw [hW.alike.findClass]; exact g1
    have e2 : U.vm.findClass "java/lang/Cloneable" = some t1 := by rw [hW.alike.findClass]; exact g2
    have e3 : U.vm.assignable c1 t1 = true := by rw [hW.alike.assignable]; exact g3
    simp only [Cond.holds, Cond.value, e1, e2, e3]
    rfl
end AY
end
section
section AZ
variable {P : am_P} {TAB : List Cond} {NST : (List (String × Nat × MethodName × String)) × (List (String × String × String)) × (List MethodName) × (List (Nat × Nat))} {cl : List vw_C} {tt : List FieldType} {D : va_G} {ac : Nat → ClassId} {AO : List String} {b bs KC KS y pc pc' len : Nat} {lo lo' : am_L} {st st' : List Value} {h h' : am_H}
variable {p : Program} {l : Launch} {e : Env} {R : Room} {s : State} {m : MethodId} {args : Array Value} {below : List Frame} {meth : Method} {c : Code} {ls : Array Slot} {H : Heap} {locs : List Loc} {cells slots : Nat} {Q : State → Prop}
/-- a method's runs from a point on, as W says it -/
def am_Sim (p : Program) (l : Launch) (e : Env) (P : am_P) (TAB : List Cond) (NST : (List (String × Nat × MethodName × String)) × (List (String × String × String)) × (List MethodName) × (List (Nat × Nat))) (AO : List String) (cl : List vw_C) (tt : List FieldType) (D : va_G) (ac : Nat → ClassId) (b bs : Nat) (y pc : Nat) (lo : am_L) (st : List Value) (h : am_H) (o : am_A) (h' : am_H) : Prop :=
  ∀ (R : Room) (s : State) (m : MethodId) (args : Array Value) (below : List Frame) (meth : Method) (c : Code) (ls : Array Slot) (H : Heap) (locs : List Loc) (cells slots KC KS : Nat), am_env P TAB NST AO cl tt D ac b bs s args → am_at P y s m meth c → am_rf (am_me P y) ≤ R.frames → am_rl (am_me P y) ≤ R.locals → h'.length ≤ KC ∧ am_sl h' ≤ KS →
    am_fr D cl b bs ac (am_ml (am_me P y)) KC KS R s ls H locs cells slots lo h → W p l e R s m args below meth c H locs cells slots (am_Q D cl b bs ac R s below o h') (F0 m pc ls (st.map (am_sv b bs)))
/-- not caught here -/
theorem am_leave {T : State} {q : Addr} {ce : Cell} {E : Nat} {r : vw_C} {rest : List Value} (at_ : am_at P y s m meth c) (hno : am_no P y pc = true) (X : Stand p l e R s m args below meth c T locs cells slots) (hH : T.heap = H) (hf : am_fr D cl b bs ac (am_ml (am_me P y)) KC KS R s ls H locs cells slots lo h)
    (hq : H[q]? = some ce) (hv : ce.vm = .none) (hE : cl[E]? = some r) (hc : s.vm.findClass r.1 = some ce.cls) :
    ∃ t, Steps p.tables e below ((T.setTop (F0 m pc ls rest)).pushFrame (.throwing q)) t ∧ am_Q D cl b bs ac R s below (.inr E) h t := by
  obtain ⟨hb, hml, hr, hlocks, hown, hnm, htab⟩ := at_
  have hout : ∀ x ∈ c.exceptionTable.toList, covers x pc = false := by
    intro x hx
    have h1 : (x.startPc, x.endPc, x.handlerPc, x.catchType) ∈ (am_hd (am_me P y)).map (fun q => (q.1, q.2.1, q.2.2.1, q.2.2.2.1)) := by
      rw [← htab]
      exact List.mem_map.mpr ⟨x, hx, rfl⟩
    obtain ⟨z, hz, he⟩ := List.mem_map.mp h1
    have h2 := List.all_eq_true.mp hno z hz
    injection he with e1 e2
    injection e2 with e2 e3
    simp only [covers]
    rw [← e1, ← e2]
    exact (Bool.not_eq_true' _).mp h2
  obtain ⟨g1, g2, g3, g4, g5⟩ := X.leaveThrown q (g := F0 m pc ls rest) rfl rfl rfl hout hlocks
  obtain ⟨f1, f2, f3, f4, f5, f6, f7⟩ := hf
  have hh : (T.setFrames (.throwing q :: below)).heap = H := hH
  exact ⟨_, g1, g2, by rw [hh]; exact f2, g4, f3.F hh, ⟨locs, g5.mono (by omega) (by omega), f3.2.2⟩, q, ce, r, g3, by rw [hh]; exact hq, hv, hE, hc⟩
set_option maxHeartbeats 4000000 in
/-- a call: into the callee and back -/
theorem am_callW {z : Nat} {as rest : List Value} {l0 : am_L} {oz : am_A} {h1 : am_H} {mk : MethodId} {ig : Instr}
    (hgood : ∀ w ∈ TAB, (w.onTables && w.keeps) = true ∨ ∃ ty, w = .arrayClass ty) (env : am_env P TAB NST AO cl tt D ac b bs s args) (at_ : am_at P y s m meth c) (hrf : am_rf (am_me P y) ≤ R.frames) (hrl : am_rl (am_me P y) ≤ R.locals)
    (okM : am_okM P TAB z) (hn : s.methodNamed? (am_nm (am_me P z)) = some mk) (hd : decode (am_cd (am_me P y)) pc = .ok (ig, 3))
    (hroom : (decide (am_rf (am_me P z) + 1 ≤ am_rf (am_me P y)) && decide (am_wd rest + (am_ml (am_me P z) + 11) + am_rl (am_me P z) ≤ am_rl (am_me P y))) = true)
    (hl0 : am_en0 P z as = some l0) (hz : am_Sim p l e P TAB NST AO cl tt D ac b bs z 0 l0 [] h oz h1) (hle : am_le h h1) (hk1 : h1.length ≤ KC ∧ am_sl h1 ≤ KS)
    (inv : ∀ T : State, T.heap = H → Stand p l e R s m args below meth c T locs cells slots → ∃ vm', Stand p l e R s m args below meth c (T.setVm vm') locs cells slots ∧ ∀ target, (∀ acts, Steps p.tables e below (doInvoke e ((T.setVm vm').setTop (F0 m pc ls (rest.map (am_sv b bs)))) acts mk (as.map (am_sv b bs)).toArray).1 target) → Steps p.tables e below (T.setTop (F0 m pc ls (st.map (am_sv b bs)))) target)
    (hf : am_fr D cl b bs ac (am_ml (am_me P y)) KC KS R s ls H locs cells slots lo h)
    (kret : ∀ v, oz = .inl v → ∀ (H' : Heap) (locs' : List Loc) (cells' slots' : Nat), am_fr D cl b bs ac (am_ml (am_me P y)) KC KS R s ls H' locs' cells' slots' lo h1 → W p l e R s m args below meth c H' locs' cells' slots' Q (F0 m (pc + 3) ls ((v.toList ++ rest).map (am_sv b bs))))
    (kthr : ∀ E, oz = .inr E → ∀ (T' : State) (locs' : List Loc) (cells' slots' : Nat) (q : Addr) (ce : Cell) (r : vw_C), am_fr D cl b bs ac (am_ml (am_me P y)) KC KS R s ls T'.heap locs' cells' slots' lo h1 → Stand p l e R s m args below meth c T' locs' cells' slots' → T'.heap[q]? = some ce → ce.vm = .none → cl[E]? = some r → s.vm.findClass r.1 = some ce.cls → ∃ t, Steps p.tables e below ((T'.setTop (F0 m pc ls (rest.map (am_sv b bs)))).pushFrame (.throwing q)) t ∧ Q t) :
    W p l e R s m args below meth c H locs cells slots Q (F0 m pc ls (st.map (am_sv b bs))) := by
  obtain ⟨m1, m2, m3, m4⟩ := okM
  simp only [Bool.and_eq_true, decide_eq_true_eq] at hroom
  have hcz : ∃ (methk : Method) (ck : Code), s.vm.method? mk = some methk ∧ methk.code = some ck ∧ ck.code = am_cd (am_me P z) ∧ ck.maxLocals = am_ml (am_me P z) ∧ methk.sig.returnType = am_rt (am_me P z) ∧ methk.locks = false ∧ ck.exceptionTable.toList.map (fun q => (q.startPc, q.endPc, q.handlerPc, q.catchType)) = (am_hd (am_me P z)).map (fun q => (q.1, q.2.1, q.2.2.1, q.2.2.2.1)) := by
    rcases m4 with ⟨e0, hw⟩ | hw
    · obtain ⟨methk, ck, a1, a2, a3, a4, a5, a6, a7, -⟩ := Cond.code_spec hn (env.1 _ hw)
      refine ⟨methk, ck, a1, a2, a3, a4, a5, a6, ?_⟩
      rw [e0, Array.isEmpty_iff.mp a7]
      rfl
    · obtain ⟨mk', methk, ck, a0, a1, a2, a3, a4, a5, a6, a7, -⟩ := Cond.codeWith_spec (env.1 _ hw)
      cases hn.symm.trans a0
      exact ⟨methk, ck, a1, a2, a3, a4, a6, a7, a5⟩
  obtain ⟨methk, ck, c1, c2, c3, c4, c5, c6, c7⟩ := hcz
  have hfx := hf
  obtain ⟨f1, f2, f3, f4, f5, f6, f7⟩ := hfx
  obtain ⟨hb, hml, -, hlocks, hown, hnm, htab⟩ := at_
  intro T hT X
  obtain ⟨vm', X1, st1⟩ := inv T hT X
  have hT1 : (T.setVm vm').heap = H := hT
  generalize hTT : T.setVm vm' = T1 at X1 st1 hT1
  have hmk : T1.vm.method? mk = some methk := by rw [X1.warmed.alike.method?]; exact c1
  have hpk : T1.plainMethod mk := State.plainMethod.of_named m1 (X1.named hn) hmk
  obtain ⟨R', hR'⟩ : ∃ R' : Room, R' = { frames := am_rf (am_me P z), cells := h1.length - h.length, slots := am_sl h1 - am_sl h, locals := am_rl (am_me P z) } := ⟨_, rfl⟩
  have r1 : R'.frames = am_rf (am_me P z) := by rw [hR']
  have r2 : R'.cells = h1.length - h.length := by rw [hR']
  have r3 : R'.slots = am_sl h1 - am_sl h := by rw [hR']
  have r4 : R'.locals = am_rl (am_me P z) := by rw [hR']
  clear hR'
  have hlen : (am_en as).length ≤ am_ml (am_me P z) ∧ l0 = am_en as ++ List.replicate (am_ml (am_me P z) - (am_en as).length) none := by
    unfold am_en0 at hl0
    split at hl0
    · cases hl0
      exact ⟨by assumption, rfl⟩
    · cases hl0
  have hs1 : T1.heap.size = b + h.length := by rw [hT1]; exact f2.2
  have henv : am_env P TAB NST AO cl tt D ac b bs (T1.calling (F0 m pc ls (rest.map (am_sv b bs))) mk (as.map (am_sv b bs)).toArray) (as.map (am_sv b bs)).toArray := by
    refine env.moved hgood (U := T1.calling (F0 m pc ls (rest.map (am_sv b bs))) mk (as.map (am_sv b bs)).toArray) X1.warmed ?_ ?_
    · show s.heap.size ≤ T1.heap.size
      rw [hT1]; exact f3.1
    · intro q hq hq2
      show T1.heap[q]? = _
      rw [hT1]; exact f3.2.1 q hq hq2
  have hWz : W p l e R' (T1.calling (F0 m pc ls (rest.map (am_sv b bs))) mk (as.map (am_sv b bs)).toArray) mk (as.map (am_sv b bs)).toArray (.java (F0 m pc ls (rest.map (am_sv b bs))) :: below) methk ck T1.heap [] 0 0 (am_Q D cl b bs ac R' (T1.calling (F0 m pc ls (rest.map (am_sv b bs))) mk (as.map (am_sv b bs)).toArray) (.java (F0 m pc ls (rest.map (am_sv b bs))) :: below) oz h1) (entryFrame mk (as.map (am_sv b bs)).toArray ck.maxLocals) := by
    rw [c4, lg_entry_eq]
    refine hz R' _ mk _ _ methk ck _ T1.heap [] 0 0 h1.length (am_sl h1) henv ⟨c3, c4, c5, c6, ?_, ?_, c7⟩ (by omega) (by omega) ⟨Nat.le_refl _, Nat.le_refl _⟩ ⟨?_, ⟨by rw [hT1]; exact f2.1, hs1⟩, va_S.rf, by rfl, ⟨hle.1, by omega⟩, ⟨hle.2, by omega⟩, by omega⟩
    · show T1.vm.findClass _ = _
      exact findClass_of_methodNamed (X1.named hn)
    · exact (name_of_methodNamed hn c1).1
    · rw [hlen.2]
      exact am_entry as hlen.1
  have hsz : (F0 m pc ls (rest.map (am_sv b bs))).locals.size = c.maxLocals := by rw [hml]; exact f1.1
  obtain ⟨T', L, X', hHR, hL, ⟨hk1', hk2'⟩, hcase⟩ := am_into (R' := R') X1 rfl hsz (by rw [hb]; exact hd) hmk c2 c6 hpk (by omega) (by
      show 2 * 0 + ((rest.map (am_sv b bs)).map fun v => v.category).sum + (ck.maxLocals + 11) + R'.locals ≤ R.locals
      rw [am_wd_sv]; omega) (by omega) (by omega) hWz
  have hf' : am_fr D cl b bs ac (am_ml (am_me P y)) KC KS R s ls T'.heap (locs ++ L) (cells + R'.cells) (slots + R'.slots) lo h1 := by
    have hz2 := hHR.2
    have f22 := f2.2
    have hle1 := hle.1
    have hle2 := hle.2
    rw [hT1] at hk1' hk2'
    refine ⟨f1, hHR, ⟨Nat.le_trans f3.1 hk1', fun q g1 g2 => (hk2' q (Nat.lt_of_lt_of_le g1 f3.1) g2).trans (f3.2.1 q g1 g2), fun q hq => ?_⟩, by omega, ⟨hk1.1, by omega⟩, ⟨hk1.2, by omega⟩, f7⟩
    rcases List.mem_append.mp hq with g | g
    · exact f3.2.2 q g
    · exact hL q g
  cases oz with
  | inl v =>
    obtain ⟨t, g1, g2⟩ := kret v rfl T'.heap _ _ _ hf' T' rfl X'
    refine ⟨t, st1 t (fun acts => hcase t ?_ acts), g2⟩
    have e1 : (v.toList ++ rest).map (am_sv b bs) = (v.map (am_sv b bs)).toList ++ rest.map (am_sv b bs) := by cases v <;> rfl
    rw [e1] at g1
    exact g1
  | inr E =>
    obtain ⟨q, ce, r, d1, d2, d3, d4, d5⟩ := hcase
    obtain ⟨t, g1, g2⟩ := kthr E rfl T' _ _ _ q ce r hf' X' d1 d2 d3 d4
    exact ⟨t, st1 t (fun acts => d5 t g1 acts), g2⟩
/-- an exception is made and thrown -/
def am_okX (p : Program) (l : Launch) (e : Env) (P : am_P) (TAB : List Cond) (NST : (List (String × Nat × MethodName × String)) × (List (String × String × String)) × (List MethodName) × (List (Nat × Nat))) (AO : List String) (cl : List vw_C) (tt : List FieldType) (D : va_G) (ac : Nat → ClassId) (b bs : Nat) : Prop :=
  ∀ (y pc : Nat) (lo : am_L) (st : List Value) (h : am_H) (ix ic E : Nat), decode (am_cd (am_me P y)) pc = .ok (.new ix, 3) → am_nw P y ix = none → am_xn P y ix ic = some E → decode (am_cd (am_me P y)) (pc + 3) = .ok (.dup, 1) → decode (am_cd (am_me P y)) (pc + 4) = .ok (.invokespecial ic, 3) → decode (am_cd (am_me P y)) (pc + 7) = .ok (.athrow, 1) → 5 < am_rf (am_me P y) ∧ am_wd st + 82 ≤ am_rl (am_me P y) → am_no P y (pc + 7) = true →
    ∀ (R : Room) (s : State) (m : MethodId) (args : Array Value) (below : List Frame) (meth : Method) (c : Code) (ls : Array Slot) (H : Heap) (locs : List Loc) (cells slots KC KS : Nat), am_env P TAB NST AO cl tt D ac b bs s args → am_at P y s m meth c → am_rf (am_me P y) ≤ R.frames → am_rl (am_me P y) ≤ R.locals → (h ++ [am_B E []]).length ≤ KC ∧ am_sl (h ++ [am_B E []]) ≤ KS →
      am_fr D cl b bs ac (am_ml (am_me P y)) KC KS R s ls H locs cells slots lo h → W p l e R s m args below meth c H locs cells slots (am_Q D cl b bs ac R s below (.inr E) (h ++ [am_B E []])) (F0 m pc ls (st.map (am_sv b bs)))
/-- an exception is caught -/
def am_okH (p : Program) (l : Launch) (e : Env) (P : am_P) (TAB : List Cond) (NST : (List (String × Nat × MethodName × String)) × (List (String × String × String)) × (List MethodName) × (List (Nat × Nat))) (AO : List String) (cl : List vw_C) (tt : List FieldType) (D : va_G) (ac : Nat → ClassId) (b bs : Nat) : Prop :=
  ∀ (y pc E pc2 kx : Nat) (lo : am_L) (h1 : am_H), am_fh P y pc E = some (pc2, kx) → (kx < lo.length ∧ am_pv lo kx = true) →
    ∀ (R : Room) (s : State) (m : MethodId) (args : Array Value) (below : List Frame) (meth : Method) (c : Code) (ls : Array Slot) (T : State) (locs : List Loc) (cells slots KC KS : Nat) (rest : List Value), am_env P TAB NST AO cl tt D ac b bs s args → am_at P y s m meth c →
      am_fr D cl b bs ac (am_ml (am_me P y)) KC KS R s ls T.heap locs cells slots lo h1 → Stand p l e R s m args below meth c T locs cells slots → ∀ (q : Addr) (ce : Cell) (r : vw_C), T.heap[q]? = some ce → ce.vm = .none → cl[E]? = some r → s.vm.findClass r.1 = some ce.cls →
      ∀ Q : State → Prop, (∀ ls' : Array Slot, am_fr D cl b bs ac (am_ml (am_me P y)) KC KS R s ls' T.heap locs cells slots (lo.set kx none) h1 → W p l e R s m args below meth c T.heap locs cells slots Q (F0 m pc2 ls' (([] : List Value).map (am_sv b bs)))) →
      ∃ t, Steps p.tables e below ((T.setTop (F0 m pc ls rest)).pushFrame (.throwing q)) t ∧ Q t
end AZ
end
section
section BA
variable {P : am_P} {TAB : List Cond} {NST : (List (String × Nat × MethodName × String)) × (List (String × String × String)) × (List MethodName) × (List (Nat × Nat))} {cl : List vw_C} {tt : List FieldType} {D : va_G} {ac : Nat → ClassId} {AO : List String} {b bs KC KS y pc pc' len : Nat} {lo lo' : am_L} {st st' : List Value} {h h' : am_H}
variable {p : Program} {l : Launch} {e : Env} {R : Room} {s : State} {m : MethodId} {args : Array Value} {below : List Frame} {meth : Method} {c : Code} {ls : Array Slot} {H : Heap} {locs : List Loc} {cells slots : Nat} {Q : State → Prop}
set_option maxHeartbeats 4000000 in
theorem am_sim (hexec : p.tables.exec = Jvm.exec) (hgood : ∀ w ∈ TAB, (w.onTables && w.keeps) = true ∨ ∃ ty, w = .arrayClass ty) (ok : am_OK P TAB AO cl tt) (okK : am_okK P TAB NST cl)
    (okX : am_okX p l e P TAB NST AO cl tt D ac b bs) (okH : am_okH p l e P TAB NST AO cl tt D ac b bs) :
    ∀ (n y pc : Nat) (lo : am_L) (st : List Value) (h : am_H) (o : am_A) (h' : am_H), am_run P n y pc lo st h = some (o, h') → am_Sim p l e P TAB NST AO cl tt D ac b bs y pc lo st h o h' := by
  intro n
  induction n with
  | zero => intro y pc lo st h o h' hx; cases hx
  | succ n ih =>
    intro y pc lo st h o h' hx R s m args below meth c ls H locs cells slots KC KS env at_ hrf hrl hkk hf
    unfold am_run at hx
    cases hst : am_st P y pc lo st h with
    | none => rw [hst] at hx; cases hx
    | some out =>
      rw [hst] at hx
      unfold am_st at hst
      split at hst
      · rename_i i len hd
        obtain ⟨hl, hex⟩ := am_if_inv hst
        rcases out with ⟨pc1, lo1, st1, h1⟩ | ⟨z, as, rest⟩ | v | E
        · have hle := am_run_le P n y pc1 lo1 st1 h1 o h' hx
          exact am_next hexec ok env at_ hrf hrl hd hl hex ⟨Nat.le_trans hle.1 hkk.1, Nat.le_trans hle.2 hkk.2⟩ hf (fun ls' H' locs' cells' slots' hf' => ih y pc1 lo1 st1 h1 o h' hx R s m args below meth c ls' H' locs' cells' slots' KC KS env at_ hrf hrl hkk hf')
        · dsimp only at hx
          cases hl0 : am_en0 P z as with
          | none => rw [hl0] at hx; cases hx
          | some l0 =>
            rw [hl0] at hx
            dsimp only at hx
            cases hr : am_run P n z 0 l0 [] h with
            | none => rw [hr] at hx; cases hx
            | some res =>
              obtain ⟨oz, h1⟩ := res
              rw [hr] at hx
              have hle1 := am_run_le P n z 0 l0 [] h oz h1 hr
              have hz := ih z 0 l0 [] h oz h1 hr
              obtain ⟨ix, k, kd, hca, hk, hroom, hkind⟩ := am_ex_cv P y pc i lo st h _ hex z as rest rfl
              obtain ⟨okM, hlk, hpar, k0, k1, k2⟩ := okK y ix z k kd hca
              have hlk' : am_lk (am_nm (am_me P y)).cls ix (am_nm (am_me P z)) args s := by
                rcases hlk with hw | ⟨host, hw⟩
                · exact Or.inl (env.1 _ hw)
                · exact Or.inr ⟨host, env.2.1 _ hw⟩
              have hle2 : am_le h1 h' := by
                cases oz with
                | inl v => exact am_run_le P n y _ _ _ h1 o h' hx
                | inr E =>
                  dsimp only at hx
                  split at hx
                  · cases hx
                    exact am_le.rf _
                  · split at hx
                    · split at hx
                      · exact am_run_le P n y _ _ _ h1 o h' hx
                      · cases hx
                    · cases hx
              have hnamed : ∃ mk, s.methodNamed? (am_nm (am_me P z)) = some mk := by
                rcases okM.2.2.2 with ⟨-, hw⟩ | hw
                · exact Cond.code_named (env.1 _ hw)
                · obtain ⟨mk, -, -, a0, -⟩ := Cond.codeWith_spec (env.1 _ hw)
                  exact ⟨mk, a0⟩
              obtain ⟨mk, hn⟩ := hnamed
              have hcz : ∃ methk : Method, s.vm.method? mk = some methk ∧ parseMethodDescriptor (am_nm (am_me P z)).desc = some methk.sig := by
                rcases okM.2.2.2 with ⟨-, hw⟩ | hw
                · obtain ⟨methk, ck, a1, -, -, -, -, -, -, a2⟩ := Cond.code_spec hn (env.1 _ hw)
                  exact ⟨methk, a1, a2⟩
                · obtain ⟨mk', methk, ck, a0, a1, -, -, -, -, -, -, a2⟩ := Cond.codeWith_spec (env.1 _ hw)
                  cases hn.symm.trans a0
                  exact ⟨methk, a1, a2⟩
              obtain ⟨methk, hmk, hsig⟩ := hcz
              have hpl : k = methk.sig.parameters.length := by
                rw [hsig] at hpar
                exact (Option.some.inj hpar).symm
              have hlen3 : len = 3 := by
                rcases hkind with ⟨-, rfl, -⟩ | ⟨-, rfl, -⟩ | ⟨-, rfl, -⟩ <;> simpa [am_ln] using hl
              subst hlen3
              have htk : ((st.take k).reverse).length = methk.sig.parameters.length := by
                rw [List.length_reverse, List.length_take, ← hpl]; omega
              have hb := at_.1
              have hd' : decode c.code pc = .ok (i, 3) := by rw [hb]; exact hd
              refine am_callW hgood env at_ hrf hrl okM hn hd hroom hl0 hz hle1 ⟨Nat.le_trans hle2.1 hkk.1, Nat.le_trans hle2.2 hkk.2⟩ ?_ hf ?_ ?_
              · intro T hT X
                have hsp : st = st.take k ++ st.drop k := (List.take_append_drop k st).symm
                rcases hkind with ⟨rfl, rfl, rfl, rfl⟩ | ⟨rfl, rfl, a, fs, rfl, hdr, ha⟩ | ⟨rfl, rfl, a, rfl, hdr⟩
                · have e1 : st.map (am_sv b bs) = ((st.take k).reverse.map (am_sv b bs)).reverse ++ (st.drop k).map (am_sv b bs) := by
                    rw [← List.map_reverse, List.reverse_reverse, ← List.map_append, List.take_append_drop]
                  exact am_invS X hexec at_.2.2.2.2.1 hlk' (env.1 _ (k0 rfl)) (env.1 _ okM.2.2.1) okM.2.1 hn hmk (g := F0 m pc ls (st.map (am_sv b bs))) rfl (by rw [List.length_map]; exact htk) e1 hd'
                · obtain ⟨w1, C, T0, N, w2, w3⟩ := k1 rfl
                  have e1 : st.map (am_sv b bs) = ((st.take k).reverse.map (am_sv b bs)).reverse ++ .ref (b + a) :: rest.map (am_sv b bs) := by
                    rw [← List.map_reverse, List.reverse_reverse]
                    have e2 : (Value.ref a :: rest).map (am_sv b bs) = .ref (b + a) :: rest.map (am_sv b bs) := by simp [am_sv, hf.ad ha]
                    rw [← e2, ← hdr, ← List.map_append, List.take_append_drop]
                  obtain ⟨cellB, g1, g2, g3⟩ := va_recv env.2.2.2.1 hf.2.1.1 w2 (am_ws_get ha)
                  have e3 : (Value.ref a :: (st.take k).reverse).map (am_sv b bs) = .ref (b + a) :: (st.take k).reverse.map (am_sv b bs) := by simp [am_sv, hf.ad ha]
                  rw [e3]
                  exact am_invV X hexec at_.2.2.2.2.1 hlk' (env.1 _ w1) (env.1 _ w3) okM.2.1 hn hmk (by rw [hT]; exact g1) g2 g3 (g := F0 m pc ls (st.map (am_sv b bs))) rfl (by rw [List.length_map]; exact htk) e1 hd'
                · obtain ⟨w1, w2, w3⟩ := k2 rfl
                  have e1 : st.map (am_sv b bs) = ((st.take k).reverse.map (am_sv b bs)).reverse ++ .ref (am_ad b bs a) :: rest.map (am_sv b bs) := by
                    rw [← List.map_reverse, List.reverse_reverse]
                    have e2 : (Value.ref a :: rest).map (am_sv b bs) = .ref (am_ad b bs a) :: rest.map (am_sv b bs) := rfl
                    rw [← e2, ← hdr, ← List.map_append, List.take_append_drop]
                  exact am_invI X hexec at_.2.2.2.2.1 hlk' (env.1 _ w1) (env.1 _ w3) w2 okM.2.1 hn (q := am_ad b bs a) (g := F0 m pc ls (st.map (am_sv b bs))) rfl (fun sig hs => by rw [List.length_map]; rw [hsig] at hs; cases hs; exact htk) e1 hd'
              · intro v hv H' locs' cells' slots' hf'
                subst hv
                exact ih y (pc + 3) lo (v.toList ++ rest) h1 o h' hx R s m args below meth c ls H' locs' cells' slots' KC KS env at_ hrf hrl hkk hf'
              · intro E hE T' locs' cells' slots' q ce r hf' X' d1 d2 d3 d4
                subst hE
                dsimp only at hx
                split at hx
                · rename_i hno
                  cases hx
                  exact am_leave at_ hno X' rfl hf' d1 d2 d3 d4
                · split at hx
                  · rename_i pc2 kx hfh
                    split at hx
                    · rename_i hkx
                      exact okH y pc E pc2 kx lo h1 hfh hkx R s m args below meth c ls T' locs' cells' slots' KC KS (rest.map (am_sv b bs)) env at_ hf' X' q ce r d1 d2 d3 d4 _ (fun ls' hf2 => ih y pc2 (lo.set kx none) [] h1 o h' hx R s m args below meth c ls' T'.heap locs' cells' slots' KC KS env at_ hrf hrl hkk hf2)
                    · cases hx
                  · cases hx
        · cases hx
          have hb := at_.1
          have hr := at_.2.2.1
          have hlocks := at_.2.2.2.1
          rcases (am_ex_ev P y pc i lo st h _ hex).1 v rfl with rfl | rfl | rfl
          · obtain rfl : len = 1 := by simpa [am_ln] using hl
            exact am_e_ireturn hexec hb hr hlocks hd hex hf
          · obtain rfl : len = 1 := by simpa [am_ln] using hl
            exact am_e_areturn hexec hb hr hlocks hd hex hf
          · obtain rfl : len = 1 := by simpa [am_ln] using hl
            exact am_e_return hexec hb hr hlocks hd hex hf
        · dsimp only at hx
          split at hx
          · rename_i hno
            cases hx
            obtain ⟨ix, ic, rfl, e1, e2, e3, e4, e5, e6⟩ := (am_ex_ev P y pc i lo st h _ hex).2 E rfl
            obtain rfl : len = 3 := by simpa [am_ln] using hl
            exact okX y pc lo st h ix ic E hd e1 e2 e3 e4 e5 e6 hno R s m args below meth c ls H locs cells slots KC KS env at_ hrf hrl hkk hf
          · cases hx
      · cases hst
end BA
end
section
/-! A new exception is made and thrown, and leaves the method. -/
section BB
variable {P : am_P} {TAB : List Cond} {NST : (List (String × Nat × MethodName × String)) × (List (String × String × String)) × (List MethodName) × (List (Nat × Nat))} {cl : List vw_C} {tt : List FieldType} {D : va_G} {ac : Nat → ClassId} {AO : List String} {b bs KC KS y pc pc' len : Nat} {lo lo' : am_L} {st st' : List Value} {h h' : am_H}
variable {p : Program} {l : Launch} {e : Env} {R : Room} {s : State} {m : MethodId} {args : Array Value} {below : List Frame} {meth : Method} {c : Code} {ls : Array Slot} {H : Heap} {locs : List Loc} {cells slots : Nat} {Q : State → Prop}
/-- the invocation, seen as if it began in the heap of this moment -/
theorem am_now {T s' : State} (X : Stand p l e R s m args below meth c T locs cells slots) {R' : Room} (hs' : s' = (T.setVm s.vm).setFrames (.invoking m args :: below)) (hf : R'.frames ≤ R.frames) (hl : R'.locals ≤ R.locals) (hc : cells + R'.cells ≤ R.cells) (hs : slots + R'.slots ≤ R.slots) :
    Stand p l e R' s' m args below meth c T [] 0 0 := by
  obtain ⟨g0, hfr0⟩ := X.frames_eq
  have hfr1 : (T.setVm s.vm).frames = .java g0 :: below := hfr0
  have hcur : (T.setVm s.vm).cur < (T.setVm s.vm).threads.size := State.cur_lt_of_frames hfr1
  have hF : s'.frames = .invoking m args :: below := by rw [hs']; exact State.frames_setFrames _ hcur
  have hvm : s'.vm = s.vm := by rw [hs']; rfl
  have hme : e.platform.stackLimits s'.me = e.platform.stackLimits s.me ∧ s'.me.stackBytes = s.me.stackBytes := by
    rw [hs', State.stackLimits_setFrames, State.stackBytes_setFrames]
    exact ⟨X.limits, X.bytes⟩
  have hmeth : s'.vm.method? m = some meth := by rw [hvm]; exact X.method
  have hroom : s'.hasRoom e.platform R' = true := by
    have h1 := X.room
    have hu : s'.localsInUse = s.localsInUse := by rw [State.localsInUse_invoking hF hmeth X.code, State.localsInUse_invoking X.frames X.method X.code]
    have e1 : s'.heap.size = T.heap.size := by rw [hs']; rfl
    have e2 : s'.slotsUsed = T.slotsUsed := by rw [hs']; rfl
    have e3 : s'.slotsTrue = true := by rw [hs']; exact X.book
    have q1 := X.heapSize
    have q2 := X.used
    simp only [State.hasRoom, Bool.and_eq_true, decide_eq_true_eq, X.frames, List.length_cons] at h1
    simp only [State.hasRoom, Bool.and_eq_true, decide_eq_true_eq, hF, hu, hme.1, hme.2, e1, e2, e3, List.length_cons]
    obtain ⟨⟨⟨⟨a1, a2, a3, a4, a5, a6⟩, a7⟩, a8⟩, -⟩ := h1
    exact ⟨⟨⟨⟨by omega, by omega, by omega, by omega, by omega, a6⟩, by omega⟩, by omega⟩, trivial⟩
  have hsame : s'.sameButNew (T.setVm s'.vm) [] 0 0 := by
    obtain ⟨t, ht, -⟩ := State.frames_cons hfr1
    rw [hvm]
    subst hs'
    have e4 : (T.heap.toList.drop T.heap.size) = [] := List.drop_eq_nil_of_le (Nat.le_of_eq Array.length_toList)
    refine ⟨?_, Nat.le_refl _, Nat.le_refl _, ?_, ?_, fun a c9 h9 => ⟨c9, h9, rfl, rfl, fun _ _ => rfl⟩⟩
    · show T.setVm s.vm = { ((T.setVm s.vm).setFrames (.invoking m args :: below)).setFrames (T.setVm s.vm).frames with heap := T.heap, slotsUsed := T.slotsUsed }
      rw [State.setFrames_setFrames, State.setFrames_self ht]
      rfl
    · show T.slotsUsed = T.slotsUsed + ((T.heap.toList.drop T.heap.size).map (·.slots.size)).sum
      rw [e4]
      rfl
    · show ((T.heap.toList.drop T.heap.size).map (·.slots.size)).sum ≤ 0
      rw [e4]
      exact Nat.le_refl _
  exact ⟨X.admits, X.cas, X.clock, hF, hroom, by rw [hs']; exact X.hears, hmeth, X.code, X.here, X.tail, by rw [hs']; exact X.warmed, X.limits.trans hme.1.symm, X.bytes.trans hme.2.symm, hsame⟩
end BB
section BC
variable {P : am_P} {TAB : List Cond} {NST : (List (String × Nat × MethodName × String)) × (List (String × String × String)) × (List MethodName) × (List (Nat × Nat))} {cl : List vw_C} {tt : List FieldType} {D : va_G} {ac : Nat → ClassId} {AO : List String} {b bs KC KS y pc pc' len : Nat} {lo lo' : am_L} {st st' : List Value} {h h' : am_H}
variable {p : Program} {l : Launch} {e : Env} {R : Room} {s : State} {m : MethodId} {args : Array Value} {below : List Frame} {meth : Method} {c : Code} {ls : Array Slot} {H : Heap} {locs : List Loc} {cells slots : Nat} {Q : State → Prop}
def am_xs : List String := ["java/lang/RuntimeException", "java/lang/Exception"]
/-- what the tables say of the exceptions that are made -/
def am_okY (P : am_P) (TAB : List Cond) (NST : (List (String × Nat × MethodName × String)) × (List (String × String × String)) × (List MethodName) × (List (Nat × Nat))) (cl : List vw_C) : Prop := ∀ (y ix ic E : Nat), am_xn P y ix ic = some E → ∃ (X : String) (T : u_T), cl[E]? = some (X, T, 0) ∧ Bundle.fit X = true ∧ Cond.classLink (am_nm (am_me P y)).cls ix X ∈ TAB ∧ Cond.initialized X ∈ TAB ∧
  ∀ w ∈ Bundle.ownAtoms0 (am_nm (am_me P y)).cls ic X am_xs, w ∈ TAB ∨ w = .castable X X ∨ (∃ x ∈ NST.2.2.1, w = .declares x) ∨ ∃ q ∈ NST.2.1, w = .laysStatic q.1 q.2.1 q.2.2 ∨ w = .isRef (.static q.1 q.2.1 q.2.2)
theorem am_selfcast {C : String} {k : ClassId} (hc : ClassAt s C k) : (Cond.castable C C).before args s = true := by
  show (Cond.castable C C).holds args s none s [] = true
  have h1 := va_assign hc
  have h2 : s.vm.findClass C = some k := hc.1
  simp only [Cond.holds, Cond.value, h2, h1]
  rfl
set_option maxHeartbeats 4000000 in
theorem am_throw (hexec : p.tables.exec = Jvm.exec) (hl : l.stackTraces = false) (hgood : ∀ w ∈ TAB, (w.onTables && w.keeps) = true ∨ ∃ ty, w = .arrayClass ty) (okY : am_okY P TAB NST cl) : am_okX p l e P TAB NST AO cl tt D ac b bs := by
  intro y pc lo st h ix ic E hd e1 e2 hd3 hd4 hd7 hr hno R s m args below meth c ls H locs cells slots KC KS env at_ hrf hrl hkk hf
  obtain ⟨X0, T0, y1, y2, y3, y4, y5⟩ := okY y ix ic E e2
  obtain ⟨hb, hml, -, hlocks, hown, hnm, htab⟩ := at_
  have hout : ∀ x ∈ c.exceptionTable.toList, covers x (pc + 7) = false := by
    intro x hx
    have h1 : (x.startPc, x.endPc, x.handlerPc, x.catchType) ∈ (am_hd (am_me P y)).map (fun q => (q.1, q.2.1, q.2.2.1, q.2.2.2.1)) := by
      rw [← htab]
      exact List.mem_map.mpr ⟨x, hx, rfl⟩
    obtain ⟨z, hz, he⟩ := List.mem_map.mp h1
    have h2 := List.all_eq_true.mp hno z hz
    injection he with e1 e2
    injection e2 with e2 e3
    simp only [covers]
    rw [← e1, ← e2]
    exact (Bool.not_eq_true' _).mp h2
  have hfx := hf
  obtain ⟨f1, f2, f3, f4, f5, f6, f7⟩ := hfx
  obtain ⟨rc1, rc2⟩ := hf.room (z := am_B E []) (k := 6) rfl hkk
  intro T hT X
  have htr : e.platform.stackTraces = false := (show e.platform.stackTraces = l.stackTraces by rw [X.admits.platform]).trans hl
  obtain ⟨s', hs'⟩ : ∃ z, z = (T.setVm s.vm).setFrames (.invoking m args :: below) := ⟨_, rfl⟩
  have Y := am_now X (R' := { frames := R.frames, locals := R.locals, cells := 1, slots := 6 }) hs' (Nat.le_refl _) (Nat.le_refl _) rc1 rc2
  have hvm : s'.vm = s.vm := by rw [hs']; rfl
  have hhp : s'.heap = H := by rw [hs']; exact hT
  have hW0 : s.WarmedH s'.vm := by rw [hvm]; exact State.WarmedH.refl s
  have env' : am_env P TAB NST AO cl tt D ac b bs s' args := env.moved hgood hW0 (by rw [hhp]; exact f3.1) (fun q g1 g2 => by rw [hhp]; exact f3.2.1 q g1 g2)
  obtain ⟨w1, -, -, wK, -, -, -, wb, wS, wD, -⟩ := env'
  have hcA : ClassAt s' X0 (D.1 E) := (wK.1 E _ y1).2
  have hat : ∀ w ∈ Bundle.ownAtoms0 (am_nm (am_me P y)).cls ic X0 am_xs, w.before args s' = true := by
    intro w hw
    rcases y5 w hw with g | g | ⟨x, gx, g⟩ | ⟨q, gq, g⟩
    · exact w1 w g
    · rw [g]; exact am_selfcast hcA
    · rw [g]; exact va_Nw.use rfl (wD x gx)
    · have hz := (wS q gq).words (args := args)
      rcases g with g | g
      · rw [g]; exact hz.1
      · rw [g]; exact hz.2
  have hown' : s'.vm.findClass (am_nm (am_me P y)).cls = some m.cls := by rw [hvm]; exact hown
  have hins : (Cond.instantiable X0 6).before args s' = true := hat _ (by simp [Bundle.ownAtoms0])
  obtain ⟨vm1, cX, kX, hfX, hkX, -, -, X1, st1⟩ := Y.newCold hexec (own := (am_nm (am_me P y)).cls) (C := X0) (index := ix) (n := 6) hown' (w1 _ y3) hins (w1 _ y4)
    (g := F0 m pc ls (st.map (am_sv b bs))) rfl (by rw [hb]; exact hd) (Nat.le_refl _) (Nat.le_refl _)
  generalize hT1 : (T.setVm vm1).pushCell { cls := cX, slots := kX.instanceTypes.map defaultValue, vm := .none } = T1 at X1 st1
  have hcellA : T1.heap[T.heap.size]? = some (freshCell cX kX) := by rw [← hT1]; exact State.heap_pushCell_size _ _
  have hd3' : decode c.code (pc + 3) = .ok (.dup, 1) := by rw [hb]; exact hd3
  obtain ⟨U, hsteps, hrun, hend, hW, hsame, ce, hce, hO⟩ := X1.ctorThrow0 hexec htr (own := (am_nm (am_me P y)).cls) (cls := X0) (names := am_xs) (ic := ic) hown' y2 (by decide) hat (fun x hx => nomatch hx) hfX hkX hcellA (by rw [hhp, hT]; exact Nat.le_refl _)
    (g := { method := m, pc := pc + 4, locals := ls, stack := .ref T.heap.size :: .ref T.heap.size :: st.map (am_sv b bs), locked := none }) rfl (by rw [hml]; exact f1.1) rfl rfl (rest := st.map (am_sv b bs)) rfl
    (by rw [hb]; exact hd4) (by rw [hb]; exact hd7) hout (by show 2 + 3 < R.frames; omega) (by
      have e9 := am_wd_sv b bs st
      show 2 * 0 + (1 + ((st.map (am_sv b bs)).map fun v => v.category).sum) + (13 * (2 + 1) + 41) ≤ R.locals
      omega) hlocks
  have hsz : U.heap.size ≤ H.size + 1 := by
    have := hsame.2.2.1
    rw [hhp] at this
    exact this
  have hold : ∀ q : Nat, q < H.size → U.heap[q]? = H[q]? := by
    intro q hq
    have hq' : s'.heap[q]? = some (H[q]) := by rw [hhp]; exact Array.getElem?_eq_getElem hq
    obtain ⟨c9, g1, g2, g3, g4⟩ := hsame.2.2.2.2.2 q _ hq'
    have g5 : c9.slots = (H[q]).slots := Array.ext_getElem? fun i => g4 i (fun hm => nomatch hm)
    have g6 : c9 = H[q] := by rw [g5] at g2; exact g2
    have g7 : U.heap[q]? = some c9 := g1
    rw [g7, g6, Array.getElem?_eq_getElem hq]
  have hTs : T.heap.size = b + h.length := by rw [hT]; exact f2.2
  have hce' : U.heap[b + h.length]? = some ce := by rw [← hTs]; exact hce
  have hUs : U.heap.size = b + h.length + 1 := by
    have g1 := (Array.getElem?_eq_some_iff.mp hce').1
    have g2 := f2.2
    omega
  have hceC : ce.cls = D.1 E := by
    have g1 := hO.cls
    exact Option.some.inj (g1.symm.trans hcA.1)
  have hHR : am_HR D cl b bs ac (h ++ [am_B E []]) U.heap := by
    refine ⟨?_, by rw [hUs]; simp; omega⟩
    rw [← am_ws_push]
    refine (f2.1.kept fun k x hx => hold x.1 ((f2.1 k x hx).lt)).app fun k x hx => ?_
    have hz : k < 1 := (List.getElem?_eq_some_iff.mp hx).1
    rw [show k = 0 by omega] at hx
    cases hx
    exact ⟨_, y1, ce, hce', hceC, hO.vm, fun k hk => absurd hk (Nat.not_lt_zero k)⟩
  have hall : s.sameButNew ({ U with vm := s.vm } : State) locs R.cells R.slots := by
    subst hs'
    obtain ⟨e8, e9⟩ := hsame
    rw [State.setFrames_setFrames] at e8
    have h2 : (T.setVm s.vm).sameButNew ({ U with vm := s.vm } : State) [] (0 + 1) (0 + 6) := ⟨e8, e9⟩
    have h3 := X.same.trans h2
    rw [List.append_nil] at h3
    exact h3.mono (by omega) (by omega)
  have hWs : s.WarmedH U.vm := State.WarmedH.trans hW0 hW
  refine ⟨U, ?_, hrun, hHR, hWs, ⟨by rw [hUs]; have := f3.1; have := f2.2; omega, fun q g1 g2 => (hold q (Nat.lt_of_lt_of_le g1 f3.1)).trans (f3.2.1 q g1 g2)⟩, ⟨locs, hall, f3.2.2⟩, T.heap.size, ce, (X0, T0, 0), hend, hce, hO.vm, y1, by
    have g1 := hO.cls
    rw [hvm] at g1
    exact g1⟩
  refine st1 _ ?_
  show Steps p.tables e below (T1.setTop { method := m, pc := pc + 3, locals := ls, stack := .ref T.heap.size :: st.map (am_sv b bs), locked := none }) _
  jvm_step X1.here [X1.here.top, hexec, hd3', Value.category]
  exact hsteps
end BC
end
section
/-! An exception that a callee threw is caught: the search resolves the classes that the rows name. -/
section BD
/-- a row that covers the place: its class is looked up (and noted), and it takes the object or the search goes on -/
theorem am_row {Q : Handler → Pre} {E : CtlPost} {e : Env} {d : Bool} {acts : List Action} {S : State} {f : JFrame} {q : Addr} {x : ExceptionTableEntry} {t : List ExceptionTableEntry} {k : ClassId} {ce : Cell} (hx : covers x f.pc = true) (h0 : x.catchType ≠ 0)
    (hl : S.vm.ClassLinks e.platform f.method.cls x.catchType k) (hq : S.heap[q]? = some ce) (ho : ∀ z, ce.vm ≠ .statics z) (h1 : ∃ z, S.vm.classes[ce.cls]? = some z) (h2 : ∃ z, S.vm.classes[k]? = some z) :
    wp (findHandler.go f q (x :: t)) Q E e d acts S ↔ (if S.vm.assignable ce.cls k = true then Q (.found x.handlerPc) d acts (S.setVm (S.vm.noted f.method.cls x.catchType (.cls k))) else wp (findHandler.go f q t) Q E e d acts (S.setVm (S.vm.noted f.method.cls x.catchType (.cls k)))) := by
  simp only [covers] at hx
  obtain ⟨ha, ht⟩ := (resolveClass_links e.toSetting hl).op (op := VmOp.resolveClass f.method.cls x.catchType) rfl
  have hal : S.vm.Alike (S.vm.noted f.method.cls x.catchType (.cls k)) := (Vm.Alike.refl S.vm).noted _ _ _
  obtain ⟨k1, hk1⟩ := h1
  obtain ⟨k2, hk2⟩ := h2
  obtain ⟨k1', hk1', -⟩ := hal.2.2 _ _ hk1
  obtain ⟨k2', hk2', -⟩ := hal.2.2 _ _ hk2
  by_cases hfit : S.vm.assignable ce.cls k = true
  · have hfit' : (S.vm.noted f.method.cls x.catchType (.cls k)).assignable ce.cls k = true := by rw [hal.assignable]; exact hfit
    rw [if_pos hfit]
    simp [findHandler.go, hx, h0, ha, ht, hq, ho, hk1', hk2', hfit', VmOp.dirties, VmOp.acts]
  · have hfit' : (S.vm.noted f.method.cls x.catchType (.cls k)).assignable ce.cls k = false := by
      rw [hal.assignable]
      cases hz : S.vm.assignable ce.cls k with
      | false => rfl
      | true => exact absurd hz hfit
    rw [if_neg hfit]
    simp [findHandler.go, hx, h0, ha, ht, hq, ho, hk1', hk2', hfit', VmOp.dirties, VmOp.acts]
/-- the search comes to the row x: rows ahead of it don't cover the place, or name a class that doesn't take the object -/
theorem am_search {e : Env} {s : State} {f : JFrame} {q : Addr} {ce : Cell} (ho : ∀ z, ce.vm ≠ .statics z) (h1 : ∃ z, s.vm.classes[ce.cls]? = some z) (x : ExceptionTableEntry) (suf : List ExceptionTableEntry) (hx : covers x f.pc = true) (h0 : x.catchType ≠ 0)
    (hc : ∃ k, s.vm.ClassLinks e.platform f.method.cls x.catchType k ∧ s.vm.assignable ce.cls k = true) :
    ∀ (pre : List ExceptionTableEntry) (S : State), s.WarmedH S.vm → S.heap[q]? = some ce → (∀ z ∈ pre, covers z f.pc = false ∨ (z.catchType ≠ 0 ∧ ∃ k, s.vm.ClassLinks e.platform f.method.cls z.catchType k ∧ s.vm.assignable ce.cls k = false)) →
      ∃ vm', s.WarmedH vm' ∧ ∀ (Q : Handler → Pre) (E : CtlPost) (d : Bool) (acts : List Action), wp (findHandler.go f q (pre ++ x :: suf)) Q E e d acts S ↔ Q (.found x.handlerPc) d acts (S.setVm vm') := by
  obtain ⟨k0, hk0⟩ := h1
  intro pre
  induction pre with
  | nil =>
    intro S hW hq _
    obtain ⟨k, hl, hfit⟩ := hc
    obtain ⟨dk, _, _, kt, hd, _, _, _, _, hkt, _, hopen⟩ := hl.here
    obtain ⟨k0', hk0', -⟩ := hW.alike.2.2 _ _ hk0
    obtain ⟨kt', hkt', -⟩ := hW.alike.2.2 _ _ hkt
    refine ⟨_, hW.noted hd hopen (State.rightAt_cls hl), fun Q E d acts => ?_⟩
    rw [List.nil_append, am_row hx h0 (hW.classLinks hl) hq ho ⟨k0', hk0'⟩ ⟨kt', hkt'⟩, if_pos (by rw [hW.alike.assignable]; exact hfit)]
  | cons z zs ih =>
    intro S hW hq hpass
    have hrest := fun w hw => hpass w (List.mem_cons_of_mem _ hw)
    by_cases hcov : covers z f.pc = true
    · rcases hpass z List.mem_cons_self with hn | ⟨hz0, k, hl, hno⟩
      · rw [hn] at hcov; cases hcov
      · obtain ⟨dk, _, _, kt, hd, _, _, _, _, hkt, _, hopen⟩ := hl.here
        obtain ⟨k0', hk0', -⟩ := hW.alike.2.2 _ _ hk0
        obtain ⟨kt', hkt', -⟩ := hW.alike.2.2 _ _ hkt
        obtain ⟨vm', hW', hfin⟩ := ih (S.setVm (S.vm.noted f.method.cls z.catchType (.cls k))) (hW.noted hd hopen (State.rightAt_cls hl)) hq hrest
        refine ⟨vm', hW', fun Q E d acts => ?_⟩
        rw [List.cons_append, am_row hcov hz0 (hW.classLinks hl) hq ho ⟨k0', hk0'⟩ ⟨kt', hkt'⟩, if_neg (by rw [hW.alike.assignable, hno]; decide)]
        exact hfin Q E d acts
    · obtain ⟨vm', hW', hfin⟩ := ih S hW hq hrest
      refine ⟨vm', hW', fun Q E d acts => ?_⟩
      rw [List.cons_append, W.findHandler_go_skip (by simpa using hcov)]
      exact hfin Q E d acts
variable {P : am_P} {TAB : List Cond} {NST : (List (String × Nat × MethodName × String)) × (List (String × String × String)) × (List MethodName) × (List (Nat × Nat))} {cl : List vw_C} {tt : List FieldType} {D : va_G} {ac : Nat → ClassId} {AO : List String} {b bs KC KS y pc pc' len : Nat} {lo lo' : am_L} {st st' : List Value} {h h' : am_H}
variable {p : Program} {l : Launch} {e : Env} {R : Room} {s : State} {m : MethodId} {args : Array Value} {below : List Frame} {meth : Method} {c : Code} {ls : Array Slot} {H : Heap} {locs : List Loc} {cells slots : Nat} {Q : State → Prop}
/-- into the handler -/
theorem am_caught {T : State} {q : Addr} {ce : Cell} {g : JFrame} (X : Stand p l e R s m args below meth c T locs cells slots) (hg : g.method = m) (hq : T.heap[q]? = some ce) (hv : ce.vm = .none) (h1 : ∃ z, s.vm.classes[ce.cls]? = some z)
    (pre : List ExceptionTableEntry) (x : ExceptionTableEntry) (suf : List ExceptionTableEntry) (hsplit : c.exceptionTable.toList = pre ++ x :: suf) (hx : covers x g.pc = true) (h0 : x.catchType ≠ 0) (hc : ∃ k, s.vm.ClassLinks e.platform m.cls x.catchType k ∧ s.vm.assignable ce.cls k = true)
    (hpass : ∀ z ∈ pre, covers z g.pc = false ∨ (z.catchType ≠ 0 ∧ ∃ k, s.vm.ClassLinks e.platform m.cls z.catchType k ∧ s.vm.assignable ce.cls k = false)) :
    ∃ vm', Stand p l e R s m args below meth c (T.setVm vm') locs cells slots ∧ ∀ target, Steps p.tables e below ((T.setVm vm').setTop { g with pc := x.handlerPc, stack := [.ref q] }) target → Steps p.tables e below ((T.setTop g).pushFrame (.throwing q)) target := by
  subst hg
  obtain ⟨vm', hW', hfin⟩ := am_search (e := e) (s := s) (f := g) (q := q) (ce := ce) (fun z hz => by rw [hv] at hz; cases hz) h1 x suf hx h0 hc pre ((T.setTop g).pushFrame (.throwing q)) X.warmed (by rw [Stand.throwing_heap]; exact hq) hpass
  refine ⟨vm', X.noted hW', fun target hrest => ?_⟩
  obtain ⟨hgo, hw⟩ := X.here.throwing q (g := g)
  refine Steps.head hgo hw ?_
  have hstep : (stepThrowing e ((T.setTop g).pushFrame (.throwing q)) q (.java g :: T.frames.tail)).1 = (((T.setTop g).pushFrame (.throwing q)).setVm vm').setFrames (.java { g with pc := x.handlerPc, stack := [.ref q] } :: T.frames.tail) := by
    simp only [stepThrowing, searchFrame, vmDo]
    generalize hr : Sem.go _ e false [] ((T.setTop g).pushFrame (.throwing q)) = res
    obtain ⟨as, rfl, ha⟩ := Sem.eq_ok_of hr (a := Handler.found x.handlerPc) (s' := ((T.setTop g).pushFrame (.throwing q)).setVm vm') (acts' := []) (by
      simp [W.findHandler_eq (s := (T.setTop g).pushFrame (.throwing q)) (f := g) (meth := meth) (code := c) X.method' X.code, hsplit, hfin])
    rfl
  rw [stepThread_throwing (frames_entered X.here.top _), hstep]
  obtain ⟨g0, hr⟩ := X.frames_eq
  have hr' : (T.setVm vm').frames = .java g0 :: below := hr
  rw [State.setTop_of_frames _ hr'] at hrest
  rw [hr, List.tail_cons]
  have e1 : (((T.setTop g).pushFrame (.throwing q)).setVm vm').setFrames (.java { g with pc := x.handlerPc, stack := [.ref q] } :: below) = (T.setVm vm').setFrames (.java { g with pc := x.handlerPc, stack := [.ref q] } :: below) := by
    have e2 : (T.setTop g).pushFrame (.throwing q) = T.setFrames (.throwing q :: .java g :: below) := by
      rw [State.pushFrame, State.frames_setTop _ hr, State.setTop_of_frames _ hr, State.setFrames_setFrames]
    rw [e2]
    have e3 : (T.setFrames (.throwing q :: .java g :: below)).setVm vm' = (T.setVm vm').setFrames (.throwing q :: .java g :: below) := rfl
    rw [e3, State.setFrames_setFrames]
  rw [e1]
  exact hrest
end BD
section BE
variable {P : am_P} {TAB : List Cond} {NST : (List (String × Nat × MethodName × String)) × (List (String × String × String)) × (List MethodName) × (List (Nat × Nat))} {cl : List vw_C} {tt : List FieldType} {D : va_G} {ac : Nat → ClassId} {AO : List String} {b bs : Nat}
variable {p : Program} {l : Launch} {e : Env}
/-- what the tables say of handlers -/
def am_okE (P : am_P) (TAB : List Cond) (NST : (List (String × Nat × MethodName × String)) × (List (String × String × String)) × (List MethodName) × (List (Nat × Nat))) (cl : List vw_C) : Prop := ∀ (y : Nat), ∀ q ∈ am_hd (am_me P y), q.2.2.2.1 ≠ 0 ∧ (∃ (X : String) (T : u_T) (N : Nat), cl[q.2.2.2.2]? = some (X, T, N) ∧ Cond.classLink (am_nm (am_me P y)).cls q.2.2.2.1 X ∈ TAB) ∧ ∀ E ∈ am_xl P, E ≠ q.2.2.2.2 → (E, q.2.2.2.2) ∈ NST.2.2.2
set_option maxHeartbeats 4000000 in
theorem am_catch (hexec : p.tables.exec = Jvm.exec) (okE : am_okE P TAB NST cl) : am_okH p l e P TAB NST AO cl tt D ac b bs := by
  intro y pc E pc2 kx lo h1 hfh hkx R s m args below meth c ls T locs cells slots KC KS rest env at_ hf X q ce r hq hv hE hc Q kk
  obtain ⟨hb, hml, -, hlocks, hown, hnm, htab⟩ := at_
  have hK := env.2.2.2.1
  have hNC := env.2.2.2.2.2.2.2.2.2.2.1
  have hpl : e.platform.magicAccessors = ({} : Platform).magicAccessors := by rw [X.admits.platform]
  unfold am_fh at hfh
  split at hfh
  · rename_i hxl
    split at hfh
    · rename_i q0 hfind
      obtain ⟨hp0, as, bsu, hl, hno⟩ := List.find?_eq_some_iff_append.mp hfind
      simp only [Bool.and_eq_true, decide_eq_true_eq] at hp0
      rw [hl, List.map_append, List.map_cons] at htab
      obtain ⟨pre, suf0, hs1, hs2, hs3⟩ := List.map_eq_append_iff.mp htab
      obtain ⟨x, suf, hs4, hs5, hs6⟩ := List.map_eq_cons_iff.mp hs3
      rw [hs4] at hs1
      have e0 : x.startPc = q0.1 ∧ x.endPc = q0.2.1 ∧ x.handlerPc = q0.2.2.1 ∧ x.catchType = q0.2.2.2.1 := by
        injection hs5 with a1 a2
        injection a2 with a2 a3
        injection a3 with a3 a4
        exact ⟨a1, a2, a3, a4⟩
      have ceE : ce.cls = D.1 E := Option.some.inj (hc.symm.trans (hK.1 E r hE).2.1)
      obtain ⟨-, kE, hkE, -⟩ := (hK.1 E r hE).2
      have hself : s.vm.assignable (D.1 E) (D.1 E) = true := va_assign (hK.1 E r hE).2
      obtain ⟨z0, ⟨X0, T0, N0, z1, z2⟩, -⟩ := okE y q0 (by rw [hl]; exact List.mem_append_right _ List.mem_cons_self)
      have hlinkOf : ∀ (F : Nat) (ty : Nat) (X0 : String) (T0 : u_T) (N0 : Nat), cl[F]? = some (X0, T0, N0) → (Cond.classLink (am_nm (am_me P y)).cls ty X0).before args s = true → s.vm.ClassLinks e.platform m.cls ty (D.1 F) := by
        intro F ty X0 T0 N0 g1 g2
        obtain ⟨k, g3, g4⟩ := Cond.classLink_spec hown g2 e.platform hpl
        cases g3.symm.trans (hK.1 F _ g1).2.1
        exact g4
      have hcov : covers x pc = true := by
        simp only [covers]
        rw [e0.1, e0.2.1]
        simp [hp0.1.1, hp0.1.2]
      have hcx : ∃ k, s.vm.ClassLinks e.platform m.cls x.catchType k ∧ s.vm.assignable ce.cls k = true := by
        refine ⟨D.1 q0.2.2.2.2, ?_, ?_⟩
        · rw [e0.2.2.2]
          exact hlinkOf _ _ X0 T0 N0 z1 (env.1 _ z2)
        · rw [ceE, hp0.2]; exact hself
      have hpass : ∀ z ∈ pre, covers z pc = false ∨ (z.catchType ≠ 0 ∧ ∃ k, s.vm.ClassLinks e.platform m.cls z.catchType k ∧ s.vm.assignable ce.cls k = false) := by
        intro z hz
        have hz1 : (z.startPc, z.endPc, z.handlerPc, z.catchType) ∈ as.map (fun q => (q.1, q.2.1, q.2.2.1, q.2.2.2.1)) := by
          rw [← hs2]
          exact List.mem_map.mpr ⟨z, hz, rfl⟩
        obtain ⟨w, hw, hwe⟩ := List.mem_map.mp hz1
        injection hwe with a1 a2
        injection a2 with a2 a3
        injection a3 with a3 a4
        obtain ⟨w0, ⟨Xw, Tw, Nw, w1, w2⟩, w3⟩ := okE y w (by rw [hl]; exact List.mem_append_left _ hw)
        by_cases hcv : covers z pc = true
        · right
          have hne : E ≠ w.2.2.2.2 := by
            intro he
            have := hno w hw
            simp only [covers] at hcv
            rw [← a1, ← a2] at hcv
            simp [he] at this
            simp at hcv
            omega
          refine ⟨by rw [← a4]; exact w0, D.1 w.2.2.2.2, ?_, ?_⟩
          · rw [← a4]
            exact hlinkOf _ _ Xw Tw Nw w1 (env.1 _ w2)
          · rw [ceE]
            exact hNC (E, w.2.2.2.2) (w3 E hxl hne)
        · left
          simpa using hcv
      obtain ⟨vm', X', st1⟩ := am_caught (g := F0 m pc ls rest) X rfl hq hv ⟨kE, by rw [ceE]; exact hkE⟩ pre x suf hs1 hcov (by rw [e0.2.2.2]; exact z0) hcx hpass
      have hkl : kx < am_ml (am_me P y) := by rw [← hf.1.2.1]; exact hkx.1
      have hw : W p l e R s m args below meth c T.heap locs cells slots Q (F0 m x.handlerPc ls [.ref q]) := by
        rw [e0.2.2.1]
        split at hfh
        · rename_i k hd
          cases hfh
          exact lv_astore hexec hb hd hf.1.has hkl rfl fun ls' hl' => kk ls' ⟨hf.1.st1 hkx.2 (fun v hv => by cases hv) hl', hf.2⟩
        · rename_i k hd
          cases hfh
          exact lv_astore_n hexec hb hd rfl hf.1.has hkl rfl fun ls' hl' => kk ls' ⟨hf.1.st1 hkx.2 (fun v hv => by cases hv) hl', hf.2⟩
        · cases hfh
      obtain ⟨t, g1, g2⟩ := hw (T.setVm vm') rfl X'
      exact ⟨t, st1 t g1, g2⟩
    · cases hfh
  · cases hfh
end BE
end
section
/-! Tables of the abstract machine for this claim; printed by a program of our own out of the Statement. -/
def tb_F0 : u_T := fun k => match k with
  | 0 => ("GluedMachines", "writing", "LGluedMachines$Writing;", true)
  | 1 => ("GluedMachines", "formulas", "[LGluedMachines$Formula;", true)
  | 2 => ("GluedMachines", "formulaCount", "I", false)
  | 3 => ("GluedMachines", "model", "LGluedMachines$Model;", true)
  | 4 => ("GluedMachines", "duties", "LGluedMachines$Duties;", true)
  | 5 => ("GluedMachines", "run", "LGluedMachines$Run;", true)
  | 6 => ("GluedMachines", "shown", "[I", true)
  | _ => ("GluedMachines", "shows", "Z", false)
def tb_F1 : u_T := fun k => match k with
  | 0 => ("GluedMachines$Writing", "words", "[I", true)
  | 1 => ("GluedMachines$Writing", "kinds", "[I", true)
  | 2 => ("GluedMachines$Writing", "ends", "[I", true)
  | _ => ("GluedMachines$Writing", "count", "I", false)
def tb_F2 : u_T := fun k => match k with
  | 0 => ("GluedMachines$Formula", "words", "[I", true)
  | 1 => ("GluedMachines$Formula", "seconds", "[I", true)
  | 2 => ("GluedMachines$Formula", "thirds", "[I", true)
  | 3 => ("GluedMachines$Formula", "answers", "[I", true)
  | 4 => ("GluedMachines$Formula", "isTruth", "Z", true)
  | _ => ("GluedMachines$Formula", "mentions", "I", true)
def tb_F3 : u_T := fun k => match k with
  | 0 => ("GluedMachines$Event", "machine", "I", true)
  | 1 => ("GluedMachines$Event", "range", "I", true)
  | 2 => ("GluedMachines$Event", "refined", "LGluedMachines$Event;", true)
  | 3 => ("GluedMachines$Event", "guard", "LGluedMachines$Formula;", false)
  | 4 => ("GluedMachines$Event", "witness", "LGluedMachines$Formula;", false)
  | _ => ("GluedMachines$Event", "assigned", "[LGluedMachines$Formula;", true)
def tb_F4 : u_T := fun k => match k with
  | 0 => ("GluedMachines$Invariants", "upper", "[LGluedMachines$Formula;", true)
  | 1 => ("GluedMachines$Invariants", "lower", "[LGluedMachines$Formula;", true)
  | 2 => ("GluedMachines$Invariants", "upperCount", "I", false)
  | 3 => ("GluedMachines$Invariants", "lowerCount", "I", false)
  | 4 => ("GluedMachines$Invariants", "known", "[J", true)
  | _ => ("GluedMachines$Invariants", "found", "[J", true)
def tb_F5 : u_T := fun k => match k with
  | 0 => ("GluedMachines$Model", "sizes", "[I", true)
  | 1 => ("GluedMachines$Model", "initials", "[I", true)
  | 2 => ("GluedMachines$Model", "events", "[LGluedMachines$Event;", true)
  | 3 => ("GluedMachines$Model", "eventCount", "I", false)
  | 4 => ("GluedMachines$Model", "invariants", "LGluedMachines$Invariants;", true)
  | 5 => ("GluedMachines$Model", "variant", "LGluedMachines$Formula;", false)
  | 6 => ("GluedMachines$Model", "after", "[I", true)
  | _ => ("GluedMachines$Model", "above", "[I", true)
def tb_F6 : u_T := fun k => match k with
  | 0 => ("GluedMachines$Duties", "model", "LGluedMachines$Model;", true)
  | 1 => ("GluedMachines$Duties", "row", "[I", true)
  | 2 => ("GluedMachines$Duties", "limits", "[I", true)
  | _ => ("GluedMachines$Duties", "rows", "I", false)
def tb_F7 : u_T := fun k => match k with
  | 0 => ("GluedMachines$Run", "model", "LGluedMachines$Model;", true)
  | 1 => ("GluedMachines$Run", "row", "[I", true)
  | 2 => ("GluedMachines$Run", "past", "[I", true)
  | 3 => ("GluedMachines$Run", "steps", "I", false)
  | 4 => ("GluedMachines$Run", "isOn", "Z", false)
  | _ => ("GluedMachines$Run", "isTorn", "Z", false)
def tb_F8 : u_T := fun k => match k with
  | 0 => ("GluedMachinesModel", "thrown", "I", false)
  | 1 => ("GluedMachinesModel", "sizes", "[I", false)
  | 2 => ("GluedMachinesModel", "initial", "[I", false)
  | 3 => ("GluedMachinesModel", "written", "I", false)
  | 4 => ("GluedMachinesModel", "words", "[I", false)
  | 5 => ("GluedMachinesModel", "formulas", "I", false)
  | 6 => ("GluedMachinesModel", "lengths", "[I", false)
  | 7 => ("GluedMachinesModel", "text", "[I", false)
  | 8 => ("GluedMachinesModel", "isTruth", "[Z", false)
  | 9 => ("GluedMachinesModel", "hasParameter", "[Z", false)
  | 10 => ("GluedMachinesModel", "hasLower", "[Z", false)
  | 11 => ("GluedMachinesModel", "events", "I", false)
  | 12 => ("GluedMachinesModel", "machines", "[I", false)
  | 13 => ("GluedMachinesModel", "ranges", "[I", false)
  | 14 => ("GluedMachinesModel", "refined", "[I", false)
  | 15 => ("GluedMachinesModel", "guards", "[I", false)
  | 16 => ("GluedMachinesModel", "assigned", "[I", false)
  | 17 => ("GluedMachinesModel", "witnesses", "[I", false)
  | 18 => ("GluedMachinesModel", "invariantCount", "[I", false)
  | 19 => ("GluedMachinesModel", "invariants", "[I", false)
  | 20 => ("GluedMachinesModel", "variant", "I", false)
  | 21 => ("GluedMachinesModel", "now", "[I", false)
  | 22 => ("GluedMachinesModel", "next", "[I", false)
  | 23 => ("GluedMachinesModel", "running", "Z", false)
  | 24 => ("GluedMachinesModel", "torn", "Z", false)
  | 25 => ("GluedMachinesModel", "steps", "I", false)
  | 26 => ("GluedMachinesModel", "run", "[I", false)
  | 27 => ("GluedMachinesModel", "shows", "Z", false)
  | 28 => ("GluedMachinesModel", "shown", "[I", false)
  | 29 => ("GluedMachinesModel", "pileSize", "I", false)
  | 30 => ("GluedMachinesModel", "pile", "[I", false)
  | 31 => ("GluedMachinesModel", "at", "I", false)
  | _ => ("GluedMachinesModel", "parameter", "I", false)
def tb_F9 : u_T := fun _ => ("", "", "", false)
def tb_cl : List vw_C := [("GluedMachines", tb_F0, 8), ("GluedMachines$Writing", tb_F1, 4), ("GluedMachines$Formula", tb_F2, 6), ("GluedMachines$Event", tb_F3, 6), ("GluedMachines$Invariants", tb_F4, 6), ("GluedMachines$Model", tb_F5, 8), ("GluedMachines$Duties", tb_F6, 4), ("GluedMachines$Run", tb_F7, 6), ("GluedMachinesModel", tb_F8, 33), ("java/lang/IllegalArgumentException", tb_F9, 0), ("java/lang/IllegalStateException", tb_F9, 0), ("java/lang/UnsupportedOperationException", tb_F9, 0)]
def tb_tt : List FieldType := [.int, .long, .boolean, .object "GluedMachines$Formula", .object "GluedMachines$Event"]
def tb_m0 : List am_M := [(⟨"GluedMachines", "<init>", "()V"⟩, prog_1_method_1_code, 2, none, [], 3, 39),
  (⟨"GluedMachines$Writing", "<init>", "()V"⟩, prog_9_method_1_code, 1, none, [], 1, 12),
  (⟨"GluedMachines$Model", "<init>", "()V"⟩, prog_6_method_1_code, 1, none, [], 2, 26),
  (⟨"GluedMachines$Invariants", "<init>", "()V"⟩, prog_5_method_1_code, 1, none, [], 1, 12),
  (⟨"java/util/Arrays", "fill", "([II)V"⟩, prog_22_method_103_code, 4, none, [], 0, 0),
  (⟨"GluedMachines$Duties", "<init>", "(LGluedMachines$Model;)V"⟩, prog_2_method_1_code, 2, none, [], 1, 12),
  (⟨"GluedMachines$Run", "<init>", "(LGluedMachines$Model;)V"⟩, prog_7_method_1_code, 2, none, [], 1, 12),
  (⟨"GluedMachines", "open", "()I"⟩, prog_1_method_13_code, 5, (some (.int)), [], 6, 102),
  (⟨"GluedMachines$Duties", "isBeginningRight", "()Z"⟩, prog_2_method_2_code, 1, (some (.boolean)), [], 4, 69),
  (⟨"GluedMachines$Invariants", "hold", "(I[I)Z"⟩, prog_5_method_5_code, 4, (some (.boolean)), [], 3, 54),
  (⟨"GluedMachines$Invariants", "codeOf", "([II)I"⟩, prog_5_method_7_code, 3, (some (.int)), [], 0, 0),
  (⟨"GluedMachines$Invariants", "isRight", "(III[I)Z"⟩, prog_5_method_6_code, 10, (some (.boolean)), [], 2, 33),
  (⟨"GluedMachines$Invariants", "count", "(I)I"⟩, prog_5_method_2_code, 2, (some (.int)), [], 0, 0),
  (⟨"GluedMachines$Formula", "answerIn", "([I)I"⟩, prog_4_method_6_code, 6, (some (.int)), [], 1, 16),
  (⟨"GluedMachines$Formula", "placeOf", "(I)I"⟩, prog_4_method_3_code, 1, (some (.int)), [], 0, 0),
  (⟨"GluedMachines$Formula", "result", "(IIII)I"⟩, prog_4_method_7_code, 4, (some (.int)), [], 0, 0)]
def tb_m1 : List am_M := [(⟨"GluedMachines$Event", "dutyKinds", "()I"⟩, prog_3_method_4_code, 2, (some (.int)), [], 0, 0),
  (⟨"GluedMachines$Duties", "wholeKinds", "(LGluedMachines$Event;I)I"⟩, prog_2_method_5_code, 7, (some (.int)), [], 5, 84),
  (⟨"GluedMachines$Duties", "mentionsFor", "(LGluedMachines$Event;)I"⟩, prog_2_method_6_code, 3, (some (.int)), [], 2, 26),
  (⟨"GluedMachines$Event", "mentions", "()I"⟩, prog_3_method_6_code, 3, (some (.int)), [], 0, 0),
  (⟨"GluedMachines$Invariants", "mentions", "(I)I"⟩, prog_5_method_4_code, 4, (some (.int)), [], 0, 0),
  (⟨"GluedMachines$Event", "hasDuty", "(I)Z"⟩, prog_3_method_5_code, 2, (some (.boolean)), [], 1, 13),
  (⟨"GluedMachines$Duties", "beginRows", "(II)V"⟩, prog_2_method_7_code, 5, none, [], 0, 0),
  (⟨"GluedMachines$Event", "allows", "([I)Z"⟩, prog_3_method_3_code, 2, (some (.boolean)), [], 2, 33),
  (⟨"GluedMachines$Duties", "isKept", "(ILGluedMachines$Event;)Z"⟩, prog_2_method_9_code, 4, (some (.boolean)), [], 4, 69),
  (⟨"GluedMachines$Model", "staysWithin", "(LGluedMachines$Event;[I)Z"⟩, prog_6_method_6_code, 4, (some (.boolean)), [], 2, 35),
  (⟨"GluedMachines", "isWithin", "(II)Z"⟩, prog_1_method_22_code, 2, (some (.boolean)), [], 0, 0),
  (⟨"GluedMachines$Model", "isAllowedAbove", "(LGluedMachines$Event;[I)Z"⟩, prog_6_method_7_code, 3, (some (.boolean)), [], 3, 49),
  (⟨"GluedMachines$Model", "lookAbove", "(LGluedMachines$Event;[I)V"⟩, prog_6_method_8_code, 3, none, [], 2, 35),
  (⟨"GluedMachines$Model", "variantIn", "([I)I"⟩, prog_6_method_4_code, 2, (some (.int)), [], 2, 33),
  (⟨"GluedMachines$Model", "leads", "(LGluedMachines$Event;[I)Z"⟩, prog_6_method_5_code, 3, (some (.boolean)), [], 3, 50),
  (⟨"GluedMachines$Duties", "nextRow", "()V"⟩, prog_2_method_8_code, 2, none, [], 0, 0)]
def tb_m2 : List am_M := [(⟨"java/lang/Integer", "bitCount", "(I)I"⟩, prog_16_method_49_code, 1, (some (.int)), [], 0, 0),
  (⟨"GluedMachines", "start", "()V"⟩, prog_1_method_14_code, 1, none, [], 2, 30),
  (⟨"GluedMachines$Run", "begin", "()V"⟩, prog_7_method_2_code, 1, none, [], 1, 18),
  (⟨"GluedMachines$Run", "end", "()V"⟩, prog_7_method_3_code, 1, none, [], 0, 0),
  (⟨"GluedMachines", "torn", "()Z"⟩, prog_1_method_19_code, 1, (some (.boolean)), [], 0, 0),
  (⟨"GluedMachines", "right", "()Z"⟩, prog_1_method_20_code, 1, (some (.boolean)), [], 4, 69),
  (⟨"GluedMachinesLaw", "variable", "(LGluedMachines;III)I"⟩, method_3_code, 5, (some (.int)), [(0, 7, 10, 13, 9)], 7, 97),
  (⟨"GluedMachines", "variable", "(III)V"⟩, prog_1_method_2_code, 4, none, [], 6, 82),
  (⟨"GluedMachines", "isVariable", "(I)Z"⟩, prog_1_method_24_code, 1, (some (.boolean)), [], 1, 13),
  (⟨"GluedMachinesLaw", "word", "(LGluedMachines;I[J)I"⟩, method_4_code, 4, (some (.int)), [(0, 9, 12, 13, 9), (0, 9, 15, 19, 10)], 7, 97),
  (⟨"GluedMachines", "word", "(I)I"⟩, prog_1_method_3_code, 2, (some (.int)), [], 6, 82),
  (⟨"GluedMachines$Words", "isOne", "(I)Z"⟩, prog_8_method_2_code, 1, (some (.boolean)), [], 1, 12),
  (⟨"GluedMachines$Words", "isOperator", "(I)Z"⟩, prog_8_method_3_code, 1, (some (.boolean)), [], 0, 0),
  (⟨"GluedMachines$Writing", "add", "(I)I"⟩, prog_9_method_2_code, 2, (some (.int)), [], 0, 0),
  (⟨"GluedMachinesLaw", "formula", "(LGluedMachines;[J)I"⟩, method_5_code, 3, (some (.int)), [(0, 8, 11, 13, 9), (0, 8, 14, 19, 10)], 7, 96),
  (⟨"GluedMachines", "formula", "()I"⟩, prog_1_method_4_code, 1, (some (.int)), [], 6, 82)]
def tb_m3 : List am_M := [(⟨"GluedMachines$Writing", "isFormula", "()Z"⟩, prog_9_method_4_code, 3, (some (.boolean)), [], 2, 33),
  (⟨"GluedMachines$Writing", "endFrom", "(I)I"⟩, prog_9_method_5_code, 7, (some (.int)), [], 1, 13),
  (⟨"GluedMachines$Words", "partsOf", "(I)I"⟩, prog_8_method_7_code, 1, (some (.int)), [], 0, 0),
  (⟨"GluedMachines$Words", "kindOfFirstPart", "(I)I"⟩, prog_8_method_5_code, 1, (some (.int)), [], 0, 0),
  (⟨"GluedMachines$Words", "kindOfSecondPart", "(I)I"⟩, prog_8_method_6_code, 1, (some (.int)), [], 0, 0),
  (⟨"GluedMachines$Words", "kindOf", "(I)I"⟩, prog_8_method_4_code, 1, (some (.int)), [], 0, 0),
  (⟨"GluedMachines$Writing", "clear", "()V"⟩, prog_9_method_3_code, 1, none, [], 0, 0),
  (⟨"GluedMachines$Formula", "<init>", "(LGluedMachines$Writing;)V"⟩, prog_4_method_1_code, 4, none, [], 2, 33),
  (⟨"java/util/Arrays", "copyOf", "([II)[I"⟩, prog_22_method_123_code, 3, (some (.array .int)), [], 1, 18),
  (⟨"GluedMachines$Formula", "mentionOf", "(I)I"⟩, prog_4_method_2_code, 2, (some (.int)), [], 1, 13),
  (⟨"GluedMachinesLaw", "event", "(LGluedMachines;III[J)I"⟩, method_6_code, 6, (some (.int)), [(0, 12, 15, 13, 9), (0, 12, 19, 19, 10)], 7, 99),
  (⟨"GluedMachines", "event", "(III)I"⟩, prog_1_method_5_code, 4, (some (.int)), [], 6, 82),
  (⟨"GluedMachines", "isMachine", "(I)Z"⟩, prog_1_method_23_code, 1, (some (.boolean)), [], 0, 0),
  (⟨"GluedMachines", "mayRefine", "(II)Z"⟩, prog_1_method_26_code, 4, (some (.boolean)), [], 2, 26),
  (⟨"GluedMachines$Model", "eventOrNone", "(I)LGluedMachines$Event;"⟩, prog_6_method_3_code, 2, (some (.object "GluedMachines$Event")), [], 1, 13),
  (⟨"GluedMachines$Event", "<init>", "(IILGluedMachines$Event;)V"⟩, prog_3_method_1_code, 4, none, [], 1, 12)]
def tb_m4 : List am_M := [(⟨"GluedMachines$Model", "add", "(LGluedMachines$Event;)I"⟩, prog_6_method_2_code, 2, (some (.int)), [], 0, 0),
  (⟨"GluedMachinesLaw", "guard", "(LGluedMachines;II)I"⟩, method_7_code, 4, (some (.int)), [(0, 6, 9, 13, 9)], 9, 123),
  (⟨"GluedMachines", "guard", "(II)V"⟩, prog_1_method_6_code, 5, none, [], 8, 107),
  (⟨"GluedMachines", "eventAt", "(I)LGluedMachines$Event;"⟩, prog_1_method_27_code, 3, (some (.object "GluedMachines$Event")), [], 6, 82),
  (⟨"GluedMachines", "truthAt", "(I)LGluedMachines$Formula;"⟩, prog_1_method_29_code, 2, (some (.object "GluedMachines$Formula")), [], 7, 94),
  (⟨"GluedMachines", "refuseUnless", "(Z)V"⟩, prog_1_method_21_code, 1, none, [], 6, 82),
  (⟨"GluedMachines$Event", "mayHave", "(LGluedMachines$Formula;)Z"⟩, prog_3_method_2_code, 2, (some (.boolean)), [], 1, 12),
  (⟨"GluedMachines$Formula", "hasLowerVariables", "()Z"⟩, prog_4_method_5_code, 1, (some (.boolean)), [], 0, 0),
  (⟨"GluedMachinesLaw", "assign", "(LGluedMachines;III)I"⟩, method_8_code, 5, (some (.int)), [(0, 7, 10, 13, 9)], 9, 124),
  (⟨"GluedMachines", "assign", "(III)V"⟩, prog_1_method_7_code, 6, none, [], 8, 107),
  (⟨"GluedMachines", "numberAt", "(I)LGluedMachines$Formula;"⟩, prog_1_method_30_code, 2, (some (.object "GluedMachines$Formula")), [], 7, 94),
  (⟨"GluedMachines", "machineOf", "(I)I"⟩, prog_1_method_25_code, 1, (some (.int)), [], 0, 0),
  (⟨"GluedMachinesLaw", "witness", "(LGluedMachines;II)I"⟩, method_9_code, 4, (some (.int)), [(0, 6, 9, 13, 9)], 9, 123),
  (⟨"GluedMachines", "witness", "(II)V"⟩, prog_1_method_8_code, 5, none, [], 8, 107),
  (⟨"GluedMachinesLaw", "invariant", "(LGluedMachines;II[J)I"⟩, method_10_code, 5, (some (.int)), [(0, 10, 13, 13, 9), (0, 10, 17, 19, 10)], 9, 124),
  (⟨"GluedMachines", "invariant", "(II)I"⟩, prog_1_method_9_code, 4, (some (.int)), [], 8, 107)]
def tb_m5 : List am_M := [(⟨"GluedMachines$Formula", "hasParameter", "()Z"⟩, prog_4_method_4_code, 1, (some (.boolean)), [], 0, 0),
  (⟨"GluedMachines$Invariants", "add", "(ILGluedMachines$Formula;)I"⟩, prog_5_method_3_code, 3, (some (.int)), [], 1, 16),
  (⟨"java/util/Arrays", "fill", "([JJ)V"⟩, prog_22_method_101_code, 5, none, [], 0, 0),
  (⟨"GluedMachinesLaw", "variant", "(LGluedMachines;I)I"⟩, method_11_code, 3, (some (.int)), [(0, 5, 8, 13, 9)], 9, 121),
  (⟨"GluedMachines", "variant", "(I)V"⟩, prog_1_method_10_code, 3, none, [], 8, 107),
  (⟨"GluedMachinesLaw", "done", "(LGluedMachines;II[J)I"⟩, method_12_code, 5, (some (.int)), [(0, 17, 20, 13, 9)], 8, 119),
  (⟨"GluedMachines", "done", "(II)Z"⟩, prog_1_method_11_code, 4, (some (.boolean)), [], 7, 102),
  (⟨"GluedMachines", "isDuty", "(II)Z"⟩, prog_1_method_31_code, 4, (some (.boolean)), [], 2, 26),
  (⟨"GluedMachines$Duties", "isMovingAlways", "()Z"⟩, prog_2_method_3_code, 3, (some (.boolean)), [], 4, 69),
  (⟨"GluedMachines$Duties", "isMoving", "()Z"⟩, prog_2_method_4_code, 5, (some (.boolean)), [], 3, 46),
  (⟨"GluedMachinesLaw", "broken", "(LGluedMachines;I[J)I"⟩, method_13_code, 4, (some (.int)), [(0, 9, 12, 13, 9)], 8, 109),
  (⟨"GluedMachines", "broken", "(I)I"⟩, prog_1_method_12_code, 2, (some (.int)), [], 7, 94),
  (⟨"GluedMachinesLaw", "enabled", "(LGluedMachines;II[J)I"⟩, method_14_code, 5, (some (.int)), [(0, 17, 20, 13, 9), (0, 17, 24, 19, 10)], 9, 128),
  (⟨"GluedMachines", "enabled", "(II)Z"⟩, prog_1_method_15_code, 4, (some (.boolean)), [], 8, 111),
  (⟨"GluedMachines", "lowerEventAt", "(II)LGluedMachines$Event;"⟩, prog_1_method_28_code, 4, (some (.object "GluedMachines$Event")), [], 7, 96),
  (⟨"GluedMachines$Run", "canDo", "(LGluedMachines$Event;I)Z"⟩, prog_7_method_4_code, 3, (some (.boolean)), [], 4, 64)]
def tb_m6 : List am_M := [(⟨"GluedMachinesLaw", "fire", "(LGluedMachines;II[J)I"⟩, method_15_code, 5, (some (.int)), [(0, 10, 13, 13, 9), (0, 10, 17, 19, 10), (0, 10, 21, 60, 11)], 9, 128),
  (⟨"GluedMachines", "fire", "(II)I"⟩, prog_1_method_16_code, 4, (some (.int)), [], 8, 111),
  (⟨"GluedMachines$Run", "advance", "(LGluedMachines$Event;I)I"⟩, prog_7_method_5_code, 3, (some (.int)), [], 4, 64),
  (⟨"GluedMachinesLaw", "back", "(LGluedMachines;[J)I"⟩, method_16_code, 3, (some (.int)), [(0, 8, 11, 19, 10)], 7, 96),
  (⟨"GluedMachines", "back", "()I"⟩, prog_1_method_17_code, 1, (some (.int)), [], 6, 82),
  (⟨"GluedMachines$Run", "retreat", "()I"⟩, prog_7_method_6_code, 1, (some (.int)), [], 1, 18),
  (⟨"GluedMachinesLaw", "value", "(LGluedMachines;I[J)I"⟩, method_17_code, 4, (some (.int)), [(0, 9, 12, 13, 9)], 8, 109),
  (⟨"GluedMachines", "value", "(I)I"⟩, prog_1_method_18_code, 2, (some (.int)), [], 7, 94),
  (⟨"GluedMachinesModel", "<init>", "()V"⟩, prog_11_method_1_code, 2, none, [], 1, 12),
  (⟨"GluedMachinesModel", "thrown", "()I"⟩, prog_11_method_2_code, 1, (some (.int)), [], 0, 0),
  (⟨"GluedMachinesModel", "word", "(I)I"⟩, prog_11_method_4_code, 2, (some (.int)), [], 1, 14),
  (⟨"GluedMachinesModel", "isWord", "(I)Z"⟩, prog_11_method_3_code, 2, (some (.boolean)), [], 0, 0),
  (⟨"GluedMachinesModel", "formula", "()I"⟩, prog_11_method_9_code, 3, (some (.int)), [], 2, 31),
  (⟨"GluedMachinesModel", "isFormula", "()Z"⟩, prog_11_method_8_code, 4, (some (.boolean)), [], 1, 15),
  (⟨"GluedMachinesModel", "parts", "(I)I"⟩, prog_11_method_5_code, 2, (some (.int)), [], 0, 0),
  (⟨"GluedMachinesModel", "wantsTruth", "(II)Z"⟩, prog_11_method_7_code, 3, (some (.boolean)), [], 0, 0)]
def tb_m7 : List am_M := [(⟨"GluedMachinesModel", "makesTruth", "(I)Z"⟩, prog_11_method_6_code, 2, (some (.boolean)), [], 0, 0),
  (⟨"GluedMachinesModel", "variable", "(III)V"⟩, prog_11_method_13_code, 4, none, [], 0, 0),
  (⟨"GluedMachinesModel", "event", "(III)I"⟩, prog_11_method_16_code, 5, (some (.int)), [], 1, 13),
  (⟨"GluedMachinesModel", "noEvent", "(I)Z"⟩, prog_11_method_14_code, 2, (some (.boolean)), [], 0, 0),
  (⟨"GluedMachinesModel", "guard", "(II)V"⟩, prog_11_method_18_code, 3, none, [], 2, 29),
  (⟨"GluedMachinesModel", "mayNot", "(IIZ)Z"⟩, prog_11_method_17_code, 4, (some (.boolean)), [], 1, 13),
  (⟨"GluedMachinesModel", "noFormula", "(I)Z"⟩, prog_11_method_15_code, 2, (some (.boolean)), [], 0, 0),
  (⟨"GluedMachinesModel", "assign", "(III)V"⟩, prog_11_method_19_code, 4, none, [], 2, 29),
  (⟨"GluedMachinesModel", "witness", "(II)V"⟩, prog_11_method_20_code, 3, none, [], 2, 29),
  (⟨"GluedMachinesModel", "invariant", "(II)I"⟩, prog_11_method_21_code, 4, (some (.int)), [], 1, 13),
  (⟨"GluedMachinesModel", "variant", "(I)V"⟩, prog_11_method_22_code, 2, none, [], 1, 14),
  (⟨"GluedMachinesModel", "done", "(II)Z"⟩, prog_11_method_36_code, 5, (some (.boolean)), [], 7, 120),
  (⟨"GluedMachinesModel", "noDuty", "(II)Z"⟩, prog_11_method_31_code, 3, (some (.boolean)), [], 1, 13),
  (⟨"GluedMachinesModel", "isDone", "(II)Z"⟩, prog_11_method_35_code, 7, (some (.boolean)), [], 6, 102),
  (⟨"GluedMachinesModel", "isRight", "(Z)Z"⟩, prog_11_method_24_code, 2, (some (.boolean)), [], 4, 66),
  (⟨"GluedMachinesModel", "holds", "(IZ)Z"⟩, prog_11_method_23_code, 5, (some (.boolean)), [], 3, 50)]
def tb_m8 : List am_M := [(⟨"GluedMachinesModel", "find", "(IZI)I"⟩, prog_11_method_12_code, 11, (some (.int)), [], 2, 28),
  (⟨"GluedMachinesModel", "worked", "(III)I"⟩, prog_11_method_11_code, 4, (some (.int)), [], 1, 13),
  (⟨"GluedMachinesModel", "clamped", "(I)I"⟩, prog_11_method_10_code, 2, (some (.int)), [], 0, 0),
  (⟨"GluedMachinesModel", "someMoves", "()Z"⟩, prog_11_method_33_code, 4, (some (.boolean)), [], 4, 64),
  (⟨"GluedMachinesModel", "isEnabled", "(II)Z"⟩, prog_11_method_25_code, 3, (some (.boolean)), [], 3, 50),
  (⟨"GluedMachinesModel", "isKept", "(III)Z"⟩, prog_11_method_32_code, 8, (some (.boolean)), [], 5, 83),
  (⟨"GluedMachinesModel", "lead", "(II)V"⟩, prog_11_method_27_code, 5, none, [], 3, 52),
  (⟨"GluedMachinesModel", "isWithin", "(II)Z"⟩, prog_11_method_28_code, 5, (some (.boolean)), [], 0, 0),
  (⟨"GluedMachinesModel", "isFollowed", "(II)Z"⟩, prog_11_method_30_code, 5, (some (.boolean)), [], 4, 64),
  (⟨"GluedMachinesModel", "witnessOf", "(II)I"⟩, prog_11_method_26_code, 3, (some (.int)), [], 3, 50),
  (⟨"GluedMachinesModel", "leadBoth", "(II)Z"⟩, prog_11_method_29_code, 4, (some (.boolean)), [], 4, 68),
  (⟨"GluedMachinesModel", "count", "(I)Z"⟩, prog_11_method_34_code, 3, (some (.boolean)), [], 0, 0),
  (⟨"GluedMachinesModel", "broken", "(I)I"⟩, prog_11_method_37_code, 2, (some (.int)), [], 0, 0),
  (⟨"GluedMachinesModel", "open", "()I"⟩, prog_11_method_38_code, 4, (some (.int)), [], 7, 121),
  (⟨"GluedMachinesModel", "start", "()V"⟩, prog_11_method_39_code, 2, none, [], 0, 0),
  (⟨"GluedMachinesModel", "enabled", "(II)Z"⟩, prog_11_method_42_code, 3, (some (.boolean)), [], 5, 83)]
def tb_m9 : List am_M := [(⟨"GluedMachinesModel", "checked", "(II)I"⟩, prog_11_method_41_code, 3, (some (.int)), [], 1, 13),
  (⟨"GluedMachinesModel", "look", "()V"⟩, prog_11_method_40_code, 2, none, [], 0, 0),
  (⟨"GluedMachinesModel", "fire", "(II)I"⟩, prog_11_method_43_code, 5, (some (.int)), [], 5, 84),
  (⟨"GluedMachinesModel", "back", "()I"⟩, prog_11_method_44_code, 1, (some (.int)), [], 0, 0),
  (⟨"GluedMachinesModel", "value", "(I)I"⟩, prog_11_method_45_code, 2, (some (.int)), [], 0, 0),
  (⟨"GluedMachinesModel", "torn", "()Z"⟩, prog_11_method_46_code, 1, (some (.boolean)), [], 0, 0),
  (⟨"GluedMachinesModel", "right", "()Z"⟩, prog_11_method_47_code, 1, (some (.boolean)), [], 5, 79),
  (⟨"GluedMachinesLaw", "law", "([I)Z"⟩, code, 7, ret, [], 10, 144)]
def tb_ml : List am_M := tb_m0 ++ tb_m1 ++ tb_m2 ++ tb_m3 ++ tb_m4 ++ tb_m5 ++ tb_m6 ++ tb_m7 ++ tb_m8 ++ tb_m9
def tb_me (y : Nat) : am_M := tb_ml.getD y (⟨"GluedMachinesLaw", "law", "([I)Z"⟩, code, 7, ret, [], 0, 0)
def tb_kl (y : Nat) : Nat := ([0, 1, 5, 4, 11, 6, 7, 0, 6, 4, 4, 4, 4, 2, 2, 2, 3, 6, 6, 3, 4, 3, 6, 3, 6, 5, 0, 5, 5, 5, 5, 6, 12, 0, 7, 7, 0, 0, 9, 0, 0, 9, 0, 10, 10, 1, 9, 0, 1, 1, 10, 10, 10, 10, 1, 2, 11, 2, 9, 0, 0, 0, 5, 3, 5, 9, 0, 0, 0, 0, 3, 2, 9, 0, 0, 0, 9, 0, 9, 0, 2, 4, 11, 9, 0, 9, 0, 0, 6, 6, 9, 0, 9, 0, 0, 7, 9, 0, 7, 9, 0, 7, 9, 0, 8, 8, 8, 8, 8, 8, 8, 8, 8, 8, 8, 8, 8, 8, 8, 8, 8, 8, 8, 8, 8, 8, 8, 8, 8, 8, 8, 8, 8, 8, 8, 8, 8, 8, 8, 8, 8, 8, 8, 8, 8, 8, 8, 8, 8, 8, 8, 9] : List Nat).getD y 9
def tb_on (o : Nat) : String := (["GluedMachines", "GluedMachines$Writing", "GluedMachines$Formula", "GluedMachines$Event", "GluedMachines$Invariants", "GluedMachines$Model", "GluedMachines$Duties", "GluedMachines$Run", "GluedMachinesModel", "GluedMachinesLaw", "GluedMachines$Words", "java/util/Arrays", "java/lang/Integer"] : List String).getD o ""
def tb_ini (y : Nat) : Bool := ([true, true, true, true, false, true, true, false, false, false, false, false, false, false, false, false, false, false, false, false, false, false, false, false, false, false, false, false, false, false, false, false, false, false, false, false, false, false, false, false, false, false, false, false, false, false, false, false, false, false, false, false, false, false, false, true, false, false, false, false, false, false, false, true, false, false, false, false, false, false, false, false, false, false, false, false, false, false, false, false, false, false, false, false, false, false, false, false, false, false, false, false, false, false, false, false, false, false, false, false, false, false, false, false, true, false, false, false, false, false, false, false, false, false, false, false, false, false, false, false, false, false, false, false, false, false, false, false, false, false, false, false, false, false, false, false, false, false, false, false, false, false, false, false, false, false, false, false, false, false, false, false] : List Bool).getD y false
def tb_fdl : List (List (Nat × Nat × Nat × FieldType × Bool × Bool × Nat)) := [[(10, 0, 0, .object "GluedMachines$Writing", true, true, 224), (18, 0, 1, .array (.object "GluedMachines$Formula"), true, true, 225), (22, 0, 2, .int, false, true, 226), (26, 0, 6, .array .int, true, true, 230), (30, 0, 7, .boolean, false, true, 231), (37, 0, 3, .object "GluedMachines$Model", true, true, 227), (46, 0, 4, .object "GluedMachines$Duties", true, true, 228), (53, 0, 5, .object "GluedMachines$Run", true, true, 229), (68, 5, 0, .array .int, true, false, 136), (71, 5, 1, .array .int, true, false, 141), (82, 1, 3, .int, false, false, 84), (108, 5, 3, .int, false, false, 147), (138, 3, 3, .object "GluedMachines$Formula", false, false, 609), (148, 3, 0, .int, true, false, 599), (151, 3, 5, .array (.object "GluedMachines$Formula"), true, false, 615), (154, 3, 2, .object "GluedMachines$Event", true, false, 607), (158, 3, 4, .object "GluedMachines$Formula", false, false, 612), (167, 5, 4, .object "GluedMachines$Invariants", true, false, 150), (178, 5, 5, .object "GluedMachines$Formula", false, false, 153), (194, 6, 1, .array .int, true, false, 183), (203, 5, 2, .array (.object "GluedMachines$Event"), true, false, 144), (223, 7, 4, .boolean, false, false, 208), (230, 7, 5, .boolean, false, false, 210), (233, 7, 3, .int, false, false, 206), (245, 7, 1, .array .int, true, false, 203), (250, 3, 1, .int, true, false, 603), (253, 2, 4, .boolean, true, false, 554)],
  [(9, 1, 0, .array .int, true, true, 76), (15, 1, 1, .array .int, true, true, 78), (18, 1, 2, .array .int, true, true, 80), (21, 1, 3, .int, false, true, 83)],
  [(9, 2, 3, .array .int, true, true, 552), (15, 1, 0, .array .int, true, false, 77), (20, 1, 3, .int, false, false, 82), (30, 2, 0, .array .int, true, true, 549), (31, 2, 1, .array .int, true, true, 550), (34, 2, 2, .array .int, true, true, 551), (37, 1, 2, .array .int, true, false, 81), (44, 1, 1, .array .int, true, false, 79), (49, 2, 4, .boolean, true, true, 553), (53, 2, 5, .int, true, true, 555)],
  [(9, 3, 3, .object "GluedMachines$Formula", false, true, 608), (15, 3, 4, .object "GluedMachines$Formula", false, true, 610), (20, 3, 5, .array (.object "GluedMachines$Formula"), true, true, 613), (24, 3, 0, .int, true, true, 597), (28, 3, 1, .int, true, true, 600), (31, 3, 2, .object "GluedMachines$Event", true, true, 604), (47, 2, 5, .int, true, false, 557)],
  [(11, 4, 0, .array (.object "GluedMachines$Formula"), true, true, 112), (17, 4, 1, .array (.object "GluedMachines$Formula"), true, true, 113), (20, 4, 2, .int, false, true, 114), (24, 4, 3, .int, false, true, 115), (27, 4, 4, .array .long, true, true, 116), (31, 4, 5, .array .long, true, true, 117), (44, 2, 5, .int, true, false, 556)],
  [(9, 5, 0, .array .int, true, true, 135), (15, 5, 1, .array .int, true, true, 138), (20, 5, 2, .array (.object "GluedMachines$Event"), true, true, 142), (24, 5, 3, .int, false, true, 145), (31, 5, 4, .object "GluedMachines$Invariants", true, true, 148), (35, 5, 5, .object "GluedMachines$Formula", false, true, 151), (39, 5, 6, .array .int, true, true, 154), (42, 5, 7, .array .int, true, true, 157), (71, 3, 2, .object "GluedMachines$Event", true, false, 605), (79, 3, 5, .array (.object "GluedMachines$Formula"), true, false, 614), (83, 3, 1, .int, true, false, 602), (90, 3, 4, .object "GluedMachines$Formula", false, false, 611)],
  [(9, 6, 1, .array .int, true, true, 182), (15, 6, 2, .array .int, true, true, 184), (18, 6, 3, .int, false, true, 185), (22, 6, 0, .object "GluedMachines$Model", true, true, 181), (26, 5, 1, .array .int, true, false, 139), (37, 5, 4, .object "GluedMachines$Invariants", true, false, 149), (51, 5, 3, .int, false, false, 146), (54, 5, 2, .array (.object "GluedMachines$Event"), true, false, 143), (58, 3, 0, .int, true, false, 598), (77, 3, 1, .int, true, false, 601), (96, 5, 5, .object "GluedMachines$Formula", false, false, 152), (100, 2, 5, .int, true, false, 558), (104, 3, 2, .object "GluedMachines$Event", true, false, 606), (108, 5, 0, .array .int, true, false, 137), (125, 5, 6, .array .int, true, false, 156)],
  [(9, 7, 1, .array .int, true, true, 202), (15, 7, 2, .array .int, true, true, 204), (18, 7, 3, .int, false, true, 205), (22, 7, 4, .boolean, false, true, 207), (26, 7, 5, .boolean, false, true, 209), (29, 7, 0, .object "GluedMachines$Model", true, true, 201), (36, 5, 1, .array .int, true, false, 140), (60, 5, 6, .array .int, true, false, 155)],
  [(7, 8, 1, .array .int, false, true, 805), (13, 8, 2, .array .int, false, true, 806), (16, 8, 4, .array .int, false, true, 808), (19, 8, 6, .array .int, false, true, 810), (22, 8, 7, .array .int, false, true, 811), (25, 8, 8, .array .boolean, false, true, 812), (29, 8, 9, .array .boolean, false, true, 813), (32, 8, 10, .array .boolean, false, true, 814), (35, 8, 12, .array .int, false, true, 816), (38, 8, 13, .array .int, false, true, 817), (41, 8, 14, .array .int, false, true, 818), (44, 8, 15, .array .int, false, true, 819), (47, 8, 16, .array .int, false, true, 820), (50, 8, 17, .array .int, false, true, 821), (53, 8, 18, .array .int, false, true, 822), (56, 8, 19, .array .int, false, true, 823), (59, 8, 20, .int, false, true, 824), (63, 8, 21, .array .int, false, true, 825), (66, 8, 22, .array .int, false, true, 826), (69, 8, 26, .array .int, false, true, 830), (72, 8, 28, .array .int, false, true, 832), (75, 8, 30, .array .int, false, true, 834), (78, 8, 0, .int, false, true, 804), (85, 8, 3, .int, false, true, 807), (88, 8, 29, .int, false, true, 833), (106, 8, 5, .int, false, true, 809), (116, 8, 23, .boolean, false, true, 827), (120, 8, 11, .int, false, true, 815), (165, 8, 32, .int, false, true, 835), (184, 8, 27, .boolean, false, true, 831), (187, 8, 24, .boolean, false, true, 828), (190, 8, 25, .int, false, true, 829)],
  [],
  [],
  [],
  []]
def tb_cal : List (List (Nat × Nat × Nat × Nat × Bool × Nat)) := [[(9, 1, 0, 2, true, 72), (36, 2, 0, 2, false, 99), (43, 5, 1, 2, false, 177), (52, 6, 1, 2, false, 197), (57, 40, 1, 0, false, 396), (61, 26, 2, 0, false, 399), (74, 35, 0, 1, false, 463), (77, 43, 1, 0, false, 472), (88, 45, 1, 1, false, 493), (92, 48, 0, 1, false, 504), (96, 54, 0, 1, false, 525), (99, 55, 1, 2, false, 530), (102, 60, 1, 0, false, 579), (105, 61, 2, 1, false, 582), (113, 62, 1, 1, false, 586), (117, 63, 3, 2, false, 592), (120, 64, 1, 1, false, 629), (123, 67, 1, 1, false, 640), (126, 68, 1, 1, false, 644), (130, 70, 1, 1, false, 651), (134, 69, 1, 0, false, 648), (142, 74, 1, 1, false, 666), (145, 75, 1, 0, false, 670), (161, 80, 0, 1, false, 687), (164, 71, 0, 1, false, 691), (171, 12, 1, 1, false, 692), (175, 81, 2, 1, false, 693), (181, 87, 2, 1, false, 714), (184, 8, 0, 1, false, 253), (187, 88, 0, 1, false, 719), (190, 17, 2, 1, false, 295), (207, 16, 0, 1, false, 291), (211, 32, 1, 0, false, 360), (216, 34, 0, 1, false, 370), (219, 94, 2, 1, false, 742), (226, 95, 2, 1, false, 746), (239, 98, 2, 1, false, 775), (242, 101, 0, 1, false, 787), (246, 9, 2, 1, false, 387), (256, 21, 1, 1, false, 718)],
  [(27, 49, 1, 1, false, 508), (31, 53, 1, 0, false, 522), (34, 44, 1, 0, false, 512), (38, 50, 1, 0, false, 513), (41, 51, 1, 0, false, 516), (44, 52, 1, 0, false, 519)],
  [(24, 56, 2, 0, false, 534), (40, 57, 1, 0, false, 546), (56, 14, 1, 0, false, 279), (59, 15, 4, 0, false, 282)],
  [(35, 71, 0, 1, false, 655), (39, 13, 1, 1, false, 324), (43, 16, 0, 1, false, 315)],
  [(34, 82, 2, 0, false, 697), (40, 12, 1, 1, false, 271), (47, 10, 2, 0, false, 264), (51, 11, 4, 1, false, 267), (55, 13, 1, 1, false, 275)],
  [(30, 3, 0, 2, true, 107), (45, 4, 2, 0, false, 132), (51, 26, 2, 0, true, 334), (55, 13, 1, 1, false, 333), (67, 25, 2, 1, false, 355), (75, 28, 2, 1, false, 341), (86, 23, 1, 1, false, 346)],
  [(41, 9, 2, 1, false, 260), (47, 20, 1, 1, false, 307), (63, 19, 0, 1, false, 303), (66, 22, 2, 1, false, 316), (70, 89, 0, 1, false, 723), (74, 31, 0, 1, false, 356), (80, 23, 1, 1, false, 320), (84, 18, 1, 1, false, 299), (88, 24, 2, 1, false, 325), (92, 21, 1, 1, false, 311), (111, 25, 2, 1, false, 329), (115, 27, 2, 1, false, 337), (118, 29, 1, 1, false, 347), (122, 30, 2, 1, false, 351)],
  [(33, 35, 0, 1, false, 374), (47, 23, 1, 1, false, 750), (53, 30, 2, 1, false, 751), (57, 27, 2, 1, false, 779)],
  [(81, 107, 1, 1, false, 912), (91, 110, 1, 1, false, 924), (95, 111, 2, 1, false, 928), (99, 112, 1, 1, false, 932), (102, 109, 0, 1, false, 920), (109, 130, 1, 1, false, 1004), (112, 129, 3, 1, false, 1000), (123, 115, 1, 1, false, 944), (126, 118, 1, 1, false, 956), (129, 117, 3, 1, false, 952), (133, 128, 3, 1, false, 996), (137, 127, 2, 1, false, 992), (141, 134, 2, 1, false, 1020), (145, 137, 2, 1, false, 1032), (149, 135, 2, 1, false, 1024), (152, 132, 2, 1, false, 1012), (155, 136, 2, 1, false, 1028), (158, 138, 2, 1, false, 1036), (161, 126, 1, 1, false, 988), (168, 131, 0, 1, false, 1008), (171, 133, 3, 1, false, 1016), (175, 139, 1, 1, false, 1040), (178, 124, 2, 1, false, 980), (181, 125, 2, 1, false, 984), (193, 144, 2, 1, false, 1060), (196, 145, 0, 1, false, 1064)],
  [(7, 39, 3, 1, false, 392), (15, 42, 1, 1, false, 468), (21, 47, 0, 1, false, 500), (25, 59, 3, 1, false, 575), (29, 66, 2, 1, false, 636), (33, 73, 3, 1, false, 662), (36, 77, 2, 1, false, 676), (39, 79, 2, 1, false, 683), (43, 84, 1, 1, false, 703), (47, 86, 2, 1, false, 710), (51, 91, 1, 1, false, 731), (54, 93, 2, 1, false, 738), (57, 97, 2, 1, false, 756), (62, 100, 0, 1, false, 783), (65, 103, 1, 1, false, 794), (68, 0, 0, 2, false, 64), (71, 104, 0, 2, false, 800), (72, 38, 4, 0, false, 388), (77, 113, 3, 1, false, 936), (78, 105, 0, 1, false, 904), (81, 41, 3, 0, false, 464), (84, 106, 1, 1, false, 908), (85, 46, 2, 0, false, 497), (88, 108, 0, 1, false, 916), (89, 58, 5, 0, false, 572), (92, 114, 3, 1, false, 940), (93, 65, 3, 0, false, 633), (96, 116, 2, 1, false, 948), (97, 72, 4, 0, false, 659), (99, 119, 3, 1, false, 960), (100, 76, 3, 0, false, 673), (102, 120, 2, 1, false, 964), (103, 78, 4, 0, false, 680), (106, 121, 2, 1, false, 968), (107, 83, 2, 0, false, 700), (110, 122, 1, 1, false, 972), (111, 85, 4, 0, false, 707), (113, 123, 2, 1, false, 976), (114, 90, 3, 0, false, 728), (116, 140, 1, 1, false, 1044), (117, 7, 0, 1, false, 249), (120, 141, 0, 1, false, 1048), (121, 33, 0, 1, false, 366), (124, 142, 0, 1, false, 1052), (125, 92, 4, 0, false, 735), (127, 143, 2, 1, false, 1056), (128, 96, 4, 0, false, 752), (130, 146, 2, 1, false, 1068), (131, 99, 2, 0, false, 780), (133, 147, 0, 1, false, 1072), (134, 102, 3, 0, false, 791), (136, 148, 1, 1, false, 1076), (137, 36, 0, 1, false, 379), (141, 149, 0, 1, false, 1080), (142, 37, 0, 1, false, 383), (145, 150, 0, 1, false, 1084)],
  [(9, 44, 1, 0, false, 475)],
  [],
  []]
def tb_spl : List (List (Nat × Nat × List Nat)) := [[(1, 0, [67, 68, 69]), (197, 3, [727, 259, 258, 58])],
  [(3, 0, [75, 68, 69])],
  [(3, 0, [533, 68, 69]), (63, 2, [285, 286, 57, 287]), (69, 1, [288, 289, 57, 290])],
  [(3, 0, [595, 68, 69])],
  [(3, 0, [110, 68, 69])],
  [(3, 0, [102, 68, 69]), (61, 3, [345, 259, 258, 58])],
  [(3, 0, [180, 68, 69]), (31, 3, [257, 259, 258, 58])],
  [(3, 0, [200, 68, 69]), (41, 3, [378, 259, 258, 58])],
  [(1, 0, [803, 68, 69])],
  [],
  [],
  [(150, 3, [545, 259, 258, 58]), (304, 2, [544, 286, 57, 287]), (316, 4, [537, 538, 539, 540, 541]), (317, 5, [543])],
  []]
def tb_mw (z : Nat) : Nat × Nat × Nat × Nat := ([(42, 66, 65, 0), (43, 74, 73, 0), (44, 101, 100, 0), (45, 109, 108, 0), (46, 134, 133, 0), (47, 179, 178, 0), (48, 199, 198, 0), (42, 252, 250, 251), (47, 256, 254, 255), (45, 263, 261, 262), (45, 266, 265, 0), (45, 270, 269, 0), (45, 274, 272, 273), (56, 278, 276, 277), (56, 281, 280, 0), (56, 284, 283, 0), (59, 294, 292, 293), (47, 298, 296, 297), (47, 302, 301, 1), (59, 306, 304, 305), (45, 310, 308, 309), (59, 314, 312, 313), (47, 319, 318, 2), (59, 323, 321, 322), (47, 328, 327, 3), (44, 332, 330, 331), (42, 336, 335, 0), (44, 340, 338, 339), (44, 344, 343, 4), (44, 350, 348, 349), (44, 354, 352, 353), (47, 359, 358, 5), (60, 362, 361, 0), (42, 369, 367, 368), (48, 373, 371, 372), (48, 377, 375, 376), (42, 382, 380, 381), (42, 386, 384, 385), (41, 390, 389, 0), (42, 395, 393, 394), (42, 398, 397, 0), (41, 466, 465, 0), (42, 471, 469, 470), (54, 474, 473, 0), (54, 477, 476, 0), (43, 496, 494, 495), (41, 499, 498, 0), (42, 503, 501, 502), (43, 507, 505, 506), (43, 511, 510, 7), (54, 515, 514, 0), (54, 518, 517, 0), (54, 521, 520, 0), (54, 524, 523, 0), (43, 528, 526, 527), (56, 532, 531, 0), (46, 536, 535, 0), (56, 548, 547, 0), (41, 574, 573, 0), (42, 578, 576, 577), (42, 581, 580, 0), (42, 585, 584, 8), (44, 589, 587, 588), (59, 594, 593, 0), (44, 632, 630, 631), (41, 635, 634, 0), (42, 639, 637, 638), (42, 643, 642, 9), (42, 647, 646, 10), (42, 650, 649, 0), (59, 654, 652, 653), (56, 658, 656, 657), (41, 661, 660, 0), (42, 665, 663, 664), (42, 669, 668, 11), (42, 672, 671, 0), (41, 675, 674, 0), (42, 679, 677, 678), (41, 682, 681, 0), (42, 686, 684, 685), (56, 690, 688, 689), (45, 696, 694, 695), (46, 699, 698, 0), (41, 702, 701, 0), (42, 706, 704, 705), (41, 709, 708, 0), (42, 713, 711, 712), (42, 717, 716, 12), (47, 722, 720, 721), (47, 726, 725, 13), (41, 730, 729, 0), (42, 734, 732, 733), (41, 737, 736, 0), (42, 741, 739, 740), (42, 745, 744, 14), (48, 749, 747, 748), (41, 754, 753, 0), (42, 759, 757, 758), (48, 778, 776, 777), (41, 782, 781, 0), (42, 786, 784, 785), (48, 790, 788, 789), (41, 793, 792, 0), (42, 797, 795, 796), (49, 802, 801, 0), (49, 907, 905, 906), (49, 911, 909, 910), (49, 915, 914, 15), (49, 919, 917, 918), (49, 923, 922, 16), (49, 927, 926, 17), (49, 931, 930, 18), (49, 935, 934, 19), (49, 939, 937, 938), (49, 943, 941, 942), (49, 947, 946, 20), (49, 951, 949, 950), (49, 955, 954, 21), (49, 959, 958, 22), (49, 963, 961, 962), (49, 967, 965, 966), (49, 971, 969, 970), (49, 975, 973, 974), (49, 979, 977, 978), (49, 983, 982, 23), (49, 987, 986, 24), (49, 991, 990, 25), (49, 995, 994, 26), (49, 999, 998, 27), (49, 1003, 1002, 28), (49, 1007, 1006, 29), (49, 1011, 1010, 30), (49, 1015, 1014, 31), (49, 1019, 1018, 32), (49, 1023, 1022, 33), (49, 1027, 1026, 34), (49, 1031, 1030, 35), (49, 1035, 1034, 36), (49, 1039, 1038, 37), (49, 1043, 1042, 38), (49, 1047, 1045, 1046), (49, 1051, 1049, 1050), (49, 1055, 1053, 1054), (49, 1059, 1057, 1058), (49, 1063, 1062, 39), (49, 1067, 1066, 40), (49, 1071, 1069, 1070), (49, 1075, 1073, 1074), (49, 1079, 1077, 1078), (49, 1083, 1081, 1082), (49, 1087, 1085, 1086), (0, 0, 0, 0)] : List (Nat × Nat × Nat × Nat)).getD z (0, 0, 0, 0)
def tb_rc (z : Nat) : Nat := ([0, 1, 5, 4, 99, 6, 7, 0, 6, 4, 4, 4, 4, 2, 2, 2, 3, 6, 6, 3, 4, 3, 6, 3, 6, 5, 0, 5, 5, 5, 5, 6, 99, 0, 7, 7, 0, 0, 99, 0, 0, 99, 0, 99, 99, 1, 99, 0, 1, 1, 99, 99, 99, 99, 1, 2, 99, 2, 99, 0, 0, 0, 5, 3, 5, 99, 0, 0, 0, 0, 3, 2, 99, 0, 0, 0, 99, 0, 99, 0, 2, 4, 99, 99, 0, 99, 0, 0, 6, 6, 99, 0, 99, 0, 0, 7, 99, 0, 7, 99, 0, 7, 99, 0, 8, 8, 8, 8, 8, 8, 8, 8, 8, 8, 8, 8, 8, 8, 8, 8, 8, 8, 8, 8, 8, 8, 8, 8, 8, 8, 8, 8, 8, 8, 8, 8, 8, 8, 8, 8, 8, 8, 8, 8, 8, 8, 8, 8, 8, 8, 8, 99] : List Nat).getD z 99
def tb_nwl : List (List (Nat × Nat × Nat × Nat × Nat)) := [[(111, 3, 590, 591, 59), (16, 2, 95, 529, 56), (34, 5, 97, 98, 44), (41, 6, 175, 176, 47), (50, 7, 195, 196, 48), (7, 1, 70, 71, 43)], [], [], [], [], [(28, 4, 105, 106, 45)], [], [], [], [(69, 8, 798, 799, 49), (8, 0, 62, 63, 42)], [], [], []]
def tb_anl : List (List (Nat × Nat × Nat)) := [[(16, 3, 95)], [], [], [(18, 3, 596)], [(9, 3, 111)], [(18, 4, 103)], [], [], [], [], [], [], []]
def tb_xnl : List (List (Nat × Nat × Nat × Nat × Nat)) := [[(236, 238, 11, 760, 61), (65, 67, 9, 400, 53), (85, 87, 10, 478, 55)], [], [], [], [], [], [], [], [], [], [], [], []]
def tb_df (c : Nat) : List Value := ([[.null, .null, .int 0, .null, .null, .null, .null, .int 0], [.null, .null, .null, .int 0], [.null, .null, .null, .null, .int 0, .int 0], [.int 0, .int 0, .null, .null, .null, .null], [.null, .null, .int 0, .int 0, .null, .null], [.null, .null, .null, .int 0, .null, .null, .null, .null], [.null, .null, .null, .int 0], [.null, .null, .null, .int 0, .int 0, .int 0], [.int 0, .null, .null, .int 0, .null, .int 0, .null, .null, .null, .null, .null, .int 0, .null, .null, .null, .null, .null, .null, .null, .null, .int 0, .null, .null, .int 0, .int 0, .int 0, .null, .int 0, .null, .int 0, .null, .int 0, .int 0]] : List (List Value)).getD c []
def tb_kcl : List (List (Nat × Int32 × Nat)) := [[], [], [], [], [], [], [], [], [], [], [], [], [(265, 1431655765, 363), (266, 858993459, 364), (267, 252645135, 365)]]
def tb_nest : List (String × Nat × MethodName × String) := [("GluedMachines", 9, ⟨"GluedMachines$Writing", "<init>", "()V"⟩, "GluedMachines"), ("GluedMachines$Model", 30, ⟨"GluedMachines$Invariants", "<init>", "()V"⟩, "GluedMachines"), ("GluedMachines$Model", 51, ⟨"GluedMachines", "isWithin", "(II)Z"⟩, "GluedMachines")]
def tb_P (L : Nat) (xs : Nat → Int32) : am_P := (tb_me, (fun y ix => match (tb_fdl.getD (tb_kl y) []).find? (fun e => e.1 == ix) with
    | some (_, ci, k, ty, fin, same, _) => some (ci, k, ty, !fin || (tb_ini y && same))
    | none => none), (fun y ix => match (tb_cal.getD (tb_kl y) []).find? (fun e => e.1 == ix) with
    | some (_, z, n, k, _, _) => some (z, n, k)
    | none => none), (fun y ix => match (tb_spl.getD (tb_kl y) []).find? (fun e => e.1 == ix) with
    | some (_, k, _) => some k
    | none => none), (fun y ix => match (tb_nwl.getD (tb_kl y) []).find? (fun e => e.1 == ix) with
    | some (_, ci, _, _, _) => some ci
    | none => none), (fun y ix ic => match (tb_xnl.getD (tb_kl y) []).find? (fun e => e.1 == ix && e.2.1 == ic) with
    | some (_, _, E, _, _) => some E
    | none => none), (fun y ix => match (tb_anl.getD (tb_kl y) []).find? (fun e => e.1 == ix) with
    | some (_, t, _) => some t
    | none => none), tb_df, tb_rc, (fun t => if t = 3 then 2 else 3), L, xs, (fun y ix => match (tb_kcl.getD (tb_kl y) []).find? (fun e => e.1 == ix) with
    | some (_, v, _) => some v
    | none => none), [9, 10, 11])
end
section
/-! What the tables say is in the Statement's words. -/
section BF
def am_gw (w : Cond) : Bool := (w.onTables && w.keeps) || (match w with
  | .arrayClass _ => true
  | _ => false)
def tb_TAB : List Cond := lw_tbl.filter am_gw
theorem tb_good : ∀ w ∈ tb_TAB, (w.onTables && w.keeps) = true ∨ ∃ ty, w = .arrayClass ty := by
  intro w hw
  have h1 := (List.mem_filter.mp hw).2
  unfold am_gw at h1
  rcases Bool.or_eq_true _ _ |>.mp h1 with h2 | h2
  · exact Or.inl h2
  · right
    cases w <;> first | exact ⟨_, rfl⟩ | cases h2
def tb_ck (i : Nat) (w : Cond) : Bool := decide (lw_tbl[i]? = some w) && am_gw w
theorem tb_in {i : Nat} {w : Cond} (h : tb_ck i w = true) : w ∈ tb_TAB := by
  unfold tb_ck at h
  simp only [Bool.and_eq_true, decide_eq_true_eq] at h
  exact List.mem_filter.mpr ⟨List.mem_of_getElem? h.1, h.2⟩
theorem tb_getD {α : Type} {l : List α} {d : α} {Pp : α → Prop} (h : ∀ a ∈ l, Pp a) (hd : Pp d) (y : Nat) : Pp (l.getD y d) := by
  rw [List.getD_eq_getElem?_getD]
  cases hy : l[y]? with
  | none => exact hd
  | some a => exact h a (List.mem_of_getElem? hy)
theorem tb_getDo {α : Type} {l : List α} {d : α} {y : Nat} (h : l.length ≤ y) : l.getD y d = d := by
  rw [List.getD_eq_getElem?_getD, List.getElem?_eq_none h]
  rfl
theorem tb_find {α : Type} {L : List (List α)} {o n : Nat} {p : α → Bool} {e : α} {chk : Nat → α → Bool} (hall : (List.range n).all (fun o => (L.getD o []).all (chk o)) = true) (ho : o < n) (hf : (L.getD o []).find? p = some e) : chk o e = true ∧ p e = true :=
  ⟨List.all_eq_true.mp (List.all_eq_true.mp hall o (List.mem_range.mpr ho)) e (List.mem_of_find?_eq_some hf), List.find?_some hf⟩
theorem tb_kl_lt (y : Nat) : tb_kl y < 13 := tb_getD (Pp := fun o => o < 13) (by decide +kernel) (by decide +kernel) y
theorem tb_len : tb_ml.length = 152 := by decide +kernel
theorem tb_own_all : (List.range 152).all (fun y => decide ((am_nm (tb_me y)).cls = tb_on (tb_kl y)) && (!tb_ini y || decide ((am_nm (tb_me y)).name = "<init>"))) = true := by decide +kernel
theorem tb_own (y : Nat) : (am_nm (tb_me y)).cls = tb_on (tb_kl y) ∧ (tb_ini y = true → (am_nm (tb_me y)).name = "<init>") := by
  by_cases h : y < 152
  · have h1 := List.all_eq_true.mp tb_own_all y (List.mem_range.mpr h)
    simp only [Bool.and_eq_true, decide_eq_true_eq, Bool.or_eq_true, Bool.not_eq_true'] at h1
    refine ⟨h1.1, fun hi => ?_⟩
    rcases h1.2 with h2 | h2
    · rw [hi] at h2; cases h2
    · exact h2
  · have h2 : tb_me y = (⟨"GluedMachinesLaw", "law", "([I)Z"⟩, code, 7, ret, [], 0, 0) := tb_getDo (by rw [tb_len]; omega)
    have h3 : tb_kl y = 9 := tb_getDo (Nat.le_trans (m := 152) (by decide +kernel) (Nat.not_lt.mp h))
    have h4 : tb_ini y = false := tb_getDo (Nat.le_trans (m := 152) (by decide +kernel) (Nat.not_lt.mp h))
    refine ⟨by rw [h2, h3]; decide +kernel, fun hi => ?_⟩
    rw [h4] at hi; cases hi
-- fields
def tb_kF (o : Nat) (e : Nat × Nat × Nat × FieldType × Bool × Bool × Nat) : Bool := match tb_cl[e.2.1]? with
  | some (_, T, N) => decide (e.2.2.1 < N) && tb_ck e.2.2.2.2.2.2 (.fieldLink (tb_on o) e.1 (T e.2.2.1).1 (T e.2.2.1).2.1 (T e.2.2.1).2.2.1) && decide (parseFieldDescriptor (T e.2.2.1).2.2.1 = some e.2.2.2.1) && decide ((T e.2.2.1).2.2.2 = e.2.2.2.2.1) && (!e.2.2.2.2.2.1 || decide ((T e.2.2.1).1 = tb_on o))
  | none => false
theorem tb_kF_all : (List.range 13).all (fun o => (tb_fdl.getD o []).all (tb_kF o)) = true := by decide +kernel
theorem tb_okF (L : Nat) (xs : Nat → Int32) : am_okF (tb_P L xs) tb_TAB tb_cl := by
  intro y ix ci k ty wr hx
  have hx : (match (tb_fdl.getD (tb_kl y) []).find? (fun e => e.1 == ix) with
    | some (_, ci, k, ty, fin, same, _) => some (ci, k, ty, !fin || (tb_ini y && same))
    | none => none) = some (ci, k, ty, wr) := hx
  split at hx
  · rename_i ix' ci' k' ty' fin same wi hfind
    cases hx
    obtain ⟨h1, h2⟩ := tb_find tb_kF_all (tb_kl_lt y) hfind
    have h2 : ix' = ix := by simpa using h2
    subst h2
    unfold tb_kF at h1
    dsimp only at h1
    split at h1
    · rename_i C T N hc
      simp only [Bool.and_eq_true, decide_eq_true_eq, Bool.or_eq_true, Bool.not_eq_true'] at h1
      obtain ⟨⟨⟨⟨g1, g2⟩, g3⟩, g4⟩, g5⟩ := h1
      refine ⟨C, T, N, hc, g1, ?_, g3, fun hw => ?_⟩
      · show Cond.fieldLink (am_nm (tb_me y)).cls _ _ _ _ ∈ tb_TAB
        rw [(tb_own y).1]
        exact tb_in g2
      · rw [g4]
        cases fin with
        | false => exact Or.inl rfl
        | true =>
          right
          simp only [Bool.not_true, Bool.false_or, Bool.and_eq_true] at hw
          refine ⟨rfl, (tb_own y).2 hw.1, ?_⟩
          show _ = (am_nm (tb_me y)).cls
          rw [(tb_own y).1]
          rcases g5 with g5 | g5
          · rw [hw.2] at g5; cases g5
          · exact g5
    · cases h1
  · cases hx

-- a word by search
def tb_mem (w : Cond) : Bool := decide (w ∈ lw_tbl) && am_gw w
theorem tb_mm {w : Cond} (h : tb_mem w = true) : w ∈ tb_TAB := by
  unfold tb_mem at h
  simp only [Bool.and_eq_true, decide_eq_true_eq] at h
  exact List.mem_filter.mpr h
-- classes
def tb_kC (c : vw_C) : Bool := (u_ws c.1 c.2.1 c.2.2).all tb_mem && (List.range c.2.2).all (fun k => (parseFieldDescriptor (c.2.1 k).2.2.1).isSome) && (List.range c.2.2).all (fun x => (List.range c.2.2).all (fun z => decide (x = z) || !decide ((c.2.1 x).2.1 = (c.2.1 z).2.1)))
theorem tb_kC_all : tb_cl.all tb_kC = true := by decide +kernel
theorem tb_okC : am_okC tb_TAB tb_cl := by
  intro ci C T N hc
  have h1 := List.all_eq_true.mp tb_kC_all _ (List.mem_of_getElem? hc)
  unfold tb_kC at h1
  simp only [Bool.and_eq_true, List.all_eq_true, List.mem_range, Bool.or_eq_true, decide_eq_true_eq, Bool.not_eq_true', decide_eq_false_iff_not] at h1
  obtain ⟨⟨g1, g2⟩, g3⟩ := h1
  refine ⟨fun w hw => tb_mm (g1 w hw), ⟨fun k => (parseFieldDescriptor (T k).2.2.1).getD .int, fun k hk => ?_⟩, fun x hx z hz hn => ?_⟩
  · have h2 := g2 k hk
    cases h3 : parseFieldDescriptor (T k).2.2.1 with
    | none => rw [h3] at h2; cases h2
    | some v => dsimp only; rw [h3]; rfl
  · rcases g3 x hx z hz with h4 | h4
    · exact absurd h4 hn
    · exact h4
theorem tb_okT (L : Nat) (xs : Nat → Int32) : am_okT (tb_P L xs) tb_cl tb_tt := by
  refine ⟨rfl, rfl, rfl, rfl, fun t ht ty hy => ?_⟩
  match t, ht, hy with
  | 3, _, hy => cases hy; exact ⟨_, _, _, rfl, rfl⟩
  | 4, _, hy => cases hy; exact ⟨_, _, _, rfl, rfl⟩
  | t + 5, _, hy => cases hy
theorem tb_okA : am_okA tb_TAB := ⟨tb_mm (by decide +kernel), tb_mm (by decide +kernel), tb_mm (by decide +kernel)⟩
-- classes that are made
def tb_kN (o : Nat) (e : Nat × Nat × Nat × Nat × Nat) : Bool := match tb_cl[e.2.1]? with
  | some (C, T, N) => tb_ck e.2.2.1 (.classLink (tb_on o) e.1 C) && tb_ck e.2.2.2.1 (.instantiable C N) && tb_ck e.2.2.2.2 (.initialized C) && decide (am_ez (.inr (e.2.1, tb_df e.2.1)) = N) && (List.range N).all (fun k => decide ((parseFieldDescriptor (T k).2.2.1).map defaultValue = some (vp_V (tb_df e.2.1) k))) && (tb_df e.2.1).all (fun v => match v with
    | .ref _ => false
    | _ => true)
  | none => false
theorem tb_kN_all : (List.range 13).all (fun o => (tb_nwl.getD o []).all (tb_kN o)) = true := by decide +kernel
theorem tb_okN (L : Nat) (xs : Nat → Int32) : am_okN (tb_P L xs) tb_TAB tb_cl := by
  intro y ix ci hx
  have hx : (match (tb_nwl.getD (tb_kl y) []).find? (fun e => e.1 == ix) with
    | some (_, ci, _, _, _) => some ci
    | none => none) = some ci := hx
  split at hx
  · rename_i ix' ci' w1 w2 w3 hfind
    cases hx
    obtain ⟨h1, h2⟩ := tb_find tb_kN_all (tb_kl_lt y) hfind
    have h2 : ix' = ix := by simpa using h2
    subst h2
    unfold tb_kN at h1
    dsimp only at h1
    split at h1
    · rename_i C T N hc
      simp only [Bool.and_eq_true, decide_eq_true_eq, List.all_eq_true, List.mem_range] at h1
      obtain ⟨⟨⟨⟨⟨g1, g2⟩, g3⟩, g4⟩, g5⟩, g6⟩ := h1
      refine ⟨C, T, N, fun k => (parseFieldDescriptor (T k).2.2.1).getD .int, hc, ?_, tb_in g2, tb_in g3, g4, fun k hk => ?_, fun k hk => ?_, fun b bs => ?_⟩
      · show Cond.classLink (am_nm (tb_me y)).cls _ _ ∈ tb_TAB
        rw [(tb_own y).1]
        exact tb_in g1
      · have h5 := g5 k hk
        cases h3 : parseFieldDescriptor (T k).2.2.1 with
        | none => rw [h3] at h5; cases h5
        | some v => dsimp only; rw [h3]; rfl
      · have h5 := g5 k hk
        cases h3 : parseFieldDescriptor (T k).2.2.1 with
        | none => rw [h3] at h5; cases h5
        | some v => rw [h3] at h5; dsimp only; rw [h3]; exact Option.some.inj h5
      · show (tb_df ci).map (am_sv b bs) = tb_df ci
        refine (List.map_congr_left (g := id) fun v hv => ?_).trans (List.map_id _)
        have h7 := g6 v hv
        cases v <;> first | rfl | cases h7
    · cases h1
  · cases hx
def tb_AO : List String := ["GluedMachines$Formula", "GluedMachines$Event"]
def tb_kR (o : Nat) (e : Nat × Nat × Nat) : Bool := match tb_tt[e.2.1]? with
  | some (.object C) => tb_ck e.2.2 (.classLink (tb_on o) e.1 C) && decide (C ∈ tb_AO)
  | _ => false
theorem tb_kR_all : (List.range 13).all (fun o => (tb_anl.getD o []).all (tb_kR o)) = true := by decide +kernel
theorem tb_okR (L : Nat) (xs : Nat → Int32) : am_okR (tb_P L xs) tb_TAB tb_tt tb_AO := by
  intro y ix t hx
  have hx : (match (tb_anl.getD (tb_kl y) []).find? (fun e => e.1 == ix) with
    | some (_, t, _) => some t
    | none => none) = some t := hx
  split at hx
  · rename_i ix' t' w1 hfind
    cases hx
    obtain ⟨h1, h2⟩ := tb_find tb_kR_all (tb_kl_lt y) hfind
    have h2 : ix' = ix := by simpa using h2
    subst h2
    unfold tb_kR at h1
    dsimp only at h1
    split at h1
    · rename_i C hc
      simp only [Bool.and_eq_true, decide_eq_true_eq] at h1
      refine ⟨C, hc, ?_, h1.2⟩
      show Cond.classLink (am_nm (tb_me y)).cls _ _ ∈ tb_TAB
      rw [(tb_own y).1]
      exact tb_in h1.1
    · cases h1
  · cases hx
def tb_kL (o : Nat) (e : Nat × Int32 × Nat) : Bool := tb_ck e.2.2 (.constant (tb_on o) e.1 e.2.1)
theorem tb_kL_all : (List.range 13).all (fun o => (tb_kcl.getD o []).all (tb_kL o)) = true := by decide +kernel
theorem tb_okL (L : Nat) (xs : Nat → Int32) : am_okL (tb_P L xs) tb_TAB := by
  intro y ix v hx
  have hx : (match (tb_kcl.getD (tb_kl y) []).find? (fun e => e.1 == ix) with
    | some (_, v, _) => some v
    | none => none) = some v := hx
  split at hx
  · rename_i ix' v' w1 hfind
    cases hx
    obtain ⟨h1, h2⟩ := tb_find tb_kL_all (tb_kl_lt y) hfind
    have h2 : ix' = ix := by simpa using h2
    subst h2
    unfold tb_kL at h1
    show Cond.constant (am_nm (tb_me y)).cls _ _ ∈ tb_TAB
    rw [(tb_own y).1]
    exact tb_in h1
  · cases hx
-- members that are known
def tb_kS0 (o ix : Nat) (ws : List Nat) : Bool := match ws with
  | [a, b, c] => tb_ck a (.methodLink (tb_on o) ix Lib.objectInit) && tb_ck b (.instanceMethod Lib.objectInit) && tb_ck c (.code Lib.objectInit ⟨#[0xb1]⟩ 1 none)
  | _ => false
def tb_kS1 (o ix : Nat) (ws : List Nat) : Bool := match ws with
  | [a, b, c, d] => tb_ck a (.methodLink (tb_on o) ix Lib.Math.max.name) && tb_ck b (.static Lib.Math.max.name) && tb_ck c (.initialized "java/lang/Math") && tb_ck d (.code Lib.Math.max.name Lib.Math.max.code 2 (some .int))
  | _ => false
def tb_kS2 (o ix : Nat) (ws : List Nat) : Bool := match ws with
  | [a, b, c, d] => tb_ck a (.methodLink (tb_on o) ix Lib.Math.min.name) && tb_ck b (.static Lib.Math.min.name) && tb_ck c (.initialized "java/lang/Math") && tb_ck d (.code Lib.Math.min.name Lib.Math.min.code 2 (some .int))
  | _ => false
def tb_kS3 (o ix : Nat) (ws : List Nat) : Bool := match ws with
  | [a, b, c, d] => tb_ck a (.methodLink (tb_on o) ix arraycopyName) && tb_ck b (.native arraycopyName) && tb_ck c (.static arraycopyName) && tb_ck d (.initialized "java/lang/System")
  | _ => false
def tb_kS4 (o ix : Nat) (ws : List Nat) : Bool := match ws with
  | [a, b, c, d, f] => tb_ck a (.methodLink (tb_on o) ix ⟨"[I", "clone", "()Ljava/lang/Object;"⟩) && tb_ck b (.sameMethod "[I" "java/lang/Object" "clone" "()Ljava/lang/Object;") && tb_ck c (.native ⟨"java/lang/Object", "clone", "()Ljava/lang/Object;"⟩) && tb_ck d (.instanceMethod ⟨"java/lang/Object", "clone", "()Ljava/lang/Object;"⟩) && tb_ck f (.selects "[I" ⟨"[I", "clone", "()Ljava/lang/Object;"⟩ ⟨"java/lang/Object", "clone", "()Ljava/lang/Object;"⟩)
  | _ => false
def tb_kS5 (o ix : Nat) (ws : List Nat) : Bool := match ws with
  | [a] => tb_ck a (.classLink (tb_on o) ix "[I")
  | _ => false
def tb_kS (o : Nat) (e : Nat × Nat × List Nat) : Bool := (!decide (e.2.1 = 0) || tb_kS0 o e.1 e.2.2) && (!decide (e.2.1 = 1) || tb_kS1 o e.1 e.2.2) && (!decide (e.2.1 = 2) || tb_kS2 o e.1 e.2.2) && (!decide (e.2.1 = 3) || tb_kS3 o e.1 e.2.2) && (!decide (e.2.1 = 4) || tb_kS4 o e.1 e.2.2) && (!decide (e.2.1 = 5) || tb_kS5 o e.1 e.2.2)
theorem tb_kS_all : (List.range 13).all (fun o => (tb_spl.getD o []).all (tb_kS o)) = true := by decide +kernel
theorem tb_okS (L : Nat) (xs : Nat → Int32) : am_okS (tb_P L xs) tb_TAB := by
  intro y ix k hx
  have hx : (match (tb_spl.getD (tb_kl y) []).find? (fun e => e.1 == ix) with
    | some (_, k, _) => some k
    | none => none) = some k := hx
  have hcls : (am_nm (am_me (tb_P L xs) y)).cls = tb_on (tb_kl y) := (tb_own y).1
  rw [hcls]
  split at hx
  · rename_i ix' k' ws hfind
    have hk' : k' = k := Option.some.inj hx
    subst hk'
    obtain ⟨h1, h2⟩ := tb_find tb_kS_all (tb_kl_lt y) hfind
    have h2 : ix' = ix := by simpa using h2
    subst h2
    unfold tb_kS at h1
    dsimp only at h1
    simp only [Bool.and_eq_true, Bool.or_eq_true, Bool.not_eq_true', decide_eq_false_iff_not] at h1
    obtain ⟨⟨⟨⟨⟨h0, h1⟩, h2⟩, h3⟩, h4⟩, h5⟩ := h1
    refine ⟨fun hk => ?_, fun hk => ?_, fun hk => ?_, fun hk => ?_, fun hk => ?_, fun hk => ?_⟩
    · have h := h0.resolve_left (fun hn => hn hk)
      unfold tb_kS0 at h
      split at h
      · simp only [Bool.and_eq_true] at h
        exact ⟨tb_in h.1.1, tb_in h.1.2, tb_in h.2⟩
      · cases h
    · have h := h1.resolve_left (fun hn => hn hk)
      unfold tb_kS1 at h
      split at h
      · simp only [Bool.and_eq_true] at h
        exact ⟨tb_in h.1.1.1, tb_in h.1.1.2, tb_in h.1.2, tb_in h.2⟩
      · cases h
    · have h := h2.resolve_left (fun hn => hn hk)
      unfold tb_kS2 at h
      split at h
      · simp only [Bool.and_eq_true] at h
        exact ⟨tb_in h.1.1.1, tb_in h.1.1.2, tb_in h.1.2, tb_in h.2⟩
      · cases h
    · have h := h3.resolve_left (fun hn => hn hk)
      unfold tb_kS3 at h
      split at h
      · simp only [Bool.and_eq_true] at h
        exact ⟨tb_in h.1.1.1, tb_in h.1.1.2, tb_in h.1.2, tb_in h.2⟩
      · cases h
    · have h := h4.resolve_left (fun hn => hn hk)
      unfold tb_kS4 at h
      split at h
      · simp only [Bool.and_eq_true] at h
        exact ⟨tb_in h.1.1.1.1, tb_in h.1.1.1.2, tb_in h.1.1.2, tb_in h.1.2, tb_in h.2⟩
      · cases h
    · have h := h5.resolve_left (fun hn => hn hk)
      unfold tb_kS5 at h
      split at h
      · exact tb_in h
      · cases h
  · cases hx
theorem tb_OK (L : Nat) (xs : Nat → Int32) : am_OK (tb_P L xs) tb_TAB tb_AO tb_cl tb_tt := ⟨tb_okF L xs, tb_okC, tb_okT L xs, tb_okA, tb_okN L xs, tb_okR L xs, tb_okS L xs, tb_okL L xs⟩
end BF
end
section
/-! What the tables say of calls, of exceptions and of handlers. -/
section BG
def tb_NST : (List (String × Nat × MethodName × String)) × (List (String × String × String)) × (List MethodName) × (List (Nat × Nat)) := (tb_nest, [("java/lang/Throwable", "UNASSIGNED_STACK", "[Ljava/lang/StackTraceElement;"), ("java/lang/Throwable", "SUPPRESSED_SENTINEL", "Ljava/util/List;")], [⟨"java/lang/RuntimeException", "<init>", "()V"⟩, ⟨"java/lang/Exception", "<init>", "()V"⟩, ⟨"java/lang/Throwable", "<init>", "()V"⟩], [(9, 10), (9, 11), (10, 9), (10, 11), (11, 9), (11, 10)])
def tb_kM (z : Nat) : Bool := plainFor (am_nm (tb_me z)) && !decide ((am_nm (tb_me z)).cls = "java/lang/invoke/MethodHandle") && !decide ((am_nm (tb_me z)).cls = "java/lang/invoke/VarHandle") && tb_ck (tb_mw z).1 (.initialized (am_nm (tb_me z)).cls) && (match am_hd (tb_me z) with
  | [] => tb_ck (tb_mw z).2.1 (.code (am_nm (tb_me z)) (am_cd (tb_me z)) (am_ml (tb_me z)) (am_rt (tb_me z)))
  | q :: r => tb_ck (tb_mw z).2.1 (.codeWith (am_nm (tb_me z)) (am_cd (tb_me z)) (am_ml (tb_me z)) (am_rt (tb_me z)) ((q :: r).map (fun q => (q.1, q.2.1, q.2.2.1, q.2.2.2.1)))))
theorem tb_kM0 : (List.range' 0 10).all tb_kM = true := by decide +kernel
theorem tb_kM1 : (List.range' 10 7).all tb_kM = true := by decide +kernel
theorem tb_kM2 : (List.range' 17 7).all tb_kM = true := by decide +kernel
theorem tb_kM3 : (List.range' 24 8).all tb_kM = true := by decide +kernel
theorem tb_kM4 : (List.range' 32 16).all tb_kM = true := by decide +kernel
theorem tb_kM5 : (List.range' 48 8).all tb_kM = true := by decide +kernel
theorem tb_kM6 : (List.range' 56 17).all tb_kM = true := by decide +kernel
theorem tb_kM7 : (List.range' 73 13).all tb_kM = true := by decide +kernel
theorem tb_kM8 : (List.range' 86 8).all tb_kM = true := by decide +kernel
theorem tb_kM9 : (List.range' 94 10).all tb_kM = true := by decide +kernel
theorem tb_kM10 : (List.range' 104 4).all tb_kM = true := by decide +kernel
theorem tb_kM11 : (List.range' 108 5).all tb_kM = true := by decide +kernel
theorem tb_kM12 : (List.range' 113 8).all tb_kM = true := by decide +kernel
theorem tb_kM13 : (List.range' 121 4).all tb_kM = true := by decide +kernel
theorem tb_kM14 : (List.range' 125 3).all tb_kM = true := by decide +kernel
theorem tb_kM15 : (List.range' 128 4).all tb_kM = true := by decide +kernel
theorem tb_kM16 : (List.range' 132 6).all tb_kM = true := by decide +kernel
theorem tb_kM17 : (List.range' 138 8).all tb_kM = true := by decide +kernel
theorem tb_kM18 : (List.range' 146 5).all tb_kM = true := by decide +kernel
theorem tb_kM_all {z : Nat} (hz : z < 151) : tb_kM z = true := by
  by_cases h0 : z < 10
  · exact List.all_eq_true.mp tb_kM0 z (List.mem_range'_1.mpr ⟨by omega, by omega⟩)
  by_cases h1 : z < 17
  · exact List.all_eq_true.mp tb_kM1 z (List.mem_range'_1.mpr ⟨by omega, by omega⟩)
  by_cases h2 : z < 24
  · exact List.all_eq_true.mp tb_kM2 z (List.mem_range'_1.mpr ⟨by omega, by omega⟩)
  by_cases h3 : z < 32
  · exact List.all_eq_true.mp tb_kM3 z (List.mem_range'_1.mpr ⟨by omega, by omega⟩)
  by_cases h4 : z < 48
  · exact List.all_eq_true.mp tb_kM4 z (List.mem_range'_1.mpr ⟨by omega, by omega⟩)
  by_cases h5 : z < 56
  · exact List.all_eq_true.mp tb_kM5 z (List.mem_range'_1.mpr ⟨by omega, by omega⟩)
  by_cases h6 : z < 73
  · exact List.all_eq_true.mp tb_kM6 z (List.mem_range'_1.mpr ⟨by omega, by omega⟩)
  by_cases h7 : z < 86
  · exact List.all_eq_true.mp tb_kM7 z (List.mem_range'_1.mpr ⟨by omega, by omega⟩)
  by_cases h8 : z < 94
  · exact List.all_eq_true.mp tb_kM8 z (List.mem_range'_1.mpr ⟨by omega, by omega⟩)
  by_cases h9 : z < 104
  · exact List.all_eq_true.mp tb_kM9 z (List.mem_range'_1.mpr ⟨by omega, by omega⟩)
  by_cases h10 : z < 108
  · exact List.all_eq_true.mp tb_kM10 z (List.mem_range'_1.mpr ⟨by omega, by omega⟩)
  by_cases h11 : z < 113
  · exact List.all_eq_true.mp tb_kM11 z (List.mem_range'_1.mpr ⟨by omega, by omega⟩)
  by_cases h12 : z < 121
  · exact List.all_eq_true.mp tb_kM12 z (List.mem_range'_1.mpr ⟨by omega, by omega⟩)
  by_cases h13 : z < 125
  · exact List.all_eq_true.mp tb_kM13 z (List.mem_range'_1.mpr ⟨by omega, by omega⟩)
  by_cases h14 : z < 128
  · exact List.all_eq_true.mp tb_kM14 z (List.mem_range'_1.mpr ⟨by omega, by omega⟩)
  by_cases h15 : z < 132
  · exact List.all_eq_true.mp tb_kM15 z (List.mem_range'_1.mpr ⟨by omega, by omega⟩)
  by_cases h16 : z < 138
  · exact List.all_eq_true.mp tb_kM16 z (List.mem_range'_1.mpr ⟨by omega, by omega⟩)
  by_cases h17 : z < 146
  · exact List.all_eq_true.mp tb_kM17 z (List.mem_range'_1.mpr ⟨by omega, by omega⟩)
  exact List.all_eq_true.mp tb_kM18 z (List.mem_range'_1.mpr ⟨by omega, by omega⟩)
theorem tb_okM0 {z : Nat} (hz : z < 151) : (am_hd (tb_me z) = [] → Cond.code (am_nm (tb_me z)) (am_cd (tb_me z)) (am_ml (tb_me z)) (am_rt (tb_me z)) ∈ tb_TAB) ∧ am_okM (tb_P 0 (fun _ => 0)) tb_TAB z := by
  have h1 := tb_kM_all hz
  unfold tb_kM at h1
  simp only [Bool.and_eq_true, Bool.not_eq_true', decide_eq_false_iff_not] at h1
  obtain ⟨⟨⟨⟨g1, g2⟩, g3⟩, g4⟩, g5⟩ := h1
  split at g5
  · rename_i he
    exact ⟨fun _ => tb_in g5, g1, ⟨g2, g3⟩, tb_in g4, Or.inl ⟨he, tb_in g5⟩⟩
  · rename_i q r he
    refine ⟨fun hn => (by rw [hn] at he; cases he), g1, ⟨g2, g3⟩, tb_in g4, Or.inr ?_⟩
    show Cond.codeWith (am_nm (tb_me z)) (am_cd (tb_me z)) (am_ml (tb_me z)) (am_rt (tb_me z)) ((am_hd (tb_me z)).map (fun q => (q.1, q.2.1, q.2.2.1, q.2.2.2.1))) ∈ tb_TAB
    rw [he]
    exact tb_in g5
theorem tb_okM (L : Nat) (xs : Nat → Int32) {z : Nat} (hz : z < 151) : am_okM (tb_P L xs) tb_TAB z := (tb_okM0 hz).2
def tb_kK (o : Nat) (e : Nat × Nat × Nat × Nat × Bool × Nat) : Bool := decide (e.2.1 < 151) && (tb_ck e.2.2.2.2.2 (.methodLink (tb_on o) e.1 (am_nm (tb_me e.2.1))) || tb_nest.any (fun q => decide (q.1 = tb_on o) && decide (q.2.1 = e.1) && decide (q.2.2.1 = am_nm (tb_me e.2.1)))) &&
  decide ((parseMethodDescriptor (am_nm (tb_me e.2.1)).desc).map (fun d => d.parameters.length) = some e.2.2.1) && (match e.2.2.2.1 with
  | 0 => tb_ck (tb_mw e.2.1).2.2.1 (.static (am_nm (tb_me e.2.1)))
  | 1 => tb_ck (tb_mw e.2.1).2.2.1 (.instanceMethod (am_nm (tb_me e.2.1))) && (match tb_cl[tb_rc e.2.1]? with
    | some (C, _, _) => tb_ck (tb_mw e.2.1).2.2.2 (.selects C (am_nm (tb_me e.2.1)) (am_nm (tb_me e.2.1)))
    | none => false)
  | 2 => tb_ck (tb_mw e.2.1).2.2.1 (.instanceMethod (am_nm (tb_me e.2.1))) && decide ((am_nm (tb_me e.2.1)).name = "<init>") && (decide (am_hd (tb_me e.2.1) = []) && decide (am_rt (tb_me e.2.1) = none))
  | _ => false)
theorem tb_kK_all : (List.range 13).all (fun o => (tb_cal.getD o []).all (tb_kK o)) = true := by decide +kernel
theorem tb_okK (L : Nat) (xs : Nat → Int32) : am_okK (tb_P L xs) tb_TAB tb_NST tb_cl := by
  intro y ix z n k hx
  have hx : (match (tb_cal.getD (tb_kl y) []).find? (fun e => e.1 == ix) with
    | some (_, z, n, k, _, _) => some (z, n, k)
    | none => none) = some (z, n, k) := hx
  have hcls : (am_nm (am_me (tb_P L xs) y)).cls = tb_on (tb_kl y) := (tb_own y).1
  rw [hcls]
  split at hx
  · rename_i ix' z' n' k' nst wi hfind
    cases hx
    obtain ⟨h1, h2⟩ := tb_find tb_kK_all (tb_kl_lt y) hfind
    have h2 : ix' = ix := by simpa using h2
    subst h2
    unfold tb_kK at h1
    dsimp only at h1
    simp only [Bool.and_eq_true, decide_eq_true_eq, Bool.or_eq_true, List.any_eq_true] at h1
    obtain ⟨⟨⟨g1, g2⟩, g3⟩, g4⟩ := h1
    refine ⟨tb_okM L xs g1, ?_, g3, fun hk => ?_, fun hk => ?_, fun hk => ?_⟩
    · rcases g2 with g2 | ⟨q, hq, ⟨e1, e2⟩, e3⟩
      · exact Or.inl (tb_in g2)
      · refine Or.inr ⟨q.2.2.2, ?_⟩
        show (tb_on (tb_kl y), ix', am_nm (tb_me z), q.2.2.2) ∈ tb_nest
        rw [← e1, ← e2, ← e3]
        exact hq
    · subst hk
      exact tb_in g4
    · subst hk
      simp only [Bool.and_eq_true] at g4
      refine ⟨tb_in g4.1, ?_⟩
      have g5 := g4.2
      split at g5
      · rename_i C T N hc
        exact ⟨C, T, N, hc, tb_in g5⟩
      · cases g5
    · subst hk
      simp only [Bool.and_eq_true, decide_eq_true_eq] at g4
      refine ⟨tb_in g4.1.1, g4.1.2, ?_⟩
      have h7 := (tb_okM0 g1).1 g4.2.1
      rw [g4.2.2] at h7
      exact h7
  · cases hx
-- exceptions that are made
def tb_kW (X : String) (w : Cond) : Bool := tb_mem w || decide (w = .castable X X) || tb_NST.2.2.1.any (fun x => decide (w = .declares x)) || tb_NST.2.1.any (fun q => decide (w = .laysStatic q.1 q.2.1 q.2.2) || decide (w = .isRef (.static q.1 q.2.1 q.2.2)))
def tb_kY (o : Nat) (e : Nat × Nat × Nat × Nat × Nat) : Bool := match tb_cl[e.2.2.1]? with
  | some (X, _, 0) => Bundle.fit X && tb_ck e.2.2.2.1 (.classLink (tb_on o) e.1 X) && tb_ck e.2.2.2.2 (.initialized X) && (Bundle.ownAtoms0 (tb_on o) e.2.1 X am_xs).all (tb_kW X)
  | _ => false
theorem tb_kY_all : (List.range 13).all (fun o => (tb_xnl.getD o []).all (tb_kY o)) = true := by decide +kernel
theorem tb_okY (L : Nat) (xs : Nat → Int32) : am_okY (tb_P L xs) tb_TAB tb_NST tb_cl := by
  intro y ix ic E hx
  have hx : (match (tb_xnl.getD (tb_kl y) []).find? (fun e => e.1 == ix && e.2.1 == ic) with
    | some (_, _, E, _, _) => some E
    | none => none) = some E := hx
  have hcls : (am_nm (am_me (tb_P L xs) y)).cls = tb_on (tb_kl y) := (tb_own y).1
  rw [hcls]
  split at hx
  · rename_i ix' ic' E' w1 w2 hfind
    cases hx
    obtain ⟨h1, h2⟩ := tb_find tb_kY_all (tb_kl_lt y) hfind
    have h2 : ix' = ix ∧ ic' = ic := by simpa using h2
    obtain ⟨h2, h3⟩ := h2
    subst h2; subst h3
    unfold tb_kY at h1
    dsimp only at h1
    split at h1
    · rename_i X T hc
      simp only [Bool.and_eq_true, List.all_eq_true] at h1
      obtain ⟨⟨⟨g1, g2⟩, g3⟩, g4⟩ := h1
      refine ⟨X, T, hc, g1, tb_in g2, tb_in g3, fun w hw => ?_⟩
      have h5 := g4 w hw
      unfold tb_kW at h5
      simp only [Bool.or_eq_true, decide_eq_true_eq, List.any_eq_true] at h5
      rcases h5 with ((h5 | h5) | h5) | h5
      · exact Or.inl (tb_mm h5)
      · exact Or.inr (Or.inl h5)
      · exact Or.inr (Or.inr (Or.inl h5))
      · exact Or.inr (Or.inr (Or.inr h5))
    · cases h1
  · cases hx
-- handlers
def tb_kE (y : Nat) : Bool := (am_hd (tb_me y)).all (fun q => !decide (q.2.2.2.1 = 0) && (match tb_cl[q.2.2.2.2]? with
  | some (X, _, _) => tb_mem (.classLink (am_nm (tb_me y)).cls q.2.2.2.1 X)
  | none => false) && ([9, 10, 11] : List Nat).all (fun E => decide (E = q.2.2.2.2) || decide ((E, q.2.2.2.2) ∈ tb_NST.2.2.2)))
theorem tb_kE_all : (List.range 152).all tb_kE = true := by decide +kernel
theorem tb_okE (L : Nat) (xs : Nat → Int32) : am_okE (tb_P L xs) tb_TAB tb_NST tb_cl := by
  intro y q hq
  have hq : q ∈ am_hd (tb_me y) := hq
  by_cases hy : y < 152
  · have h1 := List.all_eq_true.mp tb_kE_all y (List.mem_range.mpr hy)
    unfold tb_kE at h1
    have h2 := List.all_eq_true.mp h1 q hq
    simp only [Bool.and_eq_true, Bool.not_eq_true', decide_eq_false_iff_not, List.all_eq_true, Bool.or_eq_true, decide_eq_true_eq] at h2
    obtain ⟨⟨g1, g2⟩, g3⟩ := h2
    refine ⟨g1, ?_, fun E hE hn => ?_⟩
    · split at g2
      · rename_i X T N hc
        exact ⟨X, T, N, hc, tb_mm g2⟩
      · cases g2
    · rcases g3 E hE with h3 | h3
      · exact absurd h3 hn
      · exact h3
  · have h2 : tb_me y = (⟨"GluedMachinesLaw", "law", "([I)Z"⟩, code, 7, ret, [], 0, 0) := tb_getDo (by rw [tb_len]; omega)
    rw [h2] at hq
    cases hq
end BG
end
section
/-! From the abstract machine's run of the law to the law's walk. -/
section BH
def R_law : String := "GluedMachinesLaw"
def lw_P (b : Addr) (xs : List Int32) (args : Array Value) (s : State) : Prop := args = #[.ref b] ∧ s.IntsAt b xs ∧ xs.length ≤ 2048 ∧ (Jvm.Cond.and given_1 narrow_1).before args s = true
def lw_Q (_ : Array Value) (s : State) (o : Outcome) (t : State) : Prop := o = .returned (some (.int 1)) ∧ Framed s o t [] 601024 7293034
def lw_Z (below : List Frame) (a : Array Value) (s : State) : State → Prop := fun t => ∃ o, t.status = .running ∧ Ended t below o ∧ lw_Q a s o t
/-- what holds at the law's entry -/
def lw_At (p : Program) (s : State) (m : MethodId) (meth : Method) (c : Code) (b L : Nat) (xs : Nat → Int32) : Prop :=
  p.tables.exec = Jvm.exec ∧ c.code = code ∧ meth.sig.returnType = ret ∧ c.maxLocals = 7 ∧ s.vm.findClass R_law = some m.cls ∧ (∀ w ∈ lw_tbl, w.before #[Value.ref b] s = true) ∧ va_X b L xs s s.heap ∧ b < s.heap.size ∧ meth.locks = false ∧ (Jvm.Cond.and given_1 narrow_1).before #[Value.ref b] s = true
variable {s : State} {args : Array Value}
theorem tb_inst : ∀ q ∈ tb_cl, ∃ n, Cond.instantiable q.1 n ∈ lw_tbl := by
  have h : tb_cl.all (fun q => decide (Cond.instantiable q.1 (if q.2.2 = 0 then 6 else q.2.2) ∈ lw_tbl)) = true := by decide +kernel
  intro q hq
  exact ⟨_, of_decide_eq_true (List.all_eq_true.mp h q hq)⟩
theorem tb_sub {w : Cond} (h : w ∈ tb_TAB) : w ∈ lw_tbl := (List.mem_filter.mp h).1
theorem tb_world (hts : ∀ w ∈ lw_tbl, w.before args s = true) (hao : ∀ C ∈ tb_AO, va_AO C s) : ∃ (D : va_G) (ac : Nat → ClassId), va_K D tb_cl (am_tys ac tb_tt) s := by
  have h1 : ∀ c : Nat, ∃ x : ClassId × (Nat → Nat), ∀ q, tb_cl[c]? = some q → u_Kn s q.1 q.2.1 q.2.2 x.1 x.2 := by
    intro c
    cases hc : tb_cl[c]? with
    | none => exact ⟨(0, fun _ => 0), fun q hq => by cases hq⟩
    | some q =>
      obtain ⟨n, hn⟩ := tb_inst q (List.mem_of_getElem? hc)
      obtain ⟨cC, iS, hk⟩ := u_known (n := n) (fun w hw => hts w (tb_sub hw)) (tb_okC c q.1 q.2.1 q.2.2 hc).1 (hts _ hn)
      exact ⟨(cC, iS), fun q' hq' => by cases hq'; exact hk⟩
  have hp : ∀ ty : FieldType, Cond.arrayClass ty ∈ lw_tbl → ∃ cA : ClassId, ArrOfT s cA ty ∧ s.vm.findClass ("[" ++ ty.toString) = some cA := by
    intro ty hty
    obtain ⟨cA, kA, comp, g1, g2, g3⟩ := Cond.arrayClass_spec (hts _ hty)
    exact ⟨cA, fun n z => ⟨fun k h => (by cases h), kA, g2, comp, g3⟩, g1⟩
  have ho : ∀ C, C ∈ tb_AO → ∃ cA : ClassId, ArrOfT s cA (.object C) ∧ va_RA s cA (.object C) := by
    intro C hC
    obtain ⟨comp, c, k, g1, g2, g3, g4, g5⟩ := Cond.arrayOver_spec (hao C hC)
    exact ⟨c, fun N z => ⟨(fun k h => by cases h), k, g3, comp, g4⟩, k, comp, g3, g4, g1, g5⟩
  have h2 : ∀ t : Nat, ∃ cA : ClassId, ∀ ty, tb_tt[t]? = some ty → ArrOfT s cA ty ∧ va_RA s cA ty := by
    intro t
    match t with
    | 0 =>
      obtain ⟨cA, g1, g2⟩ := hp .int (tb_sub tb_okA.1)
      exact ⟨cA, fun ty h => by cases h; exact ⟨g1, g2⟩⟩
    | 1 =>
      obtain ⟨cA, g1, g2⟩ := hp .long (tb_sub tb_okA.2.1)
      exact ⟨cA, fun ty h => by cases h; exact ⟨g1, g2⟩⟩
    | 2 =>
      obtain ⟨cA, g1, g2⟩ := hp .boolean (tb_sub tb_okA.2.2)
      exact ⟨cA, fun ty h => by cases h; exact ⟨g1, g2⟩⟩
    | 3 =>
      obtain ⟨cA, g⟩ := ho "GluedMachines$Formula" (by simp [tb_AO])
      exact ⟨cA, fun ty h => by cases h; exact g⟩
    | 4 =>
      obtain ⟨cA, g⟩ := ho "GluedMachines$Event" (by simp [tb_AO])
      exact ⟨cA, fun ty h => by cases h; exact g⟩
    | t + 5 => exact ⟨0, fun ty h => by cases h⟩
  refine ⟨(fun c => (Classical.choose (h1 c)).1, fun c => (Classical.choose (h1 c)).2), fun t => Classical.choose (h2 t), fun c q hq => Classical.choose_spec (h1 c) q hq, fun k q hk => ?_⟩
  unfold am_tys at hk
  rw [List.getElem?_mapIdx] at hk
  cases hh : tb_tt[k]? with
  | none => rw [hh] at hk; cases hk
  | some ty =>
    rw [hh] at hk
    cases hk
    exact Classical.choose_spec (h2 k) ty hh
theorem tb_static {C n d : String} (h1 : (Cond.laysStatic C n d).before args s = true) (h2 : (Cond.isRef (.static C n d)).before args s = true) : am_SF C n d s.heap.size s s.heap := by
  obtain ⟨cS, k, i, f, a, cell, g1, g2, g3, g4, g5, g6, g7, g8, g9⟩ := Cond.laysStatic_spec h1
  obtain ⟨v, hv⟩ : ∃ v, cell.slots[f.slot]? = some v := ⟨_, Array.getElem?_eq_getElem g8⟩
  refine ⟨cS, k, i, f, a, cell, v, g1, g2, g3, g4, g5, g6, g7, g8, g9, hv, ?_, (Array.getElem?_eq_some_iff.mp g5).1⟩
  have he : (Term.static C n d).eval args s none [] s = some v := by
    simp [Term.eval, State.fieldNamed?, g2, g3, g4, g5, g6, hv]
  simp only [Cond.before, Cond.holds, Cond.value, he] at h2
  cases v <;> simp_all [Value.isRef]
theorem tb_nestin : ∀ q ∈ tb_NST.1, Cond.methodLinkNest q.1 q.2.1 q.2.2.1 q.2.2.2 ∈ lw_tbl := by
  have h : tb_NST.1.all (fun q => decide (Cond.methodLinkNest q.1 q.2.1 q.2.2.1 q.2.2.2 ∈ lw_tbl)) = true := by decide +kernel
  exact fun q hq => of_decide_eq_true (List.all_eq_true.mp h q hq)
theorem tb_declin : ∀ q ∈ tb_NST.2.2.1, Cond.declares q ∈ lw_tbl := by
  have h : tb_NST.2.2.1.all (fun q => decide (Cond.declares q ∈ lw_tbl)) = true := by decide +kernel
  exact fun q hq => of_decide_eq_true (List.all_eq_true.mp h q hq)
theorem tb_statin : ∀ q ∈ tb_NST.2.1, Cond.laysStatic q.1 q.2.1 q.2.2 ∈ lw_tbl := by
  have h : tb_NST.2.1.all (fun q => decide (Cond.laysStatic q.1 q.2.1 q.2.2 ∈ lw_tbl)) = true := by decide +kernel
  exact fun q hq => of_decide_eq_true (List.all_eq_true.mp h q hq)
theorem tb_overin : ∀ C ∈ tb_AO, Cond.arrayOver (.object C) ∈ lw_tbl := by
  have h : tb_AO.all (fun C => decide (Cond.arrayOver (.object C) ∈ lw_tbl)) = true := by decide +kernel
  exact fun q hq => of_decide_eq_true (List.all_eq_true.mp h q hq)
theorem tb_ncin : ∀ q ∈ tb_NST.2.2.2, ∃ (a b : vw_C), tb_cl[q.1]? = some a ∧ tb_cl[q.2]? = some b ∧ Cond.not (.castable a.1 b.1) ∈ flatC (Jvm.Cond.and given_1 narrow_1) := by
  intro q hq
  simp only [tb_NST, List.mem_cons, List.not_mem_nil, or_false] at hq
  rcases hq with rfl | rfl | rfl | rfl | rfl | rfl <;> exact ⟨_, _, rfl, rfl, by decide +kernel⟩
theorem tb_refin : ∀ q ∈ tb_NST.2.1, Cond.isRef (.static q.1 q.2.1 q.2.2) ∈ flatC (Jvm.Cond.and given_1 narrow_1) := by
  have h : tb_NST.2.1.all (fun q => decide (Cond.isRef (.static q.1 q.2.1 q.2.2) ∈ flatC (Jvm.Cond.and given_1 narrow_1))) = true := by decide +kernel
  exact fun q hq => of_decide_eq_true (List.all_eq_true.mp h q hq)
theorem tb_castin : Cond.castable "[I" "java/lang/Cloneable" ∈ lw_tbl := by decide +kernel
theorem tb_law (L : Nat) (xs : Nat → Int32) : am_me (tb_P L xs) 151 = (⟨"GluedMachinesLaw", "law", "([I)Z"⟩, code, 7, ret, [], 10, 144) := rfl
/-- the law's walk out of a run of the abstract machine -/
theorem whole_run {p : Program} {e : Env} {s : State} {m : MethodId} {below : List Frame} {meth : Method} {c : Code} (l : Launch) (hfl : l.stackTraces = false) {b L : Nat} {xs : Nat → Int32} (hnm : meth.name = "law") (htab : c.exceptionTable = #[]) (C0 : lw_At p s m meth c b L xs) {n : Nat} {h' : am_H}
    (hrun : am_run (tb_P L xs) n 151 0 (some (.ref am_scr) :: List.replicate 6 none) [] [] = some (.inl (some (.int 1)), h')) (hKC : h'.length ≤ 601024) (hKS : am_sl h' ≤ 7293034) :
    W p l e room_1 s m #[Value.ref b] below meth c s.heap [] 0 0 (lw_Z below #[Value.ref b] s) (entryFrame m ([Value.ref b] : List Value).toArray 7) := by
  obtain ⟨hexec, hb, hr, hml, hown, hts, hX, hbl, hlocks, hgv⟩ := C0
  have hfl2 := flat_of_before _ hgv
  have hao : ∀ C ∈ tb_AO, va_AO C s := fun C hC => va_AO.of (hts _ (tb_overin C hC))
  obtain ⟨D, ac, hK⟩ := tb_world hts hao
  have env : am_env (tb_P L xs) tb_TAB tb_NST tb_AO tb_cl tb_tt D ac s.heap.size b s #[Value.ref b] := by
    refine ⟨fun w hw => hts w (tb_sub hw), fun q hq => va_Nw.of rfl (hts _ (tb_nestin q hq)), hao, hK, hX, hbl, hbl, Nat.le_refl _, fun q hq => tb_static (hts _ (tb_statin q hq)) (hfl2 _ (tb_refin q hq)), fun x hx => va_Nw.of rfl (hts _ (tb_declin x hx)), fun q hq => ?_, va_Nw.of rfl (hts _ tb_castin)⟩
    obtain ⟨qa, qb, ha, hb', hin⟩ := tb_ncin q hq
    obtain ⟨ca, cb, f1, f2, f3⟩ := va_Nc.of (hfl2 _ hin)
    have k1 := (hK.1 _ _ ha).2.1
    have k2 := (hK.1 _ _ hb').2.1
    cases f1.symm.trans k1
    cases f2.symm.trans k2
    exact f3
  have sim := am_sim (p := p) (l := l) (e := e) (b := s.heap.size) (bs := b) hexec tb_good (tb_OK L xs) (tb_okK L xs) (am_throw (AO := tb_AO) (tt := tb_tt) (D := D) (ac := ac) hexec hfl tb_good (tb_okY L xs)) (am_catch hexec (tb_okE L xs)) n 151 0 _ _ _ _ _ hrun
  have h0 := sim room_1 s m #[Value.ref b] below meth c ((lg_sl (([Value.ref am_scr] : List Value).map (am_sv s.heap.size b)) ++ List.replicate (7 - (lg_sl (([Value.ref am_scr] : List Value).map (am_sv s.heap.size b))).length) Slot.unset).toArray) s.heap [] 0 0 601024 7293034 env ⟨hb, hml, hr, hlocks, hown, hnm, by rw [htab]; rfl⟩ (show 10 ≤ 12 by decide) (show 144 ≤ 426 by decide) ⟨hKC, hKS⟩ ⟨am_entry (n := 7) [Value.ref am_scr] (by decide), ⟨fun k q hk => (by cases hk), rfl⟩, va_S.rf, rfl, ⟨Nat.zero_le _, by decide⟩, ⟨Nat.zero_le _, by decide⟩, by decide⟩
  have e1 : ([Value.ref am_scr] : List Value).map (am_sv s.heap.size b) = [Value.ref b] := by
    simp [am_sv, am_ad]
  rw [e1] at h0
  rw [lg_entry_eq]
  refine am_W_mono (fun t ht => ?_) h0
  obtain ⟨q1, q2, q3, q4, ⟨Lc, q5, q6⟩, q7⟩ := ht
  refine ⟨.returned (some (.int 1)), q1, q7, rfl, ⟨_, rfl⟩, q3, q5.weaken (fun y hy hlt => absurd hlt (Nat.not_lt.mpr (q6 y hy))) (Nat.le_refl _) (Nat.le_refl _)⟩
end BH
end
section
/-! The claim out of the abstract machine's runs of the law. -/
/-- the abstract machine comes to the law's end with true, in the room that there is -/
def lw_pure : Prop := ∀ (L : Nat) (xs : Nat → Int32), L ≤ 2048 → ∃ (n : Nat) (h' : am_H), am_run (tb_P L xs) n 151 0 (some (.ref am_scr) :: List.replicate 6 none) [] [] = some (.inl (some (.int 1)), h') ∧ h'.length ≤ 601024 ∧ am_sl h' ≤ 7293034
set_option maxHeartbeats 4000000 in
theorem lw_walk (l : Launch) (hfl : l.stackTraces = false) (hpure : lw_pure) (b : Addr) (xs : List Int32) : MetFree l x (headSpec (Jvm.Cond.code x code maxLocals ret :: tables_1) room_1) (lw_P b xs) (fun _ _ _ _ _ => True) lw_Q := by
  refine MetFree.of_bodyS (code := code) (maxLocals := maxLocals) (ret := ret) (by decide) ?_ ?_
  · intro args s m h hn
    obtain ⟨meth, c, h1, h2, h3, h4, h5, h6, -, -⟩ := Cond.code_spec hn (atoms_spec (ws := Jvm.Cond.code x code maxLocals ret :: tables_1) h _ List.mem_cons_self)
    exact ⟨meth, c, h1, h2, h3, h4, h5, h6⟩
  · intro p e s m args below meth c s₁ B hml0 hP _
    obtain ⟨rfl, hx, hbd, hgv⟩ := hP
    obtain ⟨scr, harrAt, hlist, hof, hsmall⟩ := hx
    obtain ⟨hcb, hkn, -, -⟩ := State.arrayAt?_spec harrAt
    have hown : s.vm.findClass R_law = some m.cls := findClass_of_methodNamed B.named
    have hts0 : ∀ c ∈ (Jvm.Cond.code x code maxLocals ret :: tables_1), c.before #[Value.ref b] s = true := atoms_spec (ws := Jvm.Cond.code x code maxLocals ret :: tables_1) B.pre
    have hts : ∀ w ∈ lw_tbl, w.before #[Value.ref b] s = true := k2_hts_sels lw_privs (fun w hw => hts0 w (List.mem_cons_of_mem _ hw)) lw_privs_ok
    have hml : c.maxLocals = 7 := B.maxLocals_eq (hts0 _ List.mem_cons_self)
    have X₀ : Stand p l e room_1 s m #[Value.ref b] below meth c s₁ [] 0 0 := Stand.of_body B
    have hh0 : s₁.heap = s.heap := by rw [B.state]; rfl
    have hsz : scr.slots.size = xs.length := by rw [← Array.length_toList, hlist, List.length_map]
    have hval : ∀ j : Nat, j < xs.length → scr.slots[j]? = some (.int (xs.getD j 0)) := fun j hj => by
      rw [← Array.getElem?_toList, hlist]
      simp [hj]
    have hbl : b < s.heap.size := (Array.getElem?_eq_some_iff.mp hcb).1
    have hX : va_X b xs.length (fun j => xs.getD j 0) s s.heap := ⟨scr, hcb, hof, hkn, hsz, hval⟩
    have K : W p l e room_1 s m #[Value.ref b] below meth c s₁.heap [] 0 0 (lw_Z below #[Value.ref b] s) (entryFrame m ([Value.ref b] : List Value).toArray 7) := by
      rw [hh0]
      obtain ⟨n, h', hrun, hKC, hKS⟩ := hpure xs.length (fun j => xs.getD j 0) hbd
      obtain ⟨meth', c', a1, a2, -, -, -, -, a7, -⟩ := Cond.code_spec B.named (hts0 _ List.mem_cons_self)
      cases a1.symm.trans B.method
      have hc' : meth.code = some c := X₀.code
      cases a2.symm.trans hc'
      exact whole_run l hfl (name_of_methodNamed B.named B.method).1 (Array.isEmpty_iff.mp a7) ⟨B.exec, B.bytes, B.returns, hml, hown, hts, hX, hbl, B.notSynchronized, hgv⟩ hrun hKC hKS
    obtain ⟨t, a1, o, b1, b2, b3⟩ := K s₁ rfl X₀
    exact ⟨t, o, a1, b1, b2, b3⟩
theorem lw_pre_spec {args : Array Value} {s : State} (h : (Jvm.Cond.and given_1 narrow_1).before args s = true) (hr : rest_1_c.before args s = true) : ∃ (b : Addr) (xs : List Int32), lw_P b xs args s := by
  have hs := flat_of_before _ h
  have hq := flat_of_before _ hr
  have hc : (Cond.count 1).before args s = true := hs _ (by decide +kernel)
  have harr : (Cond.arrayOf (.arg 0) .int).before args s = true := hs _ (by decide +kernel)
  have hle : (Cond.le (.length (.arg 0)) (.int 2048)).before args s = true := hs _ (by decide +kernel)
  have hlen : (Cond.isInt (.length (.arg 0))).before args s = true := hq _ (by decide +kernel)
  have hall : (Cond.all (.arg 0) (.isInt (.elem (.arg 0) (.index 0)))).before args s = true := hq _ (by decide +kernel)
  obtain ⟨b, xs, hb, hx⟩ := State.ints_of_pre rfl harr hlen hall
  have hsm : xs.length < 2 ^ 31 := hx.choose_spec.2.2.2
  have hev : (Term.length (.arg 0)).eval args s none [] s = some (.int xs.length.toInt32) := hx.length_eval hb
  have hv := Cond.le_ints hev (show (Term.int 2048).eval args s none [] s = some (.int 2048) from rfl)
  have hd : xs.length.toInt32 ≤ 2048 := by
    simpa [Cond.before, Cond.holds, hv] using hle
  have hN : xs.length ≤ 2048 := (Int32.ofNat_le_ofNat hsm (by decide)).mp (show Int32.ofNat xs.length ≤ Int32.ofNat 2048 from hd)
  exact ⟨b, xs, Cond.one_arg hc (show args[0]? = some (.ref b) from hb), hx, hN, h⟩
theorem lw_comes (l : Launch) (hfl : l.stackTraces = false) (hpure : lw_pure) : Comes l x (Jvm.Cond.code x code maxLocals ret :: tables_1) room_1 (fun tb e args s => Calls_1 tb e args s ∧ rest_1 tb e args s ∧ Pre_1 tb e args s)
    (fun _ _ args s o t => lw_Q args s o t) := by
  intro p e ha hc hk s m args below hf hfit hheap happ hpre
  obtain ⟨b, xs, hP⟩ := lw_pre_spec hpre.2.2 hpre.2.1
  obtain ⟨k, o, h1, h2, h3, hQ⟩ := lw_walk l hfl hpure b xs p e ha hc hk s m args below hf ((Spec.applies_iff_loose hf).mp happ).1 hP trivial
  exact ⟨k, o, h1, h2, h3, hQ⟩
theorem lw_frame {s t : State} {o : Outcome} {args : Array Value} (h : Framed s o t [] 601024 7293034) :
    Framed s o t (fieldLocs frame_1_writes args s ++ arrayLocs frame_1_arrays args s ++ staticLocs frame_1_statics s) 601024 7293034 := h
theorem lw_limb (hpure : lw_pure) (L : Cond) (hL : ∀ (args : Array Value) (s t : State), L.after args s (.returned (some (.int 1))) t = true) :
    ArmFor flags0 classFile x code maxLocals ret World_1 tables_1 room_1 Calls_1 rest_1 Pre_1
      (fun tb e a s o t => postC L tb e a s o t ∧ Framed s o t (fieldLocs frame_1_writes a s ++ arrayLocs frame_1_arrays a s ++ staticLocs frame_1_statics s) 601024 7293034) := by
  intro l hfl _ _ p e ha hc hk s m args below hf hfit hheap happ hpre
  obtain ⟨k, o, h1, h2, h3, rfl, hF⟩ := lw_comes l (by unfold Launch.stackTraces; rw [hfl]; decide +kernel) hpure p e ha hc hk s m args below hf hfit hheap happ hpre
  exact ⟨k, _, h1, h2, h3, hL args s _, lw_frame hF⟩
theorem lw_end (hpure : lw_pure) : Claimed_1_1 ∧ Claimed_1_2 := ⟨lw_limb hpure limb_1_1 (fun args s t => by simp [limb_1_1, Cond.after, Cond.holds, Cond.value]), lw_limb hpure limb_1_2 (fun args s t => Cond.after_iff.mpr (by
  first | (rw [show limb_1_2 = Cond.eq .result (.int 1) from rfl, Cond.eq_ints (x := 1) (y := 1) rfl rfl]; simp; done) | (simp [limb_1_2, Cond.value, Term.eval]; done)))⟩
end
section
/-! Runs of the abstract machine, an instruction at a time. -/
section GA
variable {P : am_P}
theorem am_run_up (P : am_P) : ∀ (n : Nat) (y pc : Nat) (lo : am_L) (st : List Value) (h : am_H) (r : am_A × am_H), am_run P n y pc lo st h = some r → am_run P (n + 1) y pc lo st h = some r := by
  intro n
  induction n with
  | zero => intro y pc lo st h r hx; cases hx
  | succ n ih =>
    intro y pc lo st h r hx
    unfold am_run at hx ⊢
    cases hs : am_st P y pc lo st h with
    | none => rw [hs] at hx; cases hx
    | some out =>
      rw [hs] at hx
      rcases out with ⟨pc1, lo1, st1, h1⟩ | ⟨z, as, rest⟩ | v | E
      · exact ih _ _ _ _ _ _ hx
      · dsimp only at hx ⊢
        cases hl : am_en0 P z as with
        | none => rw [hl] at hx; cases hx
        | some l0 =>
          rw [hl] at hx
          dsimp only at hx ⊢
          cases hr : am_run P n z 0 l0 [] h with
          | none => rw [hr] at hx; cases hx
          | some q =>
            rw [hr] at hx
            rw [ih _ _ _ _ _ _ hr]
            rcases q with ⟨v | E, h1⟩
            · exact ih _ _ _ _ _ _ hx
            · dsimp only at hx ⊢
              split at hx
              · rename_i hno
                rw [if_pos hno]
                exact hx
              · rename_i hno
                rw [if_neg hno]
                split at hx
                · rename_i pc' k hfh
                  split at hx
                  · rename_i hk
                    rw [if_pos hk]
                    exact ih _ _ _ _ _ _ hx
                  · cases hx
                · cases hx
      · exact hx
      · exact hx
theorem am_run_mono (P : am_P) {n : Nat} {y pc : Nat} {lo : am_L} {st : List Value} {h : am_H} {r : am_A × am_H} (hx : am_run P n y pc lo st h = some r) (k : Nat) : am_run P (n + k) y pc lo st h = some r := by
  induction k with
  | zero => exact hx
  | succ k ih => exact am_run_up P _ _ _ _ _ _ _ ih
/-- the method comes to an end, and what holds of it -/
def go (P : am_P) (y pc : Nat) (lo : am_L) (st : List Value) (h : am_H) (Q : am_A → am_H → Prop) : Prop := ∃ (n : Nat) (o : am_A) (h' : am_H), am_run P n y pc lo st h = some (o, h') ∧ Q o h'
/-- what is to be shown behind a call -/
def am_af (P : am_P) (y pc : Nat) (lo : am_L) (rest : List Value) (Q : am_A → am_H → Prop) : am_A → am_H → Prop := fun o h1 => match o with
  | .inl v => go P y (pc + 3) lo (v.toList ++ rest) h1 Q
  | .inr E => if am_no P y pc = true then Q (.inr E) h1 else match am_fh P y pc E with
    | some (pc', k) => (k < lo.length ∧ am_pv lo k = true) ∧ go P y pc' (lo.set k none) [] h1 Q
    | none => False
variable {y pc : Nat} {lo : am_L} {st : List Value} {h : am_H} {Q : am_A → am_H → Prop}
theorem go_mono {Q' : am_A → am_H → Prop} (g : go P y pc lo st h Q) (hq : ∀ o h', Q o h' → Q' o h') : go P y pc lo st h Q' := by
  obtain ⟨n, o, h', g1, g2⟩ := g
  exact ⟨n, o, h', g1, hq _ _ g2⟩
theorem go_st {pc' : Nat} {lo' : am_L} {st' : List Value} {h' : am_H} (hs : am_st P y pc lo st h = some (.inl (pc', lo', st', h'))) (g : go P y pc' lo' st' h' Q) : go P y pc lo st h Q := by
  obtain ⟨n, o, h1, g1, g2⟩ := g
  refine ⟨n + 1, o, h1, ?_, g2⟩
  unfold am_run
  rw [hs]
  exact g1
theorem go_ret {v : Option Value} (hs : am_st P y pc lo st h = some (.inr (.inr (.inl v)))) (g : Q (.inl v) h) : go P y pc lo st h Q := by
  refine ⟨1, .inl v, h, ?_, g⟩
  unfold am_run
  rw [hs]
theorem go_thr {E : Nat} (hs : am_st P y pc lo st h = some (.inr (.inr (.inr E)))) (hno : am_no P y (pc + 7) = true) (g : Q (.inr E) (h ++ [.inr (E, [])])) : go P y pc lo st h Q := by
  refine ⟨1, .inr E, _, ?_, g⟩
  unfold am_run
  rw [hs]
  dsimp only
  rw [if_pos hno]
theorem go_call {z : Nat} {as rest : List Value} {l0 : am_L} (hs : am_st P y pc lo st h = some (.inr (.inl (z, as, rest)))) (hl : am_en0 P z as = some l0) (g : go P z 0 l0 [] h (am_af P y pc lo rest Q)) : go P y pc lo st h Q := by
  obtain ⟨n, o, h1, g1, g2⟩ := g
  rcases o with v | E
  · obtain ⟨n2, o2, h2, g3, g4⟩ := g2
    refine ⟨n + n2 + 1, o2, h2, ?_, g4⟩
    unfold am_run
    rw [hs]
    dsimp only
    rw [hl]
    dsimp only
    rw [am_run_mono P g1 n2]
    dsimp only
    rw [show n + n2 = n2 + n by omega]
    exact am_run_mono P g3 n
  · unfold am_af at g2
    dsimp only at g2
    split at g2
    · rename_i hno
      refine ⟨n + 1, .inr E, h1, ?_, g2⟩
      unfold am_run
      rw [hs]
      dsimp only
      rw [hl]
      dsimp only
      rw [g1]
      dsimp only
      rw [if_pos hno]
    · rename_i hno
      split at g2
      · rename_i pc' k hfh
        obtain ⟨hk, n2, o2, h2, g3, g4⟩ := g2
        refine ⟨n + n2 + 1, o2, h2, ?_, g4⟩
        unfold am_run
        rw [hs]
        dsimp only
        rw [hl]
        dsimp only
        rw [am_run_mono P g1 n2]
        dsimp only
        rw [if_neg hno, hfh]
        dsimp only
        rw [if_pos hk, show n + n2 = n2 + n by omega]
        exact am_run_mono P g3 n
      · exact g2.elim
theorem am_st_of {i : Instr} {len : Nat} (d : decode (am_cd (am_me P y)) pc = .ok (i, len)) (hl : am_ln i len = true) : am_st P y pc lo st h = am_ex P y pc i lo st h := by
  unfold am_st
  rw [d]
  dsimp only
  rw [if_pos hl]

theorem g_iconst {n : _} {v : Int32} (d : decode (am_cd (am_me P y)) pc = .ok (.iconst n, 1)) (hv : Int32.ofInt n = v) (kk : go P y (pc + 1) lo (.int v :: st) h Q) : go P y pc lo st h Q := by
  refine go_st ?_ kk
  rw [am_st_of d rfl]
  subst hv; rfl
theorem g_bipush {n : _} {v : Int32} (d : decode (am_cd (am_me P y)) pc = .ok (.bipush n, 2)) (hv : (Int8.ofInt n).toInt32 = v) (kk : go P y (pc + 2) lo (.int v :: st) h Q) : go P y pc lo st h Q := by
  refine go_st ?_ kk
  rw [am_st_of d rfl]
  subst hv; rfl
theorem g_sipush {n : _} {v : Int32} (d : decode (am_cd (am_me P y)) pc = .ok (.sipush n, 3)) (hv : (Int16.ofInt n).toInt32 = v) (kk : go P y (pc + 3) lo (.int v :: st) h Q) : go P y pc lo st h Q := by
  refine go_st ?_ kk
  rw [am_st_of d rfl]
  subst hv; rfl
theorem g_lconst {n : _} {v : Int64} (d : decode (am_cd (am_me P y)) pc = .ok (.lconst n, 1)) (hv : Int64.ofNat (n : Nat) = v) (kk : go P y (pc + 1) lo (.long v :: st) h Q) : go P y pc lo st h Q := by
  refine go_st ?_ kk
  rw [am_st_of d rfl]
  subst hv; rfl
theorem g_null  (d : decode (am_cd (am_me P y)) pc = .ok (.aconst_null, 1))  (kk : go P y (pc + 1) lo (.null :: st) h Q) : go P y pc lo st h Q := by
  refine go_st ?_ kk
  rw [am_st_of d rfl]
  rfl
theorem g_ldc {ix : Nat} {v : Int32} (d : decode (am_cd (am_me P y)) pc = .ok (.ldc_w ix, 3)) (hv : am_kc P y ix = some v) (kk : go P y (pc + 3) lo (.int v :: st) h Q) : go P y pc lo st h Q := by
  refine go_st ?_ kk
  rw [am_st_of d rfl]
  unfold am_ex; dsimp only; rw [hv]; rfl
theorem g_iload {k : _} {x : Int32} (d : decode (am_cd (am_me P y)) pc = .ok (.iload k, 2)) (hk : lo[(k : Nat)]? = some (some (.int x))) (kk : go P y (pc + 2) lo (.int x :: st) h Q) : go P y pc lo st h Q := by
  refine go_st ?_ kk
  rw [am_st_of d rfl]
  unfold am_ex; dsimp only; unfold am_li; rw [hk]; rfl
theorem g_iload_n {k : _} {x : Int32} (d : decode (am_cd (am_me P y)) pc = .ok (.iload_n k, 1)) (hk : lo[(k : Nat)]? = some (some (.int x))) (kk : go P y (pc + 1) lo (.int x :: st) h Q) : go P y pc lo st h Q := by
  refine go_st ?_ kk
  rw [am_st_of d rfl]
  unfold am_ex; dsimp only; unfold am_li; rw [hk]; rfl
theorem g_lload {k : _} {x : Int64} (d : decode (am_cd (am_me P y)) pc = .ok (.lload k, 2)) (hk : lo[(k : Nat)]? = some (some (.long x))) (kk : go P y (pc + 2) lo (.long x :: st) h Q) : go P y pc lo st h Q := by
  refine go_st ?_ kk
  rw [am_st_of d rfl]
  unfold am_ex; dsimp only; unfold am_lj; rw [hk]; rfl
theorem g_lload_n {k : _} {x : Int64} (d : decode (am_cd (am_me P y)) pc = .ok (.lload_n k, 1)) (hk : lo[(k : Nat)]? = some (some (.long x))) (kk : go P y (pc + 1) lo (.long x :: st) h Q) : go P y pc lo st h Q := by
  refine go_st ?_ kk
  rw [am_st_of d rfl]
  unfold am_ex; dsimp only; unfold am_lj; rw [hk]; rfl
theorem g_aload {k : _} {x : Nat} (d : decode (am_cd (am_me P y)) pc = .ok (.aload k, 2)) (hk : lo[(k : Nat)]? = some (some (.ref x))) (kk : go P y (pc + 2) lo (.ref x :: st) h Q) : go P y pc lo st h Q := by
  refine go_st ?_ kk
  rw [am_st_of d rfl]
  unfold am_ex; dsimp only; unfold am_la; rw [hk]; rfl
theorem g_aload_n {k : _} {x : Nat} (d : decode (am_cd (am_me P y)) pc = .ok (.aload_n k, 1)) (hk : lo[(k : Nat)]? = some (some (.ref x))) (kk : go P y (pc + 1) lo (.ref x :: st) h Q) : go P y pc lo st h Q := by
  refine go_st ?_ kk
  rw [am_st_of d rfl]
  unfold am_ex; dsimp only; unfold am_la; rw [hk]; rfl
theorem g_aloadq {k : _} {x : Option Nat} (d : decode (am_cd (am_me P y)) pc = .ok (.aload k, 2)) (hk : lo[(k : Nat)]? = some (some (va_rf x))) (kk : go P y (pc + 2) lo (va_rf x :: st) h Q) : go P y pc lo st h Q := by
  refine go_st ?_ kk
  rw [am_st_of d rfl]
  unfold am_ex; dsimp only; unfold am_la; rw [hk]; cases x <;> rfl
theorem g_aloadq_n {k : _} {x : Option Nat} (d : decode (am_cd (am_me P y)) pc = .ok (.aload_n k, 1)) (hk : lo[(k : Nat)]? = some (some (va_rf x))) (kk : go P y (pc + 1) lo (va_rf x :: st) h Q) : go P y pc lo st h Q := by
  refine go_st ?_ kk
  rw [am_st_of d rfl]
  unfold am_ex; dsimp only; unfold am_la; rw [hk]; cases x <;> rfl
theorem g_istore {k : _} {x : Int32} {lo1 : am_L} (d : decode (am_cd (am_me P y)) pc = .ok (.istore k, 2)) (hk : (decide ((k : Nat) < lo.length) && am_pv lo k) = true) (hl : lo.set k (some (.int x)) = lo1) (kk : go P y (pc + 2) lo1 st h Q) : go P y pc lo (.int x :: st) h Q := by
  refine go_st ?_ kk
  rw [am_st_of d rfl]
  subst hl; unfold am_ex; dsimp only; unfold am_si am_s1; dsimp only; rw [if_pos (by rw [hk]; rfl)]; rfl
theorem g_istore_n {k : _} {x : Int32} {lo1 : am_L} (d : decode (am_cd (am_me P y)) pc = .ok (.istore_n k, 1)) (hk : (decide ((k : Nat) < lo.length) && am_pv lo k) = true) (hl : lo.set k (some (.int x)) = lo1) (kk : go P y (pc + 1) lo1 st h Q) : go P y pc lo (.int x :: st) h Q := by
  refine go_st ?_ kk
  rw [am_st_of d rfl]
  subst hl; unfold am_ex; dsimp only; unfold am_si am_s1; dsimp only; rw [if_pos (by rw [hk]; rfl)]; rfl
theorem g_lstore {k : _} {x : Int64} {lo1 : am_L} (d : decode (am_cd (am_me P y)) pc = .ok (.lstore k, 2)) (hk : (decide ((k : Nat) + 1 < lo.length) && am_pv lo k) = true) (hl : (lo.set k (some (.long x))).set (k + 1) none = lo1) (kk : go P y (pc + 2) lo1 st h Q) : go P y pc lo (.long x :: st) h Q := by
  refine go_st ?_ kk
  rw [am_st_of d rfl]
  subst hl; unfold am_ex; dsimp only; unfold am_sj am_s2; dsimp only; rw [if_pos (by rw [hk]; rfl)]; rfl
theorem g_lstore_n {k : _} {x : Int64} {lo1 : am_L} (d : decode (am_cd (am_me P y)) pc = .ok (.lstore_n k, 1)) (hk : (decide ((k : Nat) + 1 < lo.length) && am_pv lo k) = true) (hl : (lo.set k (some (.long x))).set (k + 1) none = lo1) (kk : go P y (pc + 1) lo1 st h Q) : go P y pc lo (.long x :: st) h Q := by
  refine go_st ?_ kk
  rw [am_st_of d rfl]
  subst hl; unfold am_ex; dsimp only; unfold am_sj am_s2; dsimp only; rw [if_pos (by rw [hk]; rfl)]; rfl
theorem g_astore {k : _} {x : Nat} {lo1 : am_L} (d : decode (am_cd (am_me P y)) pc = .ok (.astore k, 2)) (hk : (decide ((k : Nat) < lo.length) && am_pv lo k) = true) (hl : lo.set k (some (.ref x)) = lo1) (kk : go P y (pc + 2) lo1 st h Q) : go P y pc lo (.ref x :: st) h Q := by
  refine go_st ?_ kk
  rw [am_st_of d rfl]
  subst hl; unfold am_ex; dsimp only; unfold am_sa am_s1; dsimp only; rw [if_pos (by rw [hk]; rfl)]; rfl
theorem g_astore_n {k : _} {x : Nat} {lo1 : am_L} (d : decode (am_cd (am_me P y)) pc = .ok (.astore_n k, 1)) (hk : (decide ((k : Nat) < lo.length) && am_pv lo k) = true) (hl : lo.set k (some (.ref x)) = lo1) (kk : go P y (pc + 1) lo1 st h Q) : go P y pc lo (.ref x :: st) h Q := by
  refine go_st ?_ kk
  rw [am_st_of d rfl]
  subst hl; unfold am_ex; dsimp only; unfold am_sa am_s1; dsimp only; rw [if_pos (by rw [hk]; rfl)]; rfl
theorem g_astoreq {k : _} {x : Option Nat} {lo1 : am_L} (d : decode (am_cd (am_me P y)) pc = .ok (.astore k, 2)) (hk : (decide ((k : Nat) < lo.length) && am_pv lo k) = true) (hl : lo.set k (some (va_rf x)) = lo1) (kk : go P y (pc + 2) lo1 st h Q) : go P y pc lo (va_rf x :: st) h Q := by
  refine go_st ?_ kk
  rw [am_st_of d rfl]
  subst hl; unfold am_ex; dsimp only; cases x <;> (unfold am_sa am_s1 va_rf; dsimp only; rw [if_pos (by rw [hk]; rfl)]; rfl)
theorem g_astoreq_n {k : _} {x : Option Nat} {lo1 : am_L} (d : decode (am_cd (am_me P y)) pc = .ok (.astore_n k, 1)) (hk : (decide ((k : Nat) < lo.length) && am_pv lo k) = true) (hl : lo.set k (some (va_rf x)) = lo1) (kk : go P y (pc + 1) lo1 st h Q) : go P y pc lo (va_rf x :: st) h Q := by
  refine go_st ?_ kk
  rw [am_st_of d rfl]
  subst hl; unfold am_ex; dsimp only; cases x <;> (unfold am_sa am_s1 va_rf; dsimp only; rw [if_pos (by rw [hk]; rfl)]; rfl)
theorem g_iinc {k : _} {n : _} {x : Int32} {lo1 : am_L} (d : decode (am_cd (am_me P y)) pc = .ok (.iinc k n, 3)) (hx : lo[(k : Nat)]? = some (some (.int x))) (hk : (decide ((k : Nat) < lo.length) && am_pv lo k) = true) (hl : lo.set k (some (.int (x + Int32.ofInt n))) = lo1) (kk : go P y (pc + 3) lo1 st h Q) : go P y pc lo st h Q := by
  refine go_st ?_ kk
  rw [am_st_of d rfl]
  subst hl; unfold am_ex; dsimp only; rw [hx]; dsimp only; unfold am_s1; rw [if_pos (by rw [hk]; rfl)]; rfl
theorem g_iadd {a b : Int32} (d : decode (am_cd (am_me P y)) pc = .ok (.iadd, 1))  (kk : go P y (pc + 1) lo (.int (a + b) :: st) h Q) : go P y pc lo (.int b :: .int a :: st) h Q := by
  refine go_st ?_ kk
  rw [am_st_of d rfl]
  rfl
theorem g_isub {a b : Int32} (d : decode (am_cd (am_me P y)) pc = .ok (.isub, 1))  (kk : go P y (pc + 1) lo (.int (a - b) :: st) h Q) : go P y pc lo (.int b :: .int a :: st) h Q := by
  refine go_st ?_ kk
  rw [am_st_of d rfl]
  rfl
theorem g_imul {a b : Int32} (d : decode (am_cd (am_me P y)) pc = .ok (.imul, 1))  (kk : go P y (pc + 1) lo (.int (a * b) :: st) h Q) : go P y pc lo (.int b :: .int a :: st) h Q := by
  refine go_st ?_ kk
  rw [am_st_of d rfl]
  rfl
theorem g_iand {a b : Int32} (d : decode (am_cd (am_me P y)) pc = .ok (.iand, 1))  (kk : go P y (pc + 1) lo (.int (a &&& b) :: st) h Q) : go P y pc lo (.int b :: .int a :: st) h Q := by
  refine go_st ?_ kk
  rw [am_st_of d rfl]
  rfl
theorem g_ior {a b : Int32} (d : decode (am_cd (am_me P y)) pc = .ok (.ior, 1))  (kk : go P y (pc + 1) lo (.int (a ||| b) :: st) h Q) : go P y pc lo (.int b :: .int a :: st) h Q := by
  refine go_st ?_ kk
  rw [am_st_of d rfl]
  rfl
theorem g_ixor {a b : Int32} (d : decode (am_cd (am_me P y)) pc = .ok (.ixor, 1))  (kk : go P y (pc + 1) lo (.int (a ^^^ b) :: st) h Q) : go P y pc lo (.int b :: .int a :: st) h Q := by
  refine go_st ?_ kk
  rw [am_st_of d rfl]
  rfl
theorem g_ishl {a b : Int32} (d : decode (am_cd (am_me P y)) pc = .ok (.ishl, 1))  (kk : go P y (pc + 1) lo (.int (a <<< (b &&& 31)) :: st) h Q) : go P y pc lo (.int b :: .int a :: st) h Q := by
  refine go_st ?_ kk
  rw [am_st_of d rfl]
  rfl
theorem g_iushr {a b : Int32} (d : decode (am_cd (am_me P y)) pc = .ok (.iushr, 1))  (kk : go P y (pc + 1) lo (.int ((a.toUInt32 >>> (b.toUInt32 &&& Int32.toUInt32 31)).toInt32) :: st) h Q) : go P y pc lo (.int b :: .int a :: st) h Q := by
  refine go_st ?_ kk
  rw [am_st_of d rfl]
  rfl
theorem g_idiv {a b : Int32} (d : decode (am_cd (am_me P y)) pc = .ok (.idiv, 1)) (hb : b ≠ 0) (kk : go P y (pc + 1) lo (.int (a / b) :: st) h Q) : go P y pc lo (.int b :: .int a :: st) h Q := by
  refine go_st ?_ kk
  rw [am_st_of d rfl]
  unfold am_ex; dsimp only; unfold am_i2; dsimp only; rw [if_neg hb]; rfl
theorem g_land {a b : Int64} (d : decode (am_cd (am_me P y)) pc = .ok (.land, 1))  (kk : go P y (pc + 1) lo (.long (a &&& b) :: st) h Q) : go P y pc lo (.long b :: .long a :: st) h Q := by
  refine go_st ?_ kk
  rw [am_st_of d rfl]
  rfl
theorem g_lor {a b : Int64} (d : decode (am_cd (am_me P y)) pc = .ok (.lor, 1))  (kk : go P y (pc + 1) lo (.long (a ||| b) :: st) h Q) : go P y pc lo (.long b :: .long a :: st) h Q := by
  refine go_st ?_ kk
  rw [am_st_of d rfl]
  rfl
theorem g_lshl {a : Int64} {b : Int32} (d : decode (am_cd (am_me P y)) pc = .ok (.lshl, 1))  (kk : go P y (pc + 1) lo (.long (a <<< (b.toInt64 &&& 63)) :: st) h Q) : go P y pc lo (.int b :: .long a :: st) h Q := by
  refine go_st ?_ kk
  rw [am_st_of d rfl]
  rfl
theorem g_lcmp {a b : Int64} (d : decode (am_cd (am_me P y)) pc = .ok (.lcmp, 1))  (kk : go P y (pc + 1) lo (.int (lg_cmp a b) :: st) h Q) : go P y pc lo (.long b :: .long a :: st) h Q := by
  refine go_st ?_ kk
  rw [am_st_of d rfl]
  rfl
theorem g_i2l {a : Int32} (d : decode (am_cd (am_me P y)) pc = .ok (.i2l, 1))  (kk : go P y (pc + 1) lo (.long a.toInt64 :: st) h Q) : go P y pc lo (.int a :: st) h Q := by
  refine go_st ?_ kk
  rw [am_st_of d rfl]
  rfl
theorem g_dup {v : Value} (d : decode (am_cd (am_me P y)) pc = .ok (.dup, 1)) (hv : v.category = 1) (kk : go P y (pc + 1) lo (v :: v :: st) h Q) : go P y pc lo (v :: st) h Q := by
  refine go_st ?_ kk
  rw [am_st_of d rfl]
  unfold am_ex; dsimp only; rw [if_pos hv]; rfl
theorem g_pop {v : Value} (d : decode (am_cd (am_me P y)) pc = .ok (.pop, 1)) (hv : v.category = 1) (kk : go P y (pc + 1) lo st h Q) : go P y pc lo (v :: st) h Q := by
  refine go_st ?_ kk
  rw [am_st_of d rfl]
  unfold am_ex; dsimp only; rw [if_pos hv]; rfl
theorem g_dup_x1 {v u : Value} (d : decode (am_cd (am_me P y)) pc = .ok (.dup_x1, 1)) (hv : v.category = 1 ∧ u.category = 1) (kk : go P y (pc + 1) lo (v :: u :: v :: st) h Q) : go P y pc lo (v :: u :: st) h Q := by
  refine go_st ?_ kk
  rw [am_st_of d rfl]
  unfold am_ex; dsimp only; rw [if_pos hv]; rfl
theorem g_dup2 {v u : Value} (d : decode (am_cd (am_me P y)) pc = .ok (.dup2, 1)) (hv : v.category = 1 ∧ u.category = 1) (kk : go P y (pc + 1) lo (v :: u :: v :: u :: st) h Q) : go P y pc lo (v :: u :: st) h Q := by
  refine go_st ?_ kk
  rw [am_st_of d rfl]
  unfold am_ex; dsimp only; rw [if_pos hv]; rfl
theorem am_to_eq {pc t : Nat} {off : Int} {k : Nat → Option am_O} (ht : (pc : Int) + off = (t : Int)) : am_to pc off k = k t := by
  unfold am_to
  rw [ht, if_pos (Int.natCast_nonneg t), Int.toNat_natCast]
theorem cc_eq_t {x z : Int32} (hc : x = z) : am_cc .eq x z = true := by simp [am_cc, hc]
theorem cc_eq_f {x z : Int32} (hc : x ≠ z) : am_cc .eq x z = false := by simp [am_cc, hc]
theorem g_ifeq_t {off : _} {t : Nat} {x : Int32}  (d : decode (am_cd (am_me P y)) pc = .ok (.ifCond .eq off, 3)) (ht : (pc : Int) + off = (t : Int)) (hc : x = (0 : Int32)) (kk : go P y t lo st h Q) : go P y pc lo (.int x :: st) h Q := by
  refine go_st ?_ kk
  rw [am_st_of d rfl]
  unfold am_ex; dsimp only; unfold am_i1; dsimp only; rw [am_to_eq ht]; rw [if_pos (cc_eq_t (by simpa using hc))]; rfl
theorem g_ifeq_f {off : _} {t : Nat} {x : Int32}  (d : decode (am_cd (am_me P y)) pc = .ok (.ifCond .eq off, 3)) (ht : (pc : Int) + off = (t : Int)) (hc : x ≠ (0 : Int32)) (kk : go P y (pc + 3) lo st h Q) : go P y pc lo (.int x :: st) h Q := by
  refine go_st ?_ kk
  rw [am_st_of d rfl]
  unfold am_ex; dsimp only; unfold am_i1; dsimp only; rw [am_to_eq ht]; rw [if_neg (by rw [cc_eq_f (by simpa using hc)]; simp)]; rfl
theorem g_ifeq {off : _} {t : Nat} {x : Int32}  (d : decode (am_cd (am_me P y)) pc = .ok (.ifCond .eq off, 3)) (ht : (pc : Int) + off = (t : Int)) (k1 : x = (0 : Int32) → go P y t lo st h Q) (k2 : x ≠ (0 : Int32) → go P y (pc + 3) lo st h Q) : go P y pc lo (.int x :: st) h Q := by
  by_cases hc : x = (0 : Int32)
  · exact g_ifeq_t d ht hc (k1 hc)
  · exact g_ifeq_f d ht (by simpa using hc) (k2 (by simpa using hc))
theorem g_iceq_t {off : _} {t : Nat} {x : Int32} {z : Int32} (d : decode (am_cd (am_me P y)) pc = .ok (.if_icmp .eq off, 3)) (ht : (pc : Int) + off = (t : Int)) (hc : x = z) (kk : go P y t lo st h Q) : go P y pc lo (.int z :: .int x :: st) h Q := by
  refine go_st ?_ kk
  rw [am_st_of d rfl]
  unfold am_ex; dsimp only; unfold am_i2; dsimp only; rw [am_to_eq ht]; rw [if_pos (cc_eq_t (by simpa using hc))]; rfl
theorem g_iceq_f {off : _} {t : Nat} {x : Int32} {z : Int32} (d : decode (am_cd (am_me P y)) pc = .ok (.if_icmp .eq off, 3)) (ht : (pc : Int) + off = (t : Int)) (hc : x ≠ z) (kk : go P y (pc + 3) lo st h Q) : go P y pc lo (.int z :: .int x :: st) h Q := by
  refine go_st ?_ kk
  rw [am_st_of d rfl]
  unfold am_ex; dsimp only; unfold am_i2; dsimp only; rw [am_to_eq ht]; rw [if_neg (by rw [cc_eq_f (by simpa using hc)]; simp)]; rfl
theorem g_iceq {off : _} {t : Nat} {x : Int32} {z : Int32} (d : decode (am_cd (am_me P y)) pc = .ok (.if_icmp .eq off, 3)) (ht : (pc : Int) + off = (t : Int)) (k1 : x = z → go P y t lo st h Q) (k2 : x ≠ z → go P y (pc + 3) lo st h Q) : go P y pc lo (.int z :: .int x :: st) h Q := by
  by_cases hc : x = z
  · exact g_iceq_t d ht hc (k1 hc)
  · exact g_iceq_f d ht (by simpa using hc) (k2 (by simpa using hc))
theorem cc_ne_t {x z : Int32} (hc : x ≠ z) : am_cc .ne x z = true := by simp [am_cc, hc]
theorem cc_ne_f {x z : Int32} (hc : x = z) : am_cc .ne x z = false := by simp [am_cc, hc]
theorem g_ifne_t {off : _} {t : Nat} {x : Int32}  (d : decode (am_cd (am_me P y)) pc = .ok (.ifCond .ne off, 3)) (ht : (pc : Int) + off = (t : Int)) (hc : x ≠ (0 : Int32)) (kk : go P y t lo st h Q) : go P y pc lo (.int x :: st) h Q := by
  refine go_st ?_ kk
  rw [am_st_of d rfl]
  unfold am_ex; dsimp only; unfold am_i1; dsimp only; rw [am_to_eq ht]; rw [if_pos (cc_ne_t (by simpa using hc))]; rfl
theorem g_ifne_f {off : _} {t : Nat} {x : Int32}  (d : decode (am_cd (am_me P y)) pc = .ok (.ifCond .ne off, 3)) (ht : (pc : Int) + off = (t : Int)) (hc : x = (0 : Int32)) (kk : go P y (pc + 3) lo st h Q) : go P y pc lo (.int x :: st) h Q := by
  refine go_st ?_ kk
  rw [am_st_of d rfl]
  unfold am_ex; dsimp only; unfold am_i1; dsimp only; rw [am_to_eq ht]; rw [if_neg (by rw [cc_ne_f (by simpa using hc)]; simp)]; rfl
theorem g_ifne {off : _} {t : Nat} {x : Int32}  (d : decode (am_cd (am_me P y)) pc = .ok (.ifCond .ne off, 3)) (ht : (pc : Int) + off = (t : Int)) (k1 : x ≠ (0 : Int32) → go P y t lo st h Q) (k2 : x = (0 : Int32) → go P y (pc + 3) lo st h Q) : go P y pc lo (.int x :: st) h Q := by
  by_cases hc : x ≠ (0 : Int32)
  · exact g_ifne_t d ht hc (k1 hc)
  · exact g_ifne_f d ht (by simpa using hc) (k2 (by simpa using hc))
theorem g_icne_t {off : _} {t : Nat} {x : Int32} {z : Int32} (d : decode (am_cd (am_me P y)) pc = .ok (.if_icmp .ne off, 3)) (ht : (pc : Int) + off = (t : Int)) (hc : x ≠ z) (kk : go P y t lo st h Q) : go P y pc lo (.int z :: .int x :: st) h Q := by
  refine go_st ?_ kk
  rw [am_st_of d rfl]
  unfold am_ex; dsimp only; unfold am_i2; dsimp only; rw [am_to_eq ht]; rw [if_pos (cc_ne_t (by simpa using hc))]; rfl
theorem g_icne_f {off : _} {t : Nat} {x : Int32} {z : Int32} (d : decode (am_cd (am_me P y)) pc = .ok (.if_icmp .ne off, 3)) (ht : (pc : Int) + off = (t : Int)) (hc : x = z) (kk : go P y (pc + 3) lo st h Q) : go P y pc lo (.int z :: .int x :: st) h Q := by
  refine go_st ?_ kk
  rw [am_st_of d rfl]
  unfold am_ex; dsimp only; unfold am_i2; dsimp only; rw [am_to_eq ht]; rw [if_neg (by rw [cc_ne_f (by simpa using hc)]; simp)]; rfl
theorem g_icne {off : _} {t : Nat} {x : Int32} {z : Int32} (d : decode (am_cd (am_me P y)) pc = .ok (.if_icmp .ne off, 3)) (ht : (pc : Int) + off = (t : Int)) (k1 : x ≠ z → go P y t lo st h Q) (k2 : x = z → go P y (pc + 3) lo st h Q) : go P y pc lo (.int z :: .int x :: st) h Q := by
  by_cases hc : x ≠ z
  · exact g_icne_t d ht hc (k1 hc)
  · exact g_icne_f d ht (by simpa using hc) (k2 (by simpa using hc))
theorem cc_lt_t {x z : Int32} (hc : x.toInt < z.toInt) : am_cc .lt x z = true := by simp [am_cc, Int32.lt_iff_toInt_lt, hc]
theorem cc_lt_f {x z : Int32} (hc : z.toInt ≤ x.toInt) : am_cc .lt x z = false := by simp [am_cc, Int32.lt_iff_toInt_lt, hc]
theorem g_iflt_t {off : _} {t : Nat} {x : Int32}  (d : decode (am_cd (am_me P y)) pc = .ok (.ifCond .lt off, 3)) (ht : (pc : Int) + off = (t : Int)) (hc : x.toInt < 0) (kk : go P y t lo st h Q) : go P y pc lo (.int x :: st) h Q := by
  refine go_st ?_ kk
  rw [am_st_of d rfl]
  unfold am_ex; dsimp only; unfold am_i1; dsimp only; rw [am_to_eq ht]; rw [if_pos (cc_lt_t (by simpa using hc))]; rfl
theorem g_iflt_f {off : _} {t : Nat} {x : Int32}  (d : decode (am_cd (am_me P y)) pc = .ok (.ifCond .lt off, 3)) (ht : (pc : Int) + off = (t : Int)) (hc : 0 ≤ x.toInt) (kk : go P y (pc + 3) lo st h Q) : go P y pc lo (.int x :: st) h Q := by
  refine go_st ?_ kk
  rw [am_st_of d rfl]
  unfold am_ex; dsimp only; unfold am_i1; dsimp only; rw [am_to_eq ht]; rw [if_neg (by rw [cc_lt_f (by simpa using hc)]; simp)]; rfl
theorem g_iflt {off : _} {t : Nat} {x : Int32}  (d : decode (am_cd (am_me P y)) pc = .ok (.ifCond .lt off, 3)) (ht : (pc : Int) + off = (t : Int)) (k1 : x.toInt < 0 → go P y t lo st h Q) (k2 : 0 ≤ x.toInt → go P y (pc + 3) lo st h Q) : go P y pc lo (.int x :: st) h Q := by
  by_cases hc : x.toInt < 0
  · exact g_iflt_t d ht hc (k1 hc)
  · exact g_iflt_f d ht (by omega) (k2 (by omega))
theorem g_iclt_t {off : _} {t : Nat} {x : Int32} {z : Int32} (d : decode (am_cd (am_me P y)) pc = .ok (.if_icmp .lt off, 3)) (ht : (pc : Int) + off = (t : Int)) (hc : x.toInt < z.toInt) (kk : go P y t lo st h Q) : go P y pc lo (.int z :: .int x :: st) h Q := by
  refine go_st ?_ kk
  rw [am_st_of d rfl]
  unfold am_ex; dsimp only; unfold am_i2; dsimp only; rw [am_to_eq ht]; rw [if_pos (cc_lt_t (by simpa using hc))]; rfl
theorem g_iclt_f {off : _} {t : Nat} {x : Int32} {z : Int32} (d : decode (am_cd (am_me P y)) pc = .ok (.if_icmp .lt off, 3)) (ht : (pc : Int) + off = (t : Int)) (hc : z.toInt ≤ x.toInt) (kk : go P y (pc + 3) lo st h Q) : go P y pc lo (.int z :: .int x :: st) h Q := by
  refine go_st ?_ kk
  rw [am_st_of d rfl]
  unfold am_ex; dsimp only; unfold am_i2; dsimp only; rw [am_to_eq ht]; rw [if_neg (by rw [cc_lt_f (by simpa using hc)]; simp)]; rfl
theorem g_iclt {off : _} {t : Nat} {x : Int32} {z : Int32} (d : decode (am_cd (am_me P y)) pc = .ok (.if_icmp .lt off, 3)) (ht : (pc : Int) + off = (t : Int)) (k1 : x.toInt < z.toInt → go P y t lo st h Q) (k2 : z.toInt ≤ x.toInt → go P y (pc + 3) lo st h Q) : go P y pc lo (.int z :: .int x :: st) h Q := by
  by_cases hc : x.toInt < z.toInt
  · exact g_iclt_t d ht hc (k1 hc)
  · exact g_iclt_f d ht (by omega) (k2 (by omega))
theorem cc_ge_t {x z : Int32} (hc : z.toInt ≤ x.toInt) : am_cc .ge x z = true := by simp [am_cc, Int32.le_iff_toInt_le, hc]
theorem cc_ge_f {x z : Int32} (hc : x.toInt < z.toInt) : am_cc .ge x z = false := by simp [am_cc, Int32.le_iff_toInt_le, hc]
theorem g_ifge_t {off : _} {t : Nat} {x : Int32}  (d : decode (am_cd (am_me P y)) pc = .ok (.ifCond .ge off, 3)) (ht : (pc : Int) + off = (t : Int)) (hc : 0 ≤ x.toInt) (kk : go P y t lo st h Q) : go P y pc lo (.int x :: st) h Q := by
  refine go_st ?_ kk
  rw [am_st_of d rfl]
  unfold am_ex; dsimp only; unfold am_i1; dsimp only; rw [am_to_eq ht]; rw [if_pos (cc_ge_t (by simpa using hc))]; rfl
theorem g_ifge_f {off : _} {t : Nat} {x : Int32}  (d : decode (am_cd (am_me P y)) pc = .ok (.ifCond .ge off, 3)) (ht : (pc : Int) + off = (t : Int)) (hc : x.toInt < 0) (kk : go P y (pc + 3) lo st h Q) : go P y pc lo (.int x :: st) h Q := by
  refine go_st ?_ kk
  rw [am_st_of d rfl]
  unfold am_ex; dsimp only; unfold am_i1; dsimp only; rw [am_to_eq ht]; rw [if_neg (by rw [cc_ge_f (by simpa using hc)]; simp)]; rfl
theorem g_ifge {off : _} {t : Nat} {x : Int32}  (d : decode (am_cd (am_me P y)) pc = .ok (.ifCond .ge off, 3)) (ht : (pc : Int) + off = (t : Int)) (k1 : 0 ≤ x.toInt → go P y t lo st h Q) (k2 : x.toInt < 0 → go P y (pc + 3) lo st h Q) : go P y pc lo (.int x :: st) h Q := by
  by_cases hc : 0 ≤ x.toInt
  · exact g_ifge_t d ht hc (k1 hc)
  · exact g_ifge_f d ht (by omega) (k2 (by omega))
theorem g_icge_t {off : _} {t : Nat} {x : Int32} {z : Int32} (d : decode (am_cd (am_me P y)) pc = .ok (.if_icmp .ge off, 3)) (ht : (pc : Int) + off = (t : Int)) (hc : z.toInt ≤ x.toInt) (kk : go P y t lo st h Q) : go P y pc lo (.int z :: .int x :: st) h Q := by
  refine go_st ?_ kk
  rw [am_st_of d rfl]
  unfold am_ex; dsimp only; unfold am_i2; dsimp only; rw [am_to_eq ht]; rw [if_pos (cc_ge_t (by simpa using hc))]; rfl
theorem g_icge_f {off : _} {t : Nat} {x : Int32} {z : Int32} (d : decode (am_cd (am_me P y)) pc = .ok (.if_icmp .ge off, 3)) (ht : (pc : Int) + off = (t : Int)) (hc : x.toInt < z.toInt) (kk : go P y (pc + 3) lo st h Q) : go P y pc lo (.int z :: .int x :: st) h Q := by
  refine go_st ?_ kk
  rw [am_st_of d rfl]
  unfold am_ex; dsimp only; unfold am_i2; dsimp only; rw [am_to_eq ht]; rw [if_neg (by rw [cc_ge_f (by simpa using hc)]; simp)]; rfl
theorem g_icge {off : _} {t : Nat} {x : Int32} {z : Int32} (d : decode (am_cd (am_me P y)) pc = .ok (.if_icmp .ge off, 3)) (ht : (pc : Int) + off = (t : Int)) (k1 : z.toInt ≤ x.toInt → go P y t lo st h Q) (k2 : x.toInt < z.toInt → go P y (pc + 3) lo st h Q) : go P y pc lo (.int z :: .int x :: st) h Q := by
  by_cases hc : z.toInt ≤ x.toInt
  · exact g_icge_t d ht hc (k1 hc)
  · exact g_icge_f d ht (by omega) (k2 (by omega))
theorem cc_gt_t {x z : Int32} (hc : z.toInt < x.toInt) : am_cc .gt x z = true := by simp [am_cc, Int32.lt_iff_toInt_lt, hc]
theorem cc_gt_f {x z : Int32} (hc : x.toInt ≤ z.toInt) : am_cc .gt x z = false := by simp [am_cc, Int32.lt_iff_toInt_lt, hc]
theorem g_ifgt_t {off : _} {t : Nat} {x : Int32}  (d : decode (am_cd (am_me P y)) pc = .ok (.ifCond .gt off, 3)) (ht : (pc : Int) + off = (t : Int)) (hc : 0 < x.toInt) (kk : go P y t lo st h Q) : go P y pc lo (.int x :: st) h Q := by
  refine go_st ?_ kk
  rw [am_st_of d rfl]
  unfold am_ex; dsimp only; unfold am_i1; dsimp only; rw [am_to_eq ht]; rw [if_pos (cc_gt_t (by simpa using hc))]; rfl
theorem g_ifgt_f {off : _} {t : Nat} {x : Int32}  (d : decode (am_cd (am_me P y)) pc = .ok (.ifCond .gt off, 3)) (ht : (pc : Int) + off = (t : Int)) (hc : x.toInt ≤ 0) (kk : go P y (pc + 3) lo st h Q) : go P y pc lo (.int x :: st) h Q := by
  refine go_st ?_ kk
  rw [am_st_of d rfl]
  unfold am_ex; dsimp only; unfold am_i1; dsimp only; rw [am_to_eq ht]; rw [if_neg (by rw [cc_gt_f (by simpa using hc)]; simp)]; rfl
theorem g_ifgt {off : _} {t : Nat} {x : Int32}  (d : decode (am_cd (am_me P y)) pc = .ok (.ifCond .gt off, 3)) (ht : (pc : Int) + off = (t : Int)) (k1 : 0 < x.toInt → go P y t lo st h Q) (k2 : x.toInt ≤ 0 → go P y (pc + 3) lo st h Q) : go P y pc lo (.int x :: st) h Q := by
  by_cases hc : 0 < x.toInt
  · exact g_ifgt_t d ht hc (k1 hc)
  · exact g_ifgt_f d ht (by omega) (k2 (by omega))
theorem g_icgt_t {off : _} {t : Nat} {x : Int32} {z : Int32} (d : decode (am_cd (am_me P y)) pc = .ok (.if_icmp .gt off, 3)) (ht : (pc : Int) + off = (t : Int)) (hc : z.toInt < x.toInt) (kk : go P y t lo st h Q) : go P y pc lo (.int z :: .int x :: st) h Q := by
  refine go_st ?_ kk
  rw [am_st_of d rfl]
  unfold am_ex; dsimp only; unfold am_i2; dsimp only; rw [am_to_eq ht]; rw [if_pos (cc_gt_t (by simpa using hc))]; rfl
theorem g_icgt_f {off : _} {t : Nat} {x : Int32} {z : Int32} (d : decode (am_cd (am_me P y)) pc = .ok (.if_icmp .gt off, 3)) (ht : (pc : Int) + off = (t : Int)) (hc : x.toInt ≤ z.toInt) (kk : go P y (pc + 3) lo st h Q) : go P y pc lo (.int z :: .int x :: st) h Q := by
  refine go_st ?_ kk
  rw [am_st_of d rfl]
  unfold am_ex; dsimp only; unfold am_i2; dsimp only; rw [am_to_eq ht]; rw [if_neg (by rw [cc_gt_f (by simpa using hc)]; simp)]; rfl
theorem g_icgt {off : _} {t : Nat} {x : Int32} {z : Int32} (d : decode (am_cd (am_me P y)) pc = .ok (.if_icmp .gt off, 3)) (ht : (pc : Int) + off = (t : Int)) (k1 : z.toInt < x.toInt → go P y t lo st h Q) (k2 : x.toInt ≤ z.toInt → go P y (pc + 3) lo st h Q) : go P y pc lo (.int z :: .int x :: st) h Q := by
  by_cases hc : z.toInt < x.toInt
  · exact g_icgt_t d ht hc (k1 hc)
  · exact g_icgt_f d ht (by omega) (k2 (by omega))
theorem cc_le_t {x z : Int32} (hc : x.toInt ≤ z.toInt) : am_cc .le x z = true := by simp [am_cc, Int32.le_iff_toInt_le, hc]
theorem cc_le_f {x z : Int32} (hc : z.toInt < x.toInt) : am_cc .le x z = false := by simp [am_cc, Int32.le_iff_toInt_le, hc]
theorem g_ifle_t {off : _} {t : Nat} {x : Int32}  (d : decode (am_cd (am_me P y)) pc = .ok (.ifCond .le off, 3)) (ht : (pc : Int) + off = (t : Int)) (hc : x.toInt ≤ 0) (kk : go P y t lo st h Q) : go P y pc lo (.int x :: st) h Q := by
  refine go_st ?_ kk
  rw [am_st_of d rfl]
  unfold am_ex; dsimp only; unfold am_i1; dsimp only; rw [am_to_eq ht]; rw [if_pos (cc_le_t (by simpa using hc))]; rfl
theorem g_ifle_f {off : _} {t : Nat} {x : Int32}  (d : decode (am_cd (am_me P y)) pc = .ok (.ifCond .le off, 3)) (ht : (pc : Int) + off = (t : Int)) (hc : 0 < x.toInt) (kk : go P y (pc + 3) lo st h Q) : go P y pc lo (.int x :: st) h Q := by
  refine go_st ?_ kk
  rw [am_st_of d rfl]
  unfold am_ex; dsimp only; unfold am_i1; dsimp only; rw [am_to_eq ht]; rw [if_neg (by rw [cc_le_f (by simpa using hc)]; simp)]; rfl
theorem g_ifle {off : _} {t : Nat} {x : Int32}  (d : decode (am_cd (am_me P y)) pc = .ok (.ifCond .le off, 3)) (ht : (pc : Int) + off = (t : Int)) (k1 : x.toInt ≤ 0 → go P y t lo st h Q) (k2 : 0 < x.toInt → go P y (pc + 3) lo st h Q) : go P y pc lo (.int x :: st) h Q := by
  by_cases hc : x.toInt ≤ 0
  · exact g_ifle_t d ht hc (k1 hc)
  · exact g_ifle_f d ht (by omega) (k2 (by omega))
theorem g_icle_t {off : _} {t : Nat} {x : Int32} {z : Int32} (d : decode (am_cd (am_me P y)) pc = .ok (.if_icmp .le off, 3)) (ht : (pc : Int) + off = (t : Int)) (hc : x.toInt ≤ z.toInt) (kk : go P y t lo st h Q) : go P y pc lo (.int z :: .int x :: st) h Q := by
  refine go_st ?_ kk
  rw [am_st_of d rfl]
  unfold am_ex; dsimp only; unfold am_i2; dsimp only; rw [am_to_eq ht]; rw [if_pos (cc_le_t (by simpa using hc))]; rfl
theorem g_icle_f {off : _} {t : Nat} {x : Int32} {z : Int32} (d : decode (am_cd (am_me P y)) pc = .ok (.if_icmp .le off, 3)) (ht : (pc : Int) + off = (t : Int)) (hc : z.toInt < x.toInt) (kk : go P y (pc + 3) lo st h Q) : go P y pc lo (.int z :: .int x :: st) h Q := by
  refine go_st ?_ kk
  rw [am_st_of d rfl]
  unfold am_ex; dsimp only; unfold am_i2; dsimp only; rw [am_to_eq ht]; rw [if_neg (by rw [cc_le_f (by simpa using hc)]; simp)]; rfl
theorem g_icle {off : _} {t : Nat} {x : Int32} {z : Int32} (d : decode (am_cd (am_me P y)) pc = .ok (.if_icmp .le off, 3)) (ht : (pc : Int) + off = (t : Int)) (k1 : x.toInt ≤ z.toInt → go P y t lo st h Q) (k2 : z.toInt < x.toInt → go P y (pc + 3) lo st h Q) : go P y pc lo (.int z :: .int x :: st) h Q := by
  by_cases hc : x.toInt ≤ z.toInt
  · exact g_icle_t d ht hc (k1 hc)
  · exact g_icle_f d ht (by omega) (k2 (by omega))
theorem g_ifnull_t {off : _} {t : Nat} (d : decode (am_cd (am_me P y)) pc = .ok (.ifnull off, 3)) (ht : (pc : Int) + off = (t : Int)) (kk : go P y t lo st h Q) : go P y pc lo (.null :: st) h Q := by
  refine go_st ?_ kk
  rw [am_st_of d rfl]
  unfold am_ex; dsimp only; rw [am_to_eq ht]; rfl
theorem g_ifnull_f {off : _} {a : Nat} (d : decode (am_cd (am_me P y)) pc = .ok (.ifnull off, 3)) (kk : go P y (pc + 3) lo st h Q) : go P y pc lo (.ref a :: st) h Q := by
  refine go_st ?_ kk
  rw [am_st_of d rfl]
  rfl
theorem g_ifnull {off : _} {t : Nat} {x : Option Nat} (d : decode (am_cd (am_me P y)) pc = .ok (.ifnull off, 3)) (ht : (pc : Int) + off = (t : Int)) (k1 : x = none → go P y t lo st h Q) (k2 : ∀ a, x = some a → go P y (pc + 3) lo st h Q) : go P y pc lo (va_rf x :: st) h Q := by
  cases x with
  | none => exact g_ifnull_t d ht (k1 rfl)
  | some a => exact g_ifnull_f d (k2 a rfl)
theorem g_ifnonnull_t {off : _} {t a : Nat} (d : decode (am_cd (am_me P y)) pc = .ok (.ifnonnull off, 3)) (ht : (pc : Int) + off = (t : Int)) (kk : go P y t lo st h Q) : go P y pc lo (.ref a :: st) h Q := by
  refine go_st ?_ kk
  rw [am_st_of d rfl]
  unfold am_ex; dsimp only; rw [am_to_eq ht]; rfl
theorem g_ifnonnull_f {off : _} (d : decode (am_cd (am_me P y)) pc = .ok (.ifnonnull off, 3)) (kk : go P y (pc + 3) lo st h Q) : go P y pc lo (.null :: st) h Q := by
  refine go_st ?_ kk
  rw [am_st_of d rfl]
  rfl
theorem g_ifnonnull {off : _} {t : Nat} {x : Option Nat} (d : decode (am_cd (am_me P y)) pc = .ok (.ifnonnull off, 3)) (ht : (pc : Int) + off = (t : Int)) (k1 : ∀ a, x = some a → go P y t lo st h Q) (k2 : x = none → go P y (pc + 3) lo st h Q) : go P y pc lo (va_rf x :: st) h Q := by
  cases x with
  | none => exact g_ifnonnull_f d (k2 rfl)
  | some a => exact g_ifnonnull_t d ht (k1 a rfl)
theorem g_goto {off : _} {t : Nat} (d : decode (am_cd (am_me P y)) pc = .ok (.goto off, 3)) (ht : (pc : Int) + off = (t : Int)) (kk : go P y t lo st h Q) : go P y pc lo st h Q := by
  refine go_st ?_ kk
  rw [am_st_of d rfl]
  unfold am_ex; dsimp only; rw [am_to_eq ht]; rfl
theorem g_switch {df a b : _} {len : Nat} {offs : _} {off : Int} {t : Nat} {x : Int32} (d : decode (am_cd (am_me P y)) pc = .ok (.tableswitch df a b offs, len)) (hx : a ≤ x.toInt ∧ x.toInt ≤ b) (ho : offs[(x.toInt - a).toNat]? = some off) (ht : (pc : Int) + off = (t : Int)) (kk : go P y t lo st h Q) : go P y pc lo (.int x :: st) h Q := by
  refine go_st ?_ kk
  rw [am_st_of d rfl]
  unfold am_ex; dsimp only; unfold am_i1; dsimp only; rw [if_neg (by omega), ho]; dsimp only; rw [am_to_eq ht]; rfl
theorem g_switch_d {df a b : _} {len : Nat} {offs : _} {t : Nat} {x : Int32} (d : decode (am_cd (am_me P y)) pc = .ok (.tableswitch df a b offs, len)) (hx : x.toInt < a ∨ b < x.toInt) (ht : (pc : Int) + df = (t : Int)) (kk : go P y t lo st h Q) : go P y pc lo (.int x :: st) h Q := by
  refine go_st ?_ kk
  rw [am_st_of d rfl]
  unfold am_ex; dsimp only; unfold am_i1; dsimp only; rw [if_pos hx, am_to_eq ht]; rfl

theorem g_ireturn {x : Int32} (d : decode (am_cd (am_me P y)) pc = .ok (.ireturn, 1)) (hr : am_rt (am_me P y) = some .int) (q : Q (.inl (some (.int x))) h) : go P y pc lo [.int x] h Q := by
  refine go_ret ?_ q
  rw [am_st_of d rfl]
  unfold am_ex; dsimp only; rw [if_pos (Or.inl hr)]
theorem g_breturn {x : Int32} (d : decode (am_cd (am_me P y)) pc = .ok (.ireturn, 1)) (hr : am_rt (am_me P y) = some .boolean) (hx : x = 0 ∨ x = 1) (q : Q (.inl (some (.int x))) h) : go P y pc lo [.int x] h Q := by
  refine go_ret ?_ q
  rw [am_st_of d rfl]
  unfold am_ex; dsimp only; rw [if_pos (Or.inr ⟨hr, hx⟩)]
theorem g_areturn {x : Nat} (d : decode (am_cd (am_me P y)) pc = .ok (.areturn, 1)) (hr : am_ro (am_rt (am_me P y)) = true) (q : Q (.inl (some (.ref x))) h) : go P y pc lo [.ref x] h Q := by
  refine go_ret ?_ q
  rw [am_st_of d rfl]
  unfold am_ex; dsimp only; rw [if_pos hr]
theorem g_areturnq {x : Option Nat} (d : decode (am_cd (am_me P y)) pc = .ok (.areturn, 1)) (hr : am_ro (am_rt (am_me P y)) = true) (q : Q (.inl (some (va_rf x))) h) : go P y pc lo [va_rf x] h Q := by
  refine go_ret ?_ q
  rw [am_st_of d rfl]
  unfold am_ex; dsimp only; rw [if_pos hr]
  cases x <;> rfl
theorem g_return (d : decode (am_cd (am_me P y)) pc = .ok (.return_, 1)) (hr : am_rt (am_me P y) = none) (q : Q (.inl none) h) : go P y pc lo [] h Q := by
  refine go_ret ?_ q
  rw [am_st_of d rfl]
  unfold am_ex; dsimp only; rw [if_pos hr]

theorem am_gI_eq {a n : Nat} {f : Nat → Int32} {k : Nat → (Nat → Int32) → Option am_O} (ha : h[a]? = some (am_I n f)) : am_gI h a k = k n f := by unfold am_gI; rw [ha]; rfl
theorem am_gZ_eq {a n : Nat} {f : Nat → Int32} {k : Nat → (Nat → Int32) → Option am_O} (ha : h[a]? = some (am_Z n f)) : am_gZ h a k = k n f := by unfold am_gZ; rw [ha]; rfl
theorem am_gJ_eq {a n : Nat} {f : Nat → Int64} {k : Nat → (Nat → Int64) → Option am_O} (ha : h[a]? = some (am_J n f)) : am_gJ h a k = k n f := by unfold am_gJ; rw [ha]; rfl
theorem am_gR_eq {a n t : Nat} {f : Nat → Option Nat} {k : Nat → Nat → (Nat → Option Nat) → Option am_O} (ha : h[a]? = some (am_R t n f)) : am_gR h a k = k t n f := by unfold am_gR; rw [ha]
theorem am_gB_eq {a c : Nat} {fs : List Value} {k : Nat → List Value → Option am_O} (ha : h[a]? = some (.inr (c, fs))) : am_gB h a k = k c fs := by unfold am_gB; rw [ha]
theorem g_get {ix ci k a : Nat} {ty : FieldType} {wr : Bool} {fs : List Value} {v : Value} (d : decode (am_cd (am_me P y)) pc = .ok (.getfield ix, 3)) (hf : am_fd P y ix = some (ci, k, ty, wr)) (ha : h[a]? = some (.inr (ci, fs))) (hv : fs[k]? = some v) (kk : go P y (pc + 3) lo (v :: st) h Q) : go P y pc lo (.ref a :: st) h Q := by
  refine go_st ?_ kk
  rw [am_st_of d rfl]
  unfold am_ex; dsimp only; rw [hf]; dsimp only; unfold am_r1; dsimp only; rw [am_gB_eq ha]; (try dsimp only); rw [if_pos rfl, hv]; rfl
theorem g_put {ix ci k a : Nat} {ty : FieldType} {fs : List Value} {v : Value} {h1 : am_H} (d : decode (am_cd (am_me P y)) pc = .ok (.putfield ix, 3)) (hf : am_fd P y ix = some (ci, k, ty, true)) (ha : h[a]? = some (.inr (ci, fs))) (hk : k < fs.length) (hv : am_ft ty v = true) (hh : h.set a (.inr (ci, fs.set k v)) = h1) (kk : go P y (pc + 3) lo st h1 Q) : go P y pc lo (v :: .ref a :: st) h Q := by
  subst hh
  refine go_st ?_ kk
  rw [am_st_of d rfl]
  unfold am_ex; dsimp only; rw [hf]; dsimp only; unfold am_vr; dsimp only; rw [am_gB_eq ha]; (try dsimp only); rw [if_pos ⟨rfl, hk, hv⟩]; rfl
theorem g_iaload {a n : Nat} {i : Int32} {f : Nat → Int32} (d : decode (am_cd (am_me P y)) pc = .ok (.iaload, 1)) (hs : a ≠ am_scr) (ha : h[a]? = some (am_I n f)) (hi : am_in i n = true) (kk : go P y (pc + 1) lo (.int (f i.toNatClampNeg) :: st) h Q) : go P y pc lo (.int i :: .ref a :: st) h Q := by
  refine go_st ?_ kk
  rw [am_st_of d rfl]
  unfold am_ex; dsimp only; unfold am_ir; dsimp only; rw [if_neg hs]; rw [am_gI_eq ha]; (try dsimp only); rw [if_pos hi]; rfl
theorem g_saload {i : Int32} (d : decode (am_cd (am_me P y)) pc = .ok (.iaload, 1)) (hi : am_in i (am_sL P) = true) (kk : go P y (pc + 1) lo (.int (am_sX P i.toNatClampNeg) :: st) h Q) : go P y pc lo (.int i :: .ref am_scr :: st) h Q := by
  refine go_st ?_ kk
  rw [am_st_of d rfl]
  unfold am_ex; dsimp only; unfold am_ir; dsimp only; rw [if_pos rfl, if_pos hi]; rfl
theorem g_baload {a n : Nat} {i : Int32} {f : Nat → Int32} (d : decode (am_cd (am_me P y)) pc = .ok (.baload, 1)) (ha : h[a]? = some (am_Z n f)) (hi : am_in i n = true) (kk : go P y (pc + 1) lo (.int (f i.toNatClampNeg) :: st) h Q) : go P y pc lo (.int i :: .ref a :: st) h Q := by
  refine go_st ?_ kk
  rw [am_st_of d rfl]
  unfold am_ex; dsimp only; unfold am_ir; dsimp only; rw [am_gZ_eq ha]; (try dsimp only); rw [if_pos hi]; rfl
theorem g_laload {a n : Nat} {i : Int32} {f : Nat → Int64} (d : decode (am_cd (am_me P y)) pc = .ok (.laload, 1)) (ha : h[a]? = some (am_J n f)) (hi : am_in i n = true) (kk : go P y (pc + 1) lo (.long (f i.toNatClampNeg) :: st) h Q) : go P y pc lo (.int i :: .ref a :: st) h Q := by
  refine go_st ?_ kk
  rw [am_st_of d rfl]
  unfold am_ex; dsimp only; unfold am_ir; dsimp only; rw [am_gJ_eq ha]; (try dsimp only); rw [if_pos hi]; rfl
theorem g_aaload {a n t : Nat} {i : Int32} {f : Nat → Option Nat} (d : decode (am_cd (am_me P y)) pc = .ok (.aaload, 1)) (ha : h[a]? = some (am_R t n f)) (ht : 2 < t ∧ t < 5) (hi : am_in i n = true) (kk : go P y (pc + 1) lo (va_rf (f i.toNatClampNeg) :: st) h Q) : go P y pc lo (.int i :: .ref a :: st) h Q := by
  refine go_st ?_ kk
  rw [am_st_of d rfl]
  unfold am_ex; dsimp only; unfold am_ir; dsimp only; rw [am_gR_eq ha]; (try dsimp only); rw [if_pos ⟨hi, ht⟩]; rfl
theorem g_iastore {a n : Nat} {i x : Int32} {f : Nat → Int32} {h1 : am_H} (d : decode (am_cd (am_me P y)) pc = .ok (.iastore, 1)) (ha : h[a]? = some (am_I n f)) (hi : am_in i n = true) (hh : h.set a (am_I n (upd f i.toNatClampNeg x)) = h1) (kk : go P y (pc + 1) lo st h1 Q) : go P y pc lo (.int x :: .int i :: .ref a :: st) h Q := by
  subst hh
  refine go_st ?_ kk
  rw [am_st_of d rfl]
  unfold am_ex; dsimp only; unfold am_vir; dsimp only; rw [am_gI_eq ha]; (try dsimp only); rw [if_pos hi]; rfl
theorem g_bastore {a n : Nat} {i x : Int32} {f : Nat → Int32} {h1 : am_H} (d : decode (am_cd (am_me P y)) pc = .ok (.bastore, 1)) (ha : h[a]? = some (am_Z n f)) (hi : am_in i n = true) (hx : x = 0 ∨ x = 1) (hh : h.set a (am_Z n (upd f i.toNatClampNeg x)) = h1) (kk : go P y (pc + 1) lo st h1 Q) : go P y pc lo (.int x :: .int i :: .ref a :: st) h Q := by
  subst hh
  have e : vp_nar .boolean x = x := by rcases hx with rfl | rfl <;> rfl
  refine go_st ?_ kk
  rw [am_st_of d rfl]
  unfold am_ex; dsimp only; unfold am_vir; dsimp only; rw [am_gZ_eq ha]; (try dsimp only); rw [if_pos hi, e]; rfl
theorem g_lastore {a n : Nat} {i : Int32} {x : Int64} {f : Nat → Int64} {h1 : am_H} (d : decode (am_cd (am_me P y)) pc = .ok (.lastore, 1)) (ha : h[a]? = some (am_J n f)) (hi : am_in i n = true) (hh : h.set a (am_J n (vp_updL f i.toNatClampNeg x)) = h1) (kk : go P y (pc + 1) lo st h1 Q) : go P y pc lo (.long x :: .int i :: .ref a :: st) h Q := by
  subst hh
  refine go_st ?_ kk
  rw [am_st_of d rfl]
  unfold am_ex; dsimp only; unfold am_vir; dsimp only; rw [am_gJ_eq ha]; (try dsimp only); rw [if_pos hi]; rfl
theorem g_aastore {a n t x ci : Nat} {i : Int32} {f : Nat → Option Nat} {fs : List Value} {h1 : am_H} (d : decode (am_cd (am_me P y)) pc = .ok (.aastore, 1)) (ha : h[a]? = some (am_R t n f)) (hx : h[x]? = some (.inr (ci, fs))) (hi : am_in i n = true) (ht : (2 < t ∧ t < 5) ∧ am_cp P t = ci) (hh : h.set a (am_R t n (va_up f i.toNatClampNeg (some x))) = h1) (kk : go P y (pc + 1) lo st h1 Q) : go P y pc lo (.ref x :: .int i :: .ref a :: st) h Q := by
  subst hh
  refine go_st ?_ kk
  rw [am_st_of d rfl]
  unfold am_ex; dsimp only; unfold am_vir; dsimp only; rw [am_gR_eq ha]; (try dsimp only); rw [am_gB_eq hx]; (try dsimp only); rw [if_pos ⟨⟨hi, ht.1⟩, ht.2⟩]; rfl
theorem g_alen {a n t : Nat} {q : _} (d : decode (am_cd (am_me P y)) pc = .ok (.arraylength, 1)) (hs : a ≠ am_scr) (ha : h[a]? = some (.inl (t, n, q))) (ht : t < 5) (kk : go P y (pc + 1) lo (.int (Int32.ofNat n) :: st) h Q) : go P y pc lo (.ref a :: st) h Q := by
  refine go_st ?_ kk
  rw [am_st_of d rfl]
  unfold am_ex; dsimp only; unfold am_r1; dsimp only; rw [if_neg hs, ha]; dsimp only; rw [if_pos ht]; rfl
theorem g_slen (d : decode (am_cd (am_me P y)) pc = .ok (.arraylength, 1)) (kk : go P y (pc + 1) lo (.int (Int32.ofNat (am_sL P)) :: st) h Q) : go P y pc lo (.ref am_scr :: st) h Q := by
  refine go_st ?_ kk
  rw [am_st_of d rfl]
  unfold am_ex; dsimp only; unfold am_r1; dsimp only; rw [if_pos rfl]; rfl
theorem g_newI {x : Int32} (d : decode (am_cd (am_me P y)) pc = .ok (.newarray .int, 2)) (hx : 0 ≤ x.toInt ∧ x.toInt < 100000) (kk : go P y (pc + 2) lo (.ref h.length :: st) (h ++ [am_I x.toNatClampNeg (fun _ => 0)]) Q) : go P y pc lo (.int x :: st) h Q := by
  refine go_st ?_ kk
  rw [am_st_of d rfl]
  unfold am_ex; dsimp only; unfold am_i1; dsimp only; rw [if_pos hx]; rfl
theorem g_newJ {x : Int32} (d : decode (am_cd (am_me P y)) pc = .ok (.newarray .long, 2)) (hx : 0 ≤ x.toInt ∧ x.toInt < 100000) (kk : go P y (pc + 2) lo (.ref h.length :: st) (h ++ [am_J x.toNatClampNeg (fun _ => 0)]) Q) : go P y pc lo (.int x :: st) h Q := by
  refine go_st ?_ kk
  rw [am_st_of d rfl]
  unfold am_ex; dsimp only; unfold am_i1; dsimp only; rw [if_pos hx]; rfl
theorem g_newZ {x : Int32} (d : decode (am_cd (am_me P y)) pc = .ok (.newarray .boolean, 2)) (hx : 0 ≤ x.toInt ∧ x.toInt < 100000) (kk : go P y (pc + 2) lo (.ref h.length :: st) (h ++ [am_Z x.toNatClampNeg (fun _ => 0)]) Q) : go P y pc lo (.int x :: st) h Q := by
  refine go_st ?_ kk
  rw [am_st_of d rfl]
  unfold am_ex; dsimp only; unfold am_i1; dsimp only; rw [if_pos hx]; rfl
theorem g_newR {x : Int32} {ix t : Nat} (d : decode (am_cd (am_me P y)) pc = .ok (.anewarray ix, 3)) (ht : am_an P y ix = some t) (hx : 0 ≤ x.toInt ∧ x.toInt < 100000) (kk : go P y (pc + 3) lo (.ref h.length :: st) (h ++ [am_R t x.toNatClampNeg (fun _ => none)]) Q) : go P y pc lo (.int x :: st) h Q := by
  refine go_st ?_ kk
  rw [am_st_of d rfl]
  unfold am_ex; dsimp only; rw [ht]; dsimp only; unfold am_i1; dsimp only; rw [if_pos hx]; rfl
theorem g_new {ix ci : Nat} (d : decode (am_cd (am_me P y)) pc = .ok (.new ix, 3)) (ht : am_nw P y ix = some ci) (kk : go P y (pc + 3) lo (.ref h.length :: st) (h ++ [.inr (ci, am_df P ci)]) Q) : go P y pc lo st h Q := by
  refine go_st ?_ kk
  rw [am_st_of d rfl]
  unfold am_ex; dsimp only; rw [ht]; rfl
theorem g_throw {ix ic E : Nat} (d : decode (am_cd (am_me P y)) pc = .ok (.new ix, 3)) (ht : am_nw P y ix = none) (d1 : decode (am_cd (am_me P y)) (pc + 3) = .ok (.dup, 1)) (d2 : decode (am_cd (am_me P y)) (pc + 4) = .ok (.invokespecial ic, 3)) (d3 : decode (am_cd (am_me P y)) (pc + 7) = .ok (.athrow, 1)) (hx : am_xn P y ix ic = some E) (hr : 5 < am_rf (am_me P y) ∧ am_wd st + 82 ≤ am_rl (am_me P y)) (hno : am_no P y (pc + 7) = true) (q : Q (.inr E) (h ++ [.inr (E, [])])) : go P y pc lo st h Q := by
  refine go_thr ?_ hno q
  rw [am_st_of d rfl]
  unfold am_ex; dsimp only; rw [ht]; dsimp only; rw [d1, d2, d3]; refine Eq.trans (b := match am_xn P y ix ic with | some ci => if 5 < am_rf (am_me P y) ∧ am_wd st + 82 ≤ am_rl (am_me P y) then some (Sum.inr (Sum.inr (Sum.inr ci))) else none | none => none) rfl ?_; rw [hx]; (try dsimp only); rw [if_pos hr]
theorem g_oinit {ix a : Nat} (d : decode (am_cd (am_me P y)) pc = .ok (.invokespecial ix, 3)) (hs : am_sp P y ix = some 0) (hr : 1 ≤ am_rf (am_me P y) ∧ am_wd st + 12 ≤ am_rl (am_me P y)) (kk : go P y (pc + 3) lo st h Q) : go P y pc lo (.ref a :: st) h Q := by
  refine go_st ?_ kk
  rw [am_st_of d rfl]
  refine Eq.trans (b := am_r1 (.ref a :: st) fun _ r => if 1 ≤ am_rf (am_me P y) ∧ am_wd r + 12 ≤ am_rl (am_me P y) then am_nx (pc + 3) lo r h else none) (by unfold am_ex; dsimp only; rw [hs]; rfl) ?_
  unfold am_r1; dsimp only; rw [if_pos hr]; rfl
theorem g_cast {ix a n : Nat} {f : Nat → Int32} (d : decode (am_cd (am_me P y)) pc = .ok (.checkcast ix, 3)) (hs : am_sp P y ix = some 5) (ha : h[a]? = some (am_I n f)) (kk : go P y (pc + 3) lo (.ref a :: st) h Q) : go P y pc lo (.ref a :: st) h Q := by
  refine go_st ?_ kk
  rw [am_st_of d rfl]
  refine Eq.trans (b := am_r1 (.ref a :: st) fun a r => am_gI h a fun _ _ => am_nx (pc + 3) lo (.ref a :: r) h) (by unfold am_ex; dsimp only; rw [hs]; rfl) ?_
  unfold am_r1; dsimp only; rw [am_gI_eq ha]; rfl
theorem g_clone {ix a n : Nat} {f : Nat → Int32} (d : decode (am_cd (am_me P y)) pc = .ok (.invokevirtual ix, 3)) (hs : am_sp P y ix = some 4) (ha : h[a]? = some (am_I n f)) (hr : 1 ≤ am_rf (am_me P y) ∧ am_wd st + 14 ≤ am_rl (am_me P y)) (kk : go P y (pc + 3) lo (.ref h.length :: st) (h ++ [am_I n f]) Q) : go P y pc lo (.ref a :: st) h Q := by
  refine go_st ?_ kk
  rw [am_st_of d rfl]
  refine Eq.trans (b := am_r1 (.ref a :: st) fun a r => am_gI h a fun n f => if 1 ≤ am_rf (am_me P y) ∧ am_wd r + 14 ≤ am_rl (am_me P y) then am_nx (pc + 3) lo (.ref h.length :: r) (h ++ [am_I n f]) else none) (by unfold am_ex; dsimp only; rw [hs]; rfl) ?_
  unfold am_r1; dsimp only; rw [am_gI_eq ha]; (try dsimp only); rw [if_pos hr]; rfl
theorem g_max {ix : Nat} {a b : Int32} (d : decode (am_cd (am_me P y)) pc = .ok (.invokestatic ix, 3)) (hs : am_sp P y ix = some 1) (hr : 1 ≤ am_rf (am_me P y) ∧ am_wd st + 13 ≤ am_rl (am_me P y)) (kk : go P y (pc + 3) lo (.int (if a < b then b else a) :: st) h Q) : go P y pc lo (.int b :: .int a :: st) h Q := by
  refine go_st ?_ kk
  rw [am_st_of d rfl]
  refine Eq.trans (b := am_i2 (.int b :: .int a :: st) fun a b r => if 1 ≤ am_rf (am_me P y) ∧ am_wd r + 13 ≤ am_rl (am_me P y) then am_nx (pc + 3) lo (.int (if a < b then b else a) :: r) h else none) (by unfold am_ex; dsimp only; rw [hs]; rfl) ?_
  unfold am_i2; dsimp only; rw [if_pos hr]; rfl
theorem g_min {ix : Nat} {a b : Int32} (d : decode (am_cd (am_me P y)) pc = .ok (.invokestatic ix, 3)) (hs : am_sp P y ix = some 2) (hr : 1 ≤ am_rf (am_me P y) ∧ am_wd st + 13 ≤ am_rl (am_me P y)) (kk : go P y (pc + 3) lo (.int (if b < a then b else a) :: st) h Q) : go P y pc lo (.int b :: .int a :: st) h Q := by
  refine go_st ?_ kk
  rw [am_st_of d rfl]
  refine Eq.trans (b := am_i2 (.int b :: .int a :: st) fun a b r => if 1 ≤ am_rf (am_me P y) ∧ am_wd r + 13 ≤ am_rl (am_me P y) then am_nx (pc + 3) lo (.int (if b < a then b else a) :: r) h else none) (by unfold am_ex; dsimp only; rw [hs]; rfl) ?_
  unfold am_i2; dsimp only; rw [if_pos hr]; rfl
theorem g_copy {ix a0 a1 n0 n1 : Nat} {sp dp k : Int32} {f g : Nat → Int32} {h1 : am_H} (d : decode (am_cd (am_me P y)) pc = .ok (.invokestatic ix, 3)) (hs : am_sp P y ix = some 3) (ha : h[a0]? = some (am_I n0 f)) (hb : h[a1]? = some (am_I n1 g)) (hn : 0 ≤ sp.toInt ∧ 0 ≤ dp.toInt ∧ 0 ≤ k.toInt ∧ sp.toNatClampNeg + k.toNatClampNeg ≤ n0 ∧ dp.toNatClampNeg + k.toNatClampNeg ≤ n1) (hr : 1 ≤ am_rf (am_me P y) ∧ am_wd st + (nativeFrameWords "java/lang/System" "arraycopy" 5 + 11) ≤ am_rl (am_me P y)) (hh : h.set a1 (am_I n1 (va_cpy f g sp.toNatClampNeg dp.toNatClampNeg k.toNatClampNeg)) = h1) (kk : go P y (pc + 3) lo st h1 Q) : go P y pc lo (.int k :: .int dp :: .ref a1 :: .int sp :: .ref a0 :: st) h Q := by
  subst hh
  refine go_st ?_ kk
  rw [am_st_of d rfl]
  refine Eq.trans (b := am_cy (.int k :: .int dp :: .ref a1 :: .int sp :: .ref a0 :: st) fun a0 sp a1 dp k r => am_gI h a0 fun n0 f => am_gI h a1 fun n1 g =>
        if (0 ≤ sp.toInt ∧ 0 ≤ dp.toInt ∧ 0 ≤ k.toInt ∧ sp.toNatClampNeg + k.toNatClampNeg ≤ n0 ∧ dp.toNatClampNeg + k.toNatClampNeg ≤ n1) ∧ 1 ≤ am_rf (am_me P y) ∧ am_wd r + (nativeFrameWords "java/lang/System" "arraycopy" 5 + 11) ≤ am_rl (am_me P y) then
          am_nx (pc + 3) lo r (h.set a1 (am_I n1 (va_cpy f g sp.toNatClampNeg dp.toNatClampNeg k.toNatClampNeg))) else none) (by unfold am_ex; dsimp only; rw [hs]; rfl) ?_
  unfold am_cy; dsimp only; rw [am_gI_eq ha]; (try dsimp only); rw [am_gI_eq hb]; (try dsimp only); rw [if_pos ⟨hn, hr⟩]; rfl

theorem am_call_eq {z : Nat} {as rest : List Value} (hr : am_rf (am_me P z) + 1 ≤ am_rf (am_me P y) ∧ am_wd rest + (am_ml (am_me P z) + 11) + am_rl (am_me P z) ≤ am_rl (am_me P y)) : am_call P y z as rest = some (.inr (.inl (z, as, rest))) := by
  unfold am_call
  rw [if_pos (by simp only [Bool.and_eq_true, decide_eq_true_eq]; exact hr)]
theorem am_as_eq {n : Nat} {st as r : List Value} {k : List Value → List Value → Option am_O} (h1 : st = as.reverse ++ r) (h2 : as.length = n) : am_as n st k = k as r := by
  subst h1; subst h2
  unfold am_as
  rw [if_pos (by simp)]
  have e1 : ((as.reverse ++ r).take as.length).reverse = as := by
    rw [show as.length = as.reverse.length by simp, List.take_left, List.reverse_reverse]
  have e2 : (as.reverse ++ r).drop as.length = r := by
    rw [show as.length = as.reverse.length by simp, List.drop_left]
  rw [e1, e2]
theorem g_callS {ix z n : Nat} {as rest : List Value} {l0 : am_L} (d : decode (am_cd (am_me P y)) pc = .ok (.invokestatic ix, 3)) (hs : am_sp P y ix = none) (hc : am_ca P y ix = some (z, n, 0)) (h1 : st = as.reverse ++ rest) (h2 : as.length = n) (hr : am_rf (am_me P z) + 1 ≤ am_rf (am_me P y) ∧ am_wd rest + (am_ml (am_me P z) + 11) + am_rl (am_me P z) ≤ am_rl (am_me P y)) (hl : am_en0 P z as = some l0) (g : go P z 0 l0 [] h (am_af P y pc lo rest Q)) : go P y pc lo st h Q := by
  refine go_call (z := z) (as := as) (rest := rest) ?_ hl g
  rw [am_st_of d rfl]
  refine Eq.trans (b := am_as n st fun as r => am_call P y z as r) (by unfold am_ex; dsimp only; rw [hs]; rw [hc]; rfl) ?_
  rw [am_as_eq h1 h2, am_call_eq hr]
theorem g_callV {ix z n a : Nat} {as rest : List Value} {l0 : am_L} {fs : List Value} (d : decode (am_cd (am_me P y)) pc = .ok (.invokevirtual ix, 3)) (hs : am_sp P y ix = none) (hc : am_ca P y ix = some (z, n, 1)) (h1 : st = as.reverse ++ .ref a :: rest) (h2 : as.length = n) (ha : h[a]? = some (.inr (am_rc P z, fs))) (hr : am_rf (am_me P z) + 1 ≤ am_rf (am_me P y) ∧ am_wd rest + (am_ml (am_me P z) + 11) + am_rl (am_me P z) ≤ am_rl (am_me P y)) (hl : am_en0 P z (.ref a :: as) = some l0) (g : go P z 0 l0 [] h (am_af P y pc lo rest Q)) : go P y pc lo st h Q := by
  refine go_call (z := z) (as := .ref a :: as) (rest := rest) ?_ hl g
  rw [am_st_of d rfl]
  refine Eq.trans (b := am_as n st fun as r => am_r1 r fun a r => am_gB h a fun c _ => if c = am_rc P z then am_call P y z (.ref a :: as) r else none) (by unfold am_ex; dsimp only; rw [hs]; rw [hc]; rfl) ?_
  rw [am_as_eq h1 h2]; unfold am_r1; dsimp only; rw [am_gB_eq ha]; (try dsimp only); rw [if_pos rfl, am_call_eq hr]
theorem g_callI {ix z n a : Nat} {as rest : List Value} {l0 : am_L} (d : decode (am_cd (am_me P y)) pc = .ok (.invokespecial ix, 3)) (hs : am_sp P y ix = none) (hc : am_ca P y ix = some (z, n, 2)) (h1 : st = as.reverse ++ .ref a :: rest) (h2 : as.length = n) (hr : am_rf (am_me P z) + 1 ≤ am_rf (am_me P y) ∧ am_wd rest + (am_ml (am_me P z) + 11) + am_rl (am_me P z) ≤ am_rl (am_me P y)) (hl : am_en0 P z (.ref a :: as) = some l0) (g : go P z 0 l0 [] h (am_af P y pc lo rest Q)) : go P y pc lo st h Q := by
  refine go_call (z := z) (as := .ref a :: as) (rest := rest) ?_ hl g
  rw [am_st_of d rfl]
  refine Eq.trans (b := am_as n st fun as r => am_r1 r fun a r => am_call P y z (.ref a :: as) r) (by unfold am_ex; dsimp only; rw [hs]; rw [hc]; rfl) ?_
  rw [am_as_eq h1 h2]; unfold am_r1; dsimp only; rw [am_call_eq hr]
theorem af_thr {E : Nat} {rest : List Value} (hno : am_no P y pc = true) (q : Q (.inr E) h) : am_af P y pc lo rest Q (.inr E) h := by
  unfold am_af
  dsimp only
  rw [if_pos hno]
  exact q
theorem af_cat {E pc' k : Nat} {rest : List Value} (hno : am_no P y pc = false) (hf : am_fh P y pc E = some (pc', k)) (hk : k < lo.length ∧ am_pv lo k = true) (g : go P y pc' (lo.set k none) [] h Q) : am_af P y pc lo rest Q (.inr E) h := by
  unfold am_af
  dsimp only
  rw [if_neg (by rw [hno]; simp), hf]
  exact ⟨hk, g⟩
end GA
end
