section
-- ===== PART A: goes FIRST, ahead of the names: the tables' words, and 'selects' of the private methods out of them =====
/-- a private method of a class that the tables say can be made, by its rows of tables_1 -/
def lw_okq (q : MethodName × Nat) : Prop := (q.1.cls ≠ "java/lang/invoke/MethodHandle" ∧ q.1.cls ≠ "java/lang/invoke/VarHandle") ∧ Cond.instantiable q.1.cls q.2 ∈ tables_1 ∧ Cond.privateMethod q.1 ∈ tables_1 ∧ Cond.instanceMethod q.1 ∈ tables_1
theorem lw_p0 : lw_okq (⟨"GoalseekOffice$Draft", "faultPlace", "()I"⟩, 2) := ⟨⟨by decide +kernel, by decide +kernel⟩, List.mem_of_getElem? (i := 29) (by decide +kernel), List.mem_of_getElem? (i := 117) (by decide +kernel), List.mem_of_getElem? (i := 118) (by decide +kernel)⟩
theorem lw_p1 : lw_okq (⟨"java/lang/Throwable", "fillInStackTrace", "(I)Ljava/lang/Throwable;"⟩, 6) := ⟨⟨by decide +kernel, by decide +kernel⟩, List.mem_of_getElem? (i := 192) (by decide +kernel), List.mem_of_getElem? (i := 190) (by decide +kernel), List.mem_of_getElem? (i := 191) (by decide +kernel)⟩
theorem lw_p2 : lw_okq (⟨"GoalseekOffice", "requireRoom", "()V"⟩, 9) := ⟨⟨by decide +kernel, by decide +kernel⟩, List.mem_of_getElem? (i := 21) (by decide +kernel), List.mem_of_getElem? (i := 222) (by decide +kernel), List.mem_of_getElem? (i := 223) (by decide +kernel)⟩
theorem lw_p3 : lw_okq (⟨"GoalseekOffice$Draft", "write", "(I)I"⟩, 2) := ⟨⟨by decide +kernel, by decide +kernel⟩, List.mem_of_getElem? (i := 29) (by decide +kernel), List.mem_of_getElem? (i := 242) (by decide +kernel), List.mem_of_getElem? (i := 243) (by decide +kernel)⟩
theorem lw_p4 : lw_okq (⟨"GoalseekOffice$Draft", "toFormula", "()LGoalseekOffice$Formula;"⟩, 2) := ⟨⟨by decide +kernel, by decide +kernel⟩, List.mem_of_getElem? (i := 29) (by decide +kernel), List.mem_of_getElem? (i := 309) (by decide +kernel), List.mem_of_getElem? (i := 310) (by decide +kernel)⟩
theorem lw_p5 : lw_okq (⟨"GoalseekOffice", "withDependencies", "(I)I"⟩, 9) := ⟨⟨by decide +kernel, by decide +kernel⟩, List.mem_of_getElem? (i := 21) (by decide +kernel), List.mem_of_getElem? (i := 331) (by decide +kernel), List.mem_of_getElem? (i := 332) (by decide +kernel)⟩
theorem lw_p6 : lw_okq (⟨"GoalseekOffice", "namedByAny", "(I)I"⟩, 9) := ⟨⟨by decide +kernel, by decide +kernel⟩, List.mem_of_getElem? (i := 21) (by decide +kernel), List.mem_of_getElem? (i := 335) (by decide +kernel), List.mem_of_getElem? (i := 336) (by decide +kernel)⟩
theorem lw_p7 : lw_okq (⟨"GoalseekOffice", "give", "(ILGoalseekOffice$Formula;)I"⟩, 9) := ⟨⟨by decide +kernel, by decide +kernel⟩, List.mem_of_getElem? (i := 21) (by decide +kernel), List.mem_of_getElem? (i := 343) (by decide +kernel), List.mem_of_getElem? (i := 344) (by decide +kernel)⟩
theorem lw_p8 : lw_okq (⟨"GoalseekOffice", "findAnew", "(I)I"⟩, 9) := ⟨⟨by decide +kernel, by decide +kernel⟩, List.mem_of_getElem? (i := 21) (by decide +kernel), List.mem_of_getElem? (i := 348) (by decide +kernel), List.mem_of_getElem? (i := 349) (by decide +kernel)⟩
theorem lw_p9 : lw_okq (⟨"GoalseekOffice", "withDependents", "(I)I"⟩, 9) := ⟨⟨by decide +kernel, by decide +kernel⟩, List.mem_of_getElem? (i := 21) (by decide +kernel), List.mem_of_getElem? (i := 352) (by decide +kernel), List.mem_of_getElem? (i := 353) (by decide +kernel)⟩
theorem lw_p10 : lw_okq (⟨"GoalseekOffice", "workOut", "(I[J)V"⟩, 9) := ⟨⟨by decide +kernel, by decide +kernel⟩, List.mem_of_getElem? (i := 21) (by decide +kernel), List.mem_of_getElem? (i := 356) (by decide +kernel), List.mem_of_getElem? (i := 357) (by decide +kernel)⟩
theorem lw_p11 : lw_okq (⟨"GoalseekOffice$Reckoner", "take", "(LGoalseekOffice$Formula;[J)V"⟩, 3) := ⟨⟨by decide +kernel, by decide +kernel⟩, List.mem_of_getElem? (i := 44) (by decide +kernel), List.mem_of_getElem? (i := 360) (by decide +kernel), List.mem_of_getElem? (i := 361) (by decide +kernel)⟩
theorem lw_p12 : lw_okq (⟨"GoalseekOffice$Formula", "isEmpty", "()Z"⟩, 2) := ⟨⟨by decide +kernel, by decide +kernel⟩, List.mem_of_getElem? (i := 61) (by decide +kernel), List.mem_of_getElem? (i := 364) (by decide +kernel), List.mem_of_getElem? (i := 365) (by decide +kernel)⟩
theorem lw_p13 : lw_okq (⟨"GoalseekOffice$Reckoner", "sum", "(I)J"⟩, 3) := ⟨⟨by decide +kernel, by decide +kernel⟩, List.mem_of_getElem? (i := 44) (by decide +kernel), List.mem_of_getElem? (i := 368) (by decide +kernel), List.mem_of_getElem? (i := 369) (by decide +kernel)⟩
theorem lw_p14 : lw_okq (⟨"GoalseekOffice$Reckoner", "product", "(I)J"⟩, 3) := ⟨⟨by decide +kernel, by decide +kernel⟩, List.mem_of_getElem? (i := 44) (by decide +kernel), List.mem_of_getElem? (i := 372) (by decide +kernel), List.mem_of_getElem? (i := 373) (by decide +kernel)⟩
theorem lw_p15 : lw_okq (⟨"GoalseekOffice$Reckoner", "factor", "(I)J"⟩, 3) := ⟨⟨by decide +kernel, by decide +kernel⟩, List.mem_of_getElem? (i := 44) (by decide +kernel), List.mem_of_getElem? (i := 376) (by decide +kernel), List.mem_of_getElem? (i := 377) (by decide +kernel)⟩
def lw_privs_1 : List (MethodName × Nat) := [(⟨"GoalseekOffice$Draft", "faultPlace", "()I"⟩, 2), (⟨"java/lang/Throwable", "fillInStackTrace", "(I)Ljava/lang/Throwable;"⟩, 6), (⟨"GoalseekOffice", "requireRoom", "()V"⟩, 9), (⟨"GoalseekOffice$Draft", "write", "(I)I"⟩, 2), (⟨"GoalseekOffice$Draft", "toFormula", "()LGoalseekOffice$Formula;"⟩, 2), (⟨"GoalseekOffice", "withDependencies", "(I)I"⟩, 9), (⟨"GoalseekOffice", "namedByAny", "(I)I"⟩, 9), (⟨"GoalseekOffice", "give", "(ILGoalseekOffice$Formula;)I"⟩, 9), (⟨"GoalseekOffice", "findAnew", "(I)I"⟩, 9), (⟨"GoalseekOffice", "withDependents", "(I)I"⟩, 9), (⟨"GoalseekOffice", "workOut", "(I[J)V"⟩, 9), (⟨"GoalseekOffice$Reckoner", "take", "(LGoalseekOffice$Formula;[J)V"⟩, 3), (⟨"GoalseekOffice$Formula", "isEmpty", "()Z"⟩, 2), (⟨"GoalseekOffice$Reckoner", "sum", "(I)J"⟩, 3), (⟨"GoalseekOffice$Reckoner", "product", "(I)J"⟩, 3), (⟨"GoalseekOffice$Reckoner", "factor", "(I)J"⟩, 3)]
theorem lw_r1 : ∀ q ∈ lw_privs_1, lw_okq q := List.forall_mem_cons.mpr ⟨lw_p0, List.forall_mem_cons.mpr ⟨lw_p1, List.forall_mem_cons.mpr ⟨lw_p2, List.forall_mem_cons.mpr ⟨lw_p3, List.forall_mem_cons.mpr ⟨lw_p4, List.forall_mem_cons.mpr ⟨lw_p5, List.forall_mem_cons.mpr ⟨lw_p6, List.forall_mem_cons.mpr ⟨lw_p7, List.forall_mem_cons.mpr ⟨lw_p8, List.forall_mem_cons.mpr ⟨lw_p9, List.forall_mem_cons.mpr ⟨lw_p10, List.forall_mem_cons.mpr ⟨lw_p11, List.forall_mem_cons.mpr ⟨lw_p12, List.forall_mem_cons.mpr ⟨lw_p13, List.forall_mem_cons.mpr ⟨lw_p14, List.forall_mem_cons.mpr ⟨lw_p15, fun _ h => absurd h List.not_mem_nil⟩⟩⟩⟩⟩⟩⟩⟩⟩⟩⟩⟩⟩⟩⟩⟩
theorem lw_p16 : lw_okq (⟨"GoalseekOffice", "requireLayer", "()V"⟩, 9) := ⟨⟨by decide +kernel, by decide +kernel⟩, List.mem_of_getElem? (i := 21) (by decide +kernel), List.mem_of_getElem? (i := 431) (by decide +kernel), List.mem_of_getElem? (i := 432) (by decide +kernel)⟩
theorem lw_p17 : lw_okq (⟨"GoalseekOffice$Formula", "sameAs", "(LGoalseekOffice$Formula;)Z"⟩, 2) := ⟨⟨by decide +kernel, by decide +kernel⟩, List.mem_of_getElem? (i := 61) (by decide +kernel), List.mem_of_getElem? (i := 436) (by decide +kernel), List.mem_of_getElem? (i := 437) (by decide +kernel)⟩
theorem lw_p18 : lw_okq (⟨"GoalseekOffice", "dependsOn", "(II)Z"⟩, 9) := ⟨⟨by decide +kernel, by decide +kernel⟩, List.mem_of_getElem? (i := 21) (by decide +kernel), List.mem_of_getElem? (i := 502) (by decide +kernel), List.mem_of_getElem? (i := 503) (by decide +kernel)⟩
theorem lw_p19 : lw_okq (⟨"GoalseekOffice$Formula", "canBeInput", "()Z"⟩, 2) := ⟨⟨by decide +kernel, by decide +kernel⟩, List.mem_of_getElem? (i := 61) (by decide +kernel), List.mem_of_getElem? (i := 518) (by decide +kernel), List.mem_of_getElem? (i := 519) (by decide +kernel)⟩
theorem lw_p20 : lw_okq (⟨"GoalseekOffice", "search", "(IIIII)I"⟩, 9) := ⟨⟨by decide +kernel, by decide +kernel⟩, List.mem_of_getElem? (i := 21) (by decide +kernel), List.mem_of_getElem? (i := 524) (by decide +kernel), List.mem_of_getElem? (i := 525) (by decide +kernel)⟩
theorem lw_p21 : lw_okq (⟨"GoalseekOffice", "goalWith", "(IIII)J"⟩, 9) := ⟨⟨by decide +kernel, by decide +kernel⟩, List.mem_of_getElem? (i := 21) (by decide +kernel), List.mem_of_getElem? (i := 529) (by decide +kernel), List.mem_of_getElem? (i := 530) (by decide +kernel)⟩
theorem lw_p22 : lw_okq (⟨"GoalseekOfficeModel", "errorOfSign", "(Z)I"⟩, 16) := ⟨⟨by decide +kernel, by decide +kernel⟩, List.mem_of_getElem? (i := 552) (by decide +kernel), List.mem_of_getElem? (i := 619) (by decide +kernel), List.mem_of_getElem? (i := 620) (by decide +kernel)⟩
theorem lw_p23 : lw_okq (⟨"GoalseekOfficeModel", "holds", "(I)Z"⟩, 16) := ⟨⟨by decide +kernel, by decide +kernel⟩, List.mem_of_getElem? (i := 552) (by decide +kernel), List.mem_of_getElem? (i := 623) (by decide +kernel), List.mem_of_getElem? (i := 624) (by decide +kernel)⟩
theorem lw_p24 : lw_okq (⟨"GoalseekOfficeModel", "writes", "(I)I"⟩, 16) := ⟨⟨by decide +kernel, by decide +kernel⟩, List.mem_of_getElem? (i := 552) (by decide +kernel), List.mem_of_getElem? (i := 627) (by decide +kernel), List.mem_of_getElem? (i := 628) (by decide +kernel)⟩
theorem lw_p25 : lw_okq (⟨"GoalseekOfficeModel", "faultOf", "()I"⟩, 16) := ⟨⟨by decide +kernel, by decide +kernel⟩, List.mem_of_getElem? (i := 552) (by decide +kernel), List.mem_of_getElem? (i := 652) (by decide +kernel), List.mem_of_getElem? (i := 653) (by decide +kernel)⟩
theorem lw_p26 : lw_okq (⟨"GoalseekOfficeModel", "errorOfSet", "(I)I"⟩, 16) := ⟨⟨by decide +kernel, by decide +kernel⟩, List.mem_of_getElem? (i := 552) (by decide +kernel), List.mem_of_getElem? (i := 660) (by decide +kernel), List.mem_of_getElem? (i := 661) (by decide +kernel)⟩
theorem lw_p27 : lw_okq (⟨"GoalseekOfficeModel", "below", "(I)I"⟩, 16) := ⟨⟨by decide +kernel, by decide +kernel⟩, List.mem_of_getElem? (i := 552) (by decide +kernel), List.mem_of_getElem? (i := 668) (by decide +kernel), List.mem_of_getElem? (i := 669) (by decide +kernel)⟩
theorem lw_p28 : lw_okq (⟨"GoalseekOfficeModel", "refersOf", "(I)I"⟩, 16) := ⟨⟨by decide +kernel, by decide +kernel⟩, List.mem_of_getElem? (i := 552) (by decide +kernel), List.mem_of_getElem? (i := 672) (by decide +kernel), List.mem_of_getElem? (i := 673) (by decide +kernel)⟩
theorem lw_p29 : lw_okq (⟨"GoalseekOfficeModel", "anew", "(I)I"⟩, 16) := ⟨⟨by decide +kernel, by decide +kernel⟩, List.mem_of_getElem? (i := 552) (by decide +kernel), List.mem_of_getElem? (i := 676) (by decide +kernel), List.mem_of_getElem? (i := 677) (by decide +kernel)⟩
theorem lw_p30 : lw_okq (⟨"GoalseekOfficeModel", "puts", "(II)I"⟩, 16) := ⟨⟨by decide +kernel, by decide +kernel⟩, List.mem_of_getElem? (i := 552) (by decide +kernel), List.mem_of_getElem? (i := 684) (by decide +kernel), List.mem_of_getElem? (i := 685) (by decide +kernel)⟩
theorem lw_p31 : lw_okq (⟨"GoalseekOfficeModel", "isOther", "(I)Z"⟩, 16) := ⟨⟨by decide +kernel, by decide +kernel⟩, List.mem_of_getElem? (i := 552) (by decide +kernel), List.mem_of_getElem? (i := 700) (by decide +kernel), List.mem_of_getElem? (i := 701) (by decide +kernel)⟩
def lw_privs_2 : List (MethodName × Nat) := [(⟨"GoalseekOffice", "requireLayer", "()V"⟩, 9), (⟨"GoalseekOffice$Formula", "sameAs", "(LGoalseekOffice$Formula;)Z"⟩, 2), (⟨"GoalseekOffice", "dependsOn", "(II)Z"⟩, 9), (⟨"GoalseekOffice$Formula", "canBeInput", "()Z"⟩, 2), (⟨"GoalseekOffice", "search", "(IIIII)I"⟩, 9), (⟨"GoalseekOffice", "goalWith", "(IIII)J"⟩, 9), (⟨"GoalseekOfficeModel", "errorOfSign", "(Z)I"⟩, 16), (⟨"GoalseekOfficeModel", "holds", "(I)Z"⟩, 16), (⟨"GoalseekOfficeModel", "writes", "(I)I"⟩, 16), (⟨"GoalseekOfficeModel", "faultOf", "()I"⟩, 16), (⟨"GoalseekOfficeModel", "errorOfSet", "(I)I"⟩, 16), (⟨"GoalseekOfficeModel", "below", "(I)I"⟩, 16), (⟨"GoalseekOfficeModel", "refersOf", "(I)I"⟩, 16), (⟨"GoalseekOfficeModel", "anew", "(I)I"⟩, 16), (⟨"GoalseekOfficeModel", "puts", "(II)I"⟩, 16), (⟨"GoalseekOfficeModel", "isOther", "(I)Z"⟩, 16)]
theorem lw_r2 : ∀ q ∈ lw_privs_2, lw_okq q := List.forall_mem_cons.mpr ⟨lw_p16, List.forall_mem_cons.mpr ⟨lw_p17, List.forall_mem_cons.mpr ⟨lw_p18, List.forall_mem_cons.mpr ⟨lw_p19, List.forall_mem_cons.mpr ⟨lw_p20, List.forall_mem_cons.mpr ⟨lw_p21, List.forall_mem_cons.mpr ⟨lw_p22, List.forall_mem_cons.mpr ⟨lw_p23, List.forall_mem_cons.mpr ⟨lw_p24, List.forall_mem_cons.mpr ⟨lw_p25, List.forall_mem_cons.mpr ⟨lw_p26, List.forall_mem_cons.mpr ⟨lw_p27, List.forall_mem_cons.mpr ⟨lw_p28, List.forall_mem_cons.mpr ⟨lw_p29, List.forall_mem_cons.mpr ⟨lw_p30, List.forall_mem_cons.mpr ⟨lw_p31, fun _ h => absurd h List.not_mem_nil⟩⟩⟩⟩⟩⟩⟩⟩⟩⟩⟩⟩⟩⟩⟩⟩
theorem lw_p32 : lw_okq (⟨"GoalseekOfficeModel", "errorOfValue", "(I)I"⟩, 16) := ⟨⟨by decide +kernel, by decide +kernel⟩, List.mem_of_getElem? (i := 552) (by decide +kernel), List.mem_of_getElem? (i := 720) (by decide +kernel), List.mem_of_getElem? (i := 721) (by decide +kernel)⟩
theorem lw_p33 : lw_okq (⟨"GoalseekOfficeModel", "worksAll", "()V"⟩, 16) := ⟨⟨by decide +kernel, by decide +kernel⟩, List.mem_of_getElem? (i := 552) (by decide +kernel), List.mem_of_getElem? (i := 724) (by decide +kernel), List.mem_of_getElem? (i := 725) (by decide +kernel)⟩
theorem lw_p34 : lw_okq (⟨"GoalseekOfficeModel", "areKnown", "(I)Z"⟩, 16) := ⟨⟨by decide +kernel, by decide +kernel⟩, List.mem_of_getElem? (i := 552) (by decide +kernel), List.mem_of_getElem? (i := 728) (by decide +kernel), List.mem_of_getElem? (i := 729) (by decide +kernel)⟩
theorem lw_p35 : lw_okq (⟨"GoalseekOfficeModel", "works", "(I)V"⟩, 16) := ⟨⟨by decide +kernel, by decide +kernel⟩, List.mem_of_getElem? (i := 552) (by decide +kernel), List.mem_of_getElem? (i := 732) (by decide +kernel), List.mem_of_getElem? (i := 733) (by decide +kernel)⟩
theorem lw_p36 : lw_okq (⟨"GoalseekOfficeModel", "reads", "(IZ)V"⟩, 16) := ⟨⟨by decide +kernel, by decide +kernel⟩, List.mem_of_getElem? (i := 552) (by decide +kernel), List.mem_of_getElem? (i := 736) (by decide +kernel), List.mem_of_getElem? (i := 737) (by decide +kernel)⟩
theorem lw_p37 : lw_okq (⟨"GoalseekOfficeModel", "pushes", "(J)V"⟩, 16) := ⟨⟨by decide +kernel, by decide +kernel⟩, List.mem_of_getElem? (i := 552) (by decide +kernel), List.mem_of_getElem? (i := 740) (by decide +kernel), List.mem_of_getElem? (i := 741) (by decide +kernel)⟩
theorem lw_p38 : lw_okq (⟨"GoalseekOfficeModel", "joinsAll", "(I)V"⟩, 16) := ⟨⟨by decide +kernel, by decide +kernel⟩, List.mem_of_getElem? (i := 552) (by decide +kernel), List.mem_of_getElem? (i := 744) (by decide +kernel), List.mem_of_getElem? (i := 745) (by decide +kernel)⟩
theorem lw_p39 : lw_okq (⟨"GoalseekOfficeModel", "joins", "()V"⟩, 16) := ⟨⟨by decide +kernel, by decide +kernel⟩, List.mem_of_getElem? (i := 552) (by decide +kernel), List.mem_of_getElem? (i := 748) (by decide +kernel), List.mem_of_getElem? (i := 749) (by decide +kernel)⟩
theorem lw_p40 : lw_okq (⟨"GoalseekOfficeModel", "doesDepend", "(II)Z"⟩, 16) := ⟨⟨by decide +kernel, by decide +kernel⟩, List.mem_of_getElem? (i := 552) (by decide +kernel), List.mem_of_getElem? (i := 775) (by decide +kernel), List.mem_of_getElem? (i := 776) (by decide +kernel)⟩
theorem lw_p41 : lw_okq (⟨"GoalseekOfficeModel", "errorOfSeek", "(IIIII)I"⟩, 16) := ⟨⟨by decide +kernel, by decide +kernel⟩, List.mem_of_getElem? (i := 552) (by decide +kernel), List.mem_of_getElem? (i := 791) (by decide +kernel), List.mem_of_getElem? (i := 792) (by decide +kernel)⟩
theorem lw_p42 : lw_okq (⟨"GoalseekOfficeModel", "sought", "(IIIII)I"⟩, 16) := ⟨⟨by decide +kernel, by decide +kernel⟩, List.mem_of_getElem? (i := 552) (by decide +kernel), List.mem_of_getElem? (i := 797) (by decide +kernel), List.mem_of_getElem? (i := 798) (by decide +kernel)⟩
theorem lw_p43 : lw_okq (⟨"GoalseekOfficeModel", "side", "(IIII)I"⟩, 16) := ⟨⟨by decide +kernel, by decide +kernel⟩, List.mem_of_getElem? (i := 552) (by decide +kernel), List.mem_of_getElem? (i := 801) (by decide +kernel), List.mem_of_getElem? (i := 802) (by decide +kernel)⟩
def lw_privs_3 : List (MethodName × Nat) := [(⟨"GoalseekOfficeModel", "errorOfValue", "(I)I"⟩, 16), (⟨"GoalseekOfficeModel", "worksAll", "()V"⟩, 16), (⟨"GoalseekOfficeModel", "areKnown", "(I)Z"⟩, 16), (⟨"GoalseekOfficeModel", "works", "(I)V"⟩, 16), (⟨"GoalseekOfficeModel", "reads", "(IZ)V"⟩, 16), (⟨"GoalseekOfficeModel", "pushes", "(J)V"⟩, 16), (⟨"GoalseekOfficeModel", "joinsAll", "(I)V"⟩, 16), (⟨"GoalseekOfficeModel", "joins", "()V"⟩, 16), (⟨"GoalseekOfficeModel", "doesDepend", "(II)Z"⟩, 16), (⟨"GoalseekOfficeModel", "errorOfSeek", "(IIIII)I"⟩, 16), (⟨"GoalseekOfficeModel", "sought", "(IIIII)I"⟩, 16), (⟨"GoalseekOfficeModel", "side", "(IIII)I"⟩, 16)]
theorem lw_r3 : ∀ q ∈ lw_privs_3, lw_okq q := List.forall_mem_cons.mpr ⟨lw_p32, List.forall_mem_cons.mpr ⟨lw_p33, List.forall_mem_cons.mpr ⟨lw_p34, List.forall_mem_cons.mpr ⟨lw_p35, List.forall_mem_cons.mpr ⟨lw_p36, List.forall_mem_cons.mpr ⟨lw_p37, List.forall_mem_cons.mpr ⟨lw_p38, List.forall_mem_cons.mpr ⟨lw_p39, List.forall_mem_cons.mpr ⟨lw_p40, List.forall_mem_cons.mpr ⟨lw_p41, List.forall_mem_cons.mpr ⟨lw_p42, List.forall_mem_cons.mpr ⟨lw_p43, fun _ h => absurd h List.not_mem_nil⟩⟩⟩⟩⟩⟩⟩⟩⟩⟩⟩⟩
def lw_privs : List (MethodName × Nat) := lw_privs_1 ++ (lw_privs_2 ++ (lw_privs_3))
def lw_tbl : List Cond := k2_sels lw_privs ++ tables_1
theorem lw_privs_ok : ∀ q ∈ lw_privs, lw_okq q := by
  show ∀ q ∈ lw_privs_1 ++ (lw_privs_2 ++ (lw_privs_3)), lw_okq q
  exact List.forall_mem_append.mpr ⟨lw_r1, List.forall_mem_append.mpr ⟨lw_r2, lw_r3⟩⟩
-- ===== end of PART A; then your names; then what follows =====
end
section
/-! ===== BEGIN words of one list among another's, by their places ===== -/
theorem goodIn_r {big : List Cond} (ws : List Cond) (ps : List Nat) (hp : ws = ps.filterMap (fun i => big[i]?)) (h : ws.all goodWord = true) : GoodIn big ws := by
  intro w hw
  have h1 := List.all_eq_true.mp h w hw
  rw [hp] at hw
  obtain ⟨i, -, hi⟩ := List.mem_filterMap.mp hw
  have hm : w ∈ big := by first | exact List.mem_of_getElem? hi | exact List.getElem?_mem hi
  exact ⟨hm, good_of_word h1⟩
theorem goodIn_app {big a b : List Cond} (ha : GoodIn big a) (hb : GoodIn big b) : GoodIn big (a ++ b) := fun w h => (List.mem_append.mp h).elim (ha w) (hb w)
theorem goodIn_ca {big a b : List Cond} {c : Cond} (ha : GoodIn big (c :: a)) (hb : GoodIn big b) : GoodIn big (c :: (a ++ b)) := fun w h => (List.mem_cons.mp h).elim (fun e => ha w (List.mem_cons.mpr (Or.inl e))) (fun h => (List.mem_append.mp h).elim (fun h => ha w (List.mem_cons.mpr (Or.inr h))) (hb w))
theorem goodIn_sub {big ws : List Cond} (hm : ∀ w ∈ ws, w ∈ big) (h : ws.all goodWord = true) : GoodIn big ws := fun w hw => ⟨hm w hw, good_of_word (List.all_eq_true.mp h w hw)⟩
/-! ===== END ===== -/

/-! ===== BEGIN exceptions that leave a method, and their catching by the caller (launches without stack traces) ===== -/
section VXA
/-! The laws vx_back, vx_callV, vx_callS, vx_callSW, vx_throw0, vx_throwS follow proofs of the library, with one case more: JvmDerived/Free/Laws.lean (Back.of_free), Shelf42/LK1.lean (callV, callS), Shelf/KitTraced.lean (throwNew0V, throwNewS). -/
/-- where a method has thrown q: the class by its name, the cell, what was written, the world -/
def vx_T (XC : String → State → State → Prop) (st : State) (q : Addr) (t : State) (mc ms : Nat) (free : Addr → Prop) : Prop :=
  ∃ (E : String) (ce : Cell) (L : List Loc), XC E st t ∧ t.heap[q]? = some ce ∧ ce.vm = .none ∧ st.vm.findClass E = some ce.cls ∧ st.WarmedH t.vm ∧ st.sameButNew ({ t with vm := st.vm } : State) L mc ms ∧ ∀ z ∈ L, free z.base
def vx_Q (Qc : Array Value → State → Outcome → State → Prop) (XC : String → State → State → Prop) (mc ms : Nat) (free : Addr → Prop) : Array Value → State → Outcome → State → Prop := fun a st o t =>
  (Qc a st o t ∧ ∃ L, FrameEnd st o t L mc ms ∧ ∀ q ∈ L, free q.base) ∨ ∃ q, o = .threw q ∧ vx_T XC st q t mc ms free
/-- a callee that returns or throws -/
def vx_Met (l : Launch) (y : MethodName) (ws : List Cond) (rm : Room) (Pc : Array Value → State → Prop) (Qc : Array Value → State → Outcome → State → Prop) (XC : String → State → State → Prop) (mc ms : Nat) (free : Addr → Prop) : Prop :=
  MetFree l y (headSpec ws rm) Pc (fun _ _ _ _ _ => True) (vx_Q Qc XC mc ms free)
def vx_Post (XC : String → State → State → Prop) (mc ms : Nat) (free : Addr → Prop) : Pt → Array Value → Addr → Pt → Prop := fun A a q B =>
  ∃ (g : JFrame) (mk : MethodId) (t : State) (L : List Loc) (E : String) (ce : Cell), B.U.heap = t.heap ∧ B.U.vm = t.vm ∧ XC E (A.U.calling g mk a) t ∧ t.heap[q]? = some ce ∧ ce.vm = .none ∧ A.U.vm.findClass E = some ce.cls ∧ B.locs = A.locs ++ L ∧ (∀ z ∈ L, free z.base) ∧ B.cells = A.cells + mc ∧ B.slots = A.slots + ms
def vx_Back (l : Launch) (R : Room) (p : Program) (e : Env) (below : List Frame) (s : State) (sargs : Array Value) (y : MethodName) (len W9 : Nat)
    (Pre : Pt → Array Value → Prop) (Post : Pt → Array Value → Option Value → Pt → Prop) (PostX : Pt → Array Value → Addr → Pt → Prop) : Prop :=
  ∀ (m : MethodId) (meth : Method) (c : Code) (A : Pt) (g : JFrame) (ig : Instr) (mk : MethodId) (a : Array Value),
    Stand p l e R s m sargs below meth c A.U A.locs A.cells A.slots → g.method = m → g.locals.size = c.maxLocals → decode c.code g.pc = .ok (ig, len) →
    2 * g.monitorRoom + (g.stack.map fun v => v.category).sum ≤ W9 → A.U.methodNamed? y = some mk → Pre A a →
    (∃ (v : Option Value) (B : Pt), Stand p l e R s m sargs below meth c B.U B.locs B.cells B.slots ∧ Post A a v B ∧
      Steps p.tables e below (doInvoke e (A.U.setTop g) [] mk a).1 (B.U.setTop { g with pc := g.pc + len, stack := v.toList ++ g.stack })) ∨
    (∃ (q : Addr) (B : Pt), Stand p l e R s m sargs below meth c B.U B.locs B.cells B.slots ∧ PostX A a q B ∧
      Steps p.tables e below (doInvoke e (A.U.setTop g) [] mk a).1 ((B.U.setTop g).pushFrame (.throwing q)))
section Payer
variable {l : Launch} {R : Room} {p : Program} {e : Env} {below : List Frame} {s : State} {sargs : Array Value} {y : MethodName} {len W9 : Nat}
theorem vx_back {ws : List Cond} {rm : Room} {Pc : Array Value → State → Prop} {Qc : Array Value → State → Outcome → State → Prop} {XC : String → State → State → Prop} {mc ms : Nat} {free : Addr → Prop} {bytes : ByteArray} {maxL : Nat} {ret : Option FieldType}
    (hM : vx_Met l y ws rm Pc Qc XC mc ms free) (hblind : FrameBlind Pc) (hrc : rm.cells = mc) (hrs : rm.slots = ms)
    (hframes : rm.frames + 1 ≤ R.frames) (hlocals : W9 + (maxL + 11) + rm.locals ≤ R.locals)
    (hws : ∀ w ∈ ws, ∀ a' U, s.WarmedH U.vm → w.before a' U = true) (hcode : Cond.code y bytes maxL ret ∈ ws) (hinit : ∀ a' U, s.WarmedH U.vm → (Cond.initialized y.cls).before a' U = true) :
    vx_Back l R p e below s sargs y len W9 (PreOf R mc ms Pc) (PostOf Qc mc ms free) (vx_Post XC mc ms free) := by
  intro m meth c A g ig mk a X hg hsize hdg hW hn hp
  have h1 : (headSpec ws rm).pre.before a A.U = true := atoms_intro fun w hw => hws w hw _ _ X.warmed
  have h2 : (Cond.code y bytes maxL ret).before a A.U = true := hws _ hcode _ _ X.warmed
  have h3 : (Cond.initialized y.cls).before a A.U = true := hinit _ _ X.warmed
  have h4 : A.cells + (headSpec ws rm).room.cells ≤ R.cells := by rw [show (headSpec ws rm).room.cells = mc from hrc]; exact hp.1
  have h5 : A.slots + (headSpec ws rm).room.slots ≤ R.slots := by rw [show (headSpec ws rm).room.slots = ms from hrs]; exact hp.2.1
  have hPc : Pc a (A.U.calling g mk a) := hblind _ _ _ _ hp.2.2
  obtain ⟨U, Ls, c0, s0⟩ := A
  dsimp only [Pt.U, Pt.locs, Pt.cells, Pt.slots] at h1 h2 h3 h4 h5 X hn hPc ⊢
  obtain ⟨methY, cY, hmY, hcY, -, hlY, -, -, -, -⟩ := Cond.code_spec hn h2
  obtain ⟨kY, hkY, -⟩ := className_of_methodNamed hn
  have hinitY : kY.init = .initialized := Cond.initialized_spec (findClass_of_methodNamed hn) hkY h3
  have h : At U g.method c below := by rw [hg]; exact X.here
  have hlocals9 : W9 + (maxL + 11) + (headSpec ws rm).room.locals ≤ R.locals := hlocals
  have happ : (headSpec ws rm).appliesLoose y e.platform (U.calling g mk a) = true :=
    Spec.appliesLoose_calling (g := g) h hdg hn hkY hinitY
      (X.room_calling (g := g) (R' := (headSpec ws rm).room) hsize hmY hcY hframes (by rw [hlY]; omega) h4 h5) h1
  obtain ⟨mid, hmid⟩ := h.above
  have hfr : (U.setTop g).frames = (.java g :: mid) ++ below := by rw [State.frames_setTop' g h.top, hmid]; rfl
  obtain ⟨o, s₂, hsteps, -, hend, hq⟩ := Steps.callFree hM p X.admits X.cas X.clock (acts := []) hfr happ hPc trivial
  have hq' : vx_Q Qc XC mc ms free a (U.calling g mk a) o s₂ := hq
  rw [State.frames_setTop' g h.top] at hend
  obtain ⟨g₀, hg0⟩ := Option.isSome_iff_exists.mp h.top
  obtain ⟨r, hr⟩ := State.topJava?_eq_some.mp hg0
  have hr' : (({ U with heap := s₂.heap, slotsUsed := s₂.slotsUsed } : State).setVm s₂.vm).frames = .java g₀ :: r := hr
  rcases hq' with ⟨hqc, L, hfe, hL⟩ | ⟨q, rfl, E, ce, L, hx, hce, hcv, hcl, hW₂, hsm, hL⟩
  · obtain ⟨⟨v, rfl⟩, hW₂, e2, q2, q3, q4, q5, q6⟩ := id hfe
    have e3 : s₂ = ({ (U.calling g mk a).setFrames s₂.frames with heap := s₂.heap, slotsUsed := s₂.slotsUsed } : State).setVm s₂.vm := by
      have : s₂ = ({ s₂ with vm := (U.calling g mk a).vm } : State).setVm s₂.vm := rfl
      rw [e2] at this
      exact this
    obtain ⟨c₂, i₂, len₂, hc₂, hd₂, hf₂⟩ := hend
    have hW' : U.WarmedH s₂.vm := hW₂
    have hcc : c₂ = c := by
      have h1 : s₂.code? g.method = U.code? g.method := by
        rw [State.code?_eq, State.code?_eq, hW'.alike.method?]
      exact Option.some.inj (hc₂.symm.trans (h1.trans h.code))
    subst hcc
    have hlen : len₂ = len := by rw [hdg] at hd₂; cases hd₂; rfl
    subst hlen
    have hs₂ : s₂ = (({ U with heap := s₂.heap, slotsUsed := s₂.slotsUsed } : State).setVm s₂.vm).setTop { g with pc := g.pc + len₂, stack := v.toList ++ g.stack } := by
      refine e3.trans ?_
      rw [hf₂, State.calling_eq h.top, State.setFrames_setFrames, State.setTop_of_frames _ hr', hr]
      rfl
    have hsame : U.sameButNew ({ U with heap := s₂.heap, slotsUsed := s₂.slotsUsed } : State) L mc ms := by
      refine ⟨?_, q2, q3, q4, q5, q6⟩
      obtain ⟨t, ht, -⟩ := State.frames_cons hr
      show ({ U with heap := s₂.heap, slotsUsed := s₂.slotsUsed } : State) = { U.setFrames U.frames with heap := s₂.heap, slotsUsed := s₂.slotsUsed }
      rw [State.setFrames_self ht]
    subst hg
    refine Or.inl ⟨v, ⟨(({ U with heap := s₂.heap, slotsUsed := s₂.slotsUsed } : State).setVm s₂.vm), Ls ++ L, c0 + mc, s0 + ms⟩,
      ⟨X.admits, X.cas, X.clock, X.frames, X.room, X.hears, X.method, X.code, (X.here.setHeapUsed s₂.heap s₂.slotsUsed).setVm hW'.alike, X.tail, State.WarmedH.trans X.warmed hW', X.limits, X.bytes, X.same.trans (hsame.setVm s.vm)⟩,
      ⟨g, mk, s₂, L, rfl, rfl, hqc, rfl, hL, rfl, rfl⟩, ?_⟩
    show Steps p.tables e below _ ((({ U with heap := s₂.heap, slotsUsed := s₂.slotsUsed } : State).setVm s₂.vm).setTop { g with pc := g.pc + len₂, stack := v.toList ++ g.stack })
    rw [← hs₂]
    exact hsteps
  · obtain ⟨e2, q2, q3, q4, q5, q6⟩ := id hsm
    have e3 : s₂ = ({ (U.calling g mk a).setFrames s₂.frames with heap := s₂.heap, slotsUsed := s₂.slotsUsed } : State).setVm s₂.vm := by
      have : s₂ = ({ s₂ with vm := (U.calling g mk a).vm } : State).setVm s₂.vm := rfl
      rw [e2] at this
      exact this
    have hf₂ : s₂.frames = .throwing q :: .java g :: U.frames.tail := hend
    have hW' : U.WarmedH s₂.vm := hW₂
    have hs₂ : s₂ = ((({ U with heap := s₂.heap, slotsUsed := s₂.slotsUsed } : State).setVm s₂.vm).setTop g).pushFrame (.throwing q) := by
      refine e3.trans ?_
      rw [hf₂, State.calling_eq h.top, State.setFrames_setFrames, State.pushFrame, State.frames_setTop _ hr', State.setTop_of_frames _ hr', State.setFrames_setFrames, hr]
      rfl
    have hsame : U.sameButNew ({ U with heap := s₂.heap, slotsUsed := s₂.slotsUsed } : State) L mc ms := by
      refine ⟨?_, q2, q3, q4, q5, q6⟩
      obtain ⟨t, ht, -⟩ := State.frames_cons hr
      show ({ U with heap := s₂.heap, slotsUsed := s₂.slotsUsed } : State) = { U.setFrames U.frames with heap := s₂.heap, slotsUsed := s₂.slotsUsed }
      rw [State.setFrames_self ht]
    subst hg
    refine Or.inr ⟨q, ⟨(({ U with heap := s₂.heap, slotsUsed := s₂.slotsUsed } : State).setVm s₂.vm), Ls ++ L, c0 + mc, s0 + ms⟩,
      ⟨X.admits, X.cas, X.clock, X.frames, X.room, X.hears, X.method, X.code, (X.here.setHeapUsed s₂.heap s₂.slotsUsed).setVm hW'.alike, X.tail, State.WarmedH.trans X.warmed hW', X.limits, X.bytes, X.same.trans (hsame.setVm s.vm)⟩,
      ⟨g, mk, s₂, L, E, ce, rfl, rfl, hx, hce, hcv, hcl, rfl, hL, rfl, rfl⟩, ?_⟩
    show Steps p.tables e below _ (((({ U with heap := s₂.heap, slotsUsed := s₂.slotsUsed } : State).setVm s₂.vm).setTop g).pushFrame (.throwing q))
    rw [← hs₂]
    exact hsteps
end Payer
section Calls
variable {p : Program} {l : Launch} {e : Env} {R : Room} {s : State} {m : MethodId} {args : Array Value} {below : List Frame} {meth : Method} {c : Code} {T : State} {locs : List Loc} {cells slots : Nat}
theorem vx_callV (X : Stand p l e R s m args below meth c T locs cells slots) (hexec : p.tables.exec = Jvm.exec) {own C : String} {index : Nat} {y : MethodName} {bytes : ByteArray} {maxL : Nat} {ret : Option FieldType}
    (hown : s.vm.findClass own = some m.cls) (hlink : (Cond.methodLink own index y).before args s = true) (hinst : (Cond.instanceMethod y).before args s = true) (hsel : (Cond.selects C y y).before args s = true)
    (hcode : (Cond.code y bytes maxL ret).before args s = true) (hy : y.cls ≠ "java/lang/invoke/MethodHandle" ∧ y.cls ≠ "java/lang/invoke/VarHandle")
    {W9 : Nat} {Pre : Pt → Array Value → Prop} {Post : Pt → Array Value → Option Value → Pt → Prop} {PostX : Pt → Array Value → Addr → Pt → Prop} (hK : vx_Back l R p e below s args y 3 W9 Pre Post PostX)
    {b : Addr} {cellB : Cell} (hcell : T.heap[b]? = some cellB) (hobj : cellB.vm.isStatics = false) (hcls : s.vm.findClass C = some cellB.cls)
    {g : JFrame} (hg : g.method = m) (hsize : g.locals.size = c.maxLocals) {argsL rest : List Value} (hlen : ∀ sig, parseMethodDescriptor y.desc = some sig → argsL.length = sig.parameters.length)
    (hstack : g.stack = argsL.reverse ++ .ref b :: rest) (hW : 2 * g.monitorRoom + (rest.map fun v => v.category).sum ≤ W9) (hdg : decode c.code g.pc = .ok (.invokevirtual index, 3))
    (hpre : ∀ vm₁, s.WarmedH vm₁ → Pre ⟨T.setVm vm₁, locs, cells, slots⟩ (Value.ref b :: argsL).toArray) :
    (∃ (v : Option Value) (vm₁ : Vm) (B : Pt), s.WarmedH vm₁ ∧ Stand p l e R s m args below meth c B.U B.locs B.cells B.slots ∧ Post ⟨T.setVm vm₁, locs, cells, slots⟩ (Value.ref b :: argsL).toArray v B ∧
      ∀ target, Steps p.tables e below (B.U.setTop { g with pc := g.pc + 3, stack := v.toList ++ rest }) target → Steps p.tables e below (T.setTop g) target) ∨
    (∃ (q : Addr) (vm₁ : Vm) (B : Pt), s.WarmedH vm₁ ∧ Stand p l e R s m args below meth c B.U B.locs B.cells B.slots ∧ PostX ⟨T.setVm vm₁, locs, cells, slots⟩ (Value.ref b :: argsL).toArray q B ∧
      Steps p.tables e below (T.setTop g) ((B.U.setTop { g with stack := rest }).pushFrame (.throwing q))) := by
  obtain ⟨mk, methM, hnamed, hmethM, hstM, habM⟩ := Cond.instanceMethod_spec hinst
  obtain ⟨methM', cM, hmethM', -, -, -, -, -, -, hsigM⟩ := Cond.code_spec hnamed hcode
  cases hmethM.symm.trans hmethM'
  obtain ⟨c2, r2, m2, q1, q2, q3, q4, kP, hkP, hkPi⟩ := Cond.selects_spec hsel
  cases hcls.symm.trans q1
  cases (State.methodFound?_of_named hnamed hy).symm.trans q2
  cases hnamed.symm.trans q3
  have hselP : selectMethod e.platform s.vm cellB.cls mk = .method mk := by rw [Launch.admits_selectMethod X.admits]; exact q4
  obtain ⟨vm₁, X₁, hstep₁⟩ := X.invokevirtual hexec hown hlink hnamed hmethM hstM hkP hkPi hy (a := b) (cell := cellB) hcell
    (fun z h => by rw [h] at hobj; cases hobj) hselP hmethM habM hkP hkPi (g := g) hg (argsL := argsL) (rest := rest) (hlen _ hsigM) hstack hdg
  rcases hK m meth c ⟨T.setVm vm₁, locs, cells, slots⟩ { g with stack := rest } (.invokevirtual index) mk (Value.ref b :: argsL).toArray X₁ hg hsize hdg hW (X₁.named hnamed) (hpre vm₁ X₁.warmed) with ⟨v, B, X', hpost, hsteps⟩ | ⟨q, B, X', hpost, hsteps⟩
  · exact Or.inl ⟨v, vm₁, B, X₁.warmed, X', hpost, fun target h => hstep₁ _ fun acts => by rw [doInvoke_state]; exact hsteps.trans h⟩
  · exact Or.inr ⟨q, vm₁, B, X₁.warmed, X', hpost, hstep₁ _ fun acts => by rw [doInvoke_state]; exact hsteps⟩
theorem vx_callS (X : Stand p l e R s m args below meth c T locs cells slots) (hexec : p.tables.exec = Jvm.exec) {own : String} {index : Nat} {y : MethodName} {bytes : ByteArray} {maxL : Nat} {ret : Option FieldType}
    (hown : s.vm.findClass own = some m.cls) (hlink : (Cond.methodLink own index y).before args s = true) (hstat : (Cond.static y).before args s = true) (hinit : (Cond.initialized y.cls).before args s = true)
    (hcode : (Cond.code y bytes maxL ret).before args s = true) (hy : y.cls ≠ "java/lang/invoke/MethodHandle" ∧ y.cls ≠ "java/lang/invoke/VarHandle")
    {W9 : Nat} {Pre : Pt → Array Value → Prop} {Post : Pt → Array Value → Option Value → Pt → Prop} {PostX : Pt → Array Value → Addr → Pt → Prop} (hK : vx_Back l R p e below s args y 3 W9 Pre Post PostX)
    {g : JFrame} (hg : g.method = m) (hsize : g.locals.size = c.maxLocals) {argsL rest : List Value} (hlen : ∀ sig, parseMethodDescriptor y.desc = some sig → argsL.length = sig.parameters.length)
    (hstack : g.stack = argsL.reverse ++ rest) (hW : 2 * g.monitorRoom + (rest.map fun v => v.category).sum ≤ W9) (hdg : decode c.code g.pc = .ok (.invokestatic index, 3))
    (hpre : ∀ vm₁, s.WarmedH vm₁ → Pre ⟨T.setVm vm₁, locs, cells, slots⟩ argsL.toArray) :
    (∃ (v : Option Value) (vm₁ : Vm) (B : Pt), s.WarmedH vm₁ ∧ Stand p l e R s m args below meth c B.U B.locs B.cells B.slots ∧ Post ⟨T.setVm vm₁, locs, cells, slots⟩ argsL.toArray v B ∧
      ∀ target, Steps p.tables e below (B.U.setTop { g with pc := g.pc + 3, stack := v.toList ++ rest }) target → Steps p.tables e below (T.setTop g) target) ∨
    (∃ (q : Addr) (vm₁ : Vm) (B : Pt), s.WarmedH vm₁ ∧ Stand p l e R s m args below meth c B.U B.locs B.cells B.slots ∧ PostX ⟨T.setVm vm₁, locs, cells, slots⟩ argsL.toArray q B ∧
      Steps p.tables e below (T.setTop g) ((B.U.setTop { g with stack := rest }).pushFrame (.throwing q))) := by
  obtain ⟨mk, hnamed⟩ := Cond.code_named hcode
  obtain ⟨methM, cM, hmethM, -, -, -, -, -, -, hsigM⟩ := Cond.code_spec hnamed hcode
  have hstatic : methM.isStatic = true := Cond.static_spec hnamed hmethM hstat
  obtain ⟨kP, hkP, -⟩ := className_of_methodNamed hnamed
  have hinitP : kP.init = .initialized := Cond.initialized_spec (findClass_of_methodNamed hnamed) hkP hinit
  obtain ⟨vm₁, X₁, hstep₁⟩ := X.invokestatic hexec hown hlink hnamed hmethM hstatic hkP hinitP hy (g := g) hg (argsL := argsL) (rest := rest) (hlen _ hsigM) hstack hdg
  rcases hK m meth c ⟨T.setVm vm₁, locs, cells, slots⟩ { g with stack := rest } (.invokestatic index) mk argsL.toArray X₁ hg hsize hdg hW (X₁.named hnamed) (hpre vm₁ X₁.warmed) with ⟨v, B, X', hpost, hsteps⟩ | ⟨q, B, X', hpost, hsteps⟩
  · exact Or.inl ⟨v, vm₁, B, X₁.warmed, X', hpost, fun target h => hstep₁ _ fun acts => by rw [doInvoke_state]; exact hsteps.trans h⟩
  · exact Or.inr ⟨q, vm₁, B, X₁.warmed, X', hpost, hstep₁ _ fun acts => by rw [doInvoke_state]; exact hsteps⟩
end Calls
theorem vx_cls {s : State} {T : State} {vm₁ : Vm} {E : String} {k : ClassId} (hW : s.WarmedH vm₁) (h : (T.setVm vm₁).vm.findClass E = some k) : s.vm.findClass E = some k := by
  have h1 : vm₁.findClass E = some k := h
  rw [hW.alike.findClass] at h1
  exact h1
/-- the method's frame g, with q thrown over it -/
def vx_W (p : Program) (l : Launch) (e : Env) (R : Room) (s : State) (m : MethodId) (args : Array Value) (below : List Frame) (meth : Method) (c : Code) (H : Heap) (locs : List Loc) (cells slots : Nat) (Q : State → Prop) (g : JFrame) (q : Addr) : Prop :=
  ∀ T : State, T.heap = H → Stand p l e R s m args below meth c T locs cells slots → ∃ t, Steps p.tables e below ((T.setTop g).pushFrame (.throwing q)) t ∧ Q t
def vx_Run (p : Program) (l : Launch) (e : Env) (R : Room) (s : State) (m : MethodId) (args : Array Value) (below : List Frame) (meth : Method) (c : Code) (H : Heap) (locs : List Loc) (cells slots mc ms : Nat) (g : JFrame) (rest : List Value) (Qa : State → Outcome → State → Prop) (XC : String → State → State → Prop) (free : Addr → Prop) : Prop :=
  ∀ T : State, T.heap = H → Stand p l e R s m args below meth c T locs cells slots →
    (∃ (v : Option Value) (st₀ t T' : State) (L : List Loc), st₀.heap = H ∧ Stand p l e R s m args below meth c T' (locs ++ L) (cells + mc) (slots + ms) ∧ (∀ q ∈ L, free q.base) ∧ T'.heap = t.heap ∧ T'.vm = t.vm ∧ Qa st₀ (.returned v) t ∧
      Goes p e below T g T' { g with pc := g.pc + 3, stack := v.toList ++ rest }) ∨
    (∃ (q : Addr) (st₀ t T' : State) (L : List Loc) (E : String) (ce : Cell), st₀.heap = H ∧ Stand p l e R s m args below meth c T' (locs ++ L) (cells + mc) (slots + ms) ∧ (∀ z ∈ L, free z.base) ∧ T'.heap = t.heap ∧ T'.vm = t.vm ∧ XC E st₀ t ∧ t.heap[q]? = some ce ∧ ce.vm = .none ∧ s.vm.findClass E = some ce.cls ∧
      Steps p.tables e below (T.setTop g) ((T'.setTop { g with stack := rest }).pushFrame (.throwing q)))
def vx_X {S : Type} (px : S → Prop) (B : String → S → State → Prop) (A : Nat → Prop) : String → State → State → Prop := fun E st t => ∃ u : S, px u ∧ B E u t ∧ va_F A st t
section Runs
variable {p : Program} {l : Launch} {e : Env} {R : Room} {s : State} {m : MethodId} {args : Array Value} {below : List Frame} {meth : Method} {c : Code} {H : Heap} {locs : List Loc} {cells slots : Nat}
variable {y : MethodName} {bytes cc : ByteArray} {maxL nL mc ms n index : Nat} {ret : Option FieldType} {ws : List Cond} {rm : Room} {Pc : Array Value → State → Prop} {Qc : Array Value → State → Outcome → State → Prop} {XC : String → State → State → Prop} {free : Addr → Prop} {Ts : List Cond} {own C : String} {b : Addr} {As rest : List Value} {g : JFrame}
theorem vx_callBack (cb : CallB R s args own index y bytes maxL ret ws rm mc ms n) (hM : vx_Met l y ws rm Pc Qc XC mc ms free) (hbl : FrameBlind Pc) : vx_Back l R p e below s args y 3 8 (PreOf R mc ms Pc) (PostOf Qc mc ms free) (vx_Post XC mc ms free) := by
  obtain ⟨hrc, hrs, hfr, hlo, hws, hcw, -, hini, -⟩ := cb
  exact vx_back (bytes := bytes) (maxL := maxL) (ret := ret) hM hbl hrc hrs hfr hlo hws hcw (fun a' U hW => word_at hW (Or.inl (by first | rfl | simp [Cond.onTables, Cond.keeps, Cond.steady])) hini)
theorem vx_runV (S : CallFix p m c cc nL s args Ts own) (hM : vx_Met l y ws rm Pc Qc XC mc ms free) (cw : CallW R s args own C index y bytes maxL ret ws rm mc ms n) (hp : PreV s H C b Pc As)
    (hg : g.method = m) (hn : As.length = n) (hsize : g.locals.size = nL) (hstack : g.stack = As.reverse ++ .ref b :: rest) (hW : 2 * g.monitorRoom + (rest.map fun v => v.category).sum ≤ 8) (hdg : decode cc g.pc = .ok (.invokevirtual index, 3)) (hf : cells + mc ≤ R.cells ∧ slots + ms ≤ R.slots) :
    vx_Run p l e R s m args below meth c H locs cells slots mc ms g rest (Qc (Value.ref b :: As).toArray) XC free := by
  have hK : vx_Back l R p e below s args y 3 8 (PreOf R mc ms Pc) (PostOf Qc mc ms free) (vx_Post XC mc ms free) := vx_callBack cw.1 hM hp.1
  obtain ⟨⟨-, -, -, -, -, -, hcode, -, hy, hlen, hl⟩, hin, hse⟩ := cw
  obtain ⟨hx, hb, hml, ho, -⟩ := S
  obtain ⟨-, ⟨cellB, hcB, hoB, hclB⟩, hPc⟩ := hp
  intro T hT X
  rcases vx_callV X hx (C := C) (bytes := bytes) (maxL := maxL) (ret := ret) ho hl hin hse hcode hy hK (by rw [hT]; exact hcB) hoB hclB hg (hsize.trans hml.symm) (argsL := As) (rest := rest) (fun sig h => hn.trans (hlen sig h)) hstack hW (by rw [hb]; exact hdg)
    (fun vm₁ hW₁ => ⟨hf.1, hf.2, hPc (T.setVm vm₁) hT hW₁⟩) with ⟨v, vm₁, ⟨U', l2, c2, s2⟩, hW₁, X', ⟨g', mk, t, L, e1, e2, hq, h1, hL, h2, h3⟩, st⟩ | ⟨q, vm₁, ⟨U', l2, c2, s2⟩, hW₁, X', ⟨g', mk, t, L, E, ce, e1, e2, hq, hce, hcv, hcl, h1, hL, h2, h3⟩, st⟩
  · dsimp only [Pt.U, Pt.locs, Pt.cells, Pt.slots] at X' e1 e2 h1 h2 h3 st
    subst h1; subst h2; subst h3
    exact Or.inl ⟨v, (T.setVm vm₁).calling g' mk (Value.ref b :: As).toArray, t, U', L, hT, X', hL, e1, e2, hq, st⟩
  · dsimp only [Pt.U, Pt.locs, Pt.cells, Pt.slots] at X' e1 e2 h1 h2 h3 st hcl
    subst h1; subst h2; subst h3
    exact Or.inr ⟨q, (T.setVm vm₁).calling g' mk (Value.ref b :: As).toArray, t, U', L, E, ce, hT, X', hL, e1, e2, hq, hce, hcv, vx_cls hW₁ hcl, st⟩
theorem vx_runS (S : CallFix p m c cc nL s args Ts own) (hM : vx_Met l y ws rm Pc Qc XC mc ms free) (cw : CallB R s args own index y bytes maxL ret ws rm mc ms n ∧ (Cond.static y).before args s = true) (hp : PreS s H Pc As)
    (hg : g.method = m) (hn : As.length = n) (hsize : g.locals.size = nL) (hstack : g.stack = As.reverse ++ rest) (hW : 2 * g.monitorRoom + (rest.map fun v => v.category).sum ≤ 8) (hdg : decode cc g.pc = .ok (.invokestatic index, 3)) (hf : cells + mc ≤ R.cells ∧ slots + ms ≤ R.slots) :
    vx_Run p l e R s m args below meth c H locs cells slots mc ms g rest (Qc As.toArray) XC free := by
  have hK : vx_Back l R p e below s args y 3 8 (PreOf R mc ms Pc) (PostOf Qc mc ms free) (vx_Post XC mc ms free) := vx_callBack cw.1 hM hp.1
  obtain ⟨⟨-, -, -, -, -, -, hcode, hini, hy, hlen, hl⟩, hstt⟩ := cw
  obtain ⟨hx, hb, hml, ho, -⟩ := S
  intro T hT X
  rcases vx_callS X hx (bytes := bytes) (maxL := maxL) (ret := ret) ho hl hstt hini hcode hy hK hg (hsize.trans hml.symm) (argsL := As) (rest := rest) (fun sig h => hn.trans (hlen sig h)) hstack hW (by rw [hb]; exact hdg)
    (fun vm₁ hW₁ => ⟨hf.1, hf.2, hp.2 (T.setVm vm₁) hT hW₁⟩) with ⟨v, vm₁, ⟨U', l2, c2, s2⟩, hW₁, X', ⟨g', mk, t, L, e1, e2, hq, h1, hL, h2, h3⟩, st⟩ | ⟨q, vm₁, ⟨U', l2, c2, s2⟩, hW₁, X', ⟨g', mk, t, L, E, ce, e1, e2, hq, hce, hcv, hcl, h1, hL, h2, h3⟩, st⟩
  · dsimp only [Pt.U, Pt.locs, Pt.cells, Pt.slots] at X' e1 e2 h1 h2 h3 st
    subst h1; subst h2; subst h3
    exact Or.inl ⟨v, (T.setVm vm₁).calling g' mk As.toArray, t, U', L, hT, X', hL, e1, e2, hq, st⟩
  · dsimp only [Pt.U, Pt.locs, Pt.cells, Pt.slots] at X' e1 e2 h1 h2 h3 st hcl
    subst h1; subst h2; subst h3
    exact Or.inr ⟨q, (T.setVm vm₁).calling g' mk As.toArray, t, U', L, E, ce, hT, X', hL, e1, e2, hq, hce, hcv, vx_cls hW₁ hcl, st⟩
end Runs
section Rows
variable {p : Program} {l : Launch} {e : Env} {R : Room} {s : State} {m : MethodId} {args : Array Value} {below : List Frame} {meth : Method} {c : Code} {H : Heap} {locs : List Loc} {cells slots : Nat} {Q : State → Prop}
variable {mc ms : Nat} {free : Addr → Prop} {A0 A1 : Nat → Prop} {H0 : Heap} {a : Array Value} {pc : Nat} {ls : Array Slot} {st0 rest : List Value}
theorem vx_keep {st₀ t T' : State} {L : List Loc} (h0 : st₀.heap = H) (e1 : T'.heap = t.heap) (hS : va_S A0 H0 H locs) (hA : ∀ q, q < H.size → A1 q → A0 q) (hf : ∀ q, free q → A0 q) (hL : ∀ q ∈ L, free q.base) (hF : va_F A1 st₀ t) :
    H.size ≤ T'.heap.size ∧ (∀ q : Nat, q < H.size → ¬ A1 q → T'.heap[q]? = H[q]?) ∧ va_S A0 H0 T'.heap (locs ++ L) := by
  obtain ⟨hz, hk⟩ := hF
  rw [h0] at hz hk
  exact ⟨by rw [e1]; exact hz, fun q h1 h2 => by rw [e1]; exact hk q h1 h2,
    ⟨Nat.le_trans hS.1 (by rw [e1]; exact hz), fun q h1 h2 => by rw [e1, hk q (Nat.lt_of_lt_of_le h1 hS.1) (fun z => h2 (hA q (Nat.lt_of_lt_of_le h1 hS.1) z))]; exact hS.2.1 q h1 h2, fun q hq => by
      rcases List.mem_append.mp hq with h | h
      · exact hS.2.2 q h
      · exact hf _ (hL q h)⟩⟩
theorem vx_calli {S SX : Type} {post : Int32 → S → Prop} {px : SX → Prop} {B : S → State → Prop} {BX : String → SX → State → Prop} {AX : Nat → Prop} (hr : vx_Run p l e R s m args below meth c H locs cells slots mc ms (F0 m pc ls st0) rest (va_Qi post B A1 a) (vx_X px BX AX) free) (hS : va_S A0 H0 H locs) (hA : ∀ q, q < H.size → A1 q → A0 q) (hf : ∀ q, free q → A0 q) (hAX : ∀ q, q < H.size → AX q → A0 q)
    (kx : ∀ (E : String) (ce : Cell) (q9 : Addr) (u : SX) (t : State) (H1 : Heap) (locs1 : List Loc), t.heap = H1 → s.vm.Alike t.vm → px u → BX E u t → H.size ≤ H1.size → (∀ q : Nat, q < H.size → ¬ AX q → H1[q]? = H[q]?) → va_S A0 H0 H1 locs1 → H1[q9]? = some ce → ce.vm = .none → s.vm.findClass E = some ce.cls → vx_W p l e R s m args below meth c H1 locs1 (cells + mc) (slots + ms) Q (F0 m pc ls rest) q9)
    (kk : ∀ (r : Int32) (u : S) (t : State) (H1 : Heap) (locs1 : List Loc), t.heap = H1 → s.vm.Alike t.vm → post r u → B u t → H.size ≤ H1.size → (∀ q : Nat, q < H.size → ¬ A1 q → H1[q]? = H[q]?) → va_S A0 H0 H1 locs1 → W p l e R s m args below meth c H1 locs1 (cells + mc) (slots + ms) Q (F0 m (pc + 3) ls (.int r :: rest))) : W p l e R s m args below meth c H locs cells slots Q (F0 m pc ls st0) := by
  intro T hT X
  rcases hr T hT X with ⟨v, st₀, t, T', L, h0, X', hL, e1, e2, ⟨⟨r, u, hv, hp, hb⟩, hF⟩, st⟩ | ⟨q, st₀, t, T', L, E, ce, h0, X', hL, e1, e2, ⟨u, hp, hb, hF⟩, hce, hcv, hcl, st⟩
  · cases hv
    obtain ⟨k1, k2, k3⟩ := vx_keep h0 e1 hS hA hf hL hF
    obtain ⟨t2, a1, b1⟩ := kk r u t T'.heap (locs ++ L) e1.symm (by rw [← e2]; exact X'.warmed.alike) hp hb k1 k2 k3 T' rfl X'
    exact ⟨t2, st t2 a1, b1⟩
  · obtain ⟨k1, k2, k3⟩ := vx_keep h0 e1 hS hAX hf hL hF
    obtain ⟨t2, a1, b1⟩ := kx E ce q u t T'.heap (locs ++ L) e1.symm (by rw [← e2]; exact X'.warmed.alike) hp hb k1 k2 k3 (by rw [e1]; exact hce) hcv hcl T' rfl X'
    exact ⟨t2, st.trans a1, b1⟩
theorem vx_calll {S SX : Type} {post : Int64 → S → Prop} {px : SX → Prop} {B : S → State → Prop} {BX : String → SX → State → Prop} {AX : Nat → Prop} (hr : vx_Run p l e R s m args below meth c H locs cells slots mc ms (F0 m pc ls st0) rest (va_Ql post B A1 a) (vx_X px BX AX) free) (hS : va_S A0 H0 H locs) (hA : ∀ q, q < H.size → A1 q → A0 q) (hf : ∀ q, free q → A0 q) (hAX : ∀ q, q < H.size → AX q → A0 q)
    (kx : ∀ (E : String) (ce : Cell) (q9 : Addr) (u : SX) (t : State) (H1 : Heap) (locs1 : List Loc), t.heap = H1 → s.vm.Alike t.vm → px u → BX E u t → H.size ≤ H1.size → (∀ q : Nat, q < H.size → ¬ AX q → H1[q]? = H[q]?) → va_S A0 H0 H1 locs1 → H1[q9]? = some ce → ce.vm = .none → s.vm.findClass E = some ce.cls → vx_W p l e R s m args below meth c H1 locs1 (cells + mc) (slots + ms) Q (F0 m pc ls rest) q9)
    (kk : ∀ (r : Int64) (u : S) (t : State) (H1 : Heap) (locs1 : List Loc), t.heap = H1 → s.vm.Alike t.vm → post r u → B u t → H.size ≤ H1.size → (∀ q : Nat, q < H.size → ¬ A1 q → H1[q]? = H[q]?) → va_S A0 H0 H1 locs1 → W p l e R s m args below meth c H1 locs1 (cells + mc) (slots + ms) Q (F0 m (pc + 3) ls (.long r :: rest))) : W p l e R s m args below meth c H locs cells slots Q (F0 m pc ls st0) := by
  intro T hT X
  rcases hr T hT X with ⟨v, st₀, t, T', L, h0, X', hL, e1, e2, ⟨⟨r, u, hv, hp, hb⟩, hF⟩, st⟩ | ⟨q, st₀, t, T', L, E, ce, h0, X', hL, e1, e2, ⟨u, hp, hb, hF⟩, hce, hcv, hcl, st⟩
  · cases hv
    obtain ⟨k1, k2, k3⟩ := vx_keep h0 e1 hS hA hf hL hF
    obtain ⟨t2, a1, b1⟩ := kk r u t T'.heap (locs ++ L) e1.symm (by rw [← e2]; exact X'.warmed.alike) hp hb k1 k2 k3 T' rfl X'
    exact ⟨t2, st t2 a1, b1⟩
  · obtain ⟨k1, k2, k3⟩ := vx_keep h0 e1 hS hAX hf hL hF
    obtain ⟨t2, a1, b1⟩ := kx E ce q u t T'.heap (locs ++ L) e1.symm (by rw [← e2]; exact X'.warmed.alike) hp hb k1 k2 k3 (by rw [e1]; exact hce) hcv hcl T' rfl X'
    exact ⟨t2, st.trans a1, b1⟩
theorem vx_callf {S SX : Type} {post : UInt32 → S → Prop} {px : SX → Prop} {B : S → State → Prop} {BX : String → SX → State → Prop} {AX : Nat → Prop} (hr : vx_Run p l e R s m args below meth c H locs cells slots mc ms (F0 m pc ls st0) rest (va_Qf post B A1 a) (vx_X px BX AX) free) (hS : va_S A0 H0 H locs) (hA : ∀ q, q < H.size → A1 q → A0 q) (hf : ∀ q, free q → A0 q) (hAX : ∀ q, q < H.size → AX q → A0 q)
    (kx : ∀ (E : String) (ce : Cell) (q9 : Addr) (u : SX) (t : State) (H1 : Heap) (locs1 : List Loc), t.heap = H1 → s.vm.Alike t.vm → px u → BX E u t → H.size ≤ H1.size → (∀ q : Nat, q < H.size → ¬ AX q → H1[q]? = H[q]?) → va_S A0 H0 H1 locs1 → H1[q9]? = some ce → ce.vm = .none → s.vm.findClass E = some ce.cls → vx_W p l e R s m args below meth c H1 locs1 (cells + mc) (slots + ms) Q (F0 m pc ls rest) q9)
    (kk : ∀ (r : UInt32) (u : S) (t : State) (H1 : Heap) (locs1 : List Loc), t.heap = H1 → s.vm.Alike t.vm → post r u → B u t → H.size ≤ H1.size → (∀ q : Nat, q < H.size → ¬ A1 q → H1[q]? = H[q]?) → va_S A0 H0 H1 locs1 → W p l e R s m args below meth c H1 locs1 (cells + mc) (slots + ms) Q (F0 m (pc + 3) ls (.float r :: rest))) : W p l e R s m args below meth c H locs cells slots Q (F0 m pc ls st0) := by
  intro T hT X
  rcases hr T hT X with ⟨v, st₀, t, T', L, h0, X', hL, e1, e2, ⟨⟨r, u, hv, hp, hb⟩, hF⟩, st⟩ | ⟨q, st₀, t, T', L, E, ce, h0, X', hL, e1, e2, ⟨u, hp, hb, hF⟩, hce, hcv, hcl, st⟩
  · cases hv
    obtain ⟨k1, k2, k3⟩ := vx_keep h0 e1 hS hA hf hL hF
    obtain ⟨t2, a1, b1⟩ := kk r u t T'.heap (locs ++ L) e1.symm (by rw [← e2]; exact X'.warmed.alike) hp hb k1 k2 k3 T' rfl X'
    exact ⟨t2, st t2 a1, b1⟩
  · obtain ⟨k1, k2, k3⟩ := vx_keep h0 e1 hS hAX hf hL hF
    obtain ⟨t2, a1, b1⟩ := kx E ce q u t T'.heap (locs ++ L) e1.symm (by rw [← e2]; exact X'.warmed.alike) hp hb k1 k2 k3 (by rw [e1]; exact hce) hcv hcl T' rfl X'
    exact ⟨t2, st.trans a1, b1⟩
theorem vx_calld {S SX : Type} {post : UInt64 → S → Prop} {px : SX → Prop} {B : S → State → Prop} {BX : String → SX → State → Prop} {AX : Nat → Prop} (hr : vx_Run p l e R s m args below meth c H locs cells slots mc ms (F0 m pc ls st0) rest (va_Qd post B A1 a) (vx_X px BX AX) free) (hS : va_S A0 H0 H locs) (hA : ∀ q, q < H.size → A1 q → A0 q) (hf : ∀ q, free q → A0 q) (hAX : ∀ q, q < H.size → AX q → A0 q)
    (kx : ∀ (E : String) (ce : Cell) (q9 : Addr) (u : SX) (t : State) (H1 : Heap) (locs1 : List Loc), t.heap = H1 → s.vm.Alike t.vm → px u → BX E u t → H.size ≤ H1.size → (∀ q : Nat, q < H.size → ¬ AX q → H1[q]? = H[q]?) → va_S A0 H0 H1 locs1 → H1[q9]? = some ce → ce.vm = .none → s.vm.findClass E = some ce.cls → vx_W p l e R s m args below meth c H1 locs1 (cells + mc) (slots + ms) Q (F0 m pc ls rest) q9)
    (kk : ∀ (r : UInt64) (u : S) (t : State) (H1 : Heap) (locs1 : List Loc), t.heap = H1 → s.vm.Alike t.vm → post r u → B u t → H.size ≤ H1.size → (∀ q : Nat, q < H.size → ¬ A1 q → H1[q]? = H[q]?) → va_S A0 H0 H1 locs1 → W p l e R s m args below meth c H1 locs1 (cells + mc) (slots + ms) Q (F0 m (pc + 3) ls (.double r :: rest))) : W p l e R s m args below meth c H locs cells slots Q (F0 m pc ls st0) := by
  intro T hT X
  rcases hr T hT X with ⟨v, st₀, t, T', L, h0, X', hL, e1, e2, ⟨⟨r, u, hv, hp, hb⟩, hF⟩, st⟩ | ⟨q, st₀, t, T', L, E, ce, h0, X', hL, e1, e2, ⟨u, hp, hb, hF⟩, hce, hcv, hcl, st⟩
  · cases hv
    obtain ⟨k1, k2, k3⟩ := vx_keep h0 e1 hS hA hf hL hF
    obtain ⟨t2, a1, b1⟩ := kk r u t T'.heap (locs ++ L) e1.symm (by rw [← e2]; exact X'.warmed.alike) hp hb k1 k2 k3 T' rfl X'
    exact ⟨t2, st t2 a1, b1⟩
  · obtain ⟨k1, k2, k3⟩ := vx_keep h0 e1 hS hAX hf hL hF
    obtain ⟨t2, a1, b1⟩ := kx E ce q u t T'.heap (locs ++ L) e1.symm (by rw [← e2]; exact X'.warmed.alike) hp hb k1 k2 k3 (by rw [e1]; exact hce) hcv hcl T' rfl X'
    exact ⟨t2, st.trans a1, b1⟩
theorem vx_callv {S SX : Type} {post : S → Prop} {px : SX → Prop} {B : S → State → Prop} {BX : String → SX → State → Prop} {AX : Nat → Prop} (hr : vx_Run p l e R s m args below meth c H locs cells slots mc ms (F0 m pc ls st0) rest (va_Qv post B A1 a) (vx_X px BX AX) free) (hS : va_S A0 H0 H locs) (hA : ∀ q, q < H.size → A1 q → A0 q) (hf : ∀ q, free q → A0 q) (hAX : ∀ q, q < H.size → AX q → A0 q)
    (kx : ∀ (E : String) (ce : Cell) (q9 : Addr) (u : SX) (t : State) (H1 : Heap) (locs1 : List Loc), t.heap = H1 → s.vm.Alike t.vm → px u → BX E u t → H.size ≤ H1.size → (∀ q : Nat, q < H.size → ¬ AX q → H1[q]? = H[q]?) → va_S A0 H0 H1 locs1 → H1[q9]? = some ce → ce.vm = .none → s.vm.findClass E = some ce.cls → vx_W p l e R s m args below meth c H1 locs1 (cells + mc) (slots + ms) Q (F0 m pc ls rest) q9)
    (kk : ∀ (u : S) (t : State) (H1 : Heap) (locs1 : List Loc), t.heap = H1 → s.vm.Alike t.vm → post u → B u t → H.size ≤ H1.size → (∀ q : Nat, q < H.size → ¬ A1 q → H1[q]? = H[q]?) → va_S A0 H0 H1 locs1 → W p l e R s m args below meth c H1 locs1 (cells + mc) (slots + ms) Q (F0 m (pc + 3) ls (rest))) : W p l e R s m args below meth c H locs cells slots Q (F0 m pc ls st0) := by
  intro T hT X
  rcases hr T hT X with ⟨v, st₀, t, T', L, h0, X', hL, e1, e2, ⟨⟨u, hv, hp, hb⟩, hF⟩, st⟩ | ⟨q, st₀, t, T', L, E, ce, h0, X', hL, e1, e2, ⟨u, hp, hb, hF⟩, hce, hcv, hcl, st⟩
  · cases hv
    obtain ⟨k1, k2, k3⟩ := vx_keep h0 e1 hS hA hf hL hF
    obtain ⟨t2, a1, b1⟩ := kk u t T'.heap (locs ++ L) e1.symm (by rw [← e2]; exact X'.warmed.alike) hp hb k1 k2 k3 T' rfl X'
    exact ⟨t2, st t2 a1, b1⟩
  · obtain ⟨k1, k2, k3⟩ := vx_keep h0 e1 hS hAX hf hL hF
    obtain ⟨t2, a1, b1⟩ := kx E ce q u t T'.heap (locs ++ L) e1.symm (by rw [← e2]; exact X'.warmed.alike) hp hb k1 k2 k3 (by rw [e1]; exact hce) hcv hcl T' rfl X'
    exact ⟨t2, st.trans a1, b1⟩
/-- caught by the row x of this method's table; the rows ahead don't take it -/
theorem vx_catch {own name : String} {E : String} {ce : Cell} {q : Addr} (hown : s.vm.findClass own = some m.cls) (pre : List ExceptionTableEntry) (x : ExceptionTableEntry) (suf : List ExceptionTableEntry) (hsplit : c.exceptionTable.toList = pre ++ x :: suf)
    (hpass : ∀ z ∈ pre, covers z pc = false ∨ (z.catchType ≠ 0 ∧ ∃ nm : String, (Cond.classLink own z.catchType nm).before args s = true ∧ va_Nc E nm s)) (hx : covers x pc = true) (h0 : x.catchType ≠ 0)
    (hlink : (Cond.classLink own x.catchType name).before args s = true) (hcast : (Cond.castable E name).before args s = true) (hcell : H[q]? = some ce) (hv : ce.vm = .none) (hcl : s.vm.findClass E = some ce.cls)
    (kk : W p l e R s m args below meth c H locs cells slots Q (F0 m x.handlerPc ls [.ref q])) : vx_W p l e R s m args below meth c H locs cells slots Q (F0 m pc ls rest) q := by
  intro T hT X
  have hpl : e.platform.magicAccessors = ({} : Platform).magicAccessors := by rw [X.admits.platform]
  obtain ⟨c3, c4, hc3, hc4, hasg⟩ := Cond.castable_spec hcast
  cases Option.some.inj (hc3.symm.trans hcl)
  obtain ⟨c5, hc5, hcl5⟩ := Cond.classLink_spec hown hlink e.platform hpl
  cases Option.some.inj (hc4.symm.trans hc5)
  obtain ⟨vm', X', st⟩ := X.thenCaughtThrough q (g := F0 m pc ls rest) rfl (Steps.refl _) (by rw [hT]; exact hcell) (by rw [hv]; rfl) (by obtain ⟨k9, h9, -⟩ := Vm.findClass_spec hcl; exact ⟨k9, h9⟩) pre x suf hsplit
    (fun z hz => by
      rcases hpass z hz with h | ⟨hz0, nm, hl1, hn1⟩
      · exact Or.inl h
      · obtain ⟨c6, hc6, hcl6⟩ := Cond.classLink_spec hown hl1 e.platform hpl
        obtain ⟨a8, b8, h1, h2, h3⟩ := hn1
        cases Option.some.inj (h1.symm.trans hcl)
        cases Option.some.inj (h2.symm.trans hc6)
        exact Or.inr ⟨hz0, _, hcl6, h3⟩) hx (Or.inr ⟨h0, c4, hcl5, hasg⟩)
  obtain ⟨t, a1, b1⟩ := kk (T.setVm vm') hT X'
  exact ⟨t, st.trans a1, b1⟩
end Rows
section Ends
variable {p : Program} {l : Launch} {e : Env} {R : Room} {s : State} {m : MethodId} {args : Array Value} {below : List Frame} {meth : Method} {c : Code} {H : Heap} {locs : List Loc} {cells slots : Nat} {Q : State → Prop}
variable {mc ms : Nat} {free : Addr → Prop} {A0 A1 : Nat → Prop} {H0 : Heap} {a : Array Value} {ls : Array Slot} {st0 rest : List Value}
variable {Qc : Array Value → State → Outcome → State → Prop} {XC : String → State → State → Prop}
/-- what a body that may throw owes at its end -/
def vx_MQ (below : List Frame) (Qc : Array Value → State → Outcome → State → Prop) (XC : String → State → State → Prop) (a : Array Value) (s : State) (mc ms : Nat) (free : Addr → Prop) : State → Prop := fun t =>
  ∃ o, t.status = .running ∧ Ended t below o ∧ vx_Q Qc XC mc ms free a s o t
theorem vx_ret {g : JFrame} {mc ms : Nat} (k : W p l e R s m args below meth c H locs cells slots (MQ below Qc args s mc ms free) g) : W p l e R s m args below meth c H locs cells slots (vx_MQ below Qc XC args s mc ms free) g := by
  intro T hT X
  obtain ⟨t, a1, o, b1, b2, b3, b4⟩ := k T hT X
  exact ⟨t, a1, o, b1, b2, Or.inl ⟨b3, b4⟩⟩
/-- not caught here: it goes on to the caller -/
theorem vx_widen {g : JFrame} {q : Addr} {k n : Nat} (h1 : cells ≤ k) (h2 : slots ≤ n) (kk : vx_W p l e R s m args below meth c H locs k n Q g q) : vx_W p l e R s m args below meth c H locs cells slots Q g q := fun T hT X => kk T hT (stand_widen X h1 h2)
theorem vx_out {pc : Nat} {E : String} {ce : Cell} {q : Addr} {mc ms : Nat} (hout : ∀ x ∈ c.exceptionTable.toList, covers x pc = false) (hlocks : meth.locks = false) (hcell : H[q]? = some ce) (hv : ce.vm = .none) (hcl : s.vm.findClass E = some ce.cls)
    (hx : ∀ t : State, t.heap = H → s.vm.Alike t.vm → XC E s t) (hf : ∀ z ∈ locs, free z.base) (hc : cells ≤ mc) (hs : slots ≤ ms) :
    vx_W p l e R s m args below meth c H locs cells slots (vx_MQ below Qc XC args s mc ms free) (F0 m pc ls rest) q := by
  intro T hT X
  obtain ⟨st1, hrun, hend, hW, hsm⟩ := X.leaveThrown q (g := F0 m pc ls rest) rfl rfl rfl hout hlocks
  have hcell9 : (T.setFrames (.throwing q :: below)).heap[q]? = some ce := by
    show T.heap[q]? = some ce
    rw [hT]; exact hcell
  exact ⟨_, st1, .threw q, hrun, hend, Or.inr ⟨q, rfl, E, ce, locs, hx _ hT hW.alike, hcell9, hv, hcl, hW, hsm.mono hc hs, hf⟩⟩
theorem vx_frame {U : State} {k n : Nat} (h : s.sameButNew ({ U with vm := s.vm } : State) locs k n) : s.heap.size ≤ U.heap.size ∧ ∀ q : Nat, q < s.heap.size → (∀ z ∈ locs, z.base ≠ q) → U.heap[q]? = s.heap[q]? := by
  obtain ⟨-, h2, -, -, -, h6⟩ := h
  refine ⟨h2, fun q hq hz => ?_⟩
  obtain ⟨c9, e1, e2, e3, e4⟩ := h6 q _ (Array.getElem?_eq_getElem hq)
  have hs : c9.slots = (s.heap[q]).slots := Array.ext_getElem? fun i => e4 i fun hm => hz _ hm rfl
  have h9 : c9 = s.heap[q] := by
    rw [hs] at e2
    exact e2
  have e5 : U.heap[q]? = some c9 := e1
  rw [e5, h9, Array.getElem?_eq_getElem hq]
/-- the words of a throw but the four that speak of the heap -/
def vx_no (w : Cond) : Bool := decide (w ≠ .isRef (.static Bundle.tN "UNASSIGNED_STACK" Bundle.steD)) && decide (w ≠ .isRef (.static Bundle.tN "SUPPRESSED_SENTINEL" Bundle.listD)) && decide (w ≠ .laysStatic Bundle.tN "UNASSIGNED_STACK" Bundle.steD) && decide (w ≠ .laysStatic Bundle.tN "SUPPRESSED_SENTINEL" Bundle.listD)
def vx_at0 (own : String) (ic : Nat) (X : String) (names : List String) : List Cond := (Bundle.ownAtoms0 own ic X names).filter vx_no
def vx_atS (own : String) (ic : Nat) (X : String) (names : List String) : List Cond := (Bundle.ownAtoms own ic X names).filter vx_no
/-- a word that the tables alone decide, or a good one -/
def vx_ot (w : Cond) : Bool := w.onTables || goodWord w
theorem vx_ot_at {args a' : Array Value} {s U : State} {w : Cond} (hW : s.WarmedH U.vm) (hvm : s.vm = U.vm) (hg : vx_ot w = true) (h : w.before args s = true) : w.before a' U = true := by
  simp only [vx_ot, Bool.or_eq_true] at hg
  rcases hg with hg | hg
  · exact va_tabs hg hvm h
  · exact word_at hW (good_of_word hg) h
/-- a list's words: the good ones out of the method's own list, the others by premises of their own -/
theorem vx_hat {args : Array Value} {s : State} {L B : List Cond} (h1 : ∀ w ∈ L.filter goodWord, w.before args s = true) (h2 : ∀ w ∈ L.filter (fun w => !goodWord w), w ∈ B) (h3 : ∀ w ∈ B, w.before args s = true) : ∀ w ∈ L, w.before args s = true := by
  intro w hw
  by_cases g : goodWord w = true
  · exact h1 w (List.mem_filter.mpr ⟨hw, g⟩)
  · refine h3 w (h2 w (List.mem_filter.mpr ⟨hw, ?_⟩))
    show (!goodWord w) = true
    cases hgw : goodWord w
    · rfl
    · exact absurd hgw g
theorem vx_c {args : Array Value} {s : State} {w : Cond} {B : List Cond} (h : w.before args s = true) (t : ∀ w ∈ B, w.before args s = true) : ∀ w' ∈ w :: B, w'.before args s = true := fun w' h' => (List.mem_cons.mp h').elim (fun e => by rw [e]; exact h) (t w')
theorem vx_n {args : Array Value} {s : State} : ∀ w ∈ ([] : List Cond), w.before args s = true := fun _ h => nomatch h
theorem vx_own {args : Array Value} {s : State} {L : List Cond} (h1 : ∀ w ∈ L.filter vx_no, w.before args s = true)
    (hU : (Cond.isRef (.static Bundle.tN "UNASSIGNED_STACK" Bundle.steD)).before args s = true) (hN : (Cond.isRef (.static Bundle.tN "SUPPRESSED_SENTINEL" Bundle.listD)).before args s = true)
    (lU : (Cond.laysStatic Bundle.tN "UNASSIGNED_STACK" Bundle.steD).before args s = true) (lN : (Cond.laysStatic Bundle.tN "SUPPRESSED_SENTINEL" Bundle.listD).before args s = true) : ∀ w ∈ L, w.before args s = true := by
  intro w hw
  by_cases e1 : w = .isRef (.static Bundle.tN "UNASSIGNED_STACK" Bundle.steD)
  · rw [e1]; exact hU
  · by_cases e2 : w = .isRef (.static Bundle.tN "SUPPRESSED_SENTINEL" Bundle.listD)
    · rw [e2]; exact hN
    · by_cases e3 : w = .laysStatic Bundle.tN "UNASSIGNED_STACK" Bundle.steD
      · rw [e3]; exact lU
      · by_cases e4 : w = .laysStatic Bundle.tN "SUPPRESSED_SENTINEL" Bundle.listD
        · rw [e4]; exact lN
        · exact h1 w (List.mem_filter.mpr ⟨hw, by unfold vx_no; rw [decide_eq_true e1, decide_eq_true e2, decide_eq_true e3, decide_eq_true e4]; rfl⟩)
/-- where a static field lies, its class's statics cell in H -/
def vx_L (C n d : String) (A : Nat → Prop) (U : State) (H : Heap) : Prop := ∃ (c : ClassId) (k : Class) (i : Nat) (f : Field) (a : Nat) (cell : Cell), U.vm.findClass C = some c ∧ U.fieldFound? C n d = some (c, k, i, f) ∧ f.isStatic = true ∧ k.statics = some a ∧ H[a]? = some cell ∧ cell.vm.isStatics = true ∧ cell.cls = c ∧ f.slot < cell.slots.size ∧ k.staticTypes[f.slot]? = some f.type ∧ ¬ A a
theorem vx_L.moved {C n d : String} {A : Nat → Prop} {u U : State} {H : Heap} (hvm : u.vm.Alike U.vm) (h : vx_L C n d A u H) : vx_L C n d A U H := by
  obtain ⟨c, k, i, f, a, cell, h1, h2, h3, h4, h5, h6, h7, h8, h9, h10⟩ := h
  obtain ⟨k', hi', he⟩ := State.fieldFound?_setVm hvm h2
  exact ⟨c, k', i, f, a, cell, by rw [hvm.findClass]; exact h1, hi', h3, by rw [he]; exact h4, h5, h6, h7, h8, by rw [he]; exact h9, h10⟩
theorem vx_L.kept {C n d : String} {A : Nat → Prop} {U : State} {H H1 : Heap} (h : vx_L C n d A U H) (hq : ∀ a : Nat, a < H.size → ¬ A a → H1[a]? = H[a]?) : vx_L C n d A U H1 := by
  obtain ⟨c, k, i, f, a, cell, h1, h2, h3, h4, h5, h6, h7, h8, h9, h10⟩ := h
  exact ⟨c, k, i, f, a, cell, h1, h2, h3, h4, by rw [hq a (Array.getElem?_eq_some_iff.mp h5).1 h10]; exact h5, h6, h7, h8, h9, h10⟩
theorem vx_L.narrow {C n d : String} {A B : Nat → Prop} {U : State} {H : Heap} (h : vx_L C n d A U H) (hAB : ∀ q, B q → A q) : vx_L C n d B U H := by
  obtain ⟨c, k, i, f, a, cell, h1, h2, h3, h4, h5, h6, h7, h8, h9, h10⟩ := h
  exact ⟨c, k, i, f, a, cell, h1, h2, h3, h4, h5, h6, h7, h8, h9, fun z => h10 (hAB _ z)⟩
theorem vx_L.word {C n d : String} {A : Nat → Prop} {s : State} {args : Array Value} (h : vx_L C n d A s s.heap) : (Cond.laysStatic C n d).before args s = true := by
  obtain ⟨c, k, i, f, a, cell, h1, h2, h3, h4, h5, h6, h7, h8, h9, -⟩ := h
  show (Cond.laysStatic C n d).holds args s none s [] = true
  exact Cond.laysStatic_of h1 h2 h3 h4 h5 h6 h7 h8 h9
/-- .. and what it holds: null or some reference -/
def vx_Zq (C n d : String) (A : Nat → Prop) (U : State) (H : Heap) : Prop := va_Zq C n d A U H ∧ vx_L C n d A U H
theorem vx_Zq.moved {C n d : String} {A : Nat → Prop} {u U : State} {H : Heap} (hvm : u.vm.Alike U.vm) (h : vx_Zq C n d A u H) : vx_Zq C n d A U H := ⟨va_Zq.moved hvm h.1, vx_L.moved hvm h.2⟩
theorem vx_Zq.kept {C n d : String} {A : Nat → Prop} {U : State} {H H1 : Heap} (h : vx_Zq C n d A U H) (hq : ∀ a : Nat, a < H.size → ¬ A a → H1[a]? = H[a]?) : vx_Zq C n d A U H1 := ⟨va_Zq.kept h.1 hq, vx_L.kept h.2 hq⟩
theorem vx_Zq.narrow {C n d : String} {A B : Nat → Prop} {U : State} {H : Heap} (h : vx_Zq C n d A U H) (hAB : ∀ q, B q → A q) : vx_Zq C n d B U H := ⟨va_Zq.narrow h.1 hAB, vx_L.narrow h.2 hAB⟩
theorem vx_Zqof {args : Array Value} {s : State} {C n d : String} {A : Nat → Prop} (hl : (Cond.laysStatic C n d).before args s = true) (hini : (Cond.initialized C).before args s = true) (h : (Cond.isRef (.static C n d)).before args s = true) (hA : ∀ a : Nat, a < s.heap.size → ¬ A a) : vx_Zq C n d A s s.heap := by
  refine ⟨va_Zqof hl hini h hA, ?_⟩
  obtain ⟨c, k, i, f, a, cell, h1, h2, h3, h4, h5, h6, h7, h8, h9⟩ := Cond.laysStatic_spec hl
  exact ⟨c, k, i, f, a, cell, h1, h2, h3, h4, h5, h6, h7, h8, h9, hA a (Array.getElem?_eq_some_iff.mp h5).1⟩
theorem vx_isRef {C n d : String} {v : Value} {A : Nat → Prop} {s : State} {args : Array Value} (h : va_Z C n d v A s s.heap) (hv : v.isRef = true) : (Cond.isRef (.static C n d)).before args s = true := by
  obtain ⟨cf, kf, fi, f, a, cell, h1, h2, h3, h4, h5, h6, h7, -⟩ := h
  have he : (Term.static C n d).eval args s none [] s = some v := by
    simp [Term.eval, State.fieldNamed?, h1, h2, h4, h5, h6, h7]
  simp only [Cond.before, Cond.holds, Cond.value, he]
  cases v <;> simp_all [Value.isRef]
theorem vx_isRefq {C n d : String} {A : Nat → Prop} {s : State} {args : Array Value} (h : va_Zq C n d A s s.heap) : (Cond.isRef (.static C n d)).before args s = true := by
  rcases h with h | ⟨t, h⟩
  · exact vx_isRef h rfl
  · exact vx_isRef h rfl
/-- the same frame, seen from here: as if the method were called anew in this heap -/
theorem vx_rebase {T : State} (X : Stand p l e R s m args below meth c T locs cells slots) {R' : Room} (hf : R'.frames ≤ R.frames) (hl : R'.locals ≤ R.locals) (hc : cells + R'.cells ≤ R.cells) (hs : slots + R'.slots ≤ R.slots) :
    Stand p l e R' ((T.setVm s.vm).setFrames (.invoking m args :: below)) m args below meth c T [] 0 0 := by
  have htop : (T.setVm s.vm).topJava?.isSome := X.here.top
  have hF : ((T.setVm s.vm).setFrames (.invoking m args :: below)).frames = .invoking m args :: below := State.frames_setFrames _ (State.cur_lt_of_top htop)
  obtain ⟨g₀, hg0⟩ := Option.isSome_iff_exists.mp htop
  obtain ⟨r, hr⟩ := State.topJava?_eq_some.mp hg0
  have hl9 : e.platform.stackLimits (T.setVm s.vm).me = e.platform.stackLimits s.me := X.limits
  have hb9 : (T.setVm s.vm).me.stackBytes = s.me.stackBytes := X.bytes
  refine ⟨X.admits, X.cas, X.clock, hF, ?_, X.hears, X.method, X.code, X.here, X.tail, X.warmed, ?_, ?_, ?_⟩
  · have h := X.room
    have hU : ((T.setVm s.vm).setFrames (.invoking m args :: below)).localsInUse = s.localsInUse := by
      rw [State.localsInUse_invoking hF (meth := meth) (c := c) X.method X.code, State.localsInUse_invoking X.frames X.method X.code]
    simp only [State.hasRoom, Bool.and_eq_true, decide_eq_true_eq] at h ⊢
    obtain ⟨⟨⟨⟨h1, h2, h3, h4, h5, h6⟩, h7⟩, h8⟩, h9⟩ := h
    rw [X.frames, List.length_cons] at h2 h3
    have q1 := X.heapSize
    have q2 := X.used
    simp only [hF, hU, List.length_cons, State.stackLimits_setFrames, State.stackBytes_setFrames, hl9, hb9]
    refine ⟨⟨⟨⟨by omega, by omega, by omega, by omega, by omega, h6⟩, ?_⟩, ?_⟩, X.book⟩
    · show T.heap.size + R'.cells ≤ e.platform.maxCells
      omega
    · show T.slotsUsed + R'.slots ≤ e.platform.maxSlots
      omega
  · rw [State.stackLimits_setFrames]; rfl
  · rw [State.stackBytes_setFrames]; rfl
  · refine ⟨?_, Nat.le_refl _, Nat.le_refl _, ?_, ?_, fun a c9 h9 => ⟨c9, h9, rfl, rfl, fun _ _ => rfl⟩⟩
    · obtain ⟨t, ht, -⟩ := State.frames_cons hr
      show T.setVm s.vm = { ((T.setVm s.vm).setFrames (.invoking m args :: below)).setFrames (T.setVm s.vm).frames with heap := T.heap, slotsUsed := T.slotsUsed }
      rw [State.setFrames_setFrames, State.setFrames_self ht]
      rfl
    · show T.slotsUsed = T.slotsUsed + ((T.heap.toList.drop T.heap.size).map (·.slots.size)).sum
      rw [List.drop_eq_nil_of_le (Nat.le_of_eq Array.length_toList)]
      rfl
    · show ((T.heap.toList.drop T.heap.size).map (·.slots.size)).sum ≤ 0
      rw [List.drop_eq_nil_of_le (Nat.le_of_eq Array.length_toList)]
      exact Nat.le_refl _
/-- 'throw new E()': new; dup; invokespecial; athrow -/
theorem vx_throw0 {cc : ByteArray} {pc : Nat} (hexec : p.tables.exec = Jvm.exec) (hb : c.code = cc) (hl : l.stackTraces = false) {own cls : String} {names : List String} {ik ic mc ms : Nat} {A : Nat → Prop}
    (hown : s.vm.findClass own = some m.cls) (hcls : Bundle.fit cls = true) (hnames : ∀ n ∈ names, Bundle.fit n = true)
    (hk : (Cond.classLink own ik cls).before args s = true) (hini : (Cond.initialized cls).before args s = true) (hat : ∀ w ∈ vx_at0 own ic cls names, w.before args s = true)
    (hgood : ∀ w ∈ Cond.classLink own ik cls :: Cond.initialized cls :: vx_at0 own ic cls names, vx_ot w = true)
    (hU : vx_Zq Bundle.tN "UNASSIGNED_STACK" Bundle.steD A s s.heap) (hN : vx_Zq Bundle.tN "SUPPRESSED_SENTINEL" Bundle.listD A s s.heap) (hS : va_S A s.heap H locs) (hsize : ls.size = c.maxLocals)
    (d0 : decode cc pc = .ok (.new ik, 3)) (d3 : decode cc (pc + 3) = .ok (.dup, 1)) (d4 : decode cc (pc + 4) = .ok (.invokespecial ic, 3)) (d7 : decode cc (pc + 7) = .ok (.athrow, 1))
    (hout : ∀ x ∈ c.exceptionTable.toList, covers x (pc + 7) = false)
    (hRframes : names.length + 3 < R.frames) (hRlocals : (rest.map fun v => v.category).sum + (13 * (names.length + 1) + 42) ≤ R.locals) (hRcells : cells + 1 ≤ R.cells) (hRslots : slots + 6 ≤ R.slots) (hlocks : meth.locks = false)
    (hx : ∀ t : State, s.vm.Alike t.vm → H.size ≤ t.heap.size → (∀ q : Nat, q < H.size → t.heap[q]? = H[q]?) → XC cls s t)
    (hf : ∀ z ∈ locs, free z.base) (hc : cells + 1 ≤ mc) (hs : slots + 6 ≤ ms) :
    W p l e R s m args below meth c H locs cells slots (vx_MQ below Qc XC args s mc ms free) (F0 m pc ls rest) := by
  intro T hT X
  have htr : e.platform.stackTraces = false := (show e.platform.stackTraces = l.stackTraces by rw [X.admits.platform]).trans hl
  have Y := vx_rebase X (R' := { frames := R.frames, locals := R.locals, cells := 1, slots := 6 }) (Nat.le_refl _) (Nat.le_refl _) hRcells hRslots
  obtain ⟨s', hA⟩ : ∃ z, z = (T.setVm s.vm).setFrames (.invoking m args :: below) := ⟨_, rfl⟩
  rw [← hA] at Y
  have hvm : s'.vm = s.vm := by rw [hA]; rfl
  have hhp : s'.heap = H := by rw [hA]; exact hT
  have hW0 : s.WarmedH s'.vm := by rw [hvm]; exact State.WarmedH.refl s
  have hat' : ∀ w ∈ vx_at0 own ic cls names, w.before args s' = true := fun w hw => vx_ot_at hW0 hvm.symm (hgood w (List.mem_cons_of_mem _ (List.mem_cons_of_mem _ hw))) (hat w hw)
  have hk' : (Cond.classLink own ik cls).before args s' = true := vx_ot_at hW0 hvm.symm (hgood _ List.mem_cons_self) hk
  have hini' : (Cond.initialized cls).before args s' = true := vx_ot_at hW0 hvm.symm (hgood _ (List.mem_cons_of_mem _ List.mem_cons_self)) hini
  have hU' : vx_Zq Bundle.tN "UNASSIGNED_STACK" Bundle.steD A s' s'.heap := by rw [hhp]; exact vx_Zq.moved hW0.alike (hU.kept hS.2.1)
  have hN' : vx_Zq Bundle.tN "SUPPRESSED_SENTINEL" Bundle.listD A s' s'.heap := by rw [hhp]; exact vx_Zq.moved hW0.alike (hN.kept hS.2.1)
  have h : ∀ w ∈ Bundle.ownAtoms0 own ic cls names, w.before args s' = true := vx_own hat' (vx_isRefq hU'.1) (vx_isRefq hN'.1) hU'.2.word hN'.2.word
  have hown' : s'.vm.findClass own = some m.cls := by rw [hvm]; exact hown
  have hins : (Cond.instantiable cls 6).before args s' = true := h _ (by simp [Bundle.ownAtoms0])
  obtain ⟨vm₁, cX, kX, hfX, hkX, -, -, X₁, st1⟩ := Y.newCold hexec (own := own) (C := cls) (index := ik) (n := 6) hown' hk' hins hini'
    (g := F0 m pc ls rest) rfl (by rw [hb]; exact d0) (Nat.le_refl _) (Nat.le_refl _)
  generalize hT1 : (T.setVm vm₁).pushCell { cls := cX, slots := kX.instanceTypes.map defaultValue, vm := .none } = T1 at X₁ st1
  have hcat : (Value.ref T.heap.size).category = 1 := rfl
  have hcellA : T1.heap[T.heap.size]? = some (freshCell cX kX) := by rw [← hT1]; exact State.heap_pushCell_size _ _
  have d3' : decode c.code (pc + 3) = .ok (.dup, 1) := by rw [hb]; exact d3
  obtain ⟨U, hsteps, hrun, hend, hW, hsame, ce, hce, hO⟩ := X₁.ctorThrow0 hexec htr (own := own) (cls := cls) (names := names) (ic := ic) hown' hcls hnames h (fun x hx => nomatch hx) hfX hkX hcellA (by rw [hhp, hT]; exact Nat.le_refl _)
    (g := { method := m, pc := pc + 4, locals := ls, stack := .ref T.heap.size :: .ref T.heap.size :: rest, locked := none }) rfl hsize rfl rfl (rest := rest) rfl
    (by rw [hb]; exact d4) (by rw [hb]; exact d7) hout hRframes (by simp only [List.map_cons, List.sum_cons, hcat]; omega) hlocks
  obtain ⟨f1, f2⟩ := vx_frame hsame
  rw [hhp] at f1 f2
  have hWs : s.WarmedH U.vm := State.WarmedH.trans hW0 hW
  have hcl : s.vm.findClass cls = some ce.cls := by
    have h9 := hO.cls
    rw [hvm] at h9
    exact h9
  have hall : s.sameButNew ({ U with vm := s.vm } : State) locs mc ms := by
    subst hA
    obtain ⟨e1, e2⟩ := hsame
    rw [State.setFrames_setFrames] at e1
    have h2 : (T.setVm s.vm).sameButNew ({ U with vm := s.vm } : State) [] (0 + 1) (0 + 6) := ⟨e1, e2⟩
    have h3 := X.same.trans h2
    rw [List.append_nil] at h3
    exact h3.mono hc hs
  refine ⟨U, ?_, .threw T.heap.size, hrun, hend, Or.inr ⟨T.heap.size, rfl, cls, ce, locs, hx U hWs.alike f1 (fun q hq => f2 q hq (fun z hz => nomatch hz)), hce, hO.vm, hcl, hWs, hall, hf⟩⟩
  refine st1 _ ?_
  show Steps p.tables e below (T1.setTop { method := m, pc := pc + 3, locals := ls, stack := .ref T.heap.size :: rest, locked := none }) _
  jvm_step X₁.here [X₁.here.top, hexec, d3', Value.category]
  exact hsteps
/-- 'throw new E("text")': new; dup; ldc; invokespecial; athrow -/
theorem vx_throwS {cc : ByteArray} {pc : Nat} (hexec : p.tables.exec = Jvm.exec) (hb : c.code = cc) (hl : l.stackTraces = false) {own cls text : String} {names : List String} {ik is ic mc ms sa : Nat} {A : Nat → Prop}
    (hown : s.vm.findClass own = some m.cls) (hcls : Bundle.fit cls = true) (hnames : ∀ n ∈ names, Bundle.fit n = true)
    (hk : (Cond.classLink own ik cls).before args s = true) (hini : (Cond.initialized cls).before args s = true) (hstr : vk_R own is text sa s) (hat : ∀ w ∈ vx_atS own ic cls names, w.before args s = true)
    (hgood : ∀ w ∈ Cond.classLink own ik cls :: Cond.initialized cls :: vx_atS own ic cls names, vx_ot w = true)
    (hU : vx_Zq Bundle.tN "UNASSIGNED_STACK" Bundle.steD A s s.heap) (hN : vx_Zq Bundle.tN "SUPPRESSED_SENTINEL" Bundle.listD A s s.heap) (hS : va_S A s.heap H locs) (hsize : ls.size = c.maxLocals)
    (d0 : decode cc pc = .ok (.new ik, 3)) (d3 : decode cc (pc + 3) = .ok (.dup, 1)) (d4 : decode cc (pc + 4) = .ok (.ldc is, 2)) (d6 : decode cc (pc + 6) = .ok (.invokespecial ic, 3)) (d9 : decode cc (pc + 9) = .ok (.athrow, 1))
    (hout : ∀ x ∈ c.exceptionTable.toList, covers x (pc + 9) = false)
    (hRframes : names.length + 3 < R.frames) (hRlocals : (rest.map fun v => v.category).sum + (13 * (names.length + 1) + 43) ≤ R.locals) (hRcells : cells + 1 ≤ R.cells) (hRslots : slots + 6 ≤ R.slots) (hlocks : meth.locks = false)
    (hx : ∀ t : State, s.vm.Alike t.vm → H.size ≤ t.heap.size → (∀ q : Nat, q < H.size → t.heap[q]? = H[q]?) → XC cls s t)
    (hf : ∀ z ∈ locs, free z.base) (hc : cells + 1 ≤ mc) (hs : slots + 6 ≤ ms) :
    W p l e R s m args below meth c H locs cells slots (vx_MQ below Qc XC args s mc ms free) (F0 m pc ls rest) := by
  intro T hT X
  have htr : e.platform.stackTraces = false := (show e.platform.stackTraces = l.stackTraces by rw [X.admits.platform]).trans hl
  have Y := vx_rebase X (R' := { frames := R.frames, locals := R.locals, cells := 1, slots := 6 }) (Nat.le_refl _) (Nat.le_refl _) hRcells hRslots
  obtain ⟨s', hA⟩ : ∃ z, z = (T.setVm s.vm).setFrames (.invoking m args :: below) := ⟨_, rfl⟩
  rw [← hA] at Y
  have hvm : s'.vm = s.vm := by rw [hA]; rfl
  have hhp : s'.heap = H := by rw [hA]; exact hT
  have hW0 : s.WarmedH s'.vm := by rw [hvm]; exact State.WarmedH.refl s
  have hat' : ∀ w ∈ vx_atS own ic cls names, w.before args s' = true := fun w hw => vx_ot_at hW0 hvm.symm (hgood w (List.mem_cons_of_mem _ (List.mem_cons_of_mem _ hw))) (hat w hw)
  have hk' : (Cond.classLink own ik cls).before args s' = true := vx_ot_at hW0 hvm.symm (hgood _ List.mem_cons_self) hk
  have hini' : (Cond.initialized cls).before args s' = true := vx_ot_at hW0 hvm.symm (hgood _ (List.mem_cons_of_mem _ List.mem_cons_self)) hini
  have hU' : vx_Zq Bundle.tN "UNASSIGNED_STACK" Bundle.steD A s' s'.heap := by rw [hhp]; exact vx_Zq.moved hW0.alike (hU.kept hS.2.1)
  have hN' : vx_Zq Bundle.tN "SUPPRESSED_SENTINEL" Bundle.listD A s' s'.heap := by rw [hhp]; exact vx_Zq.moved hW0.alike (hN.kept hS.2.1)
  have h : ∀ w ∈ Bundle.ownAtoms own ic cls names, w.before args s' = true := vx_own hat' (vx_isRefq hU'.1) (vx_isRefq hN'.1) hU'.2.word hN'.2.word
  have hown' : s'.vm.findClass own = some m.cls := by rw [hvm]; exact hown
  have hins : (Cond.instantiable cls 6).before args s' = true := h _ (by simp [Bundle.ownAtoms])
  obtain ⟨vm₁, cX, kX, hfX, hkX, -, -, X₁, st1⟩ := Y.newCold hexec (own := own) (C := cls) (index := ik) (n := 6) hown' hk' hins hini'
    (g := F0 m pc ls rest) rfl (by rw [hb]; exact d0) (Nat.le_refl _) (Nat.le_refl _)
  generalize hT1 : (T.setVm vm₁).pushCell { cls := cX, slots := kX.instanceTypes.map defaultValue, vm := .none } = T1 at X₁ st1
  have hcat : (Value.ref T.heap.size).category = 1 := rfl
  have hcellA : T1.heap[T.heap.size]? = some (freshCell cX kX) := by rw [← hT1]; exact State.heap_pushCell_size _ _
  have d3' : decode c.code (pc + 3) = .ok (.dup, 1) := by rw [hb]; exact d3
  have d4' : decode c.code (pc + 4) = .ok (.ldc is, 2) := by rw [hb]; exact d4
  have hstr' : vk_R own is text sa s' := vk_R.warm hW0 hstr
  obtain ⟨U, hsteps, hrun, hend, hW, hsame, ce, hce, hO⟩ := X₁.ctorThrowS hexec htr (own := own) (cls := cls) (names := names) (ic := ic) hown' hcls hnames h (fun x hx => nomatch hx) hfX hkX hcellA (by rw [hhp, hT]; exact Nat.le_refl _) (msg := .ref sa) rfl
    (g := { method := m, pc := pc + 6, locals := ls, stack := .ref sa :: .ref T.heap.size :: .ref T.heap.size :: rest, locked := none }) rfl hsize rfl rfl (rest := rest) rfl
    (by rw [hb]; exact d6) (by rw [hb]; exact d9) hout hRframes (by simp only [List.map_cons, List.sum_cons, hcat]; omega) hlocks
  obtain ⟨f1, f2⟩ := vx_frame hsame
  rw [hhp] at f1 f2
  have hWs : s.WarmedH U.vm := State.WarmedH.trans hW0 hW
  have hcl : s.vm.findClass cls = some ce.cls := by
    have h9 := hO.cls
    rw [hvm] at h9
    exact h9
  have hall : s.sameButNew ({ U with vm := s.vm } : State) locs mc ms := by
    subst hA
    obtain ⟨e1, e2⟩ := hsame
    rw [State.setFrames_setFrames] at e1
    have h2 : (T.setVm s.vm).sameButNew ({ U with vm := s.vm } : State) [] (0 + 1) (0 + 6) := ⟨e1, e2⟩
    have h3 := X.same.trans h2
    rw [List.append_nil] at h3
    exact h3.mono hc hs
  refine ⟨U, ?_, .threw T.heap.size, hrun, hend, Or.inr ⟨T.heap.size, rfl, cls, ce, locs, hx U hWs.alike f1 (fun q hq => f2 q hq (fun z hz => nomatch hz)), hce, hO.vm, hcl, hWs, hall, hf⟩⟩
  refine st1 _ ?_
  show Steps p.tables e below (T1.setTop { method := m, pc := pc + 3, locals := ls, stack := .ref T.heap.size :: rest, locked := none }) _
  jvm_step X₁.here [X₁.here.top, hexec, d3', Value.category]
  exact X₁.ldcString hexec (own := own) (text := text) (index := is) (a := sa) hown' hstr'.1 hstr'.2
    (g := { method := m, pc := pc + 4, locals := ls, stack := .ref T.heap.size :: .ref T.heap.size :: rest, locked := none }) rfl d4' _ hsteps
/-- 'throw new E("text")', the text by a wide index -/
theorem vx_throwSW {cc : ByteArray} {pc : Nat} (hexec : p.tables.exec = Jvm.exec) (hb : c.code = cc) (hl : l.stackTraces = false) {own cls text : String} {names : List String} {ik is ic mc ms sa : Nat} {A : Nat → Prop}
    (hown : s.vm.findClass own = some m.cls) (hcls : Bundle.fit cls = true) (hnames : ∀ n ∈ names, Bundle.fit n = true)
    (hk : (Cond.classLink own ik cls).before args s = true) (hini : (Cond.initialized cls).before args s = true) (hstr : vk_R own is text sa s) (hat : ∀ w ∈ vx_atS own ic cls names, w.before args s = true)
    (hgood : ∀ w ∈ Cond.classLink own ik cls :: Cond.initialized cls :: vx_atS own ic cls names, vx_ot w = true)
    (hU : vx_Zq Bundle.tN "UNASSIGNED_STACK" Bundle.steD A s s.heap) (hN : vx_Zq Bundle.tN "SUPPRESSED_SENTINEL" Bundle.listD A s s.heap) (hS : va_S A s.heap H locs) (hsize : ls.size = c.maxLocals)
    (d0 : decode cc pc = .ok (.new ik, 3)) (d3 : decode cc (pc + 3) = .ok (.dup, 1)) (d4 : decode cc (pc + 4) = .ok (.ldc_w is, 3)) (d7 : decode cc (pc + 7) = .ok (.invokespecial ic, 3)) (d10 : decode cc (pc + 10) = .ok (.athrow, 1))
    (hout : ∀ x ∈ c.exceptionTable.toList, covers x (pc + 10) = false)
    (hRframes : names.length + 3 < R.frames) (hRlocals : (rest.map fun v => v.category).sum + (13 * (names.length + 1) + 43) ≤ R.locals) (hRcells : cells + 1 ≤ R.cells) (hRslots : slots + 6 ≤ R.slots) (hlocks : meth.locks = false)
    (hx : ∀ t : State, s.vm.Alike t.vm → H.size ≤ t.heap.size → (∀ q : Nat, q < H.size → t.heap[q]? = H[q]?) → XC cls s t)
    (hf : ∀ z ∈ locs, free z.base) (hc : cells + 1 ≤ mc) (hs : slots + 6 ≤ ms) :
    W p l e R s m args below meth c H locs cells slots (vx_MQ below Qc XC args s mc ms free) (F0 m pc ls rest) := by
  intro T hT X
  have htr : e.platform.stackTraces = false := (show e.platform.stackTraces = l.stackTraces by rw [X.admits.platform]).trans hl
  have Y := vx_rebase X (R' := { frames := R.frames, locals := R.locals, cells := 1, slots := 6 }) (Nat.le_refl _) (Nat.le_refl _) hRcells hRslots
  obtain ⟨s', hA⟩ : ∃ z, z = (T.setVm s.vm).setFrames (.invoking m args :: below) := ⟨_, rfl⟩
  rw [← hA] at Y
  have hvm : s'.vm = s.vm := by rw [hA]; rfl
  have hhp : s'.heap = H := by rw [hA]; exact hT
  have hW0 : s.WarmedH s'.vm := by rw [hvm]; exact State.WarmedH.refl s
  have hat' : ∀ w ∈ vx_atS own ic cls names, w.before args s' = true := fun w hw => vx_ot_at hW0 hvm.symm (hgood w (List.mem_cons_of_mem _ (List.mem_cons_of_mem _ hw))) (hat w hw)
  have hk' : (Cond.classLink own ik cls).before args s' = true := vx_ot_at hW0 hvm.symm (hgood _ List.mem_cons_self) hk
  have hini' : (Cond.initialized cls).before args s' = true := vx_ot_at hW0 hvm.symm (hgood _ (List.mem_cons_of_mem _ List.mem_cons_self)) hini
  have hU' : vx_Zq Bundle.tN "UNASSIGNED_STACK" Bundle.steD A s' s'.heap := by rw [hhp]; exact vx_Zq.moved hW0.alike (hU.kept hS.2.1)
  have hN' : vx_Zq Bundle.tN "SUPPRESSED_SENTINEL" Bundle.listD A s' s'.heap := by rw [hhp]; exact vx_Zq.moved hW0.alike (hN.kept hS.2.1)
  have h : ∀ w ∈ Bundle.ownAtoms own ic cls names, w.before args s' = true := vx_own hat' (vx_isRefq hU'.1) (vx_isRefq hN'.1) hU'.2.word hN'.2.word
  have hown' : s'.vm.findClass own = some m.cls := by rw [hvm]; exact hown
  have hins : (Cond.instantiable cls 6).before args s' = true := h _ (by simp [Bundle.ownAtoms])
  obtain ⟨vm₁, cX, kX, hfX, hkX, -, -, X₁, st1⟩ := Y.newCold hexec (own := own) (C := cls) (index := ik) (n := 6) hown' hk' hins hini'
    (g := F0 m pc ls rest) rfl (by rw [hb]; exact d0) (Nat.le_refl _) (Nat.le_refl _)
  generalize hT1 : (T.setVm vm₁).pushCell { cls := cX, slots := kX.instanceTypes.map defaultValue, vm := .none } = T1 at X₁ st1
  have hcat : (Value.ref T.heap.size).category = 1 := rfl
  have hcellA : T1.heap[T.heap.size]? = some (freshCell cX kX) := by rw [← hT1]; exact State.heap_pushCell_size _ _
  have d3' : decode c.code (pc + 3) = .ok (.dup, 1) := by rw [hb]; exact d3
  have d4' : decode c.code (pc + 4) = .ok (.ldc_w is, 3) := by rw [hb]; exact d4
  have hstr' : vk_R own is text sa s' := vk_R.warm hW0 hstr
  obtain ⟨U, hsteps, hrun, hend, hW, hsame, ce, hce, hO⟩ := X₁.ctorThrowS hexec htr (own := own) (cls := cls) (names := names) (ic := ic) hown' hcls hnames h (fun x hx => nomatch hx) hfX hkX hcellA (by rw [hhp, hT]; exact Nat.le_refl _) (msg := .ref sa) rfl
    (g := { method := m, pc := pc + 7, locals := ls, stack := .ref sa :: .ref T.heap.size :: .ref T.heap.size :: rest, locked := none }) rfl hsize rfl rfl (rest := rest) rfl
    (by rw [hb]; exact d7) (by rw [hb]; exact d10) hout hRframes (by simp only [List.map_cons, List.sum_cons, hcat]; omega) hlocks
  obtain ⟨f1, f2⟩ := vx_frame hsame
  rw [hhp] at f1 f2
  have hWs : s.WarmedH U.vm := State.WarmedH.trans hW0 hW
  have hcl : s.vm.findClass cls = some ce.cls := by
    have h9 := hO.cls
    rw [hvm] at h9
    exact h9
  have hall : s.sameButNew ({ U with vm := s.vm } : State) locs mc ms := by
    subst hA
    obtain ⟨e1, e2⟩ := hsame
    rw [State.setFrames_setFrames] at e1
    have h2 : (T.setVm s.vm).sameButNew ({ U with vm := s.vm } : State) [] (0 + 1) (0 + 6) := ⟨e1, e2⟩
    have h3 := X.same.trans h2
    rw [List.append_nil] at h3
    exact h3.mono hc hs
  refine ⟨U, ?_, .threw T.heap.size, hrun, hend, Or.inr ⟨T.heap.size, rfl, cls, ce, locs, hx U hWs.alike f1 (fun q hq => f2 q hq (fun z hz => nomatch hz)), hce, hO.vm, hcl, hWs, hall, hf⟩⟩
  refine st1 _ ?_
  show Steps p.tables e below (T1.setTop { method := m, pc := pc + 3, locals := ls, stack := .ref T.heap.size :: rest, locked := none }) _
  jvm_step X₁.here [X₁.here.top, hexec, d3', Value.category]
  exact X₁.ldcStringW hexec (own := own) (text := text) (index := is) (a := sa) hown' hstr'.1 hstr'.2
    (g := { method := m, pc := pc + 4, locals := ls, stack := .ref T.heap.size :: .ref T.heap.size :: rest, locked := none }) rfl d4' _ hsteps
end Ends
section Bodies
variable {l : Launch}
theorem vx_ofW {y : MethodName} {ws ws' : List Cond} {rm : Room} {Pc : Array Value → State → Prop} {Qc : Array Value → State → Outcome → State → Prop} {XC : String → State → State → Prop} {mc ms : Nat} {free : Addr → Prop} {cc : ByteArray} {maxL : Nat} {ret : Option FieldType}
    (hy : plainName y.cls = true) (hw : ws = Cond.code y cc maxL ret :: ws')
    (body : ∀ p e s m args below meth c s₁, BodyLoose p l y (headSpec ws rm) cc maxL ret e s m args below meth c s₁ → c.maxLocals = maxL → (∀ x ∈ c.exceptionTable.toList, False) → Pc args s →
      W p l e (headSpec ws rm).room s m args below meth c s.heap [] 0 0 (vx_MQ below Qc XC args s mc ms free) (entryFrame m args maxL)) : vx_Met l y ws rm Pc Qc XC mc ms free := by
  refine MetFree.of_bodyS (code := cc) (maxLocals := maxL) (ret := ret) hy ?_ ?_
  · intro args s m h hn
    obtain ⟨meth, c, h1, h2, h3, h4, h5, h6, -, -⟩ := Cond.code_spec hn (atoms_spec (ws := ws) h _ (by rw [hw]; exact List.mem_cons_self))
    exact ⟨meth, c, h1, h2, h3, h4, h5, h6⟩
  · intro p e s m args below meth c s₁ B hml hP _
    have hh0 : s₁.heap = s.heap := by rw [B.state]; rfl
    have ht : ∀ x ∈ c.exceptionTable.toList, False := by
      obtain ⟨meth9, c9, h1, h2, -, -, -, -, h7, -⟩ := Cond.code_spec B.named (atoms_spec (ws := ws) B.pre _ (by rw [hw]; exact List.mem_cons_self))
      cases Option.some.inj (h1.symm.trans B.method)
      cases Option.some.inj (h2.symm.trans (Stand.of_body B).code)
      intro x hx
      rw [Array.isEmpty_iff.mp h7] at hx
      cases hx
    obtain ⟨t, a1, o, b1, b2, b3⟩ := body p e s m args below meth c s₁ B hml ht hP s₁ hh0 (Stand.of_body B)
    exact ⟨t, o, a1, b1, b2, b3⟩
/-- the table of a body with handlers -/
theorem vx_table {p : Program} {x y : MethodName} {S : Spec} {cc bytes : ByteArray} {maxL maxL' : Nat} {ret ret' : Option FieldType} {e : Env} {s s₁ : State} {m : MethodId} {args : Array Value} {below : List Frame} {meth : Method} {c : Code} {hh : List (Nat × Nat × Nat × Nat)}
    (B : BodyLoose p l y S cc maxL ret e s m args below meth c s₁) (h : (Cond.codeWith y bytes maxL' ret' hh).before args s = true) : c.exceptionTable.toList = tableOf hh := by
  obtain ⟨m9, meth9, c9, hn9, h1, h2, -, -, h6, -⟩ := Cond.codeWith_spec h
  cases Option.some.inj (hn9.symm.trans B.named)
  cases Option.some.inj (h1.symm.trans B.method)
  cases Option.some.inj (h2.symm.trans (Stand.of_body B).code)
  rw [← h6, table_eq]
end Bodies
end VXA
/-! ===== END ===== -/
/-! ===== BEGIN a static call of a method with an exception table ===== -/
section VXS
variable {p : Program} {l : Launch} {e : Env} {R : Room} {s : State} {m : MethodId} {args : Array Value} {below : List Frame} {meth : Method} {c : Code} {T : State} {H : Heap} {locs : List Loc} {cells slots : Nat}
abbrev vx_CSW (R : Room) (s : State) (args : Array Value) (own : String) (index : Nat) (y : MethodName) (bytes : ByteArray) (maxL : Nat) (ret : Option FieldType) (hh : List (Nat × Nat × Nat × Nat)) (ws : List Cond) (rm : Room) (mc ms n : Nat) : Prop :=
  (rm.cells = mc ∧ rm.slots = ms ∧ rm.frames + 1 ≤ R.frames ∧ 8 + (maxL + 11) + rm.locals ≤ R.locals ∧ (∀ w ∈ ws, ∀ (a' : Array Value) (U : State), s.WarmedH U.vm → w.before a' U = true) ∧ Cond.codeWith y bytes maxL ret hh ∈ ws) ∧
  (Cond.codeWith y bytes maxL ret hh).before args s = true ∧ (Cond.initialized y.cls).before args s = true ∧ (y.cls ≠ "java/lang/invoke/MethodHandle" ∧ y.cls ≠ "java/lang/invoke/VarHandle") ∧
  (∀ sig, parseMethodDescriptor y.desc = some sig → n = sig.parameters.length) ∧ (Cond.methodLink own index y).before args s = true ∧ (Cond.static y).before args s = true
theorem vx_cwSW {own : String} {index maxL mc ms : Nat} {y : MethodName} {bytes : ByteArray} {ret : Option FieldType} {hh : List (Nat × Nat × Nat × Nat)} {Ts ws ws' : List Cond} {rm : Room} (n : Nat) (ht : ∀ w ∈ Ts, w.before args s = true) (hT : GoodIn Ts (va_wsS own index y ws)) (hw : ws = Cond.codeWith y bytes maxL ret hh :: ws') (hrc : rm.cells = mc) (hrs : rm.slots = ms)
    (hd : y.cls ≠ "java/lang/invoke/MethodHandle" ∧ y.cls ≠ "java/lang/invoke/VarHandle" ∧ (parseMethodDescriptor y.desc).map (fun d => d.parameters.length) = some n) (hR : rm.frames + 1 ≤ R.frames ∧ 8 + (maxL + 11) + rm.locals ≤ R.locals) :
    vx_CSW R s args own index y bytes maxL ret hh ws rm mc ms n := by
  have ok : ∀ w ∈ va_wsS own index y ws, w.before args s = true := fun w h => ht w (hT w h).1
  have hG : GoodIn Ts ws := fun w h => hT w (by unfold va_wsS; exact List.mem_append_right _ h)
  have hc : Cond.codeWith y bytes maxL ret hh ∈ ws := by rw [hw]; exact List.mem_cons_self
  refine ⟨⟨hrc, hrs, hR.1, hR.2, pay_in ht hG, hc⟩, ht _ (hG _ hc).1, ok _ (by simp [va_wsS]), ⟨hd.1, hd.2.1⟩, fun sig h => ?_, ok _ (by simp [va_wsS]), ok _ (by simp [va_wsS])⟩
  have h2 := hd.2.2
  rw [h] at h2
  exact (Option.some.inj h2).symm
theorem vx_callSW (X : Stand p l e R s m args below meth c T locs cells slots) (hexec : p.tables.exec = Jvm.exec) {own : String} {index : Nat} {y : MethodName} {bytes : ByteArray} {maxL : Nat} {ret : Option FieldType} {hh : List (Nat × Nat × Nat × Nat)}
    (hown : s.vm.findClass own = some m.cls) (hlink : (Cond.methodLink own index y).before args s = true) (hstat : (Cond.static y).before args s = true) (hinit : (Cond.initialized y.cls).before args s = true)
    (hcode : (Cond.codeWith y bytes maxL ret hh).before args s = true) (hy : y.cls ≠ "java/lang/invoke/MethodHandle" ∧ y.cls ≠ "java/lang/invoke/VarHandle")
    {W9 : Nat} {Pre : Pt → Array Value → Prop} {Post : Pt → Array Value → Option Value → Pt → Prop} (hK : Back l R p e below s args y 3 W9 Pre Post)
    {g : JFrame} (hg : g.method = m) (hsize : g.locals.size = c.maxLocals) {argsL rest : List Value} (hlen : ∀ sig, parseMethodDescriptor y.desc = some sig → argsL.length = sig.parameters.length)
    (hstack : g.stack = argsL.reverse ++ rest) (hW : 2 * g.monitorRoom + (rest.map fun v => v.category).sum ≤ W9) (hdg : decode c.code g.pc = .ok (.invokestatic index, 3))
    (hpre : ∀ vm₁, s.WarmedH vm₁ → Pre ⟨T.setVm vm₁, locs, cells, slots⟩ argsL.toArray) :
    ∃ (v : Option Value) (vm₁ : Vm) (B : Pt), s.WarmedH vm₁ ∧ Stand p l e R s m args below meth c B.U B.locs B.cells B.slots ∧ Post ⟨T.setVm vm₁, locs, cells, slots⟩ argsL.toArray v B ∧
      ∀ target, Steps p.tables e below (B.U.setTop { g with pc := g.pc + 3, stack := v.toList ++ rest }) target → Steps p.tables e below (T.setTop g) target := by
  obtain ⟨mk, methM, cM, hnamed, hmethM, -, -, -, -, -, -, hsigM⟩ := Cond.codeWith_spec hcode
  have hstatic : methM.isStatic = true := Cond.static_spec hnamed hmethM hstat
  obtain ⟨kP, hkP, -⟩ := className_of_methodNamed hnamed
  have hinitP : kP.init = .initialized := Cond.initialized_spec (findClass_of_methodNamed hnamed) hkP hinit
  obtain ⟨vm₁, X₁, hstep₁⟩ := X.invokestatic hexec hown hlink hnamed hmethM hstatic hkP hinitP hy (g := g) hg (argsL := argsL) (rest := rest) (hlen _ hsigM) hstack hdg
  obtain ⟨v, B, X', hpost, hsteps⟩ := hK m meth c ⟨T.setVm vm₁, locs, cells, slots⟩ { g with stack := rest } (.invokestatic index) mk argsL.toArray X₁ hg hsize hdg hW (X₁.named hnamed) (hpre vm₁ X₁.warmed)
  exact ⟨v, vm₁, B, X₁.warmed, X', hpost, fun target h => hstep₁ _ fun acts => by rw [doInvoke_state]; exact hsteps.trans h⟩
theorem vx_runSW {y : MethodName} {bytes cc : ByteArray} {maxL nL mc ms n index : Nat} {ret : Option FieldType} {hh : List (Nat × Nat × Nat × Nat)} {ws : List Cond} {rm : Room} {Pc : Array Value → State → Prop} {Qc : Array Value → State → Outcome → State → Prop} {free : Addr → Prop} {Ts : List Cond} {own : String} {As rest : List Value} {g : JFrame}
    (S : CallFix p m c cc nL s args Ts own) (hM : Met l y ws rm Pc Qc mc ms free) (cw : vx_CSW R s args own index y bytes maxL ret hh ws rm mc ms n) (hp : PreS s H Pc As)
    (hg : g.method = m) (hn : As.length = n) (hsize : g.locals.size = nL) (hstack : g.stack = As.reverse ++ rest) (hW : 2 * g.monitorRoom + (rest.map fun v => v.category).sum ≤ 8) (hdg : decode cc g.pc = .ok (.invokestatic index, 3)) (hf : cells + mc ≤ R.cells ∧ slots + ms ≤ R.slots) :
    va_Run p l e R s m args below meth c H locs cells slots mc ms g rest (Qc As.toArray) (free) := by
  obtain ⟨⟨hrc, hrs, hfr, hlo, hws, hcw⟩, hcode, hini, hy, hlen, hl, hstt⟩ := cw
  have hK : Back l R p e below s args y 3 8 (PreOf R mc ms Pc) (PostOf Qc mc ms free) := va_backW (hh := hh) (bytes := bytes) (maxL := maxL) (ret := ret) hM hp.1 hrc hrs hfr hlo hws hcw (fun a' U hW => word_at hW (Or.inl (by first | rfl | simp [Cond.onTables, Cond.keeps, Cond.steady])) hini)
  obtain ⟨hx, hb, hml, ho, -⟩ := S
  intro T hT X
  obtain ⟨v, vm₁, ⟨U', l2, c2, s2⟩, hW₁, X', ⟨g', mk, t, L, e1, e2, hq, h1, hL, h2, h3⟩, st⟩ := vx_callSW X hx (hh := hh) (bytes := bytes) (maxL := maxL) (ret := ret) ho hl hstt hini hcode hy hK hg (hsize.trans hml.symm) (argsL := As) (rest := rest) (fun sig h => hn.trans (hlen sig h)) hstack hW (by rw [hb]; exact hdg)
    (fun vm₁ hW₁ => ⟨hf.1, hf.2, hp.2 (T.setVm vm₁) hT hW₁⟩)
  dsimp only [Pt.U, Pt.locs, Pt.cells, Pt.slots] at X' e1 e2 h1 h2 h3 st
  subst h1; subst h2; subst h3
  exact ⟨v, (T.setVm vm₁).calling g' mk As.toArray, t, U', L, hT, X', hL, e1, e2, hq, st⟩
/-- not caught here, past rows that name other classes: it goes on to the caller -/
theorem vx_outP {p : Program} {l : Launch} {e : Env} {R : Room} {s : State} {m : MethodId} {args : Array Value} {below : List Frame} {meth : Method} {c : Code} {H : Heap} {locs : List Loc} {cells slots : Nat} {free : Addr → Prop} {ls : Array Slot} {rest : List Value} {Qc : Array Value → State → Outcome → State → Prop} {XC : String → State → State → Prop}
    {pc : Nat} {own E : String} {ce : Cell} {q : Addr} {mc ms : Nat} (hown : s.vm.findClass own = some m.cls) (hlocks : meth.locks = false)
    (hpass : ∀ z ∈ c.exceptionTable.toList, covers z pc = false ∨ (z.catchType ≠ 0 ∧ ∃ nm : String, (Cond.classLink own z.catchType nm).before args s = true ∧ va_Nc E nm s)) (hcell : H[q]? = some ce) (hv : ce.vm = .none) (hcl : s.vm.findClass E = some ce.cls)
    (hx : ∀ t : State, t.heap = H → s.vm.Alike t.vm → XC E s t) (hf : ∀ z ∈ locs, free z.base) (hc : cells ≤ mc) (hs : slots ≤ ms) :
    vx_W p l e R s m args below meth c H locs cells slots (vx_MQ below Qc XC args s mc ms free) (F0 m pc ls rest) q := by
  intro T hT X
  have hpl : e.platform.magicAccessors = ({} : Platform).magicAccessors := by rw [X.admits.platform]
  obtain ⟨vm', hW', X', st⟩ := X.outThrough hlocks q (g := F0 m pc ls rest) rfl rfl rfl (cell := ce) (by rw [hT]; exact hcell) (by rw [hv]; rfl)
    (by obtain ⟨k9, h9, -⟩ := Vm.findClass_spec hcl; exact ⟨k9, h9⟩) (fun z hz => by
      rcases hpass z hz with h | ⟨hz0, nm, hl1, hn1⟩
      · exact Or.inl h
      · obtain ⟨c6, hc6, hcl6⟩ := Cond.classLink_spec hown hl1 e.platform hpl
        obtain ⟨a8, b8, h1, h2, h3⟩ := hn1
        cases Option.some.inj (h1.symm.trans hcl)
        cases Option.some.inj (h2.symm.trans hc6)
        exact Or.inr ⟨hz0, _, hcl6, h3⟩)
  obtain ⟨g₀, hfr⟩ := X'.frames_eq
  have hcell9 : ((T.setVm vm').setFrames (.throwing q :: below)).heap[q]? = some ce := by
    show T.heap[q]? = some ce
    rw [hT]; exact hcell
  have hend : Ended ((T.setVm vm').setFrames (.throwing q :: below)) below (.threw q) := State.frames_setFrames _ (State.cur_lt_of_frames hfr)
  refine ⟨(T.setVm vm').setFrames (.throwing q :: below), ?_, .threw q, X'.here.running, hend, Or.inr ⟨q, rfl, E, ce, locs, hx _ hT (X'.ends _).1.alike, hcell9, hv, hcl, (X'.ends _).1, (X'.ends _).2.mono hc hs, hf⟩⟩
  rw [X.pushThrowing_eq]
  exact st
/-- a thing of a world lies in the heap -/
theorem vx_lt {D : va_G} {cl : List vw_C} {ws : va_W} {H1 : Heap} (h : va_P D cl ws H1) {k : Nat} {q : Nat × va_E} (hk : ws[k]? = some q) : q.1 < H1.size := (h k q hk).lt
end VXS
/-! ===== END ===== -/
/-! ===== BEGIN methods with a table of their own: called by a name, returning or throwing ===== -/
section VXH
/-! vx_backW, vx_callVX, vx_callSX, vx_callVW, vx_runVW, vx_runVX, vx_runSX, vx_ofWH follow the same proofs as their sisters above (Free/Laws.lean, Shelf42/LK1.lean); vx_outP calls Shelf42/NT130.lean (outThrough). -/
section
variable {l : Launch} {R : Room} {p : Program} {e : Env} {below : List Frame} {s : State} {sargs : Array Value} {y : MethodName} {len W9 : Nat}
theorem vx_backW {ws : List Cond} {rm : Room} {Pc : Array Value → State → Prop} {Qc : Array Value → State → Outcome → State → Prop} {XC : String → State → State → Prop} {mc ms : Nat} {free : Addr → Prop} {bytes : ByteArray} {maxL : Nat} {ret : Option FieldType} {hh : List (Nat × Nat × Nat × Nat)}
    (hM : vx_Met l y ws rm Pc Qc XC mc ms free) (hblind : FrameBlind Pc) (hrc : rm.cells = mc) (hrs : rm.slots = ms)
    (hframes : rm.frames + 1 ≤ R.frames) (hlocals : W9 + (maxL + 11) + rm.locals ≤ R.locals)
    (hws : ∀ w ∈ ws, ∀ a' U, s.WarmedH U.vm → w.before a' U = true) (hcode : Cond.codeWith y bytes maxL ret hh ∈ ws) (hinit : ∀ a' U, s.WarmedH U.vm → (Cond.initialized y.cls).before a' U = true) :
    vx_Back l R p e below s sargs y len W9 (PreOf R mc ms Pc) (PostOf Qc mc ms free) (vx_Post XC mc ms free) := by
  intro m meth c A g ig mk a X hg hsize hdg hW hn hp
  have h1 : (headSpec ws rm).pre.before a A.U = true := atoms_intro fun w hw => hws w hw _ _ X.warmed
  have h2 : (Cond.codeWith y bytes maxL ret hh).before a A.U = true := hws _ hcode _ _ X.warmed
  have h3 : (Cond.initialized y.cls).before a A.U = true := hinit _ _ X.warmed
  have h4 : A.cells + (headSpec ws rm).room.cells ≤ R.cells := by rw [show (headSpec ws rm).room.cells = mc from hrc]; exact hp.1
  have h5 : A.slots + (headSpec ws rm).room.slots ≤ R.slots := by rw [show (headSpec ws rm).room.slots = ms from hrs]; exact hp.2.1
  have hPc : Pc a (A.U.calling g mk a) := hblind _ _ _ _ hp.2.2
  obtain ⟨U, Ls, c0, s0⟩ := A
  dsimp only [Pt.U, Pt.locs, Pt.cells, Pt.slots] at h1 h2 h3 h4 h5 X hn hPc ⊢
  obtain ⟨m9, methY, cY, hn9, hmY, hcY, -, hlY, -⟩ := Cond.codeWith_spec h2
  cases Option.some.inj (hn9.symm.trans hn)
  obtain ⟨kY, hkY, -⟩ := className_of_methodNamed hn
  have hinitY : kY.init = .initialized := Cond.initialized_spec (findClass_of_methodNamed hn) hkY h3
  have h : At U g.method c below := by rw [hg]; exact X.here
  have hlocals9 : W9 + (maxL + 11) + (headSpec ws rm).room.locals ≤ R.locals := hlocals
  have happ : (headSpec ws rm).appliesLoose y e.platform (U.calling g mk a) = true :=
    Spec.appliesLoose_calling (g := g) h hdg hn hkY hinitY
      (X.room_calling (g := g) (R' := (headSpec ws rm).room) hsize hmY hcY hframes (by rw [hlY]; omega) h4 h5) h1
  obtain ⟨mid, hmid⟩ := h.above
  have hfr : (U.setTop g).frames = (.java g :: mid) ++ below := by rw [State.frames_setTop' g h.top, hmid]; rfl
  obtain ⟨o, s₂, hsteps, -, hend, hq⟩ := Steps.callFree hM p X.admits X.cas X.clock (acts := []) hfr happ hPc trivial
  have hq' : vx_Q Qc XC mc ms free a (U.calling g mk a) o s₂ := hq
  rw [State.frames_setTop' g h.top] at hend
  obtain ⟨g₀, hg0⟩ := Option.isSome_iff_exists.mp h.top
  obtain ⟨r, hr⟩ := State.topJava?_eq_some.mp hg0
  have hr' : (({ U with heap := s₂.heap, slotsUsed := s₂.slotsUsed } : State).setVm s₂.vm).frames = .java g₀ :: r := hr
  rcases hq' with ⟨hqc, L, hfe, hL⟩ | ⟨q, rfl, E, ce, L, hx, hce, hcv, hcl, hW₂, hsm, hL⟩
  · obtain ⟨⟨v, rfl⟩, hW₂, e2, q2, q3, q4, q5, q6⟩ := id hfe
    have e3 : s₂ = ({ (U.calling g mk a).setFrames s₂.frames with heap := s₂.heap, slotsUsed := s₂.slotsUsed } : State).setVm s₂.vm := by
      have : s₂ = ({ s₂ with vm := (U.calling g mk a).vm } : State).setVm s₂.vm := rfl
      rw [e2] at this
      exact this
    obtain ⟨c₂, i₂, len₂, hc₂, hd₂, hf₂⟩ := hend
    have hW' : U.WarmedH s₂.vm := hW₂
    have hcc : c₂ = c := by
      have h1 : s₂.code? g.method = U.code? g.method := by
        rw [State.code?_eq, State.code?_eq, hW'.alike.method?]
      exact Option.some.inj (hc₂.symm.trans (h1.trans h.code))
    subst hcc
    have hlen : len₂ = len := by rw [hdg] at hd₂; cases hd₂; rfl
    subst hlen
    have hs₂ : s₂ = (({ U with heap := s₂.heap, slotsUsed := s₂.slotsUsed } : State).setVm s₂.vm).setTop { g with pc := g.pc + len₂, stack := v.toList ++ g.stack } := by
      refine e3.trans ?_
      rw [hf₂, State.calling_eq h.top, State.setFrames_setFrames, State.setTop_of_frames _ hr', hr]
      rfl
    have hsame : U.sameButNew ({ U with heap := s₂.heap, slotsUsed := s₂.slotsUsed } : State) L mc ms := by
      refine ⟨?_, q2, q3, q4, q5, q6⟩
      obtain ⟨t, ht, -⟩ := State.frames_cons hr
      show ({ U with heap := s₂.heap, slotsUsed := s₂.slotsUsed } : State) = { U.setFrames U.frames with heap := s₂.heap, slotsUsed := s₂.slotsUsed }
      rw [State.setFrames_self ht]
    subst hg
    refine Or.inl ⟨v, ⟨(({ U with heap := s₂.heap, slotsUsed := s₂.slotsUsed } : State).setVm s₂.vm), Ls ++ L, c0 + mc, s0 + ms⟩,
      ⟨X.admits, X.cas, X.clock, X.frames, X.room, X.hears, X.method, X.code, (X.here.setHeapUsed s₂.heap s₂.slotsUsed).setVm hW'.alike, X.tail, State.WarmedH.trans X.warmed hW', X.limits, X.bytes, X.same.trans (hsame.setVm s.vm)⟩,
      ⟨g, mk, s₂, L, rfl, rfl, hqc, rfl, hL, rfl, rfl⟩, ?_⟩
    show Steps p.tables e below _ ((({ U with heap := s₂.heap, slotsUsed := s₂.slotsUsed } : State).setVm s₂.vm).setTop { g with pc := g.pc + len₂, stack := v.toList ++ g.stack })
    rw [← hs₂]
    exact hsteps
  · obtain ⟨e2, q2, q3, q4, q5, q6⟩ := id hsm
    have e3 : s₂ = ({ (U.calling g mk a).setFrames s₂.frames with heap := s₂.heap, slotsUsed := s₂.slotsUsed } : State).setVm s₂.vm := by
      have : s₂ = ({ s₂ with vm := (U.calling g mk a).vm } : State).setVm s₂.vm := rfl
      rw [e2] at this
      exact this
    have hf₂ : s₂.frames = .throwing q :: .java g :: U.frames.tail := hend
    have hW' : U.WarmedH s₂.vm := hW₂
    have hs₂ : s₂ = ((({ U with heap := s₂.heap, slotsUsed := s₂.slotsUsed } : State).setVm s₂.vm).setTop g).pushFrame (.throwing q) := by
      refine e3.trans ?_
      rw [hf₂, State.calling_eq h.top, State.setFrames_setFrames, State.pushFrame, State.frames_setTop _ hr', State.setTop_of_frames _ hr', State.setFrames_setFrames, hr]
      rfl
    have hsame : U.sameButNew ({ U with heap := s₂.heap, slotsUsed := s₂.slotsUsed } : State) L mc ms := by
      refine ⟨?_, q2, q3, q4, q5, q6⟩
      obtain ⟨t, ht, -⟩ := State.frames_cons hr
      show ({ U with heap := s₂.heap, slotsUsed := s₂.slotsUsed } : State) = { U.setFrames U.frames with heap := s₂.heap, slotsUsed := s₂.slotsUsed }
      rw [State.setFrames_self ht]
    subst hg
    refine Or.inr ⟨q, ⟨(({ U with heap := s₂.heap, slotsUsed := s₂.slotsUsed } : State).setVm s₂.vm), Ls ++ L, c0 + mc, s0 + ms⟩,
      ⟨X.admits, X.cas, X.clock, X.frames, X.room, X.hears, X.method, X.code, (X.here.setHeapUsed s₂.heap s₂.slotsUsed).setVm hW'.alike, X.tail, State.WarmedH.trans X.warmed hW', X.limits, X.bytes, X.same.trans (hsame.setVm s.vm)⟩,
      ⟨g, mk, s₂, L, E, ce, rfl, rfl, hx, hce, hcv, hcl, rfl, hL, rfl, rfl⟩, ?_⟩
    show Steps p.tables e below _ (((({ U with heap := s₂.heap, slotsUsed := s₂.slotsUsed } : State).setVm s₂.vm).setTop g).pushFrame (.throwing q))
    rw [← hs₂]
    exact hsteps
end
variable {p : Program} {l : Launch} {e : Env} {R : Room} {s : State} {m : MethodId} {args : Array Value} {below : List Frame} {meth : Method} {c : Code} {T : State} {H : Heap} {locs : List Loc} {cells slots : Nat}
theorem vx_callVX (X : Stand p l e R s m args below meth c T locs cells slots) (hexec : p.tables.exec = Jvm.exec) {own C : String} {index : Nat} {y : MethodName} {bytes : ByteArray} {maxL : Nat} {ret : Option FieldType} {hh : List (Nat × Nat × Nat × Nat)}
    (hown : s.vm.findClass own = some m.cls) (hlink : (Cond.methodLink own index y).before args s = true) (hinst : (Cond.instanceMethod y).before args s = true) (hsel : (Cond.selects C y y).before args s = true)
    (hcode : (Cond.codeWith y bytes maxL ret hh).before args s = true) (hy : y.cls ≠ "java/lang/invoke/MethodHandle" ∧ y.cls ≠ "java/lang/invoke/VarHandle")
    {W9 : Nat} {Pre : Pt → Array Value → Prop} {Post : Pt → Array Value → Option Value → Pt → Prop} {PostX : Pt → Array Value → Addr → Pt → Prop} (hK : vx_Back l R p e below s args y 3 W9 Pre Post PostX)
    {b : Addr} {cellB : Cell} (hcell : T.heap[b]? = some cellB) (hobj : cellB.vm.isStatics = false) (hcls : s.vm.findClass C = some cellB.cls)
    {g : JFrame} (hg : g.method = m) (hsize : g.locals.size = c.maxLocals) {argsL rest : List Value} (hlen : ∀ sig, parseMethodDescriptor y.desc = some sig → argsL.length = sig.parameters.length)
    (hstack : g.stack = argsL.reverse ++ .ref b :: rest) (hW : 2 * g.monitorRoom + (rest.map fun v => v.category).sum ≤ W9) (hdg : decode c.code g.pc = .ok (.invokevirtual index, 3))
    (hpre : ∀ vm₁, s.WarmedH vm₁ → Pre ⟨T.setVm vm₁, locs, cells, slots⟩ (Value.ref b :: argsL).toArray) :
    (∃ (v : Option Value) (vm₁ : Vm) (B : Pt), s.WarmedH vm₁ ∧ Stand p l e R s m args below meth c B.U B.locs B.cells B.slots ∧ Post ⟨T.setVm vm₁, locs, cells, slots⟩ (Value.ref b :: argsL).toArray v B ∧
      ∀ target, Steps p.tables e below (B.U.setTop { g with pc := g.pc + 3, stack := v.toList ++ rest }) target → Steps p.tables e below (T.setTop g) target) ∨
    (∃ (q : Addr) (vm₁ : Vm) (B : Pt), s.WarmedH vm₁ ∧ Stand p l e R s m args below meth c B.U B.locs B.cells B.slots ∧ PostX ⟨T.setVm vm₁, locs, cells, slots⟩ (Value.ref b :: argsL).toArray q B ∧
      Steps p.tables e below (T.setTop g) ((B.U.setTop { g with stack := rest }).pushFrame (.throwing q))) := by
  obtain ⟨mk, methM, hnamed, hmethM, hstM, habM⟩ := Cond.instanceMethod_spec hinst
  obtain ⟨m8, methM', cM, hn8, hmethM', -, -, -, -, -, -, hsigM⟩ := Cond.codeWith_spec hcode
  cases Option.some.inj (hn8.symm.trans hnamed)
  cases hmethM.symm.trans hmethM'
  obtain ⟨c2, r2, m2, q1, q2, q3, q4, kP, hkP, hkPi⟩ := Cond.selects_spec hsel
  cases hcls.symm.trans q1
  cases (State.methodFound?_of_named hnamed hy).symm.trans q2
  cases hnamed.symm.trans q3
  have hselP : selectMethod e.platform s.vm cellB.cls mk = .method mk := by rw [Launch.admits_selectMethod X.admits]; exact q4
  obtain ⟨vm₁, X₁, hstep₁⟩ := X.invokevirtual hexec hown hlink hnamed hmethM hstM hkP hkPi hy (a := b) (cell := cellB) hcell
    (fun z h => by rw [h] at hobj; cases hobj) hselP hmethM habM hkP hkPi (g := g) hg (argsL := argsL) (rest := rest) (hlen _ hsigM) hstack hdg
  rcases hK m meth c ⟨T.setVm vm₁, locs, cells, slots⟩ { g with stack := rest } (.invokevirtual index) mk (Value.ref b :: argsL).toArray X₁ hg hsize hdg hW (X₁.named hnamed) (hpre vm₁ X₁.warmed) with ⟨v, B, X', hpost, hsteps⟩ | ⟨q, B, X', hpost, hsteps⟩
  · exact Or.inl ⟨v, vm₁, B, X₁.warmed, X', hpost, fun target h => hstep₁ _ fun acts => by rw [doInvoke_state]; exact hsteps.trans h⟩
  · exact Or.inr ⟨q, vm₁, B, X₁.warmed, X', hpost, hstep₁ _ fun acts => by rw [doInvoke_state]; exact hsteps⟩
theorem vx_callSX (X : Stand p l e R s m args below meth c T locs cells slots) (hexec : p.tables.exec = Jvm.exec) {own : String} {index : Nat} {y : MethodName} {bytes : ByteArray} {maxL : Nat} {ret : Option FieldType} {hh : List (Nat × Nat × Nat × Nat)}
    (hown : s.vm.findClass own = some m.cls) (hlink : (Cond.methodLink own index y).before args s = true) (hstat : (Cond.static y).before args s = true) (hinit : (Cond.initialized y.cls).before args s = true)
    (hcode : (Cond.codeWith y bytes maxL ret hh).before args s = true) (hy : y.cls ≠ "java/lang/invoke/MethodHandle" ∧ y.cls ≠ "java/lang/invoke/VarHandle")
    {W9 : Nat} {Pre : Pt → Array Value → Prop} {Post : Pt → Array Value → Option Value → Pt → Prop} {PostX : Pt → Array Value → Addr → Pt → Prop} (hK : vx_Back l R p e below s args y 3 W9 Pre Post PostX)
    {g : JFrame} (hg : g.method = m) (hsize : g.locals.size = c.maxLocals) {argsL rest : List Value} (hlen : ∀ sig, parseMethodDescriptor y.desc = some sig → argsL.length = sig.parameters.length)
    (hstack : g.stack = argsL.reverse ++ rest) (hW : 2 * g.monitorRoom + (rest.map fun v => v.category).sum ≤ W9) (hdg : decode c.code g.pc = .ok (.invokestatic index, 3))
    (hpre : ∀ vm₁, s.WarmedH vm₁ → Pre ⟨T.setVm vm₁, locs, cells, slots⟩ argsL.toArray) :
    (∃ (v : Option Value) (vm₁ : Vm) (B : Pt), s.WarmedH vm₁ ∧ Stand p l e R s m args below meth c B.U B.locs B.cells B.slots ∧ Post ⟨T.setVm vm₁, locs, cells, slots⟩ argsL.toArray v B ∧
      ∀ target, Steps p.tables e below (B.U.setTop { g with pc := g.pc + 3, stack := v.toList ++ rest }) target → Steps p.tables e below (T.setTop g) target) ∨
    (∃ (q : Addr) (vm₁ : Vm) (B : Pt), s.WarmedH vm₁ ∧ Stand p l e R s m args below meth c B.U B.locs B.cells B.slots ∧ PostX ⟨T.setVm vm₁, locs, cells, slots⟩ argsL.toArray q B ∧
      Steps p.tables e below (T.setTop g) ((B.U.setTop { g with stack := rest }).pushFrame (.throwing q))) := by
  obtain ⟨mk, methM, cM, hnamed, hmethM, -, -, -, -, -, -, hsigM⟩ := Cond.codeWith_spec hcode
  have hstatic : methM.isStatic = true := Cond.static_spec hnamed hmethM hstat
  obtain ⟨kP, hkP, -⟩ := className_of_methodNamed hnamed
  have hinitP : kP.init = .initialized := Cond.initialized_spec (findClass_of_methodNamed hnamed) hkP hinit
  obtain ⟨vm₁, X₁, hstep₁⟩ := X.invokestatic hexec hown hlink hnamed hmethM hstatic hkP hinitP hy (g := g) hg (argsL := argsL) (rest := rest) (hlen _ hsigM) hstack hdg
  rcases hK m meth c ⟨T.setVm vm₁, locs, cells, slots⟩ { g with stack := rest } (.invokestatic index) mk argsL.toArray X₁ hg hsize hdg hW (X₁.named hnamed) (hpre vm₁ X₁.warmed) with ⟨v, B, X', hpost, hsteps⟩ | ⟨q, B, X', hpost, hsteps⟩
  · exact Or.inl ⟨v, vm₁, B, X₁.warmed, X', hpost, fun target h => hstep₁ _ fun acts => by rw [doInvoke_state]; exact hsteps.trans h⟩
  · exact Or.inr ⟨q, vm₁, B, X₁.warmed, X', hpost, hstep₁ _ fun acts => by rw [doInvoke_state]; exact hsteps⟩
theorem vx_callVW (X : Stand p l e R s m args below meth c T locs cells slots) (hexec : p.tables.exec = Jvm.exec) {own C : String} {index : Nat} {y : MethodName} {bytes : ByteArray} {maxL : Nat} {ret : Option FieldType} {hh : List (Nat × Nat × Nat × Nat)}
    (hown : s.vm.findClass own = some m.cls) (hlink : (Cond.methodLink own index y).before args s = true) (hinst : (Cond.instanceMethod y).before args s = true) (hsel : (Cond.selects C y y).before args s = true)
    (hcode : (Cond.codeWith y bytes maxL ret hh).before args s = true) (hy : y.cls ≠ "java/lang/invoke/MethodHandle" ∧ y.cls ≠ "java/lang/invoke/VarHandle")
    {W9 : Nat} {Pre : Pt → Array Value → Prop} {Post : Pt → Array Value → Option Value → Pt → Prop} (hK : Back l R p e below s args y 3 W9 Pre Post)
    {b : Addr} {cellB : Cell} (hcell : T.heap[b]? = some cellB) (hobj : cellB.vm.isStatics = false) (hcls : s.vm.findClass C = some cellB.cls)
    {g : JFrame} (hg : g.method = m) (hsize : g.locals.size = c.maxLocals) {argsL rest : List Value} (hlen : ∀ sig, parseMethodDescriptor y.desc = some sig → argsL.length = sig.parameters.length)
    (hstack : g.stack = argsL.reverse ++ .ref b :: rest) (hW : 2 * g.monitorRoom + (rest.map fun v => v.category).sum ≤ W9) (hdg : decode c.code g.pc = .ok (.invokevirtual index, 3))
    (hpre : ∀ vm₁, s.WarmedH vm₁ → Pre ⟨T.setVm vm₁, locs, cells, slots⟩ (Value.ref b :: argsL).toArray) :
    ∃ (v : Option Value) (vm₁ : Vm) (B : Pt), s.WarmedH vm₁ ∧ Stand p l e R s m args below meth c B.U B.locs B.cells B.slots ∧ Post ⟨T.setVm vm₁, locs, cells, slots⟩ (Value.ref b :: argsL).toArray v B ∧
      ∀ target, Steps p.tables e below (B.U.setTop { g with pc := g.pc + 3, stack := v.toList ++ rest }) target → Steps p.tables e below (T.setTop g) target := by
  obtain ⟨mk, methM, hnamed, hmethM, hstM, habM⟩ := Cond.instanceMethod_spec hinst
  obtain ⟨m8, methM', cM, hn8, hmethM', -, -, -, -, -, -, hsigM⟩ := Cond.codeWith_spec hcode
  cases Option.some.inj (hn8.symm.trans hnamed)
  cases hmethM.symm.trans hmethM'
  obtain ⟨c2, r2, m2, q1, q2, q3, q4, kP, hkP, hkPi⟩ := Cond.selects_spec hsel
  cases hcls.symm.trans q1
  cases (State.methodFound?_of_named hnamed hy).symm.trans q2
  cases hnamed.symm.trans q3
  have hselP : selectMethod e.platform s.vm cellB.cls mk = .method mk := by rw [Launch.admits_selectMethod X.admits]; exact q4
  obtain ⟨vm₁, X₁, hstep₁⟩ := X.invokevirtual hexec hown hlink hnamed hmethM hstM hkP hkPi hy (a := b) (cell := cellB) hcell
    (fun z h => by rw [h] at hobj; cases hobj) hselP hmethM habM hkP hkPi (g := g) hg (argsL := argsL) (rest := rest) (hlen _ hsigM) hstack hdg
  obtain ⟨v, B, X', hpost, hsteps⟩ := hK m meth c ⟨T.setVm vm₁, locs, cells, slots⟩ { g with stack := rest } (.invokevirtual index) mk (Value.ref b :: argsL).toArray X₁ hg hsize hdg hW (X₁.named hnamed) (hpre vm₁ X₁.warmed)
  exact ⟨v, vm₁, B, X₁.warmed, X', hpost, fun target h => hstep₁ _ fun acts => by rw [doInvoke_state]; exact hsteps.trans h⟩
abbrev vx_CVW (R : Room) (s : State) (args : Array Value) (own C : String) (index : Nat) (y : MethodName) (bytes : ByteArray) (maxL : Nat) (ret : Option FieldType) (hh : List (Nat × Nat × Nat × Nat)) (ws : List Cond) (rm : Room) (mc ms n : Nat) : Prop :=
  (rm.cells = mc ∧ rm.slots = ms ∧ rm.frames + 1 ≤ R.frames ∧ 8 + (maxL + 11) + rm.locals ≤ R.locals ∧ (∀ w ∈ ws, ∀ (a' : Array Value) (U : State), s.WarmedH U.vm → w.before a' U = true) ∧ Cond.codeWith y bytes maxL ret hh ∈ ws) ∧
  (Cond.codeWith y bytes maxL ret hh).before args s = true ∧ (Cond.initialized y.cls).before args s = true ∧ (y.cls ≠ "java/lang/invoke/MethodHandle" ∧ y.cls ≠ "java/lang/invoke/VarHandle") ∧
  (∀ sig, parseMethodDescriptor y.desc = some sig → n = sig.parameters.length) ∧ (Cond.methodLink own index y).before args s = true ∧ (Cond.instanceMethod y).before args s = true ∧ (Cond.selects C y y).before args s = true
theorem vx_cwVW {own C : String} {index maxL mc ms : Nat} {y : MethodName} {bytes : ByteArray} {ret : Option FieldType} {hh : List (Nat × Nat × Nat × Nat)} {Ts ws ws' : List Cond} {rm : Room} (n : Nat) (ht : ∀ w ∈ Ts, w.before args s = true) (hT : GoodIn Ts (wsV own index C y ws)) (hw : ws = Cond.codeWith y bytes maxL ret hh :: ws') (hrc : rm.cells = mc) (hrs : rm.slots = ms)
    (hd : y.cls = C ∧ y.cls ≠ "java/lang/invoke/MethodHandle" ∧ y.cls ≠ "java/lang/invoke/VarHandle" ∧ (parseMethodDescriptor y.desc).map (fun d => d.parameters.length) = some n) (hR : rm.frames + 1 ≤ R.frames ∧ 8 + (maxL + 11) + rm.locals ≤ R.locals) :
    vx_CVW R s args own C index y bytes maxL ret hh ws rm mc ms n := by
  obtain ⟨hC, hd⟩ := hd
  subst hC
  have ok : ∀ w ∈ wsV own index y.cls y ws, w.before args s = true := fun w h => ht w (hT w h).1
  have hG : GoodIn Ts ws := fun w h => hT w (by unfold wsV; exact List.mem_append_right _ h)
  have hc : Cond.codeWith y bytes maxL ret hh ∈ ws := by rw [hw]; exact List.mem_cons_self
  refine ⟨⟨hrc, hrs, hR.1, hR.2, pay_in ht hG, hc⟩, ht _ (hG _ hc).1, ok _ (by simp [wsV]), ⟨hd.1, hd.2.1⟩, fun sig h => ?_, ok _ (by simp [wsV]), ok _ (by simp [wsV]), ok _ (by simp [wsV])⟩
  have h2 := hd.2.2
  rw [h] at h2
  exact (Option.some.inj h2).symm
theorem vx_runVW {y : MethodName} {bytes cc : ByteArray} {maxL nL mc ms n index : Nat} {ret : Option FieldType} {hh : List (Nat × Nat × Nat × Nat)} {ws : List Cond} {rm : Room} {Pc : Array Value → State → Prop} {Qc : Array Value → State → Outcome → State → Prop} {free : Addr → Prop} {Ts : List Cond} {own C : String} {b : Addr} {As rest : List Value} {g : JFrame}
    (S : CallFix p m c cc nL s args Ts own) (hM : Met l y ws rm Pc Qc mc ms free) (cw : vx_CVW R s args own C index y bytes maxL ret hh ws rm mc ms n) (hp : PreV s H C b Pc As)
    (hg : g.method = m) (hn : As.length = n) (hsize : g.locals.size = nL) (hstack : g.stack = As.reverse ++ .ref b :: rest) (hW : 2 * g.monitorRoom + (rest.map fun v => v.category).sum ≤ 8) (hdg : decode cc g.pc = .ok (.invokevirtual index, 3)) (hf : cells + mc ≤ R.cells ∧ slots + ms ≤ R.slots) :
    va_Run p l e R s m args below meth c H locs cells slots mc ms g rest (Qc (Value.ref b :: As).toArray) free := by
  obtain ⟨⟨hrc, hrs, hfr, hlo, hws, hcw⟩, hcode, hini, hy, hlen, hl, hin, hse⟩ := cw
  have hK : Back l R p e below s args y 3 8 (PreOf R mc ms Pc) (PostOf Qc mc ms free) := va_backW (hh := hh) (bytes := bytes) (maxL := maxL) (ret := ret) hM hp.1 hrc hrs hfr hlo hws hcw (fun a' U hW => word_at hW (Or.inl (by first | rfl | simp [Cond.onTables, Cond.keeps, Cond.steady])) hini)
  obtain ⟨hx, hb, hml, ho, -⟩ := S
  obtain ⟨-, ⟨cellB, hcB, hoB, hclB⟩, hPc⟩ := hp
  intro T hT X
  obtain ⟨v, vm₁, ⟨U', l2, c2, s2⟩, hW₁, X', ⟨g', mk, t, L, e1, e2, hq, h1, hL, h2, h3⟩, st⟩ := vx_callVW X hx (C := C) (hh := hh) (bytes := bytes) (maxL := maxL) (ret := ret) ho hl hin hse hcode hy hK (by rw [hT]; exact hcB) hoB hclB hg (hsize.trans hml.symm) (argsL := As) (rest := rest) (fun sig h => hn.trans (hlen sig h)) hstack hW (by rw [hb]; exact hdg)
    (fun vm₁ hW₁ => ⟨hf.1, hf.2, hPc (T.setVm vm₁) hT hW₁⟩)
  dsimp only [Pt.U, Pt.locs, Pt.cells, Pt.slots] at X' e1 e2 h1 h2 h3 st
  subst h1; subst h2; subst h3
  exact ⟨v, (T.setVm vm₁).calling g' mk (Value.ref b :: As).toArray, t, U', L, hT, X', hL, e1, e2, hq, st⟩
section
variable {y : MethodName} {bytes cc : ByteArray} {maxL nL mc ms n index : Nat} {ret : Option FieldType} {ws : List Cond} {rm : Room} {Pc : Array Value → State → Prop} {Qc : Array Value → State → Outcome → State → Prop} {XC : String → State → State → Prop} {free : Addr → Prop} {Ts : List Cond} {own C : String} {b : Addr} {As rest : List Value} {g : JFrame}
theorem vx_runVX {hh : List (Nat × Nat × Nat × Nat)} (S : CallFix p m c cc nL s args Ts own) (hM : vx_Met l y ws rm Pc Qc XC mc ms free) (cw : vx_CVW R s args own C index y bytes maxL ret hh ws rm mc ms n) (hp : PreV s H C b Pc As)
    (hg : g.method = m) (hn : As.length = n) (hsize : g.locals.size = nL) (hstack : g.stack = As.reverse ++ .ref b :: rest) (hW : 2 * g.monitorRoom + (rest.map fun v => v.category).sum ≤ 8) (hdg : decode cc g.pc = .ok (.invokevirtual index, 3)) (hf : cells + mc ≤ R.cells ∧ slots + ms ≤ R.slots) :
    vx_Run p l e R s m args below meth c H locs cells slots mc ms g rest (Qc (Value.ref b :: As).toArray) XC free := by
  obtain ⟨⟨hrc, hrs, hfr, hlo, hws, hcw⟩, hcode, hini, hy, hlen, hl, hin, hse⟩ := cw
  have hK : vx_Back l R p e below s args y 3 8 (PreOf R mc ms Pc) (PostOf Qc mc ms free) (vx_Post XC mc ms free) := vx_backW (hh := hh) (bytes := bytes) (maxL := maxL) (ret := ret) hM hp.1 hrc hrs hfr hlo hws hcw (fun a' U hW => word_at hW (Or.inl (by first | rfl | simp [Cond.onTables, Cond.keeps, Cond.steady])) hini)
  obtain ⟨hx, hb, hml, ho, -⟩ := S
  obtain ⟨-, ⟨cellB, hcB, hoB, hclB⟩, hPc⟩ := hp
  intro T hT X
  rcases vx_callVX X hx (C := C) (hh := hh) (bytes := bytes) (maxL := maxL) (ret := ret) ho hl hin hse hcode hy hK (by rw [hT]; exact hcB) hoB hclB hg (hsize.trans hml.symm) (argsL := As) (rest := rest) (fun sig h => hn.trans (hlen sig h)) hstack hW (by rw [hb]; exact hdg)
    (fun vm₁ hW₁ => ⟨hf.1, hf.2, hPc (T.setVm vm₁) hT hW₁⟩) with ⟨v, vm₁, ⟨U', l2, c2, s2⟩, hW₁, X', ⟨g', mk, t, L, e1, e2, hq, h1, hL, h2, h3⟩, st⟩ | ⟨q, vm₁, ⟨U', l2, c2, s2⟩, hW₁, X', ⟨g', mk, t, L, E, ce, e1, e2, hq, hce, hcv, hcl, h1, hL, h2, h3⟩, st⟩
  · dsimp only [Pt.U, Pt.locs, Pt.cells, Pt.slots] at X' e1 e2 h1 h2 h3 st
    subst h1; subst h2; subst h3
    exact Or.inl ⟨v, (T.setVm vm₁).calling g' mk (Value.ref b :: As).toArray, t, U', L, hT, X', hL, e1, e2, hq, st⟩
  · dsimp only [Pt.U, Pt.locs, Pt.cells, Pt.slots] at X' e1 e2 h1 h2 h3 st hcl
    subst h1; subst h2; subst h3
    exact Or.inr ⟨q, (T.setVm vm₁).calling g' mk (Value.ref b :: As).toArray, t, U', L, E, ce, hT, X', hL, e1, e2, hq, hce, hcv, vx_cls hW₁ hcl, st⟩
theorem vx_runSX {hh : List (Nat × Nat × Nat × Nat)} (S : CallFix p m c cc nL s args Ts own) (hM : vx_Met l y ws rm Pc Qc XC mc ms free) (cw : vx_CSW R s args own index y bytes maxL ret hh ws rm mc ms n) (hp : PreS s H Pc As)
    (hg : g.method = m) (hn : As.length = n) (hsize : g.locals.size = nL) (hstack : g.stack = As.reverse ++ rest) (hW : 2 * g.monitorRoom + (rest.map fun v => v.category).sum ≤ 8) (hdg : decode cc g.pc = .ok (.invokestatic index, 3)) (hf : cells + mc ≤ R.cells ∧ slots + ms ≤ R.slots) :
    vx_Run p l e R s m args below meth c H locs cells slots mc ms g rest (Qc As.toArray) XC free := by
  obtain ⟨⟨hrc, hrs, hfr, hlo, hws, hcw⟩, hcode, hini, hy, hlen, hl, hstt⟩ := cw
  have hK : vx_Back l R p e below s args y 3 8 (PreOf R mc ms Pc) (PostOf Qc mc ms free) (vx_Post XC mc ms free) := vx_backW (hh := hh) (bytes := bytes) (maxL := maxL) (ret := ret) hM hp.1 hrc hrs hfr hlo hws hcw (fun a' U hW => word_at hW (Or.inl (by first | rfl | simp [Cond.onTables, Cond.keeps, Cond.steady])) hini)
  obtain ⟨hx, hb, hml, ho, -⟩ := S
  intro T hT X
  rcases vx_callSX X hx (hh := hh) (bytes := bytes) (maxL := maxL) (ret := ret) ho hl hstt hini hcode hy hK hg (hsize.trans hml.symm) (argsL := As) (rest := rest) (fun sig h => hn.trans (hlen sig h)) hstack hW (by rw [hb]; exact hdg)
    (fun vm₁ hW₁ => ⟨hf.1, hf.2, hp.2 (T.setVm vm₁) hT hW₁⟩) with ⟨v, vm₁, ⟨U', l2, c2, s2⟩, hW₁, X', ⟨g', mk, t, L, e1, e2, hq, h1, hL, h2, h3⟩, st⟩ | ⟨q, vm₁, ⟨U', l2, c2, s2⟩, hW₁, X', ⟨g', mk, t, L, E, ce, e1, e2, hq, hce, hcv, hcl, h1, hL, h2, h3⟩, st⟩
  · dsimp only [Pt.U, Pt.locs, Pt.cells, Pt.slots] at X' e1 e2 h1 h2 h3 st
    subst h1; subst h2; subst h3
    exact Or.inl ⟨v, (T.setVm vm₁).calling g' mk As.toArray, t, U', L, hT, X', hL, e1, e2, hq, st⟩
  · dsimp only [Pt.U, Pt.locs, Pt.cells, Pt.slots] at X' e1 e2 h1 h2 h3 st hcl
    subst h1; subst h2; subst h3
    exact Or.inr ⟨q, (T.setVm vm₁).calling g' mk As.toArray, t, U', L, E, ce, hT, X', hL, e1, e2, hq, hce, hcv, vx_cls hW₁ hcl, st⟩
end
end VXH
theorem vx_ofWH {l : Launch} {y : MethodName} {ws ws' : List Cond} {rm : Room} {Pc : Array Value → State → Prop} {Qc : Array Value → State → Outcome → State → Prop} {XC : String → State → State → Prop} {mc ms : Nat} {free : Addr → Prop} {cc : ByteArray} {maxL : Nat} {ret : Option FieldType} {hh : List (Nat × Nat × Nat × Nat)}
    (hy : plainName y.cls = true) (hw : ws = Cond.codeWith y cc maxL ret hh :: ws')
    (body : ∀ p e s m args below meth c s₁, BodyLoose p l y (headSpec ws rm) cc maxL ret e s m args below meth c s₁ → c.maxLocals = maxL → Pc args s →
      W p l e (headSpec ws rm).room s m args below meth c s.heap [] 0 0 (vx_MQ below Qc XC args s mc ms free) (entryFrame m args maxL)) : vx_Met l y ws rm Pc Qc XC mc ms free := by
  refine MetFree.of_bodyS (code := cc) (maxLocals := maxL) (ret := ret) hy ?_ ?_
  · intro args s m h hn
    obtain ⟨m9, meth, c, hn9, h1, h2, h3, h4, -, h5, h6, -⟩ := Cond.codeWith_spec (atoms_spec (ws := ws) h _ (by rw [hw]; exact List.mem_cons_self))
    cases hn.symm.trans hn9
    exact ⟨meth, c, h1, h2, h3, h4, h5, h6⟩
  · intro p e s m args below meth c s₁ B hml hP _
    have hh0 : s₁.heap = s.heap := by rw [B.state]; rfl
    obtain ⟨t, a1, o, b1, b2, b3⟩ := body p e s m args below meth c s₁ B hml hP s₁ hh0 (Stand.of_body B)
    exact ⟨t, o, a1, b1, b2, b3⟩
/-! ===== END ===== -/

/-! ===== BEGIN what the machine throws by itself, no traces kept ===== -/
section VXM
set_option maxHeartbeats 1000000 in
/-- the machine throws cls with the message text, no traces kept: from its note over the frame g to 'throwing' over the same frame (follows the proofs of Stand.vmThrowsMessage, Shelf/KitTracedVmS.lean, and Stand.throwsMessageColdBareV, StandMessageColdV.lean, without the step out of the frame) -/
theorem vx_vmAt {p : Program} {l : Launch} {e : Env} {R : Room} {s : State} {m₀ : MethodId} {args : Array Value} {below : List Frame} {meth : Method} {c : Code} {W : State} {locs : List Loc} {cells slots : Nat}
    (X : Stand p l e R s m₀ args below meth c W locs cells slots) (hexec : p.tables.exec = Jvm.exec) (htr : e.platform.stackTraces = false) {cls : String} {names : List String} {text : String}
    (hcls : Bundle.fit cls = true) (hnames : ∀ n ∈ names, Bundle.fit n = true) (hsoe : (cls == "java/lang/StackOverflowError") = false) (hoom : (cls == "java/lang/OutOfMemoryError") = false)
    (h : ∀ a ∈ Bundle.messageArmAtoms cls names, a.before args s = true)
    (hlocs : ∀ x ∈ locs, ∀ cell, s.heap[x.base]? = some cell → cell.vm.isStatics = false)
    (htext : (text == notModelled) = false) (hlimit : ¬ (stringBytes (stringToUtf16 text)).size > e.platform.arrayLengthLimit) (hheap : ¬ (stringBytes (stringToUtf16 text)).size * componentBytes .byte > e.platform.maxHeapBytes)
    {g : JFrame} (hg : g.method = m₀) (hsize : g.locals.size = c.maxLocals)
    (hRframes : names.length + 4 < R.frames) (hRlocals : 2 * g.monitorRoom + (g.stack.map fun v => v.category).sum + 10240 ≤ R.locals) (hshort : 13 * names.length + 55 ≤ 10240)
    (hRcells : cells + 3 ≤ R.cells) (hRslots : slots + ((stringBytes (stringToUtf16 text)).size + 4 + 6) ≤ R.slots) (hlocks : meth.locks = false) :
    ∃ (S : State) (q : Addr) (ce : Cell), (∀ target, Steps p.tables e below ((S.setTop g).pushFrame (.throwing q)) target → Steps p.tables e below ((W.setTop g).pushFrame (.throwNew cls (some text) none)) target) ∧
      Stand p l e R s m₀ args below meth c S locs (cells + 3) (slots + ((stringBytes (stringToUtf16 text)).size + 4 + 6)) ∧ S.heap[q]? = some ce ∧ s.vm.findClass cls = some ce.cls ∧ ce.vm = .none := by
  have howns : e.platform.frameOwnsMonitors = true := by rw [X.admits.platform]
  have hfin : e.platform.finalization = false := by rw [X.admits.platform]
  have hpl : e.platform.magicAccessors = ({} : Platform).magicAccessors := by rw [X.admits.platform]
  have a : ∀ x, x ∈ Bundle.messageArmAtoms cls names → x.holds args s none s [] = true := fun x hx => h x hx
  obtain ⟨T, Z0, L, -, Y⟩ := ThrowableC.of_atoms (args := args) howns hfin hpl (fun x hx => h x (by simp [Bundle.messageArmAtoms, hx]))
  obtain ⟨Z, M, LZ, LM, hnZ⟩ := Init0T.ofS_atoms (args := args) hpl L Y (fun x hx => h x (by simp [Bundle.messageArmAtoms, hx]))
  obtain ⟨P1, Ps, hlen, L1, hL, hP1m, hlink1, hlink⟩ := Bundle.chainS (args := args) hpl hnZ names cls hcls hnames (fun x hx => h x (by simp [Bundle.messageArmAtoms, hx]))
  obtain ⟨Zs, LZs, hn4, hfitv, hfitc⟩ := StringT.of_atoms (args := args) (fun x hx => h x (by simp [Bundle.messageArmAtoms, hx]))
  have hfound : s.vm.findClass cls = some P1.m.cls := findClass_of_methodNamed hP1m
  obtain ⟨c1, kX, hc1, hk, hord, -, -, hn6⟩ := Cond.instantiable_spec (a (.instantiable cls 6) (by simp [Bundle.messageArmAtoms]))
  cases Option.some.inj (hc1.symm.trans hfound)
  have hinit := Cond.initialized_spec hfound hk (a (.initialized cls) (by simp [Bundle.messageArmAtoms]))
  have hctor : kX.findMethod "<init>" "(Ljava/lang/String;)V" = some P1.m.idx := findMethod_of_methodNamed hP1m hk
  have hsel0 : selectMethod e.platform s.vm P1.m.cls T.fill0 = .method T.fill0 := by
    obtain ⟨c2, r2, m2, q1, q2, q3, q4, -⟩ := Cond.selects_spec (a (.selects cls Bundle.tFill0 Bundle.tFill0) (by simp [Bundle.messageArmAtoms]))
    cases Option.some.inj (q1.symm.trans hfound)
    cases Option.some.inj (q2.symm.trans (State.methodFound?_of_named Y.fill0 (by decide)))
    cases Option.some.inj (q3.symm.trans Y.fill0)
    rw [Launch.admits_selectMethod X.admits]; exact q4
  have hselF : selectMethod e.platform s.vm P1.m.cls T.fill = .method T.fill := by
    obtain ⟨c2, r2, m2, q1, q2, q3, q4, -⟩ := Cond.selects_spec (a (.selects cls Bundle.tFill Bundle.tFill) (by simp [Bundle.messageArmAtoms]))
    cases Option.some.inj (q1.symm.trans hfound)
    cases Option.some.inj (q2.symm.trans (State.methodFound?_of_named Y.fill (by decide)))
    cases Option.some.inj (q3.symm.trans Y.fill)
    rw [Launch.admits_selectMethod X.admits]; exact q4
  obtain ⟨cellS0, hcS0, hiss⟩ := Y.statics
  obtain ⟨u0, hu0⟩ := Cond.staticRefV Y.unassigned L.unassignedStatic L.statics hcS0 hiss (a (.isRef (.static Bundle.tN "UNASSIGNED_STACK" Bundle.steD)) (by simp [Bundle.messageArmAtoms]))
  obtain ⟨sen, hsen⟩ := Cond.staticRefV Y.sentinel L.sentinelStatic L.statics hcS0 hiss (a (.isRef (.static Bundle.tN "SUPPRESSED_SENTINEL" Bundle.listD)) (by simp [Bundle.messageArmAtoms]))
  obtain ⟨ci198, i198, fB, hk198, hg198, ha198, hsB, -, hnB, htB, hffB⟩ := Cond.ownField (t := .object "java/lang/Object") Y.found L.cls (by decide +kernel) (a (.fieldLink Bundle.tN 198 Bundle.tN "backtrace" "Ljava/lang/Object;") (by simp [Bundle.messageArmAtoms])) (a (.lays Bundle.tN Bundle.tN "backtrace" "Ljava/lang/Object;") (by simp [Bundle.messageArmAtoms])) e.platform hpl
  obtain ⟨cellS, hcS', heS, -, hkeep⟩ := X.same.2.2.2.2.2 T.aS cellS0 hcS0
  have hcellS : W.heap[T.aS]? = some cellS := hcS'
  have hout' : ∀ i, (⟨T.aS, i⟩ : Loc) ∉ locs := fun i hmem => by
    have := hlocs _ hmem cellS0 hcS0
    rw [hiss] at this; cases this
  have hknownS : cellS.vm ≠ .unknown := by
    rw [heS]; intro hu
    rw [show cellS0.vm = .unknown from hu] at hiss
    cases hiss
  have hvU : cellS.slots[T.fUnassigned.slot]? = some u0.v := by rw [hkeep _ (hout' _)]; exact hu0
  have hvSen : cellS.slots[T.fSentinel.slot]? = some sen.v := by rw [hkeep _ (hout' _)]; exact hsen
  obtain ⟨iM, hffM⟩ := Y.msg
  obtain ⟨tyC, dC, hdC, hdnC⟩ := Cond.laysAt hfound hk Y.cause (a (.lays cls Bundle.tN "cause" "Ljava/lang/Throwable;") (by simp [Bundle.messageArmAtoms]))
  obtain ⟨tyS, dS, hdS, hdnS⟩ := Cond.laysAt hfound hk Y.stack (a (.lays cls Bundle.tN "stackTrace" Bundle.steD) (by simp [Bundle.messageArmAtoms]))
  obtain ⟨tyP, dP, hdP, hdnP⟩ := Cond.laysAt hfound hk Y.supp (a (.lays cls Bundle.tN "suppressedExceptions" Bundle.listD) (by simp [Bundle.messageArmAtoms]))
  obtain ⟨tyM, dM, hdM, hdnM⟩ := Cond.laysAt hfound hk hffM (a (.lays cls Bundle.tN "detailMessage" "Ljava/lang/String;") (by simp [Bundle.messageArmAtoms]))
  obtain ⟨tyB, dB, hdB, hdnB⟩ := Cond.laysAt hfound hk hffB (a (.lays cls Bundle.tN "backtrace" "Ljava/lang/Object;") (by simp [Bundle.messageArmAtoms]))
  have bC := Cond.laysApart hdB hdC hdnB hdnC (by rw [hnB, Y.causeName]; decide)
  have bS := Cond.laysApart hdB hdS hdnB hdnS (by rw [hnB, Y.stackName]; decide)
  have bP := Cond.laysApart hdB hdP hdnB hdnP (by rw [hnB, Y.suppName]; decide)
  have hbk : ((preparedCellV T.toThrowableT (freshCell P1.m.cls kX) (W.heap.size + 2) u0 sen).withEntry W.cur).slots[fB.slot]? = some .null := by
    have := fresh_default (c := P1.m.cls) tyB
    rw [htB] at this
    simpa [preparedCellV, Cell.setSlot, Cell.withEntry, Array.getElem?_setIfInBounds, bC, bS, bP, bC.symm, bS.symm, bP.symm, defaultValue] using this
  have tkC := Takes.of_laid (v := .ref (W.heap.size + 2)) hk hord tyC (by rw [Y.causeType]; rfl)
  have tkS := Takes.of_laid (v := u0.v) hk hord tyS (by rw [Y.stackType]; exact fits_refV_array _ u0)
  have tkP := Takes.of_laid (v := sen.v) hk hord tyP (by rw [Y.suppType]; exact fits_refV_object _ sen)
  have tkM := Takes.of_laid (v := .ref (W.heap.size + 1)) hk hord tyM (by rw [Y.msgType]; rfl)
  have hskip : SkipFacts T e.platform s (fun u => u) u0 ((preparedCellV T.toThrowableT (freshCell P1.m.cls kX) (W.heap.size + 2) u0 sen).withEntry W.cur) := ⟨{ ci198 := ci198, i198 := i198, fBack := fB }, ⟨hk198, hg198, ha198, hsB⟩, hbk, fun _ _ => rfl⟩
  have h0 : At W g.method c below := by rw [hg]; exact X.here
  obtain ⟨hbeyond, hfreeW⟩ := X.vmMayThrow hsize (.throwNew cls (some text) none) (fun f hf => by cases hf) rfl hRlocals
  have hfr' : W.frames.length + Ps.length + 4 < (e.platform.stackLimits W.me).1 := by have := X.framesAbove hRframes; omega
  have hwd' : (stackUse (.java g :: W.frames.tail)).2 + 13 * Ps.length + 55 ≤ (e.platform.stackLimits W.me).2 := by have := X.stackAbove hsize (K := 13 * Ps.length + 55) (by omega); omega
  have hslots : W.slotsUsed + (stringBytes (stringToUtf16 text)).size + Zs.kS.instanceTypes.size + kX.instanceTypes.size ≤ e.platform.maxSlots := by
    have := X.slotsAbove hRslots
    rw [hn4, hn6]
    omega
  obtain ⟨vm', hW', st⟩ := Steps.vmThrowsMessageColdByV p (s₀ := s) (S := W) (g := g) h0 hexec T L Z LZ M LM X.warmed (t := W.cur) rfl Zs LZs P1 L1 Ps hL hlink1 hlink hsoe hoom hfound hk hinit hord hctor
    (Launch.admits_hotImplicitExceptions X.admits) hbeyond hfreeW htext hlimit hheap (X.cellsAbove hRcells) hslots (hfitv _) (hfitc _)
    (Nn := fun u => u) heapOnly_id (fun _ _ => rfl) (fun _ => rfl) (fun u x y => setCell_twice _ _ _ _) (fun _ => Nat.le_refl _) (cN := ((preparedCellV T.toThrowableT (freshCell P1.m.cls kX) (W.heap.size + 2) u0 sen).withEntry W.cur))
    hsel0 hcellS hknownS hvU tkS (fun _ hu => hu) (fun _ hu => hu) rfl rfl rfl (by simp [preparedCellV, Cell.setSlot, Cell.withEntry]) hskip (fun _ _ hA hW _ hroom _ hrest => L.nativeOff p htr hA hW hroom hrest) hselF hvSen tkC tkP tkM Y.objLocals rfl hfr' hwd'
  rw [plainBareV_eq T.toThrowableT (W.heap.size + 2) u0 sen (.ref (W.heap.size + 1)) W.cur rfl rfl] at st
  obtain ⟨-, -, w3, w4, -, -, -⟩ := withThrown_facts e.platform W Zs text P1.m.cls kX
  have X3 := ((X.pushed (bytesOf Zs.cB (stringToUtf16 text))).pushed (stringAt Zs.cS Zs.kS Zs.fv Zs.fc (stringToUtf16 text) W.heap.size)).pushed (freshCell P1.m.cls kX)
  rw [← withString_eq] at X3
  have X4 := X3.noted hW'
  have ha : (W.heap.size + 2) < ((withThrown W Zs text P1.m.cls kX).setVm vm').heap.size := by show _ < (withThrown W Zs text P1.m.cls kX).heap.size; rw [w3]; omega
  have hcell : ((withThrown W Zs text P1.m.cls kX).setVm vm').heap[(W.heap.size + 2)]? = some (freshCell P1.m.cls kX) := w4
  have X5 := ((((X4.stored hcell T.fCause.slot (.ref (W.heap.size + 2))).storedAgain ha T.fStack.slot u0.v).storedAgain ha T.fSupp.slot sen.v).storedAgain ha T.fStack.slot u0.v).storedAgain ha T.fMsg.slot (.ref (W.heap.size + 1))
  obtain ⟨g₁, hfrM⟩ := X5.frames_eq
  have hU : ((((withThrown W Zs text P1.m.cls kX).setVm vm').setCell (W.heap.size + 2) (plainBareV T.toThrowableT (freshCell P1.m.cls kX) (W.heap.size + 2) u0 sen (.ref (W.heap.size + 1)))).setTop g).pushFrame (.throwing (W.heap.size + 2)) = (((withThrown W Zs text P1.m.cls kX).setVm vm').setCell (W.heap.size + 2) (plainBareV T.toThrowableT (freshCell P1.m.cls kX) (W.heap.size + 2) u0 sen (.ref (W.heap.size + 1)))).setFrames (.throwing (W.heap.size + 2) :: .java g :: below) := by
    rw [State.pushFrame, State.frames_setTop _ hfrM, State.setTop_of_frames _ hfrM, State.setFrames_setFrames]
  have b1 : (bytesOf Zs.cB (stringToUtf16 text)).slots.size = (stringBytes (stringToUtf16 text)).size := by
    rw [(Cell.writeAll_facts _ _).2.2]; simp [bytes0]
  have b2 : (stringAt Zs.cS Zs.kS Zs.fv Zs.fc (stringToUtf16 text) W.heap.size).slots.size = 4 := by simp [string0, Cell.setSlot, hn4]
  have b3 : (freshCell P1.m.cls kX).slots.size = 6 := by simp [hn6]
  rw [b1, b2, b3] at X5
  have e9 : slots + (stringBytes (stringToUtf16 text)).size + 4 + 6 = slots + ((stringBytes (stringToUtf16 text)).size + 4 + 6) := by omega
  rw [e9] at X5
  simp only [List.append_assoc, List.cons_append, List.nil_append] at X5
  refine ⟨((withThrown W Zs text P1.m.cls kX).setVm vm').setCell (W.heap.size + 2) (plainBareV T.toThrowableT (freshCell P1.m.cls kX) (W.heap.size + 2) u0 sen (.ref (W.heap.size + 1))), W.heap.size + 2, _, fun target ht => st _ (by rw [X.tail, ← hU]; exact ht),
    X5.forget (fun y hy => ?_), heapAt_setCell_self _ ha, hfound, rfl⟩
  simp only [List.mem_cons, List.not_mem_nil, or_false] at hy
  have hge : s.heap.size ≤ W.heap.size := X.same.2.1
  rcases hy with rfl | rfl | rfl | rfl | rfl <;> exact Nat.le_trans hge (Nat.le_add_right _ 2)
set_option maxHeartbeats 1000000 in
/-- the machine throws NullPointerException, no traces kept: from its note over the frame g to 'throwing' over the same frame (follows the proof of Stand.vmThrowsNpe, Shelf42/KT2.lean; throwsNpeColdBareVAt, Shelf42/NT91.lean, called) -/
theorem vx_npeAt {p : Program} {l : Launch} {e : Env} {R : Room} {s : State} {m₀ : MethodId} {args : Array Value} {below : List Frame} {meth : Method} {c : Code} {W : State} {locs : List Loc} {cells slots : Nat}
    (X : Stand p l e R s m₀ args below meth c W locs cells slots) (hexec : p.tables.exec = Jvm.exec) (htr : e.platform.stackTraces = false) {n : Nat}
    (h : ∀ a ∈ Bundle.npeArmAtoms n, a.before args s = true)
    (hlocs : ∀ x ∈ locs, ∀ cell, s.heap[x.base]? = some cell → cell.vm.isStatics = false)
    {g : JFrame} (hg : g.method = m₀) (hsize : g.locals.size = c.maxLocals)
    (hRframes : 7 < R.frames) (hRlocals : 2 * g.monitorRoom + (g.stack.map fun v => v.category).sum + 10240 ≤ R.locals)
    (hRcells : cells + 1 ≤ R.cells) (hRslots : slots + n ≤ R.slots) (hlocks : meth.locks = false) :
    ∃ (S : State) (q : Addr) (ce : Cell), (∀ target, Steps p.tables e below ((S.setTop g).pushFrame (.throwing q)) target → Steps p.tables e below ((W.setTop g).pushFrame (.throwNew "java/lang/NullPointerException" none none)) target) ∧
      Stand p l e R s m₀ args below meth c S locs (cells + 1) (slots + n) ∧ S.heap[q]? = some ce ∧ s.vm.findClass "java/lang/NullPointerException" = some ce.cls ∧ ce.vm = .none := by
  have howns : e.platform.frameOwnsMonitors = true := by rw [X.admits.platform]
  have hfin : e.platform.finalization = false := by rw [X.admits.platform]
  have hpl : e.platform.magicAccessors = ({} : Platform).magicAccessors := by rw [X.admits.platform]
  have hpl2 : e.platform.arrayCloneIsPublic = true := by rw [X.admits.platform]
  have a' : ∀ x, x ∈ Bundle.npeArmAtoms n → x.holds args s none s [] = true := fun x hx => h x hx
  obtain ⟨T, Z, L, LZ, Y⟩ := ThrowableC.of_atoms (args := args) howns hfin hpl (fun x hx => h x (by simp [Bundle.npeArmAtoms, hx]))
  obtain ⟨N, LN, hcN, hnNF, hordN, hffS⟩ := NpeC.of_atoms (args := args) hpl hpl2 L Y (fun x hx => h x (by simp [Bundle.npeArmAtoms, hx]))
  obtain ⟨P1, L1, hP1m, hP1s⟩ := PassC.of_atoms (args := args) (s := s) hpl (X := Bundle.nN) (Y := Bundle.rN) (by decide) (by decide) LibCode.NullPointerException.Init0.at_0 LibCode.NullPointerException.Init0.at_1 LibCode.NullPointerException.Init0.at_4 (fun x hx => h x (by simp [Bundle.npeArmAtoms, hx]))
  obtain ⟨PR, LR, hPRm, hPRs⟩ := PassC.of_atoms (args := args) (s := s) hpl (X := Bundle.rN) (Y := Bundle.eN) (by decide) (by decide) LibCode.RuntimeException.Init0.at_0 LibCode.RuntimeException.Init0.at_1 LibCode.RuntimeException.Init0.at_4 (fun x hx => h x (by simp [Bundle.npeArmAtoms, hx]))
  obtain ⟨PE, LEx, hPEm, hPEs⟩ := PassC.of_atoms (args := args) (s := s) hpl (X := Bundle.eN) (Y := Bundle.tN) (by decide) (by decide) LibCode.Exception.Init0.at_0 LibCode.Exception.Init0.at_1 LibCode.Exception.Init0.at_4 (fun x hx => h x (by simp [Bundle.npeArmAtoms, hx]))
  have hfound : s.vm.findClass Bundle.nN = some P1.m.cls := findClass_of_methodNamed hP1m
  have ecls : N.cN = P1.m.cls := Option.some.inj (hcN.symm.trans hfound)
  have hk : s.vm.classes[P1.m.cls]? = some N.kN := by rw [← ecls]; exact LN.cls
  have hinit := Cond.initialized_spec hfound hk (a' (.initialized Bundle.nN) (by simp [Bundle.npeArmAtoms]))
  have hctor : N.kN.findMethod "<init>" "()V" = some P1.m.idx := findMethod_of_methodNamed hP1m hk
  obtain ⟨c1, k1, hc1, hk1, -, -, -, hn⟩ := Cond.instantiable_spec (a' (.instantiable Bundle.nN n) (by simp [Bundle.npeArmAtoms]))
  cases Option.some.inj (hc1.symm.trans hfound)
  cases Option.some.inj (hk1.symm.trans hk)
  have hfsz : (freshCell P1.m.cls N.kN).slots.size = n := by simp [hn]
  have hlink1 : P1.sup = PR.m := Option.some.inj (hP1s.symm.trans hPRm)
  have hlinkR : PR.sup = PE.m := Option.some.inj (hPRs.symm.trans hPEm)
  have hlinkE : PE.sup = Z.m T.toThrowableT := Option.some.inj (hPEs.symm.trans Y.init0)
  have hLs : ∀ P, P ∈ [PR, PE] → P.Links0 e.platform s := fun P hP => by
    simp only [List.mem_cons, List.not_mem_nil, or_false] at hP
    rcases hP with rfl | rfl
    · exact LR
    · exact LEx
  have hsel0 : selectMethod e.platform s.vm P1.m.cls T.fill0 = .method T.fill0 := by
    obtain ⟨c2, r2, m2, q1, q2, q3, q4, -⟩ := Cond.selects_spec (a' (.selects Bundle.nN Bundle.tFill0 Bundle.tFill0) (by simp [Bundle.npeArmAtoms]))
    cases Option.some.inj (q1.symm.trans hfound)
    cases Option.some.inj (q2.symm.trans (State.methodFound?_of_named Y.fill0 (by decide)))
    cases Option.some.inj (q3.symm.trans Y.fill0)
    rw [Launch.admits_selectMethod X.admits]; exact q4
  have hselF : selectMethod e.platform s.vm P1.m.cls T.fill = .method N.fill := by
    obtain ⟨c2, r2, m2, q1, q2, q3, q4, -⟩ := Cond.selects_spec (a' (.selects Bundle.nN Bundle.tFill Bundle.nFill) (by simp [Bundle.npeArmAtoms]))
    cases Option.some.inj (q1.symm.trans hfound)
    cases Option.some.inj (q2.symm.trans (State.methodFound?_of_named Y.fill (by decide)))
    cases Option.some.inj (q3.symm.trans hnNF)
    rw [Launch.admits_selectMethod X.admits]; exact q4
  obtain ⟨cellS0, hcS0, hiss⟩ := Y.statics
  obtain ⟨u0, hu0⟩ := Cond.staticRefV Y.unassigned L.unassignedStatic L.statics hcS0 hiss (a' (.isRef (.static Bundle.tN "UNASSIGNED_STACK" Bundle.steD)) (by simp [Bundle.npeArmAtoms]))
  obtain ⟨sen, hsen⟩ := Cond.staticRefV Y.sentinel L.sentinelStatic L.statics hcS0 hiss (a' (.isRef (.static Bundle.tN "SUPPRESSED_SENTINEL" Bundle.listD)) (by simp [Bundle.npeArmAtoms]))
  obtain ⟨ci198, i198, fB, hk198, hg198, ha198, hsB, -, hnB, htB, hffB⟩ := Cond.ownField (t := .object "java/lang/Object") Y.found L.cls (by decide +kernel) (a' (.fieldLink Bundle.tN 198 Bundle.tN "backtrace" Bundle.objD) (by simp [Bundle.npeArmAtoms])) (a' (.lays Bundle.tN Bundle.tN "backtrace" Bundle.objD) (by simp [Bundle.npeArmAtoms])) e.platform hpl
  obtain ⟨cellS, hcS', heS, -, hkeep⟩ := X.same.2.2.2.2.2 T.aS cellS0 hcS0
  have hcellS : W.heap[T.aS]? = some cellS := hcS'
  have hout' : ∀ i, (⟨T.aS, i⟩ : Loc) ∉ locs := fun i hmem => by
    have := hlocs _ hmem cellS0 hcS0
    rw [hiss] at this; cases this
  have hknownS : cellS.vm ≠ .unknown := by
    rw [heS]; intro hu
    rw [show cellS0.vm = .unknown from hu] at hiss
    cases hiss
  have hvU : cellS.slots[T.fUnassigned.slot]? = some u0.v := by rw [hkeep _ (hout' _)]; exact hu0
  have hvSen : cellS.slots[T.fSentinel.slot]? = some sen.v := by rw [hkeep _ (hout' _)]; exact hsen
  obtain ⟨tyC, dC, hdC, hdnC⟩ := Cond.laysAt hfound hk Y.cause (a' (.lays Bundle.nN Bundle.tN "cause" "Ljava/lang/Throwable;") (by simp [Bundle.npeArmAtoms]))
  obtain ⟨tyS, dS, hdS, hdnS⟩ := Cond.laysAt hfound hk Y.stack (a' (.lays Bundle.nN Bundle.tN "stackTrace" Bundle.steD) (by simp [Bundle.npeArmAtoms]))
  obtain ⟨tyP, dP, hdP, hdnP⟩ := Cond.laysAt hfound hk Y.supp (a' (.lays Bundle.nN Bundle.tN "suppressedExceptions" Bundle.listD) (by simp [Bundle.npeArmAtoms]))
  obtain ⟨tyX, dX, hdX, hdnX⟩ := Cond.laysAt hfound hk hffS (a' (.lays Bundle.nN Bundle.nN "extendedMessageState" "I") (by simp [Bundle.npeArmAtoms, Bundle.npeAtoms]))
  obtain ⟨hnX, htX⟩ := State.fieldFound?_type hffS (t := .int) (by decide +kernel)
  have xC := Cond.laysApart hdC hdX hdnC hdnX (by rw [hnX, Y.causeName]; decide)
  have xS := Cond.laysApart hdS hdX hdnS hdnX (by rw [hnX, Y.stackName]; decide)
  have xP := Cond.laysApart hdP hdX hdnP hdnX (by rw [hnX, Y.suppName]; decide)
  have hv0 : (freshCell P1.m.cls N.kN).slots[N.fState.slot]? = some (.int 0) := by
    have := fresh_default (c := P1.m.cls) tyX
    rw [htX] at this; exact this
  obtain ⟨tyB, dB, hdB, hdnB⟩ := Cond.laysAt hfound hk hffB (a' (.lays Bundle.nN Bundle.tN "backtrace" Bundle.objD) (by simp [Bundle.npeArmAtoms]))
  have bC := Cond.laysApart hdB hdC hdnB hdnC (by rw [hnB, Y.causeName]; decide)
  have bS := Cond.laysApart hdB hdS hdnB hdnS (by rw [hnB, Y.stackName]; decide)
  have bP := Cond.laysApart hdB hdP hdnB hdnP (by rw [hnB, Y.suppName]; decide)
  have bX := Cond.laysApart hdB hdX hdnB hdnX (by rw [hnB, hnX]; decide)
  have hbk : ((npeCell N.toNpeT (preparedCellV T.toThrowableT (freshCell P1.m.cls N.kN) W.heap.size u0 sen) W.cur).withEntry W.cur).slots[fB.slot]? = some .null := by
    have := fresh_default (c := P1.m.cls) tyB
    rw [htB] at this
    simpa [npeCell, preparedCellV, Cell.setSlot, Cell.withEntry, Array.getElem?_setIfInBounds, bC, bS, bP, bX, bC.symm, bS.symm, bP.symm, bX.symm, defaultValue] using this
  have tkC := Takes.of_laid (v := .ref W.heap.size) hk hordN tyC (by rw [Y.causeType]; rfl)
  have tkS := Takes.of_laid (v := u0.v) hk hordN tyS (by rw [Y.stackType]; exact fits_refV_array _ u0)
  have tkP := Takes.of_laid (v := sen.v) hk hordN tyP (by rw [Y.suppType]; exact fits_refV_object _ sen)
  have tkX := Takes.of_laid (v := .int 1) hk hordN tyX (by rw [htX]; rfl)
  have hskip : SkipFacts T e.platform s (fun u => u) u0 ((npeCell N.toNpeT (preparedCellV T.toThrowableT (freshCell P1.m.cls N.kN) W.heap.size u0 sen) W.cur).withEntry W.cur) := ⟨{ ci198 := ci198, i198 := i198, fBack := fB }, ⟨hk198, hg198, ha198, hsB⟩, hbk, fun _ _ => rfl⟩
  obtain ⟨vm', X3, st, -⟩ := X.throwsNpeColdBareVAt hexec hg hsize T L Z LZ N LN P1 L1 [PR, PE] hLs hlink1 ⟨hlinkR, hlinkE, trivial⟩ hfound hk hinit hordN hctor hsel0 hselF hcellS hknownS hvU hvSen
    hv0 xC xS xP tkC tkS tkP tkX Y.objLocals hskip (fun _ _ hA hW _ hroom _ hrest => L.nativeOff p htr hA hW hroom hrest) (by simpa using hRframes) hRlocals (by simp) hRcells (by rw [hn]; exact hRslots)
  have hlt : W.heap.size < ((W.pushCell (freshCell P1.m.cls N.kN)).setVm vm').heap.size := by
    show W.heap.size < (W.pushCell (freshCell P1.m.cls N.kN)).heap.size
    rw [State.heap_size_pushCell]; omega
  rw [hfsz] at X3
  obtain ⟨g₁, hfrM⟩ := X3.frames_eq
  have hU : ((((W.pushCell (freshCell P1.m.cls N.kN)).setVm vm').setCell W.heap.size (npeBareV T.toThrowableT N.toNpeT (freshCell P1.m.cls N.kN) W.heap.size u0 sen)).setTop g).pushFrame (.throwing W.heap.size) = (((W.pushCell (freshCell P1.m.cls N.kN)).setVm vm').setCell W.heap.size (npeBareV T.toThrowableT N.toNpeT (freshCell P1.m.cls N.kN) W.heap.size u0 sen)).setFrames (.throwing W.heap.size :: .java g :: below) := by
    rw [State.pushFrame, State.frames_setTop _ hfrM, State.setTop_of_frames _ hfrM, State.setFrames_setFrames]
  refine ⟨_, W.heap.size, _, fun target ht => st.trans (by rw [← hU]; exact ht), X3.forget (fun y hy => ?_), heapAt_setCell_self _ hlt, hfound, rfl⟩
  simp only [List.mem_cons, List.not_mem_nil, or_false] at hy
  have hge : s.heap.size ≤ W.heap.size := X.same.2.1
  rcases hy with rfl | rfl | rfl | rfl | rfl <;> exact hge
/-- the words of a machine's NullPointerException, but the four that speak of the heap -/
def vx_atN (n : Nat) : List Cond := (Bundle.npeArmAtoms n).filter vx_no
/-- the words of a machine's throw with a message, but the four that speak of the heap -/
def vx_atM (X : String) (names : List String) : List Cond := (Bundle.messageArmAtoms X names).filter vx_no
section
variable {p : Program} {l : Launch} {e : Env} {R : Room} {s : State} {m : MethodId} {args : Array Value} {below : List Frame} {meth : Method} {c : Code} {H : Heap} {locs : List Loc} {cells slots : Nat}
/-- a frame seen from a rebased start, seen from the first start again -/
theorem vx_back9 {T S : State} {R' : Room} {k n : Nat} (X : Stand p l e R s m args below meth c T locs cells slots) (Y : Stand p l e R' ((T.setVm s.vm).setFrames (.invoking m args :: below)) m args below meth c T [] 0 0) (Z : Stand p l e R' ((T.setVm s.vm).setFrames (.invoking m args :: below)) m args below meth c S [] k n) :
    Stand p l e R s m args below meth c S locs (cells + k) (slots + n) := by
  have hW0 : s.WarmedH ((T.setVm s.vm).setFrames (.invoking m args :: below)).vm := State.WarmedH.refl s
  refine { admits := X.admits, cas := X.cas, clock := X.clock, frames := X.frames, room := X.room, hears := X.hears, method := X.method, code := X.code, here := Z.here, tail := Z.tail, warmed := State.WarmedH.trans hW0 Z.warmed, limits := Z.limits.trans (Y.limits.symm.trans X.limits), bytes := Z.bytes.trans (Y.bytes.symm.trans X.bytes), same := ?_ }
  obtain ⟨e1, e2⟩ := Z.same
  rw [State.setFrames_setFrames] at e1
  have h2 : (T.setVm s.vm).sameButNew (S.setVm s.vm) [] k n := ⟨e1, e2⟩
  have h3 := X.same.trans h2
  rw [List.append_nil] at h3
  exact h3
/-- from the machine's note that E is thrown here with this text -/
def vx_Note (p : Program) (l : Launch) (e : Env) (R : Room) (s : State) (m : MethodId) (args : Array Value) (below : List Frame) (meth : Method) (c : Code) (H : Heap) (locs : List Loc) (cells slots : Nat) (Q : State → Prop) (g : JFrame) (E text : String) : Prop :=
  ∀ T : State, T.heap = H → Stand p l e R s m args below meth c T locs cells slots → ∃ t, Steps p.tables e below ((T.setTop g).pushFrame (.throwNew E (some text) none)) t ∧ Q t
theorem vx_vm {pc : Nat} {ls : Array Slot} {rest : List Value} {Q : State → Prop} (hexec : p.tables.exec = Jvm.exec) (hl : l.stackTraces = false) {cls text : String} {names : List String} {nb : Nat} {A : Nat → Prop}
    (hcls : Bundle.fit cls = true) (hnames : ∀ n ∈ names, Bundle.fit n = true) (hsoe : (cls == "java/lang/StackOverflowError") = false) (hoom : (cls == "java/lang/OutOfMemoryError") = false)
    (hat : ∀ w ∈ vx_atM cls names, w.before args s = true) (hgood : ∀ w ∈ vx_atM cls names, vx_ot w = true)
    (hU : vx_Zq Bundle.tN "UNASSIGNED_STACK" Bundle.steD A s s.heap) (hN : vx_Zq Bundle.tN "SUPPRESSED_SENTINEL" Bundle.listD A s s.heap) (hS : va_S A s.heap H locs) (hsize : ls.size = c.maxLocals)
    (htext : (text == notModelled) = false) (hnb : (stringBytes (stringToUtf16 text)).size ≤ nb) (hnb1 : nb ≤ 1000)
    (hRframes : names.length + 4 < R.frames) (hRlocals : (rest.map fun v => v.category).sum + 10240 ≤ R.locals) (hshort : 13 * names.length + 55 ≤ 10240) (hRcells : cells + 3 ≤ R.cells) (hRslots : slots + (nb + 10) ≤ R.slots) (hlocks : meth.locks = false)
    (k : ∀ (H1 : Heap) (q9 : Addr) (ce : Cell), H.size ≤ H1.size → (∀ q : Nat, q < H.size → H1[q]? = H[q]?) → va_S A s.heap H1 locs → H1[q9]? = some ce → ce.vm = .none → s.vm.findClass cls = some ce.cls → vx_W p l e R s m args below meth c H1 locs (cells + 3) (slots + (nb + 10)) Q (F0 m pc ls rest) q9) :
    vx_Note p l e R s m args below meth c H locs cells slots Q (F0 m pc ls rest) cls text := by
  intro T hT X
  have htr : e.platform.stackTraces = false := (show e.platform.stackTraces = l.stackTraces by rw [X.admits.platform]).trans hl
  have Y := vx_rebase X (R' := { frames := R.frames, locals := R.locals, cells := 3, slots := nb + 10 }) (Nat.le_refl _) (Nat.le_refl _) hRcells hRslots
  have hhp : ((T.setVm s.vm).setFrames (.invoking m args :: below)).heap = H := hT
  have hW0 : s.WarmedH ((T.setVm s.vm).setFrames (.invoking m args :: below)).vm := State.WarmedH.refl s
  have hat' : ∀ w ∈ vx_atM cls names, w.before args ((T.setVm s.vm).setFrames (.invoking m args :: below)) = true := fun w hw => vx_ot_at hW0 rfl (hgood w hw) (hat w hw)
  have hU' : vx_Zq Bundle.tN "UNASSIGNED_STACK" Bundle.steD A ((T.setVm s.vm).setFrames (.invoking m args :: below)) ((T.setVm s.vm).setFrames (.invoking m args :: below)).heap := by rw [hhp]; exact vx_Zq.moved hW0.alike (hU.kept hS.2.1)
  have hN' : vx_Zq Bundle.tN "SUPPRESSED_SENTINEL" Bundle.listD A ((T.setVm s.vm).setFrames (.invoking m args :: below)) ((T.setVm s.vm).setFrames (.invoking m args :: below)).heap := by rw [hhp]; exact vx_Zq.moved hW0.alike (hN.kept hS.2.1)
  obtain ⟨S, q, ce, st, Z, hce, hcl', hv⟩ := vx_vmAt Y hexec htr (cls := cls) (names := names) (text := text) hcls hnames hsoe hoom (vx_own hat' (vx_isRefq hU'.1) (vx_isRefq hN'.1) hU'.2.word hN'.2.word) (fun x hx => nomatch hx) htext
    (by rw [Launch.admits_arrayLengthLimit X.admits]; omega) (by rw [Launch.admits_maxHeapBytes X.admits]; simp only [componentBytes]; omega)
    (g := F0 m pc ls rest) rfl hsize hRframes (by show 2 * 0 + (rest.map fun v => v.category).sum + 10240 ≤ R.locals; omega) hshort (by show 0 + 3 ≤ 3; omega) (by show 0 + (_ + 4 + 6) ≤ nb + 10; omega) hlocks
  obtain ⟨f1, f2⟩ := vx_frame Z.same
  have f1' : H.size ≤ S.heap.size := by rw [← hT]; exact f1
  have f2' : ∀ q : Nat, q < H.size → S.heap[q]? = H[q]? := fun q hq => by
    rw [← hT]
    exact f2 q (by rw [← hT] at hq; exact hq) (fun z hz => nomatch hz)
  have X5 := vx_back9 X Y Z
  have X6 : Stand p l e R s m args below meth c S locs (cells + 3) (slots + (nb + 10)) := { X5 with same := X5.same.mono (by omega) (by omega) }
  obtain ⟨t, a1, b1⟩ := k S.heap q ce f1' f2' ⟨Nat.le_trans hS.1 f1', fun q h1 h2 => (f2' q (Nat.lt_of_lt_of_le h1 hS.1)).trans (hS.2.1 q h1 h2), hS.2.2⟩ hce hv hcl' S rfl X6
  exact ⟨t, st t a1, b1⟩
/-- from the machine's note that NullPointerException is thrown here -/
def vx_NoteN (p : Program) (l : Launch) (e : Env) (R : Room) (s : State) (m : MethodId) (args : Array Value) (below : List Frame) (meth : Method) (c : Code) (H : Heap) (locs : List Loc) (cells slots : Nat) (Q : State → Prop) (g : JFrame) : Prop :=
  ∀ T : State, T.heap = H → Stand p l e R s m args below meth c T locs cells slots → ∃ t, Steps p.tables e below ((T.setTop g).pushFrame (.throwNew "java/lang/NullPointerException" none none)) t ∧ Q t
theorem vx_npe {pc : Nat} {ls : Array Slot} {rest : List Value} {Q : State → Prop} (hexec : p.tables.exec = Jvm.exec) (hl : l.stackTraces = false) {nb : Nat} {A : Nat → Prop}
    (hat : ∀ w ∈ vx_atN nb, w.before args s = true) (hgood : ∀ w ∈ vx_atN nb, vx_ot w = true)
    (hU : vx_Zq Bundle.tN "UNASSIGNED_STACK" Bundle.steD A s s.heap) (hN : vx_Zq Bundle.tN "SUPPRESSED_SENTINEL" Bundle.listD A s s.heap) (hS : va_S A s.heap H locs) (hsize : ls.size = c.maxLocals)
    (hRframes : 7 < R.frames) (hRlocals : (rest.map fun v => v.category).sum + 10240 ≤ R.locals) (hRcells : cells + 1 ≤ R.cells) (hRslots : slots + nb ≤ R.slots) (hlocks : meth.locks = false)
    (k : ∀ (H1 : Heap) (q9 : Addr) (ce : Cell), H.size ≤ H1.size → (∀ q : Nat, q < H.size → H1[q]? = H[q]?) → va_S A s.heap H1 locs → H1[q9]? = some ce → ce.vm = .none → s.vm.findClass "java/lang/NullPointerException" = some ce.cls → vx_W p l e R s m args below meth c H1 locs (cells + 1) (slots + nb) Q (F0 m pc ls rest) q9) :
    vx_NoteN p l e R s m args below meth c H locs cells slots Q (F0 m pc ls rest) := by
  intro T hT X
  have htr : e.platform.stackTraces = false := (show e.platform.stackTraces = l.stackTraces by rw [X.admits.platform]).trans hl
  have Y := vx_rebase X (R' := { frames := R.frames, locals := R.locals, cells := 1, slots := nb }) (Nat.le_refl _) (Nat.le_refl _) hRcells hRslots
  have hhp : ((T.setVm s.vm).setFrames (.invoking m args :: below)).heap = H := hT
  have hW0 : s.WarmedH ((T.setVm s.vm).setFrames (.invoking m args :: below)).vm := State.WarmedH.refl s
  have hat' : ∀ w ∈ vx_atN nb, w.before args ((T.setVm s.vm).setFrames (.invoking m args :: below)) = true := fun w hw => vx_ot_at hW0 rfl (hgood w hw) (hat w hw)
  have hU' : vx_Zq Bundle.tN "UNASSIGNED_STACK" Bundle.steD A ((T.setVm s.vm).setFrames (.invoking m args :: below)) ((T.setVm s.vm).setFrames (.invoking m args :: below)).heap := by rw [hhp]; exact vx_Zq.moved hW0.alike (hU.kept hS.2.1)
  have hN' : vx_Zq Bundle.tN "SUPPRESSED_SENTINEL" Bundle.listD A ((T.setVm s.vm).setFrames (.invoking m args :: below)) ((T.setVm s.vm).setFrames (.invoking m args :: below)).heap := by rw [hhp]; exact vx_Zq.moved hW0.alike (hN.kept hS.2.1)
  obtain ⟨S, q, ce, st, Z, hce, hcl', hv⟩ := vx_npeAt Y hexec htr (n := nb) (vx_own hat' (vx_isRefq hU'.1) (vx_isRefq hN'.1) hU'.2.word hN'.2.word) (fun x hx => nomatch hx)
    (g := F0 m pc ls rest) rfl hsize hRframes (by show 2 * 0 + (rest.map fun v => v.category).sum + 10240 ≤ R.locals; omega) (by show 0 + 1 ≤ 1; omega) (by show 0 + nb ≤ nb; omega) hlocks
  obtain ⟨f1, f2⟩ := vx_frame Z.same
  have f1' : H.size ≤ S.heap.size := by rw [← hT]; exact f1
  have f2' : ∀ q : Nat, q < H.size → S.heap[q]? = H[q]? := fun q hq => by
    rw [← hT]
    exact f2 q (by rw [← hT] at hq; exact hq) (fun z hz => nomatch hz)
  have X5 := vx_back9 X Y Z
  have X6 : Stand p l e R s m args below meth c S locs (cells + 1) (slots + nb) := { X5 with same := X5.same.mono (by omega) (by omega) }
  obtain ⟨t, a1, b1⟩ := k S.heap q ce f1' f2' ⟨Nat.le_trans hS.1 f1', fun q h1 h2 => (f2' q (Nat.lt_of_lt_of_le h1 hS.1)).trans (hS.2.1 q h1 h2), hS.2.2⟩ hce hv hcl' S rfl X6
  exact ⟨t, st t a1, b1⟩
variable {Q : State → Prop} {cc : ByteArray} {pc : Nat} {ls : Array Slot} {rest : List Value}
theorem vx_idivZ (hexec : p.tables.exec = Jvm.exec) (hb : c.code = cc) {a b : Int32} (h0 : b = 0) (d : decode cc pc = .ok (.idiv, 1)) (k : vx_Note p l e R s m args below meth c H locs cells slots Q (F0 m pc ls rest) "java/lang/ArithmeticException" "/ by zero") :
    W p l e R s m args below meth c H locs cells slots Q (F0 m pc ls (.int b :: .int a :: rest)) := by
  intro T hT X
  obtain ⟨t, st, q⟩ := k T hT X
  exact ⟨t, X.idivZero hexec (g := F0 m pc ls (.int b :: .int a :: rest)) rfl (a := a) (rest := rest) (by rw [h0]) (by rw [hb]; exact d) t st, q⟩
theorem vx_iremZ (hexec : p.tables.exec = Jvm.exec) (hb : c.code = cc) {a b : Int32} (h0 : b = 0) (d : decode cc pc = .ok (.irem, 1)) (k : vx_Note p l e R s m args below meth c H locs cells slots Q (F0 m pc ls rest) "java/lang/ArithmeticException" "/ by zero") :
    W p l e R s m args below meth c H locs cells slots Q (F0 m pc ls (.int b :: .int a :: rest)) := by
  intro T hT X
  obtain ⟨t, st, q⟩ := k T hT X
  exact ⟨t, X.iremZero hexec (g := F0 m pc ls (.int b :: .int a :: rest)) rfl (a := a) (rest := rest) (by rw [h0]) (by rw [hb]; exact d) t st, q⟩
theorem vx_ldivZ (hexec : p.tables.exec = Jvm.exec) (hb : c.code = cc) {a b : Int64} (h0 : b = 0) (d : decode cc pc = .ok (.ldiv, 1)) (k : vx_Note p l e R s m args below meth c H locs cells slots Q (F0 m pc ls rest) "java/lang/ArithmeticException" "/ by zero") :
    W p l e R s m args below meth c H locs cells slots Q (F0 m pc ls (.long b :: .long a :: rest)) := by
  intro T hT X
  obtain ⟨t, st, q⟩ := k T hT X
  exact ⟨t, X.ldivZero hexec (g := F0 m pc ls (.long b :: .long a :: rest)) rfl (a := a) (rest := rest) (by rw [h0]) (by rw [hb]; exact d) t st, q⟩
theorem vx_lremZ (hexec : p.tables.exec = Jvm.exec) (hb : c.code = cc) {a b : Int64} (h0 : b = 0) (d : decode cc pc = .ok (.lrem, 1)) (k : vx_Note p l e R s m args below meth c H locs cells slots Q (F0 m pc ls rest) "java/lang/ArithmeticException" "/ by zero") :
    W p l e R s m args below meth c H locs cells slots Q (F0 m pc ls (.long b :: .long a :: rest)) := by
  intro T hT X
  obtain ⟨t, st, q⟩ := k T hT X
  exact ⟨t, X.lremZero hexec (g := F0 m pc ls (.long b :: .long a :: rest)) rfl (a := a) (rest := rest) (by rw [h0]) (by rw [hb]; exact d) t st, q⟩
theorem vx_ialdZ {D : va_G} {cl : List vw_C} {ws : va_W} {tys : List (ClassId × FieldType)} {a : Nat} (hexec : p.tables.exec = Jvm.exec) (hb : c.code = cc) (hK : va_K D cl tys s) (hP : va_P D cl ws H) (q0 t0 : Nat) {cA : ClassId} {n : Nat} {f : Nat → Int32} (ha : ws[q0]? = some (a, .inl (cA, n, .inl f))) (ht : tys[t0]? = some (cA, .int)) {i : Int32} (hout : ¬ vp_in i n) (hdg : decode cc pc = .ok (.iaload, 1))
    (k : ∀ tx : String, tx = (toString "Index " ++ toString i ++ toString " out of bounds for length " ++ toString n : String) → vx_Note p l e R s m args below meth c H locs cells slots Q (F0 m pc ls rest) "java/lang/ArrayIndexOutOfBoundsException" tx) : W p l e R s m args below meth c H locs cells slots Q (F0 m pc ls (.int i :: .ref a :: rest)) := by
  intro T hT X
  obtain ⟨t, st, q⟩ := k _ rfl T hT X
  refine ⟨t, ?_, q⟩
  have h1 := X.ialoadOut hexec (by rw [hT]; exact hP q0 _ ha) ((hK.2 t0 _ ht).1 n (fun j => .int (f j))) (j := i) (by show (i < 0 ∨ (arrV _ _ _).slots.size ≤ _); rw [arrV_size]; exact Classical.byContradiction hout) (g := F0 m pc ls (.int i :: .ref a :: rest)) rfl (rest := rest) rfl (by rw [hb]; exact hdg) t
  simp only [arrV_size] at h1
  exact h1 st
theorem vx_iastZ {D : va_G} {cl : List vw_C} {ws : va_W} {tys : List (ClassId × FieldType)} {a : Nat} (hexec : p.tables.exec = Jvm.exec) (hb : c.code = cc) (hK : va_K D cl tys s) (hP : va_P D cl ws H) (q0 t0 : Nat) {cA : ClassId} {n : Nat} {f : Nat → Int32} (ha : ws[q0]? = some (a, .inl (cA, n, .inl f))) (ht : tys[t0]? = some (cA, .int)) {i : Int32} {x : Int32} (hout : ¬ vp_in i n) (hdg : decode cc pc = .ok (.iastore, 1))
    (k : ∀ tx : String, tx = (toString "Index " ++ toString i ++ toString " out of bounds for length " ++ toString n : String) → vx_Note p l e R s m args below meth c H locs cells slots Q (F0 m pc ls rest) "java/lang/ArrayIndexOutOfBoundsException" tx) : W p l e R s m args below meth c H locs cells slots Q (F0 m pc ls (.int x :: .int i :: .ref a :: rest)) := by
  intro T hT X
  obtain ⟨t, st, q⟩ := k _ rfl T hT X
  refine ⟨t, ?_, q⟩
  have h1 := X.iastoreOut hexec (by rw [hT]; exact hP q0 _ ha) ((hK.2 t0 _ ht).1 n (fun j => .int (f j))) (j := i) (by show (i < 0 ∨ (arrV _ _ _).slots.size ≤ _); rw [arrV_size]; exact Classical.byContradiction hout) (g := F0 m pc ls (.int x :: .int i :: .ref a :: rest)) rfl (rest := rest) rfl (by rw [hb]; exact hdg) t
  simp only [arrV_size] at h1
  exact h1 st
theorem vx_baldZ {D : va_G} {cl : List vw_C} {ws : va_W} {tys : List (ClassId × FieldType)} {a : Nat} (hexec : p.tables.exec = Jvm.exec) (hb : c.code = cc) (hK : va_K D cl tys s) (hP : va_P D cl ws H) (q0 t0 : Nat) {cA : ClassId} {n : Nat} {f : Nat → Int32} (ha : ws[q0]? = some (a, .inl (cA, n, .inl f))) (ht : tys[t0]? = some (cA, .byte)) {i : Int32} (hout : ¬ vp_in i n) (hdg : decode cc pc = .ok (.baload, 1))
    (k : ∀ tx : String, tx = (toString "Index " ++ toString i ++ toString " out of bounds for length " ++ toString n : String) → vx_Note p l e R s m args below meth c H locs cells slots Q (F0 m pc ls rest) "java/lang/ArrayIndexOutOfBoundsException" tx) : W p l e R s m args below meth c H locs cells slots Q (F0 m pc ls (.int i :: .ref a :: rest)) := by
  intro T hT X
  obtain ⟨t, st, q⟩ := k _ rfl T hT X
  refine ⟨t, ?_, q⟩
  have h1 := X.baloadOut hexec (by rw [hT]; exact hP q0 _ ha) ((hK.2 t0 _ ht).1 n (fun j => .int (f j))) (j := i) (by show (i < 0 ∨ (arrV _ _ _).slots.size ≤ _); rw [arrV_size]; exact Classical.byContradiction hout) (g := F0 m pc ls (.int i :: .ref a :: rest)) rfl (rest := rest) rfl (by rw [hb]; exact hdg) t
  simp only [arrV_size] at h1
  exact h1 st
theorem vx_bastZ {D : va_G} {cl : List vw_C} {ws : va_W} {tys : List (ClassId × FieldType)} {a : Nat} (hexec : p.tables.exec = Jvm.exec) (hb : c.code = cc) (hK : va_K D cl tys s) (hP : va_P D cl ws H) (q0 t0 : Nat) {cA : ClassId} {n : Nat} {f : Nat → Int32} (ha : ws[q0]? = some (a, .inl (cA, n, .inl f))) (ht : tys[t0]? = some (cA, .byte)) {i : Int32} {x : Int32} (hout : ¬ vp_in i n) (hdg : decode cc pc = .ok (.bastore, 1))
    (k : ∀ tx : String, tx = (toString "Index " ++ toString i ++ toString " out of bounds for length " ++ toString n : String) → vx_Note p l e R s m args below meth c H locs cells slots Q (F0 m pc ls rest) "java/lang/ArrayIndexOutOfBoundsException" tx) : W p l e R s m args below meth c H locs cells slots Q (F0 m pc ls (.int x :: .int i :: .ref a :: rest)) := by
  intro T hT X
  obtain ⟨t, st, q⟩ := k _ rfl T hT X
  refine ⟨t, ?_, q⟩
  have h1 := X.bastoreOut hexec (by rw [hT]; exact hP q0 _ ha) ((hK.2 t0 _ ht).1 n (fun j => .int (f j))) (j := i) (by show (i < 0 ∨ (arrV _ _ _).slots.size ≤ _); rw [arrV_size]; exact Classical.byContradiction hout) (g := F0 m pc ls (.int x :: .int i :: .ref a :: rest)) rfl (rest := rest) rfl (by rw [hb]; exact hdg) t
  simp only [arrV_size] at h1
  exact h1 st
theorem vx_zaldZ {D : va_G} {cl : List vw_C} {ws : va_W} {tys : List (ClassId × FieldType)} {a : Nat} (hexec : p.tables.exec = Jvm.exec) (hb : c.code = cc) (hK : va_K D cl tys s) (hP : va_P D cl ws H) (q0 t0 : Nat) {cA : ClassId} {n : Nat} {f : Nat → Int32} (ha : ws[q0]? = some (a, .inl (cA, n, .inl f))) (ht : tys[t0]? = some (cA, .boolean)) {i : Int32} (hout : ¬ vp_in i n) (hdg : decode cc pc = .ok (.baload, 1))
    (k : ∀ tx : String, tx = (toString "Index " ++ toString i ++ toString " out of bounds for length " ++ toString n : String) → vx_Note p l e R s m args below meth c H locs cells slots Q (F0 m pc ls rest) "java/lang/ArrayIndexOutOfBoundsException" tx) : W p l e R s m args below meth c H locs cells slots Q (F0 m pc ls (.int i :: .ref a :: rest)) := by
  intro T hT X
  obtain ⟨t, st, q⟩ := k _ rfl T hT X
  refine ⟨t, ?_, q⟩
  have h1 := X.baloadOut hexec (by rw [hT]; exact hP q0 _ ha) ((hK.2 t0 _ ht).1 n (fun j => .int (f j))) (j := i) (by show (i < 0 ∨ (arrV _ _ _).slots.size ≤ _); rw [arrV_size]; exact Classical.byContradiction hout) (g := F0 m pc ls (.int i :: .ref a :: rest)) rfl (rest := rest) rfl (by rw [hb]; exact hdg) t
  simp only [arrV_size] at h1
  exact h1 st
theorem vx_zastZ {D : va_G} {cl : List vw_C} {ws : va_W} {tys : List (ClassId × FieldType)} {a : Nat} (hexec : p.tables.exec = Jvm.exec) (hb : c.code = cc) (hK : va_K D cl tys s) (hP : va_P D cl ws H) (q0 t0 : Nat) {cA : ClassId} {n : Nat} {f : Nat → Int32} (ha : ws[q0]? = some (a, .inl (cA, n, .inl f))) (ht : tys[t0]? = some (cA, .boolean)) {i : Int32} {x : Int32} (hout : ¬ vp_in i n) (hdg : decode cc pc = .ok (.bastore, 1))
    (k : ∀ tx : String, tx = (toString "Index " ++ toString i ++ toString " out of bounds for length " ++ toString n : String) → vx_Note p l e R s m args below meth c H locs cells slots Q (F0 m pc ls rest) "java/lang/ArrayIndexOutOfBoundsException" tx) : W p l e R s m args below meth c H locs cells slots Q (F0 m pc ls (.int x :: .int i :: .ref a :: rest)) := by
  intro T hT X
  obtain ⟨t, st, q⟩ := k _ rfl T hT X
  refine ⟨t, ?_, q⟩
  have h1 := X.bastoreOut hexec (by rw [hT]; exact hP q0 _ ha) ((hK.2 t0 _ ht).1 n (fun j => .int (f j))) (j := i) (by show (i < 0 ∨ (arrV _ _ _).slots.size ≤ _); rw [arrV_size]; exact Classical.byContradiction hout) (g := F0 m pc ls (.int x :: .int i :: .ref a :: rest)) rfl (rest := rest) rfl (by rw [hb]; exact hdg) t
  simp only [arrV_size] at h1
  exact h1 st
theorem vx_caldZ {D : va_G} {cl : List vw_C} {ws : va_W} {tys : List (ClassId × FieldType)} {a : Nat} (hexec : p.tables.exec = Jvm.exec) (hb : c.code = cc) (hK : va_K D cl tys s) (hP : va_P D cl ws H) (q0 t0 : Nat) {cA : ClassId} {n : Nat} {f : Nat → Int32} (ha : ws[q0]? = some (a, .inl (cA, n, .inl f))) (ht : tys[t0]? = some (cA, .char)) {i : Int32} (hout : ¬ vp_in i n) (hdg : decode cc pc = .ok (.caload, 1))
    (k : ∀ tx : String, tx = (toString "Index " ++ toString i ++ toString " out of bounds for length " ++ toString n : String) → vx_Note p l e R s m args below meth c H locs cells slots Q (F0 m pc ls rest) "java/lang/ArrayIndexOutOfBoundsException" tx) : W p l e R s m args below meth c H locs cells slots Q (F0 m pc ls (.int i :: .ref a :: rest)) := by
  intro T hT X
  obtain ⟨t, st, q⟩ := k _ rfl T hT X
  refine ⟨t, ?_, q⟩
  have h1 := X.caloadOut hexec (by rw [hT]; exact hP q0 _ ha) ((hK.2 t0 _ ht).1 n (fun j => .int (f j))) (j := i) (by show (i < 0 ∨ (arrV _ _ _).slots.size ≤ _); rw [arrV_size]; exact Classical.byContradiction hout) (g := F0 m pc ls (.int i :: .ref a :: rest)) rfl (rest := rest) rfl (by rw [hb]; exact hdg) t
  simp only [arrV_size] at h1
  exact h1 st
theorem vx_castZ {D : va_G} {cl : List vw_C} {ws : va_W} {tys : List (ClassId × FieldType)} {a : Nat} (hexec : p.tables.exec = Jvm.exec) (hb : c.code = cc) (hK : va_K D cl tys s) (hP : va_P D cl ws H) (q0 t0 : Nat) {cA : ClassId} {n : Nat} {f : Nat → Int32} (ha : ws[q0]? = some (a, .inl (cA, n, .inl f))) (ht : tys[t0]? = some (cA, .char)) {i : Int32} {x : Int32} (hout : ¬ vp_in i n) (hdg : decode cc pc = .ok (.castore, 1))
    (k : ∀ tx : String, tx = (toString "Index " ++ toString i ++ toString " out of bounds for length " ++ toString n : String) → vx_Note p l e R s m args below meth c H locs cells slots Q (F0 m pc ls rest) "java/lang/ArrayIndexOutOfBoundsException" tx) : W p l e R s m args below meth c H locs cells slots Q (F0 m pc ls (.int x :: .int i :: .ref a :: rest)) := by
  intro T hT X
  obtain ⟨t, st, q⟩ := k _ rfl T hT X
  refine ⟨t, ?_, q⟩
  have h1 := X.castoreOut hexec (by rw [hT]; exact hP q0 _ ha) ((hK.2 t0 _ ht).1 n (fun j => .int (f j))) (j := i) (by show (i < 0 ∨ (arrV _ _ _).slots.size ≤ _); rw [arrV_size]; exact Classical.byContradiction hout) (g := F0 m pc ls (.int x :: .int i :: .ref a :: rest)) rfl (rest := rest) rfl (by rw [hb]; exact hdg) t
  simp only [arrV_size] at h1
  exact h1 st
theorem vx_saldZ {D : va_G} {cl : List vw_C} {ws : va_W} {tys : List (ClassId × FieldType)} {a : Nat} (hexec : p.tables.exec = Jvm.exec) (hb : c.code = cc) (hK : va_K D cl tys s) (hP : va_P D cl ws H) (q0 t0 : Nat) {cA : ClassId} {n : Nat} {f : Nat → Int32} (ha : ws[q0]? = some (a, .inl (cA, n, .inl f))) (ht : tys[t0]? = some (cA, .short)) {i : Int32} (hout : ¬ vp_in i n) (hdg : decode cc pc = .ok (.saload, 1))
    (k : ∀ tx : String, tx = (toString "Index " ++ toString i ++ toString " out of bounds for length " ++ toString n : String) → vx_Note p l e R s m args below meth c H locs cells slots Q (F0 m pc ls rest) "java/lang/ArrayIndexOutOfBoundsException" tx) : W p l e R s m args below meth c H locs cells slots Q (F0 m pc ls (.int i :: .ref a :: rest)) := by
  intro T hT X
  obtain ⟨t, st, q⟩ := k _ rfl T hT X
  refine ⟨t, ?_, q⟩
  have h1 := X.saloadOut hexec (by rw [hT]; exact hP q0 _ ha) ((hK.2 t0 _ ht).1 n (fun j => .int (f j))) (j := i) (by show (i < 0 ∨ (arrV _ _ _).slots.size ≤ _); rw [arrV_size]; exact Classical.byContradiction hout) (g := F0 m pc ls (.int i :: .ref a :: rest)) rfl (rest := rest) rfl (by rw [hb]; exact hdg) t
  simp only [arrV_size] at h1
  exact h1 st
theorem vx_sastZ {D : va_G} {cl : List vw_C} {ws : va_W} {tys : List (ClassId × FieldType)} {a : Nat} (hexec : p.tables.exec = Jvm.exec) (hb : c.code = cc) (hK : va_K D cl tys s) (hP : va_P D cl ws H) (q0 t0 : Nat) {cA : ClassId} {n : Nat} {f : Nat → Int32} (ha : ws[q0]? = some (a, .inl (cA, n, .inl f))) (ht : tys[t0]? = some (cA, .short)) {i : Int32} {x : Int32} (hout : ¬ vp_in i n) (hdg : decode cc pc = .ok (.sastore, 1))
    (k : ∀ tx : String, tx = (toString "Index " ++ toString i ++ toString " out of bounds for length " ++ toString n : String) → vx_Note p l e R s m args below meth c H locs cells slots Q (F0 m pc ls rest) "java/lang/ArrayIndexOutOfBoundsException" tx) : W p l e R s m args below meth c H locs cells slots Q (F0 m pc ls (.int x :: .int i :: .ref a :: rest)) := by
  intro T hT X
  obtain ⟨t, st, q⟩ := k _ rfl T hT X
  refine ⟨t, ?_, q⟩
  have h1 := X.sastoreOut hexec (by rw [hT]; exact hP q0 _ ha) ((hK.2 t0 _ ht).1 n (fun j => .int (f j))) (j := i) (by show (i < 0 ∨ (arrV _ _ _).slots.size ≤ _); rw [arrV_size]; exact Classical.byContradiction hout) (g := F0 m pc ls (.int x :: .int i :: .ref a :: rest)) rfl (rest := rest) rfl (by rw [hb]; exact hdg) t
  simp only [arrV_size] at h1
  exact h1 st
theorem vx_laldZ {D : va_G} {cl : List vw_C} {ws : va_W} {tys : List (ClassId × FieldType)} {a : Nat} (hexec : p.tables.exec = Jvm.exec) (hb : c.code = cc) (hK : va_K D cl tys s) (hP : va_P D cl ws H) (q0 t0 : Nat) {cA : ClassId} {n : Nat} {f : Nat → Int64} (ha : ws[q0]? = some (a, .inl (cA, n, .inr (.inl f)))) (ht : tys[t0]? = some (cA, .long)) {i : Int32} (hout : ¬ vp_in i n) (hdg : decode cc pc = .ok (.laload, 1))
    (k : ∀ tx : String, tx = (toString "Index " ++ toString i ++ toString " out of bounds for length " ++ toString n : String) → vx_Note p l e R s m args below meth c H locs cells slots Q (F0 m pc ls rest) "java/lang/ArrayIndexOutOfBoundsException" tx) : W p l e R s m args below meth c H locs cells slots Q (F0 m pc ls (.int i :: .ref a :: rest)) := by
  intro T hT X
  obtain ⟨t, st, q⟩ := k _ rfl T hT X
  refine ⟨t, ?_, q⟩
  have h1 := X.laloadOut hexec (by rw [hT]; exact hP q0 _ ha) ((hK.2 t0 _ ht).1 n (fun j => .long (f j))) (j := i) (by show (i < 0 ∨ (arrV _ _ _).slots.size ≤ _); rw [arrV_size]; exact Classical.byContradiction hout) (g := F0 m pc ls (.int i :: .ref a :: rest)) rfl (rest := rest) rfl (by rw [hb]; exact hdg) t
  simp only [arrV_size] at h1
  exact h1 st
theorem vx_lastZ {D : va_G} {cl : List vw_C} {ws : va_W} {tys : List (ClassId × FieldType)} {a : Nat} (hexec : p.tables.exec = Jvm.exec) (hb : c.code = cc) (hK : va_K D cl tys s) (hP : va_P D cl ws H) (q0 t0 : Nat) {cA : ClassId} {n : Nat} {f : Nat → Int64} (ha : ws[q0]? = some (a, .inl (cA, n, .inr (.inl f)))) (ht : tys[t0]? = some (cA, .long)) {i : Int32} {x : Int64} (hout : ¬ vp_in i n) (hdg : decode cc pc = .ok (.lastore, 1))
    (k : ∀ tx : String, tx = (toString "Index " ++ toString i ++ toString " out of bounds for length " ++ toString n : String) → vx_Note p l e R s m args below meth c H locs cells slots Q (F0 m pc ls rest) "java/lang/ArrayIndexOutOfBoundsException" tx) : W p l e R s m args below meth c H locs cells slots Q (F0 m pc ls (.long x :: .int i :: .ref a :: rest)) := by
  intro T hT X
  obtain ⟨t, st, q⟩ := k _ rfl T hT X
  refine ⟨t, ?_, q⟩
  have h1 := X.lastoreOut hexec (by rw [hT]; exact hP q0 _ ha) ((hK.2 t0 _ ht).1 n (fun j => .long (f j))) (j := i) (by show (i < 0 ∨ (arrV _ _ _).slots.size ≤ _); rw [arrV_size]; exact Classical.byContradiction hout) (g := F0 m pc ls (.long x :: .int i :: .ref a :: rest)) rfl (rest := rest) rfl (by rw [hb]; exact hdg) t
  simp only [arrV_size] at h1
  exact h1 st
theorem vx_faldZ {D : va_G} {cl : List vw_C} {ws : va_W} {tys : List (ClassId × FieldType)} {a : Nat} (hexec : p.tables.exec = Jvm.exec) (hb : c.code = cc) (hK : va_K D cl tys s) (hP : va_P D cl ws H) (q0 t0 : Nat) {cA : ClassId} {n : Nat} {f : Nat → UInt32} (ha : ws[q0]? = some (a, .inl (cA, n, .inr (.inr (.inl f))))) (ht : tys[t0]? = some (cA, .float)) {i : Int32} (hout : ¬ vp_in i n) (hdg : decode cc pc = .ok (.faload, 1))
    (k : ∀ tx : String, tx = (toString "Index " ++ toString i ++ toString " out of bounds for length " ++ toString n : String) → vx_Note p l e R s m args below meth c H locs cells slots Q (F0 m pc ls rest) "java/lang/ArrayIndexOutOfBoundsException" tx) : W p l e R s m args below meth c H locs cells slots Q (F0 m pc ls (.int i :: .ref a :: rest)) := by
  intro T hT X
  obtain ⟨t, st, q⟩ := k _ rfl T hT X
  refine ⟨t, ?_, q⟩
  have h1 := X.faloadOut hexec (by rw [hT]; exact hP q0 _ ha) ((hK.2 t0 _ ht).1 n (fun j => .float (f j))) (j := i) (by show (i < 0 ∨ (arrV _ _ _).slots.size ≤ _); rw [arrV_size]; exact Classical.byContradiction hout) (g := F0 m pc ls (.int i :: .ref a :: rest)) rfl (rest := rest) rfl (by rw [hb]; exact hdg) t
  simp only [arrV_size] at h1
  exact h1 st
theorem vx_fastZ {D : va_G} {cl : List vw_C} {ws : va_W} {tys : List (ClassId × FieldType)} {a : Nat} (hexec : p.tables.exec = Jvm.exec) (hb : c.code = cc) (hK : va_K D cl tys s) (hP : va_P D cl ws H) (q0 t0 : Nat) {cA : ClassId} {n : Nat} {f : Nat → UInt32} (ha : ws[q0]? = some (a, .inl (cA, n, .inr (.inr (.inl f))))) (ht : tys[t0]? = some (cA, .float)) {i : Int32} {x : UInt32} (hout : ¬ vp_in i n) (hdg : decode cc pc = .ok (.fastore, 1))
    (k : ∀ tx : String, tx = (toString "Index " ++ toString i ++ toString " out of bounds for length " ++ toString n : String) → vx_Note p l e R s m args below meth c H locs cells slots Q (F0 m pc ls rest) "java/lang/ArrayIndexOutOfBoundsException" tx) : W p l e R s m args below meth c H locs cells slots Q (F0 m pc ls (.float x :: .int i :: .ref a :: rest)) := by
  intro T hT X
  obtain ⟨t, st, q⟩ := k _ rfl T hT X
  refine ⟨t, ?_, q⟩
  have h1 := X.fastoreOut hexec (by rw [hT]; exact hP q0 _ ha) ((hK.2 t0 _ ht).1 n (fun j => .float (f j))) (j := i) (by show (i < 0 ∨ (arrV _ _ _).slots.size ≤ _); rw [arrV_size]; exact Classical.byContradiction hout) (g := F0 m pc ls (.float x :: .int i :: .ref a :: rest)) rfl (rest := rest) rfl (by rw [hb]; exact hdg) t
  simp only [arrV_size] at h1
  exact h1 st
theorem vx_daldZ {D : va_G} {cl : List vw_C} {ws : va_W} {tys : List (ClassId × FieldType)} {a : Nat} (hexec : p.tables.exec = Jvm.exec) (hb : c.code = cc) (hK : va_K D cl tys s) (hP : va_P D cl ws H) (q0 t0 : Nat) {cA : ClassId} {n : Nat} {f : Nat → UInt64} (ha : ws[q0]? = some (a, .inl (cA, n, .inr (.inr (.inr (.inl f)))))) (ht : tys[t0]? = some (cA, .double)) {i : Int32} (hout : ¬ vp_in i n) (hdg : decode cc pc = .ok (.daload, 1))
    (k : ∀ tx : String, tx = (toString "Index " ++ toString i ++ toString " out of bounds for length " ++ toString n : String) → vx_Note p l e R s m args below meth c H locs cells slots Q (F0 m pc ls rest) "java/lang/ArrayIndexOutOfBoundsException" tx) : W p l e R s m args below meth c H locs cells slots Q (F0 m pc ls (.int i :: .ref a :: rest)) := by
  intro T hT X
  obtain ⟨t, st, q⟩ := k _ rfl T hT X
  refine ⟨t, ?_, q⟩
  have h1 := X.daloadOut hexec (by rw [hT]; exact hP q0 _ ha) ((hK.2 t0 _ ht).1 n (fun j => .double (f j))) (j := i) (by show (i < 0 ∨ (arrV _ _ _).slots.size ≤ _); rw [arrV_size]; exact Classical.byContradiction hout) (g := F0 m pc ls (.int i :: .ref a :: rest)) rfl (rest := rest) rfl (by rw [hb]; exact hdg) t
  simp only [arrV_size] at h1
  exact h1 st
theorem vx_dastZ {D : va_G} {cl : List vw_C} {ws : va_W} {tys : List (ClassId × FieldType)} {a : Nat} (hexec : p.tables.exec = Jvm.exec) (hb : c.code = cc) (hK : va_K D cl tys s) (hP : va_P D cl ws H) (q0 t0 : Nat) {cA : ClassId} {n : Nat} {f : Nat → UInt64} (ha : ws[q0]? = some (a, .inl (cA, n, .inr (.inr (.inr (.inl f)))))) (ht : tys[t0]? = some (cA, .double)) {i : Int32} {x : UInt64} (hout : ¬ vp_in i n) (hdg : decode cc pc = .ok (.dastore, 1))
    (k : ∀ tx : String, tx = (toString "Index " ++ toString i ++ toString " out of bounds for length " ++ toString n : String) → vx_Note p l e R s m args below meth c H locs cells slots Q (F0 m pc ls rest) "java/lang/ArrayIndexOutOfBoundsException" tx) : W p l e R s m args below meth c H locs cells slots Q (F0 m pc ls (.double x :: .int i :: .ref a :: rest)) := by
  intro T hT X
  obtain ⟨t, st, q⟩ := k _ rfl T hT X
  refine ⟨t, ?_, q⟩
  have h1 := X.dastoreOut hexec (by rw [hT]; exact hP q0 _ ha) ((hK.2 t0 _ ht).1 n (fun j => .double (f j))) (j := i) (by show (i < 0 ∨ (arrV _ _ _).slots.size ≤ _); rw [arrV_size]; exact Classical.byContradiction hout) (g := F0 m pc ls (.double x :: .int i :: .ref a :: rest)) rfl (rest := rest) rfl (by rw [hb]; exact hdg) t
  simp only [arrV_size] at h1
  exact h1 st
theorem vx_arraylengthN (hexec : p.tables.exec = Jvm.exec) (hb : c.code = cc) (hdg : decode cc pc = .ok (.arraylength, 1)) (k : vx_NoteN p l e R s m args below meth c H locs cells slots Q (F0 m pc ls rest)) : W p l e R s m args below meth c H locs cells slots Q (F0 m pc ls (.null :: rest)) := by
  intro T hT X
  obtain ⟨t, st, q⟩ := k T hT X
  exact ⟨t, X.arraylengthNull hexec (g := F0 m pc ls (.null :: rest)) rfl (rest := rest) rfl (by rw [hb]; exact hdg) t st, q⟩
theorem vx_ialoadN (hexec : p.tables.exec = Jvm.exec) (hb : c.code = cc) {i : Int32} (hdg : decode cc pc = .ok (.iaload, 1)) (k : vx_NoteN p l e R s m args below meth c H locs cells slots Q (F0 m pc ls rest)) : W p l e R s m args below meth c H locs cells slots Q (F0 m pc ls (.int i :: .null :: rest)) := by
  intro T hT X
  obtain ⟨t, st, q⟩ := k T hT X
  exact ⟨t, X.ialoadNull hexec (g := F0 m pc ls (.int i :: .null :: rest)) rfl (rest := rest) rfl (by rw [hb]; exact hdg) t st, q⟩
theorem vx_laloadN (hexec : p.tables.exec = Jvm.exec) (hb : c.code = cc) {i : Int32} (hdg : decode cc pc = .ok (.laload, 1)) (k : vx_NoteN p l e R s m args below meth c H locs cells slots Q (F0 m pc ls rest)) : W p l e R s m args below meth c H locs cells slots Q (F0 m pc ls (.int i :: .null :: rest)) := by
  intro T hT X
  obtain ⟨t, st, q⟩ := k T hT X
  exact ⟨t, X.laloadNull hexec (g := F0 m pc ls (.int i :: .null :: rest)) rfl (rest := rest) rfl (by rw [hb]; exact hdg) t st, q⟩
theorem vx_faloadN (hexec : p.tables.exec = Jvm.exec) (hb : c.code = cc) {i : Int32} (hdg : decode cc pc = .ok (.faload, 1)) (k : vx_NoteN p l e R s m args below meth c H locs cells slots Q (F0 m pc ls rest)) : W p l e R s m args below meth c H locs cells slots Q (F0 m pc ls (.int i :: .null :: rest)) := by
  intro T hT X
  obtain ⟨t, st, q⟩ := k T hT X
  exact ⟨t, X.faloadNull hexec (g := F0 m pc ls (.int i :: .null :: rest)) rfl (rest := rest) rfl (by rw [hb]; exact hdg) t st, q⟩
theorem vx_daloadN (hexec : p.tables.exec = Jvm.exec) (hb : c.code = cc) {i : Int32} (hdg : decode cc pc = .ok (.daload, 1)) (k : vx_NoteN p l e R s m args below meth c H locs cells slots Q (F0 m pc ls rest)) : W p l e R s m args below meth c H locs cells slots Q (F0 m pc ls (.int i :: .null :: rest)) := by
  intro T hT X
  obtain ⟨t, st, q⟩ := k T hT X
  exact ⟨t, X.daloadNull hexec (g := F0 m pc ls (.int i :: .null :: rest)) rfl (rest := rest) rfl (by rw [hb]; exact hdg) t st, q⟩
theorem vx_aaloadN (hexec : p.tables.exec = Jvm.exec) (hb : c.code = cc) {i : Int32} (hdg : decode cc pc = .ok (.aaload, 1)) (k : vx_NoteN p l e R s m args below meth c H locs cells slots Q (F0 m pc ls rest)) : W p l e R s m args below meth c H locs cells slots Q (F0 m pc ls (.int i :: .null :: rest)) := by
  intro T hT X
  obtain ⟨t, st, q⟩ := k T hT X
  exact ⟨t, X.aaloadNull hexec (g := F0 m pc ls (.int i :: .null :: rest)) rfl (rest := rest) rfl (by rw [hb]; exact hdg) t st, q⟩
theorem vx_baloadN (hexec : p.tables.exec = Jvm.exec) (hb : c.code = cc) {i : Int32} (hdg : decode cc pc = .ok (.baload, 1)) (k : vx_NoteN p l e R s m args below meth c H locs cells slots Q (F0 m pc ls rest)) : W p l e R s m args below meth c H locs cells slots Q (F0 m pc ls (.int i :: .null :: rest)) := by
  intro T hT X
  obtain ⟨t, st, q⟩ := k T hT X
  exact ⟨t, X.baloadNull hexec (g := F0 m pc ls (.int i :: .null :: rest)) rfl (rest := rest) rfl (by rw [hb]; exact hdg) t st, q⟩
theorem vx_caloadN (hexec : p.tables.exec = Jvm.exec) (hb : c.code = cc) {i : Int32} (hdg : decode cc pc = .ok (.caload, 1)) (k : vx_NoteN p l e R s m args below meth c H locs cells slots Q (F0 m pc ls rest)) : W p l e R s m args below meth c H locs cells slots Q (F0 m pc ls (.int i :: .null :: rest)) := by
  intro T hT X
  obtain ⟨t, st, q⟩ := k T hT X
  exact ⟨t, X.caloadNull hexec (g := F0 m pc ls (.int i :: .null :: rest)) rfl (rest := rest) rfl (by rw [hb]; exact hdg) t st, q⟩
theorem vx_saloadN (hexec : p.tables.exec = Jvm.exec) (hb : c.code = cc) {i : Int32} (hdg : decode cc pc = .ok (.saload, 1)) (k : vx_NoteN p l e R s m args below meth c H locs cells slots Q (F0 m pc ls rest)) : W p l e R s m args below meth c H locs cells slots Q (F0 m pc ls (.int i :: .null :: rest)) := by
  intro T hT X
  obtain ⟨t, st, q⟩ := k T hT X
  exact ⟨t, X.saloadNull hexec (g := F0 m pc ls (.int i :: .null :: rest)) rfl (rest := rest) rfl (by rw [hb]; exact hdg) t st, q⟩
theorem vx_iastoreN (hexec : p.tables.exec = Jvm.exec) (hb : c.code = cc) {x : Int32} {i : Int32} (hdg : decode cc pc = .ok (.iastore, 1)) (k : vx_NoteN p l e R s m args below meth c H locs cells slots Q (F0 m pc ls rest)) : W p l e R s m args below meth c H locs cells slots Q (F0 m pc ls (.int x :: .int i :: .null :: rest)) := by
  intro T hT X
  obtain ⟨t, st, q⟩ := k T hT X
  exact ⟨t, X.iastoreNull hexec (g := F0 m pc ls (.int x :: .int i :: .null :: rest)) rfl (rest := rest) rfl (by rw [hb]; exact hdg) t st, q⟩
theorem vx_lastoreN (hexec : p.tables.exec = Jvm.exec) (hb : c.code = cc) {x : Int64} {i : Int32} (hdg : decode cc pc = .ok (.lastore, 1)) (k : vx_NoteN p l e R s m args below meth c H locs cells slots Q (F0 m pc ls rest)) : W p l e R s m args below meth c H locs cells slots Q (F0 m pc ls (.long x :: .int i :: .null :: rest)) := by
  intro T hT X
  obtain ⟨t, st, q⟩ := k T hT X
  exact ⟨t, X.lastoreNull hexec (g := F0 m pc ls (.long x :: .int i :: .null :: rest)) rfl (rest := rest) rfl (by rw [hb]; exact hdg) t st, q⟩
theorem vx_fastoreN (hexec : p.tables.exec = Jvm.exec) (hb : c.code = cc) {x : UInt32} {i : Int32} (hdg : decode cc pc = .ok (.fastore, 1)) (k : vx_NoteN p l e R s m args below meth c H locs cells slots Q (F0 m pc ls rest)) : W p l e R s m args below meth c H locs cells slots Q (F0 m pc ls (.float x :: .int i :: .null :: rest)) := by
  intro T hT X
  obtain ⟨t, st, q⟩ := k T hT X
  exact ⟨t, X.fastoreNull hexec (g := F0 m pc ls (.float x :: .int i :: .null :: rest)) rfl (rest := rest) rfl (by rw [hb]; exact hdg) t st, q⟩
theorem vx_dastoreN (hexec : p.tables.exec = Jvm.exec) (hb : c.code = cc) {x : UInt64} {i : Int32} (hdg : decode cc pc = .ok (.dastore, 1)) (k : vx_NoteN p l e R s m args below meth c H locs cells slots Q (F0 m pc ls rest)) : W p l e R s m args below meth c H locs cells slots Q (F0 m pc ls (.double x :: .int i :: .null :: rest)) := by
  intro T hT X
  obtain ⟨t, st, q⟩ := k T hT X
  exact ⟨t, X.dastoreNull hexec (g := F0 m pc ls (.double x :: .int i :: .null :: rest)) rfl (rest := rest) rfl (by rw [hb]; exact hdg) t st, q⟩
theorem vx_bastoreN (hexec : p.tables.exec = Jvm.exec) (hb : c.code = cc) {x : Int32} {i : Int32} (hdg : decode cc pc = .ok (.bastore, 1)) (k : vx_NoteN p l e R s m args below meth c H locs cells slots Q (F0 m pc ls rest)) : W p l e R s m args below meth c H locs cells slots Q (F0 m pc ls (.int x :: .int i :: .null :: rest)) := by
  intro T hT X
  obtain ⟨t, st, q⟩ := k T hT X
  exact ⟨t, X.bastoreNull hexec (g := F0 m pc ls (.int x :: .int i :: .null :: rest)) rfl (rest := rest) rfl (by rw [hb]; exact hdg) t st, q⟩
theorem vx_castoreN (hexec : p.tables.exec = Jvm.exec) (hb : c.code = cc) {x : Int32} {i : Int32} (hdg : decode cc pc = .ok (.castore, 1)) (k : vx_NoteN p l e R s m args below meth c H locs cells slots Q (F0 m pc ls rest)) : W p l e R s m args below meth c H locs cells slots Q (F0 m pc ls (.int x :: .int i :: .null :: rest)) := by
  intro T hT X
  obtain ⟨t, st, q⟩ := k T hT X
  exact ⟨t, X.castoreNull hexec (g := F0 m pc ls (.int x :: .int i :: .null :: rest)) rfl (rest := rest) rfl (by rw [hb]; exact hdg) t st, q⟩
theorem vx_sastoreN (hexec : p.tables.exec = Jvm.exec) (hb : c.code = cc) {x : Int32} {i : Int32} (hdg : decode cc pc = .ok (.sastore, 1)) (k : vx_NoteN p l e R s m args below meth c H locs cells slots Q (F0 m pc ls rest)) : W p l e R s m args below meth c H locs cells slots Q (F0 m pc ls (.int x :: .int i :: .null :: rest)) := by
  intro T hT X
  obtain ⟨t, st, q⟩ := k T hT X
  exact ⟨t, X.sastoreNull hexec (g := F0 m pc ls (.int x :: .int i :: .null :: rest)) rfl (rest := rest) rfl (by rw [hb]; exact hdg) t st, q⟩
theorem vx_invokeN {own C : String} {index maxL : Nat} {y : MethodName} {bytes : ByteArray} {ret : Option FieldType} (hexec : p.tables.exec = Jvm.exec) (hb : c.code = cc) (hown : s.vm.findClass own = some m.cls) (hlink : (Cond.methodLink own index y).before args s = true) (hinst : (Cond.instanceMethod y).before args s = true) (hcode : (Cond.code y bytes maxL ret).before args s = true) (hsel : (Cond.selects C y y).before args s = true)
    (hx : y.cls ≠ "java/lang/invoke/MethodHandle" ∧ y.cls ≠ "java/lang/invoke/VarHandle") {As : List Value} (hlen : (parseMethodDescriptor y.desc).map (fun d => d.parameters.length) = some As.length) (hdg : decode cc pc = .ok (.invokevirtual index, 3))
    (k : vx_NoteN p l e R s m args below meth c H locs cells slots Q (F0 m pc ls rest)) {st0 : List Value} (hst : st0 = As.reverse ++ .null :: rest) : W p l e R s m args below meth c H locs cells slots Q (F0 m pc ls st0) := by
  intro T hT X
  obtain ⟨r0, r, hn, hrm, hstR, hsigR⟩ := va_Decl.of hinst hcode
  obtain ⟨c2, r2, m2, q1, q2, q3, q4, kP, hkP, hkPi⟩ := Cond.selects_spec hsel
  cases hn.symm.trans q3
  have hl9 : As.length = r.sig.parameters.length := by
    rw [hsigR] at hlen
    exact (Option.some.inj hlen).symm
  obtain ⟨vm', X1, st1⟩ := X.invokevirtualNull hexec hown hlink hn hrm hstR hkP hkPi hx (g := F0 m pc ls st0) rfl (argsL := As) (rest := rest) hl9 hst (by rw [hb]; exact hdg)
  obtain ⟨t, st, q⟩ := k (T.setVm vm') hT X1
  exact ⟨t, st1 t st, q⟩
theorem vx_newarrayZ {atype : ArrayType} (hexec : p.tables.exec = Jvm.exec) (hb : c.code = cc) {n : Int32} (h0 : n < 0) (hdg : decode cc pc = .ok (.newarray atype, 2)) (k : ∀ tx : String, tx = toString n → vx_Note p l e R s m args below meth c H locs cells slots Q (F0 m pc ls rest) "java/lang/NegativeArraySizeException" tx) : W p l e R s m args below meth c H locs cells slots Q (F0 m pc ls (.int n :: rest)) := by
  intro T hT X
  obtain ⟨t, st, q⟩ := k _ rfl T hT X
  exact ⟨t, X.newarrayNegative hexec (g := F0 m pc ls (.int n :: rest)) rfl h0 (rest := rest) rfl (by rw [hb]; exact hdg) t st, q⟩
end
end VXM
/-! ===== END ===== -/
end
section

/-! ===== BEGIN printed: names, fields, word lists, decode rows ===== -/
def RX0 : String := "GoalseekOffice$Draft"
def TX0 : u_T := fun k => match k with
  | 0 => ("GoalseekOffice$Draft", "signs", "[I", true)
  | _ => ("GoalseekOffice$Draft", "count", "I", false)
def tyX0 : Nat → FieldType := fun k => match k with
  | 0 => .array .int
  | _ => .int
abbrev wsX00 : List Cond := u_ws RX0 TX0 2
theorem nmX0 : ∀ a, a < 2 → ∀ b, b < 2 → a ≠ b → (TX0 a).2.1 ≠ (TX0 b).2.1 := by decide +kernel
theorem tyX0_ok : ∀ k, k < 2 → parseFieldDescriptor (TX0 k).2.2.1 = some (tyX0 k) := by decide +kernel
abbrev cX0_init : ByteArray := prog_2_method_1_code
def yX0_init : MethodName := ⟨RX0, "<init>", "()V"⟩
abbrev cX0_write : ByteArray := prog_2_method_2_code
def yX0_write : MethodName := ⟨RX0, "write", "(I)I"⟩
abbrev cX0_faultPlace : ByteArray := prog_2_method_3_code
def yX0_faultPlace : MethodName := ⟨RX0, "faultPlace", "()I"⟩
abbrev cX0_toFormula : ByteArray := prog_2_method_4_code
def yX0_toFormula : MethodName := ⟨RX0, "toFormula", "()LGoalseekOffice$Formula;"⟩
def RX1 : String := "GoalseekOffice$Formula"
def TX1 : u_T := fun k => match k with
  | 0 => ("GoalseekOffice$Formula", "signs", "[I", true)
  | _ => ("GoalseekOffice$Formula", "named", "I", true)
def tyX1 : Nat → FieldType := fun k => match k with
  | 0 => .array .int
  | _ => .int
abbrev wsX10 : List Cond := u_ws RX1 TX1 2
theorem nmX1 : ∀ a, a < 2 → ∀ b, b < 2 → a ≠ b → (TX1 a).2.1 ≠ (TX1 b).2.1 := by decide +kernel
theorem tyX1_ok : ∀ k, k < 2 → parseFieldDescriptor (TX1 k).2.2.1 = some (tyX1 k) := by decide +kernel
abbrev cX1_init : ByteArray := prog_3_method_1_code
def yX1_init : MethodName := ⟨RX1, "<init>", "([I)V"⟩
abbrev cX1_isEmpty : ByteArray := prog_3_method_2_code
def yX1_isEmpty : MethodName := ⟨RX1, "isEmpty", "()Z"⟩
abbrev cX1_canBeInput : ByteArray := prog_3_method_3_code
def yX1_canBeInput : MethodName := ⟨RX1, "canBeInput", "()Z"⟩
abbrev cX1_sameAs : ByteArray := prog_3_method_4_code
def yX1_sameAs : MethodName := ⟨RX1, "sameAs", "(LGoalseekOffice$Formula;)Z"⟩
def RX2 : String := "GoalseekOffice$Reckoner"
def TX2 : u_T := fun k => match k with
  | 0 => ("GoalseekOffice$Reckoner", "signs", "[I", false)
  | 1 => ("GoalseekOffice$Reckoner", "row", "[J", false)
  | _ => ("GoalseekOffice$Reckoner", "at", "I", false)
def tyX2 : Nat → FieldType := fun k => match k with
  | 0 => .array .int
  | 1 => .array .long
  | _ => .int
abbrev wsX20 : List Cond := u_ws RX2 TX2 3
theorem nmX2 : ∀ a, a < 3 → ∀ b, b < 3 → a ≠ b → (TX2 a).2.1 ≠ (TX2 b).2.1 := by decide +kernel
theorem tyX2_ok : ∀ k, k < 3 → parseFieldDescriptor (TX2 k).2.2.1 = some (tyX2 k) := by decide +kernel
abbrev cX2_init : ByteArray := prog_4_method_1_code
def yX2_init : MethodName := ⟨RX2, "<init>", "()V"⟩
abbrev cX2_take : ByteArray := prog_4_method_2_code
def yX2_take : MethodName := ⟨RX2, "take", "(LGoalseekOffice$Formula;[J)V"⟩
abbrev cX2_sum : ByteArray := prog_4_method_3_code
def yX2_sum : MethodName := ⟨RX2, "sum", "(I)J"⟩
abbrev cX2_product : ByteArray := prog_4_method_4_code
def yX2_product : MethodName := ⟨RX2, "product", "(I)J"⟩
abbrev cX2_factor : ByteArray := prog_4_method_5_code
def yX2_factor : MethodName := ⟨RX2, "factor", "(I)J"⟩
abbrev cX2_combine : ByteArray := prog_4_method_6_code
def yX2_combine : MethodName := ⟨RX2, "combine", "(IJJ)J"⟩
def RX3 : String := "GoalseekOffice"
def TX3 : u_T := fun k => match k with
  | 0 => ("GoalseekOffice", "draft", "LGoalseekOffice$Draft;", true)
  | 1 => ("GoalseekOffice", "reckoner", "LGoalseekOffice$Reckoner;", true)
  | 2 => ("GoalseekOffice", "empty", "LGoalseekOffice$Formula;", true)
  | 3 => ("GoalseekOffice", "formulas", "[LGoalseekOffice$Formula;", true)
  | 4 => ("GoalseekOffice", "remembered", "[LGoalseekOffice$Formula;", true)
  | 5 => ("GoalseekOffice", "values", "[J", true)
  | 6 => ("GoalseekOffice", "trial", "[J", true)
  | 7 => ("GoalseekOffice", "openLayers", "I", false)
  | _ => ("GoalseekOffice", "found", "I", false)
def tyX3 : Nat → FieldType := fun k => match k with
  | 0 => .object "GoalseekOffice$Draft"
  | 1 => .object "GoalseekOffice$Reckoner"
  | 2 => .object "GoalseekOffice$Formula"
  | 3 => .array (.object "GoalseekOffice$Formula")
  | 4 => .array (.object "GoalseekOffice$Formula")
  | 5 => .array .long
  | 6 => .array .long
  | 7 => .int
  | _ => .int
abbrev wsX30 : List Cond := u_ws RX3 TX3 9
theorem nmX3 : ∀ a, a < 9 → ∀ b, b < 9 → a ≠ b → (TX3 a).2.1 ≠ (TX3 b).2.1 := by decide +kernel
theorem tyX3_ok : ∀ k, k < 9 → parseFieldDescriptor (TX3 k).2.2.1 = some (tyX3 k) := by decide +kernel
abbrev cX3_init : ByteArray := prog_1_method_1_code
def yX3_init : MethodName := ⟨RX3, "<init>", "()V"⟩
abbrev cX3_number : ByteArray := prog_1_method_2_code
def yX3_number : MethodName := ⟨RX3, "number", "(I)I"⟩
abbrev cX3_cell : ByteArray := prog_1_method_3_code
def yX3_cell : MethodName := ⟨RX3, "cell", "(I)I"⟩
abbrev cX3_sign : ByteArray := prog_1_method_4_code
def yX3_sign : MethodName := ⟨RX3, "sign", "(I)I"⟩
abbrev cX3_wipe : ByteArray := prog_1_method_5_code
def yX3_wipe : MethodName := ⟨RX3, "wipe", "()I"⟩
abbrev cX3_fault : ByteArray := prog_1_method_6_code
def yX3_fault : MethodName := ⟨RX3, "fault", "()I"⟩
abbrev cX3_set : ByteArray := prog_1_method_7_code
def yX3_set : MethodName := ⟨RX3, "set", "(I)I"⟩
abbrev cX3_put : ByteArray := prog_1_method_8_code
def yX3_put : MethodName := ⟨RX3, "put", "(II)I"⟩
abbrev cX3_clear : ByteArray := prog_1_method_9_code
def yX3_clear : MethodName := ⟨RX3, "clear", "(I)I"⟩
abbrev cX3_open : ByteArray := prog_1_method_10_code
def yX3_open : MethodName := ⟨RX3, "open", "()I"⟩
abbrev cX3_drop : ByteArray := prog_1_method_11_code
def yX3_drop : MethodName := ⟨RX3, "drop", "()I"⟩
abbrev cX3_keep : ByteArray := prog_1_method_12_code
def yX3_keep : MethodName := ⟨RX3, "keep", "()I"⟩
abbrev cX3_layers : ByteArray := prog_1_method_13_code
def yX3_layers : MethodName := ⟨RX3, "layers", "()I"⟩
abbrev cX3_drafted : ByteArray := prog_1_method_14_code
def yX3_drafted : MethodName := ⟨RX3, "drafted", "()I"⟩
abbrev cX3_value : ByteArray := prog_1_method_15_code
def yX3_value : MethodName := ⟨RX3, "value", "(I)J"⟩
abbrev cX3_valueAnew : ByteArray := prog_1_method_16_code
def yX3_valueAnew : MethodName := ⟨RX3, "valueAnew", "(I)J"⟩
abbrev cX3_signs : ByteArray := prog_1_method_17_code
def yX3_signs : MethodName := ⟨RX3, "signs", "(I)I"⟩
abbrev cX3_level : ByteArray := prog_1_method_18_code
def yX3_level : MethodName := ⟨RX3, "level", "(I)I"⟩
abbrev cX3_depends : ByteArray := prog_1_method_19_code
def yX3_depends : MethodName := ⟨RX3, "depends", "(II)Z"⟩
abbrev cX3_faulty : ByteArray := prog_1_method_20_code
def yX3_faulty : MethodName := ⟨RX3, "faulty", "()I"⟩
abbrev cX3_foundAnew : ByteArray := prog_1_method_21_code
def yX3_foundAnew : MethodName := ⟨RX3, "foundAnew", "()I"⟩
abbrev cX3_seek : ByteArray := prog_1_method_22_code
def yX3_seek : MethodName := ⟨RX3, "seek", "(IIIII)I"⟩
abbrev cX3_search : ByteArray := prog_1_method_23_code
def yX3_search : MethodName := ⟨RX3, "search", "(IIIII)I"⟩
abbrev cX3_goalWith : ByteArray := prog_1_method_24_code
def yX3_goalWith : MethodName := ⟨RX3, "goalWith", "(IIII)J"⟩
abbrev cX3_onOneSide : ByteArray := prog_1_method_25_code
def yX3_onOneSide : MethodName := ⟨RX3, "onOneSide", "(JJJ)Z"⟩
abbrev cX3_give : ByteArray := prog_1_method_26_code
def yX3_give : MethodName := ⟨RX3, "give", "(ILGoalseekOffice$Formula;)I"⟩
abbrev cX3_findAnew : ByteArray := prog_1_method_27_code
def yX3_findAnew : MethodName := ⟨RX3, "findAnew", "(I)I"⟩
abbrev cX3_workOut : ByteArray := prog_1_method_28_code
def yX3_workOut : MethodName := ⟨RX3, "workOut", "(I[J)V"⟩
abbrev cX3_only : ByteArray := prog_1_method_29_code
def yX3_only : MethodName := ⟨RX3, "only", "(I)I"⟩
abbrev cX3_holds : ByteArray := prog_1_method_30_code
def yX3_holds : MethodName := ⟨RX3, "holds", "(II)Z"⟩
abbrev cX3_dependsOn : ByteArray := prog_1_method_31_code
def yX3_dependsOn : MethodName := ⟨RX3, "dependsOn", "(II)Z"⟩
abbrev cX3_namedByAny : ByteArray := prog_1_method_32_code
def yX3_namedByAny : MethodName := ⟨RX3, "namedByAny", "(I)I"⟩
abbrev cX3_withDependencies : ByteArray := prog_1_method_33_code
def yX3_withDependencies : MethodName := ⟨RX3, "withDependencies", "(I)I"⟩
abbrev cX3_withDependents : ByteArray := prog_1_method_34_code
def yX3_withDependents : MethodName := ⟨RX3, "withDependents", "(I)I"⟩
abbrev cX3_requireCell : ByteArray := prog_1_method_35_code
def yX3_requireCell : MethodName := ⟨RX3, "requireCell", "(I)V"⟩
abbrev cX3_requireNumber : ByteArray := prog_1_method_36_code
def yX3_requireNumber : MethodName := ⟨RX3, "requireNumber", "(I)V"⟩
abbrev cX3_requireValue : ByteArray := prog_1_method_37_code
def yX3_requireValue : MethodName := ⟨RX3, "requireValue", "(J)V"⟩
abbrev cX3_requireRoom : ByteArray := prog_1_method_38_code
def yX3_requireRoom : MethodName := ⟨RX3, "requireRoom", "()V"⟩
abbrev cX3_requireLayer : ByteArray := prog_1_method_39_code
def yX3_requireLayer : MethodName := ⟨RX3, "requireLayer", "()V"⟩
abbrev cX3_loneNumber : ByteArray := prog_1_method_40_code
def yX3_loneNumber : MethodName := ⟨RX3, "loneNumber", "(I)LGoalseekOffice$Formula;"⟩
def RX4 : String := "GoalseekOfficeModel"
def TX4 : u_T := fun k => match k with
  | 0 => ("GoalseekOfficeModel", "thrown", "I", false)
  | 1 => ("GoalseekOfficeModel", "draft", "[I", true)
  | 2 => ("GoalseekOfficeModel", "drafted", "I", false)
  | 3 => ("GoalseekOfficeModel", "formulas", "[I", true)
  | 4 => ("GoalseekOfficeModel", "sizes", "[I", true)
  | 5 => ("GoalseekOfficeModel", "layers", "I", false)
  | 6 => ("GoalseekOfficeModel", "oldFormulas", "[I", true)
  | 7 => ("GoalseekOfficeModel", "oldSizes", "[I", true)
  | 8 => ("GoalseekOfficeModel", "found", "I", false)
  | 9 => ("GoalseekOfficeModel", "values", "[J", true)
  | 10 => ("GoalseekOfficeModel", "states", "[I", true)
  | 11 => ("GoalseekOfficeModel", "stack", "[J", true)
  | 12 => ("GoalseekOfficeModel", "height", "I", false)
  | 13 => ("GoalseekOfficeModel", "waiting", "[I", true)
  | 14 => ("GoalseekOfficeModel", "waits", "I", false)
  | _ => ("GoalseekOfficeModel", "isBroken", "Z", false)
def tyX4 : Nat → FieldType := fun k => match k with
  | 0 => .int
  | 1 => .array .int
  | 2 => .int
  | 3 => .array .int
  | 4 => .array .int
  | 5 => .int
  | 6 => .array .int
  | 7 => .array .int
  | 8 => .int
  | 9 => .array .long
  | 10 => .array .int
  | 11 => .array .long
  | 12 => .int
  | 13 => .array .int
  | 14 => .int
  | _ => .boolean
abbrev wsX40 : List Cond := u_ws RX4 TX4 16
theorem nmX4 : ∀ a, a < 16 → ∀ b, b < 16 → a ≠ b → (TX4 a).2.1 ≠ (TX4 b).2.1 := by decide +kernel
theorem tyX4_ok : ∀ k, k < 16 → parseFieldDescriptor (TX4 k).2.2.1 = some (tyX4 k) := by decide +kernel
abbrev cX4_init : ByteArray := prog_6_method_1_code
def yX4_init : MethodName := ⟨RX4, "<init>", "()V"⟩
abbrev cX4_thrown : ByteArray := prog_6_method_2_code
def yX4_thrown : MethodName := ⟨RX4, "thrown", "()I"⟩
abbrev cX4_holds : ByteArray := prog_6_method_3_code
def yX4_holds : MethodName := ⟨RX4, "holds", "(I)Z"⟩
abbrev cX4_in : ByteArray := prog_6_method_4_code
def yX4_in : MethodName := ⟨RX4, "in", "(III)Z"⟩
abbrev cX4_isCell : ByteArray := prog_6_method_5_code
def yX4_isCell : MethodName := ⟨RX4, "isCell", "(I)Z"⟩
abbrev cX4_writes : ByteArray := prog_6_method_6_code
def yX4_writes : MethodName := ⟨RX4, "writes", "(I)I"⟩
abbrev cX4_errorOfSign : ByteArray := prog_6_method_7_code
def yX4_errorOfSign : MethodName := ⟨RX4, "errorOfSign", "(Z)I"⟩
abbrev cX4_number : ByteArray := prog_6_method_8_code
def yX4_number : MethodName := ⟨RX4, "number", "(I)I"⟩
abbrev cX4_cell : ByteArray := prog_6_method_9_code
def yX4_cell : MethodName := ⟨RX4, "cell", "(I)I"⟩
abbrev cX4_sign : ByteArray := prog_6_method_10_code
def yX4_sign : MethodName := ⟨RX4, "sign", "(I)I"⟩
abbrev cX4_wipe : ByteArray := prog_6_method_11_code
def yX4_wipe : MethodName := ⟨RX4, "wipe", "()I"⟩
abbrev cX4_faultOf : ByteArray := prog_6_method_12_code
def yX4_faultOf : MethodName := ⟨RX4, "faultOf", "()I"⟩
abbrev cX4_fault : ByteArray := prog_6_method_13_code
def yX4_fault : MethodName := ⟨RX4, "fault", "()I"⟩
abbrev cX4_refers : ByteArray := prog_6_method_14_code
def yX4_refers : MethodName := ⟨RX4, "refers", "([III)I"⟩
abbrev cX4_refersOf : ByteArray := prog_6_method_15_code
def yX4_refersOf : MethodName := ⟨RX4, "refersOf", "(I)I"⟩
abbrev cX4_below : ByteArray := prog_6_method_16_code
def yX4_below : MethodName := ⟨RX4, "below", "(I)I"⟩
abbrev cX4_doesDepend : ByteArray := prog_6_method_17_code
def yX4_doesDepend : MethodName := ⟨RX4, "doesDepend", "(II)Z"⟩
abbrev cX4_anew : ByteArray := prog_6_method_18_code
def yX4_anew : MethodName := ⟨RX4, "anew", "(I)I"⟩
abbrev cX4_pushes : ByteArray := prog_6_method_19_code
def yX4_pushes : MethodName := ⟨RX4, "pushes", "(J)V"⟩
abbrev cX4_size : ByteArray := prog_6_method_20_code
def yX4_size : MethodName := ⟨RX4, "size", "(J)J"⟩
abbrev cX4_quotient : ByteArray := prog_6_method_21_code
def yX4_quotient : MethodName := ⟨RX4, "quotient", "(JJ)J"⟩
abbrev cX4_joins : ByteArray := prog_6_method_22_code
def yX4_joins : MethodName := ⟨RX4, "joins", "()V"⟩
abbrev cX4_joinsAll : ByteArray := prog_6_method_23_code
def yX4_joinsAll : MethodName := ⟨RX4, "joinsAll", "(I)V"⟩
abbrev cX4_reads : ByteArray := prog_6_method_24_code
def yX4_reads : MethodName := ⟨RX4, "reads", "(IZ)V"⟩
abbrev cX4_works : ByteArray := prog_6_method_25_code
def yX4_works : MethodName := ⟨RX4, "works", "(I)V"⟩
abbrev cX4_worksAll : ByteArray := prog_6_method_26_code
def yX4_worksAll : MethodName := ⟨RX4, "worksAll", "()V"⟩
abbrev cX4_areKnown : ByteArray := prog_6_method_27_code
def yX4_areKnown : MethodName := ⟨RX4, "areKnown", "(I)Z"⟩
abbrev cX4_errorOfSet : ByteArray := prog_6_method_28_code
def yX4_errorOfSet : MethodName := ⟨RX4, "errorOfSet", "(I)I"⟩
abbrev cX4_set : ByteArray := prog_6_method_29_code
def yX4_set : MethodName := ⟨RX4, "set", "(I)I"⟩
abbrev cX4_puts : ByteArray := prog_6_method_30_code
def yX4_puts : MethodName := ⟨RX4, "puts", "(II)I"⟩
abbrev cX4_put : ByteArray := prog_6_method_31_code
def yX4_put : MethodName := ⟨RX4, "put", "(II)I"⟩
abbrev cX4_clear : ByteArray := prog_6_method_32_code
def yX4_clear : MethodName := ⟨RX4, "clear", "(I)I"⟩
abbrev cX4_open : ByteArray := prog_6_method_33_code
def yX4_open : MethodName := ⟨RX4, "open", "()I"⟩
abbrev cX4_isOther : ByteArray := prog_6_method_34_code
def yX4_isOther : MethodName := ⟨RX4, "isOther", "(I)Z"⟩
abbrev cX4_drop : ByteArray := prog_6_method_35_code
def yX4_drop : MethodName := ⟨RX4, "drop", "()I"⟩
abbrev cX4_keep : ByteArray := prog_6_method_36_code
def yX4_keep : MethodName := ⟨RX4, "keep", "()I"⟩
abbrev cX4_layers : ByteArray := prog_6_method_37_code
def yX4_layers : MethodName := ⟨RX4, "layers", "()I"⟩
abbrev cX4_drafted : ByteArray := prog_6_method_38_code
def yX4_drafted : MethodName := ⟨RX4, "drafted", "()I"⟩
abbrev cX4_errorOfValue : ByteArray := prog_6_method_39_code
def yX4_errorOfValue : MethodName := ⟨RX4, "errorOfValue", "(I)I"⟩
abbrev cX4_value : ByteArray := prog_6_method_40_code
def yX4_value : MethodName := ⟨RX4, "value", "(I)J"⟩
abbrev cX4_valueAnew : ByteArray := prog_6_method_41_code
def yX4_valueAnew : MethodName := ⟨RX4, "valueAnew", "(I)J"⟩
abbrev cX4_signs : ByteArray := prog_6_method_42_code
def yX4_signs : MethodName := ⟨RX4, "signs", "(I)I"⟩
abbrev cX4_level : ByteArray := prog_6_method_43_code
def yX4_level : MethodName := ⟨RX4, "level", "(I)I"⟩
abbrev cX4_depends : ByteArray := prog_6_method_44_code
def yX4_depends : MethodName := ⟨RX4, "depends", "(II)Z"⟩
abbrev cX4_faulty : ByteArray := prog_6_method_45_code
def yX4_faulty : MethodName := ⟨RX4, "faulty", "()I"⟩
abbrev cX4_foundAnew : ByteArray := prog_6_method_46_code
def yX4_foundAnew : MethodName := ⟨RX4, "foundAnew", "()I"⟩
abbrev cX4_side : ByteArray := prog_6_method_47_code
def yX4_side : MethodName := ⟨RX4, "side", "(IIII)I"⟩
abbrev cX4_sought : ByteArray := prog_6_method_48_code
def yX4_sought : MethodName := ⟨RX4, "sought", "(IIIII)I"⟩
abbrev cX4_errorOfSeek : ByteArray := prog_6_method_49_code
def yX4_errorOfSeek : MethodName := ⟨RX4, "errorOfSeek", "(IIIII)I"⟩
abbrev cX4_seek : ByteArray := prog_6_method_50_code
def yX4_seek : MethodName := ⟨RX4, "seek", "(IIIII)I"⟩
def RJx145de : String := "java/io/Serializable"
def TJx145de : u_T := fun k => match k with
  | _ => ("", "", "", false)
def tyJx145de : Nat → FieldType := fun k => match k with
  | _ => .int
abbrev wsJx145de0 : List Cond := u_ws RJx145de TJx145de 0
theorem nmJx145de : ∀ a, a < 0 → ∀ b, b < 0 → a ≠ b → (TJx145de a).2.1 ≠ (TJx145de b).2.1 := by decide +kernel
theorem tyJx145de_ok : ∀ k, k < 0 → parseFieldDescriptor (TJx145de k).2.2.1 = some (tyJx145de k) := by decide +kernel
def RJx00060 : String := "java/lang/ArrayIndexOutOfBoundsException"
def TJx00060 : u_T := fun k => match k with
  | 0 => ("java/lang/Throwable", "backtrace", "Ljava/lang/Object;", false)
  | 1 => ("java/lang/Throwable", "detailMessage", "Ljava/lang/String;", false)
  | 2 => ("java/lang/Throwable", "cause", "Ljava/lang/Throwable;", false)
  | 3 => ("java/lang/Throwable", "stackTrace", "[Ljava/lang/StackTraceElement;", false)
  | 4 => ("java/lang/Throwable", "depth", "I", false)
  | _ => ("java/lang/Throwable", "suppressedExceptions", "Ljava/util/List;", false)
def tyJx00060 : Nat → FieldType := fun k => match k with
  | 0 => .object "java/lang/Object"
  | 1 => .object "java/lang/String"
  | 2 => .object "java/lang/Throwable"
  | 3 => .array (.object "java/lang/StackTraceElement")
  | 4 => .int
  | _ => .object "java/util/List"
abbrev wsJx000600 : List Cond := u_ws RJx00060 TJx00060 6
theorem nmJx00060 : ∀ a, a < 6 → ∀ b, b < 6 → a ≠ b → (TJx00060 a).2.1 ≠ (TJx00060 b).2.1 := by decide +kernel
theorem tyJx00060_ok : ∀ k, k < 6 → parseFieldDescriptor (TJx00060 k).2.2.1 = some (tyJx00060 k) := by decide +kernel
abbrev cJx00060_init_a7421 : ByteArray := prog_9_method_2_code
def yJx00060_init_a7421 : MethodName := ⟨RJx00060, "<init>", "(Ljava/lang/String;)V"⟩
def RJx8e188 : String := "java/lang/Cloneable"
def TJx8e188 : u_T := fun k => match k with
  | _ => ("", "", "", false)
def tyJx8e188 : Nat → FieldType := fun k => match k with
  | _ => .int
abbrev wsJx8e1880 : List Cond := u_ws RJx8e188 TJx8e188 0
theorem nmJx8e188 : ∀ a, a < 0 → ∀ b, b < 0 → a ≠ b → (TJx8e188 a).2.1 ≠ (TJx8e188 b).2.1 := by decide +kernel
theorem tyJx8e188_ok : ∀ k, k < 0 → parseFieldDescriptor (TJx8e188 k).2.2.1 = some (tyJx8e188 k) := by decide +kernel
def RJ6 : String := "java/lang/Integer"
def TJ6 : u_T := fun k => match k with
  | _ => ("", "", "", false)
def tyJ6 : Nat → FieldType := fun k => match k with
  | _ => .int
abbrev wsJ60 : List Cond := u_ws RJ6 TJ6 0
theorem nmJ6 : ∀ a, a < 0 → ∀ b, b < 0 → a ≠ b → (TJ6 a).2.1 ≠ (TJ6 b).2.1 := by decide +kernel
theorem tyJ6_ok : ∀ k, k < 0 → parseFieldDescriptor (TJ6 k).2.2.1 = some (tyJ6 k) := by decide +kernel
abbrev cJ6_bitCount_0f7a4 : ByteArray := prog_15_method_49_code
def yJ6_bitCount_0f7a4 : MethodName := ⟨RJ6, "bitCount", "(I)I"⟩
def RJ9 : String := "java/lang/Math"
def TJ9 : u_T := fun k => match k with
  | _ => ("", "", "", false)
def tyJ9 : Nat → FieldType := fun k => match k with
  | _ => .int
abbrev wsJ90 : List Cond := u_ws RJ9 TJ9 0
theorem nmJ9 : ∀ a, a < 0 → ∀ b, b < 0 → a ≠ b → (TJ9 a).2.1 ≠ (TJ9 b).2.1 := by decide +kernel
theorem tyJ9_ok : ∀ k, k < 0 → parseFieldDescriptor (TJ9 k).2.2.1 = some (tyJ9 k) := by decide +kernel
abbrev cJ9_floorDiv_f86c9 : ByteArray := prog_16_method_49_code
def yJ9_floorDiv_f86c9 : MethodName := ⟨RJ9, "floorDiv", "(JJ)J"⟩
abbrev cJ9_abs_067f4 : ByteArray := prog_16_method_61_code
def yJ9_abs_067f4 : MethodName := ⟨RJ9, "abs", "(J)J"⟩
abbrev cJ9_min_7cf53 : ByteArray := prog_16_method_69_code
def yJ9_min_7cf53 : MethodName := ⟨RJ9, "min", "(II)I"⟩
def RJ0 : String := "java/lang/String"
def TJ0 : u_T := fun k => match k with
  | 0 => ("java/lang/String", "value", "[B", true)
  | _ => ("java/lang/String", "coder", "B", true)
def tyJ0 : Nat → FieldType := fun k => match k with
  | 0 => .array .byte
  | _ => .byte
abbrev wsJ00 : List Cond := u_ws RJ0 TJ0 2
theorem nmJ0 : ∀ a, a < 2 → ∀ b, b < 2 → a ≠ b → (TJ0 a).2.1 ≠ (TJ0 b).2.1 := by decide +kernel
theorem tyJ0_ok : ∀ k, k < 2 → parseFieldDescriptor (TJ0 k).2.2.1 = some (tyJ0 k) := by decide +kernel
def RJ10 : String := "java/lang/System"
def TJ10 : u_T := fun k => match k with
  | _ => ("", "", "", false)
def tyJ10 : Nat → FieldType := fun k => match k with
  | _ => .int
abbrev wsJ100 : List Cond := u_ws RJ10 TJ10 0
theorem nmJ10 : ∀ a, a < 0 → ∀ b, b < 0 → a ≠ b → (TJ10 a).2.1 ≠ (TJ10 b).2.1 := by decide +kernel
theorem tyJ10_ok : ∀ k, k < 0 → parseFieldDescriptor (TJ10 k).2.2.1 = some (tyJ10 k) := by decide +kernel
def RJ7 : String := "java/util/Arrays"
def TJ7 : u_T := fun k => match k with
  | _ => ("", "", "", false)
def tyJ7 : Nat → FieldType := fun k => match k with
  | _ => .int
abbrev wsJ70 : List Cond := u_ws RJ7 TJ7 0
theorem nmJ7 : ∀ a, a < 0 → ∀ b, b < 0 → a ≠ b → (TJ7 a).2.1 ≠ (TJ7 b).2.1 := by decide +kernel
theorem tyJ7_ok : ∀ k, k < 0 → parseFieldDescriptor (TJ7 k).2.2.1 = some (tyJ7 k) := by decide +kernel
abbrev cJ7_copyOf_59c91 : ByteArray := prog_21_method_123_code
def yJ7_copyOf_59c91 : MethodName := ⟨RJ7, "copyOf", "([II)[I"⟩
def RL : String := "GoalseekOfficeLaw"
abbrev cL_number : ByteArray := method_3_code
def yL_number : MethodName := ⟨RL, "number", "(LGoalseekOffice;I[J)I"⟩
abbrev cL_cell : ByteArray := method_4_code
def yL_cell : MethodName := ⟨RL, "cell", "(LGoalseekOffice;I[J)I"⟩
abbrev cL_sign : ByteArray := method_5_code
def yL_sign : MethodName := ⟨RL, "sign", "(LGoalseekOffice;I[J)I"⟩
abbrev cL_set : ByteArray := method_6_code
def yL_set : MethodName := ⟨RL, "set", "(LGoalseekOffice;I[J)I"⟩
abbrev cL_put : ByteArray := method_7_code
def yL_put : MethodName := ⟨RL, "put", "(LGoalseekOffice;II[J)I"⟩
abbrev cL_clear : ByteArray := method_8_code
def yL_clear : MethodName := ⟨RL, "clear", "(LGoalseekOffice;I[J)I"⟩
abbrev cL_open : ByteArray := method_9_code
def yL_open : MethodName := ⟨RL, "open", "(LGoalseekOffice;[J)I"⟩
abbrev cL_drop : ByteArray := method_10_code
def yL_drop : MethodName := ⟨RL, "drop", "(LGoalseekOffice;[J)I"⟩
abbrev cL_keep : ByteArray := method_11_code
def yL_keep : MethodName := ⟨RL, "keep", "(LGoalseekOffice;[J)I"⟩
abbrev cL_value : ByteArray := method_12_code
def yL_value : MethodName := ⟨RL, "value", "(LGoalseekOffice;I[J)I"⟩
abbrev cL_valueAnew : ByteArray := method_13_code
def yL_valueAnew : MethodName := ⟨RL, "valueAnew", "(LGoalseekOffice;I[J)I"⟩
abbrev cL_signs : ByteArray := method_14_code
def yL_signs : MethodName := ⟨RL, "signs", "(LGoalseekOffice;I[J)I"⟩
abbrev cL_level : ByteArray := method_15_code
def yL_level : MethodName := ⟨RL, "level", "(LGoalseekOffice;I[J)I"⟩
abbrev cL_depends : ByteArray := method_16_code
def yL_depends : MethodName := ⟨RL, "depends", "(LGoalseekOffice;II[J)I"⟩
abbrev cL_seek : ByteArray := method_17_code
def yL_seek : MethodName := ⟨RL, "seek", "(LGoalseekOffice;IIIII[J)I"⟩
abbrev cL_law : ByteArray := code
def yL_law : MethodName := ⟨RL, "law", "([I)Z"⟩
def wsX0_init : List Cond := .code yX0_init cX0_init 1 none :: ([.methodLink RX0 3 objectInit, .instanceMethod objectInit, .code objectInit ⟨#[0xb1]⟩ 1 none, .arrayClass .int, .fieldLink RX0 9 "GoalseekOffice$Draft" "signs" "[I"] ++ wsX00)
def wsX0_write : List Cond := .code yX0_write cX0_write 2 (some .int) :: ([.fieldLink RX0 15 "GoalseekOffice$Draft" "count" "I", .fieldLink RX0 9 "GoalseekOffice$Draft" "signs" "[I"] ++ wsX00 ++ (vx_atM "java/lang/ArrayIndexOutOfBoundsException" ["java/lang/IndexOutOfBoundsException", "java/lang/RuntimeException", "java/lang/Exception"]).filter goodWord)
def wsX0_faultPlace : List Cond := .code yX0_faultPlace cX0_faultPlace 5 (some .int) :: ([.fieldLink RX0 15 "GoalseekOffice$Draft" "count" "I", .fieldLink RX0 9 "GoalseekOffice$Draft" "signs" "[I"] ++ wsX00 ++ (vx_atM "java/lang/ArrayIndexOutOfBoundsException" ["java/lang/IndexOutOfBoundsException", "java/lang/RuntimeException", "java/lang/Exception"]).filter goodWord)
def wsJ7_copyOf_59c91 : List Cond := .code yJ7_copyOf_59c91 cJ7_copyOf_59c91 3 (some (.array .int)) :: ([.methodLink RJ7 316 ⟨"[I", "clone", "()Ljava/lang/Object;"⟩, .sameMethod "[I" "java/lang/Object" "clone" "()Ljava/lang/Object;", .native ⟨"java/lang/Object", "clone", "()Ljava/lang/Object;"⟩, .instanceMethod ⟨"java/lang/Object", "clone", "()Ljava/lang/Object;"⟩, .selects "[I" ⟨"[I", "clone", "()Ljava/lang/Object;"⟩ ⟨"java/lang/Object", "clone", "()Ljava/lang/Object;"⟩, .classLink RJ7 317 "[I", .arrayClass .int, .methodLink RJ7 304 Lib.Math.min.name, .static Lib.Math.min.name, .initialized "java/lang/Math", .code Lib.Math.min.name Lib.Math.min.code 2 (some .int), .methodLink RJ7 150 arraycopyName, .native arraycopyName, .static arraycopyName, .initialized "java/lang/System"])
def wsX3_only : List Cond := .code yX3_only cX3_only 1 (some .int) :: ([])
def wsX1_init : List Cond := .code yX1_init cX1_init 4 none :: ([.methodLink RX1 3 objectInit, .instanceMethod objectInit, .code objectInit ⟨#[0xb1]⟩ 1 none, .fieldLink RX1 9 "GoalseekOffice$Formula" "signs" "[I", .fieldLink RX1 19 "GoalseekOffice$Formula" "named" "I", .static yX3_only, .initialized RX3, .code yX3_only cX3_only 1 (some .int)] ++ wsX10 ++ (vx_atM "java/lang/ArrayIndexOutOfBoundsException" ["java/lang/IndexOutOfBoundsException", "java/lang/RuntimeException", "java/lang/Exception"]).filter goodWord)
def wsX0_toFormula_r1 : List Cond := [Cond.classLink RX0 19 RX1, Cond.instantiable RX1 2, Cond.initialized RX1, Cond.fieldLink RX0 9 "GoalseekOffice$Draft" "signs" "[I", Cond.fieldLink RX0 15 "GoalseekOffice$Draft" "count" "I", Cond.methodLink RX0 21 yJ7_copyOf_59c91, Cond.static yJ7_copyOf_59c91, Cond.initialized RJ7, Cond.code yJ7_copyOf_59c91 cJ7_copyOf_59c91 3 (some (.array .int)), Cond.methodLink RJ7 316 ⟨"[I", "clone", "()Ljava/lang/Object;"⟩, Cond.sameMethod "[I" "java/lang/Object" "clone" "()Ljava/lang/Object;", Cond.native ⟨"java/lang/Object", "clone", "()Ljava/lang/Object;"⟩, Cond.instanceMethod ⟨"java/lang/Object", "clone", "()Ljava/lang/Object;"⟩, Cond.selects "[I" ⟨"[I", "clone", "()Ljava/lang/Object;"⟩ ⟨"java/lang/Object", "clone", "()Ljava/lang/Object;"⟩, Cond.classLink RJ7 317 "[I", Cond.arrayClass .int, Cond.methodLink RJ7 304 Lib.Math.min.name, Cond.static Lib.Math.min.name, Cond.initialized "java/lang/Math", Cond.code Lib.Math.min.name Lib.Math.min.code 2 (some .int), Cond.methodLink RJ7 150 arraycopyName, Cond.native arraycopyName, Cond.static arraycopyName, Cond.initialized "java/lang/System"]
def wsX0_toFormula_r2 : List Cond := [Cond.instanceMethod yX1_init, Cond.code yX1_init cX1_init 4 none, Cond.methodLink RX1 3 objectInit, Cond.instanceMethod objectInit, Cond.code objectInit ⟨#[0xb1]⟩ 1 none, Cond.fieldLink RX1 9 "GoalseekOffice$Formula" "signs" "[I", Cond.fieldLink RX1 19 "GoalseekOffice$Formula" "named" "I", Cond.static yX3_only, Cond.initialized RX3, Cond.code yX3_only cX3_only 1 (some .int)]
def wsX0_toFormula : List Cond := .code yX0_toFormula cX0_toFormula 1 (some (.object "GoalseekOffice$Formula")) :: ((wsX0_toFormula_r1 ++ wsX0_toFormula_r2) ++ wsX10 ++ wsX00 ++ (vx_atM "java/lang/ArrayIndexOutOfBoundsException" ["java/lang/IndexOutOfBoundsException", "java/lang/RuntimeException", "java/lang/Exception"]).filter goodWord)
def wsX1_isEmpty : List Cond := .code yX1_isEmpty cX1_isEmpty 1 (some .boolean) :: ([.fieldLink RX1 9 "GoalseekOffice$Formula" "signs" "[I"] ++ wsX10)
def wsX1_canBeInput : List Cond := .code yX1_canBeInput cX1_canBeInput 1 (some .boolean) :: ([.fieldLink RX1 9 "GoalseekOffice$Formula" "signs" "[I"] ++ wsX10 ++ (vx_atM "java/lang/ArrayIndexOutOfBoundsException" ["java/lang/IndexOutOfBoundsException", "java/lang/RuntimeException", "java/lang/Exception"]).filter goodWord)
def wsX1_sameAs : List Cond := .code yX1_sameAs cX1_sameAs 3 (some .boolean) :: ([.fieldLink RX1 9 "GoalseekOffice$Formula" "signs" "[I"] ++ wsX10 ++ (vx_atM "java/lang/ArrayIndexOutOfBoundsException" ["java/lang/IndexOutOfBoundsException", "java/lang/RuntimeException", "java/lang/Exception"]).filter goodWord)
def wsX2_init : List Cond := .code yX2_init cX2_init 1 none :: ([.methodLink RX2 3 objectInit, .instanceMethod objectInit, .code objectInit ⟨#[0xb1]⟩ 1 none, .arrayClass .int, .fieldLink RX2 9 "GoalseekOffice$Reckoner" "signs" "[I", .arrayClass .long, .fieldLink RX2 15 "GoalseekOffice$Reckoner" "row" "[J"] ++ wsX20)
def wsX2_take : List Cond := .code yX2_take cX2_take 3 none :: ([.fieldLink RX2 9 "GoalseekOffice$Reckoner" "signs" "[I", .fieldLink RX2 15 "GoalseekOffice$Reckoner" "row" "[J", .fieldLink RX2 22 "GoalseekOffice$Reckoner" "at" "I"] ++ wsX10 ++ wsX20)
def wsJ9_floorDiv_f86c9 : List Cond := .code yJ9_floorDiv_f86c9 cJ9_floorDiv_f86c9 6 (some .long) :: ([])
def wsX2_combine : List Cond := .code yX2_combine cX2_combine 7 (some .long) :: ([.constantLong RX2 37 (-9223372036854775808), .methodLink RX2 42 Lib.MathLoose.abs_long.x, .static Lib.MathLoose.abs_long.x, .initialized "java/lang/Math", .code Lib.MathLoose.abs_long.x Lib.MathLoose.abs_long.code 2 (some .long), .constantLong RX2 48 (1000000000000), .constantLong RX2 54 (-1000000000000), .methodLink RX2 50 yJ9_floorDiv_f86c9, .static yJ9_floorDiv_f86c9, .initialized RJ9, .code yJ9_floorDiv_f86c9 cJ9_floorDiv_f86c9 6 (some .long)] ++ (vx_atM "java/lang/ArithmeticException" ["java/lang/RuntimeException", "java/lang/Exception"]).filter goodWord)
def wsX2_factor_r1 : List Cond := [Cond.fieldLink RX2 22 "GoalseekOffice$Reckoner" "at" "I", Cond.fieldLink RX2 9 "GoalseekOffice$Reckoner" "signs" "[I", Cond.constantLong RX2 37 (-9223372036854775808), Cond.fieldLink RX2 15 "GoalseekOffice$Reckoner" "row" "[J", Cond.methodLink RX2 39 yX2_sum, Cond.instanceMethod yX2_sum, Cond.selects RX2 yX2_sum yX2_sum, Cond.initialized RX2, Cond.code yX2_product cX2_product 5 (some .long), Cond.methodLink RX2 34 yX2_factor, Cond.instanceMethod yX2_factor, Cond.selects RX2 yX2_factor yX2_factor, Cond.methodLink RX2 30 yX2_combine, Cond.static yX2_combine, Cond.code yX2_combine cX2_combine 7 (some .long), Cond.methodLink RX2 42 Lib.MathLoose.abs_long.x, Cond.static Lib.MathLoose.abs_long.x, Cond.initialized "java/lang/Math", Cond.code Lib.MathLoose.abs_long.x Lib.MathLoose.abs_long.code 2 (some .long), Cond.constantLong RX2 48 (1000000000000), Cond.constantLong RX2 54 (-1000000000000), Cond.methodLink RX2 50 yJ9_floorDiv_f86c9, Cond.static yJ9_floorDiv_f86c9, Cond.initialized RJ9]
def wsX2_factor_r2 : List Cond := [Cond.code yJ9_floorDiv_f86c9 cJ9_floorDiv_f86c9 6 (some .long), Cond.code yX2_sum cX2_sum 5 (some .long), Cond.methodLink RX2 26 yX2_product, Cond.instanceMethod yX2_product, Cond.selects RX2 yX2_product yX2_product]
def wsX2_factor : List Cond := .code yX2_factor cX2_factor 6 (some .long) :: ((wsX2_factor_r1 ++ wsX2_factor_r2) ++ wsX20 ++ (vx_atM "java/lang/ArrayIndexOutOfBoundsException" ["java/lang/IndexOutOfBoundsException", "java/lang/RuntimeException", "java/lang/Exception"]).filter goodWord)
def wsX2_product_r1 : List Cond := [Cond.fieldLink RX2 22 "GoalseekOffice$Reckoner" "at" "I", Cond.fieldLink RX2 9 "GoalseekOffice$Reckoner" "signs" "[I", Cond.methodLink RX2 34 yX2_factor, Cond.instanceMethod yX2_factor, Cond.selects RX2 yX2_factor yX2_factor, Cond.initialized RX2, Cond.methodLink RX2 30 yX2_combine, Cond.static yX2_combine, Cond.code yX2_combine cX2_combine 7 (some .long), Cond.constantLong RX2 37 (-9223372036854775808), Cond.methodLink RX2 42 Lib.MathLoose.abs_long.x, Cond.static Lib.MathLoose.abs_long.x, Cond.initialized "java/lang/Math", Cond.code Lib.MathLoose.abs_long.x Lib.MathLoose.abs_long.code 2 (some .long), Cond.constantLong RX2 48 (1000000000000), Cond.constantLong RX2 54 (-1000000000000), Cond.methodLink RX2 50 yJ9_floorDiv_f86c9, Cond.static yJ9_floorDiv_f86c9, Cond.initialized RJ9, Cond.code yJ9_floorDiv_f86c9 cJ9_floorDiv_f86c9 6 (some .long), Cond.code yX2_factor cX2_factor 6 (some .long), Cond.fieldLink RX2 15 "GoalseekOffice$Reckoner" "row" "[J", Cond.methodLink RX2 39 yX2_sum, Cond.instanceMethod yX2_sum]
def wsX2_product_r2 : List Cond := [Cond.selects RX2 yX2_sum yX2_sum, Cond.code yX2_sum cX2_sum 5 (some .long), Cond.methodLink RX2 26 yX2_product, Cond.instanceMethod yX2_product, Cond.selects RX2 yX2_product yX2_product]
def wsX2_product : List Cond := .code yX2_product cX2_product 5 (some .long) :: ((wsX2_product_r1 ++ wsX2_product_r2) ++ wsX20 ++ (vx_atM "java/lang/ArrayIndexOutOfBoundsException" ["java/lang/IndexOutOfBoundsException", "java/lang/RuntimeException", "java/lang/Exception"]).filter goodWord ++ (vx_atM "java/lang/ArithmeticException" ["java/lang/RuntimeException", "java/lang/Exception"]).filter goodWord)
def wsX2_sum_r1 : List Cond := [Cond.fieldLink RX2 22 "GoalseekOffice$Reckoner" "at" "I", Cond.fieldLink RX2 9 "GoalseekOffice$Reckoner" "signs" "[I", Cond.methodLink RX2 26 yX2_product, Cond.instanceMethod yX2_product, Cond.selects RX2 yX2_product yX2_product, Cond.initialized RX2, Cond.methodLink RX2 30 yX2_combine, Cond.static yX2_combine, Cond.code yX2_combine cX2_combine 7 (some .long), Cond.constantLong RX2 37 (-9223372036854775808), Cond.methodLink RX2 42 Lib.MathLoose.abs_long.x, Cond.static Lib.MathLoose.abs_long.x, Cond.initialized "java/lang/Math", Cond.code Lib.MathLoose.abs_long.x Lib.MathLoose.abs_long.code 2 (some .long), Cond.constantLong RX2 48 (1000000000000), Cond.constantLong RX2 54 (-1000000000000), Cond.methodLink RX2 50 yJ9_floorDiv_f86c9, Cond.static yJ9_floorDiv_f86c9, Cond.initialized RJ9, Cond.code yJ9_floorDiv_f86c9 cJ9_floorDiv_f86c9 6 (some .long), Cond.code yX2_factor cX2_factor 6 (some .long), Cond.fieldLink RX2 15 "GoalseekOffice$Reckoner" "row" "[J", Cond.methodLink RX2 39 yX2_sum, Cond.instanceMethod yX2_sum]
def wsX2_sum_r2 : List Cond := [Cond.selects RX2 yX2_sum yX2_sum, Cond.code yX2_product cX2_product 5 (some .long), Cond.methodLink RX2 34 yX2_factor, Cond.instanceMethod yX2_factor, Cond.selects RX2 yX2_factor yX2_factor]
def wsX2_sum : List Cond := .code yX2_sum cX2_sum 5 (some .long) :: ((wsX2_sum_r1 ++ wsX2_sum_r2) ++ wsX20 ++ (vx_atM "java/lang/ArrayIndexOutOfBoundsException" ["java/lang/IndexOutOfBoundsException", "java/lang/RuntimeException", "java/lang/Exception"]).filter goodWord ++ (vx_atM "java/lang/ArithmeticException" ["java/lang/RuntimeException", "java/lang/Exception"]).filter goodWord)
def wsX3_init_r1 : List Cond := [Cond.methodLink RX3 5 objectInit, Cond.instanceMethod objectInit, Cond.code objectInit ⟨#[0xb1]⟩ 1 none, Cond.classLink RX3 11 RX0, Cond.instantiable RX0 2, Cond.initialized RX0, Cond.fieldLink RX3 14 "GoalseekOffice" "draft" "LGoalseekOffice$Draft;", Cond.classLink RX3 18 RX2, Cond.instantiable RX2 3, Cond.initialized RX2, Cond.fieldLink RX3 21 "GoalseekOffice" "reckoner" "LGoalseekOffice$Reckoner;", Cond.classLink RX3 25 RX1, Cond.instantiable RX1 2, Cond.initialized RX1, Cond.arrayClass .int, Cond.fieldLink RX3 30 "GoalseekOffice" "empty" "LGoalseekOffice$Formula;", Cond.fieldLink RX3 34 "GoalseekOffice" "formulas" "[LGoalseekOffice$Formula;", Cond.fieldLink RX3 38 "GoalseekOffice" "remembered" "[LGoalseekOffice$Formula;", Cond.arrayClass .long, Cond.fieldLink RX3 41 "GoalseekOffice" "values" "[J", Cond.fieldLink RX3 45 "GoalseekOffice" "trial" "[J", Cond.instanceMethod yX0_init, Cond.code yX0_init cX0_init 1 none, Cond.methodLink RX0 3 objectInit]
def wsX3_init_r2 : List Cond := [Cond.fieldLink RX0 9 "GoalseekOffice$Draft" "signs" "[I", Cond.instanceMethod yX2_init, Cond.code yX2_init cX2_init 1 none, Cond.methodLink RX2 3 objectInit, Cond.fieldLink RX2 9 "GoalseekOffice$Reckoner" "signs" "[I", Cond.fieldLink RX2 15 "GoalseekOffice$Reckoner" "row" "[J", Cond.instanceMethod yX1_init, Cond.code yX1_init cX1_init 4 none, Cond.methodLink RX1 3 objectInit, Cond.fieldLink RX1 9 "GoalseekOffice$Formula" "signs" "[I", Cond.fieldLink RX1 19 "GoalseekOffice$Formula" "named" "I", Cond.static yX3_only, Cond.initialized RX3, Cond.code yX3_only cX3_only 1 (some .int)]
def wsX3_init : List Cond := .code yX3_init cX3_init 2 none :: ((wsX3_init_r1 ++ wsX3_init_r2) ++ wsX00 ++ wsX30 ++ wsX20 ++ wsX10 ++ (vx_atM "java/lang/ArrayIndexOutOfBoundsException" ["java/lang/IndexOutOfBoundsException", "java/lang/RuntimeException", "java/lang/Exception"]).filter goodWord)
def wsX3_requireNumber : List Cond := .code yX3_requireNumber cX3_requireNumber 1 none :: ([.classLink RX3 62 "java/lang/IllegalArgumentException", .initialized "java/lang/IllegalArgumentException", .constant RX3 160 (999999)] ++ (vx_atS RX3 66 "java/lang/IllegalArgumentException" ["java/lang/RuntimeException", "java/lang/Exception"]).filter goodWord)
def wsX3_requireRoom : List Cond := .code yX3_requireRoom cX3_requireRoom 1 none :: ([.classLink RX3 93 "java/lang/IllegalStateException", .initialized "java/lang/IllegalStateException", .fieldLink RX3 14 "GoalseekOffice" "draft" "LGoalseekOffice$Draft;"] ++ wsX30 ++ wsX00 ++ (vx_atS RX3 97 "java/lang/IllegalStateException" ["java/lang/RuntimeException", "java/lang/Exception"]).filter goodWord)
def wsX3_number : List Cond := .code yX3_number cX3_number 2 (some .int) :: ([.fieldLink RX3 14 "GoalseekOffice" "draft" "LGoalseekOffice$Draft;", .methodLink RX3 48 yX3_requireNumber, .static yX3_requireNumber, .initialized RX3, .code yX3_requireNumber cX3_requireNumber 1 none, .classLink RX3 62 "java/lang/IllegalArgumentException", .initialized "java/lang/IllegalArgumentException", .constant RX3 160 (999999), .methodLink RX3 52 yX3_requireRoom, .instanceMethod yX3_requireRoom, .selects RX3 yX3_requireRoom yX3_requireRoom, .code yX3_requireRoom cX3_requireRoom 1 none, .classLink RX3 93 "java/lang/IllegalStateException", .initialized "java/lang/IllegalStateException", .instanceMethod yX0_write, .initialized RX0, .selects RX0 yX0_write yX0_write, .code yX0_write cX0_write 2 (some .int), .fieldLink RX0 15 "GoalseekOffice$Draft" "count" "I", .fieldLink RX0 9 "GoalseekOffice$Draft" "signs" "[I"] ++ wsX30 ++ wsX00 ++ (vx_atS RX3 66 "java/lang/IllegalArgumentException" ["java/lang/RuntimeException", "java/lang/Exception"]).filter goodWord ++ (vx_atS RX3 97 "java/lang/IllegalStateException" ["java/lang/RuntimeException", "java/lang/Exception"]).filter goodWord ++ (vx_atM "java/lang/ArrayIndexOutOfBoundsException" ["java/lang/IndexOutOfBoundsException", "java/lang/RuntimeException", "java/lang/Exception"]).filter goodWord)
def wsX3_requireCell : List Cond := .code yX3_requireCell cX3_requireCell 1 none :: ([.classLink RX3 204 "java/lang/IndexOutOfBoundsException", .initialized "java/lang/IndexOutOfBoundsException"] ++ (vx_atS RX3 208 "java/lang/IndexOutOfBoundsException" ["java/lang/RuntimeException", "java/lang/Exception"]).filter goodWord)
def wsX3_cell : List Cond := .code yX3_cell cX3_cell 2 (some .int) :: ([.fieldLink RX3 14 "GoalseekOffice" "draft" "LGoalseekOffice$Draft;", .methodLink RX3 59 yX3_requireCell, .static yX3_requireCell, .initialized RX3, .code yX3_requireCell cX3_requireCell 1 none, .classLink RX3 204 "java/lang/IndexOutOfBoundsException", .initialized "java/lang/IndexOutOfBoundsException", .methodLink RX3 52 yX3_requireRoom, .instanceMethod yX3_requireRoom, .selects RX3 yX3_requireRoom yX3_requireRoom, .code yX3_requireRoom cX3_requireRoom 1 none, .classLink RX3 93 "java/lang/IllegalStateException", .initialized "java/lang/IllegalStateException", .instanceMethod yX0_write, .initialized RX0, .selects RX0 yX0_write yX0_write, .code yX0_write cX0_write 2 (some .int), .fieldLink RX0 15 "GoalseekOffice$Draft" "count" "I", .fieldLink RX0 9 "GoalseekOffice$Draft" "signs" "[I"] ++ wsX30 ++ wsX00 ++ (vx_atS RX3 208 "java/lang/IndexOutOfBoundsException" ["java/lang/RuntimeException", "java/lang/Exception"]).filter goodWord ++ (vx_atS RX3 97 "java/lang/IllegalStateException" ["java/lang/RuntimeException", "java/lang/Exception"]).filter goodWord ++ (vx_atM "java/lang/ArrayIndexOutOfBoundsException" ["java/lang/IndexOutOfBoundsException", "java/lang/RuntimeException", "java/lang/Exception"]).filter goodWord)
def wsX3_sign : List Cond := .code yX3_sign cX3_sign 2 (some .int) :: ([.classLink RX3 62 "java/lang/IllegalArgumentException", .initialized "java/lang/IllegalArgumentException", .fieldLink RX3 14 "GoalseekOffice" "draft" "LGoalseekOffice$Draft;", .methodLink RX3 52 yX3_requireRoom, .instanceMethod yX3_requireRoom, .selects RX3 yX3_requireRoom yX3_requireRoom, .initialized RX3, .code yX3_requireRoom cX3_requireRoom 1 none, .classLink RX3 93 "java/lang/IllegalStateException", .initialized "java/lang/IllegalStateException", .instanceMethod yX0_write, .initialized RX0, .selects RX0 yX0_write yX0_write, .code yX0_write cX0_write 2 (some .int), .fieldLink RX0 15 "GoalseekOffice$Draft" "count" "I", .fieldLink RX0 9 "GoalseekOffice$Draft" "signs" "[I"] ++ wsX30 ++ wsX00 ++ (vx_atS RX3 66 "java/lang/IllegalArgumentException" ["java/lang/RuntimeException", "java/lang/Exception"]).filter goodWord ++ (vx_atS RX3 97 "java/lang/IllegalStateException" ["java/lang/RuntimeException", "java/lang/Exception"]).filter goodWord ++ (vx_atM "java/lang/ArrayIndexOutOfBoundsException" ["java/lang/IndexOutOfBoundsException", "java/lang/RuntimeException", "java/lang/Exception"]).filter goodWord)
def wsX3_wipe : List Cond := .code yX3_wipe cX3_wipe 2 (some .int) :: ([.fieldLink RX3 14 "GoalseekOffice" "draft" "LGoalseekOffice$Draft;"] ++ wsX30 ++ wsX00)
def wsX3_fault : List Cond := .code yX3_fault cX3_fault 1 (some .int) :: ([.fieldLink RX3 14 "GoalseekOffice" "draft" "LGoalseekOffice$Draft;", .instanceMethod yX0_faultPlace, .initialized RX0, .selects RX0 yX0_faultPlace yX0_faultPlace, .code yX0_faultPlace cX0_faultPlace 5 (some .int), .fieldLink RX0 15 "GoalseekOffice$Draft" "count" "I", .fieldLink RX0 9 "GoalseekOffice$Draft" "signs" "[I"] ++ wsX30 ++ wsX00 ++ (vx_atM "java/lang/ArrayIndexOutOfBoundsException" ["java/lang/IndexOutOfBoundsException", "java/lang/RuntimeException", "java/lang/Exception"]).filter goodWord)
def wsX3_holds : List Cond := .code yX3_holds cX3_holds 2 (some .boolean) :: ([])
def wsX3_namedByAny : List Cond := .code yX3_namedByAny cX3_namedByAny 4 (some .int) :: ([.fieldLink RX3 34 "GoalseekOffice" "formulas" "[LGoalseekOffice$Formula;", .methodLink RX3 89 yX3_holds, .static yX3_holds, .initialized RX3, .code yX3_holds cX3_holds 2 (some .boolean)] ++ wsX30 ++ wsX10)
def wsX3_withDependencies : List Cond := .code yX3_withDependencies cX3_withDependencies 5 (some .int) :: ([.methodLink RX3 145 yX3_namedByAny, .instanceMethod yX3_namedByAny, .selects RX3 yX3_namedByAny yX3_namedByAny, .initialized RX3, .code yX3_namedByAny cX3_namedByAny 4 (some .int), .fieldLink RX3 34 "GoalseekOffice" "formulas" "[LGoalseekOffice$Formula;", .methodLink RX3 89 yX3_holds, .static yX3_holds, .code yX3_holds cX3_holds 2 (some .boolean)] ++ wsX30 ++ wsX10)
def wsX3_withDependents : List Cond := .code yX3_withDependents cX3_withDependents 6 (some .int) :: ([.fieldLink RX3 34 "GoalseekOffice" "formulas" "[LGoalseekOffice$Formula;", .methodLink RX3 122 yX3_only, .static yX3_only, .initialized RX3, .code yX3_only cX3_only 1 (some .int)] ++ wsX30 ++ wsX10)
def wsX3_workOut_r1 : List Cond := [Cond.fieldLink RX3 34 "GoalseekOffice" "formulas" "[LGoalseekOffice$Formula;", Cond.fieldLink RX3 21 "GoalseekOffice" "reckoner" "LGoalseekOffice$Reckoner;", Cond.methodLink RX3 89 yX3_holds, Cond.static yX3_holds, Cond.initialized RX3, Cond.code yX3_holds cX3_holds 2 (some .boolean), Cond.instanceMethod yX2_take, Cond.initialized RX2, Cond.selects RX2 yX2_take yX2_take, Cond.code yX2_take cX2_take 3 none, Cond.fieldLink RX2 9 "GoalseekOffice$Reckoner" "signs" "[I", Cond.fieldLink RX2 15 "GoalseekOffice$Reckoner" "row" "[J", Cond.fieldLink RX2 22 "GoalseekOffice$Reckoner" "at" "I", Cond.instanceMethod yX1_isEmpty, Cond.initialized RX1, Cond.selects RX1 yX1_isEmpty yX1_isEmpty, Cond.code yX1_isEmpty cX1_isEmpty 1 (some .boolean), Cond.fieldLink RX1 9 "GoalseekOffice$Formula" "signs" "[I", Cond.instanceMethod yX2_sum, Cond.selects RX2 yX2_sum yX2_sum, Cond.code yX2_sum cX2_sum 5 (some .long), Cond.methodLink RX2 26 yX2_product, Cond.instanceMethod yX2_product, Cond.selects RX2 yX2_product yX2_product]
def wsX3_workOut_r2 : List Cond := [Cond.methodLink RX2 30 yX2_combine, Cond.static yX2_combine, Cond.code yX2_combine cX2_combine 7 (some .long), Cond.constantLong RX2 37 (-9223372036854775808), Cond.methodLink RX2 42 Lib.MathLoose.abs_long.x, Cond.static Lib.MathLoose.abs_long.x, Cond.initialized "java/lang/Math", Cond.code Lib.MathLoose.abs_long.x Lib.MathLoose.abs_long.code 2 (some .long), Cond.constantLong RX2 48 (1000000000000), Cond.constantLong RX2 54 (-1000000000000), Cond.methodLink RX2 50 yJ9_floorDiv_f86c9, Cond.static yJ9_floorDiv_f86c9, Cond.initialized RJ9, Cond.code yJ9_floorDiv_f86c9 cJ9_floorDiv_f86c9 6 (some .long), Cond.code yX2_factor cX2_factor 6 (some .long), Cond.methodLink RX2 39 yX2_sum, Cond.code yX2_product cX2_product 5 (some .long), Cond.methodLink RX2 34 yX2_factor, Cond.instanceMethod yX2_factor, Cond.selects RX2 yX2_factor yX2_factor, Cond.methodLink RX3 122 yX3_only, Cond.static yX3_only, Cond.code yX3_only cX3_only 1 (some .int)]
def wsX3_workOut : List Cond := .code yX3_workOut cX3_workOut 7 none :: ((wsX3_workOut_r1 ++ wsX3_workOut_r2) ++ wsX30 ++ wsX10 ++ wsX20 ++ (vx_atM "java/lang/ArrayIndexOutOfBoundsException" ["java/lang/IndexOutOfBoundsException", "java/lang/RuntimeException", "java/lang/Exception"]).filter goodWord ++ (vx_atM "java/lang/ArithmeticException" ["java/lang/RuntimeException", "java/lang/Exception"]).filter goodWord)
def wsJ6_bitCount_0f7a4 : List Cond := .code yJ6_bitCount_0f7a4 cJ6_bitCount_0f7a4 1 (some .int) :: ([.constant RJ6 265 (1431655765), .constant RJ6 266 (858993459), .constant RJ6 267 (252645135)])
def wsX3_findAnew_r1 : List Cond := [Cond.fieldLink RX3 41 "GoalseekOffice" "values" "[J", Cond.fieldLink RX3 153 "GoalseekOffice" "found" "I", Cond.methodLink RX3 185 yX3_withDependents, Cond.instanceMethod yX3_withDependents, Cond.selects RX3 yX3_withDependents yX3_withDependents, Cond.initialized RX3, Cond.code yX3_withDependents cX3_withDependents 6 (some .int), Cond.fieldLink RX3 34 "GoalseekOffice" "formulas" "[LGoalseekOffice$Formula;", Cond.methodLink RX3 122 yX3_only, Cond.static yX3_only, Cond.code yX3_only cX3_only 1 (some .int), Cond.methodLink RX3 137 yX3_workOut, Cond.instanceMethod yX3_workOut, Cond.selects RX3 yX3_workOut yX3_workOut, Cond.code yX3_workOut cX3_workOut 7 none, Cond.fieldLink RX3 21 "GoalseekOffice" "reckoner" "LGoalseekOffice$Reckoner;", Cond.methodLink RX3 89 yX3_holds, Cond.static yX3_holds, Cond.code yX3_holds cX3_holds 2 (some .boolean), Cond.instanceMethod yX2_take, Cond.initialized RX2, Cond.selects RX2 yX2_take yX2_take, Cond.code yX2_take cX2_take 3 none, Cond.fieldLink RX2 9 "GoalseekOffice$Reckoner" "signs" "[I"]
def wsX3_findAnew_r2 : List Cond := [Cond.fieldLink RX2 15 "GoalseekOffice$Reckoner" "row" "[J", Cond.fieldLink RX2 22 "GoalseekOffice$Reckoner" "at" "I", Cond.instanceMethod yX1_isEmpty, Cond.initialized RX1, Cond.selects RX1 yX1_isEmpty yX1_isEmpty, Cond.code yX1_isEmpty cX1_isEmpty 1 (some .boolean), Cond.fieldLink RX1 9 "GoalseekOffice$Formula" "signs" "[I", Cond.instanceMethod yX2_sum, Cond.selects RX2 yX2_sum yX2_sum, Cond.code yX2_sum cX2_sum 5 (some .long), Cond.methodLink RX2 26 yX2_product, Cond.instanceMethod yX2_product, Cond.selects RX2 yX2_product yX2_product, Cond.methodLink RX2 30 yX2_combine, Cond.static yX2_combine, Cond.code yX2_combine cX2_combine 7 (some .long), Cond.constantLong RX2 37 (-9223372036854775808), Cond.methodLink RX2 42 Lib.MathLoose.abs_long.x, Cond.static Lib.MathLoose.abs_long.x, Cond.initialized "java/lang/Math", Cond.code Lib.MathLoose.abs_long.x Lib.MathLoose.abs_long.code 2 (some .long), Cond.constantLong RX2 48 (1000000000000), Cond.constantLong RX2 54 (-1000000000000), Cond.methodLink RX2 50 yJ9_floorDiv_f86c9]
def wsX3_findAnew_r3 : List Cond := [Cond.static yJ9_floorDiv_f86c9, Cond.initialized RJ9, Cond.code yJ9_floorDiv_f86c9 cJ9_floorDiv_f86c9 6 (some .long), Cond.code yX2_factor cX2_factor 6 (some .long), Cond.methodLink RX2 39 yX2_sum, Cond.code yX2_product cX2_product 5 (some .long), Cond.methodLink RX2 34 yX2_factor, Cond.instanceMethod yX2_factor, Cond.selects RX2 yX2_factor yX2_factor, Cond.methodLink RX3 128 yJ6_bitCount_0f7a4, Cond.static yJ6_bitCount_0f7a4, Cond.initialized RJ6, Cond.code yJ6_bitCount_0f7a4 cJ6_bitCount_0f7a4 1 (some .int), Cond.constant RJ6 265 (1431655765), Cond.constant RJ6 266 (858993459), Cond.constant RJ6 267 (252645135)]
def wsX3_findAnew : List Cond := .code yX3_findAnew cX3_findAnew 4 (some .int) :: ((wsX3_findAnew_r1 ++ (wsX3_findAnew_r2 ++ wsX3_findAnew_r3)) ++ wsX30 ++ wsX10 ++ wsX20 ++ (vx_atM "java/lang/ArrayIndexOutOfBoundsException" ["java/lang/IndexOutOfBoundsException", "java/lang/RuntimeException", "java/lang/Exception"]).filter goodWord ++ (vx_atM "java/lang/ArithmeticException" ["java/lang/RuntimeException", "java/lang/Exception"]).filter goodWord)
def wsX3_give_r1 : List Cond := [Cond.fieldLink RX3 34 "GoalseekOffice" "formulas" "[LGoalseekOffice$Formula;", Cond.methodLink RX3 122 yX3_only, Cond.static yX3_only, Cond.initialized RX3, Cond.code yX3_only cX3_only 1 (some .int), Cond.methodLink RX3 125 yX3_findAnew, Cond.instanceMethod yX3_findAnew, Cond.selects RX3 yX3_findAnew yX3_findAnew, Cond.code yX3_findAnew cX3_findAnew 4 (some .int), Cond.fieldLink RX3 41 "GoalseekOffice" "values" "[J", Cond.fieldLink RX3 153 "GoalseekOffice" "found" "I", Cond.methodLink RX3 185 yX3_withDependents, Cond.instanceMethod yX3_withDependents, Cond.selects RX3 yX3_withDependents yX3_withDependents, Cond.code yX3_withDependents cX3_withDependents 6 (some .int), Cond.methodLink RX3 137 yX3_workOut, Cond.instanceMethod yX3_workOut, Cond.selects RX3 yX3_workOut yX3_workOut, Cond.code yX3_workOut cX3_workOut 7 none, Cond.fieldLink RX3 21 "GoalseekOffice" "reckoner" "LGoalseekOffice$Reckoner;", Cond.methodLink RX3 89 yX3_holds, Cond.static yX3_holds, Cond.code yX3_holds cX3_holds 2 (some .boolean), Cond.instanceMethod yX2_take]
def wsX3_give_r2 : List Cond := [Cond.initialized RX2, Cond.selects RX2 yX2_take yX2_take, Cond.code yX2_take cX2_take 3 none, Cond.fieldLink RX2 9 "GoalseekOffice$Reckoner" "signs" "[I", Cond.fieldLink RX2 15 "GoalseekOffice$Reckoner" "row" "[J", Cond.fieldLink RX2 22 "GoalseekOffice$Reckoner" "at" "I", Cond.instanceMethod yX1_isEmpty, Cond.initialized RX1, Cond.selects RX1 yX1_isEmpty yX1_isEmpty, Cond.code yX1_isEmpty cX1_isEmpty 1 (some .boolean), Cond.fieldLink RX1 9 "GoalseekOffice$Formula" "signs" "[I", Cond.instanceMethod yX2_sum, Cond.selects RX2 yX2_sum yX2_sum, Cond.code yX2_sum cX2_sum 5 (some .long), Cond.methodLink RX2 26 yX2_product, Cond.instanceMethod yX2_product, Cond.selects RX2 yX2_product yX2_product, Cond.methodLink RX2 30 yX2_combine, Cond.static yX2_combine, Cond.code yX2_combine cX2_combine 7 (some .long), Cond.constantLong RX2 37 (-9223372036854775808), Cond.methodLink RX2 42 Lib.MathLoose.abs_long.x, Cond.static Lib.MathLoose.abs_long.x, Cond.initialized "java/lang/Math"]
def wsX3_give_r3 : List Cond := [Cond.code Lib.MathLoose.abs_long.x Lib.MathLoose.abs_long.code 2 (some .long), Cond.constantLong RX2 48 (1000000000000), Cond.constantLong RX2 54 (-1000000000000), Cond.methodLink RX2 50 yJ9_floorDiv_f86c9, Cond.static yJ9_floorDiv_f86c9, Cond.initialized RJ9, Cond.code yJ9_floorDiv_f86c9 cJ9_floorDiv_f86c9 6 (some .long), Cond.code yX2_factor cX2_factor 6 (some .long), Cond.methodLink RX2 39 yX2_sum, Cond.code yX2_product cX2_product 5 (some .long), Cond.methodLink RX2 34 yX2_factor, Cond.instanceMethod yX2_factor, Cond.selects RX2 yX2_factor yX2_factor, Cond.methodLink RX3 128 yJ6_bitCount_0f7a4, Cond.static yJ6_bitCount_0f7a4, Cond.initialized RJ6, Cond.code yJ6_bitCount_0f7a4 cJ6_bitCount_0f7a4 1 (some .int), Cond.constant RJ6 265 (1431655765), Cond.constant RJ6 266 (858993459), Cond.constant RJ6 267 (252645135)]
def wsX3_give : List Cond := .code yX3_give cX3_give 3 (some .int) :: ((wsX3_give_r1 ++ (wsX3_give_r2 ++ wsX3_give_r3)) ++ wsX30 ++ wsX10 ++ wsX20 ++ (vx_atM "java/lang/ArrayIndexOutOfBoundsException" ["java/lang/IndexOutOfBoundsException", "java/lang/RuntimeException", "java/lang/Exception"]).filter goodWord ++ (vx_atM "java/lang/ArithmeticException" ["java/lang/RuntimeException", "java/lang/Exception"]).filter goodWord)
def wsX3_set_r1 : List Cond := [Cond.classLink RX3 62 "java/lang/IllegalArgumentException", Cond.initialized "java/lang/IllegalArgumentException", Cond.classLink RX3 93 "java/lang/IllegalStateException", Cond.initialized "java/lang/IllegalStateException", Cond.fieldLink RX3 14 "GoalseekOffice" "draft" "LGoalseekOffice$Draft;", Cond.methodLink RX3 59 yX3_requireCell, Cond.static yX3_requireCell, Cond.initialized RX3, Cond.code yX3_requireCell cX3_requireCell 1 none, Cond.classLink RX3 204 "java/lang/IndexOutOfBoundsException", Cond.initialized "java/lang/IndexOutOfBoundsException", Cond.instanceMethod yX0_faultPlace, Cond.initialized RX0, Cond.selects RX0 yX0_faultPlace yX0_faultPlace, Cond.code yX0_faultPlace cX0_faultPlace 5 (some .int), Cond.fieldLink RX0 15 "GoalseekOffice$Draft" "count" "I", Cond.fieldLink RX0 9 "GoalseekOffice$Draft" "signs" "[I", Cond.instanceMethod yX0_toFormula, Cond.selects RX0 yX0_toFormula yX0_toFormula, Cond.code yX0_toFormula cX0_toFormula 1 (some (.object "GoalseekOffice$Formula")), Cond.classLink RX0 19 RX1, Cond.instantiable RX1 2, Cond.initialized RX1, Cond.methodLink RX0 21 yJ7_copyOf_59c91]
def wsX3_set_r2 : List Cond := [Cond.static yJ7_copyOf_59c91, Cond.initialized RJ7, Cond.code yJ7_copyOf_59c91 cJ7_copyOf_59c91 3 (some (.array .int)), Cond.methodLink RJ7 316 ⟨"[I", "clone", "()Ljava/lang/Object;"⟩, Cond.sameMethod "[I" "java/lang/Object" "clone" "()Ljava/lang/Object;", Cond.native ⟨"java/lang/Object", "clone", "()Ljava/lang/Object;"⟩, Cond.instanceMethod ⟨"java/lang/Object", "clone", "()Ljava/lang/Object;"⟩, Cond.selects "[I" ⟨"[I", "clone", "()Ljava/lang/Object;"⟩ ⟨"java/lang/Object", "clone", "()Ljava/lang/Object;"⟩, Cond.classLink RJ7 317 "[I", Cond.arrayClass .int, Cond.methodLink RJ7 304 Lib.Math.min.name, Cond.static Lib.Math.min.name, Cond.initialized "java/lang/Math", Cond.code Lib.Math.min.name Lib.Math.min.code 2 (some .int), Cond.methodLink RJ7 150 arraycopyName, Cond.native arraycopyName, Cond.static arraycopyName, Cond.initialized "java/lang/System", Cond.instanceMethod yX1_init, Cond.code yX1_init cX1_init 4 none, Cond.methodLink RX1 3 objectInit, Cond.instanceMethod objectInit, Cond.code objectInit ⟨#[0xb1]⟩ 1 none, Cond.fieldLink RX1 9 "GoalseekOffice$Formula" "signs" "[I"]
def wsX3_set_r3 : List Cond := [Cond.fieldLink RX1 19 "GoalseekOffice$Formula" "named" "I", Cond.static yX3_only, Cond.code yX3_only cX3_only 1 (some .int), Cond.methodLink RX3 86 yX3_withDependencies, Cond.instanceMethod yX3_withDependencies, Cond.selects RX3 yX3_withDependencies yX3_withDependencies, Cond.code yX3_withDependencies cX3_withDependencies 5 (some .int), Cond.methodLink RX3 145 yX3_namedByAny, Cond.instanceMethod yX3_namedByAny, Cond.selects RX3 yX3_namedByAny yX3_namedByAny, Cond.code yX3_namedByAny cX3_namedByAny 4 (some .int), Cond.fieldLink RX3 34 "GoalseekOffice" "formulas" "[LGoalseekOffice$Formula;", Cond.methodLink RX3 89 yX3_holds, Cond.static yX3_holds, Cond.code yX3_holds cX3_holds 2 (some .boolean), Cond.methodLink RX3 98 yX3_give, Cond.instanceMethod yX3_give, Cond.selects RX3 yX3_give yX3_give, Cond.code yX3_give cX3_give 3 (some .int), Cond.methodLink RX3 122 yX3_only, Cond.methodLink RX3 125 yX3_findAnew, Cond.instanceMethod yX3_findAnew, Cond.selects RX3 yX3_findAnew yX3_findAnew, Cond.code yX3_findAnew cX3_findAnew 4 (some .int)]
def wsX3_set_r4 : List Cond := [Cond.fieldLink RX3 41 "GoalseekOffice" "values" "[J", Cond.fieldLink RX3 153 "GoalseekOffice" "found" "I", Cond.methodLink RX3 185 yX3_withDependents, Cond.instanceMethod yX3_withDependents, Cond.selects RX3 yX3_withDependents yX3_withDependents, Cond.code yX3_withDependents cX3_withDependents 6 (some .int), Cond.methodLink RX3 137 yX3_workOut, Cond.instanceMethod yX3_workOut, Cond.selects RX3 yX3_workOut yX3_workOut, Cond.code yX3_workOut cX3_workOut 7 none, Cond.fieldLink RX3 21 "GoalseekOffice" "reckoner" "LGoalseekOffice$Reckoner;", Cond.instanceMethod yX2_take, Cond.initialized RX2, Cond.selects RX2 yX2_take yX2_take, Cond.code yX2_take cX2_take 3 none, Cond.fieldLink RX2 9 "GoalseekOffice$Reckoner" "signs" "[I", Cond.fieldLink RX2 15 "GoalseekOffice$Reckoner" "row" "[J", Cond.fieldLink RX2 22 "GoalseekOffice$Reckoner" "at" "I", Cond.instanceMethod yX1_isEmpty, Cond.selects RX1 yX1_isEmpty yX1_isEmpty, Cond.code yX1_isEmpty cX1_isEmpty 1 (some .boolean), Cond.instanceMethod yX2_sum, Cond.selects RX2 yX2_sum yX2_sum, Cond.code yX2_sum cX2_sum 5 (some .long)]
def wsX3_set_r5 : List Cond := [Cond.methodLink RX2 26 yX2_product, Cond.instanceMethod yX2_product, Cond.selects RX2 yX2_product yX2_product, Cond.methodLink RX2 30 yX2_combine, Cond.static yX2_combine, Cond.code yX2_combine cX2_combine 7 (some .long), Cond.constantLong RX2 37 (-9223372036854775808), Cond.methodLink RX2 42 Lib.MathLoose.abs_long.x, Cond.static Lib.MathLoose.abs_long.x, Cond.code Lib.MathLoose.abs_long.x Lib.MathLoose.abs_long.code 2 (some .long), Cond.constantLong RX2 48 (1000000000000), Cond.constantLong RX2 54 (-1000000000000), Cond.methodLink RX2 50 yJ9_floorDiv_f86c9, Cond.static yJ9_floorDiv_f86c9, Cond.initialized RJ9, Cond.code yJ9_floorDiv_f86c9 cJ9_floorDiv_f86c9 6 (some .long), Cond.code yX2_factor cX2_factor 6 (some .long), Cond.methodLink RX2 39 yX2_sum, Cond.code yX2_product cX2_product 5 (some .long), Cond.methodLink RX2 34 yX2_factor, Cond.instanceMethod yX2_factor, Cond.selects RX2 yX2_factor yX2_factor, Cond.methodLink RX3 128 yJ6_bitCount_0f7a4, Cond.static yJ6_bitCount_0f7a4]
def wsX3_set_r6 : List Cond := [Cond.initialized RJ6, Cond.code yJ6_bitCount_0f7a4 cJ6_bitCount_0f7a4 1 (some .int), Cond.constant RJ6 265 (1431655765), Cond.constant RJ6 266 (858993459), Cond.constant RJ6 267 (252645135)]
def wsX3_set : List Cond := .code yX3_set cX3_set 3 (some .int) :: ((wsX3_set_r1 ++ (wsX3_set_r2 ++ (wsX3_set_r3 ++ (wsX3_set_r4 ++ (wsX3_set_r5 ++ wsX3_set_r6))))) ++ wsX30 ++ wsX10 ++ wsX00 ++ wsX20 ++ (vx_atS RX3 66 "java/lang/IllegalArgumentException" ["java/lang/RuntimeException", "java/lang/Exception"]).filter goodWord ++ (vx_atS RX3 97 "java/lang/IllegalStateException" ["java/lang/RuntimeException", "java/lang/Exception"]).filter goodWord ++ (vx_atS RX3 208 "java/lang/IndexOutOfBoundsException" ["java/lang/RuntimeException", "java/lang/Exception"]).filter goodWord ++ (vx_atM "java/lang/ArrayIndexOutOfBoundsException" ["java/lang/IndexOutOfBoundsException", "java/lang/RuntimeException", "java/lang/Exception"]).filter goodWord ++ (vx_atM "java/lang/ArithmeticException" ["java/lang/RuntimeException", "java/lang/Exception"]).filter goodWord)
def wsX3_loneNumber : List Cond := .code yX3_loneNumber cX3_loneNumber 2 (some (.object "GoalseekOffice$Formula")) :: ([.arrayClass .int, .classLink RX3 25 RX1, .instantiable RX1 2, .initialized RX1, .instanceMethod yX1_init, .code yX1_init cX1_init 4 none, .methodLink RX1 3 objectInit, .instanceMethod objectInit, .code objectInit ⟨#[0xb1]⟩ 1 none, .fieldLink RX1 9 "GoalseekOffice$Formula" "signs" "[I", .fieldLink RX1 19 "GoalseekOffice$Formula" "named" "I", .static yX3_only, .initialized RX3, .code yX3_only cX3_only 1 (some .int)] ++ wsX10 ++ (vx_atM "java/lang/ArrayIndexOutOfBoundsException" ["java/lang/IndexOutOfBoundsException", "java/lang/RuntimeException", "java/lang/Exception"]).filter goodWord)
def wsX3_put_r1 : List Cond := [Cond.methodLink RX3 59 yX3_requireCell, Cond.static yX3_requireCell, Cond.initialized RX3, Cond.code yX3_requireCell cX3_requireCell 1 none, Cond.classLink RX3 204 "java/lang/IndexOutOfBoundsException", Cond.initialized "java/lang/IndexOutOfBoundsException", Cond.methodLink RX3 48 yX3_requireNumber, Cond.static yX3_requireNumber, Cond.code yX3_requireNumber cX3_requireNumber 1 none, Cond.classLink RX3 62 "java/lang/IllegalArgumentException", Cond.initialized "java/lang/IllegalArgumentException", Cond.constant RX3 160 (999999), Cond.methodLink RX3 102 yX3_loneNumber, Cond.static yX3_loneNumber, Cond.code yX3_loneNumber cX3_loneNumber 2 (some (.object "GoalseekOffice$Formula")), Cond.arrayClass .int, Cond.classLink RX3 25 RX1, Cond.instantiable RX1 2, Cond.initialized RX1, Cond.instanceMethod yX1_init, Cond.code yX1_init cX1_init 4 none, Cond.methodLink RX1 3 objectInit, Cond.instanceMethod objectInit, Cond.code objectInit ⟨#[0xb1]⟩ 1 none]
def wsX3_put_r2 : List Cond := [Cond.fieldLink RX1 9 "GoalseekOffice$Formula" "signs" "[I", Cond.fieldLink RX1 19 "GoalseekOffice$Formula" "named" "I", Cond.static yX3_only, Cond.code yX3_only cX3_only 1 (some .int), Cond.methodLink RX3 98 yX3_give, Cond.instanceMethod yX3_give, Cond.selects RX3 yX3_give yX3_give, Cond.code yX3_give cX3_give 3 (some .int), Cond.fieldLink RX3 34 "GoalseekOffice" "formulas" "[LGoalseekOffice$Formula;", Cond.methodLink RX3 122 yX3_only, Cond.methodLink RX3 125 yX3_findAnew, Cond.instanceMethod yX3_findAnew, Cond.selects RX3 yX3_findAnew yX3_findAnew, Cond.code yX3_findAnew cX3_findAnew 4 (some .int), Cond.fieldLink RX3 41 "GoalseekOffice" "values" "[J", Cond.fieldLink RX3 153 "GoalseekOffice" "found" "I", Cond.methodLink RX3 185 yX3_withDependents, Cond.instanceMethod yX3_withDependents, Cond.selects RX3 yX3_withDependents yX3_withDependents, Cond.code yX3_withDependents cX3_withDependents 6 (some .int), Cond.methodLink RX3 137 yX3_workOut, Cond.instanceMethod yX3_workOut, Cond.selects RX3 yX3_workOut yX3_workOut, Cond.code yX3_workOut cX3_workOut 7 none]
def wsX3_put_r3 : List Cond := [Cond.fieldLink RX3 21 "GoalseekOffice" "reckoner" "LGoalseekOffice$Reckoner;", Cond.methodLink RX3 89 yX3_holds, Cond.static yX3_holds, Cond.code yX3_holds cX3_holds 2 (some .boolean), Cond.instanceMethod yX2_take, Cond.initialized RX2, Cond.selects RX2 yX2_take yX2_take, Cond.code yX2_take cX2_take 3 none, Cond.fieldLink RX2 9 "GoalseekOffice$Reckoner" "signs" "[I", Cond.fieldLink RX2 15 "GoalseekOffice$Reckoner" "row" "[J", Cond.fieldLink RX2 22 "GoalseekOffice$Reckoner" "at" "I", Cond.instanceMethod yX1_isEmpty, Cond.selects RX1 yX1_isEmpty yX1_isEmpty, Cond.code yX1_isEmpty cX1_isEmpty 1 (some .boolean), Cond.instanceMethod yX2_sum, Cond.selects RX2 yX2_sum yX2_sum, Cond.code yX2_sum cX2_sum 5 (some .long), Cond.methodLink RX2 26 yX2_product, Cond.instanceMethod yX2_product, Cond.selects RX2 yX2_product yX2_product, Cond.methodLink RX2 30 yX2_combine, Cond.static yX2_combine, Cond.code yX2_combine cX2_combine 7 (some .long), Cond.constantLong RX2 37 (-9223372036854775808)]
def wsX3_put_r4 : List Cond := [Cond.methodLink RX2 42 Lib.MathLoose.abs_long.x, Cond.static Lib.MathLoose.abs_long.x, Cond.initialized "java/lang/Math", Cond.code Lib.MathLoose.abs_long.x Lib.MathLoose.abs_long.code 2 (some .long), Cond.constantLong RX2 48 (1000000000000), Cond.constantLong RX2 54 (-1000000000000), Cond.methodLink RX2 50 yJ9_floorDiv_f86c9, Cond.static yJ9_floorDiv_f86c9, Cond.initialized RJ9, Cond.code yJ9_floorDiv_f86c9 cJ9_floorDiv_f86c9 6 (some .long), Cond.code yX2_factor cX2_factor 6 (some .long), Cond.methodLink RX2 39 yX2_sum, Cond.code yX2_product cX2_product 5 (some .long), Cond.methodLink RX2 34 yX2_factor, Cond.instanceMethod yX2_factor, Cond.selects RX2 yX2_factor yX2_factor, Cond.methodLink RX3 128 yJ6_bitCount_0f7a4, Cond.static yJ6_bitCount_0f7a4, Cond.initialized RJ6, Cond.code yJ6_bitCount_0f7a4 cJ6_bitCount_0f7a4 1 (some .int), Cond.constant RJ6 265 (1431655765), Cond.constant RJ6 266 (858993459), Cond.constant RJ6 267 (252645135)]
def wsX3_put : List Cond := .code yX3_put cX3_put 3 (some .int) :: ((wsX3_put_r1 ++ (wsX3_put_r2 ++ (wsX3_put_r3 ++ wsX3_put_r4))) ++ wsX10 ++ wsX30 ++ wsX20 ++ (vx_atS RX3 208 "java/lang/IndexOutOfBoundsException" ["java/lang/RuntimeException", "java/lang/Exception"]).filter goodWord ++ (vx_atS RX3 66 "java/lang/IllegalArgumentException" ["java/lang/RuntimeException", "java/lang/Exception"]).filter goodWord ++ (vx_atM "java/lang/ArrayIndexOutOfBoundsException" ["java/lang/IndexOutOfBoundsException", "java/lang/RuntimeException", "java/lang/Exception"]).filter goodWord ++ (vx_atM "java/lang/ArithmeticException" ["java/lang/RuntimeException", "java/lang/Exception"]).filter goodWord)
def wsX3_clear_r1 : List Cond := [Cond.fieldLink RX3 34 "GoalseekOffice" "formulas" "[LGoalseekOffice$Formula;", Cond.fieldLink RX3 30 "GoalseekOffice" "empty" "LGoalseekOffice$Formula;", Cond.methodLink RX3 59 yX3_requireCell, Cond.static yX3_requireCell, Cond.initialized RX3, Cond.code yX3_requireCell cX3_requireCell 1 none, Cond.classLink RX3 204 "java/lang/IndexOutOfBoundsException", Cond.initialized "java/lang/IndexOutOfBoundsException", Cond.instanceMethod yX1_isEmpty, Cond.initialized RX1, Cond.selects RX1 yX1_isEmpty yX1_isEmpty, Cond.code yX1_isEmpty cX1_isEmpty 1 (some .boolean), Cond.fieldLink RX1 9 "GoalseekOffice$Formula" "signs" "[I", Cond.methodLink RX3 98 yX3_give, Cond.instanceMethod yX3_give, Cond.selects RX3 yX3_give yX3_give, Cond.code yX3_give cX3_give 3 (some .int), Cond.methodLink RX3 122 yX3_only, Cond.static yX3_only, Cond.code yX3_only cX3_only 1 (some .int), Cond.methodLink RX3 125 yX3_findAnew, Cond.instanceMethod yX3_findAnew, Cond.selects RX3 yX3_findAnew yX3_findAnew, Cond.code yX3_findAnew cX3_findAnew 4 (some .int)]
def wsX3_clear_r2 : List Cond := [Cond.fieldLink RX3 41 "GoalseekOffice" "values" "[J", Cond.fieldLink RX3 153 "GoalseekOffice" "found" "I", Cond.methodLink RX3 185 yX3_withDependents, Cond.instanceMethod yX3_withDependents, Cond.selects RX3 yX3_withDependents yX3_withDependents, Cond.code yX3_withDependents cX3_withDependents 6 (some .int), Cond.methodLink RX3 137 yX3_workOut, Cond.instanceMethod yX3_workOut, Cond.selects RX3 yX3_workOut yX3_workOut, Cond.code yX3_workOut cX3_workOut 7 none, Cond.fieldLink RX3 21 "GoalseekOffice" "reckoner" "LGoalseekOffice$Reckoner;", Cond.methodLink RX3 89 yX3_holds, Cond.static yX3_holds, Cond.code yX3_holds cX3_holds 2 (some .boolean), Cond.instanceMethod yX2_take, Cond.initialized RX2, Cond.selects RX2 yX2_take yX2_take, Cond.code yX2_take cX2_take 3 none, Cond.fieldLink RX2 9 "GoalseekOffice$Reckoner" "signs" "[I", Cond.fieldLink RX2 15 "GoalseekOffice$Reckoner" "row" "[J", Cond.fieldLink RX2 22 "GoalseekOffice$Reckoner" "at" "I", Cond.instanceMethod yX2_sum, Cond.selects RX2 yX2_sum yX2_sum, Cond.code yX2_sum cX2_sum 5 (some .long)]
def wsX3_clear_r3 : List Cond := [Cond.methodLink RX2 26 yX2_product, Cond.instanceMethod yX2_product, Cond.selects RX2 yX2_product yX2_product, Cond.methodLink RX2 30 yX2_combine, Cond.static yX2_combine, Cond.code yX2_combine cX2_combine 7 (some .long), Cond.constantLong RX2 37 (-9223372036854775808), Cond.methodLink RX2 42 Lib.MathLoose.abs_long.x, Cond.static Lib.MathLoose.abs_long.x, Cond.initialized "java/lang/Math", Cond.code Lib.MathLoose.abs_long.x Lib.MathLoose.abs_long.code 2 (some .long), Cond.constantLong RX2 48 (1000000000000), Cond.constantLong RX2 54 (-1000000000000), Cond.methodLink RX2 50 yJ9_floorDiv_f86c9, Cond.static yJ9_floorDiv_f86c9, Cond.initialized RJ9, Cond.code yJ9_floorDiv_f86c9 cJ9_floorDiv_f86c9 6 (some .long), Cond.code yX2_factor cX2_factor 6 (some .long), Cond.methodLink RX2 39 yX2_sum, Cond.code yX2_product cX2_product 5 (some .long), Cond.methodLink RX2 34 yX2_factor, Cond.instanceMethod yX2_factor, Cond.selects RX2 yX2_factor yX2_factor, Cond.methodLink RX3 128 yJ6_bitCount_0f7a4]
def wsX3_clear_r4 : List Cond := [Cond.static yJ6_bitCount_0f7a4, Cond.initialized RJ6, Cond.code yJ6_bitCount_0f7a4 cJ6_bitCount_0f7a4 1 (some .int), Cond.constant RJ6 265 (1431655765), Cond.constant RJ6 266 (858993459), Cond.constant RJ6 267 (252645135)]
def wsX3_clear : List Cond := .code yX3_clear cX3_clear 2 (some .int) :: ((wsX3_clear_r1 ++ (wsX3_clear_r2 ++ (wsX3_clear_r3 ++ wsX3_clear_r4))) ++ wsX30 ++ wsX10 ++ wsX20 ++ (vx_atS RX3 208 "java/lang/IndexOutOfBoundsException" ["java/lang/RuntimeException", "java/lang/Exception"]).filter goodWord ++ (vx_atM "java/lang/ArrayIndexOutOfBoundsException" ["java/lang/IndexOutOfBoundsException", "java/lang/RuntimeException", "java/lang/Exception"]).filter goodWord ++ (vx_atM "java/lang/ArithmeticException" ["java/lang/RuntimeException", "java/lang/Exception"]).filter goodWord)
def wsX3_open : List Cond := .code yX3_open cX3_open 3 (some .int) :: ([.classLink RX3 93 "java/lang/IllegalStateException", .initialized "java/lang/IllegalStateException", .fieldLink RX3 110 "GoalseekOffice" "openLayers" "I", .fieldLink RX3 38 "GoalseekOffice" "remembered" "[LGoalseekOffice$Formula;", .fieldLink RX3 34 "GoalseekOffice" "formulas" "[LGoalseekOffice$Formula;"] ++ wsX30 ++ (vx_atS RX3 97 "java/lang/IllegalStateException" ["java/lang/RuntimeException", "java/lang/Exception"]).filter goodWord)
def wsX3_requireLayer : List Cond := .code yX3_requireLayer cX3_requireLayer 1 none :: ([.classLink RX3 93 "java/lang/IllegalStateException", .initialized "java/lang/IllegalStateException", .fieldLink RX3 110 "GoalseekOffice" "openLayers" "I"] ++ wsX30 ++ (vx_atS RX3 97 "java/lang/IllegalStateException" ["java/lang/RuntimeException", "java/lang/Exception"]).filter goodWord)
def wsX3_drop_r1 : List Cond := [Cond.fieldLink RX3 110 "GoalseekOffice" "openLayers" "I", Cond.fieldLink RX3 38 "GoalseekOffice" "remembered" "[LGoalseekOffice$Formula;", Cond.fieldLink RX3 34 "GoalseekOffice" "formulas" "[LGoalseekOffice$Formula;", Cond.methodLink RX3 115 yX3_requireLayer, Cond.instanceMethod yX3_requireLayer, Cond.selects RX3 yX3_requireLayer yX3_requireLayer, Cond.initialized RX3, Cond.code yX3_requireLayer cX3_requireLayer 1 none, Cond.classLink RX3 93 "java/lang/IllegalStateException", Cond.initialized "java/lang/IllegalStateException", Cond.instanceMethod yX1_sameAs, Cond.initialized RX1, Cond.selects RX1 yX1_sameAs yX1_sameAs, Cond.code yX1_sameAs cX1_sameAs 3 (some .boolean), Cond.fieldLink RX1 9 "GoalseekOffice$Formula" "signs" "[I", Cond.methodLink RX3 122 yX3_only, Cond.static yX3_only, Cond.code yX3_only cX3_only 1 (some .int), Cond.methodLink RX3 125 yX3_findAnew, Cond.instanceMethod yX3_findAnew, Cond.selects RX3 yX3_findAnew yX3_findAnew, Cond.code yX3_findAnew cX3_findAnew 4 (some .int), Cond.fieldLink RX3 41 "GoalseekOffice" "values" "[J", Cond.fieldLink RX3 153 "GoalseekOffice" "found" "I"]
def wsX3_drop_r2 : List Cond := [Cond.methodLink RX3 185 yX3_withDependents, Cond.instanceMethod yX3_withDependents, Cond.selects RX3 yX3_withDependents yX3_withDependents, Cond.code yX3_withDependents cX3_withDependents 6 (some .int), Cond.methodLink RX3 137 yX3_workOut, Cond.instanceMethod yX3_workOut, Cond.selects RX3 yX3_workOut yX3_workOut, Cond.code yX3_workOut cX3_workOut 7 none, Cond.fieldLink RX3 21 "GoalseekOffice" "reckoner" "LGoalseekOffice$Reckoner;", Cond.methodLink RX3 89 yX3_holds, Cond.static yX3_holds, Cond.code yX3_holds cX3_holds 2 (some .boolean), Cond.instanceMethod yX2_take, Cond.initialized RX2, Cond.selects RX2 yX2_take yX2_take, Cond.code yX2_take cX2_take 3 none, Cond.fieldLink RX2 9 "GoalseekOffice$Reckoner" "signs" "[I", Cond.fieldLink RX2 15 "GoalseekOffice$Reckoner" "row" "[J", Cond.fieldLink RX2 22 "GoalseekOffice$Reckoner" "at" "I", Cond.instanceMethod yX1_isEmpty, Cond.selects RX1 yX1_isEmpty yX1_isEmpty, Cond.code yX1_isEmpty cX1_isEmpty 1 (some .boolean), Cond.instanceMethod yX2_sum, Cond.selects RX2 yX2_sum yX2_sum]
def wsX3_drop_r3 : List Cond := [Cond.code yX2_sum cX2_sum 5 (some .long), Cond.methodLink RX2 26 yX2_product, Cond.instanceMethod yX2_product, Cond.selects RX2 yX2_product yX2_product, Cond.methodLink RX2 30 yX2_combine, Cond.static yX2_combine, Cond.code yX2_combine cX2_combine 7 (some .long), Cond.constantLong RX2 37 (-9223372036854775808), Cond.methodLink RX2 42 Lib.MathLoose.abs_long.x, Cond.static Lib.MathLoose.abs_long.x, Cond.initialized "java/lang/Math", Cond.code Lib.MathLoose.abs_long.x Lib.MathLoose.abs_long.code 2 (some .long), Cond.constantLong RX2 48 (1000000000000), Cond.constantLong RX2 54 (-1000000000000), Cond.methodLink RX2 50 yJ9_floorDiv_f86c9, Cond.static yJ9_floorDiv_f86c9, Cond.initialized RJ9, Cond.code yJ9_floorDiv_f86c9 cJ9_floorDiv_f86c9 6 (some .long), Cond.code yX2_factor cX2_factor 6 (some .long), Cond.methodLink RX2 39 yX2_sum, Cond.code yX2_product cX2_product 5 (some .long), Cond.methodLink RX2 34 yX2_factor, Cond.instanceMethod yX2_factor, Cond.selects RX2 yX2_factor yX2_factor]
def wsX3_drop_r4 : List Cond := [Cond.methodLink RX3 128 yJ6_bitCount_0f7a4, Cond.static yJ6_bitCount_0f7a4, Cond.initialized RJ6, Cond.code yJ6_bitCount_0f7a4 cJ6_bitCount_0f7a4 1 (some .int), Cond.constant RJ6 265 (1431655765), Cond.constant RJ6 266 (858993459), Cond.constant RJ6 267 (252645135)]
def wsX3_drop : List Cond := .code yX3_drop cX3_drop 5 (some .int) :: ((wsX3_drop_r1 ++ (wsX3_drop_r2 ++ (wsX3_drop_r3 ++ wsX3_drop_r4))) ++ wsX30 ++ wsX10 ++ wsX20 ++ (vx_atS RX3 97 "java/lang/IllegalStateException" ["java/lang/RuntimeException", "java/lang/Exception"]).filter goodWord ++ (vx_atM "java/lang/ArrayIndexOutOfBoundsException" ["java/lang/IndexOutOfBoundsException", "java/lang/RuntimeException", "java/lang/Exception"]).filter goodWord ++ (vx_atM "java/lang/ArithmeticException" ["java/lang/RuntimeException", "java/lang/Exception"]).filter goodWord)
def wsX3_keep : List Cond := .code yX3_keep cX3_keep 1 (some .int) :: ([.fieldLink RX3 110 "GoalseekOffice" "openLayers" "I", .methodLink RX3 115 yX3_requireLayer, .instanceMethod yX3_requireLayer, .selects RX3 yX3_requireLayer yX3_requireLayer, .initialized RX3, .code yX3_requireLayer cX3_requireLayer 1 none, .classLink RX3 93 "java/lang/IllegalStateException", .initialized "java/lang/IllegalStateException"] ++ wsX30 ++ (vx_atS RX3 97 "java/lang/IllegalStateException" ["java/lang/RuntimeException", "java/lang/Exception"]).filter goodWord)
def wsX3_layers : List Cond := .code yX3_layers cX3_layers 1 (some .int) :: ([.fieldLink RX3 110 "GoalseekOffice" "openLayers" "I"] ++ wsX30)
def wsX3_drafted : List Cond := .code yX3_drafted cX3_drafted 1 (some .int) :: ([.fieldLink RX3 14 "GoalseekOffice" "draft" "LGoalseekOffice$Draft;"] ++ wsX30 ++ wsX00)
def wsX3_requireValue : List Cond := .code yX3_requireValue cX3_requireValue 2 none :: ([.classLink RX3 211 "java/lang/ArithmeticException", .initialized "java/lang/ArithmeticException", .constantLong RX3 151 (-9223372036854775808)] ++ (vx_atS RX3 215 "java/lang/ArithmeticException" ["java/lang/RuntimeException", "java/lang/Exception"]).filter goodWord)
def wsX3_value : List Cond := .code yX3_value cX3_value 2 (some .long) :: ([.fieldLink RX3 41 "GoalseekOffice" "values" "[J", .methodLink RX3 59 yX3_requireCell, .static yX3_requireCell, .initialized RX3, .code yX3_requireCell cX3_requireCell 1 none, .classLink RX3 204 "java/lang/IndexOutOfBoundsException", .initialized "java/lang/IndexOutOfBoundsException", .methodLink RX3 133 yX3_requireValue, .static yX3_requireValue, .code yX3_requireValue cX3_requireValue 2 none, .classLink RX3 211 "java/lang/ArithmeticException", .initialized "java/lang/ArithmeticException", .constantLong RX3 151 (-9223372036854775808)] ++ wsX30 ++ (vx_atM "java/lang/ArrayIndexOutOfBoundsException" ["java/lang/IndexOutOfBoundsException", "java/lang/RuntimeException", "java/lang/Exception"]).filter goodWord ++ (vx_atS RX3 208 "java/lang/IndexOutOfBoundsException" ["java/lang/RuntimeException", "java/lang/Exception"]).filter goodWord ++ (vx_atS RX3 215 "java/lang/ArithmeticException" ["java/lang/RuntimeException", "java/lang/Exception"]).filter goodWord)
def wsX3_valueAnew_r1 : List Cond := [Cond.fieldLink RX3 45 "GoalseekOffice" "trial" "[J", Cond.methodLink RX3 59 yX3_requireCell, Cond.static yX3_requireCell, Cond.initialized RX3, Cond.code yX3_requireCell cX3_requireCell 1 none, Cond.classLink RX3 204 "java/lang/IndexOutOfBoundsException", Cond.initialized "java/lang/IndexOutOfBoundsException", Cond.methodLink RX3 122 yX3_only, Cond.static yX3_only, Cond.code yX3_only cX3_only 1 (some .int), Cond.methodLink RX3 86 yX3_withDependencies, Cond.instanceMethod yX3_withDependencies, Cond.selects RX3 yX3_withDependencies yX3_withDependencies, Cond.code yX3_withDependencies cX3_withDependencies 5 (some .int), Cond.methodLink RX3 145 yX3_namedByAny, Cond.instanceMethod yX3_namedByAny, Cond.selects RX3 yX3_namedByAny yX3_namedByAny, Cond.code yX3_namedByAny cX3_namedByAny 4 (some .int), Cond.fieldLink RX3 34 "GoalseekOffice" "formulas" "[LGoalseekOffice$Formula;", Cond.methodLink RX3 89 yX3_holds, Cond.static yX3_holds, Cond.code yX3_holds cX3_holds 2 (some .boolean), Cond.methodLink RX3 137 yX3_workOut, Cond.instanceMethod yX3_workOut]
def wsX3_valueAnew_r2 : List Cond := [Cond.selects RX3 yX3_workOut yX3_workOut, Cond.code yX3_workOut cX3_workOut 7 none, Cond.fieldLink RX3 21 "GoalseekOffice" "reckoner" "LGoalseekOffice$Reckoner;", Cond.instanceMethod yX2_take, Cond.initialized RX2, Cond.selects RX2 yX2_take yX2_take, Cond.code yX2_take cX2_take 3 none, Cond.fieldLink RX2 9 "GoalseekOffice$Reckoner" "signs" "[I", Cond.fieldLink RX2 15 "GoalseekOffice$Reckoner" "row" "[J", Cond.fieldLink RX2 22 "GoalseekOffice$Reckoner" "at" "I", Cond.instanceMethod yX1_isEmpty, Cond.initialized RX1, Cond.selects RX1 yX1_isEmpty yX1_isEmpty, Cond.code yX1_isEmpty cX1_isEmpty 1 (some .boolean), Cond.fieldLink RX1 9 "GoalseekOffice$Formula" "signs" "[I", Cond.instanceMethod yX2_sum, Cond.selects RX2 yX2_sum yX2_sum, Cond.code yX2_sum cX2_sum 5 (some .long), Cond.methodLink RX2 26 yX2_product, Cond.instanceMethod yX2_product, Cond.selects RX2 yX2_product yX2_product, Cond.methodLink RX2 30 yX2_combine, Cond.static yX2_combine, Cond.code yX2_combine cX2_combine 7 (some .long)]
def wsX3_valueAnew_r3 : List Cond := [Cond.constantLong RX2 37 (-9223372036854775808), Cond.methodLink RX2 42 Lib.MathLoose.abs_long.x, Cond.static Lib.MathLoose.abs_long.x, Cond.initialized "java/lang/Math", Cond.code Lib.MathLoose.abs_long.x Lib.MathLoose.abs_long.code 2 (some .long), Cond.constantLong RX2 48 (1000000000000), Cond.constantLong RX2 54 (-1000000000000), Cond.methodLink RX2 50 yJ9_floorDiv_f86c9, Cond.static yJ9_floorDiv_f86c9, Cond.initialized RJ9, Cond.code yJ9_floorDiv_f86c9 cJ9_floorDiv_f86c9 6 (some .long), Cond.code yX2_factor cX2_factor 6 (some .long), Cond.methodLink RX2 39 yX2_sum, Cond.code yX2_product cX2_product 5 (some .long), Cond.methodLink RX2 34 yX2_factor, Cond.instanceMethod yX2_factor, Cond.selects RX2 yX2_factor yX2_factor, Cond.methodLink RX3 133 yX3_requireValue, Cond.static yX3_requireValue, Cond.code yX3_requireValue cX3_requireValue 2 none, Cond.classLink RX3 211 "java/lang/ArithmeticException", Cond.initialized "java/lang/ArithmeticException", Cond.constantLong RX3 151 (-9223372036854775808)]
def wsX3_valueAnew : List Cond := .code yX3_valueAnew cX3_valueAnew 2 (some .long) :: ((wsX3_valueAnew_r1 ++ (wsX3_valueAnew_r2 ++ wsX3_valueAnew_r3)) ++ wsX30 ++ wsX10 ++ wsX20 ++ (vx_atM "java/lang/ArrayIndexOutOfBoundsException" ["java/lang/IndexOutOfBoundsException", "java/lang/RuntimeException", "java/lang/Exception"]).filter goodWord ++ (vx_atS RX3 208 "java/lang/IndexOutOfBoundsException" ["java/lang/RuntimeException", "java/lang/Exception"]).filter goodWord ++ (vx_atM "java/lang/ArithmeticException" ["java/lang/RuntimeException", "java/lang/Exception"]).filter goodWord ++ (vx_atS RX3 215 "java/lang/ArithmeticException" ["java/lang/RuntimeException", "java/lang/Exception"]).filter goodWord)
def wsX3_signs : List Cond := .code yX3_signs cX3_signs 2 (some .int) :: ([.fieldLink RX3 34 "GoalseekOffice" "formulas" "[LGoalseekOffice$Formula;", .methodLink RX3 59 yX3_requireCell, .static yX3_requireCell, .initialized RX3, .code yX3_requireCell cX3_requireCell 1 none, .classLink RX3 204 "java/lang/IndexOutOfBoundsException", .initialized "java/lang/IndexOutOfBoundsException"] ++ wsX30 ++ wsX10 ++ (vx_atS RX3 208 "java/lang/IndexOutOfBoundsException" ["java/lang/RuntimeException", "java/lang/Exception"]).filter goodWord)
def wsX3_level : List Cond := .code yX3_level cX3_level 4 (some .int) :: ([.fieldLink RX3 34 "GoalseekOffice" "formulas" "[LGoalseekOffice$Formula;", .methodLink RX3 59 yX3_requireCell, .static yX3_requireCell, .initialized RX3, .code yX3_requireCell cX3_requireCell 1 none, .classLink RX3 204 "java/lang/IndexOutOfBoundsException", .initialized "java/lang/IndexOutOfBoundsException", .methodLink RX3 145 yX3_namedByAny, .instanceMethod yX3_namedByAny, .selects RX3 yX3_namedByAny yX3_namedByAny, .code yX3_namedByAny cX3_namedByAny 4 (some .int), .methodLink RX3 89 yX3_holds, .static yX3_holds, .code yX3_holds cX3_holds 2 (some .boolean)] ++ wsX30 ++ wsX10 ++ (vx_atS RX3 208 "java/lang/IndexOutOfBoundsException" ["java/lang/RuntimeException", "java/lang/Exception"]).filter goodWord)
def wsX3_dependsOn : List Cond := .code yX3_dependsOn cX3_dependsOn 3 (some .boolean) :: ([.methodLink RX3 122 yX3_only, .static yX3_only, .initialized RX3, .code yX3_only cX3_only 1 (some .int), .methodLink RX3 86 yX3_withDependencies, .instanceMethod yX3_withDependencies, .selects RX3 yX3_withDependencies yX3_withDependencies, .code yX3_withDependencies cX3_withDependencies 5 (some .int), .methodLink RX3 145 yX3_namedByAny, .instanceMethod yX3_namedByAny, .selects RX3 yX3_namedByAny yX3_namedByAny, .code yX3_namedByAny cX3_namedByAny 4 (some .int), .fieldLink RX3 34 "GoalseekOffice" "formulas" "[LGoalseekOffice$Formula;", .methodLink RX3 89 yX3_holds, .static yX3_holds, .code yX3_holds cX3_holds 2 (some .boolean)] ++ wsX30 ++ wsX10)
def wsX3_depends_r1 : List Cond := [Cond.methodLink RX3 59 yX3_requireCell, Cond.static yX3_requireCell, Cond.initialized RX3, Cond.code yX3_requireCell cX3_requireCell 1 none, Cond.classLink RX3 204 "java/lang/IndexOutOfBoundsException", Cond.initialized "java/lang/IndexOutOfBoundsException", Cond.methodLink RX3 148 yX3_dependsOn, Cond.instanceMethod yX3_dependsOn, Cond.selects RX3 yX3_dependsOn yX3_dependsOn, Cond.code yX3_dependsOn cX3_dependsOn 3 (some .boolean), Cond.methodLink RX3 122 yX3_only, Cond.static yX3_only, Cond.code yX3_only cX3_only 1 (some .int), Cond.methodLink RX3 86 yX3_withDependencies, Cond.instanceMethod yX3_withDependencies, Cond.selects RX3 yX3_withDependencies yX3_withDependencies, Cond.code yX3_withDependencies cX3_withDependencies 5 (some .int), Cond.methodLink RX3 145 yX3_namedByAny, Cond.instanceMethod yX3_namedByAny, Cond.selects RX3 yX3_namedByAny yX3_namedByAny, Cond.code yX3_namedByAny cX3_namedByAny 4 (some .int), Cond.fieldLink RX3 34 "GoalseekOffice" "formulas" "[LGoalseekOffice$Formula;", Cond.methodLink RX3 89 yX3_holds, Cond.static yX3_holds]
def wsX3_depends_r2 : List Cond := [Cond.code yX3_holds cX3_holds 2 (some .boolean)]
def wsX3_depends : List Cond := .code yX3_depends cX3_depends 3 (some .boolean) :: ((wsX3_depends_r1 ++ wsX3_depends_r2) ++ wsX30 ++ wsX10 ++ (vx_atS RX3 208 "java/lang/IndexOutOfBoundsException" ["java/lang/RuntimeException", "java/lang/Exception"]).filter goodWord)
def wsX3_faulty : List Cond := .code yX3_faulty cX3_faulty 3 (some .int) :: ([.fieldLink RX3 41 "GoalseekOffice" "values" "[J", .constantLong RX3 151 (-9223372036854775808)] ++ wsX30 ++ (vx_atM "java/lang/ArrayIndexOutOfBoundsException" ["java/lang/IndexOutOfBoundsException", "java/lang/RuntimeException", "java/lang/Exception"]).filter goodWord)
def wsX3_foundAnew : List Cond := .code yX3_foundAnew cX3_foundAnew 1 (some .int) :: ([.fieldLink RX3 153 "GoalseekOffice" "found" "I"] ++ wsX30)
def wsX3_goalWith_r1 : List Cond := [Cond.fieldLink RX3 45 "GoalseekOffice" "trial" "[J", Cond.methodLink RX3 137 yX3_workOut, Cond.instanceMethod yX3_workOut, Cond.selects RX3 yX3_workOut yX3_workOut, Cond.initialized RX3, Cond.code yX3_workOut cX3_workOut 7 none, Cond.fieldLink RX3 34 "GoalseekOffice" "formulas" "[LGoalseekOffice$Formula;", Cond.fieldLink RX3 21 "GoalseekOffice" "reckoner" "LGoalseekOffice$Reckoner;", Cond.methodLink RX3 89 yX3_holds, Cond.static yX3_holds, Cond.code yX3_holds cX3_holds 2 (some .boolean), Cond.instanceMethod yX2_take, Cond.initialized RX2, Cond.selects RX2 yX2_take yX2_take, Cond.code yX2_take cX2_take 3 none, Cond.fieldLink RX2 9 "GoalseekOffice$Reckoner" "signs" "[I", Cond.fieldLink RX2 15 "GoalseekOffice$Reckoner" "row" "[J", Cond.fieldLink RX2 22 "GoalseekOffice$Reckoner" "at" "I", Cond.instanceMethod yX1_isEmpty, Cond.initialized RX1, Cond.selects RX1 yX1_isEmpty yX1_isEmpty, Cond.code yX1_isEmpty cX1_isEmpty 1 (some .boolean), Cond.fieldLink RX1 9 "GoalseekOffice$Formula" "signs" "[I", Cond.instanceMethod yX2_sum]
def wsX3_goalWith_r2 : List Cond := [Cond.selects RX2 yX2_sum yX2_sum, Cond.code yX2_sum cX2_sum 5 (some .long), Cond.methodLink RX2 26 yX2_product, Cond.instanceMethod yX2_product, Cond.selects RX2 yX2_product yX2_product, Cond.methodLink RX2 30 yX2_combine, Cond.static yX2_combine, Cond.code yX2_combine cX2_combine 7 (some .long), Cond.constantLong RX2 37 (-9223372036854775808), Cond.methodLink RX2 42 Lib.MathLoose.abs_long.x, Cond.static Lib.MathLoose.abs_long.x, Cond.initialized "java/lang/Math", Cond.code Lib.MathLoose.abs_long.x Lib.MathLoose.abs_long.code 2 (some .long), Cond.constantLong RX2 48 (1000000000000), Cond.constantLong RX2 54 (-1000000000000), Cond.methodLink RX2 50 yJ9_floorDiv_f86c9, Cond.static yJ9_floorDiv_f86c9, Cond.initialized RJ9, Cond.code yJ9_floorDiv_f86c9 cJ9_floorDiv_f86c9 6 (some .long), Cond.code yX2_factor cX2_factor 6 (some .long), Cond.methodLink RX2 39 yX2_sum, Cond.code yX2_product cX2_product 5 (some .long), Cond.methodLink RX2 34 yX2_factor, Cond.instanceMethod yX2_factor]
def wsX3_goalWith_r3 : List Cond := [Cond.selects RX2 yX2_factor yX2_factor, Cond.methodLink RX3 122 yX3_only, Cond.static yX3_only, Cond.code yX3_only cX3_only 1 (some .int)]
def wsX3_goalWith : List Cond := .code yX3_goalWith cX3_goalWith 5 (some .long) :: ((wsX3_goalWith_r1 ++ (wsX3_goalWith_r2 ++ wsX3_goalWith_r3)) ++ wsX30 ++ wsX10 ++ wsX20 ++ (vx_atM "java/lang/ArrayIndexOutOfBoundsException" ["java/lang/IndexOutOfBoundsException", "java/lang/RuntimeException", "java/lang/Exception"]).filter goodWord ++ (vx_atM "java/lang/ArithmeticException" ["java/lang/RuntimeException", "java/lang/Exception"]).filter goodWord)
def wsX3_onOneSide : List Cond := .code yX3_onOneSide cX3_onOneSide 6 (some .boolean) :: ([])
def wsX3_search_r1 : List Cond := [Cond.fieldLink RX3 41 "GoalseekOffice" "values" "[J", Cond.fieldLink RX3 45 "GoalseekOffice" "trial" "[J", Cond.methodLink RX3 179 arraycopyName, Cond.native arraycopyName, Cond.static arraycopyName, Cond.initialized "java/lang/System", Cond.constantLong RX3 151 (-9223372036854775808), Cond.constant RX3 160 (999999), Cond.methodLink RX3 122 yX3_only, Cond.static yX3_only, Cond.initialized RX3, Cond.code yX3_only cX3_only 1 (some .int), Cond.methodLink RX3 185 yX3_withDependents, Cond.instanceMethod yX3_withDependents, Cond.selects RX3 yX3_withDependents yX3_withDependents, Cond.code yX3_withDependents cX3_withDependents 6 (some .int), Cond.fieldLink RX3 34 "GoalseekOffice" "formulas" "[LGoalseekOffice$Formula;", Cond.methodLink RX3 86 yX3_withDependencies, Cond.instanceMethod yX3_withDependencies, Cond.selects RX3 yX3_withDependencies yX3_withDependencies, Cond.code yX3_withDependencies cX3_withDependencies 5 (some .int), Cond.methodLink RX3 145 yX3_namedByAny, Cond.instanceMethod yX3_namedByAny, Cond.selects RX3 yX3_namedByAny yX3_namedByAny]
def wsX3_search_r2 : List Cond := [Cond.code yX3_namedByAny cX3_namedByAny 4 (some .int), Cond.methodLink RX3 89 yX3_holds, Cond.static yX3_holds, Cond.code yX3_holds cX3_holds 2 (some .boolean), Cond.methodLink RX3 188 yX3_goalWith, Cond.instanceMethod yX3_goalWith, Cond.selects RX3 yX3_goalWith yX3_goalWith, Cond.code yX3_goalWith cX3_goalWith 5 (some .long), Cond.methodLink RX3 137 yX3_workOut, Cond.instanceMethod yX3_workOut, Cond.selects RX3 yX3_workOut yX3_workOut, Cond.code yX3_workOut cX3_workOut 7 none, Cond.fieldLink RX3 21 "GoalseekOffice" "reckoner" "LGoalseekOffice$Reckoner;", Cond.instanceMethod yX2_take, Cond.initialized RX2, Cond.selects RX2 yX2_take yX2_take, Cond.code yX2_take cX2_take 3 none, Cond.fieldLink RX2 9 "GoalseekOffice$Reckoner" "signs" "[I", Cond.fieldLink RX2 15 "GoalseekOffice$Reckoner" "row" "[J", Cond.fieldLink RX2 22 "GoalseekOffice$Reckoner" "at" "I", Cond.instanceMethod yX1_isEmpty, Cond.initialized RX1, Cond.selects RX1 yX1_isEmpty yX1_isEmpty, Cond.code yX1_isEmpty cX1_isEmpty 1 (some .boolean)]
def wsX3_search_r3 : List Cond := [Cond.fieldLink RX1 9 "GoalseekOffice$Formula" "signs" "[I", Cond.instanceMethod yX2_sum, Cond.selects RX2 yX2_sum yX2_sum, Cond.code yX2_sum cX2_sum 5 (some .long), Cond.methodLink RX2 26 yX2_product, Cond.instanceMethod yX2_product, Cond.selects RX2 yX2_product yX2_product, Cond.methodLink RX2 30 yX2_combine, Cond.static yX2_combine, Cond.code yX2_combine cX2_combine 7 (some .long), Cond.constantLong RX2 37 (-9223372036854775808), Cond.methodLink RX2 42 Lib.MathLoose.abs_long.x, Cond.static Lib.MathLoose.abs_long.x, Cond.initialized "java/lang/Math", Cond.code Lib.MathLoose.abs_long.x Lib.MathLoose.abs_long.code 2 (some .long), Cond.constantLong RX2 48 (1000000000000), Cond.constantLong RX2 54 (-1000000000000), Cond.methodLink RX2 50 yJ9_floorDiv_f86c9, Cond.static yJ9_floorDiv_f86c9, Cond.initialized RJ9, Cond.code yJ9_floorDiv_f86c9 cJ9_floorDiv_f86c9 6 (some .long), Cond.code yX2_factor cX2_factor 6 (some .long), Cond.methodLink RX2 39 yX2_sum, Cond.code yX2_product cX2_product 5 (some .long)]
def wsX3_search_r4 : List Cond := [Cond.methodLink RX2 34 yX2_factor, Cond.instanceMethod yX2_factor, Cond.selects RX2 yX2_factor yX2_factor, Cond.methodLink RX3 192 yX3_onOneSide, Cond.static yX3_onOneSide, Cond.code yX3_onOneSide cX3_onOneSide 6 (some .boolean)]
def wsX3_search : List Cond := .code yX3_search cX3_search 17 (some .int) :: ((wsX3_search_r1 ++ (wsX3_search_r2 ++ (wsX3_search_r3 ++ wsX3_search_r4))) ++ wsX30 ++ wsX10 ++ wsX20 ++ (vx_atM "java/lang/ArrayIndexOutOfBoundsException" ["java/lang/IndexOutOfBoundsException", "java/lang/RuntimeException", "java/lang/Exception"]).filter goodWord ++ (vx_atM "java/lang/ArithmeticException" ["java/lang/RuntimeException", "java/lang/Exception"]).filter goodWord)
def wsX3_seek_r1 : List Cond := [Cond.classLink RX3 62 "java/lang/IllegalArgumentException", Cond.initialized "java/lang/IllegalArgumentException", Cond.classLink RX3 93 "java/lang/IllegalStateException", Cond.initialized "java/lang/IllegalStateException", Cond.classLink RX3 174 "java/util/NoSuchElementException", Cond.initialized "java/util/NoSuchElementException", Cond.constant RX3 156 (-1000000000), Cond.constant RX3 157 (1000000000), Cond.constant RX3 160 (999999), Cond.fieldLink RX3 34 "GoalseekOffice" "formulas" "[LGoalseekOffice$Formula;", Cond.methodLink RX3 59 yX3_requireCell, Cond.static yX3_requireCell, Cond.initialized RX3, Cond.code yX3_requireCell cX3_requireCell 1 none, Cond.classLink RX3 204 "java/lang/IndexOutOfBoundsException", Cond.initialized "java/lang/IndexOutOfBoundsException", Cond.instanceMethod yX1_canBeInput, Cond.initialized RX1, Cond.selects RX1 yX1_canBeInput yX1_canBeInput, Cond.code yX1_canBeInput cX1_canBeInput 1 (some .boolean), Cond.fieldLink RX1 9 "GoalseekOffice$Formula" "signs" "[I", Cond.methodLink RX3 148 yX3_dependsOn, Cond.instanceMethod yX3_dependsOn, Cond.selects RX3 yX3_dependsOn yX3_dependsOn]
def wsX3_seek_r2 : List Cond := [Cond.code yX3_dependsOn cX3_dependsOn 3 (some .boolean), Cond.methodLink RX3 122 yX3_only, Cond.static yX3_only, Cond.code yX3_only cX3_only 1 (some .int), Cond.methodLink RX3 86 yX3_withDependencies, Cond.instanceMethod yX3_withDependencies, Cond.selects RX3 yX3_withDependencies yX3_withDependencies, Cond.code yX3_withDependencies cX3_withDependencies 5 (some .int), Cond.methodLink RX3 145 yX3_namedByAny, Cond.instanceMethod yX3_namedByAny, Cond.selects RX3 yX3_namedByAny yX3_namedByAny, Cond.code yX3_namedByAny cX3_namedByAny 4 (some .int), Cond.methodLink RX3 89 yX3_holds, Cond.static yX3_holds, Cond.code yX3_holds cX3_holds 2 (some .boolean), Cond.methodLink RX3 170 yX3_search, Cond.instanceMethod yX3_search, Cond.selects RX3 yX3_search yX3_search, Cond.code yX3_search cX3_search 17 (some .int), Cond.fieldLink RX3 41 "GoalseekOffice" "values" "[J", Cond.fieldLink RX3 45 "GoalseekOffice" "trial" "[J", Cond.methodLink RX3 179 arraycopyName, Cond.native arraycopyName, Cond.static arraycopyName]
def wsX3_seek_r3 : List Cond := [Cond.initialized "java/lang/System", Cond.constantLong RX3 151 (-9223372036854775808), Cond.methodLink RX3 185 yX3_withDependents, Cond.instanceMethod yX3_withDependents, Cond.selects RX3 yX3_withDependents yX3_withDependents, Cond.code yX3_withDependents cX3_withDependents 6 (some .int), Cond.methodLink RX3 188 yX3_goalWith, Cond.instanceMethod yX3_goalWith, Cond.selects RX3 yX3_goalWith yX3_goalWith, Cond.code yX3_goalWith cX3_goalWith 5 (some .long), Cond.methodLink RX3 137 yX3_workOut, Cond.instanceMethod yX3_workOut, Cond.selects RX3 yX3_workOut yX3_workOut, Cond.code yX3_workOut cX3_workOut 7 none, Cond.fieldLink RX3 21 "GoalseekOffice" "reckoner" "LGoalseekOffice$Reckoner;", Cond.instanceMethod yX2_take, Cond.initialized RX2, Cond.selects RX2 yX2_take yX2_take, Cond.code yX2_take cX2_take 3 none, Cond.fieldLink RX2 9 "GoalseekOffice$Reckoner" "signs" "[I", Cond.fieldLink RX2 15 "GoalseekOffice$Reckoner" "row" "[J", Cond.fieldLink RX2 22 "GoalseekOffice$Reckoner" "at" "I", Cond.instanceMethod yX1_isEmpty, Cond.selects RX1 yX1_isEmpty yX1_isEmpty]
def wsX3_seek_r4 : List Cond := [Cond.code yX1_isEmpty cX1_isEmpty 1 (some .boolean), Cond.instanceMethod yX2_sum, Cond.selects RX2 yX2_sum yX2_sum, Cond.code yX2_sum cX2_sum 5 (some .long), Cond.methodLink RX2 26 yX2_product, Cond.instanceMethod yX2_product, Cond.selects RX2 yX2_product yX2_product, Cond.methodLink RX2 30 yX2_combine, Cond.static yX2_combine, Cond.code yX2_combine cX2_combine 7 (some .long), Cond.constantLong RX2 37 (-9223372036854775808), Cond.methodLink RX2 42 Lib.MathLoose.abs_long.x, Cond.static Lib.MathLoose.abs_long.x, Cond.initialized "java/lang/Math", Cond.code Lib.MathLoose.abs_long.x Lib.MathLoose.abs_long.code 2 (some .long), Cond.constantLong RX2 48 (1000000000000), Cond.constantLong RX2 54 (-1000000000000), Cond.methodLink RX2 50 yJ9_floorDiv_f86c9, Cond.static yJ9_floorDiv_f86c9, Cond.initialized RJ9, Cond.code yJ9_floorDiv_f86c9 cJ9_floorDiv_f86c9 6 (some .long), Cond.code yX2_factor cX2_factor 6 (some .long), Cond.methodLink RX2 39 yX2_sum, Cond.code yX2_product cX2_product 5 (some .long)]
def wsX3_seek_r5 : List Cond := [Cond.methodLink RX2 34 yX2_factor, Cond.instanceMethod yX2_factor, Cond.selects RX2 yX2_factor yX2_factor, Cond.methodLink RX3 192 yX3_onOneSide, Cond.static yX3_onOneSide, Cond.code yX3_onOneSide cX3_onOneSide 6 (some .boolean), Cond.methodLink RX3 102 yX3_loneNumber, Cond.static yX3_loneNumber, Cond.code yX3_loneNumber cX3_loneNumber 2 (some (.object "GoalseekOffice$Formula")), Cond.arrayClass .int, Cond.classLink RX3 25 RX1, Cond.instantiable RX1 2, Cond.instanceMethod yX1_init, Cond.code yX1_init cX1_init 4 none, Cond.methodLink RX1 3 objectInit, Cond.instanceMethod objectInit, Cond.code objectInit ⟨#[0xb1]⟩ 1 none, Cond.fieldLink RX1 19 "GoalseekOffice$Formula" "named" "I", Cond.methodLink RX3 98 yX3_give, Cond.instanceMethod yX3_give, Cond.selects RX3 yX3_give yX3_give, Cond.code yX3_give cX3_give 3 (some .int), Cond.methodLink RX3 125 yX3_findAnew, Cond.instanceMethod yX3_findAnew]
def wsX3_seek_r6 : List Cond := [Cond.selects RX3 yX3_findAnew yX3_findAnew, Cond.code yX3_findAnew cX3_findAnew 4 (some .int), Cond.fieldLink RX3 153 "GoalseekOffice" "found" "I", Cond.methodLink RX3 128 yJ6_bitCount_0f7a4, Cond.static yJ6_bitCount_0f7a4, Cond.initialized RJ6, Cond.code yJ6_bitCount_0f7a4 cJ6_bitCount_0f7a4 1 (some .int), Cond.constant RJ6 265 (1431655765), Cond.constant RJ6 266 (858993459), Cond.constant RJ6 267 (252645135)]
def wsX3_seek : List Cond := .code yX3_seek cX3_seek 7 (some .int) :: ((wsX3_seek_r1 ++ (wsX3_seek_r2 ++ (wsX3_seek_r3 ++ (wsX3_seek_r4 ++ (wsX3_seek_r5 ++ wsX3_seek_r6))))) ++ wsX30 ++ wsX10 ++ wsX20 ++ (vx_atS RX3 66 "java/lang/IllegalArgumentException" ["java/lang/RuntimeException", "java/lang/Exception"]).filter goodWord ++ (vx_atS RX3 97 "java/lang/IllegalStateException" ["java/lang/RuntimeException", "java/lang/Exception"]).filter goodWord ++ (vx_atS RX3 178 "java/util/NoSuchElementException" ["java/lang/RuntimeException", "java/lang/Exception"]).filter goodWord ++ (vx_atS RX3 208 "java/lang/IndexOutOfBoundsException" ["java/lang/RuntimeException", "java/lang/Exception"]).filter goodWord ++ (vx_atM "java/lang/ArrayIndexOutOfBoundsException" ["java/lang/IndexOutOfBoundsException", "java/lang/RuntimeException", "java/lang/Exception"]).filter goodWord ++ (vx_atM "java/lang/ArithmeticException" ["java/lang/RuntimeException", "java/lang/Exception"]).filter goodWord)
def wsX4_init : List Cond := .code yX4_init cX4_init 1 none :: ([.methodLink RX4 1 objectInit, .instanceMethod objectInit, .code objectInit ⟨#[0xb1]⟩ 1 none, .arrayClass .int, .fieldLink RX4 7 "GoalseekOfficeModel" "draft" "[I", .fieldLink RX4 13 "GoalseekOfficeModel" "formulas" "[I", .fieldLink RX4 16 "GoalseekOfficeModel" "sizes" "[I", .fieldLink RX4 19 "GoalseekOfficeModel" "oldFormulas" "[I", .fieldLink RX4 22 "GoalseekOfficeModel" "oldSizes" "[I", .arrayClass .long, .fieldLink RX4 25 "GoalseekOfficeModel" "values" "[J", .fieldLink RX4 29 "GoalseekOfficeModel" "states" "[I", .fieldLink RX4 32 "GoalseekOfficeModel" "stack" "[J", .fieldLink RX4 35 "GoalseekOfficeModel" "waiting" "[I"] ++ wsX40)
def wsX4_thrown : List Cond := .code yX4_thrown cX4_thrown 1 (some .int) :: ([.fieldLink RX4 38 "GoalseekOfficeModel" "thrown" "I"] ++ wsX40)
def wsX4_holds : List Cond := .code yX4_holds cX4_holds 2 (some .boolean) :: ([.fieldLink RX4 38 "GoalseekOfficeModel" "thrown" "I"] ++ wsX40)
def wsX4_in : List Cond := .code yX4_in cX4_in 3 (some .boolean) :: ([])
def wsX4_isCell : List Cond := .code yX4_isCell cX4_isCell 1 (some .boolean) :: ([.methodLink RX4 42 yX4_in, .static yX4_in, .initialized RX4, .code yX4_in cX4_in 3 (some .boolean)])
def wsX4_writes : List Cond := .code yX4_writes cX4_writes 2 (some .int) :: ([.fieldLink RX4 7 "GoalseekOfficeModel" "draft" "[I", .fieldLink RX4 46 "GoalseekOfficeModel" "drafted" "I"] ++ wsX40 ++ (vx_atM "java/lang/ArrayIndexOutOfBoundsException" ["java/lang/IndexOutOfBoundsException", "java/lang/RuntimeException", "java/lang/Exception"]).filter goodWord)
def wsX4_errorOfSign : List Cond := .code yX4_errorOfSign cX4_errorOfSign 2 (some .int) :: ([.fieldLink RX4 46 "GoalseekOfficeModel" "drafted" "I"] ++ wsX40)
def wsX4_number : List Cond := .code yX4_number cX4_number 2 (some .int) :: ([.constant RX4 49 (999999), .methodLink RX4 42 yX4_in, .static yX4_in, .initialized RX4, .code yX4_in cX4_in 3 (some .boolean), .methodLink RX4 50 yX4_errorOfSign, .instanceMethod yX4_errorOfSign, .selects RX4 yX4_errorOfSign yX4_errorOfSign, .code yX4_errorOfSign cX4_errorOfSign 2 (some .int), .fieldLink RX4 46 "GoalseekOfficeModel" "drafted" "I", .methodLink RX4 54 yX4_holds, .instanceMethod yX4_holds, .selects RX4 yX4_holds yX4_holds, .code yX4_holds cX4_holds 2 (some .boolean), .fieldLink RX4 38 "GoalseekOfficeModel" "thrown" "I", .methodLink RX4 58 yX4_writes, .instanceMethod yX4_writes, .selects RX4 yX4_writes yX4_writes, .code yX4_writes cX4_writes 2 (some .int), .fieldLink RX4 7 "GoalseekOfficeModel" "draft" "[I"] ++ wsX40 ++ (vx_atM "java/lang/ArrayIndexOutOfBoundsException" ["java/lang/IndexOutOfBoundsException", "java/lang/RuntimeException", "java/lang/Exception"]).filter goodWord)
def wsX4_cell : List Cond := .code yX4_cell cX4_cell 2 (some .int) :: ([.constant RX4 65 (1000000), .methodLink RX4 62 yX4_isCell, .static yX4_isCell, .initialized RX4, .code yX4_isCell cX4_isCell 1 (some .boolean), .methodLink RX4 42 yX4_in, .static yX4_in, .code yX4_in cX4_in 3 (some .boolean), .methodLink RX4 50 yX4_errorOfSign, .instanceMethod yX4_errorOfSign, .selects RX4 yX4_errorOfSign yX4_errorOfSign, .code yX4_errorOfSign cX4_errorOfSign 2 (some .int), .fieldLink RX4 46 "GoalseekOfficeModel" "drafted" "I", .methodLink RX4 54 yX4_holds, .instanceMethod yX4_holds, .selects RX4 yX4_holds yX4_holds, .code yX4_holds cX4_holds 2 (some .boolean), .fieldLink RX4 38 "GoalseekOfficeModel" "thrown" "I", .methodLink RX4 58 yX4_writes, .instanceMethod yX4_writes, .selects RX4 yX4_writes yX4_writes, .code yX4_writes cX4_writes 2 (some .int), .fieldLink RX4 7 "GoalseekOfficeModel" "draft" "[I"] ++ wsX40 ++ (vx_atM "java/lang/ArrayIndexOutOfBoundsException" ["java/lang/IndexOutOfBoundsException", "java/lang/RuntimeException", "java/lang/Exception"]).filter goodWord)
def wsX4_sign : List Cond := .code yX4_sign cX4_sign 2 (some .int) :: ([.constant RX4 66 (2000000), .methodLink RX4 42 yX4_in, .static yX4_in, .initialized RX4, .code yX4_in cX4_in 3 (some .boolean), .methodLink RX4 50 yX4_errorOfSign, .instanceMethod yX4_errorOfSign, .selects RX4 yX4_errorOfSign yX4_errorOfSign, .code yX4_errorOfSign cX4_errorOfSign 2 (some .int), .fieldLink RX4 46 "GoalseekOfficeModel" "drafted" "I", .methodLink RX4 54 yX4_holds, .instanceMethod yX4_holds, .selects RX4 yX4_holds yX4_holds, .code yX4_holds cX4_holds 2 (some .boolean), .fieldLink RX4 38 "GoalseekOfficeModel" "thrown" "I", .methodLink RX4 58 yX4_writes, .instanceMethod yX4_writes, .selects RX4 yX4_writes yX4_writes, .code yX4_writes cX4_writes 2 (some .int), .fieldLink RX4 7 "GoalseekOfficeModel" "draft" "[I"] ++ wsX40 ++ (vx_atM "java/lang/ArrayIndexOutOfBoundsException" ["java/lang/IndexOutOfBoundsException", "java/lang/RuntimeException", "java/lang/Exception"]).filter goodWord)
def wsX4_wipe : List Cond := .code yX4_wipe cX4_wipe 2 (some .int) :: ([.fieldLink RX4 38 "GoalseekOfficeModel" "thrown" "I", .fieldLink RX4 46 "GoalseekOfficeModel" "drafted" "I"] ++ wsX40)
def wsX4_faultOf : List Cond := .code yX4_faultOf cX4_faultOf 7 (some .int) :: ([.fieldLink RX4 46 "GoalseekOfficeModel" "drafted" "I", .fieldLink RX4 7 "GoalseekOfficeModel" "draft" "[I", .constant RX4 66 (2000000)] ++ wsX40 ++ (vx_atM "java/lang/ArrayIndexOutOfBoundsException" ["java/lang/IndexOutOfBoundsException", "java/lang/RuntimeException", "java/lang/Exception"]).filter goodWord)
def wsX4_fault : List Cond := .code yX4_fault cX4_fault 1 (some .int) :: ([.fieldLink RX4 38 "GoalseekOfficeModel" "thrown" "I", .methodLink RX4 67 yX4_faultOf, .instanceMethod yX4_faultOf, .selects RX4 yX4_faultOf yX4_faultOf, .initialized RX4, .code yX4_faultOf cX4_faultOf 7 (some .int), .fieldLink RX4 46 "GoalseekOfficeModel" "drafted" "I", .fieldLink RX4 7 "GoalseekOfficeModel" "draft" "[I", .constant RX4 66 (2000000)] ++ wsX40 ++ (vx_atM "java/lang/ArrayIndexOutOfBoundsException" ["java/lang/IndexOutOfBoundsException", "java/lang/RuntimeException", "java/lang/Exception"]).filter goodWord)
def wsX4_refers : List Cond := .code yX4_refers cX4_refers 5 (some .int) :: ([.constant RX4 65 (1000000), .constant RX4 71 (1999999), .methodLink RX4 42 yX4_in, .static yX4_in, .initialized RX4, .code yX4_in cX4_in 3 (some .boolean)] ++ (vx_atM "java/lang/ArrayIndexOutOfBoundsException" ["java/lang/IndexOutOfBoundsException", "java/lang/RuntimeException", "java/lang/Exception"]).filter goodWord)
def wsX4_refersOf : List Cond := .code yX4_refersOf cX4_refersOf 2 (some .int) :: ([.fieldLink RX4 13 "GoalseekOfficeModel" "formulas" "[I", .fieldLink RX4 16 "GoalseekOfficeModel" "sizes" "[I", .methodLink RX4 72 yX4_refers, .static yX4_refers, .initialized RX4, .code yX4_refers cX4_refers 5 (some .int), .constant RX4 65 (1000000), .constant RX4 71 (1999999), .methodLink RX4 42 yX4_in, .static yX4_in, .code yX4_in cX4_in 3 (some .boolean)] ++ wsX40 ++ (vx_atM "java/lang/ArrayIndexOutOfBoundsException" ["java/lang/IndexOutOfBoundsException", "java/lang/RuntimeException", "java/lang/Exception"]).filter goodWord)
def wsX4_below : List Cond := .code yX4_below cX4_below 5 (some .int) :: ([.methodLink RX4 76 yX4_refersOf, .instanceMethod yX4_refersOf, .selects RX4 yX4_refersOf yX4_refersOf, .initialized RX4, .code yX4_refersOf cX4_refersOf 2 (some .int), .fieldLink RX4 13 "GoalseekOfficeModel" "formulas" "[I", .fieldLink RX4 16 "GoalseekOfficeModel" "sizes" "[I", .methodLink RX4 72 yX4_refers, .static yX4_refers, .code yX4_refers cX4_refers 5 (some .int), .constant RX4 65 (1000000), .constant RX4 71 (1999999), .methodLink RX4 42 yX4_in, .static yX4_in, .code yX4_in cX4_in 3 (some .boolean)] ++ wsX40 ++ (vx_atM "java/lang/ArrayIndexOutOfBoundsException" ["java/lang/IndexOutOfBoundsException", "java/lang/RuntimeException", "java/lang/Exception"]).filter goodWord)
def wsX4_doesDepend : List Cond := .code yX4_doesDepend cX4_doesDepend 3 (some .boolean) :: ([.methodLink RX4 76 yX4_refersOf, .instanceMethod yX4_refersOf, .selects RX4 yX4_refersOf yX4_refersOf, .initialized RX4, .code yX4_refersOf cX4_refersOf 2 (some .int), .fieldLink RX4 13 "GoalseekOfficeModel" "formulas" "[I", .fieldLink RX4 16 "GoalseekOfficeModel" "sizes" "[I", .methodLink RX4 72 yX4_refers, .static yX4_refers, .code yX4_refers cX4_refers 5 (some .int), .constant RX4 65 (1000000), .constant RX4 71 (1999999), .methodLink RX4 42 yX4_in, .static yX4_in, .code yX4_in cX4_in 3 (some .boolean), .methodLink RX4 79 yX4_below, .instanceMethod yX4_below, .selects RX4 yX4_below yX4_below, .code yX4_below cX4_below 5 (some .int)] ++ wsX40 ++ (vx_atM "java/lang/ArrayIndexOutOfBoundsException" ["java/lang/IndexOutOfBoundsException", "java/lang/RuntimeException", "java/lang/Exception"]).filter goodWord)
def wsX4_anew : List Cond := .code yX4_anew cX4_anew 4 (some .int) :: ([.methodLink RX4 79 yX4_below, .instanceMethod yX4_below, .selects RX4 yX4_below yX4_below, .initialized RX4, .code yX4_below cX4_below 5 (some .int), .methodLink RX4 76 yX4_refersOf, .instanceMethod yX4_refersOf, .selects RX4 yX4_refersOf yX4_refersOf, .code yX4_refersOf cX4_refersOf 2 (some .int), .fieldLink RX4 13 "GoalseekOfficeModel" "formulas" "[I", .fieldLink RX4 16 "GoalseekOfficeModel" "sizes" "[I", .methodLink RX4 72 yX4_refers, .static yX4_refers, .code yX4_refers cX4_refers 5 (some .int), .constant RX4 65 (1000000), .constant RX4 71 (1999999), .methodLink RX4 42 yX4_in, .static yX4_in, .code yX4_in cX4_in 3 (some .boolean)] ++ wsX40 ++ (vx_atM "java/lang/ArrayIndexOutOfBoundsException" ["java/lang/IndexOutOfBoundsException", "java/lang/RuntimeException", "java/lang/Exception"]).filter goodWord)
def wsX4_pushes : List Cond := .code yX4_pushes cX4_pushes 3 none :: ([.fieldLink RX4 32 "GoalseekOfficeModel" "stack" "[J", .fieldLink RX4 82 "GoalseekOfficeModel" "height" "I", .fieldLink RX4 85 "GoalseekOfficeModel" "waits" "I", .fieldLink RX4 35 "GoalseekOfficeModel" "waiting" "[I"] ++ wsX40 ++ (vx_atM "java/lang/ArrayIndexOutOfBoundsException" ["java/lang/IndexOutOfBoundsException", "java/lang/RuntimeException", "java/lang/Exception"]).filter goodWord)
def wsX4_size : List Cond := .code yX4_size cX4_size 2 (some .long) :: ([])
def wsX4_quotient : List Cond := .code yX4_quotient cX4_quotient 6 (some .long) :: ([] ++ (vx_atM "java/lang/ArithmeticException" ["java/lang/RuntimeException", "java/lang/Exception"]).filter goodWord)
def wsX4_joins : List Cond := .code yX4_joins cX4_joins 10 none :: ([.fieldLink RX4 85 "GoalseekOfficeModel" "waits" "I", .fieldLink RX4 82 "GoalseekOfficeModel" "height" "I", .fieldLink RX4 35 "GoalseekOfficeModel" "waiting" "[I", .fieldLink RX4 32 "GoalseekOfficeModel" "stack" "[J", .constantLong RX4 92 (1000000000000), .fieldLink RX4 98 "GoalseekOfficeModel" "isBroken" "Z", .methodLink RX4 88 yX4_size, .static yX4_size, .initialized RX4, .code yX4_size cX4_size 2 (some .long), .methodLink RX4 94 yX4_quotient, .static yX4_quotient, .code yX4_quotient cX4_quotient 6 (some .long)] ++ wsX40 ++ (vx_atM "java/lang/ArrayIndexOutOfBoundsException" ["java/lang/IndexOutOfBoundsException", "java/lang/RuntimeException", "java/lang/Exception"]).filter goodWord ++ (vx_atM "java/lang/ArithmeticException" ["java/lang/RuntimeException", "java/lang/Exception"]).filter goodWord)
def wsX4_joinsAll : List Cond := .code yX4_joinsAll cX4_joinsAll 2 none :: ([.fieldLink RX4 85 "GoalseekOfficeModel" "waits" "I", .fieldLink RX4 35 "GoalseekOfficeModel" "waiting" "[I", .methodLink RX4 102 yX4_joins, .instanceMethod yX4_joins, .selects RX4 yX4_joins yX4_joins, .initialized RX4, .code yX4_joins cX4_joins 10 none, .fieldLink RX4 82 "GoalseekOfficeModel" "height" "I", .fieldLink RX4 32 "GoalseekOfficeModel" "stack" "[J", .constantLong RX4 92 (1000000000000), .fieldLink RX4 98 "GoalseekOfficeModel" "isBroken" "Z", .methodLink RX4 88 yX4_size, .static yX4_size, .code yX4_size cX4_size 2 (some .long), .methodLink RX4 94 yX4_quotient, .static yX4_quotient, .code yX4_quotient cX4_quotient 6 (some .long)] ++ wsX40 ++ (vx_atM "java/lang/ArrayIndexOutOfBoundsException" ["java/lang/IndexOutOfBoundsException", "java/lang/RuntimeException", "java/lang/Exception"]).filter goodWord ++ (vx_atM "java/lang/ArithmeticException" ["java/lang/RuntimeException", "java/lang/Exception"]).filter goodWord)
def wsX4_reads_r1 : List Cond := [Cond.constant RX4 66 (2000000), Cond.constant RX4 65 (1000000), Cond.fieldLink RX4 98 "GoalseekOfficeModel" "isBroken" "Z", Cond.fieldLink RX4 29 "GoalseekOfficeModel" "states" "[I", Cond.fieldLink RX4 25 "GoalseekOfficeModel" "values" "[J", Cond.fieldLink RX4 85 "GoalseekOfficeModel" "waits" "I", Cond.fieldLink RX4 82 "GoalseekOfficeModel" "height" "I", Cond.fieldLink RX4 32 "GoalseekOfficeModel" "stack" "[J", Cond.fieldLink RX4 35 "GoalseekOfficeModel" "waiting" "[I", Cond.methodLink RX4 105 yX4_pushes, Cond.instanceMethod yX4_pushes, Cond.selects RX4 yX4_pushes yX4_pushes, Cond.initialized RX4, Cond.code yX4_pushes cX4_pushes 3 none, Cond.methodLink RX4 109 yX4_joinsAll, Cond.instanceMethod yX4_joinsAll, Cond.selects RX4 yX4_joinsAll yX4_joinsAll, Cond.code yX4_joinsAll cX4_joinsAll 2 none, Cond.methodLink RX4 102 yX4_joins, Cond.instanceMethod yX4_joins, Cond.selects RX4 yX4_joins yX4_joins, Cond.code yX4_joins cX4_joins 10 none, Cond.constantLong RX4 92 (1000000000000), Cond.methodLink RX4 88 yX4_size]
def wsX4_reads_r2 : List Cond := [Cond.static yX4_size, Cond.code yX4_size cX4_size 2 (some .long), Cond.methodLink RX4 94 yX4_quotient, Cond.static yX4_quotient, Cond.code yX4_quotient cX4_quotient 6 (some .long)]
def wsX4_reads : List Cond := .code yX4_reads cX4_reads 4 none :: ((wsX4_reads_r1 ++ wsX4_reads_r2) ++ wsX40 ++ (vx_atM "java/lang/ArrayIndexOutOfBoundsException" ["java/lang/IndexOutOfBoundsException", "java/lang/RuntimeException", "java/lang/Exception"]).filter goodWord ++ (vx_atM "java/lang/ArithmeticException" ["java/lang/RuntimeException", "java/lang/Exception"]).filter goodWord)
def wsX4_works_r1 : List Cond := [Cond.fieldLink RX4 82 "GoalseekOfficeModel" "height" "I", Cond.fieldLink RX4 85 "GoalseekOfficeModel" "waits" "I", Cond.fieldLink RX4 98 "GoalseekOfficeModel" "isBroken" "Z", Cond.fieldLink RX4 16 "GoalseekOfficeModel" "sizes" "[I", Cond.fieldLink RX4 13 "GoalseekOfficeModel" "formulas" "[I", Cond.constant RX4 66 (2000000), Cond.fieldLink RX4 25 "GoalseekOfficeModel" "values" "[J", Cond.fieldLink RX4 32 "GoalseekOfficeModel" "stack" "[J", Cond.fieldLink RX4 29 "GoalseekOfficeModel" "states" "[I", Cond.methodLink RX4 113 yX4_reads, Cond.instanceMethod yX4_reads, Cond.selects RX4 yX4_reads yX4_reads, Cond.initialized RX4, Cond.code yX4_reads cX4_reads 4 none, Cond.constant RX4 65 (1000000), Cond.fieldLink RX4 35 "GoalseekOfficeModel" "waiting" "[I", Cond.methodLink RX4 105 yX4_pushes, Cond.instanceMethod yX4_pushes, Cond.selects RX4 yX4_pushes yX4_pushes, Cond.code yX4_pushes cX4_pushes 3 none, Cond.methodLink RX4 109 yX4_joinsAll, Cond.instanceMethod yX4_joinsAll, Cond.selects RX4 yX4_joinsAll yX4_joinsAll, Cond.code yX4_joinsAll cX4_joinsAll 2 none]
def wsX4_works_r2 : List Cond := [Cond.methodLink RX4 102 yX4_joins, Cond.instanceMethod yX4_joins, Cond.selects RX4 yX4_joins yX4_joins, Cond.code yX4_joins cX4_joins 10 none, Cond.constantLong RX4 92 (1000000000000), Cond.methodLink RX4 88 yX4_size, Cond.static yX4_size, Cond.code yX4_size cX4_size 2 (some .long), Cond.methodLink RX4 94 yX4_quotient, Cond.static yX4_quotient, Cond.code yX4_quotient cX4_quotient 6 (some .long)]
def wsX4_works : List Cond := .code yX4_works cX4_works 5 none :: ((wsX4_works_r1 ++ wsX4_works_r2) ++ wsX40 ++ (vx_atM "java/lang/ArrayIndexOutOfBoundsException" ["java/lang/IndexOutOfBoundsException", "java/lang/RuntimeException", "java/lang/Exception"]).filter goodWord ++ (vx_atM "java/lang/ArithmeticException" ["java/lang/RuntimeException", "java/lang/Exception"]).filter goodWord)
def wsX4_areKnown : List Cond := .code yX4_areKnown cX4_areKnown 3 (some .boolean) :: ([.fieldLink RX4 29 "GoalseekOfficeModel" "states" "[I"] ++ wsX40 ++ (vx_atM "java/lang/ArrayIndexOutOfBoundsException" ["java/lang/IndexOutOfBoundsException", "java/lang/RuntimeException", "java/lang/Exception"]).filter goodWord)
def wsX4_worksAll_r1 : List Cond := [Cond.fieldLink RX4 29 "GoalseekOfficeModel" "states" "[I", Cond.methodLink RX4 76 yX4_refersOf, Cond.instanceMethod yX4_refersOf, Cond.selects RX4 yX4_refersOf yX4_refersOf, Cond.initialized RX4, Cond.code yX4_refersOf cX4_refersOf 2 (some .int), Cond.fieldLink RX4 13 "GoalseekOfficeModel" "formulas" "[I", Cond.fieldLink RX4 16 "GoalseekOfficeModel" "sizes" "[I", Cond.methodLink RX4 72 yX4_refers, Cond.static yX4_refers, Cond.code yX4_refers cX4_refers 5 (some .int), Cond.constant RX4 65 (1000000), Cond.constant RX4 71 (1999999), Cond.methodLink RX4 42 yX4_in, Cond.static yX4_in, Cond.code yX4_in cX4_in 3 (some .boolean), Cond.methodLink RX4 117 yX4_areKnown, Cond.instanceMethod yX4_areKnown, Cond.selects RX4 yX4_areKnown yX4_areKnown, Cond.code yX4_areKnown cX4_areKnown 3 (some .boolean), Cond.methodLink RX4 120 yX4_works, Cond.instanceMethod yX4_works, Cond.selects RX4 yX4_works yX4_works, Cond.code yX4_works cX4_works 5 none]
def wsX4_worksAll_r2 : List Cond := [Cond.fieldLink RX4 82 "GoalseekOfficeModel" "height" "I", Cond.fieldLink RX4 85 "GoalseekOfficeModel" "waits" "I", Cond.fieldLink RX4 98 "GoalseekOfficeModel" "isBroken" "Z", Cond.constant RX4 66 (2000000), Cond.fieldLink RX4 25 "GoalseekOfficeModel" "values" "[J", Cond.fieldLink RX4 32 "GoalseekOfficeModel" "stack" "[J", Cond.methodLink RX4 113 yX4_reads, Cond.instanceMethod yX4_reads, Cond.selects RX4 yX4_reads yX4_reads, Cond.code yX4_reads cX4_reads 4 none, Cond.fieldLink RX4 35 "GoalseekOfficeModel" "waiting" "[I", Cond.methodLink RX4 105 yX4_pushes, Cond.instanceMethod yX4_pushes, Cond.selects RX4 yX4_pushes yX4_pushes, Cond.code yX4_pushes cX4_pushes 3 none, Cond.methodLink RX4 109 yX4_joinsAll, Cond.instanceMethod yX4_joinsAll, Cond.selects RX4 yX4_joinsAll yX4_joinsAll, Cond.code yX4_joinsAll cX4_joinsAll 2 none, Cond.methodLink RX4 102 yX4_joins, Cond.instanceMethod yX4_joins, Cond.selects RX4 yX4_joins yX4_joins, Cond.code yX4_joins cX4_joins 10 none, Cond.constantLong RX4 92 (1000000000000)]
def wsX4_worksAll_r3 : List Cond := [Cond.methodLink RX4 88 yX4_size, Cond.static yX4_size, Cond.code yX4_size cX4_size 2 (some .long), Cond.methodLink RX4 94 yX4_quotient, Cond.static yX4_quotient, Cond.code yX4_quotient cX4_quotient 6 (some .long)]
def wsX4_worksAll : List Cond := .code yX4_worksAll cX4_worksAll 3 none :: ((wsX4_worksAll_r1 ++ (wsX4_worksAll_r2 ++ wsX4_worksAll_r3)) ++ wsX40 ++ (vx_atM "java/lang/ArrayIndexOutOfBoundsException" ["java/lang/IndexOutOfBoundsException", "java/lang/RuntimeException", "java/lang/Exception"]).filter goodWord ++ (vx_atM "java/lang/ArithmeticException" ["java/lang/RuntimeException", "java/lang/Exception"]).filter goodWord)
def wsX4_errorOfSet_r1 : List Cond := [Cond.fieldLink RX4 7 "GoalseekOfficeModel" "draft" "[I", Cond.fieldLink RX4 46 "GoalseekOfficeModel" "drafted" "I", Cond.methodLink RX4 62 yX4_isCell, Cond.static yX4_isCell, Cond.initialized RX4, Cond.code yX4_isCell cX4_isCell 1 (some .boolean), Cond.methodLink RX4 42 yX4_in, Cond.static yX4_in, Cond.code yX4_in cX4_in 3 (some .boolean), Cond.methodLink RX4 67 yX4_faultOf, Cond.instanceMethod yX4_faultOf, Cond.selects RX4 yX4_faultOf yX4_faultOf, Cond.code yX4_faultOf cX4_faultOf 7 (some .int), Cond.constant RX4 66 (2000000), Cond.methodLink RX4 72 yX4_refers, Cond.static yX4_refers, Cond.code yX4_refers cX4_refers 5 (some .int), Cond.constant RX4 65 (1000000), Cond.constant RX4 71 (1999999), Cond.methodLink RX4 79 yX4_below, Cond.instanceMethod yX4_below, Cond.selects RX4 yX4_below yX4_below, Cond.code yX4_below cX4_below 5 (some .int), Cond.methodLink RX4 76 yX4_refersOf]
def wsX4_errorOfSet_r2 : List Cond := [Cond.instanceMethod yX4_refersOf, Cond.selects RX4 yX4_refersOf yX4_refersOf, Cond.code yX4_refersOf cX4_refersOf 2 (some .int), Cond.fieldLink RX4 13 "GoalseekOfficeModel" "formulas" "[I", Cond.fieldLink RX4 16 "GoalseekOfficeModel" "sizes" "[I"]
def wsX4_errorOfSet : List Cond := .code yX4_errorOfSet cX4_errorOfSet 2 (some .int) :: ((wsX4_errorOfSet_r1 ++ wsX4_errorOfSet_r2) ++ wsX40 ++ (vx_atM "java/lang/ArrayIndexOutOfBoundsException" ["java/lang/IndexOutOfBoundsException", "java/lang/RuntimeException", "java/lang/Exception"]).filter goodWord)
def wsX4_set_r1 : List Cond := [Cond.fieldLink RX4 46 "GoalseekOfficeModel" "drafted" "I", Cond.fieldLink RX4 13 "GoalseekOfficeModel" "formulas" "[I", Cond.fieldLink RX4 7 "GoalseekOfficeModel" "draft" "[I", Cond.fieldLink RX4 16 "GoalseekOfficeModel" "sizes" "[I", Cond.fieldLink RX4 129 "GoalseekOfficeModel" "found" "I", Cond.methodLink RX4 123 yX4_errorOfSet, Cond.instanceMethod yX4_errorOfSet, Cond.selects RX4 yX4_errorOfSet yX4_errorOfSet, Cond.initialized RX4, Cond.code yX4_errorOfSet cX4_errorOfSet 2 (some .int), Cond.methodLink RX4 62 yX4_isCell, Cond.static yX4_isCell, Cond.code yX4_isCell cX4_isCell 1 (some .boolean), Cond.methodLink RX4 42 yX4_in, Cond.static yX4_in, Cond.code yX4_in cX4_in 3 (some .boolean), Cond.methodLink RX4 67 yX4_faultOf, Cond.instanceMethod yX4_faultOf, Cond.selects RX4 yX4_faultOf yX4_faultOf, Cond.code yX4_faultOf cX4_faultOf 7 (some .int), Cond.constant RX4 66 (2000000), Cond.methodLink RX4 72 yX4_refers, Cond.static yX4_refers, Cond.code yX4_refers cX4_refers 5 (some .int)]
def wsX4_set_r2 : List Cond := [Cond.constant RX4 65 (1000000), Cond.constant RX4 71 (1999999), Cond.methodLink RX4 79 yX4_below, Cond.instanceMethod yX4_below, Cond.selects RX4 yX4_below yX4_below, Cond.code yX4_below cX4_below 5 (some .int), Cond.methodLink RX4 76 yX4_refersOf, Cond.instanceMethod yX4_refersOf, Cond.selects RX4 yX4_refersOf yX4_refersOf, Cond.code yX4_refersOf cX4_refersOf 2 (some .int), Cond.methodLink RX4 54 yX4_holds, Cond.instanceMethod yX4_holds, Cond.selects RX4 yX4_holds yX4_holds, Cond.code yX4_holds cX4_holds 2 (some .boolean), Cond.fieldLink RX4 38 "GoalseekOfficeModel" "thrown" "I", Cond.methodLink RX4 126 yX4_anew, Cond.instanceMethod yX4_anew, Cond.selects RX4 yX4_anew yX4_anew, Cond.code yX4_anew cX4_anew 4 (some .int)]
def wsX4_set : List Cond := .code yX4_set cX4_set 3 (some .int) :: ((wsX4_set_r1 ++ wsX4_set_r2) ++ wsX40 ++ (vx_atM "java/lang/ArrayIndexOutOfBoundsException" ["java/lang/IndexOutOfBoundsException", "java/lang/RuntimeException", "java/lang/Exception"]).filter goodWord)
def wsX4_puts : List Cond := .code yX4_puts cX4_puts 4 (some .int) :: ([.fieldLink RX4 13 "GoalseekOfficeModel" "formulas" "[I", .fieldLink RX4 16 "GoalseekOfficeModel" "sizes" "[I", .fieldLink RX4 129 "GoalseekOfficeModel" "found" "I", .methodLink RX4 126 yX4_anew, .instanceMethod yX4_anew, .selects RX4 yX4_anew yX4_anew, .initialized RX4, .code yX4_anew cX4_anew 4 (some .int), .methodLink RX4 79 yX4_below, .instanceMethod yX4_below, .selects RX4 yX4_below yX4_below, .code yX4_below cX4_below 5 (some .int), .methodLink RX4 76 yX4_refersOf, .instanceMethod yX4_refersOf, .selects RX4 yX4_refersOf yX4_refersOf, .code yX4_refersOf cX4_refersOf 2 (some .int), .methodLink RX4 72 yX4_refers, .static yX4_refers, .code yX4_refers cX4_refers 5 (some .int), .constant RX4 65 (1000000), .constant RX4 71 (1999999), .methodLink RX4 42 yX4_in, .static yX4_in, .code yX4_in cX4_in 3 (some .boolean)] ++ wsX40 ++ (vx_atM "java/lang/ArrayIndexOutOfBoundsException" ["java/lang/IndexOutOfBoundsException", "java/lang/RuntimeException", "java/lang/Exception"]).filter goodWord)
def wsX4_put_r1 : List Cond := [Cond.constant RX4 49 (999999), Cond.methodLink RX4 62 yX4_isCell, Cond.static yX4_isCell, Cond.initialized RX4, Cond.code yX4_isCell cX4_isCell 1 (some .boolean), Cond.methodLink RX4 42 yX4_in, Cond.static yX4_in, Cond.code yX4_in cX4_in 3 (some .boolean), Cond.methodLink RX4 54 yX4_holds, Cond.instanceMethod yX4_holds, Cond.selects RX4 yX4_holds yX4_holds, Cond.code yX4_holds cX4_holds 2 (some .boolean), Cond.fieldLink RX4 38 "GoalseekOfficeModel" "thrown" "I", Cond.methodLink RX4 132 yX4_puts, Cond.instanceMethod yX4_puts, Cond.selects RX4 yX4_puts yX4_puts, Cond.code yX4_puts cX4_puts 4 (some .int), Cond.fieldLink RX4 13 "GoalseekOfficeModel" "formulas" "[I", Cond.fieldLink RX4 16 "GoalseekOfficeModel" "sizes" "[I", Cond.fieldLink RX4 129 "GoalseekOfficeModel" "found" "I", Cond.methodLink RX4 126 yX4_anew, Cond.instanceMethod yX4_anew, Cond.selects RX4 yX4_anew yX4_anew, Cond.code yX4_anew cX4_anew 4 (some .int)]
def wsX4_put_r2 : List Cond := [Cond.methodLink RX4 79 yX4_below, Cond.instanceMethod yX4_below, Cond.selects RX4 yX4_below yX4_below, Cond.code yX4_below cX4_below 5 (some .int), Cond.methodLink RX4 76 yX4_refersOf, Cond.instanceMethod yX4_refersOf, Cond.selects RX4 yX4_refersOf yX4_refersOf, Cond.code yX4_refersOf cX4_refersOf 2 (some .int), Cond.methodLink RX4 72 yX4_refers, Cond.static yX4_refers, Cond.code yX4_refers cX4_refers 5 (some .int), Cond.constant RX4 65 (1000000), Cond.constant RX4 71 (1999999)]
def wsX4_put : List Cond := .code yX4_put cX4_put 3 (some .int) :: ((wsX4_put_r1 ++ wsX4_put_r2) ++ wsX40 ++ (vx_atM "java/lang/ArrayIndexOutOfBoundsException" ["java/lang/IndexOutOfBoundsException", "java/lang/RuntimeException", "java/lang/Exception"]).filter goodWord)
def wsX4_clear_r1 : List Cond := [Cond.fieldLink RX4 16 "GoalseekOfficeModel" "sizes" "[I", Cond.fieldLink RX4 129 "GoalseekOfficeModel" "found" "I", Cond.methodLink RX4 62 yX4_isCell, Cond.static yX4_isCell, Cond.initialized RX4, Cond.code yX4_isCell cX4_isCell 1 (some .boolean), Cond.methodLink RX4 42 yX4_in, Cond.static yX4_in, Cond.code yX4_in cX4_in 3 (some .boolean), Cond.methodLink RX4 54 yX4_holds, Cond.instanceMethod yX4_holds, Cond.selects RX4 yX4_holds yX4_holds, Cond.code yX4_holds cX4_holds 2 (some .boolean), Cond.fieldLink RX4 38 "GoalseekOfficeModel" "thrown" "I", Cond.methodLink RX4 126 yX4_anew, Cond.instanceMethod yX4_anew, Cond.selects RX4 yX4_anew yX4_anew, Cond.code yX4_anew cX4_anew 4 (some .int), Cond.methodLink RX4 79 yX4_below, Cond.instanceMethod yX4_below, Cond.selects RX4 yX4_below yX4_below, Cond.code yX4_below cX4_below 5 (some .int), Cond.methodLink RX4 76 yX4_refersOf, Cond.instanceMethod yX4_refersOf]
def wsX4_clear_r2 : List Cond := [Cond.selects RX4 yX4_refersOf yX4_refersOf, Cond.code yX4_refersOf cX4_refersOf 2 (some .int), Cond.fieldLink RX4 13 "GoalseekOfficeModel" "formulas" "[I", Cond.methodLink RX4 72 yX4_refers, Cond.static yX4_refers, Cond.code yX4_refers cX4_refers 5 (some .int), Cond.constant RX4 65 (1000000), Cond.constant RX4 71 (1999999)]
def wsX4_clear : List Cond := .code yX4_clear cX4_clear 3 (some .int) :: ((wsX4_clear_r1 ++ wsX4_clear_r2) ++ wsX40 ++ (vx_atM "java/lang/ArrayIndexOutOfBoundsException" ["java/lang/IndexOutOfBoundsException", "java/lang/RuntimeException", "java/lang/Exception"]).filter goodWord)
def wsX4_open : List Cond := .code yX4_open cX4_open 2 (some .int) :: ([.fieldLink RX4 136 "GoalseekOfficeModel" "layers" "I", .fieldLink RX4 19 "GoalseekOfficeModel" "oldFormulas" "[I", .fieldLink RX4 13 "GoalseekOfficeModel" "formulas" "[I", .fieldLink RX4 22 "GoalseekOfficeModel" "oldSizes" "[I", .fieldLink RX4 16 "GoalseekOfficeModel" "sizes" "[I", .methodLink RX4 54 yX4_holds, .instanceMethod yX4_holds, .selects RX4 yX4_holds yX4_holds, .initialized RX4, .code yX4_holds cX4_holds 2 (some .boolean), .fieldLink RX4 38 "GoalseekOfficeModel" "thrown" "I"] ++ wsX40 ++ (vx_atM "java/lang/ArrayIndexOutOfBoundsException" ["java/lang/IndexOutOfBoundsException", "java/lang/RuntimeException", "java/lang/Exception"]).filter goodWord)
def wsX4_isOther : List Cond := .code yX4_isOther cX4_isOther 4 (some .boolean) :: ([.fieldLink RX4 16 "GoalseekOfficeModel" "sizes" "[I", .fieldLink RX4 22 "GoalseekOfficeModel" "oldSizes" "[I", .fieldLink RX4 136 "GoalseekOfficeModel" "layers" "I", .fieldLink RX4 13 "GoalseekOfficeModel" "formulas" "[I", .fieldLink RX4 19 "GoalseekOfficeModel" "oldFormulas" "[I"] ++ wsX40 ++ (vx_atM "java/lang/ArrayIndexOutOfBoundsException" ["java/lang/IndexOutOfBoundsException", "java/lang/RuntimeException", "java/lang/Exception"]).filter goodWord)
def wsX4_drop_r1 : List Cond := [Cond.fieldLink RX4 136 "GoalseekOfficeModel" "layers" "I", Cond.fieldLink RX4 13 "GoalseekOfficeModel" "formulas" "[I", Cond.fieldLink RX4 19 "GoalseekOfficeModel" "oldFormulas" "[I", Cond.fieldLink RX4 16 "GoalseekOfficeModel" "sizes" "[I", Cond.fieldLink RX4 22 "GoalseekOfficeModel" "oldSizes" "[I", Cond.fieldLink RX4 129 "GoalseekOfficeModel" "found" "I", Cond.methodLink RX4 54 yX4_holds, Cond.instanceMethod yX4_holds, Cond.selects RX4 yX4_holds yX4_holds, Cond.initialized RX4, Cond.code yX4_holds cX4_holds 2 (some .boolean), Cond.fieldLink RX4 38 "GoalseekOfficeModel" "thrown" "I", Cond.methodLink RX4 139 yX4_isOther, Cond.instanceMethod yX4_isOther, Cond.selects RX4 yX4_isOther yX4_isOther, Cond.code yX4_isOther cX4_isOther 4 (some .boolean), Cond.methodLink RX4 126 yX4_anew, Cond.instanceMethod yX4_anew, Cond.selects RX4 yX4_anew yX4_anew, Cond.code yX4_anew cX4_anew 4 (some .int), Cond.methodLink RX4 79 yX4_below, Cond.instanceMethod yX4_below, Cond.selects RX4 yX4_below yX4_below, Cond.code yX4_below cX4_below 5 (some .int)]
def wsX4_drop_r2 : List Cond := [Cond.methodLink RX4 76 yX4_refersOf, Cond.instanceMethod yX4_refersOf, Cond.selects RX4 yX4_refersOf yX4_refersOf, Cond.code yX4_refersOf cX4_refersOf 2 (some .int), Cond.methodLink RX4 72 yX4_refers, Cond.static yX4_refers, Cond.code yX4_refers cX4_refers 5 (some .int), Cond.constant RX4 65 (1000000), Cond.constant RX4 71 (1999999), Cond.methodLink RX4 42 yX4_in, Cond.static yX4_in, Cond.code yX4_in cX4_in 3 (some .boolean)]
def wsX4_drop : List Cond := .code yX4_drop cX4_drop 4 (some .int) :: ((wsX4_drop_r1 ++ wsX4_drop_r2) ++ wsX40 ++ (vx_atM "java/lang/ArrayIndexOutOfBoundsException" ["java/lang/IndexOutOfBoundsException", "java/lang/RuntimeException", "java/lang/Exception"]).filter goodWord)
def wsX4_keep : List Cond := .code yX4_keep cX4_keep 1 (some .int) :: ([.fieldLink RX4 136 "GoalseekOfficeModel" "layers" "I", .methodLink RX4 54 yX4_holds, .instanceMethod yX4_holds, .selects RX4 yX4_holds yX4_holds, .initialized RX4, .code yX4_holds cX4_holds 2 (some .boolean), .fieldLink RX4 38 "GoalseekOfficeModel" "thrown" "I"] ++ wsX40)
def wsX4_layers : List Cond := .code yX4_layers cX4_layers 1 (some .int) :: ([.fieldLink RX4 38 "GoalseekOfficeModel" "thrown" "I", .fieldLink RX4 136 "GoalseekOfficeModel" "layers" "I"] ++ wsX40)
def wsX4_drafted : List Cond := .code yX4_drafted cX4_drafted 1 (some .int) :: ([.fieldLink RX4 38 "GoalseekOfficeModel" "thrown" "I", .fieldLink RX4 46 "GoalseekOfficeModel" "drafted" "I"] ++ wsX40)
def wsX4_errorOfValue_r1 : List Cond := [Cond.fieldLink RX4 29 "GoalseekOfficeModel" "states" "[I", Cond.methodLink RX4 142 yX4_worksAll, Cond.instanceMethod yX4_worksAll, Cond.selects RX4 yX4_worksAll yX4_worksAll, Cond.initialized RX4, Cond.code yX4_worksAll cX4_worksAll 3 none, Cond.methodLink RX4 76 yX4_refersOf, Cond.instanceMethod yX4_refersOf, Cond.selects RX4 yX4_refersOf yX4_refersOf, Cond.code yX4_refersOf cX4_refersOf 2 (some .int), Cond.fieldLink RX4 13 "GoalseekOfficeModel" "formulas" "[I", Cond.fieldLink RX4 16 "GoalseekOfficeModel" "sizes" "[I", Cond.methodLink RX4 72 yX4_refers, Cond.static yX4_refers, Cond.code yX4_refers cX4_refers 5 (some .int), Cond.constant RX4 65 (1000000), Cond.constant RX4 71 (1999999), Cond.methodLink RX4 42 yX4_in, Cond.static yX4_in, Cond.code yX4_in cX4_in 3 (some .boolean), Cond.methodLink RX4 117 yX4_areKnown, Cond.instanceMethod yX4_areKnown, Cond.selects RX4 yX4_areKnown yX4_areKnown, Cond.code yX4_areKnown cX4_areKnown 3 (some .boolean)]
def wsX4_errorOfValue_r2 : List Cond := [Cond.methodLink RX4 120 yX4_works, Cond.instanceMethod yX4_works, Cond.selects RX4 yX4_works yX4_works, Cond.code yX4_works cX4_works 5 none, Cond.fieldLink RX4 82 "GoalseekOfficeModel" "height" "I", Cond.fieldLink RX4 85 "GoalseekOfficeModel" "waits" "I", Cond.fieldLink RX4 98 "GoalseekOfficeModel" "isBroken" "Z", Cond.constant RX4 66 (2000000), Cond.fieldLink RX4 25 "GoalseekOfficeModel" "values" "[J", Cond.fieldLink RX4 32 "GoalseekOfficeModel" "stack" "[J", Cond.methodLink RX4 113 yX4_reads, Cond.instanceMethod yX4_reads, Cond.selects RX4 yX4_reads yX4_reads, Cond.code yX4_reads cX4_reads 4 none, Cond.fieldLink RX4 35 "GoalseekOfficeModel" "waiting" "[I", Cond.methodLink RX4 105 yX4_pushes, Cond.instanceMethod yX4_pushes, Cond.selects RX4 yX4_pushes yX4_pushes, Cond.code yX4_pushes cX4_pushes 3 none, Cond.methodLink RX4 109 yX4_joinsAll, Cond.instanceMethod yX4_joinsAll, Cond.selects RX4 yX4_joinsAll yX4_joinsAll, Cond.code yX4_joinsAll cX4_joinsAll 2 none, Cond.methodLink RX4 102 yX4_joins]
def wsX4_errorOfValue_r3 : List Cond := [Cond.instanceMethod yX4_joins, Cond.selects RX4 yX4_joins yX4_joins, Cond.code yX4_joins cX4_joins 10 none, Cond.constantLong RX4 92 (1000000000000), Cond.methodLink RX4 88 yX4_size, Cond.static yX4_size, Cond.code yX4_size cX4_size 2 (some .long), Cond.methodLink RX4 94 yX4_quotient, Cond.static yX4_quotient, Cond.code yX4_quotient cX4_quotient 6 (some .long), Cond.methodLink RX4 62 yX4_isCell, Cond.static yX4_isCell, Cond.code yX4_isCell cX4_isCell 1 (some .boolean)]
def wsX4_errorOfValue : List Cond := .code yX4_errorOfValue cX4_errorOfValue 2 (some .int) :: ((wsX4_errorOfValue_r1 ++ (wsX4_errorOfValue_r2 ++ wsX4_errorOfValue_r3)) ++ wsX40 ++ (vx_atM "java/lang/ArrayIndexOutOfBoundsException" ["java/lang/IndexOutOfBoundsException", "java/lang/RuntimeException", "java/lang/Exception"]).filter goodWord ++ (vx_atM "java/lang/ArithmeticException" ["java/lang/RuntimeException", "java/lang/Exception"]).filter goodWord)
def wsX4_value_r1 : List Cond := [Cond.fieldLink RX4 25 "GoalseekOfficeModel" "values" "[J", Cond.methodLink RX4 145 yX4_errorOfValue, Cond.instanceMethod yX4_errorOfValue, Cond.selects RX4 yX4_errorOfValue yX4_errorOfValue, Cond.initialized RX4, Cond.code yX4_errorOfValue cX4_errorOfValue 2 (some .int), Cond.fieldLink RX4 29 "GoalseekOfficeModel" "states" "[I", Cond.methodLink RX4 142 yX4_worksAll, Cond.instanceMethod yX4_worksAll, Cond.selects RX4 yX4_worksAll yX4_worksAll, Cond.code yX4_worksAll cX4_worksAll 3 none, Cond.methodLink RX4 76 yX4_refersOf, Cond.instanceMethod yX4_refersOf, Cond.selects RX4 yX4_refersOf yX4_refersOf, Cond.code yX4_refersOf cX4_refersOf 2 (some .int), Cond.fieldLink RX4 13 "GoalseekOfficeModel" "formulas" "[I", Cond.fieldLink RX4 16 "GoalseekOfficeModel" "sizes" "[I", Cond.methodLink RX4 72 yX4_refers, Cond.static yX4_refers, Cond.code yX4_refers cX4_refers 5 (some .int), Cond.constant RX4 65 (1000000), Cond.constant RX4 71 (1999999), Cond.methodLink RX4 42 yX4_in, Cond.static yX4_in]
def wsX4_value_r2 : List Cond := [Cond.code yX4_in cX4_in 3 (some .boolean), Cond.methodLink RX4 117 yX4_areKnown, Cond.instanceMethod yX4_areKnown, Cond.selects RX4 yX4_areKnown yX4_areKnown, Cond.code yX4_areKnown cX4_areKnown 3 (some .boolean), Cond.methodLink RX4 120 yX4_works, Cond.instanceMethod yX4_works, Cond.selects RX4 yX4_works yX4_works, Cond.code yX4_works cX4_works 5 none, Cond.fieldLink RX4 82 "GoalseekOfficeModel" "height" "I", Cond.fieldLink RX4 85 "GoalseekOfficeModel" "waits" "I", Cond.fieldLink RX4 98 "GoalseekOfficeModel" "isBroken" "Z", Cond.constant RX4 66 (2000000), Cond.fieldLink RX4 32 "GoalseekOfficeModel" "stack" "[J", Cond.methodLink RX4 113 yX4_reads, Cond.instanceMethod yX4_reads, Cond.selects RX4 yX4_reads yX4_reads, Cond.code yX4_reads cX4_reads 4 none, Cond.fieldLink RX4 35 "GoalseekOfficeModel" "waiting" "[I", Cond.methodLink RX4 105 yX4_pushes, Cond.instanceMethod yX4_pushes, Cond.selects RX4 yX4_pushes yX4_pushes, Cond.code yX4_pushes cX4_pushes 3 none, Cond.methodLink RX4 109 yX4_joinsAll]
def wsX4_value_r3 : List Cond := [Cond.instanceMethod yX4_joinsAll, Cond.selects RX4 yX4_joinsAll yX4_joinsAll, Cond.code yX4_joinsAll cX4_joinsAll 2 none, Cond.methodLink RX4 102 yX4_joins, Cond.instanceMethod yX4_joins, Cond.selects RX4 yX4_joins yX4_joins, Cond.code yX4_joins cX4_joins 10 none, Cond.constantLong RX4 92 (1000000000000), Cond.methodLink RX4 88 yX4_size, Cond.static yX4_size, Cond.code yX4_size cX4_size 2 (some .long), Cond.methodLink RX4 94 yX4_quotient, Cond.static yX4_quotient, Cond.code yX4_quotient cX4_quotient 6 (some .long), Cond.methodLink RX4 62 yX4_isCell, Cond.static yX4_isCell, Cond.code yX4_isCell cX4_isCell 1 (some .boolean), Cond.methodLink RX4 54 yX4_holds, Cond.instanceMethod yX4_holds, Cond.selects RX4 yX4_holds yX4_holds, Cond.code yX4_holds cX4_holds 2 (some .boolean), Cond.fieldLink RX4 38 "GoalseekOfficeModel" "thrown" "I"]
def wsX4_value : List Cond := .code yX4_value cX4_value 2 (some .long) :: ((wsX4_value_r1 ++ (wsX4_value_r2 ++ wsX4_value_r3)) ++ wsX40 ++ (vx_atM "java/lang/ArrayIndexOutOfBoundsException" ["java/lang/IndexOutOfBoundsException", "java/lang/RuntimeException", "java/lang/Exception"]).filter goodWord ++ (vx_atM "java/lang/ArithmeticException" ["java/lang/RuntimeException", "java/lang/Exception"]).filter goodWord)
def wsX4_valueAnew_r1 : List Cond := [Cond.fieldLink RX4 25 "GoalseekOfficeModel" "values" "[J", Cond.methodLink RX4 145 yX4_errorOfValue, Cond.instanceMethod yX4_errorOfValue, Cond.selects RX4 yX4_errorOfValue yX4_errorOfValue, Cond.initialized RX4, Cond.code yX4_errorOfValue cX4_errorOfValue 2 (some .int), Cond.fieldLink RX4 29 "GoalseekOfficeModel" "states" "[I", Cond.methodLink RX4 142 yX4_worksAll, Cond.instanceMethod yX4_worksAll, Cond.selects RX4 yX4_worksAll yX4_worksAll, Cond.code yX4_worksAll cX4_worksAll 3 none, Cond.methodLink RX4 76 yX4_refersOf, Cond.instanceMethod yX4_refersOf, Cond.selects RX4 yX4_refersOf yX4_refersOf, Cond.code yX4_refersOf cX4_refersOf 2 (some .int), Cond.fieldLink RX4 13 "GoalseekOfficeModel" "formulas" "[I", Cond.fieldLink RX4 16 "GoalseekOfficeModel" "sizes" "[I", Cond.methodLink RX4 72 yX4_refers, Cond.static yX4_refers, Cond.code yX4_refers cX4_refers 5 (some .int), Cond.constant RX4 65 (1000000), Cond.constant RX4 71 (1999999), Cond.methodLink RX4 42 yX4_in, Cond.static yX4_in]
def wsX4_valueAnew_r2 : List Cond := [Cond.code yX4_in cX4_in 3 (some .boolean), Cond.methodLink RX4 117 yX4_areKnown, Cond.instanceMethod yX4_areKnown, Cond.selects RX4 yX4_areKnown yX4_areKnown, Cond.code yX4_areKnown cX4_areKnown 3 (some .boolean), Cond.methodLink RX4 120 yX4_works, Cond.instanceMethod yX4_works, Cond.selects RX4 yX4_works yX4_works, Cond.code yX4_works cX4_works 5 none, Cond.fieldLink RX4 82 "GoalseekOfficeModel" "height" "I", Cond.fieldLink RX4 85 "GoalseekOfficeModel" "waits" "I", Cond.fieldLink RX4 98 "GoalseekOfficeModel" "isBroken" "Z", Cond.constant RX4 66 (2000000), Cond.fieldLink RX4 32 "GoalseekOfficeModel" "stack" "[J", Cond.methodLink RX4 113 yX4_reads, Cond.instanceMethod yX4_reads, Cond.selects RX4 yX4_reads yX4_reads, Cond.code yX4_reads cX4_reads 4 none, Cond.fieldLink RX4 35 "GoalseekOfficeModel" "waiting" "[I", Cond.methodLink RX4 105 yX4_pushes, Cond.instanceMethod yX4_pushes, Cond.selects RX4 yX4_pushes yX4_pushes, Cond.code yX4_pushes cX4_pushes 3 none, Cond.methodLink RX4 109 yX4_joinsAll]
def wsX4_valueAnew_r3 : List Cond := [Cond.instanceMethod yX4_joinsAll, Cond.selects RX4 yX4_joinsAll yX4_joinsAll, Cond.code yX4_joinsAll cX4_joinsAll 2 none, Cond.methodLink RX4 102 yX4_joins, Cond.instanceMethod yX4_joins, Cond.selects RX4 yX4_joins yX4_joins, Cond.code yX4_joins cX4_joins 10 none, Cond.constantLong RX4 92 (1000000000000), Cond.methodLink RX4 88 yX4_size, Cond.static yX4_size, Cond.code yX4_size cX4_size 2 (some .long), Cond.methodLink RX4 94 yX4_quotient, Cond.static yX4_quotient, Cond.code yX4_quotient cX4_quotient 6 (some .long), Cond.methodLink RX4 62 yX4_isCell, Cond.static yX4_isCell, Cond.code yX4_isCell cX4_isCell 1 (some .boolean), Cond.methodLink RX4 54 yX4_holds, Cond.instanceMethod yX4_holds, Cond.selects RX4 yX4_holds yX4_holds, Cond.code yX4_holds cX4_holds 2 (some .boolean), Cond.fieldLink RX4 38 "GoalseekOfficeModel" "thrown" "I"]
def wsX4_valueAnew : List Cond := .code yX4_valueAnew cX4_valueAnew 2 (some .long) :: ((wsX4_valueAnew_r1 ++ (wsX4_valueAnew_r2 ++ wsX4_valueAnew_r3)) ++ wsX40 ++ (vx_atM "java/lang/ArrayIndexOutOfBoundsException" ["java/lang/IndexOutOfBoundsException", "java/lang/RuntimeException", "java/lang/Exception"]).filter goodWord ++ (vx_atM "java/lang/ArithmeticException" ["java/lang/RuntimeException", "java/lang/Exception"]).filter goodWord)
def wsX4_signs : List Cond := .code yX4_signs cX4_signs 2 (some .int) :: ([.fieldLink RX4 16 "GoalseekOfficeModel" "sizes" "[I", .methodLink RX4 62 yX4_isCell, .static yX4_isCell, .initialized RX4, .code yX4_isCell cX4_isCell 1 (some .boolean), .methodLink RX4 42 yX4_in, .static yX4_in, .code yX4_in cX4_in 3 (some .boolean), .methodLink RX4 54 yX4_holds, .instanceMethod yX4_holds, .selects RX4 yX4_holds yX4_holds, .code yX4_holds cX4_holds 2 (some .boolean), .fieldLink RX4 38 "GoalseekOfficeModel" "thrown" "I"] ++ wsX40 ++ (vx_atM "java/lang/ArrayIndexOutOfBoundsException" ["java/lang/IndexOutOfBoundsException", "java/lang/RuntimeException", "java/lang/Exception"]).filter goodWord)
def wsX4_level : List Cond := .code yX4_level cX4_level 6 (some .int) :: ([.methodLink RX4 62 yX4_isCell, .static yX4_isCell, .initialized RX4, .code yX4_isCell cX4_isCell 1 (some .boolean), .methodLink RX4 42 yX4_in, .static yX4_in, .code yX4_in cX4_in 3 (some .boolean), .methodLink RX4 54 yX4_holds, .instanceMethod yX4_holds, .selects RX4 yX4_holds yX4_holds, .code yX4_holds cX4_holds 2 (some .boolean), .fieldLink RX4 38 "GoalseekOfficeModel" "thrown" "I", .methodLink RX4 76 yX4_refersOf, .instanceMethod yX4_refersOf, .selects RX4 yX4_refersOf yX4_refersOf, .code yX4_refersOf cX4_refersOf 2 (some .int), .fieldLink RX4 13 "GoalseekOfficeModel" "formulas" "[I", .fieldLink RX4 16 "GoalseekOfficeModel" "sizes" "[I", .methodLink RX4 72 yX4_refers, .static yX4_refers, .code yX4_refers cX4_refers 5 (some .int), .constant RX4 65 (1000000), .constant RX4 71 (1999999)] ++ wsX40 ++ (vx_atM "java/lang/ArrayIndexOutOfBoundsException" ["java/lang/IndexOutOfBoundsException", "java/lang/RuntimeException", "java/lang/Exception"]).filter goodWord)
def wsX4_depends_r1 : List Cond := [Cond.methodLink RX4 62 yX4_isCell, Cond.static yX4_isCell, Cond.initialized RX4, Cond.code yX4_isCell cX4_isCell 1 (some .boolean), Cond.methodLink RX4 42 yX4_in, Cond.static yX4_in, Cond.code yX4_in cX4_in 3 (some .boolean), Cond.methodLink RX4 54 yX4_holds, Cond.instanceMethod yX4_holds, Cond.selects RX4 yX4_holds yX4_holds, Cond.code yX4_holds cX4_holds 2 (some .boolean), Cond.fieldLink RX4 38 "GoalseekOfficeModel" "thrown" "I", Cond.methodLink RX4 148 yX4_doesDepend, Cond.instanceMethod yX4_doesDepend, Cond.selects RX4 yX4_doesDepend yX4_doesDepend, Cond.code yX4_doesDepend cX4_doesDepend 3 (some .boolean), Cond.methodLink RX4 76 yX4_refersOf, Cond.instanceMethod yX4_refersOf, Cond.selects RX4 yX4_refersOf yX4_refersOf, Cond.code yX4_refersOf cX4_refersOf 2 (some .int), Cond.fieldLink RX4 13 "GoalseekOfficeModel" "formulas" "[I", Cond.fieldLink RX4 16 "GoalseekOfficeModel" "sizes" "[I", Cond.methodLink RX4 72 yX4_refers, Cond.static yX4_refers]
def wsX4_depends_r2 : List Cond := [Cond.code yX4_refers cX4_refers 5 (some .int), Cond.constant RX4 65 (1000000), Cond.constant RX4 71 (1999999), Cond.methodLink RX4 79 yX4_below, Cond.instanceMethod yX4_below, Cond.selects RX4 yX4_below yX4_below, Cond.code yX4_below cX4_below 5 (some .int)]
def wsX4_depends : List Cond := .code yX4_depends cX4_depends 3 (some .boolean) :: ((wsX4_depends_r1 ++ wsX4_depends_r2) ++ wsX40 ++ (vx_atM "java/lang/ArrayIndexOutOfBoundsException" ["java/lang/IndexOutOfBoundsException", "java/lang/RuntimeException", "java/lang/Exception"]).filter goodWord)
def wsX4_faulty_r1 : List Cond := [Cond.fieldLink RX4 38 "GoalseekOfficeModel" "thrown" "I", Cond.fieldLink RX4 29 "GoalseekOfficeModel" "states" "[I", Cond.methodLink RX4 142 yX4_worksAll, Cond.instanceMethod yX4_worksAll, Cond.selects RX4 yX4_worksAll yX4_worksAll, Cond.initialized RX4, Cond.code yX4_worksAll cX4_worksAll 3 none, Cond.methodLink RX4 76 yX4_refersOf, Cond.instanceMethod yX4_refersOf, Cond.selects RX4 yX4_refersOf yX4_refersOf, Cond.code yX4_refersOf cX4_refersOf 2 (some .int), Cond.fieldLink RX4 13 "GoalseekOfficeModel" "formulas" "[I", Cond.fieldLink RX4 16 "GoalseekOfficeModel" "sizes" "[I", Cond.methodLink RX4 72 yX4_refers, Cond.static yX4_refers, Cond.code yX4_refers cX4_refers 5 (some .int), Cond.constant RX4 65 (1000000), Cond.constant RX4 71 (1999999), Cond.methodLink RX4 42 yX4_in, Cond.static yX4_in, Cond.code yX4_in cX4_in 3 (some .boolean), Cond.methodLink RX4 117 yX4_areKnown, Cond.instanceMethod yX4_areKnown, Cond.selects RX4 yX4_areKnown yX4_areKnown]
def wsX4_faulty_r2 : List Cond := [Cond.code yX4_areKnown cX4_areKnown 3 (some .boolean), Cond.methodLink RX4 120 yX4_works, Cond.instanceMethod yX4_works, Cond.selects RX4 yX4_works yX4_works, Cond.code yX4_works cX4_works 5 none, Cond.fieldLink RX4 82 "GoalseekOfficeModel" "height" "I", Cond.fieldLink RX4 85 "GoalseekOfficeModel" "waits" "I", Cond.fieldLink RX4 98 "GoalseekOfficeModel" "isBroken" "Z", Cond.constant RX4 66 (2000000), Cond.fieldLink RX4 25 "GoalseekOfficeModel" "values" "[J", Cond.fieldLink RX4 32 "GoalseekOfficeModel" "stack" "[J", Cond.methodLink RX4 113 yX4_reads, Cond.instanceMethod yX4_reads, Cond.selects RX4 yX4_reads yX4_reads, Cond.code yX4_reads cX4_reads 4 none, Cond.fieldLink RX4 35 "GoalseekOfficeModel" "waiting" "[I", Cond.methodLink RX4 105 yX4_pushes, Cond.instanceMethod yX4_pushes, Cond.selects RX4 yX4_pushes yX4_pushes, Cond.code yX4_pushes cX4_pushes 3 none, Cond.methodLink RX4 109 yX4_joinsAll, Cond.instanceMethod yX4_joinsAll, Cond.selects RX4 yX4_joinsAll yX4_joinsAll, Cond.code yX4_joinsAll cX4_joinsAll 2 none]
def wsX4_faulty_r3 : List Cond := [Cond.methodLink RX4 102 yX4_joins, Cond.instanceMethod yX4_joins, Cond.selects RX4 yX4_joins yX4_joins, Cond.code yX4_joins cX4_joins 10 none, Cond.constantLong RX4 92 (1000000000000), Cond.methodLink RX4 88 yX4_size, Cond.static yX4_size, Cond.code yX4_size cX4_size 2 (some .long), Cond.methodLink RX4 94 yX4_quotient, Cond.static yX4_quotient, Cond.code yX4_quotient cX4_quotient 6 (some .long)]
def wsX4_faulty : List Cond := .code yX4_faulty cX4_faulty 3 (some .int) :: ((wsX4_faulty_r1 ++ (wsX4_faulty_r2 ++ wsX4_faulty_r3)) ++ wsX40 ++ (vx_atM "java/lang/ArrayIndexOutOfBoundsException" ["java/lang/IndexOutOfBoundsException", "java/lang/RuntimeException", "java/lang/Exception"]).filter goodWord ++ (vx_atM "java/lang/ArithmeticException" ["java/lang/RuntimeException", "java/lang/Exception"]).filter goodWord)
def wsX4_foundAnew : List Cond := .code yX4_foundAnew cX4_foundAnew 1 (some .int) :: ([.fieldLink RX4 38 "GoalseekOfficeModel" "thrown" "I", .fieldLink RX4 129 "GoalseekOfficeModel" "found" "I"] ++ wsX40)
def wsX4_side_r1 : List Cond := [Cond.fieldLink RX4 16 "GoalseekOfficeModel" "sizes" "[I", Cond.fieldLink RX4 13 "GoalseekOfficeModel" "formulas" "[I", Cond.fieldLink RX4 29 "GoalseekOfficeModel" "states" "[I", Cond.fieldLink RX4 25 "GoalseekOfficeModel" "values" "[J", Cond.methodLink RX4 142 yX4_worksAll, Cond.instanceMethod yX4_worksAll, Cond.selects RX4 yX4_worksAll yX4_worksAll, Cond.initialized RX4, Cond.code yX4_worksAll cX4_worksAll 3 none, Cond.methodLink RX4 76 yX4_refersOf, Cond.instanceMethod yX4_refersOf, Cond.selects RX4 yX4_refersOf yX4_refersOf, Cond.code yX4_refersOf cX4_refersOf 2 (some .int), Cond.methodLink RX4 72 yX4_refers, Cond.static yX4_refers, Cond.code yX4_refers cX4_refers 5 (some .int), Cond.constant RX4 65 (1000000), Cond.constant RX4 71 (1999999), Cond.methodLink RX4 42 yX4_in, Cond.static yX4_in, Cond.code yX4_in cX4_in 3 (some .boolean), Cond.methodLink RX4 117 yX4_areKnown, Cond.instanceMethod yX4_areKnown, Cond.selects RX4 yX4_areKnown yX4_areKnown]
def wsX4_side_r2 : List Cond := [Cond.code yX4_areKnown cX4_areKnown 3 (some .boolean), Cond.methodLink RX4 120 yX4_works, Cond.instanceMethod yX4_works, Cond.selects RX4 yX4_works yX4_works, Cond.code yX4_works cX4_works 5 none, Cond.fieldLink RX4 82 "GoalseekOfficeModel" "height" "I", Cond.fieldLink RX4 85 "GoalseekOfficeModel" "waits" "I", Cond.fieldLink RX4 98 "GoalseekOfficeModel" "isBroken" "Z", Cond.constant RX4 66 (2000000), Cond.fieldLink RX4 32 "GoalseekOfficeModel" "stack" "[J", Cond.methodLink RX4 113 yX4_reads, Cond.instanceMethod yX4_reads, Cond.selects RX4 yX4_reads yX4_reads, Cond.code yX4_reads cX4_reads 4 none, Cond.fieldLink RX4 35 "GoalseekOfficeModel" "waiting" "[I", Cond.methodLink RX4 105 yX4_pushes, Cond.instanceMethod yX4_pushes, Cond.selects RX4 yX4_pushes yX4_pushes, Cond.code yX4_pushes cX4_pushes 3 none, Cond.methodLink RX4 109 yX4_joinsAll, Cond.instanceMethod yX4_joinsAll, Cond.selects RX4 yX4_joinsAll yX4_joinsAll, Cond.code yX4_joinsAll cX4_joinsAll 2 none, Cond.methodLink RX4 102 yX4_joins]
def wsX4_side_r3 : List Cond := [Cond.instanceMethod yX4_joins, Cond.selects RX4 yX4_joins yX4_joins, Cond.code yX4_joins cX4_joins 10 none, Cond.constantLong RX4 92 (1000000000000), Cond.methodLink RX4 88 yX4_size, Cond.static yX4_size, Cond.code yX4_size cX4_size 2 (some .long), Cond.methodLink RX4 94 yX4_quotient, Cond.static yX4_quotient, Cond.code yX4_quotient cX4_quotient 6 (some .long)]
def wsX4_side : List Cond := .code yX4_side cX4_side 7 (some .int) :: ((wsX4_side_r1 ++ (wsX4_side_r2 ++ wsX4_side_r3)) ++ wsX40 ++ (vx_atM "java/lang/ArrayIndexOutOfBoundsException" ["java/lang/IndexOutOfBoundsException", "java/lang/RuntimeException", "java/lang/Exception"]).filter goodWord ++ (vx_atM "java/lang/ArithmeticException" ["java/lang/RuntimeException", "java/lang/Exception"]).filter goodWord)
def wsX4_sought_r1 : List Cond := [Cond.methodLink RX4 152 yX4_side, Cond.instanceMethod yX4_side, Cond.selects RX4 yX4_side yX4_side, Cond.initialized RX4, Cond.code yX4_side cX4_side 7 (some .int), Cond.fieldLink RX4 16 "GoalseekOfficeModel" "sizes" "[I", Cond.fieldLink RX4 13 "GoalseekOfficeModel" "formulas" "[I", Cond.fieldLink RX4 29 "GoalseekOfficeModel" "states" "[I", Cond.fieldLink RX4 25 "GoalseekOfficeModel" "values" "[J", Cond.methodLink RX4 142 yX4_worksAll, Cond.instanceMethod yX4_worksAll, Cond.selects RX4 yX4_worksAll yX4_worksAll, Cond.code yX4_worksAll cX4_worksAll 3 none, Cond.methodLink RX4 76 yX4_refersOf, Cond.instanceMethod yX4_refersOf, Cond.selects RX4 yX4_refersOf yX4_refersOf, Cond.code yX4_refersOf cX4_refersOf 2 (some .int), Cond.methodLink RX4 72 yX4_refers, Cond.static yX4_refers, Cond.code yX4_refers cX4_refers 5 (some .int), Cond.constant RX4 65 (1000000), Cond.constant RX4 71 (1999999), Cond.methodLink RX4 42 yX4_in, Cond.static yX4_in]
def wsX4_sought_r2 : List Cond := [Cond.code yX4_in cX4_in 3 (some .boolean), Cond.methodLink RX4 117 yX4_areKnown, Cond.instanceMethod yX4_areKnown, Cond.selects RX4 yX4_areKnown yX4_areKnown, Cond.code yX4_areKnown cX4_areKnown 3 (some .boolean), Cond.methodLink RX4 120 yX4_works, Cond.instanceMethod yX4_works, Cond.selects RX4 yX4_works yX4_works, Cond.code yX4_works cX4_works 5 none, Cond.fieldLink RX4 82 "GoalseekOfficeModel" "height" "I", Cond.fieldLink RX4 85 "GoalseekOfficeModel" "waits" "I", Cond.fieldLink RX4 98 "GoalseekOfficeModel" "isBroken" "Z", Cond.constant RX4 66 (2000000), Cond.fieldLink RX4 32 "GoalseekOfficeModel" "stack" "[J", Cond.methodLink RX4 113 yX4_reads, Cond.instanceMethod yX4_reads, Cond.selects RX4 yX4_reads yX4_reads, Cond.code yX4_reads cX4_reads 4 none, Cond.fieldLink RX4 35 "GoalseekOfficeModel" "waiting" "[I", Cond.methodLink RX4 105 yX4_pushes, Cond.instanceMethod yX4_pushes, Cond.selects RX4 yX4_pushes yX4_pushes, Cond.code yX4_pushes cX4_pushes 3 none, Cond.methodLink RX4 109 yX4_joinsAll]
def wsX4_sought_r3 : List Cond := [Cond.instanceMethod yX4_joinsAll, Cond.selects RX4 yX4_joinsAll yX4_joinsAll, Cond.code yX4_joinsAll cX4_joinsAll 2 none, Cond.methodLink RX4 102 yX4_joins, Cond.instanceMethod yX4_joins, Cond.selects RX4 yX4_joins yX4_joins, Cond.code yX4_joins cX4_joins 10 none, Cond.constantLong RX4 92 (1000000000000), Cond.methodLink RX4 88 yX4_size, Cond.static yX4_size, Cond.code yX4_size cX4_size 2 (some .long), Cond.methodLink RX4 94 yX4_quotient, Cond.static yX4_quotient, Cond.code yX4_quotient cX4_quotient 6 (some .long)]
def wsX4_sought : List Cond := .code yX4_sought cX4_sought 12 (some .int) :: ((wsX4_sought_r1 ++ (wsX4_sought_r2 ++ wsX4_sought_r3)) ++ wsX40 ++ (vx_atM "java/lang/ArrayIndexOutOfBoundsException" ["java/lang/IndexOutOfBoundsException", "java/lang/RuntimeException", "java/lang/Exception"]).filter goodWord ++ (vx_atM "java/lang/ArithmeticException" ["java/lang/RuntimeException", "java/lang/Exception"]).filter goodWord)
def wsX4_errorOfSeek_r1 : List Cond := [Cond.constant RX4 156 (-1000000000), Cond.constant RX4 157 (1000000000), Cond.constant RX4 49 (999999), Cond.fieldLink RX4 16 "GoalseekOfficeModel" "sizes" "[I", Cond.fieldLink RX4 13 "GoalseekOfficeModel" "formulas" "[I", Cond.constant RX4 65 (1000000), Cond.methodLink RX4 62 yX4_isCell, Cond.static yX4_isCell, Cond.initialized RX4, Cond.code yX4_isCell cX4_isCell 1 (some .boolean), Cond.methodLink RX4 42 yX4_in, Cond.static yX4_in, Cond.code yX4_in cX4_in 3 (some .boolean), Cond.methodLink RX4 148 yX4_doesDepend, Cond.instanceMethod yX4_doesDepend, Cond.selects RX4 yX4_doesDepend yX4_doesDepend, Cond.code yX4_doesDepend cX4_doesDepend 3 (some .boolean), Cond.methodLink RX4 76 yX4_refersOf, Cond.instanceMethod yX4_refersOf, Cond.selects RX4 yX4_refersOf yX4_refersOf, Cond.code yX4_refersOf cX4_refersOf 2 (some .int), Cond.methodLink RX4 72 yX4_refers, Cond.static yX4_refers, Cond.code yX4_refers cX4_refers 5 (some .int)]
def wsX4_errorOfSeek_r2 : List Cond := [Cond.constant RX4 71 (1999999), Cond.methodLink RX4 79 yX4_below, Cond.instanceMethod yX4_below, Cond.selects RX4 yX4_below yX4_below, Cond.code yX4_below cX4_below 5 (some .int)]
def wsX4_errorOfSeek : List Cond := .code yX4_errorOfSeek cX4_errorOfSeek 7 (some .int) :: ((wsX4_errorOfSeek_r1 ++ wsX4_errorOfSeek_r2) ++ wsX40 ++ (vx_atM "java/lang/ArrayIndexOutOfBoundsException" ["java/lang/IndexOutOfBoundsException", "java/lang/RuntimeException", "java/lang/Exception"]).filter goodWord)
def wsX4_seek_r1 : List Cond := [Cond.methodLink RX4 158 yX4_errorOfSeek, Cond.instanceMethod yX4_errorOfSeek, Cond.selects RX4 yX4_errorOfSeek yX4_errorOfSeek, Cond.initialized RX4, Cond.code yX4_errorOfSeek cX4_errorOfSeek 7 (some .int), Cond.constant RX4 156 (-1000000000), Cond.constant RX4 157 (1000000000), Cond.constant RX4 49 (999999), Cond.fieldLink RX4 16 "GoalseekOfficeModel" "sizes" "[I", Cond.fieldLink RX4 13 "GoalseekOfficeModel" "formulas" "[I", Cond.constant RX4 65 (1000000), Cond.methodLink RX4 62 yX4_isCell, Cond.static yX4_isCell, Cond.code yX4_isCell cX4_isCell 1 (some .boolean), Cond.methodLink RX4 42 yX4_in, Cond.static yX4_in, Cond.code yX4_in cX4_in 3 (some .boolean), Cond.methodLink RX4 148 yX4_doesDepend, Cond.instanceMethod yX4_doesDepend, Cond.selects RX4 yX4_doesDepend yX4_doesDepend, Cond.code yX4_doesDepend cX4_doesDepend 3 (some .boolean), Cond.methodLink RX4 76 yX4_refersOf, Cond.instanceMethod yX4_refersOf, Cond.selects RX4 yX4_refersOf yX4_refersOf]
def wsX4_seek_r2 : List Cond := [Cond.code yX4_refersOf cX4_refersOf 2 (some .int), Cond.methodLink RX4 72 yX4_refers, Cond.static yX4_refers, Cond.code yX4_refers cX4_refers 5 (some .int), Cond.constant RX4 71 (1999999), Cond.methodLink RX4 79 yX4_below, Cond.instanceMethod yX4_below, Cond.selects RX4 yX4_below yX4_below, Cond.code yX4_below cX4_below 5 (some .int), Cond.methodLink RX4 162 yX4_sought, Cond.instanceMethod yX4_sought, Cond.selects RX4 yX4_sought yX4_sought, Cond.code yX4_sought cX4_sought 12 (some .int), Cond.methodLink RX4 152 yX4_side, Cond.instanceMethod yX4_side, Cond.selects RX4 yX4_side yX4_side, Cond.code yX4_side cX4_side 7 (some .int), Cond.fieldLink RX4 29 "GoalseekOfficeModel" "states" "[I", Cond.fieldLink RX4 25 "GoalseekOfficeModel" "values" "[J", Cond.methodLink RX4 142 yX4_worksAll, Cond.instanceMethod yX4_worksAll, Cond.selects RX4 yX4_worksAll yX4_worksAll, Cond.code yX4_worksAll cX4_worksAll 3 none, Cond.methodLink RX4 117 yX4_areKnown]
def wsX4_seek_r3 : List Cond := [Cond.instanceMethod yX4_areKnown, Cond.selects RX4 yX4_areKnown yX4_areKnown, Cond.code yX4_areKnown cX4_areKnown 3 (some .boolean), Cond.methodLink RX4 120 yX4_works, Cond.instanceMethod yX4_works, Cond.selects RX4 yX4_works yX4_works, Cond.code yX4_works cX4_works 5 none, Cond.fieldLink RX4 82 "GoalseekOfficeModel" "height" "I", Cond.fieldLink RX4 85 "GoalseekOfficeModel" "waits" "I", Cond.fieldLink RX4 98 "GoalseekOfficeModel" "isBroken" "Z", Cond.constant RX4 66 (2000000), Cond.fieldLink RX4 32 "GoalseekOfficeModel" "stack" "[J", Cond.methodLink RX4 113 yX4_reads, Cond.instanceMethod yX4_reads, Cond.selects RX4 yX4_reads yX4_reads, Cond.code yX4_reads cX4_reads 4 none, Cond.fieldLink RX4 35 "GoalseekOfficeModel" "waiting" "[I", Cond.methodLink RX4 105 yX4_pushes, Cond.instanceMethod yX4_pushes, Cond.selects RX4 yX4_pushes yX4_pushes, Cond.code yX4_pushes cX4_pushes 3 none, Cond.methodLink RX4 109 yX4_joinsAll, Cond.instanceMethod yX4_joinsAll, Cond.selects RX4 yX4_joinsAll yX4_joinsAll]
def wsX4_seek_r4 : List Cond := [Cond.code yX4_joinsAll cX4_joinsAll 2 none, Cond.methodLink RX4 102 yX4_joins, Cond.instanceMethod yX4_joins, Cond.selects RX4 yX4_joins yX4_joins, Cond.code yX4_joins cX4_joins 10 none, Cond.constantLong RX4 92 (1000000000000), Cond.methodLink RX4 88 yX4_size, Cond.static yX4_size, Cond.code yX4_size cX4_size 2 (some .long), Cond.methodLink RX4 94 yX4_quotient, Cond.static yX4_quotient, Cond.code yX4_quotient cX4_quotient 6 (some .long), Cond.methodLink RX4 54 yX4_holds, Cond.instanceMethod yX4_holds, Cond.selects RX4 yX4_holds yX4_holds, Cond.code yX4_holds cX4_holds 2 (some .boolean), Cond.fieldLink RX4 38 "GoalseekOfficeModel" "thrown" "I", Cond.methodLink RX4 132 yX4_puts, Cond.instanceMethod yX4_puts, Cond.selects RX4 yX4_puts yX4_puts, Cond.code yX4_puts cX4_puts 4 (some .int), Cond.fieldLink RX4 129 "GoalseekOfficeModel" "found" "I", Cond.methodLink RX4 126 yX4_anew, Cond.instanceMethod yX4_anew]
def wsX4_seek_r5 : List Cond := [Cond.selects RX4 yX4_anew yX4_anew, Cond.code yX4_anew cX4_anew 4 (some .int)]
def wsX4_seek : List Cond := .code yX4_seek cX4_seek 8 (some .int) :: ((wsX4_seek_r1 ++ (wsX4_seek_r2 ++ (wsX4_seek_r3 ++ (wsX4_seek_r4 ++ wsX4_seek_r5)))) ++ wsX40 ++ (vx_atM "java/lang/ArrayIndexOutOfBoundsException" ["java/lang/IndexOutOfBoundsException", "java/lang/RuntimeException", "java/lang/Exception"]).filter goodWord ++ (vx_atM "java/lang/ArithmeticException" ["java/lang/RuntimeException", "java/lang/Exception"]).filter goodWord)
def wsJx00060_init_a7421 : List Cond := .code yJx00060_init_a7421 cJx00060_init_a7421 2 none :: ([])
def wsJ9_abs_067f4 : List Cond := .code yJ9_abs_067f4 cJ9_abs_067f4 2 (some .long) :: ([])
def wsJ9_min_7cf53 : List Cond := .code yJ9_min_7cf53 cJ9_min_7cf53 2 (some .int) :: ([])
def wsL_number_r1 : List Cond := [Cond.classLink RL 13 "java/lang/IllegalArgumentException", Cond.classLink RL 15 "java/lang/IllegalStateException", Cond.methodLink RL 7 yX3_number, Cond.instanceMethod yX3_number, Cond.selects RX3 yX3_number yX3_number, Cond.initialized RX3, Cond.code yX3_number cX3_number 2 (some .int), Cond.fieldLink RX3 14 "GoalseekOffice" "draft" "LGoalseekOffice$Draft;", Cond.methodLink RX3 48 yX3_requireNumber, Cond.static yX3_requireNumber, Cond.code yX3_requireNumber cX3_requireNumber 1 none, Cond.classLink RX3 62 "java/lang/IllegalArgumentException", Cond.initialized "java/lang/IllegalArgumentException", Cond.constant RX3 160 (999999), Cond.methodLink RX3 52 yX3_requireRoom, Cond.instanceMethod yX3_requireRoom, Cond.selects RX3 yX3_requireRoom yX3_requireRoom, Cond.code yX3_requireRoom cX3_requireRoom 1 none, Cond.classLink RX3 93 "java/lang/IllegalStateException", Cond.initialized "java/lang/IllegalStateException", Cond.instanceMethod yX0_write, Cond.initialized RX0, Cond.selects RX0 yX0_write yX0_write, Cond.code yX0_write cX0_write 2 (some .int)]
def wsL_number_r2 : List Cond := [Cond.fieldLink RX0 15 "GoalseekOffice$Draft" "count" "I", Cond.fieldLink RX0 9 "GoalseekOffice$Draft" "signs" "[I"]
def wsL_number : List Cond := .codeWith yL_number cL_number 4 (some .int) [(0, 9, 12, 13), (0, 9, 15, 15)] :: ((wsL_number_r1 ++ wsL_number_r2) ++ wsX30 ++ wsX00 ++ (vx_atM "java/lang/ArrayIndexOutOfBoundsException" ["java/lang/IndexOutOfBoundsException", "java/lang/RuntimeException", "java/lang/Exception"]).filter goodWord ++ (vx_atS RX3 66 "java/lang/IllegalArgumentException" ["java/lang/RuntimeException", "java/lang/Exception"]).filter goodWord ++ (vx_atS RX3 97 "java/lang/IllegalStateException" ["java/lang/RuntimeException", "java/lang/Exception"]).filter goodWord)
def wsL_cell_r1 : List Cond := [Cond.classLink RL 20 "java/lang/IndexOutOfBoundsException", Cond.classLink RL 15 "java/lang/IllegalStateException", Cond.methodLink RL 17 yX3_cell, Cond.instanceMethod yX3_cell, Cond.selects RX3 yX3_cell yX3_cell, Cond.initialized RX3, Cond.code yX3_cell cX3_cell 2 (some .int), Cond.fieldLink RX3 14 "GoalseekOffice" "draft" "LGoalseekOffice$Draft;", Cond.methodLink RX3 59 yX3_requireCell, Cond.static yX3_requireCell, Cond.code yX3_requireCell cX3_requireCell 1 none, Cond.classLink RX3 204 "java/lang/IndexOutOfBoundsException", Cond.initialized "java/lang/IndexOutOfBoundsException", Cond.methodLink RX3 52 yX3_requireRoom, Cond.instanceMethod yX3_requireRoom, Cond.selects RX3 yX3_requireRoom yX3_requireRoom, Cond.code yX3_requireRoom cX3_requireRoom 1 none, Cond.classLink RX3 93 "java/lang/IllegalStateException", Cond.initialized "java/lang/IllegalStateException", Cond.instanceMethod yX0_write, Cond.initialized RX0, Cond.selects RX0 yX0_write yX0_write, Cond.code yX0_write cX0_write 2 (some .int), Cond.fieldLink RX0 15 "GoalseekOffice$Draft" "count" "I"]
def wsL_cell_r2 : List Cond := [Cond.fieldLink RX0 9 "GoalseekOffice$Draft" "signs" "[I"]
def wsL_cell : List Cond := .codeWith yL_cell cL_cell 4 (some .int) [(0, 9, 12, 20), (0, 9, 15, 15)] :: ((wsL_cell_r1 ++ wsL_cell_r2) ++ wsX30 ++ wsX00 ++ (vx_atM "java/lang/ArrayIndexOutOfBoundsException" ["java/lang/IndexOutOfBoundsException", "java/lang/RuntimeException", "java/lang/Exception"]).filter goodWord ++ (vx_atS RX3 208 "java/lang/IndexOutOfBoundsException" ["java/lang/RuntimeException", "java/lang/Exception"]).filter goodWord ++ (vx_atS RX3 97 "java/lang/IllegalStateException" ["java/lang/RuntimeException", "java/lang/Exception"]).filter goodWord)
def wsL_sign : List Cond := .codeWith yL_sign cL_sign 4 (some .int) [(0, 9, 12, 13), (0, 9, 15, 15)] :: ([.classLink RL 13 "java/lang/IllegalArgumentException", .classLink RL 15 "java/lang/IllegalStateException", .methodLink RL 22 yX3_sign, .instanceMethod yX3_sign, .selects RX3 yX3_sign yX3_sign, .initialized RX3, .code yX3_sign cX3_sign 2 (some .int), .classLink RX3 62 "java/lang/IllegalArgumentException", .initialized "java/lang/IllegalArgumentException", .fieldLink RX3 14 "GoalseekOffice" "draft" "LGoalseekOffice$Draft;", .methodLink RX3 52 yX3_requireRoom, .instanceMethod yX3_requireRoom, .selects RX3 yX3_requireRoom yX3_requireRoom, .code yX3_requireRoom cX3_requireRoom 1 none, .classLink RX3 93 "java/lang/IllegalStateException", .initialized "java/lang/IllegalStateException", .instanceMethod yX0_write, .initialized RX0, .selects RX0 yX0_write yX0_write, .code yX0_write cX0_write 2 (some .int), .fieldLink RX0 15 "GoalseekOffice$Draft" "count" "I", .fieldLink RX0 9 "GoalseekOffice$Draft" "signs" "[I"] ++ wsX30 ++ wsX00 ++ (vx_atM "java/lang/ArrayIndexOutOfBoundsException" ["java/lang/IndexOutOfBoundsException", "java/lang/RuntimeException", "java/lang/Exception"]).filter goodWord ++ (vx_atS RX3 66 "java/lang/IllegalArgumentException" ["java/lang/RuntimeException", "java/lang/Exception"]).filter goodWord ++ (vx_atS RX3 97 "java/lang/IllegalStateException" ["java/lang/RuntimeException", "java/lang/Exception"]).filter goodWord)
def wsL_set_r1 : List Cond := [Cond.classLink RL 20 "java/lang/IndexOutOfBoundsException", Cond.classLink RL 13 "java/lang/IllegalArgumentException", Cond.classLink RL 15 "java/lang/IllegalStateException", Cond.methodLink RL 25 yX3_set, Cond.instanceMethod yX3_set, Cond.selects RX3 yX3_set yX3_set, Cond.initialized RX3, Cond.code yX3_set cX3_set 3 (some .int), Cond.classLink RX3 62 "java/lang/IllegalArgumentException", Cond.initialized "java/lang/IllegalArgumentException", Cond.classLink RX3 93 "java/lang/IllegalStateException", Cond.initialized "java/lang/IllegalStateException", Cond.fieldLink RX3 14 "GoalseekOffice" "draft" "LGoalseekOffice$Draft;", Cond.methodLink RX3 59 yX3_requireCell, Cond.static yX3_requireCell, Cond.code yX3_requireCell cX3_requireCell 1 none, Cond.classLink RX3 204 "java/lang/IndexOutOfBoundsException", Cond.initialized "java/lang/IndexOutOfBoundsException", Cond.instanceMethod yX0_faultPlace, Cond.initialized RX0, Cond.selects RX0 yX0_faultPlace yX0_faultPlace, Cond.code yX0_faultPlace cX0_faultPlace 5 (some .int), Cond.fieldLink RX0 15 "GoalseekOffice$Draft" "count" "I", Cond.fieldLink RX0 9 "GoalseekOffice$Draft" "signs" "[I"]
def wsL_set_r2 : List Cond := [Cond.instanceMethod yX0_toFormula, Cond.selects RX0 yX0_toFormula yX0_toFormula, Cond.code yX0_toFormula cX0_toFormula 1 (some (.object "GoalseekOffice$Formula")), Cond.classLink RX0 19 RX1, Cond.instantiable RX1 2, Cond.initialized RX1, Cond.methodLink RX0 21 yJ7_copyOf_59c91, Cond.static yJ7_copyOf_59c91, Cond.initialized RJ7, Cond.code yJ7_copyOf_59c91 cJ7_copyOf_59c91 3 (some (.array .int)), Cond.methodLink RJ7 316 ⟨"[I", "clone", "()Ljava/lang/Object;"⟩, Cond.sameMethod "[I" "java/lang/Object" "clone" "()Ljava/lang/Object;", Cond.native ⟨"java/lang/Object", "clone", "()Ljava/lang/Object;"⟩, Cond.instanceMethod ⟨"java/lang/Object", "clone", "()Ljava/lang/Object;"⟩, Cond.selects "[I" ⟨"[I", "clone", "()Ljava/lang/Object;"⟩ ⟨"java/lang/Object", "clone", "()Ljava/lang/Object;"⟩, Cond.classLink RJ7 317 "[I", Cond.arrayClass .int, Cond.methodLink RJ7 304 Lib.Math.min.name, Cond.static Lib.Math.min.name, Cond.initialized "java/lang/Math", Cond.code Lib.Math.min.name Lib.Math.min.code 2 (some .int), Cond.methodLink RJ7 150 arraycopyName, Cond.native arraycopyName, Cond.static arraycopyName]
def wsL_set_r3 : List Cond := [Cond.initialized "java/lang/System", Cond.instanceMethod yX1_init, Cond.code yX1_init cX1_init 4 none, Cond.methodLink RX1 3 objectInit, Cond.instanceMethod objectInit, Cond.code objectInit ⟨#[0xb1]⟩ 1 none, Cond.fieldLink RX1 9 "GoalseekOffice$Formula" "signs" "[I", Cond.fieldLink RX1 19 "GoalseekOffice$Formula" "named" "I", Cond.static yX3_only, Cond.code yX3_only cX3_only 1 (some .int), Cond.methodLink RX3 86 yX3_withDependencies, Cond.instanceMethod yX3_withDependencies, Cond.selects RX3 yX3_withDependencies yX3_withDependencies, Cond.code yX3_withDependencies cX3_withDependencies 5 (some .int), Cond.methodLink RX3 145 yX3_namedByAny, Cond.instanceMethod yX3_namedByAny, Cond.selects RX3 yX3_namedByAny yX3_namedByAny, Cond.code yX3_namedByAny cX3_namedByAny 4 (some .int), Cond.fieldLink RX3 34 "GoalseekOffice" "formulas" "[LGoalseekOffice$Formula;", Cond.methodLink RX3 89 yX3_holds, Cond.static yX3_holds, Cond.code yX3_holds cX3_holds 2 (some .boolean), Cond.methodLink RX3 98 yX3_give, Cond.instanceMethod yX3_give]
def wsL_set_r4 : List Cond := [Cond.selects RX3 yX3_give yX3_give, Cond.code yX3_give cX3_give 3 (some .int), Cond.methodLink RX3 122 yX3_only, Cond.methodLink RX3 125 yX3_findAnew, Cond.instanceMethod yX3_findAnew, Cond.selects RX3 yX3_findAnew yX3_findAnew, Cond.code yX3_findAnew cX3_findAnew 4 (some .int), Cond.fieldLink RX3 41 "GoalseekOffice" "values" "[J", Cond.fieldLink RX3 153 "GoalseekOffice" "found" "I", Cond.methodLink RX3 185 yX3_withDependents, Cond.instanceMethod yX3_withDependents, Cond.selects RX3 yX3_withDependents yX3_withDependents, Cond.code yX3_withDependents cX3_withDependents 6 (some .int), Cond.methodLink RX3 137 yX3_workOut, Cond.instanceMethod yX3_workOut, Cond.selects RX3 yX3_workOut yX3_workOut, Cond.code yX3_workOut cX3_workOut 7 none, Cond.fieldLink RX3 21 "GoalseekOffice" "reckoner" "LGoalseekOffice$Reckoner;", Cond.instanceMethod yX2_take, Cond.initialized RX2, Cond.selects RX2 yX2_take yX2_take, Cond.code yX2_take cX2_take 3 none, Cond.fieldLink RX2 9 "GoalseekOffice$Reckoner" "signs" "[I", Cond.fieldLink RX2 15 "GoalseekOffice$Reckoner" "row" "[J"]
def wsL_set_r5 : List Cond := [Cond.fieldLink RX2 22 "GoalseekOffice$Reckoner" "at" "I", Cond.instanceMethod yX1_isEmpty, Cond.selects RX1 yX1_isEmpty yX1_isEmpty, Cond.code yX1_isEmpty cX1_isEmpty 1 (some .boolean), Cond.instanceMethod yX2_sum, Cond.selects RX2 yX2_sum yX2_sum, Cond.code yX2_sum cX2_sum 5 (some .long), Cond.methodLink RX2 26 yX2_product, Cond.instanceMethod yX2_product, Cond.selects RX2 yX2_product yX2_product, Cond.methodLink RX2 30 yX2_combine, Cond.static yX2_combine, Cond.code yX2_combine cX2_combine 7 (some .long), Cond.constantLong RX2 37 (-9223372036854775808), Cond.methodLink RX2 42 Lib.MathLoose.abs_long.x, Cond.static Lib.MathLoose.abs_long.x, Cond.code Lib.MathLoose.abs_long.x Lib.MathLoose.abs_long.code 2 (some .long), Cond.constantLong RX2 48 (1000000000000), Cond.constantLong RX2 54 (-1000000000000), Cond.methodLink RX2 50 yJ9_floorDiv_f86c9, Cond.static yJ9_floorDiv_f86c9, Cond.initialized RJ9, Cond.code yJ9_floorDiv_f86c9 cJ9_floorDiv_f86c9 6 (some .long), Cond.code yX2_factor cX2_factor 6 (some .long)]
def wsL_set_r6 : List Cond := [Cond.methodLink RX2 39 yX2_sum, Cond.code yX2_product cX2_product 5 (some .long), Cond.methodLink RX2 34 yX2_factor, Cond.instanceMethod yX2_factor, Cond.selects RX2 yX2_factor yX2_factor, Cond.methodLink RX3 128 yJ6_bitCount_0f7a4, Cond.static yJ6_bitCount_0f7a4, Cond.initialized RJ6, Cond.code yJ6_bitCount_0f7a4 cJ6_bitCount_0f7a4 1 (some .int), Cond.constant RJ6 265 (1431655765), Cond.constant RJ6 266 (858993459), Cond.constant RJ6 267 (252645135)]
def wsL_set : List Cond := .codeWith yL_set cL_set 4 (some .int) [(0, 9, 12, 20), (0, 9, 15, 13), (0, 9, 18, 15)] :: ((wsL_set_r1 ++ (wsL_set_r2 ++ (wsL_set_r3 ++ (wsL_set_r4 ++ (wsL_set_r5 ++ wsL_set_r6))))) ++ wsX30 ++ wsX10 ++ wsX00 ++ wsX20 ++ (vx_atM "java/lang/ArrayIndexOutOfBoundsException" ["java/lang/IndexOutOfBoundsException", "java/lang/RuntimeException", "java/lang/Exception"]).filter goodWord ++ (vx_atS RX3 66 "java/lang/IllegalArgumentException" ["java/lang/RuntimeException", "java/lang/Exception"]).filter goodWord ++ (vx_atS RX3 97 "java/lang/IllegalStateException" ["java/lang/RuntimeException", "java/lang/Exception"]).filter goodWord ++ (vx_atS RX3 208 "java/lang/IndexOutOfBoundsException" ["java/lang/RuntimeException", "java/lang/Exception"]).filter goodWord ++ (vx_atM "java/lang/ArithmeticException" ["java/lang/RuntimeException", "java/lang/Exception"]).filter goodWord)
def wsL_put_r1 : List Cond := [Cond.classLink RL 20 "java/lang/IndexOutOfBoundsException", Cond.classLink RL 13 "java/lang/IllegalArgumentException", Cond.methodLink RL 28 yX3_put, Cond.instanceMethod yX3_put, Cond.selects RX3 yX3_put yX3_put, Cond.initialized RX3, Cond.code yX3_put cX3_put 3 (some .int), Cond.methodLink RX3 59 yX3_requireCell, Cond.static yX3_requireCell, Cond.code yX3_requireCell cX3_requireCell 1 none, Cond.classLink RX3 204 "java/lang/IndexOutOfBoundsException", Cond.initialized "java/lang/IndexOutOfBoundsException", Cond.methodLink RX3 48 yX3_requireNumber, Cond.static yX3_requireNumber, Cond.code yX3_requireNumber cX3_requireNumber 1 none, Cond.classLink RX3 62 "java/lang/IllegalArgumentException", Cond.initialized "java/lang/IllegalArgumentException", Cond.constant RX3 160 (999999), Cond.methodLink RX3 102 yX3_loneNumber, Cond.static yX3_loneNumber, Cond.code yX3_loneNumber cX3_loneNumber 2 (some (.object "GoalseekOffice$Formula")), Cond.arrayClass .int, Cond.classLink RX3 25 RX1, Cond.instantiable RX1 2]
def wsL_put_r2 : List Cond := [Cond.initialized RX1, Cond.instanceMethod yX1_init, Cond.code yX1_init cX1_init 4 none, Cond.methodLink RX1 3 objectInit, Cond.instanceMethod objectInit, Cond.code objectInit ⟨#[0xb1]⟩ 1 none, Cond.fieldLink RX1 9 "GoalseekOffice$Formula" "signs" "[I", Cond.fieldLink RX1 19 "GoalseekOffice$Formula" "named" "I", Cond.static yX3_only, Cond.code yX3_only cX3_only 1 (some .int), Cond.methodLink RX3 98 yX3_give, Cond.instanceMethod yX3_give, Cond.selects RX3 yX3_give yX3_give, Cond.code yX3_give cX3_give 3 (some .int), Cond.fieldLink RX3 34 "GoalseekOffice" "formulas" "[LGoalseekOffice$Formula;", Cond.methodLink RX3 122 yX3_only, Cond.methodLink RX3 125 yX3_findAnew, Cond.instanceMethod yX3_findAnew, Cond.selects RX3 yX3_findAnew yX3_findAnew, Cond.code yX3_findAnew cX3_findAnew 4 (some .int), Cond.fieldLink RX3 41 "GoalseekOffice" "values" "[J", Cond.fieldLink RX3 153 "GoalseekOffice" "found" "I", Cond.methodLink RX3 185 yX3_withDependents, Cond.instanceMethod yX3_withDependents]
def wsL_put_r3 : List Cond := [Cond.selects RX3 yX3_withDependents yX3_withDependents, Cond.code yX3_withDependents cX3_withDependents 6 (some .int), Cond.methodLink RX3 137 yX3_workOut, Cond.instanceMethod yX3_workOut, Cond.selects RX3 yX3_workOut yX3_workOut, Cond.code yX3_workOut cX3_workOut 7 none, Cond.fieldLink RX3 21 "GoalseekOffice" "reckoner" "LGoalseekOffice$Reckoner;", Cond.methodLink RX3 89 yX3_holds, Cond.static yX3_holds, Cond.code yX3_holds cX3_holds 2 (some .boolean), Cond.instanceMethod yX2_take, Cond.initialized RX2, Cond.selects RX2 yX2_take yX2_take, Cond.code yX2_take cX2_take 3 none, Cond.fieldLink RX2 9 "GoalseekOffice$Reckoner" "signs" "[I", Cond.fieldLink RX2 15 "GoalseekOffice$Reckoner" "row" "[J", Cond.fieldLink RX2 22 "GoalseekOffice$Reckoner" "at" "I", Cond.instanceMethod yX1_isEmpty, Cond.selects RX1 yX1_isEmpty yX1_isEmpty, Cond.code yX1_isEmpty cX1_isEmpty 1 (some .boolean), Cond.instanceMethod yX2_sum, Cond.selects RX2 yX2_sum yX2_sum, Cond.code yX2_sum cX2_sum 5 (some .long), Cond.methodLink RX2 26 yX2_product]
def wsL_put_r4 : List Cond := [Cond.instanceMethod yX2_product, Cond.selects RX2 yX2_product yX2_product, Cond.methodLink RX2 30 yX2_combine, Cond.static yX2_combine, Cond.code yX2_combine cX2_combine 7 (some .long), Cond.constantLong RX2 37 (-9223372036854775808), Cond.methodLink RX2 42 Lib.MathLoose.abs_long.x, Cond.static Lib.MathLoose.abs_long.x, Cond.initialized "java/lang/Math", Cond.code Lib.MathLoose.abs_long.x Lib.MathLoose.abs_long.code 2 (some .long), Cond.constantLong RX2 48 (1000000000000), Cond.constantLong RX2 54 (-1000000000000), Cond.methodLink RX2 50 yJ9_floorDiv_f86c9, Cond.static yJ9_floorDiv_f86c9, Cond.initialized RJ9, Cond.code yJ9_floorDiv_f86c9 cJ9_floorDiv_f86c9 6 (some .long), Cond.code yX2_factor cX2_factor 6 (some .long), Cond.methodLink RX2 39 yX2_sum, Cond.code yX2_product cX2_product 5 (some .long), Cond.methodLink RX2 34 yX2_factor, Cond.instanceMethod yX2_factor, Cond.selects RX2 yX2_factor yX2_factor, Cond.methodLink RX3 128 yJ6_bitCount_0f7a4, Cond.static yJ6_bitCount_0f7a4]
def wsL_put_r5 : List Cond := [Cond.initialized RJ6, Cond.code yJ6_bitCount_0f7a4 cJ6_bitCount_0f7a4 1 (some .int), Cond.constant RJ6 265 (1431655765), Cond.constant RJ6 266 (858993459), Cond.constant RJ6 267 (252645135)]
def wsL_put : List Cond := .codeWith yL_put cL_put 5 (some .int) [(0, 10, 13, 20), (0, 10, 17, 13)] :: ((wsL_put_r1 ++ (wsL_put_r2 ++ (wsL_put_r3 ++ (wsL_put_r4 ++ wsL_put_r5)))) ++ wsX10 ++ wsX30 ++ wsX20 ++ (vx_atM "java/lang/ArrayIndexOutOfBoundsException" ["java/lang/IndexOutOfBoundsException", "java/lang/RuntimeException", "java/lang/Exception"]).filter goodWord ++ (vx_atS RX3 208 "java/lang/IndexOutOfBoundsException" ["java/lang/RuntimeException", "java/lang/Exception"]).filter goodWord ++ (vx_atS RX3 66 "java/lang/IllegalArgumentException" ["java/lang/RuntimeException", "java/lang/Exception"]).filter goodWord ++ (vx_atM "java/lang/ArithmeticException" ["java/lang/RuntimeException", "java/lang/Exception"]).filter goodWord)
def wsL_clear_r1 : List Cond := [Cond.classLink RL 20 "java/lang/IndexOutOfBoundsException", Cond.methodLink RL 32 yX3_clear, Cond.instanceMethod yX3_clear, Cond.selects RX3 yX3_clear yX3_clear, Cond.initialized RX3, Cond.code yX3_clear cX3_clear 2 (some .int), Cond.fieldLink RX3 34 "GoalseekOffice" "formulas" "[LGoalseekOffice$Formula;", Cond.fieldLink RX3 30 "GoalseekOffice" "empty" "LGoalseekOffice$Formula;", Cond.methodLink RX3 59 yX3_requireCell, Cond.static yX3_requireCell, Cond.code yX3_requireCell cX3_requireCell 1 none, Cond.classLink RX3 204 "java/lang/IndexOutOfBoundsException", Cond.initialized "java/lang/IndexOutOfBoundsException", Cond.instanceMethod yX1_isEmpty, Cond.initialized RX1, Cond.selects RX1 yX1_isEmpty yX1_isEmpty, Cond.code yX1_isEmpty cX1_isEmpty 1 (some .boolean), Cond.fieldLink RX1 9 "GoalseekOffice$Formula" "signs" "[I", Cond.methodLink RX3 98 yX3_give, Cond.instanceMethod yX3_give, Cond.selects RX3 yX3_give yX3_give, Cond.code yX3_give cX3_give 3 (some .int), Cond.methodLink RX3 122 yX3_only, Cond.static yX3_only]
def wsL_clear_r2 : List Cond := [Cond.code yX3_only cX3_only 1 (some .int), Cond.methodLink RX3 125 yX3_findAnew, Cond.instanceMethod yX3_findAnew, Cond.selects RX3 yX3_findAnew yX3_findAnew, Cond.code yX3_findAnew cX3_findAnew 4 (some .int), Cond.fieldLink RX3 41 "GoalseekOffice" "values" "[J", Cond.fieldLink RX3 153 "GoalseekOffice" "found" "I", Cond.methodLink RX3 185 yX3_withDependents, Cond.instanceMethod yX3_withDependents, Cond.selects RX3 yX3_withDependents yX3_withDependents, Cond.code yX3_withDependents cX3_withDependents 6 (some .int), Cond.methodLink RX3 137 yX3_workOut, Cond.instanceMethod yX3_workOut, Cond.selects RX3 yX3_workOut yX3_workOut, Cond.code yX3_workOut cX3_workOut 7 none, Cond.fieldLink RX3 21 "GoalseekOffice" "reckoner" "LGoalseekOffice$Reckoner;", Cond.methodLink RX3 89 yX3_holds, Cond.static yX3_holds, Cond.code yX3_holds cX3_holds 2 (some .boolean), Cond.instanceMethod yX2_take, Cond.initialized RX2, Cond.selects RX2 yX2_take yX2_take, Cond.code yX2_take cX2_take 3 none, Cond.fieldLink RX2 9 "GoalseekOffice$Reckoner" "signs" "[I"]
def wsL_clear_r3 : List Cond := [Cond.fieldLink RX2 15 "GoalseekOffice$Reckoner" "row" "[J", Cond.fieldLink RX2 22 "GoalseekOffice$Reckoner" "at" "I", Cond.instanceMethod yX2_sum, Cond.selects RX2 yX2_sum yX2_sum, Cond.code yX2_sum cX2_sum 5 (some .long), Cond.methodLink RX2 26 yX2_product, Cond.instanceMethod yX2_product, Cond.selects RX2 yX2_product yX2_product, Cond.methodLink RX2 30 yX2_combine, Cond.static yX2_combine, Cond.code yX2_combine cX2_combine 7 (some .long), Cond.constantLong RX2 37 (-9223372036854775808), Cond.methodLink RX2 42 Lib.MathLoose.abs_long.x, Cond.static Lib.MathLoose.abs_long.x, Cond.initialized "java/lang/Math", Cond.code Lib.MathLoose.abs_long.x Lib.MathLoose.abs_long.code 2 (some .long), Cond.constantLong RX2 48 (1000000000000), Cond.constantLong RX2 54 (-1000000000000), Cond.methodLink RX2 50 yJ9_floorDiv_f86c9, Cond.static yJ9_floorDiv_f86c9, Cond.initialized RJ9, Cond.code yJ9_floorDiv_f86c9 cJ9_floorDiv_f86c9 6 (some .long), Cond.code yX2_factor cX2_factor 6 (some .long), Cond.methodLink RX2 39 yX2_sum]
def wsL_clear_r4 : List Cond := [Cond.code yX2_product cX2_product 5 (some .long), Cond.methodLink RX2 34 yX2_factor, Cond.instanceMethod yX2_factor, Cond.selects RX2 yX2_factor yX2_factor, Cond.methodLink RX3 128 yJ6_bitCount_0f7a4, Cond.static yJ6_bitCount_0f7a4, Cond.initialized RJ6, Cond.code yJ6_bitCount_0f7a4 cJ6_bitCount_0f7a4 1 (some .int), Cond.constant RJ6 265 (1431655765), Cond.constant RJ6 266 (858993459), Cond.constant RJ6 267 (252645135)]
def wsL_clear : List Cond := .codeWith yL_clear cL_clear 4 (some .int) [(0, 9, 12, 20)] :: ((wsL_clear_r1 ++ (wsL_clear_r2 ++ (wsL_clear_r3 ++ wsL_clear_r4))) ++ wsX30 ++ wsX10 ++ wsX20 ++ (vx_atM "java/lang/ArrayIndexOutOfBoundsException" ["java/lang/IndexOutOfBoundsException", "java/lang/RuntimeException", "java/lang/Exception"]).filter goodWord ++ (vx_atS RX3 208 "java/lang/IndexOutOfBoundsException" ["java/lang/RuntimeException", "java/lang/Exception"]).filter goodWord ++ (vx_atM "java/lang/ArithmeticException" ["java/lang/RuntimeException", "java/lang/Exception"]).filter goodWord)
def wsL_open : List Cond := .codeWith yL_open cL_open 3 (some .int) [(0, 8, 11, 15)] :: ([.classLink RL 15 "java/lang/IllegalStateException", .methodLink RL 35 yX3_open, .instanceMethod yX3_open, .selects RX3 yX3_open yX3_open, .initialized RX3, .code yX3_open cX3_open 3 (some .int), .classLink RX3 93 "java/lang/IllegalStateException", .initialized "java/lang/IllegalStateException", .fieldLink RX3 110 "GoalseekOffice" "openLayers" "I", .fieldLink RX3 38 "GoalseekOffice" "remembered" "[LGoalseekOffice$Formula;", .fieldLink RX3 34 "GoalseekOffice" "formulas" "[LGoalseekOffice$Formula;"] ++ wsX30 ++ (vx_atM "java/lang/ArrayIndexOutOfBoundsException" ["java/lang/IndexOutOfBoundsException", "java/lang/RuntimeException", "java/lang/Exception"]).filter goodWord ++ (vx_atS RX3 97 "java/lang/IllegalStateException" ["java/lang/RuntimeException", "java/lang/Exception"]).filter goodWord)
def wsL_drop_r1 : List Cond := [Cond.classLink RL 15 "java/lang/IllegalStateException", Cond.methodLink RL 39 yX3_drop, Cond.instanceMethod yX3_drop, Cond.selects RX3 yX3_drop yX3_drop, Cond.initialized RX3, Cond.code yX3_drop cX3_drop 5 (some .int), Cond.fieldLink RX3 110 "GoalseekOffice" "openLayers" "I", Cond.fieldLink RX3 38 "GoalseekOffice" "remembered" "[LGoalseekOffice$Formula;", Cond.fieldLink RX3 34 "GoalseekOffice" "formulas" "[LGoalseekOffice$Formula;", Cond.methodLink RX3 115 yX3_requireLayer, Cond.instanceMethod yX3_requireLayer, Cond.selects RX3 yX3_requireLayer yX3_requireLayer, Cond.code yX3_requireLayer cX3_requireLayer 1 none, Cond.classLink RX3 93 "java/lang/IllegalStateException", Cond.initialized "java/lang/IllegalStateException", Cond.instanceMethod yX1_sameAs, Cond.initialized RX1, Cond.selects RX1 yX1_sameAs yX1_sameAs, Cond.code yX1_sameAs cX1_sameAs 3 (some .boolean), Cond.fieldLink RX1 9 "GoalseekOffice$Formula" "signs" "[I", Cond.methodLink RX3 122 yX3_only, Cond.static yX3_only, Cond.code yX3_only cX3_only 1 (some .int), Cond.methodLink RX3 125 yX3_findAnew]
def wsL_drop_r2 : List Cond := [Cond.instanceMethod yX3_findAnew, Cond.selects RX3 yX3_findAnew yX3_findAnew, Cond.code yX3_findAnew cX3_findAnew 4 (some .int), Cond.fieldLink RX3 41 "GoalseekOffice" "values" "[J", Cond.fieldLink RX3 153 "GoalseekOffice" "found" "I", Cond.methodLink RX3 185 yX3_withDependents, Cond.instanceMethod yX3_withDependents, Cond.selects RX3 yX3_withDependents yX3_withDependents, Cond.code yX3_withDependents cX3_withDependents 6 (some .int), Cond.methodLink RX3 137 yX3_workOut, Cond.instanceMethod yX3_workOut, Cond.selects RX3 yX3_workOut yX3_workOut, Cond.code yX3_workOut cX3_workOut 7 none, Cond.fieldLink RX3 21 "GoalseekOffice" "reckoner" "LGoalseekOffice$Reckoner;", Cond.methodLink RX3 89 yX3_holds, Cond.static yX3_holds, Cond.code yX3_holds cX3_holds 2 (some .boolean), Cond.instanceMethod yX2_take, Cond.initialized RX2, Cond.selects RX2 yX2_take yX2_take, Cond.code yX2_take cX2_take 3 none, Cond.fieldLink RX2 9 "GoalseekOffice$Reckoner" "signs" "[I", Cond.fieldLink RX2 15 "GoalseekOffice$Reckoner" "row" "[J", Cond.fieldLink RX2 22 "GoalseekOffice$Reckoner" "at" "I"]
def wsL_drop_r3 : List Cond := [Cond.instanceMethod yX1_isEmpty, Cond.selects RX1 yX1_isEmpty yX1_isEmpty, Cond.code yX1_isEmpty cX1_isEmpty 1 (some .boolean), Cond.instanceMethod yX2_sum, Cond.selects RX2 yX2_sum yX2_sum, Cond.code yX2_sum cX2_sum 5 (some .long), Cond.methodLink RX2 26 yX2_product, Cond.instanceMethod yX2_product, Cond.selects RX2 yX2_product yX2_product, Cond.methodLink RX2 30 yX2_combine, Cond.static yX2_combine, Cond.code yX2_combine cX2_combine 7 (some .long), Cond.constantLong RX2 37 (-9223372036854775808), Cond.methodLink RX2 42 Lib.MathLoose.abs_long.x, Cond.static Lib.MathLoose.abs_long.x, Cond.initialized "java/lang/Math", Cond.code Lib.MathLoose.abs_long.x Lib.MathLoose.abs_long.code 2 (some .long), Cond.constantLong RX2 48 (1000000000000), Cond.constantLong RX2 54 (-1000000000000), Cond.methodLink RX2 50 yJ9_floorDiv_f86c9, Cond.static yJ9_floorDiv_f86c9, Cond.initialized RJ9, Cond.code yJ9_floorDiv_f86c9 cJ9_floorDiv_f86c9 6 (some .long), Cond.code yX2_factor cX2_factor 6 (some .long)]
def wsL_drop_r4 : List Cond := [Cond.methodLink RX2 39 yX2_sum, Cond.code yX2_product cX2_product 5 (some .long), Cond.methodLink RX2 34 yX2_factor, Cond.instanceMethod yX2_factor, Cond.selects RX2 yX2_factor yX2_factor, Cond.methodLink RX3 128 yJ6_bitCount_0f7a4, Cond.static yJ6_bitCount_0f7a4, Cond.initialized RJ6, Cond.code yJ6_bitCount_0f7a4 cJ6_bitCount_0f7a4 1 (some .int), Cond.constant RJ6 265 (1431655765), Cond.constant RJ6 266 (858993459), Cond.constant RJ6 267 (252645135)]
def wsL_drop : List Cond := .codeWith yL_drop cL_drop 3 (some .int) [(0, 8, 11, 15)] :: ((wsL_drop_r1 ++ (wsL_drop_r2 ++ (wsL_drop_r3 ++ wsL_drop_r4))) ++ wsX30 ++ wsX10 ++ wsX20 ++ (vx_atM "java/lang/ArrayIndexOutOfBoundsException" ["java/lang/IndexOutOfBoundsException", "java/lang/RuntimeException", "java/lang/Exception"]).filter goodWord ++ (vx_atS RX3 97 "java/lang/IllegalStateException" ["java/lang/RuntimeException", "java/lang/Exception"]).filter goodWord ++ (vx_atM "java/lang/ArithmeticException" ["java/lang/RuntimeException", "java/lang/Exception"]).filter goodWord)
def wsL_keep : List Cond := .codeWith yL_keep cL_keep 3 (some .int) [(0, 8, 11, 15)] :: ([.classLink RL 15 "java/lang/IllegalStateException", .methodLink RL 42 yX3_keep, .instanceMethod yX3_keep, .selects RX3 yX3_keep yX3_keep, .initialized RX3, .code yX3_keep cX3_keep 1 (some .int), .fieldLink RX3 110 "GoalseekOffice" "openLayers" "I", .methodLink RX3 115 yX3_requireLayer, .instanceMethod yX3_requireLayer, .selects RX3 yX3_requireLayer yX3_requireLayer, .code yX3_requireLayer cX3_requireLayer 1 none, .classLink RX3 93 "java/lang/IllegalStateException", .initialized "java/lang/IllegalStateException"] ++ wsX30 ++ (vx_atM "java/lang/ArrayIndexOutOfBoundsException" ["java/lang/IndexOutOfBoundsException", "java/lang/RuntimeException", "java/lang/Exception"]).filter goodWord ++ (vx_atS RX3 97 "java/lang/IllegalStateException" ["java/lang/RuntimeException", "java/lang/Exception"]).filter goodWord)
def wsL_value : List Cond := .codeWith yL_value cL_value 4 (some .int) [(0, 8, 11, 20), (0, 8, 14, 49)] :: ([.classLink RL 20 "java/lang/IndexOutOfBoundsException", .classLink RL 49 "java/lang/ArithmeticException", .methodLink RL 45 yX3_value, .instanceMethod yX3_value, .selects RX3 yX3_value yX3_value, .initialized RX3, .code yX3_value cX3_value 2 (some .long), .fieldLink RX3 41 "GoalseekOffice" "values" "[J", .methodLink RX3 59 yX3_requireCell, .static yX3_requireCell, .code yX3_requireCell cX3_requireCell 1 none, .classLink RX3 204 "java/lang/IndexOutOfBoundsException", .initialized "java/lang/IndexOutOfBoundsException", .methodLink RX3 133 yX3_requireValue, .static yX3_requireValue, .code yX3_requireValue cX3_requireValue 2 none, .classLink RX3 211 "java/lang/ArithmeticException", .initialized "java/lang/ArithmeticException", .constantLong RX3 151 (-9223372036854775808)] ++ wsX30 ++ (vx_atM "java/lang/ArrayIndexOutOfBoundsException" ["java/lang/IndexOutOfBoundsException", "java/lang/RuntimeException", "java/lang/Exception"]).filter goodWord ++ (vx_atS RX3 208 "java/lang/IndexOutOfBoundsException" ["java/lang/RuntimeException", "java/lang/Exception"]).filter goodWord ++ (vx_atS RX3 215 "java/lang/ArithmeticException" ["java/lang/RuntimeException", "java/lang/Exception"]).filter goodWord)
def wsL_valueAnew_r1 : List Cond := [Cond.classLink RL 20 "java/lang/IndexOutOfBoundsException", Cond.classLink RL 49 "java/lang/ArithmeticException", Cond.methodLink RL 51 yX3_valueAnew, Cond.instanceMethod yX3_valueAnew, Cond.selects RX3 yX3_valueAnew yX3_valueAnew, Cond.initialized RX3, Cond.code yX3_valueAnew cX3_valueAnew 2 (some .long), Cond.fieldLink RX3 45 "GoalseekOffice" "trial" "[J", Cond.methodLink RX3 59 yX3_requireCell, Cond.static yX3_requireCell, Cond.code yX3_requireCell cX3_requireCell 1 none, Cond.classLink RX3 204 "java/lang/IndexOutOfBoundsException", Cond.initialized "java/lang/IndexOutOfBoundsException", Cond.methodLink RX3 122 yX3_only, Cond.static yX3_only, Cond.code yX3_only cX3_only 1 (some .int), Cond.methodLink RX3 86 yX3_withDependencies, Cond.instanceMethod yX3_withDependencies, Cond.selects RX3 yX3_withDependencies yX3_withDependencies, Cond.code yX3_withDependencies cX3_withDependencies 5 (some .int), Cond.methodLink RX3 145 yX3_namedByAny, Cond.instanceMethod yX3_namedByAny, Cond.selects RX3 yX3_namedByAny yX3_namedByAny, Cond.code yX3_namedByAny cX3_namedByAny 4 (some .int)]
def wsL_valueAnew_r2 : List Cond := [Cond.fieldLink RX3 34 "GoalseekOffice" "formulas" "[LGoalseekOffice$Formula;", Cond.methodLink RX3 89 yX3_holds, Cond.static yX3_holds, Cond.code yX3_holds cX3_holds 2 (some .boolean), Cond.methodLink RX3 137 yX3_workOut, Cond.instanceMethod yX3_workOut, Cond.selects RX3 yX3_workOut yX3_workOut, Cond.code yX3_workOut cX3_workOut 7 none, Cond.fieldLink RX3 21 "GoalseekOffice" "reckoner" "LGoalseekOffice$Reckoner;", Cond.instanceMethod yX2_take, Cond.initialized RX2, Cond.selects RX2 yX2_take yX2_take, Cond.code yX2_take cX2_take 3 none, Cond.fieldLink RX2 9 "GoalseekOffice$Reckoner" "signs" "[I", Cond.fieldLink RX2 15 "GoalseekOffice$Reckoner" "row" "[J", Cond.fieldLink RX2 22 "GoalseekOffice$Reckoner" "at" "I", Cond.instanceMethod yX1_isEmpty, Cond.initialized RX1, Cond.selects RX1 yX1_isEmpty yX1_isEmpty, Cond.code yX1_isEmpty cX1_isEmpty 1 (some .boolean), Cond.fieldLink RX1 9 "GoalseekOffice$Formula" "signs" "[I", Cond.instanceMethod yX2_sum, Cond.selects RX2 yX2_sum yX2_sum, Cond.code yX2_sum cX2_sum 5 (some .long)]
def wsL_valueAnew_r3 : List Cond := [Cond.methodLink RX2 26 yX2_product, Cond.instanceMethod yX2_product, Cond.selects RX2 yX2_product yX2_product, Cond.methodLink RX2 30 yX2_combine, Cond.static yX2_combine, Cond.code yX2_combine cX2_combine 7 (some .long), Cond.constantLong RX2 37 (-9223372036854775808), Cond.methodLink RX2 42 Lib.MathLoose.abs_long.x, Cond.static Lib.MathLoose.abs_long.x, Cond.initialized "java/lang/Math", Cond.code Lib.MathLoose.abs_long.x Lib.MathLoose.abs_long.code 2 (some .long), Cond.constantLong RX2 48 (1000000000000), Cond.constantLong RX2 54 (-1000000000000), Cond.methodLink RX2 50 yJ9_floorDiv_f86c9, Cond.static yJ9_floorDiv_f86c9, Cond.initialized RJ9, Cond.code yJ9_floorDiv_f86c9 cJ9_floorDiv_f86c9 6 (some .long), Cond.code yX2_factor cX2_factor 6 (some .long), Cond.methodLink RX2 39 yX2_sum, Cond.code yX2_product cX2_product 5 (some .long), Cond.methodLink RX2 34 yX2_factor, Cond.instanceMethod yX2_factor, Cond.selects RX2 yX2_factor yX2_factor, Cond.methodLink RX3 133 yX3_requireValue]
def wsL_valueAnew_r4 : List Cond := [Cond.static yX3_requireValue, Cond.code yX3_requireValue cX3_requireValue 2 none, Cond.classLink RX3 211 "java/lang/ArithmeticException", Cond.initialized "java/lang/ArithmeticException", Cond.constantLong RX3 151 (-9223372036854775808)]
def wsL_valueAnew : List Cond := .codeWith yL_valueAnew cL_valueAnew 4 (some .int) [(0, 8, 11, 20), (0, 8, 14, 49)] :: ((wsL_valueAnew_r1 ++ (wsL_valueAnew_r2 ++ (wsL_valueAnew_r3 ++ wsL_valueAnew_r4))) ++ wsX30 ++ wsX10 ++ wsX20 ++ (vx_atM "java/lang/ArrayIndexOutOfBoundsException" ["java/lang/IndexOutOfBoundsException", "java/lang/RuntimeException", "java/lang/Exception"]).filter goodWord ++ (vx_atS RX3 208 "java/lang/IndexOutOfBoundsException" ["java/lang/RuntimeException", "java/lang/Exception"]).filter goodWord ++ (vx_atM "java/lang/ArithmeticException" ["java/lang/RuntimeException", "java/lang/Exception"]).filter goodWord ++ (vx_atS RX3 215 "java/lang/ArithmeticException" ["java/lang/RuntimeException", "java/lang/Exception"]).filter goodWord)
def wsL_signs : List Cond := .codeWith yL_signs cL_signs 4 (some .int) [(0, 9, 12, 20)] :: ([.classLink RL 20 "java/lang/IndexOutOfBoundsException", .methodLink RL 54 yX3_signs, .instanceMethod yX3_signs, .selects RX3 yX3_signs yX3_signs, .initialized RX3, .code yX3_signs cX3_signs 2 (some .int), .fieldLink RX3 34 "GoalseekOffice" "formulas" "[LGoalseekOffice$Formula;", .methodLink RX3 59 yX3_requireCell, .static yX3_requireCell, .code yX3_requireCell cX3_requireCell 1 none, .classLink RX3 204 "java/lang/IndexOutOfBoundsException", .initialized "java/lang/IndexOutOfBoundsException"] ++ wsX30 ++ wsX10 ++ (vx_atM "java/lang/ArrayIndexOutOfBoundsException" ["java/lang/IndexOutOfBoundsException", "java/lang/RuntimeException", "java/lang/Exception"]).filter goodWord ++ (vx_atS RX3 208 "java/lang/IndexOutOfBoundsException" ["java/lang/RuntimeException", "java/lang/Exception"]).filter goodWord)
def wsL_level : List Cond := .codeWith yL_level cL_level 4 (some .int) [(0, 9, 12, 20)] :: ([.classLink RL 20 "java/lang/IndexOutOfBoundsException", .methodLink RL 57 yX3_level, .instanceMethod yX3_level, .selects RX3 yX3_level yX3_level, .initialized RX3, .code yX3_level cX3_level 4 (some .int), .fieldLink RX3 34 "GoalseekOffice" "formulas" "[LGoalseekOffice$Formula;", .methodLink RX3 59 yX3_requireCell, .static yX3_requireCell, .code yX3_requireCell cX3_requireCell 1 none, .classLink RX3 204 "java/lang/IndexOutOfBoundsException", .initialized "java/lang/IndexOutOfBoundsException", .methodLink RX3 145 yX3_namedByAny, .instanceMethod yX3_namedByAny, .selects RX3 yX3_namedByAny yX3_namedByAny, .code yX3_namedByAny cX3_namedByAny 4 (some .int), .methodLink RX3 89 yX3_holds, .static yX3_holds, .code yX3_holds cX3_holds 2 (some .boolean)] ++ wsX30 ++ wsX10 ++ (vx_atM "java/lang/ArrayIndexOutOfBoundsException" ["java/lang/IndexOutOfBoundsException", "java/lang/RuntimeException", "java/lang/Exception"]).filter goodWord ++ (vx_atS RX3 208 "java/lang/IndexOutOfBoundsException" ["java/lang/RuntimeException", "java/lang/Exception"]).filter goodWord)
def wsL_depends_r1 : List Cond := [Cond.classLink RL 20 "java/lang/IndexOutOfBoundsException", Cond.methodLink RL 60 yX3_depends, Cond.instanceMethod yX3_depends, Cond.selects RX3 yX3_depends yX3_depends, Cond.initialized RX3, Cond.code yX3_depends cX3_depends 3 (some .boolean), Cond.methodLink RX3 59 yX3_requireCell, Cond.static yX3_requireCell, Cond.code yX3_requireCell cX3_requireCell 1 none, Cond.classLink RX3 204 "java/lang/IndexOutOfBoundsException", Cond.initialized "java/lang/IndexOutOfBoundsException", Cond.methodLink RX3 148 yX3_dependsOn, Cond.instanceMethod yX3_dependsOn, Cond.selects RX3 yX3_dependsOn yX3_dependsOn, Cond.code yX3_dependsOn cX3_dependsOn 3 (some .boolean), Cond.methodLink RX3 122 yX3_only, Cond.static yX3_only, Cond.code yX3_only cX3_only 1 (some .int), Cond.methodLink RX3 86 yX3_withDependencies, Cond.instanceMethod yX3_withDependencies, Cond.selects RX3 yX3_withDependencies yX3_withDependencies, Cond.code yX3_withDependencies cX3_withDependencies 5 (some .int), Cond.methodLink RX3 145 yX3_namedByAny, Cond.instanceMethod yX3_namedByAny]
def wsL_depends_r2 : List Cond := [Cond.selects RX3 yX3_namedByAny yX3_namedByAny, Cond.code yX3_namedByAny cX3_namedByAny 4 (some .int), Cond.fieldLink RX3 34 "GoalseekOffice" "formulas" "[LGoalseekOffice$Formula;", Cond.methodLink RX3 89 yX3_holds, Cond.static yX3_holds, Cond.code yX3_holds cX3_holds 2 (some .boolean)]
def wsL_depends : List Cond := .codeWith yL_depends cL_depends 5 (some .int) [(0, 17, 20, 20)] :: ((wsL_depends_r1 ++ wsL_depends_r2) ++ wsX30 ++ wsX10 ++ (vx_atM "java/lang/ArrayIndexOutOfBoundsException" ["java/lang/IndexOutOfBoundsException", "java/lang/RuntimeException", "java/lang/Exception"]).filter goodWord ++ (vx_atS RX3 208 "java/lang/IndexOutOfBoundsException" ["java/lang/RuntimeException", "java/lang/Exception"]).filter goodWord)
def wsL_seek_r1 : List Cond := [Cond.classLink RL 20 "java/lang/IndexOutOfBoundsException", Cond.classLink RL 13 "java/lang/IllegalArgumentException", Cond.classLink RL 15 "java/lang/IllegalStateException", Cond.classLink RL 68 "java/util/NoSuchElementException", Cond.methodLink RL 64 yX3_seek, Cond.instanceMethod yX3_seek, Cond.selects RX3 yX3_seek yX3_seek, Cond.initialized RX3, Cond.code yX3_seek cX3_seek 7 (some .int), Cond.classLink RX3 62 "java/lang/IllegalArgumentException", Cond.initialized "java/lang/IllegalArgumentException", Cond.classLink RX3 93 "java/lang/IllegalStateException", Cond.initialized "java/lang/IllegalStateException", Cond.classLink RX3 174 "java/util/NoSuchElementException", Cond.initialized "java/util/NoSuchElementException", Cond.constant RX3 156 (-1000000000), Cond.constant RX3 157 (1000000000), Cond.constant RX3 160 (999999), Cond.fieldLink RX3 34 "GoalseekOffice" "formulas" "[LGoalseekOffice$Formula;", Cond.methodLink RX3 59 yX3_requireCell, Cond.static yX3_requireCell, Cond.code yX3_requireCell cX3_requireCell 1 none, Cond.classLink RX3 204 "java/lang/IndexOutOfBoundsException", Cond.initialized "java/lang/IndexOutOfBoundsException"]
def wsL_seek_r2 : List Cond := [Cond.instanceMethod yX1_canBeInput, Cond.initialized RX1, Cond.selects RX1 yX1_canBeInput yX1_canBeInput, Cond.code yX1_canBeInput cX1_canBeInput 1 (some .boolean), Cond.fieldLink RX1 9 "GoalseekOffice$Formula" "signs" "[I", Cond.methodLink RX3 148 yX3_dependsOn, Cond.instanceMethod yX3_dependsOn, Cond.selects RX3 yX3_dependsOn yX3_dependsOn, Cond.code yX3_dependsOn cX3_dependsOn 3 (some .boolean), Cond.methodLink RX3 122 yX3_only, Cond.static yX3_only, Cond.code yX3_only cX3_only 1 (some .int), Cond.methodLink RX3 86 yX3_withDependencies, Cond.instanceMethod yX3_withDependencies, Cond.selects RX3 yX3_withDependencies yX3_withDependencies, Cond.code yX3_withDependencies cX3_withDependencies 5 (some .int), Cond.methodLink RX3 145 yX3_namedByAny, Cond.instanceMethod yX3_namedByAny, Cond.selects RX3 yX3_namedByAny yX3_namedByAny, Cond.code yX3_namedByAny cX3_namedByAny 4 (some .int), Cond.methodLink RX3 89 yX3_holds, Cond.static yX3_holds, Cond.code yX3_holds cX3_holds 2 (some .boolean), Cond.methodLink RX3 170 yX3_search]
def wsL_seek_r3 : List Cond := [Cond.instanceMethod yX3_search, Cond.selects RX3 yX3_search yX3_search, Cond.code yX3_search cX3_search 17 (some .int), Cond.fieldLink RX3 41 "GoalseekOffice" "values" "[J", Cond.fieldLink RX3 45 "GoalseekOffice" "trial" "[J", Cond.methodLink RX3 179 arraycopyName, Cond.native arraycopyName, Cond.static arraycopyName, Cond.initialized "java/lang/System", Cond.constantLong RX3 151 (-9223372036854775808), Cond.methodLink RX3 185 yX3_withDependents, Cond.instanceMethod yX3_withDependents, Cond.selects RX3 yX3_withDependents yX3_withDependents, Cond.code yX3_withDependents cX3_withDependents 6 (some .int), Cond.methodLink RX3 188 yX3_goalWith, Cond.instanceMethod yX3_goalWith, Cond.selects RX3 yX3_goalWith yX3_goalWith, Cond.code yX3_goalWith cX3_goalWith 5 (some .long), Cond.methodLink RX3 137 yX3_workOut, Cond.instanceMethod yX3_workOut, Cond.selects RX3 yX3_workOut yX3_workOut, Cond.code yX3_workOut cX3_workOut 7 none, Cond.fieldLink RX3 21 "GoalseekOffice" "reckoner" "LGoalseekOffice$Reckoner;", Cond.instanceMethod yX2_take]
def wsL_seek_r4 : List Cond := [Cond.initialized RX2, Cond.selects RX2 yX2_take yX2_take, Cond.code yX2_take cX2_take 3 none, Cond.fieldLink RX2 9 "GoalseekOffice$Reckoner" "signs" "[I", Cond.fieldLink RX2 15 "GoalseekOffice$Reckoner" "row" "[J", Cond.fieldLink RX2 22 "GoalseekOffice$Reckoner" "at" "I", Cond.instanceMethod yX1_isEmpty, Cond.selects RX1 yX1_isEmpty yX1_isEmpty, Cond.code yX1_isEmpty cX1_isEmpty 1 (some .boolean), Cond.instanceMethod yX2_sum, Cond.selects RX2 yX2_sum yX2_sum, Cond.code yX2_sum cX2_sum 5 (some .long), Cond.methodLink RX2 26 yX2_product, Cond.instanceMethod yX2_product, Cond.selects RX2 yX2_product yX2_product, Cond.methodLink RX2 30 yX2_combine, Cond.static yX2_combine, Cond.code yX2_combine cX2_combine 7 (some .long), Cond.constantLong RX2 37 (-9223372036854775808), Cond.methodLink RX2 42 Lib.MathLoose.abs_long.x, Cond.static Lib.MathLoose.abs_long.x, Cond.initialized "java/lang/Math", Cond.code Lib.MathLoose.abs_long.x Lib.MathLoose.abs_long.code 2 (some .long), Cond.constantLong RX2 48 (1000000000000)]
def wsL_seek_r5 : List Cond := [Cond.constantLong RX2 54 (-1000000000000), Cond.methodLink RX2 50 yJ9_floorDiv_f86c9, Cond.static yJ9_floorDiv_f86c9, Cond.initialized RJ9, Cond.code yJ9_floorDiv_f86c9 cJ9_floorDiv_f86c9 6 (some .long), Cond.code yX2_factor cX2_factor 6 (some .long), Cond.methodLink RX2 39 yX2_sum, Cond.code yX2_product cX2_product 5 (some .long), Cond.methodLink RX2 34 yX2_factor, Cond.instanceMethod yX2_factor, Cond.selects RX2 yX2_factor yX2_factor, Cond.methodLink RX3 192 yX3_onOneSide, Cond.static yX3_onOneSide, Cond.code yX3_onOneSide cX3_onOneSide 6 (some .boolean), Cond.methodLink RX3 102 yX3_loneNumber, Cond.static yX3_loneNumber, Cond.code yX3_loneNumber cX3_loneNumber 2 (some (.object "GoalseekOffice$Formula")), Cond.arrayClass .int, Cond.classLink RX3 25 RX1, Cond.instantiable RX1 2, Cond.instanceMethod yX1_init, Cond.code yX1_init cX1_init 4 none, Cond.methodLink RX1 3 objectInit, Cond.instanceMethod objectInit]
def wsL_seek_r6 : List Cond := [Cond.code objectInit ⟨#[0xb1]⟩ 1 none, Cond.fieldLink RX1 19 "GoalseekOffice$Formula" "named" "I", Cond.methodLink RX3 98 yX3_give, Cond.instanceMethod yX3_give, Cond.selects RX3 yX3_give yX3_give, Cond.code yX3_give cX3_give 3 (some .int), Cond.methodLink RX3 125 yX3_findAnew, Cond.instanceMethod yX3_findAnew, Cond.selects RX3 yX3_findAnew yX3_findAnew, Cond.code yX3_findAnew cX3_findAnew 4 (some .int), Cond.fieldLink RX3 153 "GoalseekOffice" "found" "I", Cond.methodLink RX3 128 yJ6_bitCount_0f7a4, Cond.static yJ6_bitCount_0f7a4, Cond.initialized RJ6, Cond.code yJ6_bitCount_0f7a4 cJ6_bitCount_0f7a4 1 (some .int), Cond.constant RJ6 265 (1431655765), Cond.constant RJ6 266 (858993459), Cond.constant RJ6 267 (252645135)]
def wsL_seek : List Cond := .codeWith yL_seek cL_seek 8 (some .int) [(0, 16, 19, 20), (0, 16, 23, 13), (0, 16, 27, 15), (0, 16, 31, 68)] :: ((wsL_seek_r1 ++ (wsL_seek_r2 ++ (wsL_seek_r3 ++ (wsL_seek_r4 ++ (wsL_seek_r5 ++ wsL_seek_r6))))) ++ wsX30 ++ wsX10 ++ wsX20 ++ (vx_atM "java/lang/ArrayIndexOutOfBoundsException" ["java/lang/IndexOutOfBoundsException", "java/lang/RuntimeException", "java/lang/Exception"]).filter goodWord ++ (vx_atS RX3 66 "java/lang/IllegalArgumentException" ["java/lang/RuntimeException", "java/lang/Exception"]).filter goodWord ++ (vx_atS RX3 97 "java/lang/IllegalStateException" ["java/lang/RuntimeException", "java/lang/Exception"]).filter goodWord ++ (vx_atS RX3 178 "java/util/NoSuchElementException" ["java/lang/RuntimeException", "java/lang/Exception"]).filter goodWord ++ (vx_atS RX3 208 "java/lang/IndexOutOfBoundsException" ["java/lang/RuntimeException", "java/lang/Exception"]).filter goodWord ++ (vx_atM "java/lang/ArithmeticException" ["java/lang/RuntimeException", "java/lang/Exception"]).filter goodWord)
def wsL_law0_r1 : List Cond := [Cond.classLink RL 8 RX3, Cond.instantiable RX3 9, Cond.initialized RX3, Cond.classLink RL 71 RX4, Cond.instantiable RX4 16, Cond.initialized RX4, Cond.arrayClass .long, Cond.methodLink RL 70 yX3_init, Cond.instanceMethod yX3_init, Cond.code yX3_init cX3_init 2 none, Cond.methodLink RX3 5 objectInit, Cond.instanceMethod objectInit, Cond.code objectInit ⟨#[0xb1]⟩ 1 none, Cond.classLink RX3 11 RX0, Cond.instantiable RX0 2, Cond.initialized RX0, Cond.fieldLink RX3 14 "GoalseekOffice" "draft" "LGoalseekOffice$Draft;", Cond.classLink RX3 18 RX2, Cond.instantiable RX2 3, Cond.initialized RX2, Cond.fieldLink RX3 21 "GoalseekOffice" "reckoner" "LGoalseekOffice$Reckoner;", Cond.classLink RX3 25 RX1, Cond.instantiable RX1 2, Cond.initialized RX1]
def wsL_law0_r2 : List Cond := [Cond.arrayClass .int, Cond.fieldLink RX3 30 "GoalseekOffice" "empty" "LGoalseekOffice$Formula;", Cond.fieldLink RX3 34 "GoalseekOffice" "formulas" "[LGoalseekOffice$Formula;", Cond.fieldLink RX3 38 "GoalseekOffice" "remembered" "[LGoalseekOffice$Formula;", Cond.fieldLink RX3 41 "GoalseekOffice" "values" "[J", Cond.fieldLink RX3 45 "GoalseekOffice" "trial" "[J", Cond.instanceMethod yX0_init, Cond.code yX0_init cX0_init 1 none, Cond.methodLink RX0 3 objectInit, Cond.fieldLink RX0 9 "GoalseekOffice$Draft" "signs" "[I", Cond.instanceMethod yX2_init, Cond.code yX2_init cX2_init 1 none, Cond.methodLink RX2 3 objectInit, Cond.fieldLink RX2 9 "GoalseekOffice$Reckoner" "signs" "[I", Cond.fieldLink RX2 15 "GoalseekOffice$Reckoner" "row" "[J", Cond.instanceMethod yX1_init, Cond.code yX1_init cX1_init 4 none, Cond.methodLink RX1 3 objectInit, Cond.fieldLink RX1 9 "GoalseekOffice$Formula" "signs" "[I", Cond.fieldLink RX1 19 "GoalseekOffice$Formula" "named" "I", Cond.static yX3_only, Cond.code yX3_only cX3_only 1 (some .int), Cond.methodLink RL 73 yX4_init, Cond.instanceMethod yX4_init]
def wsL_law0_r3 : List Cond := [Cond.code yX4_init cX4_init 1 none, Cond.methodLink RX4 1 objectInit, Cond.fieldLink RX4 7 "GoalseekOfficeModel" "draft" "[I", Cond.fieldLink RX4 13 "GoalseekOfficeModel" "formulas" "[I", Cond.fieldLink RX4 16 "GoalseekOfficeModel" "sizes" "[I", Cond.fieldLink RX4 19 "GoalseekOfficeModel" "oldFormulas" "[I", Cond.fieldLink RX4 22 "GoalseekOfficeModel" "oldSizes" "[I", Cond.fieldLink RX4 25 "GoalseekOfficeModel" "values" "[J", Cond.fieldLink RX4 29 "GoalseekOfficeModel" "states" "[I", Cond.fieldLink RX4 32 "GoalseekOfficeModel" "stack" "[J", Cond.fieldLink RX4 35 "GoalseekOfficeModel" "waiting" "[I", Cond.methodLink RL 74 yL_number, Cond.static yL_number, Cond.initialized RL, Cond.codeWith yL_number cL_number 4 (some .int) [(0, 9, 12, 13), (0, 9, 15, 15)], Cond.classLink RL 13 "java/lang/IllegalArgumentException", Cond.classLink RL 15 "java/lang/IllegalStateException", Cond.methodLink RL 7 yX3_number, Cond.instanceMethod yX3_number, Cond.selects RX3 yX3_number yX3_number, Cond.code yX3_number cX3_number 2 (some .int), Cond.methodLink RX3 48 yX3_requireNumber, Cond.static yX3_requireNumber, Cond.code yX3_requireNumber cX3_requireNumber 1 none]
def wsL_law0_r4 : List Cond := [Cond.classLink RX3 62 "java/lang/IllegalArgumentException", Cond.initialized "java/lang/IllegalArgumentException", Cond.constant RX3 160 (999999), Cond.methodLink RX3 52 yX3_requireRoom, Cond.instanceMethod yX3_requireRoom, Cond.selects RX3 yX3_requireRoom yX3_requireRoom, Cond.code yX3_requireRoom cX3_requireRoom 1 none, Cond.classLink RX3 93 "java/lang/IllegalStateException", Cond.initialized "java/lang/IllegalStateException", Cond.instanceMethod yX0_write, Cond.selects RX0 yX0_write yX0_write, Cond.code yX0_write cX0_write 2 (some .int), Cond.fieldLink RX0 15 "GoalseekOffice$Draft" "count" "I", Cond.methodLink RL 79 yX4_number, Cond.instanceMethod yX4_number, Cond.selects RX4 yX4_number yX4_number, Cond.code yX4_number cX4_number 2 (some .int), Cond.constant RX4 49 (999999), Cond.methodLink RX4 42 yX4_in, Cond.static yX4_in, Cond.code yX4_in cX4_in 3 (some .boolean), Cond.methodLink RX4 50 yX4_errorOfSign, Cond.instanceMethod yX4_errorOfSign, Cond.selects RX4 yX4_errorOfSign yX4_errorOfSign]
def wsL_law0_r5 : List Cond := [Cond.code yX4_errorOfSign cX4_errorOfSign 2 (some .int), Cond.fieldLink RX4 46 "GoalseekOfficeModel" "drafted" "I", Cond.methodLink RX4 54 yX4_holds, Cond.instanceMethod yX4_holds, Cond.selects RX4 yX4_holds yX4_holds, Cond.code yX4_holds cX4_holds 2 (some .boolean), Cond.fieldLink RX4 38 "GoalseekOfficeModel" "thrown" "I", Cond.methodLink RX4 58 yX4_writes, Cond.instanceMethod yX4_writes, Cond.selects RX4 yX4_writes yX4_writes, Cond.code yX4_writes cX4_writes 2 (some .int), Cond.methodLink RL 80 yX4_thrown, Cond.instanceMethod yX4_thrown, Cond.selects RX4 yX4_thrown yX4_thrown, Cond.code yX4_thrown cX4_thrown 1 (some .int), Cond.methodLink RL 83 yL_cell, Cond.static yL_cell, Cond.codeWith yL_cell cL_cell 4 (some .int) [(0, 9, 12, 20), (0, 9, 15, 15)], Cond.classLink RL 20 "java/lang/IndexOutOfBoundsException", Cond.methodLink RL 17 yX3_cell, Cond.instanceMethod yX3_cell, Cond.selects RX3 yX3_cell yX3_cell, Cond.code yX3_cell cX3_cell 2 (some .int), Cond.methodLink RX3 59 yX3_requireCell]
def wsL_law0_r6 : List Cond := [Cond.static yX3_requireCell, Cond.code yX3_requireCell cX3_requireCell 1 none, Cond.classLink RX3 204 "java/lang/IndexOutOfBoundsException", Cond.initialized "java/lang/IndexOutOfBoundsException", Cond.methodLink RL 85 yX4_cell, Cond.instanceMethod yX4_cell, Cond.selects RX4 yX4_cell yX4_cell, Cond.code yX4_cell cX4_cell 2 (some .int), Cond.constant RX4 65 (1000000), Cond.methodLink RX4 62 yX4_isCell, Cond.static yX4_isCell, Cond.code yX4_isCell cX4_isCell 1 (some .boolean), Cond.methodLink RL 86 yL_sign, Cond.static yL_sign, Cond.codeWith yL_sign cL_sign 4 (some .int) [(0, 9, 12, 13), (0, 9, 15, 15)], Cond.methodLink RL 22 yX3_sign, Cond.instanceMethod yX3_sign, Cond.selects RX3 yX3_sign yX3_sign, Cond.code yX3_sign cX3_sign 2 (some .int), Cond.methodLink RL 88 yX4_sign, Cond.instanceMethod yX4_sign, Cond.selects RX4 yX4_sign yX4_sign, Cond.code yX4_sign cX4_sign 2 (some .int), Cond.constant RX4 66 (2000000)]
def wsL_law0_r7 : List Cond := [Cond.methodLink RL 89 yX3_wipe, Cond.instanceMethod yX3_wipe, Cond.selects RX3 yX3_wipe yX3_wipe, Cond.code yX3_wipe cX3_wipe 2 (some .int), Cond.methodLink RL 92 yX4_wipe, Cond.instanceMethod yX4_wipe, Cond.selects RX4 yX4_wipe yX4_wipe, Cond.code yX4_wipe cX4_wipe 2 (some .int), Cond.methodLink RL 93 yX3_fault, Cond.instanceMethod yX3_fault, Cond.selects RX3 yX3_fault yX3_fault, Cond.code yX3_fault cX3_fault 1 (some .int), Cond.instanceMethod yX0_faultPlace, Cond.selects RX0 yX0_faultPlace yX0_faultPlace, Cond.code yX0_faultPlace cX0_faultPlace 5 (some .int), Cond.methodLink RL 96 yX4_fault, Cond.instanceMethod yX4_fault, Cond.selects RX4 yX4_fault yX4_fault, Cond.code yX4_fault cX4_fault 1 (some .int), Cond.methodLink RX4 67 yX4_faultOf, Cond.instanceMethod yX4_faultOf, Cond.selects RX4 yX4_faultOf yX4_faultOf, Cond.code yX4_faultOf cX4_faultOf 7 (some .int), Cond.methodLink RL 97 yL_set]
def wsL_law0_r8 : List Cond := [Cond.static yL_set, Cond.codeWith yL_set cL_set 4 (some .int) [(0, 9, 12, 20), (0, 9, 15, 13), (0, 9, 18, 15)], Cond.methodLink RL 25 yX3_set, Cond.instanceMethod yX3_set, Cond.selects RX3 yX3_set yX3_set, Cond.code yX3_set cX3_set 3 (some .int), Cond.instanceMethod yX0_toFormula, Cond.selects RX0 yX0_toFormula yX0_toFormula, Cond.code yX0_toFormula cX0_toFormula 1 (some (.object "GoalseekOffice$Formula")), Cond.classLink RX0 19 RX1, Cond.methodLink RX0 21 yJ7_copyOf_59c91, Cond.static yJ7_copyOf_59c91, Cond.initialized RJ7, Cond.code yJ7_copyOf_59c91 cJ7_copyOf_59c91 3 (some (.array .int)), Cond.methodLink RJ7 316 ⟨"[I", "clone", "()Ljava/lang/Object;"⟩, Cond.sameMethod "[I" "java/lang/Object" "clone" "()Ljava/lang/Object;", Cond.native ⟨"java/lang/Object", "clone", "()Ljava/lang/Object;"⟩, Cond.instanceMethod ⟨"java/lang/Object", "clone", "()Ljava/lang/Object;"⟩, Cond.selects "[I" ⟨"[I", "clone", "()Ljava/lang/Object;"⟩ ⟨"java/lang/Object", "clone", "()Ljava/lang/Object;"⟩, Cond.classLink RJ7 317 "[I", Cond.methodLink RJ7 304 Lib.Math.min.name, Cond.static Lib.Math.min.name, Cond.initialized "java/lang/Math", Cond.code Lib.Math.min.name Lib.Math.min.code 2 (some .int)]
def wsL_law0_r9 : List Cond := [Cond.methodLink RJ7 150 arraycopyName, Cond.native arraycopyName, Cond.static arraycopyName, Cond.initialized "java/lang/System", Cond.methodLink RX3 86 yX3_withDependencies, Cond.instanceMethod yX3_withDependencies, Cond.selects RX3 yX3_withDependencies yX3_withDependencies, Cond.code yX3_withDependencies cX3_withDependencies 5 (some .int), Cond.methodLink RX3 145 yX3_namedByAny, Cond.instanceMethod yX3_namedByAny, Cond.selects RX3 yX3_namedByAny yX3_namedByAny, Cond.code yX3_namedByAny cX3_namedByAny 4 (some .int), Cond.methodLink RX3 89 yX3_holds, Cond.static yX3_holds, Cond.code yX3_holds cX3_holds 2 (some .boolean), Cond.methodLink RX3 98 yX3_give, Cond.instanceMethod yX3_give, Cond.selects RX3 yX3_give yX3_give, Cond.code yX3_give cX3_give 3 (some .int), Cond.methodLink RX3 122 yX3_only, Cond.methodLink RX3 125 yX3_findAnew, Cond.instanceMethod yX3_findAnew, Cond.selects RX3 yX3_findAnew yX3_findAnew, Cond.code yX3_findAnew cX3_findAnew 4 (some .int)]
def wsL_law0_r10 : List Cond := [Cond.fieldLink RX3 153 "GoalseekOffice" "found" "I", Cond.methodLink RX3 185 yX3_withDependents, Cond.instanceMethod yX3_withDependents, Cond.selects RX3 yX3_withDependents yX3_withDependents, Cond.code yX3_withDependents cX3_withDependents 6 (some .int), Cond.methodLink RX3 137 yX3_workOut, Cond.instanceMethod yX3_workOut, Cond.selects RX3 yX3_workOut yX3_workOut, Cond.code yX3_workOut cX3_workOut 7 none, Cond.instanceMethod yX2_take, Cond.selects RX2 yX2_take yX2_take, Cond.code yX2_take cX2_take 3 none, Cond.fieldLink RX2 22 "GoalseekOffice$Reckoner" "at" "I", Cond.instanceMethod yX1_isEmpty, Cond.selects RX1 yX1_isEmpty yX1_isEmpty, Cond.code yX1_isEmpty cX1_isEmpty 1 (some .boolean), Cond.instanceMethod yX2_sum, Cond.selects RX2 yX2_sum yX2_sum, Cond.code yX2_sum cX2_sum 5 (some .long), Cond.methodLink RX2 26 yX2_product, Cond.instanceMethod yX2_product, Cond.selects RX2 yX2_product yX2_product, Cond.methodLink RX2 30 yX2_combine, Cond.static yX2_combine]
def wsL_law0_r11 : List Cond := [Cond.code yX2_combine cX2_combine 7 (some .long), Cond.constantLong RX2 37 (-9223372036854775808), Cond.methodLink RX2 42 Lib.MathLoose.abs_long.x, Cond.static Lib.MathLoose.abs_long.x, Cond.code Lib.MathLoose.abs_long.x Lib.MathLoose.abs_long.code 2 (some .long), Cond.constantLong RX2 48 (1000000000000), Cond.constantLong RX2 54 (-1000000000000), Cond.methodLink RX2 50 yJ9_floorDiv_f86c9, Cond.static yJ9_floorDiv_f86c9, Cond.initialized RJ9, Cond.code yJ9_floorDiv_f86c9 cJ9_floorDiv_f86c9 6 (some .long), Cond.code yX2_factor cX2_factor 6 (some .long), Cond.methodLink RX2 39 yX2_sum, Cond.code yX2_product cX2_product 5 (some .long), Cond.methodLink RX2 34 yX2_factor, Cond.instanceMethod yX2_factor, Cond.selects RX2 yX2_factor yX2_factor, Cond.methodLink RX3 128 yJ6_bitCount_0f7a4, Cond.static yJ6_bitCount_0f7a4, Cond.initialized RJ6, Cond.code yJ6_bitCount_0f7a4 cJ6_bitCount_0f7a4 1 (some .int), Cond.constant RJ6 265 (1431655765), Cond.constant RJ6 266 (858993459), Cond.constant RJ6 267 (252645135)]
def wsL_law0_r12 : List Cond := [Cond.methodLink RL 99 yX4_set, Cond.instanceMethod yX4_set, Cond.selects RX4 yX4_set yX4_set, Cond.code yX4_set cX4_set 3 (some .int), Cond.fieldLink RX4 129 "GoalseekOfficeModel" "found" "I", Cond.methodLink RX4 123 yX4_errorOfSet, Cond.instanceMethod yX4_errorOfSet, Cond.selects RX4 yX4_errorOfSet yX4_errorOfSet, Cond.code yX4_errorOfSet cX4_errorOfSet 2 (some .int), Cond.methodLink RX4 72 yX4_refers, Cond.static yX4_refers, Cond.code yX4_refers cX4_refers 5 (some .int), Cond.constant RX4 71 (1999999), Cond.methodLink RX4 79 yX4_below, Cond.instanceMethod yX4_below, Cond.selects RX4 yX4_below yX4_below, Cond.code yX4_below cX4_below 5 (some .int), Cond.methodLink RX4 76 yX4_refersOf, Cond.instanceMethod yX4_refersOf, Cond.selects RX4 yX4_refersOf yX4_refersOf, Cond.code yX4_refersOf cX4_refersOf 2 (some .int), Cond.methodLink RX4 126 yX4_anew, Cond.instanceMethod yX4_anew, Cond.selects RX4 yX4_anew yX4_anew]
def wsL_law0_r13 : List Cond := [Cond.code yX4_anew cX4_anew 4 (some .int), Cond.methodLink RL 100 yL_put, Cond.static yL_put, Cond.codeWith yL_put cL_put 5 (some .int) [(0, 10, 13, 20), (0, 10, 17, 13)], Cond.methodLink RL 28 yX3_put, Cond.instanceMethod yX3_put, Cond.selects RX3 yX3_put yX3_put, Cond.code yX3_put cX3_put 3 (some .int), Cond.methodLink RX3 102 yX3_loneNumber, Cond.static yX3_loneNumber, Cond.code yX3_loneNumber cX3_loneNumber 2 (some (.object "GoalseekOffice$Formula")), Cond.methodLink RL 103 yX4_put, Cond.instanceMethod yX4_put, Cond.selects RX4 yX4_put yX4_put, Cond.code yX4_put cX4_put 3 (some .int), Cond.methodLink RX4 132 yX4_puts, Cond.instanceMethod yX4_puts, Cond.selects RX4 yX4_puts yX4_puts, Cond.code yX4_puts cX4_puts 4 (some .int), Cond.methodLink RL 104 yL_clear, Cond.static yL_clear, Cond.codeWith yL_clear cL_clear 4 (some .int) [(0, 9, 12, 20)], Cond.methodLink RL 32 yX3_clear, Cond.instanceMethod yX3_clear]
def wsL_law0_r14 : List Cond := [Cond.selects RX3 yX3_clear yX3_clear, Cond.code yX3_clear cX3_clear 2 (some .int), Cond.methodLink RL 106 yX4_clear, Cond.instanceMethod yX4_clear, Cond.selects RX4 yX4_clear yX4_clear, Cond.code yX4_clear cX4_clear 3 (some .int), Cond.methodLink RL 107 yL_open, Cond.static yL_open, Cond.codeWith yL_open cL_open 3 (some .int) [(0, 8, 11, 15)], Cond.methodLink RL 35 yX3_open, Cond.instanceMethod yX3_open, Cond.selects RX3 yX3_open yX3_open, Cond.code yX3_open cX3_open 3 (some .int), Cond.fieldLink RX3 110 "GoalseekOffice" "openLayers" "I", Cond.methodLink RL 110 yX4_open, Cond.instanceMethod yX4_open, Cond.selects RX4 yX4_open yX4_open, Cond.code yX4_open cX4_open 2 (some .int), Cond.fieldLink RX4 136 "GoalseekOfficeModel" "layers" "I", Cond.methodLink RL 111 yL_drop, Cond.static yL_drop, Cond.codeWith yL_drop cL_drop 3 (some .int) [(0, 8, 11, 15)], Cond.methodLink RL 39 yX3_drop, Cond.instanceMethod yX3_drop]
def wsL_law0_r15 : List Cond := [Cond.selects RX3 yX3_drop yX3_drop, Cond.code yX3_drop cX3_drop 5 (some .int), Cond.methodLink RX3 115 yX3_requireLayer, Cond.instanceMethod yX3_requireLayer, Cond.selects RX3 yX3_requireLayer yX3_requireLayer, Cond.code yX3_requireLayer cX3_requireLayer 1 none, Cond.instanceMethod yX1_sameAs, Cond.selects RX1 yX1_sameAs yX1_sameAs, Cond.code yX1_sameAs cX1_sameAs 3 (some .boolean), Cond.methodLink RL 113 yX4_drop, Cond.instanceMethod yX4_drop, Cond.selects RX4 yX4_drop yX4_drop, Cond.code yX4_drop cX4_drop 4 (some .int), Cond.methodLink RX4 139 yX4_isOther, Cond.instanceMethod yX4_isOther, Cond.selects RX4 yX4_isOther yX4_isOther, Cond.code yX4_isOther cX4_isOther 4 (some .boolean), Cond.methodLink RL 114 yL_keep, Cond.static yL_keep, Cond.codeWith yL_keep cL_keep 3 (some .int) [(0, 8, 11, 15)], Cond.methodLink RL 42 yX3_keep, Cond.instanceMethod yX3_keep, Cond.selects RX3 yX3_keep yX3_keep, Cond.code yX3_keep cX3_keep 1 (some .int)]
def wsL_law0_r16 : List Cond := [Cond.methodLink RL 116 yX4_keep, Cond.instanceMethod yX4_keep, Cond.selects RX4 yX4_keep yX4_keep, Cond.code yX4_keep cX4_keep 1 (some .int), Cond.methodLink RL 117 yX3_layers, Cond.instanceMethod yX3_layers, Cond.selects RX3 yX3_layers yX3_layers, Cond.code yX3_layers cX3_layers 1 (some .int), Cond.methodLink RL 120 yX4_layers, Cond.instanceMethod yX4_layers, Cond.selects RX4 yX4_layers yX4_layers, Cond.code yX4_layers cX4_layers 1 (some .int), Cond.methodLink RL 121 yX3_drafted, Cond.instanceMethod yX3_drafted, Cond.selects RX3 yX3_drafted yX3_drafted, Cond.code yX3_drafted cX3_drafted 1 (some .int), Cond.methodLink RL 124 yX4_drafted, Cond.instanceMethod yX4_drafted, Cond.selects RX4 yX4_drafted yX4_drafted, Cond.code yX4_drafted cX4_drafted 1 (some .int), Cond.methodLink RL 125 yL_value, Cond.static yL_value, Cond.codeWith yL_value cL_value 4 (some .int) [(0, 8, 11, 20), (0, 8, 14, 49)], Cond.classLink RL 49 "java/lang/ArithmeticException"]
def wsL_law0_r17 : List Cond := [Cond.methodLink RL 45 yX3_value, Cond.instanceMethod yX3_value, Cond.selects RX3 yX3_value yX3_value, Cond.code yX3_value cX3_value 2 (some .long), Cond.methodLink RX3 133 yX3_requireValue, Cond.static yX3_requireValue, Cond.code yX3_requireValue cX3_requireValue 2 none, Cond.classLink RX3 211 "java/lang/ArithmeticException", Cond.initialized "java/lang/ArithmeticException", Cond.constantLong RX3 151 (-9223372036854775808), Cond.methodLink RL 127 yX4_value, Cond.instanceMethod yX4_value, Cond.selects RX4 yX4_value yX4_value, Cond.code yX4_value cX4_value 2 (some .long), Cond.methodLink RX4 145 yX4_errorOfValue, Cond.instanceMethod yX4_errorOfValue, Cond.selects RX4 yX4_errorOfValue yX4_errorOfValue, Cond.code yX4_errorOfValue cX4_errorOfValue 2 (some .int), Cond.methodLink RX4 142 yX4_worksAll, Cond.instanceMethod yX4_worksAll, Cond.selects RX4 yX4_worksAll yX4_worksAll, Cond.code yX4_worksAll cX4_worksAll 3 none, Cond.methodLink RX4 117 yX4_areKnown, Cond.instanceMethod yX4_areKnown]
def wsL_law0_r18 : List Cond := [Cond.selects RX4 yX4_areKnown yX4_areKnown, Cond.code yX4_areKnown cX4_areKnown 3 (some .boolean), Cond.methodLink RX4 120 yX4_works, Cond.instanceMethod yX4_works, Cond.selects RX4 yX4_works yX4_works, Cond.code yX4_works cX4_works 5 none, Cond.fieldLink RX4 82 "GoalseekOfficeModel" "height" "I", Cond.fieldLink RX4 85 "GoalseekOfficeModel" "waits" "I", Cond.fieldLink RX4 98 "GoalseekOfficeModel" "isBroken" "Z", Cond.methodLink RX4 113 yX4_reads, Cond.instanceMethod yX4_reads, Cond.selects RX4 yX4_reads yX4_reads, Cond.code yX4_reads cX4_reads 4 none, Cond.methodLink RX4 105 yX4_pushes, Cond.instanceMethod yX4_pushes, Cond.selects RX4 yX4_pushes yX4_pushes, Cond.code yX4_pushes cX4_pushes 3 none, Cond.methodLink RX4 109 yX4_joinsAll, Cond.instanceMethod yX4_joinsAll, Cond.selects RX4 yX4_joinsAll yX4_joinsAll, Cond.code yX4_joinsAll cX4_joinsAll 2 none, Cond.methodLink RX4 102 yX4_joins, Cond.instanceMethod yX4_joins, Cond.selects RX4 yX4_joins yX4_joins]
def wsL_law0_r19 : List Cond := [Cond.code yX4_joins cX4_joins 10 none, Cond.constantLong RX4 92 (1000000000000), Cond.methodLink RX4 88 yX4_size, Cond.static yX4_size, Cond.code yX4_size cX4_size 2 (some .long), Cond.methodLink RX4 94 yX4_quotient, Cond.static yX4_quotient, Cond.code yX4_quotient cX4_quotient 6 (some .long), Cond.methodLink RL 128 yL_valueAnew, Cond.static yL_valueAnew, Cond.codeWith yL_valueAnew cL_valueAnew 4 (some .int) [(0, 8, 11, 20), (0, 8, 14, 49)], Cond.methodLink RL 51 yX3_valueAnew, Cond.instanceMethod yX3_valueAnew, Cond.selects RX3 yX3_valueAnew yX3_valueAnew, Cond.code yX3_valueAnew cX3_valueAnew 2 (some .long), Cond.methodLink RL 130 yX4_valueAnew, Cond.instanceMethod yX4_valueAnew, Cond.selects RX4 yX4_valueAnew yX4_valueAnew, Cond.code yX4_valueAnew cX4_valueAnew 2 (some .long), Cond.methodLink RL 131 yL_signs, Cond.static yL_signs, Cond.codeWith yL_signs cL_signs 4 (some .int) [(0, 9, 12, 20)], Cond.methodLink RL 54 yX3_signs, Cond.instanceMethod yX3_signs]
def wsL_law0_r20 : List Cond := [Cond.selects RX3 yX3_signs yX3_signs, Cond.code yX3_signs cX3_signs 2 (some .int), Cond.methodLink RL 133 yX4_signs, Cond.instanceMethod yX4_signs, Cond.selects RX4 yX4_signs yX4_signs, Cond.code yX4_signs cX4_signs 2 (some .int), Cond.methodLink RL 134 yL_level, Cond.static yL_level, Cond.codeWith yL_level cL_level 4 (some .int) [(0, 9, 12, 20)], Cond.methodLink RL 57 yX3_level, Cond.instanceMethod yX3_level, Cond.selects RX3 yX3_level yX3_level, Cond.code yX3_level cX3_level 4 (some .int), Cond.methodLink RL 136 yX4_level, Cond.instanceMethod yX4_level, Cond.selects RX4 yX4_level yX4_level, Cond.code yX4_level cX4_level 6 (some .int), Cond.methodLink RL 137 yL_depends, Cond.static yL_depends, Cond.codeWith yL_depends cL_depends 5 (some .int) [(0, 17, 20, 20)], Cond.methodLink RL 60 yX3_depends, Cond.instanceMethod yX3_depends, Cond.selects RX3 yX3_depends yX3_depends, Cond.code yX3_depends cX3_depends 3 (some .boolean)]
def wsL_law0_r21 : List Cond := [Cond.methodLink RX3 148 yX3_dependsOn, Cond.instanceMethod yX3_dependsOn, Cond.selects RX3 yX3_dependsOn yX3_dependsOn, Cond.code yX3_dependsOn cX3_dependsOn 3 (some .boolean), Cond.methodLink RL 139 yX4_depends, Cond.instanceMethod yX4_depends, Cond.selects RX4 yX4_depends yX4_depends, Cond.code yX4_depends cX4_depends 3 (some .boolean), Cond.methodLink RX4 148 yX4_doesDepend, Cond.instanceMethod yX4_doesDepend, Cond.selects RX4 yX4_doesDepend yX4_doesDepend, Cond.code yX4_doesDepend cX4_doesDepend 3 (some .boolean), Cond.methodLink RL 140 yX3_faulty, Cond.instanceMethod yX3_faulty, Cond.selects RX3 yX3_faulty yX3_faulty, Cond.code yX3_faulty cX3_faulty 3 (some .int), Cond.methodLink RL 143 yX4_faulty, Cond.instanceMethod yX4_faulty, Cond.selects RX4 yX4_faulty yX4_faulty, Cond.code yX4_faulty cX4_faulty 3 (some .int), Cond.methodLink RL 144 yX3_foundAnew, Cond.instanceMethod yX3_foundAnew, Cond.selects RX3 yX3_foundAnew yX3_foundAnew, Cond.code yX3_foundAnew cX3_foundAnew 1 (some .int)]
def wsL_law0_r22 : List Cond := [Cond.methodLink RL 147 yX4_foundAnew, Cond.instanceMethod yX4_foundAnew, Cond.selects RX4 yX4_foundAnew yX4_foundAnew, Cond.code yX4_foundAnew cX4_foundAnew 1 (some .int), Cond.methodLink RL 148 yL_seek, Cond.static yL_seek, Cond.codeWith yL_seek cL_seek 8 (some .int) [(0, 16, 19, 20), (0, 16, 23, 13), (0, 16, 27, 15), (0, 16, 31, 68)], Cond.classLink RL 68 "java/util/NoSuchElementException", Cond.methodLink RL 64 yX3_seek, Cond.instanceMethod yX3_seek, Cond.selects RX3 yX3_seek yX3_seek, Cond.code yX3_seek cX3_seek 7 (some .int), Cond.classLink RX3 174 "java/util/NoSuchElementException", Cond.initialized "java/util/NoSuchElementException", Cond.constant RX3 156 (-1000000000), Cond.constant RX3 157 (1000000000), Cond.instanceMethod yX1_canBeInput, Cond.selects RX1 yX1_canBeInput yX1_canBeInput, Cond.code yX1_canBeInput cX1_canBeInput 1 (some .boolean), Cond.methodLink RX3 170 yX3_search, Cond.instanceMethod yX3_search, Cond.selects RX3 yX3_search yX3_search, Cond.code yX3_search cX3_search 17 (some .int), Cond.methodLink RX3 179 arraycopyName]
def wsL_law0_r23 : List Cond := [Cond.methodLink RX3 188 yX3_goalWith, Cond.instanceMethod yX3_goalWith, Cond.selects RX3 yX3_goalWith yX3_goalWith, Cond.code yX3_goalWith cX3_goalWith 5 (some .long), Cond.methodLink RX3 192 yX3_onOneSide, Cond.static yX3_onOneSide, Cond.code yX3_onOneSide cX3_onOneSide 6 (some .boolean), Cond.methodLink RL 151 yX4_seek, Cond.instanceMethod yX4_seek, Cond.selects RX4 yX4_seek yX4_seek, Cond.code yX4_seek cX4_seek 8 (some .int), Cond.methodLink RX4 158 yX4_errorOfSeek, Cond.instanceMethod yX4_errorOfSeek, Cond.selects RX4 yX4_errorOfSeek yX4_errorOfSeek, Cond.code yX4_errorOfSeek cX4_errorOfSeek 7 (some .int), Cond.constant RX4 156 (-1000000000), Cond.constant RX4 157 (1000000000), Cond.methodLink RX4 162 yX4_sought, Cond.instanceMethod yX4_sought, Cond.selects RX4 yX4_sought yX4_sought, Cond.code yX4_sought cX4_sought 12 (some .int), Cond.methodLink RX4 152 yX4_side, Cond.instanceMethod yX4_side, Cond.selects RX4 yX4_side yX4_side]
def wsL_law0_r24 : List Cond := [Cond.code yX4_side cX4_side 7 (some .int)]
def wsL_law0 : List Cond := (wsL_law0_r1 ++ (wsL_law0_r2 ++ (wsL_law0_r3 ++ (wsL_law0_r4 ++ (wsL_law0_r5 ++ (wsL_law0_r6 ++ (wsL_law0_r7 ++ (wsL_law0_r8 ++ (wsL_law0_r9 ++ (wsL_law0_r10 ++ (wsL_law0_r11 ++ (wsL_law0_r12 ++ (wsL_law0_r13 ++ (wsL_law0_r14 ++ (wsL_law0_r15 ++ (wsL_law0_r16 ++ (wsL_law0_r17 ++ (wsL_law0_r18 ++ (wsL_law0_r19 ++ (wsL_law0_r20 ++ (wsL_law0_r21 ++ (wsL_law0_r22 ++ (wsL_law0_r23 ++ wsL_law0_r24))))))))))))))))))))))) ++ wsX30 ++ wsX40 ++ wsX00 ++ wsX20 ++ wsX10 ++ ([] : List Cond)
def wsL_law : List Cond := wsL_law0 ++ (vx_atM "java/lang/ArrayIndexOutOfBoundsException" ["java/lang/IndexOutOfBoundsException", "java/lang/RuntimeException", "java/lang/Exception"]).filter goodWord ++ (vx_atS RX3 66 "java/lang/IllegalArgumentException" ["java/lang/RuntimeException", "java/lang/Exception"]).filter goodWord ++ (vx_atS RX3 97 "java/lang/IllegalStateException" ["java/lang/RuntimeException", "java/lang/Exception"]).filter goodWord ++ (vx_atS RX3 208 "java/lang/IndexOutOfBoundsException" ["java/lang/RuntimeException", "java/lang/Exception"]).filter goodWord ++ (vx_atM "java/lang/ArithmeticException" ["java/lang/RuntimeException", "java/lang/Exception"]).filter goodWord ++ (vx_atS RX3 215 "java/lang/ArithmeticException" ["java/lang/RuntimeException", "java/lang/Exception"]).filter goodWord ++ (vx_atS RX3 178 "java/util/NoSuchElementException" ["java/lang/RuntimeException", "java/lang/Exception"]).filter goodWord
abbrev vwCl : List vw_C := [(RJ0, TJ0, 2), (RJx00060, TJx00060, 6), (RX0, TX0, 2), (RX1, TX1, 2), (RX2, TX2, 3), (RX3, TX3, 9), (RX4, TX4, 16)]
end
section
theorem dX4_init_0 : decode cX4_init 0 = .ok (.aload_n 0, 1) := by decide +kernel
theorem dX4_init_1 : decode cX4_init 1 = .ok (.invokespecial 1, 3) := by decide +kernel
theorem dX4_init_4 : decode cX4_init 4 = .ok (.aload_n 0, 1) := by decide +kernel
theorem dX4_init_5 : decode cX4_init 5 = .ok (.bipush 15, 2) := by decide +kernel
theorem dX4_init_7 : decode cX4_init 7 = .ok (.newarray .int, 2) := by decide +kernel
theorem dX4_init_9 : decode cX4_init 9 = .ok (.putfield 7, 3) := by decide +kernel
theorem dX4_init_12 : decode cX4_init 12 = .ok (.aload_n 0, 1) := by decide +kernel
theorem dX4_init_13 : decode cX4_init 13 = .ok (.sipush 450, 3) := by decide +kernel
theorem dX4_init_16 : decode cX4_init 16 = .ok (.newarray .int, 2) := by decide +kernel
theorem dX4_init_18 : decode cX4_init 18 = .ok (.putfield 13, 3) := by decide +kernel
theorem dX4_init_21 : decode cX4_init 21 = .ok (.aload_n 0, 1) := by decide +kernel
theorem dX4_init_22 : decode cX4_init 22 = .ok (.bipush 30, 2) := by decide +kernel
theorem dX4_init_24 : decode cX4_init 24 = .ok (.newarray .int, 2) := by decide +kernel
theorem dX4_init_26 : decode cX4_init 26 = .ok (.putfield 16, 3) := by decide +kernel
theorem dX4_init_29 : decode cX4_init 29 = .ok (.aload_n 0, 1) := by decide +kernel
theorem dX4_init_30 : decode cX4_init 30 = .ok (.sipush 1800, 3) := by decide +kernel
theorem dX4_init_33 : decode cX4_init 33 = .ok (.newarray .int, 2) := by decide +kernel
theorem dX4_init_35 : decode cX4_init 35 = .ok (.putfield 19, 3) := by decide +kernel
theorem dX4_init_38 : decode cX4_init 38 = .ok (.aload_n 0, 1) := by decide +kernel
theorem dX4_init_39 : decode cX4_init 39 = .ok (.bipush 120, 2) := by decide +kernel
theorem dX4_init_41 : decode cX4_init 41 = .ok (.newarray .int, 2) := by decide +kernel
theorem dX4_init_43 : decode cX4_init 43 = .ok (.putfield 22, 3) := by decide +kernel
theorem dX4_init_46 : decode cX4_init 46 = .ok (.aload_n 0, 1) := by decide +kernel
theorem dX4_init_47 : decode cX4_init 47 = .ok (.bipush 30, 2) := by decide +kernel
theorem dX4_init_49 : decode cX4_init 49 = .ok (.newarray .long, 2) := by decide +kernel
theorem dX4_init_51 : decode cX4_init 51 = .ok (.putfield 25, 3) := by decide +kernel
theorem dX4_init_54 : decode cX4_init 54 = .ok (.aload_n 0, 1) := by decide +kernel
theorem dX4_init_55 : decode cX4_init 55 = .ok (.bipush 30, 2) := by decide +kernel
theorem dX4_init_57 : decode cX4_init 57 = .ok (.newarray .int, 2) := by decide +kernel
theorem dX4_init_59 : decode cX4_init 59 = .ok (.putfield 29, 3) := by decide +kernel
theorem dX4_init_62 : decode cX4_init 62 = .ok (.aload_n 0, 1) := by decide +kernel
theorem dX4_init_63 : decode cX4_init 63 = .ok (.bipush 15, 2) := by decide +kernel
theorem dX4_init_65 : decode cX4_init 65 = .ok (.newarray .long, 2) := by decide +kernel
theorem dX4_init_67 : decode cX4_init 67 = .ok (.putfield 32, 3) := by decide +kernel
theorem dX4_init_70 : decode cX4_init 70 = .ok (.aload_n 0, 1) := by decide +kernel
theorem dX4_init_71 : decode cX4_init 71 = .ok (.bipush 15, 2) := by decide +kernel
theorem dX4_init_73 : decode cX4_init 73 = .ok (.newarray .int, 2) := by decide +kernel
theorem dX4_init_75 : decode cX4_init 75 = .ok (.putfield 35, 3) := by decide +kernel
theorem dX4_init_78 : decode cX4_init 78 = .ok (.return_, 1) := by decide +kernel
theorem dX4_thrown_0 : decode cX4_thrown 0 = .ok (.aload_n 0, 1) := by decide +kernel
theorem dX4_thrown_1 : decode cX4_thrown 1 = .ok (.getfield 38, 3) := by decide +kernel
theorem dX4_thrown_4 : decode cX4_thrown 4 = .ok (.ireturn, 1) := by decide +kernel
theorem dX4_holds_0 : decode cX4_holds 0 = .ok (.aload_n 0, 1) := by decide +kernel
theorem dX4_holds_1 : decode cX4_holds 1 = .ok (.iload_n 1, 1) := by decide +kernel
theorem dX4_holds_2 : decode cX4_holds 2 = .ok (.putfield 38, 3) := by decide +kernel
theorem dX4_holds_5 : decode cX4_holds 5 = .ok (.iload_n 1, 1) := by decide +kernel
theorem dX4_holds_6 : decode cX4_holds 6 = .ok (.ifCond .ne 7, 3) := by decide +kernel
theorem dX4_holds_9 : decode cX4_holds 9 = .ok (.iconst 1, 1) := by decide +kernel
theorem dX4_holds_10 : decode cX4_holds 10 = .ok (.goto 4, 3) := by decide +kernel
theorem dX4_holds_13 : decode cX4_holds 13 = .ok (.iconst 0, 1) := by decide +kernel
theorem dX4_holds_14 : decode cX4_holds 14 = .ok (.ireturn, 1) := by decide +kernel
theorem dX4_in_0 : decode cX4_in 0 = .ok (.iload_n 0, 1) := by decide +kernel
theorem dX4_in_1 : decode cX4_in 1 = .ok (.iload_n 1, 1) := by decide +kernel
theorem dX4_in_2 : decode cX4_in 2 = .ok (.if_icmp .lt 12, 3) := by decide +kernel
theorem dX4_in_5 : decode cX4_in 5 = .ok (.iload_n 0, 1) := by decide +kernel
theorem dX4_in_6 : decode cX4_in 6 = .ok (.iload_n 2, 1) := by decide +kernel
theorem dX4_in_7 : decode cX4_in 7 = .ok (.if_icmp .gt 7, 3) := by decide +kernel
theorem dX4_in_10 : decode cX4_in 10 = .ok (.iconst 1, 1) := by decide +kernel
theorem dX4_in_11 : decode cX4_in 11 = .ok (.goto 4, 3) := by decide +kernel
theorem dX4_in_14 : decode cX4_in 14 = .ok (.iconst 0, 1) := by decide +kernel
theorem dX4_in_15 : decode cX4_in 15 = .ok (.ireturn, 1) := by decide +kernel
set_option maxRecDepth 20000 in
theorem ggX4_isCell_X4_in : GoodIn wsX4_isCell wsX4_in := goodIn_r _ [4] (by decide +kernel) (by decide +kernel)
set_option maxRecDepth 20000 in
theorem gX4_isCell_X4_in : GoodIn wsX4_isCell (va_wsS RX4 42 yX4_in wsX4_in) := goodIn_app (goodIn_of _ (by decide +kernel)) ggX4_isCell_X4_in
theorem dX4_isCell_0 : decode cX4_isCell 0 = .ok (.iload_n 0, 1) := by decide +kernel
theorem dX4_isCell_1 : decode cX4_isCell 1 = .ok (.iconst 0, 1) := by decide +kernel
theorem dX4_isCell_2 : decode cX4_isCell 2 = .ok (.bipush 29, 2) := by decide +kernel
theorem dX4_isCell_4 : decode cX4_isCell 4 = .ok (.invokestatic 42, 3) := by decide +kernel
theorem dX4_isCell_7 : decode cX4_isCell 7 = .ok (.ireturn, 1) := by decide +kernel
theorem dX4_writes_0 : decode cX4_writes 0 = .ok (.aload_n 0, 1) := by decide +kernel
theorem dX4_writes_1 : decode cX4_writes 1 = .ok (.getfield 7, 3) := by decide +kernel
theorem dX4_writes_4 : decode cX4_writes 4 = .ok (.aload_n 0, 1) := by decide +kernel
theorem dX4_writes_5 : decode cX4_writes 5 = .ok (.getfield 46, 3) := by decide +kernel
theorem dX4_writes_8 : decode cX4_writes 8 = .ok (.iload_n 1, 1) := by decide +kernel
theorem dX4_writes_9 : decode cX4_writes 9 = .ok (.iastore, 1) := by decide +kernel
theorem dX4_writes_10 : decode cX4_writes 10 = .ok (.aload_n 0, 1) := by decide +kernel
theorem dX4_writes_11 : decode cX4_writes 11 = .ok (.dup, 1) := by decide +kernel
theorem dX4_writes_12 : decode cX4_writes 12 = .ok (.getfield 46, 3) := by decide +kernel
theorem dX4_writes_15 : decode cX4_writes 15 = .ok (.iconst 1, 1) := by decide +kernel
theorem dX4_writes_16 : decode cX4_writes 16 = .ok (.iadd, 1) := by decide +kernel
theorem dX4_writes_17 : decode cX4_writes 17 = .ok (.putfield 46, 3) := by decide +kernel
theorem dX4_writes_20 : decode cX4_writes 20 = .ok (.aload_n 0, 1) := by decide +kernel
theorem dX4_writes_21 : decode cX4_writes 21 = .ok (.getfield 46, 3) := by decide +kernel
theorem dX4_writes_24 : decode cX4_writes 24 = .ok (.ireturn, 1) := by decide +kernel
theorem dX4_errorOfSign_0 : decode cX4_errorOfSign 0 = .ok (.iload_n 1, 1) := by decide +kernel
theorem dX4_errorOfSign_1 : decode cX4_errorOfSign 1 = .ok (.ifCond .ne 7, 3) := by decide +kernel
theorem dX4_errorOfSign_4 : decode cX4_errorOfSign 4 = .ok (.iconst 1, 1) := by decide +kernel
theorem dX4_errorOfSign_5 : decode cX4_errorOfSign 5 = .ok (.goto 17, 3) := by decide +kernel
theorem dX4_errorOfSign_8 : decode cX4_errorOfSign 8 = .ok (.aload_n 0, 1) := by decide +kernel
theorem dX4_errorOfSign_9 : decode cX4_errorOfSign 9 = .ok (.getfield 46, 3) := by decide +kernel
theorem dX4_errorOfSign_12 : decode cX4_errorOfSign 12 = .ok (.bipush 15, 2) := by decide +kernel
theorem dX4_errorOfSign_14 : decode cX4_errorOfSign 14 = .ok (.if_icmp .ne 7, 3) := by decide +kernel
theorem dX4_errorOfSign_17 : decode cX4_errorOfSign 17 = .ok (.iconst 2, 1) := by decide +kernel
theorem dX4_errorOfSign_18 : decode cX4_errorOfSign 18 = .ok (.goto 4, 3) := by decide +kernel
theorem dX4_errorOfSign_21 : decode cX4_errorOfSign 21 = .ok (.iconst 0, 1) := by decide +kernel
theorem dX4_errorOfSign_22 : decode cX4_errorOfSign 22 = .ok (.ireturn, 1) := by decide +kernel
set_option maxRecDepth 20000 in
theorem ggX4_number_X4_in : GoodIn wsX4_number wsX4_in := goodIn_r _ [5] (by decide +kernel) (by decide +kernel)
set_option maxRecDepth 20000 in
theorem gX4_number_X4_in : GoodIn wsX4_number (va_wsS RX4 42 yX4_in wsX4_in) := goodIn_app (goodIn_of _ (by decide +kernel)) ggX4_number_X4_in
set_option maxRecDepth 20000 in
theorem ggX4_number_X4_errorOfSign : GoodIn wsX4_number wsX4_errorOfSign := goodIn_r _ [9, 10, 21, 22, 23, 24, 25, 26, 27, 28, 29, 30, 31, 32, 33, 34, 35, 36] (by decide +kernel) (by decide +kernel)
set_option maxRecDepth 20000 in
theorem gX4_number_X4_errorOfSign : GoodIn wsX4_number (wsV RX4 50 RX4 yX4_errorOfSign wsX4_errorOfSign) := goodIn_app (goodIn_of _ (by decide +kernel)) ggX4_number_X4_errorOfSign
set_option maxRecDepth 20000 in
theorem ggX4_number_X4_holds : GoodIn wsX4_number wsX4_holds := goodIn_r _ [14, 15, 21, 22, 23, 24, 25, 26, 27, 28, 29, 30, 31, 32, 33, 34, 35, 36] (by decide +kernel) (by decide +kernel)
set_option maxRecDepth 20000 in
theorem gX4_number_X4_holds : GoodIn wsX4_number (wsV RX4 54 RX4 yX4_holds wsX4_holds) := goodIn_app (goodIn_of _ (by decide +kernel)) ggX4_number_X4_holds
set_option maxRecDepth 20000 in
theorem ggX4_number_X4_writes : GoodIn wsX4_number wsX4_writes := goodIn_ca (goodIn_r _ [19, 20, 10, 21, 22, 23, 24, 25, 26, 27, 28, 29, 30, 31, 32, 33, 34, 35, 36] (by decide +kernel) (by decide +kernel)) (goodIn_sub (fun _ h => List.mem_cons_of_mem _ (List.mem_append_right _ h)) (by decide +kernel))
set_option maxRecDepth 20000 in
theorem gX4_number_X4_writes : GoodIn wsX4_number (wsV RX4 58 RX4 yX4_writes wsX4_writes) := goodIn_app (goodIn_of _ (by decide +kernel)) ggX4_number_X4_writes
theorem dX4_number_0 : decode cX4_number 0 = .ok (.aload_n 0, 1) := by decide +kernel
theorem dX4_number_1 : decode cX4_number 1 = .ok (.aload_n 0, 1) := by decide +kernel
theorem dX4_number_2 : decode cX4_number 2 = .ok (.iload_n 1, 1) := by decide +kernel
theorem dX4_number_3 : decode cX4_number 3 = .ok (.iconst 0, 1) := by decide +kernel
theorem dX4_number_4 : decode cX4_number 4 = .ok (.ldc 49, 2) := by decide +kernel
theorem dX4_number_6 : decode cX4_number 6 = .ok (.invokestatic 42, 3) := by decide +kernel
theorem dX4_number_9 : decode cX4_number 9 = .ok (.invokevirtual 50, 3) := by decide +kernel
theorem dX4_number_12 : decode cX4_number 12 = .ok (.invokevirtual 54, 3) := by decide +kernel
theorem dX4_number_15 : decode cX4_number 15 = .ok (.ifCond .eq 11, 3) := by decide +kernel
theorem dX4_number_18 : decode cX4_number 18 = .ok (.aload_n 0, 1) := by decide +kernel
theorem dX4_number_19 : decode cX4_number 19 = .ok (.iload_n 1, 1) := by decide +kernel
theorem dX4_number_20 : decode cX4_number 20 = .ok (.invokevirtual 58, 3) := by decide +kernel
theorem dX4_number_23 : decode cX4_number 23 = .ok (.goto 4, 3) := by decide +kernel
theorem dX4_number_26 : decode cX4_number 26 = .ok (.iconst 0, 1) := by decide +kernel
theorem dX4_number_27 : decode cX4_number 27 = .ok (.ireturn, 1) := by decide +kernel
set_option maxRecDepth 20000 in
theorem ggX4_cell_X4_isCell : GoodIn wsX4_cell wsX4_isCell := goodIn_r _ [5, 6, 7, 4, 8] (by decide +kernel) (by decide +kernel)
set_option maxRecDepth 20000 in
theorem gX4_cell_X4_isCell : GoodIn wsX4_cell (va_wsS RX4 62 yX4_isCell wsX4_isCell) := goodIn_app (goodIn_of _ (by decide +kernel)) ggX4_cell_X4_isCell
set_option maxRecDepth 20000 in
theorem ggX4_cell_X4_errorOfSign : GoodIn wsX4_cell wsX4_errorOfSign := goodIn_r _ [12, 13, 24, 25, 26, 27, 28, 29, 30, 31, 32, 33, 34, 35, 36, 37, 38, 39] (by decide +kernel) (by decide +kernel)
set_option maxRecDepth 20000 in
theorem gX4_cell_X4_errorOfSign : GoodIn wsX4_cell (wsV RX4 50 RX4 yX4_errorOfSign wsX4_errorOfSign) := goodIn_app (goodIn_of _ (by decide +kernel)) ggX4_cell_X4_errorOfSign
set_option maxRecDepth 20000 in
theorem ggX4_cell_X4_holds : GoodIn wsX4_cell wsX4_holds := goodIn_r _ [17, 18, 24, 25, 26, 27, 28, 29, 30, 31, 32, 33, 34, 35, 36, 37, 38, 39] (by decide +kernel) (by decide +kernel)
set_option maxRecDepth 20000 in
theorem gX4_cell_X4_holds : GoodIn wsX4_cell (wsV RX4 54 RX4 yX4_holds wsX4_holds) := goodIn_app (goodIn_of _ (by decide +kernel)) ggX4_cell_X4_holds
set_option maxRecDepth 20000 in
theorem ggX4_cell_X4_writes : GoodIn wsX4_cell wsX4_writes := goodIn_ca (goodIn_r _ [22, 23, 13, 24, 25, 26, 27, 28, 29, 30, 31, 32, 33, 34, 35, 36, 37, 38, 39] (by decide +kernel) (by decide +kernel)) (goodIn_sub (fun _ h => List.mem_cons_of_mem _ (List.mem_append_right _ h)) (by decide +kernel))
set_option maxRecDepth 20000 in
theorem gX4_cell_X4_writes : GoodIn wsX4_cell (wsV RX4 58 RX4 yX4_writes wsX4_writes) := goodIn_app (goodIn_of _ (by decide +kernel)) ggX4_cell_X4_writes
theorem dX4_cell_0 : decode cX4_cell 0 = .ok (.aload_n 0, 1) := by decide +kernel
theorem dX4_cell_1 : decode cX4_cell 1 = .ok (.aload_n 0, 1) := by decide +kernel
theorem dX4_cell_2 : decode cX4_cell 2 = .ok (.iload_n 1, 1) := by decide +kernel
theorem dX4_cell_3 : decode cX4_cell 3 = .ok (.invokestatic 62, 3) := by decide +kernel
theorem dX4_cell_6 : decode cX4_cell 6 = .ok (.invokevirtual 50, 3) := by decide +kernel
theorem dX4_cell_9 : decode cX4_cell 9 = .ok (.invokevirtual 54, 3) := by decide +kernel
theorem dX4_cell_12 : decode cX4_cell 12 = .ok (.ifCond .eq 14, 3) := by decide +kernel
theorem dX4_cell_15 : decode cX4_cell 15 = .ok (.aload_n 0, 1) := by decide +kernel
theorem dX4_cell_16 : decode cX4_cell 16 = .ok (.ldc 65, 2) := by decide +kernel
theorem dX4_cell_18 : decode cX4_cell 18 = .ok (.iload_n 1, 1) := by decide +kernel
theorem dX4_cell_19 : decode cX4_cell 19 = .ok (.iadd, 1) := by decide +kernel
theorem dX4_cell_20 : decode cX4_cell 20 = .ok (.invokevirtual 58, 3) := by decide +kernel
theorem dX4_cell_23 : decode cX4_cell 23 = .ok (.goto 4, 3) := by decide +kernel
theorem dX4_cell_26 : decode cX4_cell 26 = .ok (.iconst 0, 1) := by decide +kernel
theorem dX4_cell_27 : decode cX4_cell 27 = .ok (.ireturn, 1) := by decide +kernel
set_option maxRecDepth 20000 in
theorem ggX4_sign_X4_in : GoodIn wsX4_sign wsX4_in := goodIn_r _ [5] (by decide +kernel) (by decide +kernel)
set_option maxRecDepth 20000 in
theorem gX4_sign_X4_in : GoodIn wsX4_sign (va_wsS RX4 42 yX4_in wsX4_in) := goodIn_app (goodIn_of _ (by decide +kernel)) ggX4_sign_X4_in
set_option maxRecDepth 20000 in
theorem ggX4_sign_X4_errorOfSign : GoodIn wsX4_sign wsX4_errorOfSign := goodIn_r _ [9, 10, 21, 22, 23, 24, 25, 26, 27, 28, 29, 30, 31, 32, 33, 34, 35, 36] (by decide +kernel) (by decide +kernel)
set_option maxRecDepth 20000 in
theorem gX4_sign_X4_errorOfSign : GoodIn wsX4_sign (wsV RX4 50 RX4 yX4_errorOfSign wsX4_errorOfSign) := goodIn_app (goodIn_of _ (by decide +kernel)) ggX4_sign_X4_errorOfSign
set_option maxRecDepth 20000 in
theorem ggX4_sign_X4_holds : GoodIn wsX4_sign wsX4_holds := goodIn_r _ [14, 15, 21, 22, 23, 24, 25, 26, 27, 28, 29, 30, 31, 32, 33, 34, 35, 36] (by decide +kernel) (by decide +kernel)
set_option maxRecDepth 20000 in
theorem gX4_sign_X4_holds : GoodIn wsX4_sign (wsV RX4 54 RX4 yX4_holds wsX4_holds) := goodIn_app (goodIn_of _ (by decide +kernel)) ggX4_sign_X4_holds
set_option maxRecDepth 20000 in
theorem ggX4_sign_X4_writes : GoodIn wsX4_sign wsX4_writes := goodIn_ca (goodIn_r _ [19, 20, 10, 21, 22, 23, 24, 25, 26, 27, 28, 29, 30, 31, 32, 33, 34, 35, 36] (by decide +kernel) (by decide +kernel)) (goodIn_sub (fun _ h => List.mem_cons_of_mem _ (List.mem_append_right _ h)) (by decide +kernel))
set_option maxRecDepth 20000 in
theorem gX4_sign_X4_writes : GoodIn wsX4_sign (wsV RX4 58 RX4 yX4_writes wsX4_writes) := goodIn_app (goodIn_of _ (by decide +kernel)) ggX4_sign_X4_writes
theorem dX4_sign_0 : decode cX4_sign 0 = .ok (.aload_n 0, 1) := by decide +kernel
theorem dX4_sign_1 : decode cX4_sign 1 = .ok (.aload_n 0, 1) := by decide +kernel
theorem dX4_sign_2 : decode cX4_sign 2 = .ok (.iload_n 1, 1) := by decide +kernel
theorem dX4_sign_3 : decode cX4_sign 3 = .ok (.iconst 0, 1) := by decide +kernel
theorem dX4_sign_4 : decode cX4_sign 4 = .ok (.iconst 5, 1) := by decide +kernel
theorem dX4_sign_5 : decode cX4_sign 5 = .ok (.invokestatic 42, 3) := by decide +kernel
theorem dX4_sign_8 : decode cX4_sign 8 = .ok (.invokevirtual 50, 3) := by decide +kernel
theorem dX4_sign_11 : decode cX4_sign 11 = .ok (.invokevirtual 54, 3) := by decide +kernel
theorem dX4_sign_14 : decode cX4_sign 14 = .ok (.ifCond .eq 14, 3) := by decide +kernel
theorem dX4_sign_17 : decode cX4_sign 17 = .ok (.aload_n 0, 1) := by decide +kernel
theorem dX4_sign_18 : decode cX4_sign 18 = .ok (.ldc 66, 2) := by decide +kernel
theorem dX4_sign_20 : decode cX4_sign 20 = .ok (.iload_n 1, 1) := by decide +kernel
theorem dX4_sign_21 : decode cX4_sign 21 = .ok (.iadd, 1) := by decide +kernel
theorem dX4_sign_22 : decode cX4_sign 22 = .ok (.invokevirtual 58, 3) := by decide +kernel
theorem dX4_sign_25 : decode cX4_sign 25 = .ok (.goto 4, 3) := by decide +kernel
theorem dX4_sign_28 : decode cX4_sign 28 = .ok (.iconst 0, 1) := by decide +kernel
theorem dX4_sign_29 : decode cX4_sign 29 = .ok (.ireturn, 1) := by decide +kernel
theorem dX4_wipe_0 : decode cX4_wipe 0 = .ok (.aload_n 0, 1) := by decide +kernel
theorem dX4_wipe_1 : decode cX4_wipe 1 = .ok (.iconst 0, 1) := by decide +kernel
theorem dX4_wipe_2 : decode cX4_wipe 2 = .ok (.putfield 38, 3) := by decide +kernel
theorem dX4_wipe_5 : decode cX4_wipe 5 = .ok (.aload_n 0, 1) := by decide +kernel
theorem dX4_wipe_6 : decode cX4_wipe 6 = .ok (.getfield 46, 3) := by decide +kernel
theorem dX4_wipe_9 : decode cX4_wipe 9 = .ok (.istore_n 1, 1) := by decide +kernel
theorem dX4_wipe_10 : decode cX4_wipe 10 = .ok (.aload_n 0, 1) := by decide +kernel
theorem dX4_wipe_11 : decode cX4_wipe 11 = .ok (.iconst 0, 1) := by decide +kernel
theorem dX4_wipe_12 : decode cX4_wipe 12 = .ok (.putfield 46, 3) := by decide +kernel
theorem dX4_wipe_15 : decode cX4_wipe 15 = .ok (.iload_n 1, 1) := by decide +kernel
theorem dX4_wipe_16 : decode cX4_wipe 16 = .ok (.ireturn, 1) := by decide +kernel
theorem dX4_faultOf_0 : decode cX4_faultOf 0 = .ok (.iconst 0, 1) := by decide +kernel
theorem dX4_faultOf_1 : decode cX4_faultOf 1 = .ok (.istore_n 1, 1) := by decide +kernel
theorem dX4_faultOf_2 : decode cX4_faultOf 2 = .ok (.iconst 0, 1) := by decide +kernel
theorem dX4_faultOf_3 : decode cX4_faultOf 3 = .ok (.istore_n 2, 1) := by decide +kernel
theorem dX4_faultOf_4 : decode cX4_faultOf 4 = .ok (.iconst 0, 1) := by decide +kernel
theorem dX4_faultOf_5 : decode cX4_faultOf 5 = .ok (.istore_n 3, 1) := by decide +kernel
theorem dX4_faultOf_6 : decode cX4_faultOf 6 = .ok (.iload_n 3, 1) := by decide +kernel
theorem dX4_faultOf_7 : decode cX4_faultOf 7 = .ok (.aload_n 0, 1) := by decide +kernel
theorem dX4_faultOf_8 : decode cX4_faultOf 8 = .ok (.getfield 46, 3) := by decide +kernel
theorem dX4_faultOf_11 : decode cX4_faultOf 11 = .ok (.if_icmp .ge 150, 3) := by decide +kernel
theorem dX4_faultOf_14 : decode cX4_faultOf 14 = .ok (.aload_n 0, 1) := by decide +kernel
theorem dX4_faultOf_15 : decode cX4_faultOf 15 = .ok (.getfield 7, 3) := by decide +kernel
theorem dX4_faultOf_18 : decode cX4_faultOf 18 = .ok (.iload_n 3, 1) := by decide +kernel
theorem dX4_faultOf_19 : decode cX4_faultOf 19 = .ok (.iaload, 1) := by decide +kernel
theorem dX4_faultOf_20 : decode cX4_faultOf 20 = .ok (.ldc 66, 2) := by decide +kernel
theorem dX4_faultOf_22 : decode cX4_faultOf 22 = .ok (.if_icmp .ge 7, 3) := by decide +kernel
theorem dX4_faultOf_25 : decode cX4_faultOf 25 = .ok (.iconst (-1), 1) := by decide +kernel
theorem dX4_faultOf_26 : decode cX4_faultOf 26 = .ok (.goto 12, 3) := by decide +kernel
theorem dX4_faultOf_29 : decode cX4_faultOf 29 = .ok (.aload_n 0, 1) := by decide +kernel
theorem dX4_faultOf_30 : decode cX4_faultOf 30 = .ok (.getfield 7, 3) := by decide +kernel
theorem dX4_faultOf_33 : decode cX4_faultOf 33 = .ok (.iload_n 3, 1) := by decide +kernel
theorem dX4_faultOf_34 : decode cX4_faultOf 34 = .ok (.iaload, 1) := by decide +kernel
theorem dX4_faultOf_35 : decode cX4_faultOf 35 = .ok (.ldc 66, 2) := by decide +kernel
theorem dX4_faultOf_37 : decode cX4_faultOf 37 = .ok (.isub, 1) := by decide +kernel
theorem dX4_faultOf_38 : decode cX4_faultOf 38 = .ok (.istore 4, 2) := by decide +kernel
theorem dX4_faultOf_40 : decode cX4_faultOf 40 = .ok (.iload 4, 2) := by decide +kernel
theorem dX4_faultOf_42 : decode cX4_faultOf 42 = .ok (.iconst (-1), 1) := by decide +kernel
theorem dX4_faultOf_43 : decode cX4_faultOf 43 = .ok (.if_icmp .eq 15, 3) := by decide +kernel
theorem dX4_faultOf_46 : decode cX4_faultOf 46 = .ok (.iload 4, 2) := by decide +kernel
theorem dX4_faultOf_48 : decode cX4_faultOf 48 = .ok (.iconst 4, 1) := by decide +kernel
theorem dX4_faultOf_49 : decode cX4_faultOf 49 = .ok (.if_icmp .eq 9, 3) := by decide +kernel
theorem dX4_faultOf_52 : decode cX4_faultOf 52 = .ok (.iload 4, 2) := by decide +kernel
theorem dX4_faultOf_54 : decode cX4_faultOf 54 = .ok (.iconst 1, 1) := by decide +kernel
theorem dX4_faultOf_55 : decode cX4_faultOf 55 = .ok (.if_icmp .ne 7, 3) := by decide +kernel
theorem dX4_faultOf_58 : decode cX4_faultOf 58 = .ok (.iconst 1, 1) := by decide +kernel
theorem dX4_faultOf_59 : decode cX4_faultOf 59 = .ok (.goto 4, 3) := by decide +kernel
theorem dX4_faultOf_62 : decode cX4_faultOf 62 = .ok (.iconst 0, 1) := by decide +kernel
theorem dX4_faultOf_63 : decode cX4_faultOf 63 = .ok (.istore 5, 2) := by decide +kernel
theorem dX4_faultOf_65 : decode cX4_faultOf 65 = .ok (.iload 4, 2) := by decide +kernel
theorem dX4_faultOf_67 : decode cX4_faultOf 67 = .ok (.iconst (-1), 1) := by decide +kernel
theorem dX4_faultOf_68 : decode cX4_faultOf 68 = .ok (.if_icmp .eq 23, 3) := by decide +kernel
theorem dX4_faultOf_71 : decode cX4_faultOf 71 = .ok (.iload 4, 2) := by decide +kernel
theorem dX4_faultOf_73 : decode cX4_faultOf 73 = .ok (.iconst 4, 1) := by decide +kernel
theorem dX4_faultOf_74 : decode cX4_faultOf 74 = .ok (.if_icmp .eq 17, 3) := by decide +kernel
theorem dX4_faultOf_77 : decode cX4_faultOf 77 = .ok (.iload 4, 2) := by decide +kernel
theorem dX4_faultOf_79 : decode cX4_faultOf 79 = .ok (.iconst 5, 1) := by decide +kernel
theorem dX4_faultOf_80 : decode cX4_faultOf 80 = .ok (.if_icmp .ne 7, 3) := by decide +kernel
theorem dX4_faultOf_83 : decode cX4_faultOf 83 = .ok (.iload_n 1, 1) := by decide +kernel
theorem dX4_faultOf_84 : decode cX4_faultOf 84 = .ok (.ifCond .le 7, 3) := by decide +kernel
theorem dX4_faultOf_87 : decode cX4_faultOf 87 = .ok (.iconst 1, 1) := by decide +kernel
theorem dX4_faultOf_88 : decode cX4_faultOf 88 = .ok (.goto 4, 3) := by decide +kernel
theorem dX4_faultOf_91 : decode cX4_faultOf 91 = .ok (.iconst 0, 1) := by decide +kernel
theorem dX4_faultOf_92 : decode cX4_faultOf 92 = .ok (.istore 6, 2) := by decide +kernel
theorem dX4_faultOf_94 : decode cX4_faultOf 94 = .ok (.iload_n 2, 1) := by decide +kernel
theorem dX4_faultOf_95 : decode cX4_faultOf 95 = .ok (.ifCond .eq 11, 3) := by decide +kernel
theorem dX4_faultOf_98 : decode cX4_faultOf 98 = .ok (.iload 6, 2) := by decide +kernel
theorem dX4_faultOf_100 : decode cX4_faultOf 100 = .ok (.ifCond .ne 13, 3) := by decide +kernel
theorem dX4_faultOf_103 : decode cX4_faultOf 103 = .ok (.goto 8, 3) := by decide +kernel
theorem dX4_faultOf_106 : decode cX4_faultOf 106 = .ok (.iload 5, 2) := by decide +kernel
theorem dX4_faultOf_108 : decode cX4_faultOf 108 = .ok (.ifCond .ne 5, 3) := by decide +kernel
theorem dX4_faultOf_111 : decode cX4_faultOf 111 = .ok (.iload_n 3, 1) := by decide +kernel
theorem dX4_faultOf_112 : decode cX4_faultOf 112 = .ok (.ireturn, 1) := by decide +kernel
theorem dX4_faultOf_113 : decode cX4_faultOf 113 = .ok (.iload_n 1, 1) := by decide +kernel
theorem dX4_faultOf_114 : decode cX4_faultOf 114 = .ok (.iload 4, 2) := by decide +kernel
theorem dX4_faultOf_116 : decode cX4_faultOf 116 = .ok (.iconst 4, 1) := by decide +kernel
theorem dX4_faultOf_117 : decode cX4_faultOf 117 = .ok (.if_icmp .ne 7, 3) := by decide +kernel
theorem dX4_faultOf_120 : decode cX4_faultOf 120 = .ok (.iconst 1, 1) := by decide +kernel
theorem dX4_faultOf_121 : decode cX4_faultOf 121 = .ok (.goto 14, 3) := by decide +kernel
theorem dX4_faultOf_124 : decode cX4_faultOf 124 = .ok (.iload 4, 2) := by decide +kernel
theorem dX4_faultOf_126 : decode cX4_faultOf 126 = .ok (.iconst 5, 1) := by decide +kernel
theorem dX4_faultOf_127 : decode cX4_faultOf 127 = .ok (.if_icmp .ne 7, 3) := by decide +kernel
theorem dX4_faultOf_130 : decode cX4_faultOf 130 = .ok (.iconst (-1), 1) := by decide +kernel
theorem dX4_faultOf_131 : decode cX4_faultOf 131 = .ok (.goto 4, 3) := by decide +kernel
theorem dX4_faultOf_134 : decode cX4_faultOf 134 = .ok (.iconst 0, 1) := by decide +kernel
theorem dX4_faultOf_135 : decode cX4_faultOf 135 = .ok (.iadd, 1) := by decide +kernel
theorem dX4_faultOf_136 : decode cX4_faultOf 136 = .ok (.istore_n 1, 1) := by decide +kernel
theorem dX4_faultOf_137 : decode cX4_faultOf 137 = .ok (.iload 4, 2) := by decide +kernel
theorem dX4_faultOf_139 : decode cX4_faultOf 139 = .ok (.iconst (-1), 1) := by decide +kernel
theorem dX4_faultOf_140 : decode cX4_faultOf 140 = .ok (.if_icmp .eq 9, 3) := by decide +kernel
theorem dX4_faultOf_143 : decode cX4_faultOf 143 = .ok (.iload 4, 2) := by decide +kernel
theorem dX4_faultOf_145 : decode cX4_faultOf 145 = .ok (.iconst 5, 1) := by decide +kernel
theorem dX4_faultOf_146 : decode cX4_faultOf 146 = .ok (.if_icmp .ne 7, 3) := by decide +kernel
theorem dX4_faultOf_149 : decode cX4_faultOf 149 = .ok (.iconst 1, 1) := by decide +kernel
theorem dX4_faultOf_150 : decode cX4_faultOf 150 = .ok (.goto 4, 3) := by decide +kernel
theorem dX4_faultOf_153 : decode cX4_faultOf 153 = .ok (.iconst 0, 1) := by decide +kernel
theorem dX4_faultOf_154 : decode cX4_faultOf 154 = .ok (.istore_n 2, 1) := by decide +kernel
theorem dX4_faultOf_155 : decode cX4_faultOf 155 = .ok (.iinc 3 1, 3) := by decide +kernel
theorem dX4_faultOf_158 : decode cX4_faultOf 158 = .ok (.goto (-152), 3) := by decide +kernel
theorem dX4_faultOf_161 : decode cX4_faultOf 161 = .ok (.iload_n 2, 1) := by decide +kernel
theorem dX4_faultOf_162 : decode cX4_faultOf 162 = .ok (.ifCond .eq 11, 3) := by decide +kernel
theorem dX4_faultOf_165 : decode cX4_faultOf 165 = .ok (.iload_n 1, 1) := by decide +kernel
theorem dX4_faultOf_166 : decode cX4_faultOf 166 = .ok (.ifCond .ne 7, 3) := by decide +kernel
theorem dX4_faultOf_169 : decode cX4_faultOf 169 = .ok (.iconst (-1), 1) := by decide +kernel
theorem dX4_faultOf_170 : decode cX4_faultOf 170 = .ok (.goto 7, 3) := by decide +kernel
theorem dX4_faultOf_173 : decode cX4_faultOf 173 = .ok (.aload_n 0, 1) := by decide +kernel
theorem dX4_faultOf_174 : decode cX4_faultOf 174 = .ok (.getfield 46, 3) := by decide +kernel
theorem dX4_faultOf_177 : decode cX4_faultOf 177 = .ok (.ireturn, 1) := by decide +kernel
set_option maxRecDepth 20000 in
theorem ggX4_fault_X4_faultOf : GoodIn wsX4_fault wsX4_faultOf := goodIn_ca (goodIn_r _ [6, 7, 8, 9, 10, 11, 12, 13, 14, 15, 16, 17, 18, 19, 20, 21, 22, 23, 24, 25] (by decide +kernel) (by decide +kernel)) (goodIn_sub (fun _ h => List.mem_cons_of_mem _ (List.mem_append_right _ h)) (by decide +kernel))
set_option maxRecDepth 20000 in
theorem gX4_fault_X4_faultOf : GoodIn wsX4_fault (wsV RX4 67 RX4 yX4_faultOf wsX4_faultOf) := goodIn_app (goodIn_of _ (by decide +kernel)) ggX4_fault_X4_faultOf
theorem dX4_fault_0 : decode cX4_fault 0 = .ok (.aload_n 0, 1) := by decide +kernel
theorem dX4_fault_1 : decode cX4_fault 1 = .ok (.iconst 0, 1) := by decide +kernel
theorem dX4_fault_2 : decode cX4_fault 2 = .ok (.putfield 38, 3) := by decide +kernel
theorem dX4_fault_5 : decode cX4_fault 5 = .ok (.aload_n 0, 1) := by decide +kernel
theorem dX4_fault_6 : decode cX4_fault 6 = .ok (.invokevirtual 67, 3) := by decide +kernel
theorem dX4_fault_9 : decode cX4_fault 9 = .ok (.ireturn, 1) := by decide +kernel
set_option maxRecDepth 20000 in
theorem ggX4_refers_X4_in : GoodIn wsX4_refers wsX4_in := goodIn_r _ [6] (by decide +kernel) (by decide +kernel)
set_option maxRecDepth 20000 in
theorem gX4_refers_X4_in : GoodIn wsX4_refers (va_wsS RX4 42 yX4_in wsX4_in) := goodIn_app (goodIn_of _ (by decide +kernel)) ggX4_refers_X4_in
theorem dX4_refers_0 : decode cX4_refers 0 = .ok (.iconst 0, 1) := by decide +kernel
theorem dX4_refers_1 : decode cX4_refers 1 = .ok (.istore_n 3, 1) := by decide +kernel
theorem dX4_refers_2 : decode cX4_refers 2 = .ok (.iload_n 1, 1) := by decide +kernel
theorem dX4_refers_3 : decode cX4_refers 3 = .ok (.istore 4, 2) := by decide +kernel
theorem dX4_refers_5 : decode cX4_refers 5 = .ok (.iload 4, 2) := by decide +kernel
theorem dX4_refers_7 : decode cX4_refers 7 = .ok (.iload_n 1, 1) := by decide +kernel
theorem dX4_refers_8 : decode cX4_refers 8 = .ok (.iload_n 2, 1) := by decide +kernel
theorem dX4_refers_9 : decode cX4_refers 9 = .ok (.iadd, 1) := by decide +kernel
theorem dX4_refers_10 : decode cX4_refers 10 = .ok (.if_icmp .ge 39, 3) := by decide +kernel
theorem dX4_refers_13 : decode cX4_refers 13 = .ok (.iload_n 3, 1) := by decide +kernel
theorem dX4_refers_14 : decode cX4_refers 14 = .ok (.aload_n 0, 1) := by decide +kernel
theorem dX4_refers_15 : decode cX4_refers 15 = .ok (.iload 4, 2) := by decide +kernel
theorem dX4_refers_17 : decode cX4_refers 17 = .ok (.iaload, 1) := by decide +kernel
theorem dX4_refers_18 : decode cX4_refers 18 = .ok (.ldc 65, 2) := by decide +kernel
theorem dX4_refers_20 : decode cX4_refers 20 = .ok (.ldc 71, 2) := by decide +kernel
theorem dX4_refers_22 : decode cX4_refers 22 = .ok (.invokestatic 42, 3) := by decide +kernel
theorem dX4_refers_25 : decode cX4_refers 25 = .ok (.ifCond .eq 15, 3) := by decide +kernel
theorem dX4_refers_28 : decode cX4_refers 28 = .ok (.iconst 1, 1) := by decide +kernel
theorem dX4_refers_29 : decode cX4_refers 29 = .ok (.aload_n 0, 1) := by decide +kernel
theorem dX4_refers_30 : decode cX4_refers 30 = .ok (.iload 4, 2) := by decide +kernel
theorem dX4_refers_32 : decode cX4_refers 32 = .ok (.iaload, 1) := by decide +kernel
theorem dX4_refers_33 : decode cX4_refers 33 = .ok (.ldc 65, 2) := by decide +kernel
theorem dX4_refers_35 : decode cX4_refers 35 = .ok (.isub, 1) := by decide +kernel
theorem dX4_refers_36 : decode cX4_refers 36 = .ok (.ishl, 1) := by decide +kernel
theorem dX4_refers_37 : decode cX4_refers 37 = .ok (.goto 4, 3) := by decide +kernel
theorem dX4_refers_40 : decode cX4_refers 40 = .ok (.iconst 0, 1) := by decide +kernel
theorem dX4_refers_41 : decode cX4_refers 41 = .ok (.ior, 1) := by decide +kernel
theorem dX4_refers_42 : decode cX4_refers 42 = .ok (.istore_n 3, 1) := by decide +kernel
theorem dX4_refers_43 : decode cX4_refers 43 = .ok (.iinc 4 1, 3) := by decide +kernel
theorem dX4_refers_46 : decode cX4_refers 46 = .ok (.goto (-41), 3) := by decide +kernel
theorem dX4_refers_49 : decode cX4_refers 49 = .ok (.iload_n 3, 1) := by decide +kernel
theorem dX4_refers_50 : decode cX4_refers 50 = .ok (.ireturn, 1) := by decide +kernel
set_option maxRecDepth 20000 in
theorem ggX4_refersOf_X4_refers : GoodIn wsX4_refersOf wsX4_refers := goodIn_ca (goodIn_r _ [6, 7, 8, 9, 10, 5, 11] (by decide +kernel) (by decide +kernel)) (goodIn_sub (fun _ h => List.mem_cons_of_mem _ (List.mem_append_right _ h)) (by decide +kernel))
set_option maxRecDepth 20000 in
theorem gX4_refersOf_X4_refers : GoodIn wsX4_refersOf (va_wsS RX4 72 yX4_refers wsX4_refers) := goodIn_app (goodIn_of _ (by decide +kernel)) ggX4_refersOf_X4_refers
theorem dX4_refersOf_0 : decode cX4_refersOf 0 = .ok (.aload_n 0, 1) := by decide +kernel
theorem dX4_refersOf_1 : decode cX4_refersOf 1 = .ok (.getfield 13, 3) := by decide +kernel
theorem dX4_refersOf_4 : decode cX4_refersOf 4 = .ok (.bipush 15, 2) := by decide +kernel
theorem dX4_refersOf_6 : decode cX4_refersOf 6 = .ok (.iload_n 1, 1) := by decide +kernel
theorem dX4_refersOf_7 : decode cX4_refersOf 7 = .ok (.imul, 1) := by decide +kernel
theorem dX4_refersOf_8 : decode cX4_refersOf 8 = .ok (.aload_n 0, 1) := by decide +kernel
theorem dX4_refersOf_9 : decode cX4_refersOf 9 = .ok (.getfield 16, 3) := by decide +kernel
theorem dX4_refersOf_12 : decode cX4_refersOf 12 = .ok (.iload_n 1, 1) := by decide +kernel
theorem dX4_refersOf_13 : decode cX4_refersOf 13 = .ok (.iaload, 1) := by decide +kernel
theorem dX4_refersOf_14 : decode cX4_refersOf 14 = .ok (.invokestatic 72, 3) := by decide +kernel
theorem dX4_refersOf_17 : decode cX4_refersOf 17 = .ok (.ireturn, 1) := by decide +kernel
set_option maxRecDepth 20000 in
theorem ggX4_below_X4_refersOf : GoodIn wsX4_below wsX4_refersOf := goodIn_ca (goodIn_r _ [5, 6, 7, 8, 9, 4, 10, 11, 12, 13, 14, 15, 16, 17, 18, 19, 20, 21, 22, 23, 24, 25, 26, 27, 28, 29, 30, 31] (by decide +kernel) (by decide +kernel)) (goodIn_sub (fun _ h => List.mem_cons_of_mem _ (List.mem_append_right _ h)) (by decide +kernel))
set_option maxRecDepth 20000 in
theorem gX4_below_X4_refersOf : GoodIn wsX4_below (wsV RX4 76 RX4 yX4_refersOf wsX4_refersOf) := goodIn_app (goodIn_of _ (by decide +kernel)) ggX4_below_X4_refersOf
theorem dX4_below_0 : decode cX4_below 0 = .ok (.iload_n 1, 1) := by decide +kernel
theorem dX4_below_1 : decode cX4_below 1 = .ok (.istore_n 2, 1) := by decide +kernel
theorem dX4_below_2 : decode cX4_below 2 = .ok (.iconst 0, 1) := by decide +kernel
theorem dX4_below_3 : decode cX4_below 3 = .ok (.istore_n 3, 1) := by decide +kernel
theorem dX4_below_4 : decode cX4_below 4 = .ok (.iload_n 2, 1) := by decide +kernel
theorem dX4_below_5 : decode cX4_below 5 = .ok (.iload_n 3, 1) := by decide +kernel
theorem dX4_below_6 : decode cX4_below 6 = .ok (.if_icmp .eq 47, 3) := by decide +kernel
theorem dX4_below_9 : decode cX4_below 9 = .ok (.iload_n 2, 1) := by decide +kernel
theorem dX4_below_10 : decode cX4_below 10 = .ok (.istore_n 3, 1) := by decide +kernel
theorem dX4_below_11 : decode cX4_below 11 = .ok (.iconst 0, 1) := by decide +kernel
theorem dX4_below_12 : decode cX4_below 12 = .ok (.istore 4, 2) := by decide +kernel
theorem dX4_below_14 : decode cX4_below 14 = .ok (.iload 4, 2) := by decide +kernel
theorem dX4_below_16 : decode cX4_below 16 = .ok (.bipush 30, 2) := by decide +kernel
theorem dX4_below_18 : decode cX4_below 18 = .ok (.if_icmp .ge 32, 3) := by decide +kernel
theorem dX4_below_21 : decode cX4_below 21 = .ok (.iload_n 2, 1) := by decide +kernel
theorem dX4_below_22 : decode cX4_below 22 = .ok (.iload_n 2, 1) := by decide +kernel
theorem dX4_below_23 : decode cX4_below 23 = .ok (.iload 4, 2) := by decide +kernel
theorem dX4_below_25 : decode cX4_below 25 = .ok (.ishr, 1) := by decide +kernel
theorem dX4_below_26 : decode cX4_below 26 = .ok (.iconst 1, 1) := by decide +kernel
theorem dX4_below_27 : decode cX4_below 27 = .ok (.iand, 1) := by decide +kernel
theorem dX4_below_28 : decode cX4_below 28 = .ok (.iconst 1, 1) := by decide +kernel
theorem dX4_below_29 : decode cX4_below 29 = .ok (.if_icmp .ne 12, 3) := by decide +kernel
theorem dX4_below_32 : decode cX4_below 32 = .ok (.aload_n 0, 1) := by decide +kernel
theorem dX4_below_33 : decode cX4_below 33 = .ok (.iload 4, 2) := by decide +kernel
theorem dX4_below_35 : decode cX4_below 35 = .ok (.invokevirtual 76, 3) := by decide +kernel
theorem dX4_below_38 : decode cX4_below 38 = .ok (.goto 4, 3) := by decide +kernel
theorem dX4_below_41 : decode cX4_below 41 = .ok (.iconst 0, 1) := by decide +kernel
theorem dX4_below_42 : decode cX4_below 42 = .ok (.ior, 1) := by decide +kernel
theorem dX4_below_43 : decode cX4_below 43 = .ok (.istore_n 2, 1) := by decide +kernel
theorem dX4_below_44 : decode cX4_below 44 = .ok (.iinc 4 1, 3) := by decide +kernel
theorem dX4_below_47 : decode cX4_below 47 = .ok (.goto (-33), 3) := by decide +kernel
theorem dX4_below_50 : decode cX4_below 50 = .ok (.goto (-46), 3) := by decide +kernel
theorem dX4_below_53 : decode cX4_below 53 = .ok (.iload_n 2, 1) := by decide +kernel
theorem dX4_below_54 : decode cX4_below 54 = .ok (.ireturn, 1) := by decide +kernel
set_option maxRecDepth 20000 in
theorem ggX4_doesDepend_X4_refersOf : GoodIn wsX4_doesDepend wsX4_refersOf := goodIn_ca (goodIn_r _ [5, 6, 7, 8, 9, 4, 10, 11, 12, 13, 14, 15, 20, 21, 22, 23, 24, 25, 26, 27, 28, 29, 30, 31, 32, 33, 34, 35] (by decide +kernel) (by decide +kernel)) (goodIn_sub (fun _ h => List.mem_cons_of_mem _ (List.mem_append_right _ h)) (by decide +kernel))
set_option maxRecDepth 20000 in
theorem gX4_doesDepend_X4_refersOf : GoodIn wsX4_doesDepend (wsV RX4 76 RX4 yX4_refersOf wsX4_refersOf) := goodIn_app (goodIn_of _ (by decide +kernel)) ggX4_doesDepend_X4_refersOf
set_option maxRecDepth 20000 in
theorem ggX4_doesDepend_X4_below : GoodIn wsX4_doesDepend wsX4_below := goodIn_ca (goodIn_r _ [19, 1, 2, 3, 4, 5, 6, 7, 8, 9, 10, 11, 12, 13, 14, 15, 20, 21, 22, 23, 24, 25, 26, 27, 28, 29, 30, 31, 32, 33, 34, 35] (by decide +kernel) (by decide +kernel)) (goodIn_sub (fun _ h => List.mem_cons_of_mem _ (List.mem_append_right _ h)) (by decide +kernel))
set_option maxRecDepth 20000 in
theorem gX4_doesDepend_X4_below : GoodIn wsX4_doesDepend (wsV RX4 79 RX4 yX4_below wsX4_below) := goodIn_app (goodIn_of _ (by decide +kernel)) ggX4_doesDepend_X4_below
theorem dX4_doesDepend_0 : decode cX4_doesDepend 0 = .ok (.aload_n 0, 1) := by decide +kernel
theorem dX4_doesDepend_1 : decode cX4_doesDepend 1 = .ok (.aload_n 0, 1) := by decide +kernel
theorem dX4_doesDepend_2 : decode cX4_doesDepend 2 = .ok (.iload_n 1, 1) := by decide +kernel
theorem dX4_doesDepend_3 : decode cX4_doesDepend 3 = .ok (.invokevirtual 76, 3) := by decide +kernel
theorem dX4_doesDepend_6 : decode cX4_doesDepend 6 = .ok (.invokevirtual 79, 3) := by decide +kernel
theorem dX4_doesDepend_9 : decode cX4_doesDepend 9 = .ok (.iload_n 2, 1) := by decide +kernel
theorem dX4_doesDepend_10 : decode cX4_doesDepend 10 = .ok (.ishr, 1) := by decide +kernel
theorem dX4_doesDepend_11 : decode cX4_doesDepend 11 = .ok (.iconst 1, 1) := by decide +kernel
theorem dX4_doesDepend_12 : decode cX4_doesDepend 12 = .ok (.iand, 1) := by decide +kernel
theorem dX4_doesDepend_13 : decode cX4_doesDepend 13 = .ok (.iconst 1, 1) := by decide +kernel
theorem dX4_doesDepend_14 : decode cX4_doesDepend 14 = .ok (.if_icmp .ne 7, 3) := by decide +kernel
theorem dX4_doesDepend_17 : decode cX4_doesDepend 17 = .ok (.iconst 1, 1) := by decide +kernel
theorem dX4_doesDepend_18 : decode cX4_doesDepend 18 = .ok (.goto 4, 3) := by decide +kernel
theorem dX4_doesDepend_21 : decode cX4_doesDepend 21 = .ok (.iconst 0, 1) := by decide +kernel
theorem dX4_doesDepend_22 : decode cX4_doesDepend 22 = .ok (.ireturn, 1) := by decide +kernel
set_option maxRecDepth 20000 in
theorem ggX4_anew_X4_below : GoodIn wsX4_anew wsX4_below := goodIn_ca (goodIn_r _ [5, 6, 7, 8, 4, 9, 10, 11, 12, 13, 14, 15, 16, 17, 18, 19, 20, 21, 22, 23, 24, 25, 26, 27, 28, 29, 30, 31, 32, 33, 34, 35] (by decide +kernel) (by decide +kernel)) (goodIn_sub (fun _ h => List.mem_cons_of_mem _ (List.mem_append_right _ h)) (by decide +kernel))
set_option maxRecDepth 20000 in
theorem gX4_anew_X4_below : GoodIn wsX4_anew (wsV RX4 79 RX4 yX4_below wsX4_below) := goodIn_app (goodIn_of _ (by decide +kernel)) ggX4_anew_X4_below
theorem dX4_anew_0 : decode cX4_anew 0 = .ok (.iconst 0, 1) := by decide +kernel
theorem dX4_anew_1 : decode cX4_anew 1 = .ok (.istore_n 2, 1) := by decide +kernel
theorem dX4_anew_2 : decode cX4_anew 2 = .ok (.iconst 0, 1) := by decide +kernel
theorem dX4_anew_3 : decode cX4_anew 3 = .ok (.istore_n 3, 1) := by decide +kernel
theorem dX4_anew_4 : decode cX4_anew 4 = .ok (.iload_n 3, 1) := by decide +kernel
theorem dX4_anew_5 : decode cX4_anew 5 = .ok (.bipush 30, 2) := by decide +kernel
theorem dX4_anew_7 : decode cX4_anew 7 = .ok (.if_icmp .ge 29, 3) := by decide +kernel
theorem dX4_anew_10 : decode cX4_anew 10 = .ok (.iload_n 2, 1) := by decide +kernel
theorem dX4_anew_11 : decode cX4_anew 11 = .ok (.aload_n 0, 1) := by decide +kernel
theorem dX4_anew_12 : decode cX4_anew 12 = .ok (.iconst 1, 1) := by decide +kernel
theorem dX4_anew_13 : decode cX4_anew 13 = .ok (.iload_n 3, 1) := by decide +kernel
theorem dX4_anew_14 : decode cX4_anew 14 = .ok (.ishl, 1) := by decide +kernel
theorem dX4_anew_15 : decode cX4_anew 15 = .ok (.invokevirtual 79, 3) := by decide +kernel
theorem dX4_anew_18 : decode cX4_anew 18 = .ok (.iload_n 1, 1) := by decide +kernel
theorem dX4_anew_19 : decode cX4_anew 19 = .ok (.iand, 1) := by decide +kernel
theorem dX4_anew_20 : decode cX4_anew 20 = .ok (.ifCond .eq 7, 3) := by decide +kernel
theorem dX4_anew_23 : decode cX4_anew 23 = .ok (.iconst 1, 1) := by decide +kernel
theorem dX4_anew_24 : decode cX4_anew 24 = .ok (.goto 4, 3) := by decide +kernel
theorem dX4_anew_27 : decode cX4_anew 27 = .ok (.iconst 0, 1) := by decide +kernel
theorem dX4_anew_28 : decode cX4_anew 28 = .ok (.iadd, 1) := by decide +kernel
theorem dX4_anew_29 : decode cX4_anew 29 = .ok (.istore_n 2, 1) := by decide +kernel
theorem dX4_anew_30 : decode cX4_anew 30 = .ok (.iinc 3 1, 3) := by decide +kernel
theorem dX4_anew_33 : decode cX4_anew 33 = .ok (.goto (-29), 3) := by decide +kernel
theorem dX4_anew_36 : decode cX4_anew 36 = .ok (.iload_n 2, 1) := by decide +kernel
theorem dX4_anew_37 : decode cX4_anew 37 = .ok (.ireturn, 1) := by decide +kernel
theorem dX4_pushes_0 : decode cX4_pushes 0 = .ok (.aload_n 0, 1) := by decide +kernel
theorem dX4_pushes_1 : decode cX4_pushes 1 = .ok (.getfield 32, 3) := by decide +kernel
theorem dX4_pushes_4 : decode cX4_pushes 4 = .ok (.aload_n 0, 1) := by decide +kernel
theorem dX4_pushes_5 : decode cX4_pushes 5 = .ok (.getfield 82, 3) := by decide +kernel
theorem dX4_pushes_8 : decode cX4_pushes 8 = .ok (.lload_n 1, 1) := by decide +kernel
theorem dX4_pushes_9 : decode cX4_pushes 9 = .ok (.lastore, 1) := by decide +kernel
theorem dX4_pushes_10 : decode cX4_pushes 10 = .ok (.aload_n 0, 1) := by decide +kernel
theorem dX4_pushes_11 : decode cX4_pushes 11 = .ok (.dup, 1) := by decide +kernel
theorem dX4_pushes_12 : decode cX4_pushes 12 = .ok (.getfield 82, 3) := by decide +kernel
theorem dX4_pushes_15 : decode cX4_pushes 15 = .ok (.iconst 1, 1) := by decide +kernel
theorem dX4_pushes_16 : decode cX4_pushes 16 = .ok (.iadd, 1) := by decide +kernel
theorem dX4_pushes_17 : decode cX4_pushes 17 = .ok (.putfield 82, 3) := by decide +kernel
theorem dX4_pushes_20 : decode cX4_pushes 20 = .ok (.aload_n 0, 1) := by decide +kernel
theorem dX4_pushes_21 : decode cX4_pushes 21 = .ok (.getfield 85, 3) := by decide +kernel
theorem dX4_pushes_24 : decode cX4_pushes 24 = .ok (.ifCond .le 55, 3) := by decide +kernel
theorem dX4_pushes_27 : decode cX4_pushes 27 = .ok (.aload_n 0, 1) := by decide +kernel
theorem dX4_pushes_28 : decode cX4_pushes 28 = .ok (.getfield 35, 3) := by decide +kernel
theorem dX4_pushes_31 : decode cX4_pushes 31 = .ok (.aload_n 0, 1) := by decide +kernel
theorem dX4_pushes_32 : decode cX4_pushes 32 = .ok (.getfield 85, 3) := by decide +kernel
theorem dX4_pushes_35 : decode cX4_pushes 35 = .ok (.iconst 1, 1) := by decide +kernel
theorem dX4_pushes_36 : decode cX4_pushes 36 = .ok (.isub, 1) := by decide +kernel
theorem dX4_pushes_37 : decode cX4_pushes 37 = .ok (.iaload, 1) := by decide +kernel
theorem dX4_pushes_38 : decode cX4_pushes 38 = .ok (.bipush 6, 2) := by decide +kernel
theorem dX4_pushes_40 : decode cX4_pushes 40 = .ok (.if_icmp .ne 39, 3) := by decide +kernel
theorem dX4_pushes_43 : decode cX4_pushes 43 = .ok (.aload_n 0, 1) := by decide +kernel
theorem dX4_pushes_44 : decode cX4_pushes 44 = .ok (.getfield 32, 3) := by decide +kernel
theorem dX4_pushes_47 : decode cX4_pushes 47 = .ok (.aload_n 0, 1) := by decide +kernel
theorem dX4_pushes_48 : decode cX4_pushes 48 = .ok (.getfield 82, 3) := by decide +kernel
theorem dX4_pushes_51 : decode cX4_pushes 51 = .ok (.iconst 1, 1) := by decide +kernel
theorem dX4_pushes_52 : decode cX4_pushes 52 = .ok (.isub, 1) := by decide +kernel
theorem dX4_pushes_53 : decode cX4_pushes 53 = .ok (.aload_n 0, 1) := by decide +kernel
theorem dX4_pushes_54 : decode cX4_pushes 54 = .ok (.getfield 32, 3) := by decide +kernel
theorem dX4_pushes_57 : decode cX4_pushes 57 = .ok (.aload_n 0, 1) := by decide +kernel
theorem dX4_pushes_58 : decode cX4_pushes 58 = .ok (.getfield 82, 3) := by decide +kernel
theorem dX4_pushes_61 : decode cX4_pushes 61 = .ok (.iconst 1, 1) := by decide +kernel
theorem dX4_pushes_62 : decode cX4_pushes 62 = .ok (.isub, 1) := by decide +kernel
theorem dX4_pushes_63 : decode cX4_pushes 63 = .ok (.laload, 1) := by decide +kernel
theorem dX4_pushes_64 : decode cX4_pushes 64 = .ok (.lneg, 1) := by decide +kernel
theorem dX4_pushes_65 : decode cX4_pushes 65 = .ok (.lastore, 1) := by decide +kernel
theorem dX4_pushes_66 : decode cX4_pushes 66 = .ok (.aload_n 0, 1) := by decide +kernel
theorem dX4_pushes_67 : decode cX4_pushes 67 = .ok (.dup, 1) := by decide +kernel
theorem dX4_pushes_68 : decode cX4_pushes 68 = .ok (.getfield 85, 3) := by decide +kernel
theorem dX4_pushes_71 : decode cX4_pushes 71 = .ok (.iconst 1, 1) := by decide +kernel
theorem dX4_pushes_72 : decode cX4_pushes 72 = .ok (.isub, 1) := by decide +kernel
theorem dX4_pushes_73 : decode cX4_pushes 73 = .ok (.putfield 85, 3) := by decide +kernel
theorem dX4_pushes_76 : decode cX4_pushes 76 = .ok (.goto (-56), 3) := by decide +kernel
theorem dX4_pushes_79 : decode cX4_pushes 79 = .ok (.return_, 1) := by decide +kernel
theorem dX4_size_0 : decode cX4_size 0 = .ok (.lload_n 0, 1) := by decide +kernel
theorem dX4_size_1 : decode cX4_size 1 = .ok (.lconst 0, 1) := by decide +kernel
theorem dX4_size_2 : decode cX4_size 2 = .ok (.lcmp, 1) := by decide +kernel
theorem dX4_size_3 : decode cX4_size 3 = .ok (.ifCond .ge 8, 3) := by decide +kernel
theorem dX4_size_6 : decode cX4_size 6 = .ok (.lload_n 0, 1) := by decide +kernel
theorem dX4_size_7 : decode cX4_size 7 = .ok (.lneg, 1) := by decide +kernel
theorem dX4_size_8 : decode cX4_size 8 = .ok (.goto 4, 3) := by decide +kernel
theorem dX4_size_11 : decode cX4_size 11 = .ok (.lload_n 0, 1) := by decide +kernel
theorem dX4_size_12 : decode cX4_size 12 = .ok (.lreturn, 1) := by decide +kernel
theorem dX4_quotient_0 : decode cX4_quotient 0 = .ok (.lload_n 0, 1) := by decide +kernel
theorem dX4_quotient_1 : decode cX4_quotient 1 = .ok (.lload_n 2, 1) := by decide +kernel
theorem dX4_quotient_2 : decode cX4_quotient 2 = .ok (.ldiv, 1) := by decide +kernel
theorem dX4_quotient_3 : decode cX4_quotient 3 = .ok (.lstore 4, 2) := by decide +kernel
theorem dX4_quotient_5 : decode cX4_quotient 5 = .ok (.lload_n 0, 1) := by decide +kernel
theorem dX4_quotient_6 : decode cX4_quotient 6 = .ok (.lload_n 2, 1) := by decide +kernel
theorem dX4_quotient_7 : decode cX4_quotient 7 = .ok (.lrem, 1) := by decide +kernel
theorem dX4_quotient_8 : decode cX4_quotient 8 = .ok (.lconst 0, 1) := by decide +kernel
theorem dX4_quotient_9 : decode cX4_quotient 9 = .ok (.lcmp, 1) := by decide +kernel
theorem dX4_quotient_10 : decode cX4_quotient 10 = .ok (.ifCond .eq 35, 3) := by decide +kernel
theorem dX4_quotient_13 : decode cX4_quotient 13 = .ok (.lload_n 0, 1) := by decide +kernel
theorem dX4_quotient_14 : decode cX4_quotient 14 = .ok (.lconst 0, 1) := by decide +kernel
theorem dX4_quotient_15 : decode cX4_quotient 15 = .ok (.lcmp, 1) := by decide +kernel
theorem dX4_quotient_16 : decode cX4_quotient 16 = .ok (.ifCond .ge 7, 3) := by decide +kernel
theorem dX4_quotient_19 : decode cX4_quotient 19 = .ok (.iconst 1, 1) := by decide +kernel
theorem dX4_quotient_20 : decode cX4_quotient 20 = .ok (.goto 4, 3) := by decide +kernel
theorem dX4_quotient_23 : decode cX4_quotient 23 = .ok (.iconst 0, 1) := by decide +kernel
theorem dX4_quotient_24 : decode cX4_quotient 24 = .ok (.lload_n 2, 1) := by decide +kernel
theorem dX4_quotient_25 : decode cX4_quotient 25 = .ok (.lconst 0, 1) := by decide +kernel
theorem dX4_quotient_26 : decode cX4_quotient 26 = .ok (.lcmp, 1) := by decide +kernel
theorem dX4_quotient_27 : decode cX4_quotient 27 = .ok (.ifCond .ge 7, 3) := by decide +kernel
theorem dX4_quotient_30 : decode cX4_quotient 30 = .ok (.iconst 1, 1) := by decide +kernel
theorem dX4_quotient_31 : decode cX4_quotient 31 = .ok (.goto 4, 3) := by decide +kernel
theorem dX4_quotient_34 : decode cX4_quotient 34 = .ok (.iconst 0, 1) := by decide +kernel
theorem dX4_quotient_35 : decode cX4_quotient 35 = .ok (.if_icmp .eq 10, 3) := by decide +kernel
theorem dX4_quotient_38 : decode cX4_quotient 38 = .ok (.lload 4, 2) := by decide +kernel
theorem dX4_quotient_40 : decode cX4_quotient 40 = .ok (.lconst 1, 1) := by decide +kernel
theorem dX4_quotient_41 : decode cX4_quotient 41 = .ok (.lsub, 1) := by decide +kernel
theorem dX4_quotient_42 : decode cX4_quotient 42 = .ok (.goto 5, 3) := by decide +kernel
theorem dX4_quotient_45 : decode cX4_quotient 45 = .ok (.lload 4, 2) := by decide +kernel
theorem dX4_quotient_47 : decode cX4_quotient 47 = .ok (.lreturn, 1) := by decide +kernel
set_option maxRecDepth 20000 in
theorem ggX4_joins_X4_size : GoodIn wsX4_joins wsX4_size := goodIn_r _ [10] (by decide +kernel) (by decide +kernel)
set_option maxRecDepth 20000 in
theorem gX4_joins_X4_size : GoodIn wsX4_joins (va_wsS RX4 88 yX4_size wsX4_size) := goodIn_app (goodIn_of _ (by decide +kernel)) ggX4_joins_X4_size
set_option maxRecDepth 20000 in
theorem ggX4_joins_X4_quotient : GoodIn wsX4_joins wsX4_quotient := goodIn_ca (goodIn_r _ [13] (by decide +kernel) (by decide +kernel)) (goodIn_sub (fun _ h => List.mem_cons_of_mem _ (List.mem_append_right _ h)) (by decide +kernel))
set_option maxRecDepth 20000 in
theorem gX4_joins_X4_quotient : GoodIn wsX4_joins (va_wsS RX4 94 yX4_quotient wsX4_quotient) := goodIn_app (goodIn_of _ (by decide +kernel)) ggX4_joins_X4_quotient
theorem dX4_joins_0 : decode cX4_joins 0 = .ok (.aload_n 0, 1) := by decide +kernel
theorem dX4_joins_1 : decode cX4_joins 1 = .ok (.dup, 1) := by decide +kernel
theorem dX4_joins_2 : decode cX4_joins 2 = .ok (.getfield 85, 3) := by decide +kernel
theorem dX4_joins_5 : decode cX4_joins 5 = .ok (.iconst 1, 1) := by decide +kernel
theorem dX4_joins_6 : decode cX4_joins 6 = .ok (.isub, 1) := by decide +kernel
theorem dX4_joins_7 : decode cX4_joins 7 = .ok (.putfield 85, 3) := by decide +kernel
theorem dX4_joins_10 : decode cX4_joins 10 = .ok (.aload_n 0, 1) := by decide +kernel
theorem dX4_joins_11 : decode cX4_joins 11 = .ok (.dup, 1) := by decide +kernel
theorem dX4_joins_12 : decode cX4_joins 12 = .ok (.getfield 82, 3) := by decide +kernel
theorem dX4_joins_15 : decode cX4_joins 15 = .ok (.iconst 1, 1) := by decide +kernel
theorem dX4_joins_16 : decode cX4_joins 16 = .ok (.isub, 1) := by decide +kernel
theorem dX4_joins_17 : decode cX4_joins 17 = .ok (.putfield 82, 3) := by decide +kernel
theorem dX4_joins_20 : decode cX4_joins 20 = .ok (.aload_n 0, 1) := by decide +kernel
theorem dX4_joins_21 : decode cX4_joins 21 = .ok (.getfield 35, 3) := by decide +kernel
theorem dX4_joins_24 : decode cX4_joins 24 = .ok (.aload_n 0, 1) := by decide +kernel
theorem dX4_joins_25 : decode cX4_joins 25 = .ok (.getfield 85, 3) := by decide +kernel
theorem dX4_joins_28 : decode cX4_joins 28 = .ok (.iaload, 1) := by decide +kernel
theorem dX4_joins_29 : decode cX4_joins 29 = .ok (.istore_n 1, 1) := by decide +kernel
theorem dX4_joins_30 : decode cX4_joins 30 = .ok (.aload_n 0, 1) := by decide +kernel
theorem dX4_joins_31 : decode cX4_joins 31 = .ok (.getfield 32, 3) := by decide +kernel
theorem dX4_joins_34 : decode cX4_joins 34 = .ok (.aload_n 0, 1) := by decide +kernel
theorem dX4_joins_35 : decode cX4_joins 35 = .ok (.getfield 82, 3) := by decide +kernel
theorem dX4_joins_38 : decode cX4_joins 38 = .ok (.iconst 1, 1) := by decide +kernel
theorem dX4_joins_39 : decode cX4_joins 39 = .ok (.isub, 1) := by decide +kernel
theorem dX4_joins_40 : decode cX4_joins 40 = .ok (.laload, 1) := by decide +kernel
theorem dX4_joins_41 : decode cX4_joins 41 = .ok (.lstore_n 2, 1) := by decide +kernel
theorem dX4_joins_42 : decode cX4_joins 42 = .ok (.aload_n 0, 1) := by decide +kernel
theorem dX4_joins_43 : decode cX4_joins 43 = .ok (.getfield 32, 3) := by decide +kernel
theorem dX4_joins_46 : decode cX4_joins 46 = .ok (.aload_n 0, 1) := by decide +kernel
theorem dX4_joins_47 : decode cX4_joins 47 = .ok (.getfield 82, 3) := by decide +kernel
theorem dX4_joins_50 : decode cX4_joins 50 = .ok (.laload, 1) := by decide +kernel
theorem dX4_joins_51 : decode cX4_joins 51 = .ok (.lstore 4, 2) := by decide +kernel
theorem dX4_joins_53 : decode cX4_joins 53 = .ok (.iload_n 1, 1) := by decide +kernel
theorem dX4_joins_54 : decode cX4_joins 54 = .ok (.iconst 2, 1) := by decide +kernel
theorem dX4_joins_55 : decode cX4_joins 55 = .ok (.if_icmp .ne 30, 3) := by decide +kernel
theorem dX4_joins_58 : decode cX4_joins 58 = .ok (.lload_n 2, 1) := by decide +kernel
theorem dX4_joins_59 : decode cX4_joins 59 = .ok (.lconst 0, 1) := by decide +kernel
theorem dX4_joins_60 : decode cX4_joins 60 = .ok (.lcmp, 1) := by decide +kernel
theorem dX4_joins_61 : decode cX4_joins 61 = .ok (.ifCond .eq 24, 3) := by decide +kernel
theorem dX4_joins_64 : decode cX4_joins 64 = .ok (.lload 4, 2) := by decide +kernel
theorem dX4_joins_66 : decode cX4_joins 66 = .ok (.invokestatic 88, 3) := by decide +kernel
theorem dX4_joins_69 : decode cX4_joins 69 = .ok (.ldc2_w 92, 3) := by decide +kernel
theorem dX4_joins_72 : decode cX4_joins 72 = .ok (.lload_n 2, 1) := by decide +kernel
theorem dX4_joins_73 : decode cX4_joins 73 = .ok (.invokestatic 88, 3) := by decide +kernel
theorem dX4_joins_76 : decode cX4_joins 76 = .ok (.ldiv, 1) := by decide +kernel
theorem dX4_joins_77 : decode cX4_joins 77 = .ok (.lcmp, 1) := by decide +kernel
theorem dX4_joins_78 : decode cX4_joins 78 = .ok (.ifCond .le 7, 3) := by decide +kernel
theorem dX4_joins_81 : decode cX4_joins 81 = .ok (.iconst 1, 1) := by decide +kernel
theorem dX4_joins_82 : decode cX4_joins 82 = .ok (.goto 4, 3) := by decide +kernel
theorem dX4_joins_85 : decode cX4_joins 85 = .ok (.iconst 0, 1) := by decide +kernel
theorem dX4_joins_86 : decode cX4_joins 86 = .ok (.istore 6, 2) := by decide +kernel
theorem dX4_joins_88 : decode cX4_joins 88 = .ok (.iload_n 1, 1) := by decide +kernel
theorem dX4_joins_89 : decode cX4_joins 89 = .ok (.iconst 3, 1) := by decide +kernel
theorem dX4_joins_90 : decode cX4_joins 90 = .ok (.if_icmp .ne 14, 3) := by decide +kernel
theorem dX4_joins_93 : decode cX4_joins 93 = .ok (.lload 4, 2) := by decide +kernel
theorem dX4_joins_95 : decode cX4_joins 95 = .ok (.lconst 0, 1) := by decide +kernel
theorem dX4_joins_96 : decode cX4_joins 96 = .ok (.lcmp, 1) := by decide +kernel
theorem dX4_joins_97 : decode cX4_joins 97 = .ok (.ifCond .ne 7, 3) := by decide +kernel
theorem dX4_joins_100 : decode cX4_joins 100 = .ok (.iconst 1, 1) := by decide +kernel
theorem dX4_joins_101 : decode cX4_joins 101 = .ok (.goto 4, 3) := by decide +kernel
theorem dX4_joins_104 : decode cX4_joins 104 = .ok (.iconst 0, 1) := by decide +kernel
theorem dX4_joins_105 : decode cX4_joins 105 = .ok (.istore 7, 2) := by decide +kernel
theorem dX4_joins_107 : decode cX4_joins 107 = .ok (.iload 6, 2) := by decide +kernel
theorem dX4_joins_109 : decode cX4_joins 109 = .ok (.ifCond .ne 8, 3) := by decide +kernel
theorem dX4_joins_112 : decode cX4_joins 112 = .ok (.iload 7, 2) := by decide +kernel
theorem dX4_joins_114 : decode cX4_joins 114 = .ok (.ifCond .eq 7, 3) := by decide +kernel
theorem dX4_joins_117 : decode cX4_joins 117 = .ok (.lconst 0, 1) := by decide +kernel
theorem dX4_joins_118 : decode cX4_joins 118 = .ok (.goto 44, 3) := by decide +kernel
theorem dX4_joins_121 : decode cX4_joins 121 = .ok (.iload_n 1, 1) := by decide +kernel
theorem dX4_joins_122 : decode cX4_joins 122 = .ok (.ifCond .ne 10, 3) := by decide +kernel
theorem dX4_joins_125 : decode cX4_joins 125 = .ok (.lload_n 2, 1) := by decide +kernel
theorem dX4_joins_126 : decode cX4_joins 126 = .ok (.lload 4, 2) := by decide +kernel
theorem dX4_joins_128 : decode cX4_joins 128 = .ok (.ladd, 1) := by decide +kernel
theorem dX4_joins_129 : decode cX4_joins 129 = .ok (.goto 33, 3) := by decide +kernel
theorem dX4_joins_132 : decode cX4_joins 132 = .ok (.iload_n 1, 1) := by decide +kernel
theorem dX4_joins_133 : decode cX4_joins 133 = .ok (.iconst 1, 1) := by decide +kernel
theorem dX4_joins_134 : decode cX4_joins 134 = .ok (.if_icmp .ne 10, 3) := by decide +kernel
theorem dX4_joins_137 : decode cX4_joins 137 = .ok (.lload_n 2, 1) := by decide +kernel
theorem dX4_joins_138 : decode cX4_joins 138 = .ok (.lload 4, 2) := by decide +kernel
theorem dX4_joins_140 : decode cX4_joins 140 = .ok (.lsub, 1) := by decide +kernel
theorem dX4_joins_141 : decode cX4_joins 141 = .ok (.goto 21, 3) := by decide +kernel
theorem dX4_joins_144 : decode cX4_joins 144 = .ok (.iload_n 1, 1) := by decide +kernel
theorem dX4_joins_145 : decode cX4_joins 145 = .ok (.iconst 2, 1) := by decide +kernel
theorem dX4_joins_146 : decode cX4_joins 146 = .ok (.if_icmp .ne 10, 3) := by decide +kernel
theorem dX4_joins_149 : decode cX4_joins 149 = .ok (.lload_n 2, 1) := by decide +kernel
theorem dX4_joins_150 : decode cX4_joins 150 = .ok (.lload 4, 2) := by decide +kernel
theorem dX4_joins_152 : decode cX4_joins 152 = .ok (.lmul, 1) := by decide +kernel
theorem dX4_joins_153 : decode cX4_joins 153 = .ok (.goto 9, 3) := by decide +kernel
theorem dX4_joins_156 : decode cX4_joins 156 = .ok (.lload_n 2, 1) := by decide +kernel
theorem dX4_joins_157 : decode cX4_joins 157 = .ok (.lload 4, 2) := by decide +kernel
theorem dX4_joins_159 : decode cX4_joins 159 = .ok (.invokestatic 94, 3) := by decide +kernel
theorem dX4_joins_162 : decode cX4_joins 162 = .ok (.lstore 8, 2) := by decide +kernel
theorem dX4_joins_164 : decode cX4_joins 164 = .ok (.aload_n 0, 1) := by decide +kernel
theorem dX4_joins_165 : decode cX4_joins 165 = .ok (.aload_n 0, 1) := by decide +kernel
theorem dX4_joins_166 : decode cX4_joins 166 = .ok (.getfield 98, 3) := by decide +kernel
theorem dX4_joins_169 : decode cX4_joins 169 = .ok (.ifCond .ne 25, 3) := by decide +kernel
theorem dX4_joins_172 : decode cX4_joins 172 = .ok (.iload 6, 2) := by decide +kernel
theorem dX4_joins_174 : decode cX4_joins 174 = .ok (.ifCond .ne 20, 3) := by decide +kernel
theorem dX4_joins_177 : decode cX4_joins 177 = .ok (.iload 7, 2) := by decide +kernel
theorem dX4_joins_179 : decode cX4_joins 179 = .ok (.ifCond .ne 15, 3) := by decide +kernel
theorem dX4_joins_182 : decode cX4_joins 182 = .ok (.lload 8, 2) := by decide +kernel
theorem dX4_joins_184 : decode cX4_joins 184 = .ok (.invokestatic 88, 3) := by decide +kernel
theorem dX4_joins_187 : decode cX4_joins 187 = .ok (.ldc2_w 92, 3) := by decide +kernel
theorem dX4_joins_190 : decode cX4_joins 190 = .ok (.lcmp, 1) := by decide +kernel
theorem dX4_joins_191 : decode cX4_joins 191 = .ok (.ifCond .le 7, 3) := by decide +kernel
theorem dX4_joins_194 : decode cX4_joins 194 = .ok (.iconst 1, 1) := by decide +kernel
theorem dX4_joins_195 : decode cX4_joins 195 = .ok (.goto 4, 3) := by decide +kernel
theorem dX4_joins_198 : decode cX4_joins 198 = .ok (.iconst 0, 1) := by decide +kernel
theorem dX4_joins_199 : decode cX4_joins 199 = .ok (.putfield 98, 3) := by decide +kernel
theorem dX4_joins_202 : decode cX4_joins 202 = .ok (.aload_n 0, 1) := by decide +kernel
theorem dX4_joins_203 : decode cX4_joins 203 = .ok (.getfield 32, 3) := by decide +kernel
theorem dX4_joins_206 : decode cX4_joins 206 = .ok (.aload_n 0, 1) := by decide +kernel
theorem dX4_joins_207 : decode cX4_joins 207 = .ok (.getfield 82, 3) := by decide +kernel
theorem dX4_joins_210 : decode cX4_joins 210 = .ok (.iconst 1, 1) := by decide +kernel
theorem dX4_joins_211 : decode cX4_joins 211 = .ok (.isub, 1) := by decide +kernel
theorem dX4_joins_212 : decode cX4_joins 212 = .ok (.aload_n 0, 1) := by decide +kernel
theorem dX4_joins_213 : decode cX4_joins 213 = .ok (.getfield 98, 3) := by decide +kernel
theorem dX4_joins_216 : decode cX4_joins 216 = .ok (.ifCond .eq 7, 3) := by decide +kernel
theorem dX4_joins_219 : decode cX4_joins 219 = .ok (.lconst 0, 1) := by decide +kernel
theorem dX4_joins_220 : decode cX4_joins 220 = .ok (.goto 5, 3) := by decide +kernel
theorem dX4_joins_223 : decode cX4_joins 223 = .ok (.lload 8, 2) := by decide +kernel
theorem dX4_joins_225 : decode cX4_joins 225 = .ok (.lastore, 1) := by decide +kernel
theorem dX4_joins_226 : decode cX4_joins 226 = .ok (.return_, 1) := by decide +kernel
set_option maxRecDepth 20000 in
theorem ggX4_joinsAll_X4_joins : GoodIn wsX4_joinsAll wsX4_joins := goodIn_ca (goodIn_ca (goodIn_r _ [7, 1, 8, 2, 9, 10, 11, 12, 13, 6, 14, 15, 16, 17, 18, 19, 20, 21, 22, 23, 24, 25, 26, 27, 28, 29, 30, 31, 32, 33] (by decide +kernel) (by decide +kernel)) (goodIn_sub (fun _ h => List.mem_cons_of_mem _ (List.mem_append_left _ (List.mem_append_right _ h))) (by decide +kernel))) (goodIn_sub (fun _ h => List.mem_cons_of_mem _ (List.mem_append_right _ h)) (by decide +kernel))
set_option maxRecDepth 20000 in
theorem gX4_joinsAll_X4_joins : GoodIn wsX4_joinsAll (wsV RX4 102 RX4 yX4_joins wsX4_joins) := goodIn_app (goodIn_of _ (by decide +kernel)) ggX4_joinsAll_X4_joins
theorem dX4_joinsAll_0 : decode cX4_joinsAll 0 = .ok (.aload_n 0, 1) := by decide +kernel
theorem dX4_joinsAll_1 : decode cX4_joinsAll 1 = .ok (.getfield 85, 3) := by decide +kernel
theorem dX4_joinsAll_4 : decode cX4_joinsAll 4 = .ok (.ifCond .le 42, 3) := by decide +kernel
theorem dX4_joinsAll_7 : decode cX4_joinsAll 7 = .ok (.aload_n 0, 1) := by decide +kernel
theorem dX4_joinsAll_8 : decode cX4_joinsAll 8 = .ok (.getfield 35, 3) := by decide +kernel
theorem dX4_joinsAll_11 : decode cX4_joinsAll 11 = .ok (.aload_n 0, 1) := by decide +kernel
theorem dX4_joinsAll_12 : decode cX4_joinsAll 12 = .ok (.getfield 85, 3) := by decide +kernel
theorem dX4_joinsAll_15 : decode cX4_joinsAll 15 = .ok (.iconst 1, 1) := by decide +kernel
theorem dX4_joinsAll_16 : decode cX4_joinsAll 16 = .ok (.isub, 1) := by decide +kernel
theorem dX4_joinsAll_17 : decode cX4_joinsAll 17 = .ok (.iaload, 1) := by decide +kernel
theorem dX4_joinsAll_18 : decode cX4_joinsAll 18 = .ok (.iconst 4, 1) := by decide +kernel
theorem dX4_joinsAll_19 : decode cX4_joinsAll 19 = .ok (.if_icmp .eq 27, 3) := by decide +kernel
theorem dX4_joinsAll_22 : decode cX4_joinsAll 22 = .ok (.aload_n 0, 1) := by decide +kernel
theorem dX4_joinsAll_23 : decode cX4_joinsAll 23 = .ok (.getfield 35, 3) := by decide +kernel
theorem dX4_joinsAll_26 : decode cX4_joinsAll 26 = .ok (.aload_n 0, 1) := by decide +kernel
theorem dX4_joinsAll_27 : decode cX4_joinsAll 27 = .ok (.getfield 85, 3) := by decide +kernel
theorem dX4_joinsAll_30 : decode cX4_joinsAll 30 = .ok (.iconst 1, 1) := by decide +kernel
theorem dX4_joinsAll_31 : decode cX4_joinsAll 31 = .ok (.isub, 1) := by decide +kernel
theorem dX4_joinsAll_32 : decode cX4_joinsAll 32 = .ok (.iaload, 1) := by decide +kernel
theorem dX4_joinsAll_33 : decode cX4_joinsAll 33 = .ok (.iconst 2, 1) := by decide +kernel
theorem dX4_joinsAll_34 : decode cX4_joinsAll 34 = .ok (.idiv, 1) := by decide +kernel
theorem dX4_joinsAll_35 : decode cX4_joinsAll 35 = .ok (.iload_n 1, 1) := by decide +kernel
theorem dX4_joinsAll_36 : decode cX4_joinsAll 36 = .ok (.if_icmp .lt 10, 3) := by decide +kernel
theorem dX4_joinsAll_39 : decode cX4_joinsAll 39 = .ok (.aload_n 0, 1) := by decide +kernel
theorem dX4_joinsAll_40 : decode cX4_joinsAll 40 = .ok (.invokevirtual 102, 3) := by decide +kernel
theorem dX4_joinsAll_43 : decode cX4_joinsAll 43 = .ok (.goto (-43), 3) := by decide +kernel
theorem dX4_joinsAll_46 : decode cX4_joinsAll 46 = .ok (.return_, 1) := by decide +kernel
set_option maxRecDepth 20000 in
theorem ggX4_reads_X4_pushes : GoodIn wsX4_reads wsX4_pushes := goodIn_ca (goodIn_r _ [14, 8, 7, 6, 9, 30, 31, 32, 33, 34, 35, 36, 37, 38, 39, 40, 41, 42, 43, 44, 45] (by decide +kernel) (by decide +kernel)) (goodIn_sub (fun _ h => List.mem_cons_of_mem _ (List.mem_append_left _ (List.mem_append_right _ h))) (by decide +kernel))
set_option maxRecDepth 20000 in
theorem gX4_reads_X4_pushes : GoodIn wsX4_reads (wsV RX4 105 RX4 yX4_pushes wsX4_pushes) := goodIn_app (goodIn_of _ (by decide +kernel)) ggX4_reads_X4_pushes
set_option maxRecDepth 20000 in
theorem ggX4_reads_X4_joinsAll : GoodIn wsX4_reads wsX4_joinsAll := goodIn_ca (goodIn_ca (goodIn_r _ [18, 6, 9, 19, 20, 21, 13, 22, 7, 8, 23, 3, 24, 25, 26, 27, 28, 29, 30, 31, 32, 33, 34, 35, 36, 37, 38, 39, 40, 41, 42, 43, 44, 45] (by decide +kernel) (by decide +kernel)) (goodIn_sub (fun _ h => List.mem_cons_of_mem _ (List.mem_append_left _ (List.mem_append_right _ h))) (by decide +kernel))) (goodIn_sub (fun _ h => List.mem_cons_of_mem _ (List.mem_append_right _ h)) (by decide +kernel))
set_option maxRecDepth 20000 in
theorem gX4_reads_X4_joinsAll : GoodIn wsX4_reads (wsV RX4 109 RX4 yX4_joinsAll wsX4_joinsAll) := goodIn_app (goodIn_of _ (by decide +kernel)) ggX4_reads_X4_joinsAll
theorem dX4_reads_0 : decode cX4_reads 0 = .ok (.iload_n 1, 1) := by decide +kernel
theorem dX4_reads_1 : decode cX4_reads 1 = .ok (.ldc 66, 2) := by decide +kernel
theorem dX4_reads_3 : decode cX4_reads 3 = .ok (.isub, 1) := by decide +kernel
theorem dX4_reads_4 : decode cX4_reads 4 = .ok (.istore_n 3, 1) := by decide +kernel
theorem dX4_reads_5 : decode cX4_reads 5 = .ok (.iload_n 1, 1) := by decide +kernel
theorem dX4_reads_6 : decode cX4_reads 6 = .ok (.ldc 65, 2) := by decide +kernel
theorem dX4_reads_8 : decode cX4_reads 8 = .ok (.if_icmp .ge 12, 3) := by decide +kernel
theorem dX4_reads_11 : decode cX4_reads 11 = .ok (.aload_n 0, 1) := by decide +kernel
theorem dX4_reads_12 : decode cX4_reads 12 = .ok (.iload_n 1, 1) := by decide +kernel
theorem dX4_reads_13 : decode cX4_reads 13 = .ok (.i2l, 1) := by decide +kernel
theorem dX4_reads_14 : decode cX4_reads 14 = .ok (.invokevirtual 105, 3) := by decide +kernel
theorem dX4_reads_17 : decode cX4_reads 17 = .ok (.goto 150, 3) := by decide +kernel
theorem dX4_reads_20 : decode cX4_reads 20 = .ok (.iload_n 1, 1) := by decide +kernel
theorem dX4_reads_21 : decode cX4_reads 21 = .ok (.ldc 66, 2) := by decide +kernel
theorem dX4_reads_23 : decode cX4_reads 23 = .ok (.if_icmp .ge 48, 3) := by decide +kernel
theorem dX4_reads_26 : decode cX4_reads 26 = .ok (.aload_n 0, 1) := by decide +kernel
theorem dX4_reads_27 : decode cX4_reads 27 = .ok (.aload_n 0, 1) := by decide +kernel
theorem dX4_reads_28 : decode cX4_reads 28 = .ok (.getfield 98, 3) := by decide +kernel
theorem dX4_reads_31 : decode cX4_reads 31 = .ok (.ifCond .ne 16, 3) := by decide +kernel
theorem dX4_reads_34 : decode cX4_reads 34 = .ok (.aload_n 0, 1) := by decide +kernel
theorem dX4_reads_35 : decode cX4_reads 35 = .ok (.getfield 29, 3) := by decide +kernel
theorem dX4_reads_38 : decode cX4_reads 38 = .ok (.iload_n 1, 1) := by decide +kernel
theorem dX4_reads_39 : decode cX4_reads 39 = .ok (.ldc 65, 2) := by decide +kernel
theorem dX4_reads_41 : decode cX4_reads 41 = .ok (.isub, 1) := by decide +kernel
theorem dX4_reads_42 : decode cX4_reads 42 = .ok (.iaload, 1) := by decide +kernel
theorem dX4_reads_43 : decode cX4_reads 43 = .ok (.iconst 2, 1) := by decide +kernel
theorem dX4_reads_44 : decode cX4_reads 44 = .ok (.if_icmp .ne 7, 3) := by decide +kernel
theorem dX4_reads_47 : decode cX4_reads 47 = .ok (.iconst 1, 1) := by decide +kernel
theorem dX4_reads_48 : decode cX4_reads 48 = .ok (.goto 4, 3) := by decide +kernel
theorem dX4_reads_51 : decode cX4_reads 51 = .ok (.iconst 0, 1) := by decide +kernel
theorem dX4_reads_52 : decode cX4_reads 52 = .ok (.putfield 98, 3) := by decide +kernel
theorem dX4_reads_55 : decode cX4_reads 55 = .ok (.aload_n 0, 1) := by decide +kernel
theorem dX4_reads_56 : decode cX4_reads 56 = .ok (.aload_n 0, 1) := by decide +kernel
theorem dX4_reads_57 : decode cX4_reads 57 = .ok (.getfield 25, 3) := by decide +kernel
theorem dX4_reads_60 : decode cX4_reads 60 = .ok (.iload_n 1, 1) := by decide +kernel
theorem dX4_reads_61 : decode cX4_reads 61 = .ok (.ldc 65, 2) := by decide +kernel
theorem dX4_reads_63 : decode cX4_reads 63 = .ok (.isub, 1) := by decide +kernel
theorem dX4_reads_64 : decode cX4_reads 64 = .ok (.laload, 1) := by decide +kernel
theorem dX4_reads_65 : decode cX4_reads 65 = .ok (.invokevirtual 105, 3) := by decide +kernel
theorem dX4_reads_68 : decode cX4_reads 68 = .ok (.goto 99, 3) := by decide +kernel
theorem dX4_reads_71 : decode cX4_reads 71 = .ok (.iload_n 3, 1) := by decide +kernel
theorem dX4_reads_72 : decode cX4_reads 72 = .ok (.iconst 5, 1) := by decide +kernel
theorem dX4_reads_73 : decode cX4_reads 73 = .ok (.if_icmp .ne 44, 3) := by decide +kernel
theorem dX4_reads_76 : decode cX4_reads 76 = .ok (.aload_n 0, 1) := by decide +kernel
theorem dX4_reads_77 : decode cX4_reads 77 = .ok (.iconst 0, 1) := by decide +kernel
theorem dX4_reads_78 : decode cX4_reads 78 = .ok (.invokevirtual 109, 3) := by decide +kernel
theorem dX4_reads_81 : decode cX4_reads 81 = .ok (.aload_n 0, 1) := by decide +kernel
theorem dX4_reads_82 : decode cX4_reads 82 = .ok (.dup, 1) := by decide +kernel
theorem dX4_reads_83 : decode cX4_reads 83 = .ok (.getfield 85, 3) := by decide +kernel
theorem dX4_reads_86 : decode cX4_reads 86 = .ok (.iconst 1, 1) := by decide +kernel
theorem dX4_reads_87 : decode cX4_reads 87 = .ok (.isub, 1) := by decide +kernel
theorem dX4_reads_88 : decode cX4_reads 88 = .ok (.putfield 85, 3) := by decide +kernel
theorem dX4_reads_91 : decode cX4_reads 91 = .ok (.aload_n 0, 1) := by decide +kernel
theorem dX4_reads_92 : decode cX4_reads 92 = .ok (.dup, 1) := by decide +kernel
theorem dX4_reads_93 : decode cX4_reads 93 = .ok (.getfield 82, 3) := by decide +kernel
theorem dX4_reads_96 : decode cX4_reads 96 = .ok (.iconst 1, 1) := by decide +kernel
theorem dX4_reads_97 : decode cX4_reads 97 = .ok (.isub, 1) := by decide +kernel
theorem dX4_reads_98 : decode cX4_reads 98 = .ok (.putfield 82, 3) := by decide +kernel
theorem dX4_reads_101 : decode cX4_reads 101 = .ok (.aload_n 0, 1) := by decide +kernel
theorem dX4_reads_102 : decode cX4_reads 102 = .ok (.aload_n 0, 1) := by decide +kernel
theorem dX4_reads_103 : decode cX4_reads 103 = .ok (.getfield 32, 3) := by decide +kernel
theorem dX4_reads_106 : decode cX4_reads 106 = .ok (.aload_n 0, 1) := by decide +kernel
theorem dX4_reads_107 : decode cX4_reads 107 = .ok (.getfield 82, 3) := by decide +kernel
theorem dX4_reads_110 : decode cX4_reads 110 = .ok (.laload, 1) := by decide +kernel
theorem dX4_reads_111 : decode cX4_reads 111 = .ok (.invokevirtual 105, 3) := by decide +kernel
theorem dX4_reads_114 : decode cX4_reads 114 = .ok (.goto 53, 3) := by decide +kernel
theorem dX4_reads_117 : decode cX4_reads 117 = .ok (.iload_n 3, 1) := by decide +kernel
theorem dX4_reads_118 : decode cX4_reads 118 = .ok (.iconst 4, 1) := by decide +kernel
theorem dX4_reads_119 : decode cX4_reads 119 = .ok (.if_icmp .eq 14, 3) := by decide +kernel
theorem dX4_reads_122 : decode cX4_reads 122 = .ok (.iload_n 2, 1) := by decide +kernel
theorem dX4_reads_123 : decode cX4_reads 123 = .ok (.ifCond .ne 10, 3) := by decide +kernel
theorem dX4_reads_126 : decode cX4_reads 126 = .ok (.aload_n 0, 1) := by decide +kernel
theorem dX4_reads_127 : decode cX4_reads 127 = .ok (.iload_n 3, 1) := by decide +kernel
theorem dX4_reads_128 : decode cX4_reads 128 = .ok (.iconst 2, 1) := by decide +kernel
theorem dX4_reads_129 : decode cX4_reads 129 = .ok (.idiv, 1) := by decide +kernel
theorem dX4_reads_130 : decode cX4_reads 130 = .ok (.invokevirtual 109, 3) := by decide +kernel
theorem dX4_reads_133 : decode cX4_reads 133 = .ok (.aload_n 0, 1) := by decide +kernel
theorem dX4_reads_134 : decode cX4_reads 134 = .ok (.getfield 35, 3) := by decide +kernel
theorem dX4_reads_137 : decode cX4_reads 137 = .ok (.aload_n 0, 1) := by decide +kernel
theorem dX4_reads_138 : decode cX4_reads 138 = .ok (.getfield 85, 3) := by decide +kernel
theorem dX4_reads_141 : decode cX4_reads 141 = .ok (.iload_n 3, 1) := by decide +kernel
theorem dX4_reads_142 : decode cX4_reads 142 = .ok (.iconst 1, 1) := by decide +kernel
theorem dX4_reads_143 : decode cX4_reads 143 = .ok (.if_icmp .ne 12, 3) := by decide +kernel
theorem dX4_reads_146 : decode cX4_reads 146 = .ok (.iload_n 2, 1) := by decide +kernel
theorem dX4_reads_147 : decode cX4_reads 147 = .ok (.ifCond .eq 8, 3) := by decide +kernel
theorem dX4_reads_150 : decode cX4_reads 150 = .ok (.bipush 6, 2) := by decide +kernel
theorem dX4_reads_152 : decode cX4_reads 152 = .ok (.goto 4, 3) := by decide +kernel
theorem dX4_reads_155 : decode cX4_reads 155 = .ok (.iload_n 3, 1) := by decide +kernel
theorem dX4_reads_156 : decode cX4_reads 156 = .ok (.iastore, 1) := by decide +kernel
theorem dX4_reads_157 : decode cX4_reads 157 = .ok (.aload_n 0, 1) := by decide +kernel
theorem dX4_reads_158 : decode cX4_reads 158 = .ok (.dup, 1) := by decide +kernel
theorem dX4_reads_159 : decode cX4_reads 159 = .ok (.getfield 85, 3) := by decide +kernel
theorem dX4_reads_162 : decode cX4_reads 162 = .ok (.iconst 1, 1) := by decide +kernel
theorem dX4_reads_163 : decode cX4_reads 163 = .ok (.iadd, 1) := by decide +kernel
theorem dX4_reads_164 : decode cX4_reads 164 = .ok (.putfield 85, 3) := by decide +kernel
theorem dX4_reads_167 : decode cX4_reads 167 = .ok (.return_, 1) := by decide +kernel
set_option maxRecDepth 20000 in
theorem ggX4_works_X4_reads : GoodIn wsX4_works wsX4_reads := goodIn_ca (goodIn_ca (goodIn_r _ [14, 6, 15, 3, 9, 7, 2, 1, 8, 16, 17, 18, 19, 13, 20, 21, 22, 23, 24, 25, 26, 27, 28, 29, 30, 31, 32, 33, 34, 35, 36, 37, 38, 39, 40, 41, 42, 43, 44, 45, 46, 47, 48, 49, 50, 51] (by decide +kernel) (by decide +kernel)) (goodIn_sub (fun _ h => List.mem_cons_of_mem _ (List.mem_append_left _ (List.mem_append_right _ h))) (by decide +kernel))) (goodIn_sub (fun _ h => List.mem_cons_of_mem _ (List.mem_append_right _ h)) (by decide +kernel))
set_option maxRecDepth 20000 in
theorem gX4_works_X4_reads : GoodIn wsX4_works (wsV RX4 113 RX4 yX4_reads wsX4_reads) := goodIn_app (goodIn_of _ (by decide +kernel)) ggX4_works_X4_reads
set_option maxRecDepth 20000 in
theorem ggX4_works_X4_joinsAll : GoodIn wsX4_works wsX4_joinsAll := goodIn_ca (goodIn_ca (goodIn_r _ [24, 2, 16, 25, 26, 27, 13, 28, 1, 8, 29, 3, 30, 31, 32, 33, 34, 35, 36, 37, 38, 39, 40, 41, 42, 43, 44, 45, 46, 47, 48, 49, 50, 51] (by decide +kernel) (by decide +kernel)) (goodIn_sub (fun _ h => List.mem_cons_of_mem _ (List.mem_append_left _ (List.mem_append_right _ h))) (by decide +kernel))) (goodIn_sub (fun _ h => List.mem_cons_of_mem _ (List.mem_append_right _ h)) (by decide +kernel))
set_option maxRecDepth 20000 in
theorem gX4_works_X4_joinsAll : GoodIn wsX4_works (wsV RX4 109 RX4 yX4_joinsAll wsX4_joinsAll) := goodIn_app (goodIn_of _ (by decide +kernel)) ggX4_works_X4_joinsAll
theorem dX4_works_0 : decode cX4_works 0 = .ok (.aload_n 0, 1) := by decide +kernel
theorem dX4_works_1 : decode cX4_works 1 = .ok (.iconst 0, 1) := by decide +kernel
theorem dX4_works_2 : decode cX4_works 2 = .ok (.putfield 82, 3) := by decide +kernel
theorem dX4_works_5 : decode cX4_works 5 = .ok (.aload_n 0, 1) := by decide +kernel
theorem dX4_works_6 : decode cX4_works 6 = .ok (.iconst 0, 1) := by decide +kernel
theorem dX4_works_7 : decode cX4_works 7 = .ok (.putfield 85, 3) := by decide +kernel
theorem dX4_works_10 : decode cX4_works 10 = .ok (.aload_n 0, 1) := by decide +kernel
theorem dX4_works_11 : decode cX4_works 11 = .ok (.iconst 0, 1) := by decide +kernel
theorem dX4_works_12 : decode cX4_works 12 = .ok (.putfield 98, 3) := by decide +kernel
theorem dX4_works_15 : decode cX4_works 15 = .ok (.iconst 1, 1) := by decide +kernel
theorem dX4_works_16 : decode cX4_works 16 = .ok (.istore_n 2, 1) := by decide +kernel
theorem dX4_works_17 : decode cX4_works 17 = .ok (.iconst 0, 1) := by decide +kernel
theorem dX4_works_18 : decode cX4_works 18 = .ok (.istore_n 3, 1) := by decide +kernel
theorem dX4_works_19 : decode cX4_works 19 = .ok (.iload_n 3, 1) := by decide +kernel
theorem dX4_works_20 : decode cX4_works 20 = .ok (.aload_n 0, 1) := by decide +kernel
theorem dX4_works_21 : decode cX4_works 21 = .ok (.getfield 16, 3) := by decide +kernel
theorem dX4_works_24 : decode cX4_works 24 = .ok (.iload_n 1, 1) := by decide +kernel
theorem dX4_works_25 : decode cX4_works 25 = .ok (.iaload, 1) := by decide +kernel
theorem dX4_works_26 : decode cX4_works 26 = .ok (.if_icmp .ge 51, 3) := by decide +kernel
theorem dX4_works_29 : decode cX4_works 29 = .ok (.aload_n 0, 1) := by decide +kernel
theorem dX4_works_30 : decode cX4_works 30 = .ok (.getfield 13, 3) := by decide +kernel
theorem dX4_works_33 : decode cX4_works 33 = .ok (.bipush 15, 2) := by decide +kernel
theorem dX4_works_35 : decode cX4_works 35 = .ok (.iload_n 1, 1) := by decide +kernel
theorem dX4_works_36 : decode cX4_works 36 = .ok (.imul, 1) := by decide +kernel
theorem dX4_works_37 : decode cX4_works 37 = .ok (.iload_n 3, 1) := by decide +kernel
theorem dX4_works_38 : decode cX4_works 38 = .ok (.iadd, 1) := by decide +kernel
theorem dX4_works_39 : decode cX4_works 39 = .ok (.iaload, 1) := by decide +kernel
theorem dX4_works_40 : decode cX4_works 40 = .ok (.istore 4, 2) := by decide +kernel
theorem dX4_works_42 : decode cX4_works 42 = .ok (.aload_n 0, 1) := by decide +kernel
theorem dX4_works_43 : decode cX4_works 43 = .ok (.iload 4, 2) := by decide +kernel
theorem dX4_works_45 : decode cX4_works 45 = .ok (.iload_n 2, 1) := by decide +kernel
theorem dX4_works_46 : decode cX4_works 46 = .ok (.invokevirtual 113, 3) := by decide +kernel
theorem dX4_works_49 : decode cX4_works 49 = .ok (.iload 4, 2) := by decide +kernel
theorem dX4_works_51 : decode cX4_works 51 = .ok (.ldc 66, 2) := by decide +kernel
theorem dX4_works_53 : decode cX4_works 53 = .ok (.if_icmp .lt 16, 3) := by decide +kernel
theorem dX4_works_56 : decode cX4_works 56 = .ok (.iload 4, 2) := by decide +kernel
theorem dX4_works_58 : decode cX4_works 58 = .ok (.ldc 66, 2) := by decide +kernel
theorem dX4_works_60 : decode cX4_works 60 = .ok (.isub, 1) := by decide +kernel
theorem dX4_works_61 : decode cX4_works 61 = .ok (.iconst 5, 1) := by decide +kernel
theorem dX4_works_62 : decode cX4_works 62 = .ok (.if_icmp .eq 7, 3) := by decide +kernel
theorem dX4_works_65 : decode cX4_works 65 = .ok (.iconst 1, 1) := by decide +kernel
theorem dX4_works_66 : decode cX4_works 66 = .ok (.goto 4, 3) := by decide +kernel
theorem dX4_works_69 : decode cX4_works 69 = .ok (.iconst 0, 1) := by decide +kernel
theorem dX4_works_70 : decode cX4_works 70 = .ok (.istore_n 2, 1) := by decide +kernel
theorem dX4_works_71 : decode cX4_works 71 = .ok (.iinc 3 1, 3) := by decide +kernel
theorem dX4_works_74 : decode cX4_works 74 = .ok (.goto (-55), 3) := by decide +kernel
theorem dX4_works_77 : decode cX4_works 77 = .ok (.aload_n 0, 1) := by decide +kernel
theorem dX4_works_78 : decode cX4_works 78 = .ok (.iconst 0, 1) := by decide +kernel
theorem dX4_works_79 : decode cX4_works 79 = .ok (.invokevirtual 109, 3) := by decide +kernel
theorem dX4_works_82 : decode cX4_works 82 = .ok (.aload_n 0, 1) := by decide +kernel
theorem dX4_works_83 : decode cX4_works 83 = .ok (.getfield 25, 3) := by decide +kernel
theorem dX4_works_86 : decode cX4_works 86 = .ok (.iload_n 1, 1) := by decide +kernel
theorem dX4_works_87 : decode cX4_works 87 = .ok (.aload_n 0, 1) := by decide +kernel
theorem dX4_works_88 : decode cX4_works 88 = .ok (.getfield 16, 3) := by decide +kernel
theorem dX4_works_91 : decode cX4_works 91 = .ok (.iload_n 1, 1) := by decide +kernel
theorem dX4_works_92 : decode cX4_works 92 = .ok (.iaload, 1) := by decide +kernel
theorem dX4_works_93 : decode cX4_works 93 = .ok (.ifCond .eq 10, 3) := by decide +kernel
theorem dX4_works_96 : decode cX4_works 96 = .ok (.aload_n 0, 1) := by decide +kernel
theorem dX4_works_97 : decode cX4_works 97 = .ok (.getfield 98, 3) := by decide +kernel
theorem dX4_works_100 : decode cX4_works 100 = .ok (.ifCond .eq 7, 3) := by decide +kernel
theorem dX4_works_103 : decode cX4_works 103 = .ok (.lconst 0, 1) := by decide +kernel
theorem dX4_works_104 : decode cX4_works 104 = .ok (.goto 9, 3) := by decide +kernel
theorem dX4_works_107 : decode cX4_works 107 = .ok (.aload_n 0, 1) := by decide +kernel
theorem dX4_works_108 : decode cX4_works 108 = .ok (.getfield 32, 3) := by decide +kernel
theorem dX4_works_111 : decode cX4_works 111 = .ok (.iconst 0, 1) := by decide +kernel
theorem dX4_works_112 : decode cX4_works 112 = .ok (.laload, 1) := by decide +kernel
theorem dX4_works_113 : decode cX4_works 113 = .ok (.lastore, 1) := by decide +kernel
theorem dX4_works_114 : decode cX4_works 114 = .ok (.aload_n 0, 1) := by decide +kernel
theorem dX4_works_115 : decode cX4_works 115 = .ok (.getfield 29, 3) := by decide +kernel
theorem dX4_works_118 : decode cX4_works 118 = .ok (.iload_n 1, 1) := by decide +kernel
theorem dX4_works_119 : decode cX4_works 119 = .ok (.aload_n 0, 1) := by decide +kernel
theorem dX4_works_120 : decode cX4_works 120 = .ok (.getfield 98, 3) := by decide +kernel
theorem dX4_works_123 : decode cX4_works 123 = .ok (.ifCond .eq 7, 3) := by decide +kernel
theorem dX4_works_126 : decode cX4_works 126 = .ok (.iconst 2, 1) := by decide +kernel
theorem dX4_works_127 : decode cX4_works 127 = .ok (.goto 4, 3) := by decide +kernel
theorem dX4_works_130 : decode cX4_works 130 = .ok (.iconst 1, 1) := by decide +kernel
theorem dX4_works_131 : decode cX4_works 131 = .ok (.iastore, 1) := by decide +kernel
theorem dX4_works_132 : decode cX4_works 132 = .ok (.return_, 1) := by decide +kernel
set_option maxRecDepth 20000 in
theorem ggX4_worksAll_X4_refersOf : GoodIn wsX4_worksAll wsX4_refersOf := goodIn_ca (goodIn_r _ [6, 7, 8, 9, 10, 5, 11, 12, 13, 14, 15, 16, 55, 56, 57, 58, 59, 60, 61, 62, 63, 64, 65, 66, 67, 68, 69, 70] (by decide +kernel) (by decide +kernel)) (goodIn_sub (fun _ h => List.mem_cons_of_mem _ (List.mem_append_left _ (List.mem_append_right _ h))) (by decide +kernel))
set_option maxRecDepth 20000 in
theorem gX4_worksAll_X4_refersOf : GoodIn wsX4_worksAll (wsV RX4 76 RX4 yX4_refersOf wsX4_refersOf) := goodIn_app (goodIn_of _ (by decide +kernel)) ggX4_worksAll_X4_refersOf
set_option maxRecDepth 20000 in
theorem ggX4_worksAll_X4_areKnown : GoodIn wsX4_worksAll wsX4_areKnown := goodIn_ca (goodIn_r _ [20, 1, 55, 56, 57, 58, 59, 60, 61, 62, 63, 64, 65, 66, 67, 68, 69, 70] (by decide +kernel) (by decide +kernel)) (goodIn_sub (fun _ h => List.mem_cons_of_mem _ (List.mem_append_left _ (List.mem_append_right _ h))) (by decide +kernel))
set_option maxRecDepth 20000 in
theorem gX4_worksAll_X4_areKnown : GoodIn wsX4_worksAll (wsV RX4 117 RX4 yX4_areKnown wsX4_areKnown) := goodIn_app (goodIn_of _ (by decide +kernel)) ggX4_worksAll_X4_areKnown
set_option maxRecDepth 20000 in
theorem ggX4_worksAll_X4_works : GoodIn wsX4_worksAll wsX4_works := goodIn_ca (goodIn_ca (goodIn_r _ [24, 25, 26, 27, 8, 7, 28, 29, 30, 1, 31, 32, 33, 5, 34, 12, 35, 36, 37, 38, 39, 40, 41, 42, 43, 44, 45, 46, 47, 48, 49, 50, 51, 52, 53, 54, 55, 56, 57, 58, 59, 60, 61, 62, 63, 64, 65, 66, 67, 68, 69, 70] (by decide +kernel) (by decide +kernel)) (goodIn_sub (fun _ h => List.mem_cons_of_mem _ (List.mem_append_left _ (List.mem_append_right _ h))) (by decide +kernel))) (goodIn_sub (fun _ h => List.mem_cons_of_mem _ (List.mem_append_right _ h)) (by decide +kernel))
set_option maxRecDepth 20000 in
theorem gX4_worksAll_X4_works : GoodIn wsX4_worksAll (wsV RX4 120 RX4 yX4_works wsX4_works) := goodIn_app (goodIn_of _ (by decide +kernel)) ggX4_worksAll_X4_works
theorem dX4_worksAll_0 : decode cX4_worksAll 0 = .ok (.iconst 0, 1) := by decide +kernel
theorem dX4_worksAll_1 : decode cX4_worksAll 1 = .ok (.istore_n 1, 1) := by decide +kernel
theorem dX4_worksAll_2 : decode cX4_worksAll 2 = .ok (.iload_n 1, 1) := by decide +kernel
theorem dX4_worksAll_3 : decode cX4_worksAll 3 = .ok (.bipush 30, 2) := by decide +kernel
theorem dX4_worksAll_5 : decode cX4_worksAll 5 = .ok (.if_icmp .ge 16, 3) := by decide +kernel
theorem dX4_worksAll_8 : decode cX4_worksAll 8 = .ok (.aload_n 0, 1) := by decide +kernel
theorem dX4_worksAll_9 : decode cX4_worksAll 9 = .ok (.getfield 29, 3) := by decide +kernel
theorem dX4_worksAll_12 : decode cX4_worksAll 12 = .ok (.iload_n 1, 1) := by decide +kernel
theorem dX4_worksAll_13 : decode cX4_worksAll 13 = .ok (.iconst 0, 1) := by decide +kernel
theorem dX4_worksAll_14 : decode cX4_worksAll 14 = .ok (.iastore, 1) := by decide +kernel
theorem dX4_worksAll_15 : decode cX4_worksAll 15 = .ok (.iinc 1 1, 3) := by decide +kernel
theorem dX4_worksAll_18 : decode cX4_worksAll 18 = .ok (.goto (-16), 3) := by decide +kernel
theorem dX4_worksAll_21 : decode cX4_worksAll 21 = .ok (.bipush 30, 2) := by decide +kernel
theorem dX4_worksAll_23 : decode cX4_worksAll 23 = .ok (.istore_n 1, 1) := by decide +kernel
theorem dX4_worksAll_24 : decode cX4_worksAll 24 = .ok (.iload_n 1, 1) := by decide +kernel
theorem dX4_worksAll_25 : decode cX4_worksAll 25 = .ok (.ifCond .le 65, 3) := by decide +kernel
theorem dX4_worksAll_28 : decode cX4_worksAll 28 = .ok (.iconst 0, 1) := by decide +kernel
theorem dX4_worksAll_29 : decode cX4_worksAll 29 = .ok (.istore_n 1, 1) := by decide +kernel
theorem dX4_worksAll_30 : decode cX4_worksAll 30 = .ok (.iconst 0, 1) := by decide +kernel
theorem dX4_worksAll_31 : decode cX4_worksAll 31 = .ok (.istore_n 2, 1) := by decide +kernel
theorem dX4_worksAll_32 : decode cX4_worksAll 32 = .ok (.iload_n 2, 1) := by decide +kernel
theorem dX4_worksAll_33 : decode cX4_worksAll 33 = .ok (.bipush 30, 2) := by decide +kernel
theorem dX4_worksAll_35 : decode cX4_worksAll 35 = .ok (.if_icmp .ge 52, 3) := by decide +kernel
theorem dX4_worksAll_38 : decode cX4_worksAll 38 = .ok (.aload_n 0, 1) := by decide +kernel
theorem dX4_worksAll_39 : decode cX4_worksAll 39 = .ok (.getfield 29, 3) := by decide +kernel
theorem dX4_worksAll_42 : decode cX4_worksAll 42 = .ok (.iload_n 2, 1) := by decide +kernel
theorem dX4_worksAll_43 : decode cX4_worksAll 43 = .ok (.iaload, 1) := by decide +kernel
theorem dX4_worksAll_44 : decode cX4_worksAll 44 = .ok (.ifCond .ne 20, 3) := by decide +kernel
theorem dX4_worksAll_47 : decode cX4_worksAll 47 = .ok (.aload_n 0, 1) := by decide +kernel
theorem dX4_worksAll_48 : decode cX4_worksAll 48 = .ok (.aload_n 0, 1) := by decide +kernel
theorem dX4_worksAll_49 : decode cX4_worksAll 49 = .ok (.iload_n 2, 1) := by decide +kernel
theorem dX4_worksAll_50 : decode cX4_worksAll 50 = .ok (.invokevirtual 76, 3) := by decide +kernel
theorem dX4_worksAll_53 : decode cX4_worksAll 53 = .ok (.invokevirtual 117, 3) := by decide +kernel
theorem dX4_worksAll_56 : decode cX4_worksAll 56 = .ok (.ifCond .eq 8, 3) := by decide +kernel
theorem dX4_worksAll_59 : decode cX4_worksAll 59 = .ok (.aload_n 0, 1) := by decide +kernel
theorem dX4_worksAll_60 : decode cX4_worksAll 60 = .ok (.iload_n 2, 1) := by decide +kernel
theorem dX4_worksAll_61 : decode cX4_worksAll 61 = .ok (.invokevirtual 120, 3) := by decide +kernel
theorem dX4_worksAll_64 : decode cX4_worksAll 64 = .ok (.iload_n 1, 1) := by decide +kernel
theorem dX4_worksAll_65 : decode cX4_worksAll 65 = .ok (.aload_n 0, 1) := by decide +kernel
theorem dX4_worksAll_66 : decode cX4_worksAll 66 = .ok (.getfield 29, 3) := by decide +kernel
theorem dX4_worksAll_69 : decode cX4_worksAll 69 = .ok (.iload_n 2, 1) := by decide +kernel
theorem dX4_worksAll_70 : decode cX4_worksAll 70 = .ok (.iaload, 1) := by decide +kernel
theorem dX4_worksAll_71 : decode cX4_worksAll 71 = .ok (.ifCond .ne 7, 3) := by decide +kernel
theorem dX4_worksAll_74 : decode cX4_worksAll 74 = .ok (.iconst 1, 1) := by decide +kernel
theorem dX4_worksAll_75 : decode cX4_worksAll 75 = .ok (.goto 4, 3) := by decide +kernel
theorem dX4_worksAll_78 : decode cX4_worksAll 78 = .ok (.iconst 0, 1) := by decide +kernel
theorem dX4_worksAll_79 : decode cX4_worksAll 79 = .ok (.iadd, 1) := by decide +kernel
theorem dX4_worksAll_80 : decode cX4_worksAll 80 = .ok (.istore_n 1, 1) := by decide +kernel
theorem dX4_worksAll_81 : decode cX4_worksAll 81 = .ok (.iinc 2 1, 3) := by decide +kernel
theorem dX4_worksAll_84 : decode cX4_worksAll 84 = .ok (.goto (-52), 3) := by decide +kernel
theorem dX4_worksAll_87 : decode cX4_worksAll 87 = .ok (.goto (-63), 3) := by decide +kernel
theorem dX4_worksAll_90 : decode cX4_worksAll 90 = .ok (.return_, 1) := by decide +kernel
theorem dX4_areKnown_0 : decode cX4_areKnown 0 = .ok (.iconst 0, 1) := by decide +kernel
theorem dX4_areKnown_1 : decode cX4_areKnown 1 = .ok (.istore_n 2, 1) := by decide +kernel
theorem dX4_areKnown_2 : decode cX4_areKnown 2 = .ok (.iload_n 2, 1) := by decide +kernel
theorem dX4_areKnown_3 : decode cX4_areKnown 3 = .ok (.bipush 30, 2) := by decide +kernel
theorem dX4_areKnown_5 : decode cX4_areKnown 5 = .ok (.if_icmp .ge 29, 3) := by decide +kernel
theorem dX4_areKnown_8 : decode cX4_areKnown 8 = .ok (.iload_n 1, 1) := by decide +kernel
theorem dX4_areKnown_9 : decode cX4_areKnown 9 = .ok (.iload_n 2, 1) := by decide +kernel
theorem dX4_areKnown_10 : decode cX4_areKnown 10 = .ok (.ishr, 1) := by decide +kernel
theorem dX4_areKnown_11 : decode cX4_areKnown 11 = .ok (.iconst 1, 1) := by decide +kernel
theorem dX4_areKnown_12 : decode cX4_areKnown 12 = .ok (.iand, 1) := by decide +kernel
theorem dX4_areKnown_13 : decode cX4_areKnown 13 = .ok (.iconst 1, 1) := by decide +kernel
theorem dX4_areKnown_14 : decode cX4_areKnown 14 = .ok (.if_icmp .ne 14, 3) := by decide +kernel
theorem dX4_areKnown_17 : decode cX4_areKnown 17 = .ok (.aload_n 0, 1) := by decide +kernel
theorem dX4_areKnown_18 : decode cX4_areKnown 18 = .ok (.getfield 29, 3) := by decide +kernel
theorem dX4_areKnown_21 : decode cX4_areKnown 21 = .ok (.iload_n 2, 1) := by decide +kernel
theorem dX4_areKnown_22 : decode cX4_areKnown 22 = .ok (.iaload, 1) := by decide +kernel
theorem dX4_areKnown_23 : decode cX4_areKnown 23 = .ok (.ifCond .ne 5, 3) := by decide +kernel
theorem dX4_areKnown_26 : decode cX4_areKnown 26 = .ok (.iconst 0, 1) := by decide +kernel
theorem dX4_areKnown_27 : decode cX4_areKnown 27 = .ok (.ireturn, 1) := by decide +kernel
theorem dX4_areKnown_28 : decode cX4_areKnown 28 = .ok (.iinc 2 1, 3) := by decide +kernel
theorem dX4_areKnown_31 : decode cX4_areKnown 31 = .ok (.goto (-29), 3) := by decide +kernel
theorem dX4_areKnown_34 : decode cX4_areKnown 34 = .ok (.iconst 1, 1) := by decide +kernel
theorem dX4_areKnown_35 : decode cX4_areKnown 35 = .ok (.ireturn, 1) := by decide +kernel
set_option maxRecDepth 20000 in
theorem ggX4_errorOfSet_X4_isCell : GoodIn wsX4_errorOfSet wsX4_isCell := goodIn_r _ [6, 7, 8, 5, 9] (by decide +kernel) (by decide +kernel)
set_option maxRecDepth 20000 in
theorem gX4_errorOfSet_X4_isCell : GoodIn wsX4_errorOfSet (va_wsS RX4 62 yX4_isCell wsX4_isCell) := goodIn_app (goodIn_of _ (by decide +kernel)) ggX4_errorOfSet_X4_isCell
set_option maxRecDepth 20000 in
theorem ggX4_errorOfSet_X4_faultOf : GoodIn wsX4_errorOfSet wsX4_faultOf := goodIn_ca (goodIn_r _ [13, 2, 1, 14, 30, 31, 32, 33, 34, 35, 36, 37, 38, 39, 40, 41, 42, 43, 44, 45] (by decide +kernel) (by decide +kernel)) (goodIn_sub (fun _ h => List.mem_cons_of_mem _ (List.mem_append_right _ h)) (by decide +kernel))
set_option maxRecDepth 20000 in
theorem gX4_errorOfSet_X4_faultOf : GoodIn wsX4_errorOfSet (wsV RX4 67 RX4 yX4_faultOf wsX4_faultOf) := goodIn_app (goodIn_of _ (by decide +kernel)) ggX4_errorOfSet_X4_faultOf
set_option maxRecDepth 20000 in
theorem ggX4_errorOfSet_X4_refers : GoodIn wsX4_errorOfSet wsX4_refers := goodIn_ca (goodIn_r _ [17, 18, 19, 7, 8, 5, 9] (by decide +kernel) (by decide +kernel)) (goodIn_sub (fun _ h => List.mem_cons_of_mem _ (List.mem_append_right _ h)) (by decide +kernel))
set_option maxRecDepth 20000 in
theorem gX4_errorOfSet_X4_refers : GoodIn wsX4_errorOfSet (va_wsS RX4 72 yX4_refers wsX4_refers) := goodIn_app (goodIn_of _ (by decide +kernel)) ggX4_errorOfSet_X4_refers
set_option maxRecDepth 20000 in
theorem ggX4_errorOfSet_X4_below : GoodIn wsX4_errorOfSet wsX4_below := goodIn_ca (goodIn_r _ [23, 24, 25, 26, 5, 27, 28, 29, 15, 16, 17, 18, 19, 7, 8, 9, 30, 31, 32, 33, 34, 35, 36, 37, 38, 39, 40, 41, 42, 43, 44, 45] (by decide +kernel) (by decide +kernel)) (goodIn_sub (fun _ h => List.mem_cons_of_mem _ (List.mem_append_right _ h)) (by decide +kernel))
set_option maxRecDepth 20000 in
theorem gX4_errorOfSet_X4_below : GoodIn wsX4_errorOfSet (wsV RX4 79 RX4 yX4_below wsX4_below) := goodIn_app (goodIn_of _ (by decide +kernel)) ggX4_errorOfSet_X4_below
theorem dX4_errorOfSet_0 : decode cX4_errorOfSet 0 = .ok (.iload_n 1, 1) := by decide +kernel
theorem dX4_errorOfSet_1 : decode cX4_errorOfSet 1 = .ok (.invokestatic 62, 3) := by decide +kernel
theorem dX4_errorOfSet_4 : decode cX4_errorOfSet 4 = .ok (.ifCond .ne 5, 3) := by decide +kernel
theorem dX4_errorOfSet_7 : decode cX4_errorOfSet 7 = .ok (.iconst 1, 1) := by decide +kernel
theorem dX4_errorOfSet_8 : decode cX4_errorOfSet 8 = .ok (.ireturn, 1) := by decide +kernel
theorem dX4_errorOfSet_9 : decode cX4_errorOfSet 9 = .ok (.aload_n 0, 1) := by decide +kernel
theorem dX4_errorOfSet_10 : decode cX4_errorOfSet 10 = .ok (.invokevirtual 67, 3) := by decide +kernel
theorem dX4_errorOfSet_13 : decode cX4_errorOfSet 13 = .ok (.iconst (-1), 1) := by decide +kernel
theorem dX4_errorOfSet_14 : decode cX4_errorOfSet 14 = .ok (.if_icmp .eq 7, 3) := by decide +kernel
theorem dX4_errorOfSet_17 : decode cX4_errorOfSet 17 = .ok (.iconst 2, 1) := by decide +kernel
theorem dX4_errorOfSet_18 : decode cX4_errorOfSet 18 = .ok (.goto 32, 3) := by decide +kernel
theorem dX4_errorOfSet_21 : decode cX4_errorOfSet 21 = .ok (.aload_n 0, 1) := by decide +kernel
theorem dX4_errorOfSet_22 : decode cX4_errorOfSet 22 = .ok (.aload_n 0, 1) := by decide +kernel
theorem dX4_errorOfSet_23 : decode cX4_errorOfSet 23 = .ok (.getfield 7, 3) := by decide +kernel
theorem dX4_errorOfSet_26 : decode cX4_errorOfSet 26 = .ok (.iconst 0, 1) := by decide +kernel
theorem dX4_errorOfSet_27 : decode cX4_errorOfSet 27 = .ok (.aload_n 0, 1) := by decide +kernel
theorem dX4_errorOfSet_28 : decode cX4_errorOfSet 28 = .ok (.getfield 46, 3) := by decide +kernel
theorem dX4_errorOfSet_31 : decode cX4_errorOfSet 31 = .ok (.invokestatic 72, 3) := by decide +kernel
theorem dX4_errorOfSet_34 : decode cX4_errorOfSet 34 = .ok (.invokevirtual 79, 3) := by decide +kernel
theorem dX4_errorOfSet_37 : decode cX4_errorOfSet 37 = .ok (.iload_n 1, 1) := by decide +kernel
theorem dX4_errorOfSet_38 : decode cX4_errorOfSet 38 = .ok (.ishr, 1) := by decide +kernel
theorem dX4_errorOfSet_39 : decode cX4_errorOfSet 39 = .ok (.iconst 1, 1) := by decide +kernel
theorem dX4_errorOfSet_40 : decode cX4_errorOfSet 40 = .ok (.iand, 1) := by decide +kernel
theorem dX4_errorOfSet_41 : decode cX4_errorOfSet 41 = .ok (.iconst 1, 1) := by decide +kernel
theorem dX4_errorOfSet_42 : decode cX4_errorOfSet 42 = .ok (.if_icmp .ne 7, 3) := by decide +kernel
theorem dX4_errorOfSet_45 : decode cX4_errorOfSet 45 = .ok (.iconst 3, 1) := by decide +kernel
theorem dX4_errorOfSet_46 : decode cX4_errorOfSet 46 = .ok (.goto 4, 3) := by decide +kernel
theorem dX4_errorOfSet_49 : decode cX4_errorOfSet 49 = .ok (.iconst 0, 1) := by decide +kernel
theorem dX4_errorOfSet_50 : decode cX4_errorOfSet 50 = .ok (.ireturn, 1) := by decide +kernel
set_option maxRecDepth 20000 in
theorem ggX4_set_X4_errorOfSet : GoodIn wsX4_set wsX4_errorOfSet := goodIn_ca (goodIn_r _ [10, 3, 1, 11, 12, 9, 13, 14, 15, 16, 17, 18, 19, 20, 21, 22, 23, 24, 25, 26, 27, 28, 29, 30, 31, 32, 33, 34, 2, 4, 44, 45, 46, 47, 48, 49, 50, 51, 52, 53, 54, 55, 56, 57, 58, 59] (by decide +kernel) (by decide +kernel)) (goodIn_sub (fun _ h => List.mem_cons_of_mem _ (List.mem_append_right _ h)) (by decide +kernel))
set_option maxRecDepth 20000 in
theorem gX4_set_X4_errorOfSet : GoodIn wsX4_set (wsV RX4 123 RX4 yX4_errorOfSet wsX4_errorOfSet) := goodIn_app (goodIn_of _ (by decide +kernel)) ggX4_set_X4_errorOfSet
set_option maxRecDepth 20000 in
theorem ggX4_set_X4_holds : GoodIn wsX4_set wsX4_holds := goodIn_r _ [38, 39, 44, 45, 46, 47, 48, 49, 50, 51, 52, 53, 54, 55, 56, 57, 58, 59] (by decide +kernel) (by decide +kernel)
set_option maxRecDepth 20000 in
theorem gX4_set_X4_holds : GoodIn wsX4_set (wsV RX4 54 RX4 yX4_holds wsX4_holds) := goodIn_app (goodIn_of _ (by decide +kernel)) ggX4_set_X4_holds
set_option maxRecDepth 20000 in
theorem ggX4_set_X4_anew : GoodIn wsX4_set wsX4_anew := goodIn_ca (goodIn_r _ [43, 27, 28, 29, 9, 30, 31, 32, 33, 34, 2, 4, 22, 23, 24, 25, 26, 14, 15, 16, 44, 45, 46, 47, 48, 49, 50, 51, 52, 53, 54, 55, 56, 57, 58, 59] (by decide +kernel) (by decide +kernel)) (goodIn_sub (fun _ h => List.mem_cons_of_mem _ (List.mem_append_right _ h)) (by decide +kernel))
set_option maxRecDepth 20000 in
theorem gX4_set_X4_anew : GoodIn wsX4_set (wsV RX4 126 RX4 yX4_anew wsX4_anew) := goodIn_app (goodIn_of _ (by decide +kernel)) ggX4_set_X4_anew
theorem dX4_set_0 : decode cX4_set 0 = .ok (.aload_n 0, 1) := by decide +kernel
theorem dX4_set_1 : decode cX4_set 1 = .ok (.aload_n 0, 1) := by decide +kernel
theorem dX4_set_2 : decode cX4_set 2 = .ok (.iload_n 1, 1) := by decide +kernel
theorem dX4_set_3 : decode cX4_set 3 = .ok (.invokevirtual 123, 3) := by decide +kernel
theorem dX4_set_6 : decode cX4_set 6 = .ok (.invokevirtual 54, 3) := by decide +kernel
theorem dX4_set_9 : decode cX4_set 9 = .ok (.ifCond .ne 5, 3) := by decide +kernel
theorem dX4_set_12 : decode cX4_set 12 = .ok (.iconst 0, 1) := by decide +kernel
theorem dX4_set_13 : decode cX4_set 13 = .ok (.ireturn, 1) := by decide +kernel
theorem dX4_set_14 : decode cX4_set 14 = .ok (.iconst 0, 1) := by decide +kernel
theorem dX4_set_15 : decode cX4_set 15 = .ok (.istore_n 2, 1) := by decide +kernel
theorem dX4_set_16 : decode cX4_set 16 = .ok (.iload_n 2, 1) := by decide +kernel
theorem dX4_set_17 : decode cX4_set 17 = .ok (.aload_n 0, 1) := by decide +kernel
theorem dX4_set_18 : decode cX4_set 18 = .ok (.getfield 46, 3) := by decide +kernel
theorem dX4_set_21 : decode cX4_set 21 = .ok (.if_icmp .ge 26, 3) := by decide +kernel
theorem dX4_set_24 : decode cX4_set 24 = .ok (.aload_n 0, 1) := by decide +kernel
theorem dX4_set_25 : decode cX4_set 25 = .ok (.getfield 13, 3) := by decide +kernel
theorem dX4_set_28 : decode cX4_set 28 = .ok (.bipush 15, 2) := by decide +kernel
theorem dX4_set_30 : decode cX4_set 30 = .ok (.iload_n 1, 1) := by decide +kernel
theorem dX4_set_31 : decode cX4_set 31 = .ok (.imul, 1) := by decide +kernel
theorem dX4_set_32 : decode cX4_set 32 = .ok (.iload_n 2, 1) := by decide +kernel
theorem dX4_set_33 : decode cX4_set 33 = .ok (.iadd, 1) := by decide +kernel
theorem dX4_set_34 : decode cX4_set 34 = .ok (.aload_n 0, 1) := by decide +kernel
theorem dX4_set_35 : decode cX4_set 35 = .ok (.getfield 7, 3) := by decide +kernel
theorem dX4_set_38 : decode cX4_set 38 = .ok (.iload_n 2, 1) := by decide +kernel
theorem dX4_set_39 : decode cX4_set 39 = .ok (.iaload, 1) := by decide +kernel
theorem dX4_set_40 : decode cX4_set 40 = .ok (.iastore, 1) := by decide +kernel
theorem dX4_set_41 : decode cX4_set 41 = .ok (.iinc 2 1, 3) := by decide +kernel
theorem dX4_set_44 : decode cX4_set 44 = .ok (.goto (-28), 3) := by decide +kernel
theorem dX4_set_47 : decode cX4_set 47 = .ok (.aload_n 0, 1) := by decide +kernel
theorem dX4_set_48 : decode cX4_set 48 = .ok (.getfield 16, 3) := by decide +kernel
theorem dX4_set_51 : decode cX4_set 51 = .ok (.iload_n 1, 1) := by decide +kernel
theorem dX4_set_52 : decode cX4_set 52 = .ok (.aload_n 0, 1) := by decide +kernel
theorem dX4_set_53 : decode cX4_set 53 = .ok (.getfield 46, 3) := by decide +kernel
theorem dX4_set_56 : decode cX4_set 56 = .ok (.iastore, 1) := by decide +kernel
theorem dX4_set_57 : decode cX4_set 57 = .ok (.aload_n 0, 1) := by decide +kernel
theorem dX4_set_58 : decode cX4_set 58 = .ok (.iconst 0, 1) := by decide +kernel
theorem dX4_set_59 : decode cX4_set 59 = .ok (.putfield 46, 3) := by decide +kernel
theorem dX4_set_62 : decode cX4_set 62 = .ok (.aload_n 0, 1) := by decide +kernel
theorem dX4_set_63 : decode cX4_set 63 = .ok (.iconst 1, 1) := by decide +kernel
theorem dX4_set_64 : decode cX4_set 64 = .ok (.iload_n 1, 1) := by decide +kernel
theorem dX4_set_65 : decode cX4_set 65 = .ok (.ishl, 1) := by decide +kernel
theorem dX4_set_66 : decode cX4_set 66 = .ok (.invokevirtual 126, 3) := by decide +kernel
theorem dX4_set_69 : decode cX4_set 69 = .ok (.istore_n 2, 1) := by decide +kernel
theorem dX4_set_70 : decode cX4_set 70 = .ok (.aload_n 0, 1) := by decide +kernel
theorem dX4_set_71 : decode cX4_set 71 = .ok (.dup, 1) := by decide +kernel
theorem dX4_set_72 : decode cX4_set 72 = .ok (.getfield 129, 3) := by decide +kernel
theorem dX4_set_75 : decode cX4_set 75 = .ok (.iload_n 2, 1) := by decide +kernel
theorem dX4_set_76 : decode cX4_set 76 = .ok (.iadd, 1) := by decide +kernel
theorem dX4_set_77 : decode cX4_set 77 = .ok (.putfield 129, 3) := by decide +kernel
theorem dX4_set_80 : decode cX4_set 80 = .ok (.iload_n 2, 1) := by decide +kernel
theorem dX4_set_81 : decode cX4_set 81 = .ok (.ireturn, 1) := by decide +kernel
set_option maxRecDepth 20000 in
theorem ggX4_puts_X4_anew : GoodIn wsX4_puts wsX4_anew := goodIn_ca (goodIn_r _ [8, 9, 10, 11, 7, 12, 13, 14, 15, 16, 1, 2, 17, 18, 19, 20, 21, 22, 23, 24, 25, 26, 27, 28, 29, 30, 31, 32, 33, 34, 35, 36, 37, 38, 39, 40] (by decide +kernel) (by decide +kernel)) (goodIn_sub (fun _ h => List.mem_cons_of_mem _ (List.mem_append_right _ h)) (by decide +kernel))
set_option maxRecDepth 20000 in
theorem gX4_puts_X4_anew : GoodIn wsX4_puts (wsV RX4 126 RX4 yX4_anew wsX4_anew) := goodIn_app (goodIn_of _ (by decide +kernel)) ggX4_puts_X4_anew
theorem dX4_puts_0 : decode cX4_puts 0 = .ok (.aload_n 0, 1) := by decide +kernel
theorem dX4_puts_1 : decode cX4_puts 1 = .ok (.getfield 13, 3) := by decide +kernel
theorem dX4_puts_4 : decode cX4_puts 4 = .ok (.bipush 15, 2) := by decide +kernel
theorem dX4_puts_6 : decode cX4_puts 6 = .ok (.iload_n 1, 1) := by decide +kernel
theorem dX4_puts_7 : decode cX4_puts 7 = .ok (.imul, 1) := by decide +kernel
theorem dX4_puts_8 : decode cX4_puts 8 = .ok (.iload_n 2, 1) := by decide +kernel
theorem dX4_puts_9 : decode cX4_puts 9 = .ok (.iastore, 1) := by decide +kernel
theorem dX4_puts_10 : decode cX4_puts 10 = .ok (.aload_n 0, 1) := by decide +kernel
theorem dX4_puts_11 : decode cX4_puts 11 = .ok (.getfield 16, 3) := by decide +kernel
theorem dX4_puts_14 : decode cX4_puts 14 = .ok (.iload_n 1, 1) := by decide +kernel
theorem dX4_puts_15 : decode cX4_puts 15 = .ok (.iconst 1, 1) := by decide +kernel
theorem dX4_puts_16 : decode cX4_puts 16 = .ok (.iastore, 1) := by decide +kernel
theorem dX4_puts_17 : decode cX4_puts 17 = .ok (.aload_n 0, 1) := by decide +kernel
theorem dX4_puts_18 : decode cX4_puts 18 = .ok (.iconst 1, 1) := by decide +kernel
theorem dX4_puts_19 : decode cX4_puts 19 = .ok (.iload_n 1, 1) := by decide +kernel
theorem dX4_puts_20 : decode cX4_puts 20 = .ok (.ishl, 1) := by decide +kernel
theorem dX4_puts_21 : decode cX4_puts 21 = .ok (.invokevirtual 126, 3) := by decide +kernel
theorem dX4_puts_24 : decode cX4_puts 24 = .ok (.istore_n 3, 1) := by decide +kernel
theorem dX4_puts_25 : decode cX4_puts 25 = .ok (.aload_n 0, 1) := by decide +kernel
theorem dX4_puts_26 : decode cX4_puts 26 = .ok (.dup, 1) := by decide +kernel
theorem dX4_puts_27 : decode cX4_puts 27 = .ok (.getfield 129, 3) := by decide +kernel
theorem dX4_puts_30 : decode cX4_puts 30 = .ok (.iload_n 3, 1) := by decide +kernel
theorem dX4_puts_31 : decode cX4_puts 31 = .ok (.iadd, 1) := by decide +kernel
theorem dX4_puts_32 : decode cX4_puts 32 = .ok (.putfield 129, 3) := by decide +kernel
theorem dX4_puts_35 : decode cX4_puts 35 = .ok (.iload_n 3, 1) := by decide +kernel
theorem dX4_puts_36 : decode cX4_puts 36 = .ok (.ireturn, 1) := by decide +kernel
set_option maxRecDepth 20000 in
theorem ggX4_put_X4_isCell : GoodIn wsX4_put wsX4_isCell := goodIn_r _ [5, 6, 7, 4, 8] (by decide +kernel) (by decide +kernel)
set_option maxRecDepth 20000 in
theorem gX4_put_X4_isCell : GoodIn wsX4_put (va_wsS RX4 62 yX4_isCell wsX4_isCell) := goodIn_app (goodIn_of _ (by decide +kernel)) ggX4_put_X4_isCell
set_option maxRecDepth 20000 in
theorem ggX4_put_X4_in : GoodIn wsX4_put wsX4_in := goodIn_r _ [8] (by decide +kernel) (by decide +kernel)
set_option maxRecDepth 20000 in
theorem gX4_put_X4_in : GoodIn wsX4_put (va_wsS RX4 42 yX4_in wsX4_in) := goodIn_app (goodIn_of _ (by decide +kernel)) ggX4_put_X4_in
set_option maxRecDepth 20000 in
theorem ggX4_put_X4_holds : GoodIn wsX4_put wsX4_holds := goodIn_r _ [12, 13, 38, 39, 40, 41, 42, 43, 44, 45, 46, 47, 48, 49, 50, 51, 52, 53] (by decide +kernel) (by decide +kernel)
set_option maxRecDepth 20000 in
theorem gX4_put_X4_holds : GoodIn wsX4_put (wsV RX4 54 RX4 yX4_holds wsX4_holds) := goodIn_app (goodIn_of _ (by decide +kernel)) ggX4_put_X4_holds
set_option maxRecDepth 20000 in
theorem ggX4_put_X4_puts : GoodIn wsX4_put wsX4_puts := goodIn_ca (goodIn_r _ [17, 18, 19, 20, 21, 22, 23, 4, 24, 25, 26, 27, 28, 29, 30, 31, 32, 33, 34, 35, 36, 37, 6, 7, 8, 38, 39, 40, 41, 42, 43, 44, 45, 46, 47, 48, 49, 50, 51, 52, 53] (by decide +kernel) (by decide +kernel)) (goodIn_sub (fun _ h => List.mem_cons_of_mem _ (List.mem_append_right _ h)) (by decide +kernel))
set_option maxRecDepth 20000 in
theorem gX4_put_X4_puts : GoodIn wsX4_put (wsV RX4 132 RX4 yX4_puts wsX4_puts) := goodIn_app (goodIn_of _ (by decide +kernel)) ggX4_put_X4_puts
theorem dX4_put_0 : decode cX4_put 0 = .ok (.aload_n 0, 1) := by decide +kernel
theorem dX4_put_1 : decode cX4_put 1 = .ok (.iload_n 1, 1) := by decide +kernel
theorem dX4_put_2 : decode cX4_put 2 = .ok (.invokestatic 62, 3) := by decide +kernel
theorem dX4_put_5 : decode cX4_put 5 = .ok (.ifCond .ne 7, 3) := by decide +kernel
theorem dX4_put_8 : decode cX4_put 8 = .ok (.iconst 1, 1) := by decide +kernel
theorem dX4_put_9 : decode cX4_put 9 = .ok (.goto 18, 3) := by decide +kernel
theorem dX4_put_12 : decode cX4_put 12 = .ok (.iload_n 2, 1) := by decide +kernel
theorem dX4_put_13 : decode cX4_put 13 = .ok (.iconst 0, 1) := by decide +kernel
theorem dX4_put_14 : decode cX4_put 14 = .ok (.ldc 49, 2) := by decide +kernel
theorem dX4_put_16 : decode cX4_put 16 = .ok (.invokestatic 42, 3) := by decide +kernel
theorem dX4_put_19 : decode cX4_put 19 = .ok (.ifCond .eq 7, 3) := by decide +kernel
theorem dX4_put_22 : decode cX4_put 22 = .ok (.iconst 0, 1) := by decide +kernel
theorem dX4_put_23 : decode cX4_put 23 = .ok (.goto 4, 3) := by decide +kernel
theorem dX4_put_26 : decode cX4_put 26 = .ok (.iconst 2, 1) := by decide +kernel
theorem dX4_put_27 : decode cX4_put 27 = .ok (.invokevirtual 54, 3) := by decide +kernel
theorem dX4_put_30 : decode cX4_put 30 = .ok (.ifCond .eq 12, 3) := by decide +kernel
theorem dX4_put_33 : decode cX4_put 33 = .ok (.aload_n 0, 1) := by decide +kernel
theorem dX4_put_34 : decode cX4_put 34 = .ok (.iload_n 1, 1) := by decide +kernel
theorem dX4_put_35 : decode cX4_put 35 = .ok (.iload_n 2, 1) := by decide +kernel
theorem dX4_put_36 : decode cX4_put 36 = .ok (.invokevirtual 132, 3) := by decide +kernel
theorem dX4_put_39 : decode cX4_put 39 = .ok (.goto 4, 3) := by decide +kernel
theorem dX4_put_42 : decode cX4_put 42 = .ok (.iconst 0, 1) := by decide +kernel
theorem dX4_put_43 : decode cX4_put 43 = .ok (.ireturn, 1) := by decide +kernel
set_option maxRecDepth 20000 in
theorem ggX4_clear_X4_isCell : GoodIn wsX4_clear wsX4_isCell := goodIn_r _ [6, 7, 8, 5, 9] (by decide +kernel) (by decide +kernel)
set_option maxRecDepth 20000 in
theorem gX4_clear_X4_isCell : GoodIn wsX4_clear (va_wsS RX4 62 yX4_isCell wsX4_isCell) := goodIn_app (goodIn_of _ (by decide +kernel)) ggX4_clear_X4_isCell
set_option maxRecDepth 20000 in
theorem ggX4_clear_X4_holds : GoodIn wsX4_clear wsX4_holds := goodIn_r _ [13, 14, 33, 34, 35, 36, 37, 38, 39, 40, 41, 42, 43, 44, 45, 46, 47, 48] (by decide +kernel) (by decide +kernel)
set_option maxRecDepth 20000 in
theorem gX4_clear_X4_holds : GoodIn wsX4_clear (wsV RX4 54 RX4 yX4_holds wsX4_holds) := goodIn_app (goodIn_of _ (by decide +kernel)) ggX4_clear_X4_holds
set_option maxRecDepth 20000 in
theorem ggX4_clear_X4_anew : GoodIn wsX4_clear wsX4_anew := goodIn_ca (goodIn_r _ [18, 19, 20, 21, 5, 22, 23, 24, 25, 26, 27, 1, 28, 29, 30, 31, 32, 7, 8, 9, 33, 34, 35, 36, 37, 38, 39, 40, 41, 42, 43, 44, 45, 46, 47, 48] (by decide +kernel) (by decide +kernel)) (goodIn_sub (fun _ h => List.mem_cons_of_mem _ (List.mem_append_right _ h)) (by decide +kernel))
set_option maxRecDepth 20000 in
theorem gX4_clear_X4_anew : GoodIn wsX4_clear (wsV RX4 126 RX4 yX4_anew wsX4_anew) := goodIn_app (goodIn_of _ (by decide +kernel)) ggX4_clear_X4_anew
theorem dX4_clear_0 : decode cX4_clear 0 = .ok (.aload_n 0, 1) := by decide +kernel
theorem dX4_clear_1 : decode cX4_clear 1 = .ok (.iload_n 1, 1) := by decide +kernel
theorem dX4_clear_2 : decode cX4_clear 2 = .ok (.invokestatic 62, 3) := by decide +kernel
theorem dX4_clear_5 : decode cX4_clear 5 = .ok (.ifCond .eq 7, 3) := by decide +kernel
theorem dX4_clear_8 : decode cX4_clear 8 = .ok (.iconst 0, 1) := by decide +kernel
theorem dX4_clear_9 : decode cX4_clear 9 = .ok (.goto 4, 3) := by decide +kernel
theorem dX4_clear_12 : decode cX4_clear 12 = .ok (.iconst 1, 1) := by decide +kernel
theorem dX4_clear_13 : decode cX4_clear 13 = .ok (.invokevirtual 54, 3) := by decide +kernel
theorem dX4_clear_16 : decode cX4_clear 16 = .ok (.ifCond .eq 12, 3) := by decide +kernel
theorem dX4_clear_19 : decode cX4_clear 19 = .ok (.aload_n 0, 1) := by decide +kernel
theorem dX4_clear_20 : decode cX4_clear 20 = .ok (.getfield 16, 3) := by decide +kernel
theorem dX4_clear_23 : decode cX4_clear 23 = .ok (.iload_n 1, 1) := by decide +kernel
theorem dX4_clear_24 : decode cX4_clear 24 = .ok (.iaload, 1) := by decide +kernel
theorem dX4_clear_25 : decode cX4_clear 25 = .ok (.ifCond .ne 5, 3) := by decide +kernel
theorem dX4_clear_28 : decode cX4_clear 28 = .ok (.iconst 0, 1) := by decide +kernel
theorem dX4_clear_29 : decode cX4_clear 29 = .ok (.ireturn, 1) := by decide +kernel
theorem dX4_clear_30 : decode cX4_clear 30 = .ok (.aload_n 0, 1) := by decide +kernel
theorem dX4_clear_31 : decode cX4_clear 31 = .ok (.getfield 16, 3) := by decide +kernel
theorem dX4_clear_34 : decode cX4_clear 34 = .ok (.iload_n 1, 1) := by decide +kernel
theorem dX4_clear_35 : decode cX4_clear 35 = .ok (.iconst 0, 1) := by decide +kernel
theorem dX4_clear_36 : decode cX4_clear 36 = .ok (.iastore, 1) := by decide +kernel
theorem dX4_clear_37 : decode cX4_clear 37 = .ok (.aload_n 0, 1) := by decide +kernel
theorem dX4_clear_38 : decode cX4_clear 38 = .ok (.iconst 1, 1) := by decide +kernel
theorem dX4_clear_39 : decode cX4_clear 39 = .ok (.iload_n 1, 1) := by decide +kernel
theorem dX4_clear_40 : decode cX4_clear 40 = .ok (.ishl, 1) := by decide +kernel
theorem dX4_clear_41 : decode cX4_clear 41 = .ok (.invokevirtual 126, 3) := by decide +kernel
theorem dX4_clear_44 : decode cX4_clear 44 = .ok (.istore_n 2, 1) := by decide +kernel
theorem dX4_clear_45 : decode cX4_clear 45 = .ok (.aload_n 0, 1) := by decide +kernel
theorem dX4_clear_46 : decode cX4_clear 46 = .ok (.dup, 1) := by decide +kernel
theorem dX4_clear_47 : decode cX4_clear 47 = .ok (.getfield 129, 3) := by decide +kernel
theorem dX4_clear_50 : decode cX4_clear 50 = .ok (.iload_n 2, 1) := by decide +kernel
theorem dX4_clear_51 : decode cX4_clear 51 = .ok (.iadd, 1) := by decide +kernel
theorem dX4_clear_52 : decode cX4_clear 52 = .ok (.putfield 129, 3) := by decide +kernel
theorem dX4_clear_55 : decode cX4_clear 55 = .ok (.iload_n 2, 1) := by decide +kernel
theorem dX4_clear_56 : decode cX4_clear 56 = .ok (.ireturn, 1) := by decide +kernel
set_option maxRecDepth 20000 in
theorem ggX4_open_X4_holds : GoodIn wsX4_open wsX4_holds := goodIn_r _ [10, 11, 12, 13, 14, 15, 16, 17, 18, 19, 20, 21, 22, 23, 24, 25, 26, 27] (by decide +kernel) (by decide +kernel)
set_option maxRecDepth 20000 in
theorem gX4_open_X4_holds : GoodIn wsX4_open (wsV RX4 54 RX4 yX4_holds wsX4_holds) := goodIn_app (goodIn_of _ (by decide +kernel)) ggX4_open_X4_holds
theorem dX4_open_0 : decode cX4_open 0 = .ok (.aload_n 0, 1) := by decide +kernel
theorem dX4_open_1 : decode cX4_open 1 = .ok (.aload_n 0, 1) := by decide +kernel
theorem dX4_open_2 : decode cX4_open 2 = .ok (.getfield 136, 3) := by decide +kernel
theorem dX4_open_5 : decode cX4_open 5 = .ok (.iconst 4, 1) := by decide +kernel
theorem dX4_open_6 : decode cX4_open 6 = .ok (.if_icmp .ne 7, 3) := by decide +kernel
theorem dX4_open_9 : decode cX4_open 9 = .ok (.iconst 1, 1) := by decide +kernel
theorem dX4_open_10 : decode cX4_open 10 = .ok (.goto 4, 3) := by decide +kernel
theorem dX4_open_13 : decode cX4_open 13 = .ok (.iconst 0, 1) := by decide +kernel
theorem dX4_open_14 : decode cX4_open 14 = .ok (.invokevirtual 54, 3) := by decide +kernel
theorem dX4_open_17 : decode cX4_open 17 = .ok (.ifCond .ne 5, 3) := by decide +kernel
theorem dX4_open_20 : decode cX4_open 20 = .ok (.iconst 0, 1) := by decide +kernel
theorem dX4_open_21 : decode cX4_open 21 = .ok (.ireturn, 1) := by decide +kernel
theorem dX4_open_22 : decode cX4_open 22 = .ok (.iconst 0, 1) := by decide +kernel
theorem dX4_open_23 : decode cX4_open 23 = .ok (.istore_n 1, 1) := by decide +kernel
theorem dX4_open_24 : decode cX4_open 24 = .ok (.iload_n 1, 1) := by decide +kernel
theorem dX4_open_25 : decode cX4_open 25 = .ok (.sipush 450, 3) := by decide +kernel
theorem dX4_open_28 : decode cX4_open 28 = .ok (.if_icmp .ge 30, 3) := by decide +kernel
theorem dX4_open_31 : decode cX4_open 31 = .ok (.aload_n 0, 1) := by decide +kernel
theorem dX4_open_32 : decode cX4_open 32 = .ok (.getfield 19, 3) := by decide +kernel
theorem dX4_open_35 : decode cX4_open 35 = .ok (.sipush 450, 3) := by decide +kernel
theorem dX4_open_38 : decode cX4_open 38 = .ok (.aload_n 0, 1) := by decide +kernel
theorem dX4_open_39 : decode cX4_open 39 = .ok (.getfield 136, 3) := by decide +kernel
theorem dX4_open_42 : decode cX4_open 42 = .ok (.imul, 1) := by decide +kernel
theorem dX4_open_43 : decode cX4_open 43 = .ok (.iload_n 1, 1) := by decide +kernel
theorem dX4_open_44 : decode cX4_open 44 = .ok (.iadd, 1) := by decide +kernel
theorem dX4_open_45 : decode cX4_open 45 = .ok (.aload_n 0, 1) := by decide +kernel
theorem dX4_open_46 : decode cX4_open 46 = .ok (.getfield 13, 3) := by decide +kernel
theorem dX4_open_49 : decode cX4_open 49 = .ok (.iload_n 1, 1) := by decide +kernel
theorem dX4_open_50 : decode cX4_open 50 = .ok (.iaload, 1) := by decide +kernel
theorem dX4_open_51 : decode cX4_open 51 = .ok (.iastore, 1) := by decide +kernel
theorem dX4_open_52 : decode cX4_open 52 = .ok (.iinc 1 1, 3) := by decide +kernel
theorem dX4_open_55 : decode cX4_open 55 = .ok (.goto (-31), 3) := by decide +kernel
theorem dX4_open_58 : decode cX4_open 58 = .ok (.iconst 0, 1) := by decide +kernel
theorem dX4_open_59 : decode cX4_open 59 = .ok (.istore_n 1, 1) := by decide +kernel
theorem dX4_open_60 : decode cX4_open 60 = .ok (.iload_n 1, 1) := by decide +kernel
theorem dX4_open_61 : decode cX4_open 61 = .ok (.bipush 30, 2) := by decide +kernel
theorem dX4_open_63 : decode cX4_open 63 = .ok (.if_icmp .ge 29, 3) := by decide +kernel
theorem dX4_open_66 : decode cX4_open 66 = .ok (.aload_n 0, 1) := by decide +kernel
theorem dX4_open_67 : decode cX4_open 67 = .ok (.getfield 22, 3) := by decide +kernel
theorem dX4_open_70 : decode cX4_open 70 = .ok (.bipush 30, 2) := by decide +kernel
theorem dX4_open_72 : decode cX4_open 72 = .ok (.aload_n 0, 1) := by decide +kernel
theorem dX4_open_73 : decode cX4_open 73 = .ok (.getfield 136, 3) := by decide +kernel
theorem dX4_open_76 : decode cX4_open 76 = .ok (.imul, 1) := by decide +kernel
theorem dX4_open_77 : decode cX4_open 77 = .ok (.iload_n 1, 1) := by decide +kernel
theorem dX4_open_78 : decode cX4_open 78 = .ok (.iadd, 1) := by decide +kernel
theorem dX4_open_79 : decode cX4_open 79 = .ok (.aload_n 0, 1) := by decide +kernel
theorem dX4_open_80 : decode cX4_open 80 = .ok (.getfield 16, 3) := by decide +kernel
theorem dX4_open_83 : decode cX4_open 83 = .ok (.iload_n 1, 1) := by decide +kernel
theorem dX4_open_84 : decode cX4_open 84 = .ok (.iaload, 1) := by decide +kernel
theorem dX4_open_85 : decode cX4_open 85 = .ok (.iastore, 1) := by decide +kernel
theorem dX4_open_86 : decode cX4_open 86 = .ok (.iinc 1 1, 3) := by decide +kernel
theorem dX4_open_89 : decode cX4_open 89 = .ok (.goto (-29), 3) := by decide +kernel
theorem dX4_open_92 : decode cX4_open 92 = .ok (.aload_n 0, 1) := by decide +kernel
theorem dX4_open_93 : decode cX4_open 93 = .ok (.dup, 1) := by decide +kernel
theorem dX4_open_94 : decode cX4_open 94 = .ok (.getfield 136, 3) := by decide +kernel
theorem dX4_open_97 : decode cX4_open 97 = .ok (.iconst 1, 1) := by decide +kernel
theorem dX4_open_98 : decode cX4_open 98 = .ok (.iadd, 1) := by decide +kernel
theorem dX4_open_99 : decode cX4_open 99 = .ok (.putfield 136, 3) := by decide +kernel
theorem dX4_open_102 : decode cX4_open 102 = .ok (.aload_n 0, 1) := by decide +kernel
theorem dX4_open_103 : decode cX4_open 103 = .ok (.getfield 136, 3) := by decide +kernel
theorem dX4_open_106 : decode cX4_open 106 = .ok (.ireturn, 1) := by decide +kernel
theorem dX4_isOther_0 : decode cX4_isOther 0 = .ok (.aload_n 0, 1) := by decide +kernel
theorem dX4_isOther_1 : decode cX4_isOther 1 = .ok (.getfield 16, 3) := by decide +kernel
theorem dX4_isOther_4 : decode cX4_isOther 4 = .ok (.iload_n 1, 1) := by decide +kernel
theorem dX4_isOther_5 : decode cX4_isOther 5 = .ok (.iaload, 1) := by decide +kernel
theorem dX4_isOther_6 : decode cX4_isOther 6 = .ok (.aload_n 0, 1) := by decide +kernel
theorem dX4_isOther_7 : decode cX4_isOther 7 = .ok (.getfield 22, 3) := by decide +kernel
theorem dX4_isOther_10 : decode cX4_isOther 10 = .ok (.bipush 30, 2) := by decide +kernel
theorem dX4_isOther_12 : decode cX4_isOther 12 = .ok (.aload_n 0, 1) := by decide +kernel
theorem dX4_isOther_13 : decode cX4_isOther 13 = .ok (.getfield 136, 3) := by decide +kernel
theorem dX4_isOther_16 : decode cX4_isOther 16 = .ok (.imul, 1) := by decide +kernel
theorem dX4_isOther_17 : decode cX4_isOther 17 = .ok (.iload_n 1, 1) := by decide +kernel
theorem dX4_isOther_18 : decode cX4_isOther 18 = .ok (.iadd, 1) := by decide +kernel
theorem dX4_isOther_19 : decode cX4_isOther 19 = .ok (.iaload, 1) := by decide +kernel
theorem dX4_isOther_20 : decode cX4_isOther 20 = .ok (.if_icmp .eq 7, 3) := by decide +kernel
theorem dX4_isOther_23 : decode cX4_isOther 23 = .ok (.iconst 1, 1) := by decide +kernel
theorem dX4_isOther_24 : decode cX4_isOther 24 = .ok (.goto 4, 3) := by decide +kernel
theorem dX4_isOther_27 : decode cX4_isOther 27 = .ok (.iconst 0, 1) := by decide +kernel
theorem dX4_isOther_28 : decode cX4_isOther 28 = .ok (.istore_n 2, 1) := by decide +kernel
theorem dX4_isOther_29 : decode cX4_isOther 29 = .ok (.iconst 0, 1) := by decide +kernel
theorem dX4_isOther_30 : decode cX4_isOther 30 = .ok (.istore_n 3, 1) := by decide +kernel
theorem dX4_isOther_31 : decode cX4_isOther 31 = .ok (.iload_n 3, 1) := by decide +kernel
theorem dX4_isOther_32 : decode cX4_isOther 32 = .ok (.aload_n 0, 1) := by decide +kernel
theorem dX4_isOther_33 : decode cX4_isOther 33 = .ok (.getfield 16, 3) := by decide +kernel
theorem dX4_isOther_36 : decode cX4_isOther 36 = .ok (.iload_n 1, 1) := by decide +kernel
theorem dX4_isOther_37 : decode cX4_isOther 37 = .ok (.iaload, 1) := by decide +kernel
theorem dX4_isOther_38 : decode cX4_isOther 38 = .ok (.if_icmp .ge 53, 3) := by decide +kernel
theorem dX4_isOther_41 : decode cX4_isOther 41 = .ok (.iload_n 2, 1) := by decide +kernel
theorem dX4_isOther_42 : decode cX4_isOther 42 = .ok (.ifCond .ne 37, 3) := by decide +kernel
theorem dX4_isOther_45 : decode cX4_isOther 45 = .ok (.aload_n 0, 1) := by decide +kernel
theorem dX4_isOther_46 : decode cX4_isOther 46 = .ok (.getfield 13, 3) := by decide +kernel
theorem dX4_isOther_49 : decode cX4_isOther 49 = .ok (.bipush 15, 2) := by decide +kernel
theorem dX4_isOther_51 : decode cX4_isOther 51 = .ok (.iload_n 1, 1) := by decide +kernel
theorem dX4_isOther_52 : decode cX4_isOther 52 = .ok (.imul, 1) := by decide +kernel
theorem dX4_isOther_53 : decode cX4_isOther 53 = .ok (.iload_n 3, 1) := by decide +kernel
theorem dX4_isOther_54 : decode cX4_isOther 54 = .ok (.iadd, 1) := by decide +kernel
theorem dX4_isOther_55 : decode cX4_isOther 55 = .ok (.iaload, 1) := by decide +kernel
theorem dX4_isOther_56 : decode cX4_isOther 56 = .ok (.aload_n 0, 1) := by decide +kernel
theorem dX4_isOther_57 : decode cX4_isOther 57 = .ok (.getfield 19, 3) := by decide +kernel
theorem dX4_isOther_60 : decode cX4_isOther 60 = .ok (.sipush 450, 3) := by decide +kernel
theorem dX4_isOther_63 : decode cX4_isOther 63 = .ok (.aload_n 0, 1) := by decide +kernel
theorem dX4_isOther_64 : decode cX4_isOther 64 = .ok (.getfield 136, 3) := by decide +kernel
theorem dX4_isOther_67 : decode cX4_isOther 67 = .ok (.imul, 1) := by decide +kernel
theorem dX4_isOther_68 : decode cX4_isOther 68 = .ok (.bipush 15, 2) := by decide +kernel
theorem dX4_isOther_70 : decode cX4_isOther 70 = .ok (.iload_n 1, 1) := by decide +kernel
theorem dX4_isOther_71 : decode cX4_isOther 71 = .ok (.imul, 1) := by decide +kernel
theorem dX4_isOther_72 : decode cX4_isOther 72 = .ok (.iadd, 1) := by decide +kernel
theorem dX4_isOther_73 : decode cX4_isOther 73 = .ok (.iload_n 3, 1) := by decide +kernel
theorem dX4_isOther_74 : decode cX4_isOther 74 = .ok (.iadd, 1) := by decide +kernel
theorem dX4_isOther_75 : decode cX4_isOther 75 = .ok (.iaload, 1) := by decide +kernel
theorem dX4_isOther_76 : decode cX4_isOther 76 = .ok (.if_icmp .eq 7, 3) := by decide +kernel
theorem dX4_isOther_79 : decode cX4_isOther 79 = .ok (.iconst 1, 1) := by decide +kernel
theorem dX4_isOther_80 : decode cX4_isOther 80 = .ok (.goto 4, 3) := by decide +kernel
theorem dX4_isOther_83 : decode cX4_isOther 83 = .ok (.iconst 0, 1) := by decide +kernel
theorem dX4_isOther_84 : decode cX4_isOther 84 = .ok (.istore_n 2, 1) := by decide +kernel
theorem dX4_isOther_85 : decode cX4_isOther 85 = .ok (.iinc 3 1, 3) := by decide +kernel
theorem dX4_isOther_88 : decode cX4_isOther 88 = .ok (.goto (-57), 3) := by decide +kernel
theorem dX4_isOther_91 : decode cX4_isOther 91 = .ok (.iload_n 2, 1) := by decide +kernel
theorem dX4_isOther_92 : decode cX4_isOther 92 = .ok (.ireturn, 1) := by decide +kernel
set_option maxRecDepth 20000 in
theorem ggX4_drop_X4_holds : GoodIn wsX4_drop wsX4_holds := goodIn_r _ [11, 12, 37, 38, 39, 40, 41, 42, 43, 44, 45, 46, 47, 48, 49, 50, 51, 52] (by decide +kernel) (by decide +kernel)
set_option maxRecDepth 20000 in
theorem gX4_drop_X4_holds : GoodIn wsX4_drop (wsV RX4 54 RX4 yX4_holds wsX4_holds) := goodIn_app (goodIn_of _ (by decide +kernel)) ggX4_drop_X4_holds
set_option maxRecDepth 20000 in
theorem ggX4_drop_X4_isOther : GoodIn wsX4_drop wsX4_isOther := goodIn_ca (goodIn_r _ [16, 4, 5, 1, 2, 3, 37, 38, 39, 40, 41, 42, 43, 44, 45, 46, 47, 48, 49, 50, 51, 52] (by decide +kernel) (by decide +kernel)) (goodIn_sub (fun _ h => List.mem_cons_of_mem _ (List.mem_append_right _ h)) (by decide +kernel))
set_option maxRecDepth 20000 in
theorem gX4_drop_X4_isOther : GoodIn wsX4_drop (wsV RX4 139 RX4 yX4_isOther wsX4_isOther) := goodIn_app (goodIn_of _ (by decide +kernel)) ggX4_drop_X4_isOther
set_option maxRecDepth 20000 in
theorem ggX4_drop_X4_anew : GoodIn wsX4_drop wsX4_anew := goodIn_ca (goodIn_r _ [20, 21, 22, 23, 10, 24, 25, 26, 27, 28, 2, 4, 29, 30, 31, 32, 33, 34, 35, 36, 37, 38, 39, 40, 41, 42, 43, 44, 45, 46, 47, 48, 49, 50, 51, 52] (by decide +kernel) (by decide +kernel)) (goodIn_sub (fun _ h => List.mem_cons_of_mem _ (List.mem_append_right _ h)) (by decide +kernel))
set_option maxRecDepth 20000 in
theorem gX4_drop_X4_anew : GoodIn wsX4_drop (wsV RX4 126 RX4 yX4_anew wsX4_anew) := goodIn_app (goodIn_of _ (by decide +kernel)) ggX4_drop_X4_anew
theorem dX4_drop_0 : decode cX4_drop 0 = .ok (.aload_n 0, 1) := by decide +kernel
theorem dX4_drop_1 : decode cX4_drop 1 = .ok (.aload_n 0, 1) := by decide +kernel
theorem dX4_drop_2 : decode cX4_drop 2 = .ok (.getfield 136, 3) := by decide +kernel
theorem dX4_drop_5 : decode cX4_drop 5 = .ok (.ifCond .ne 7, 3) := by decide +kernel
theorem dX4_drop_8 : decode cX4_drop 8 = .ok (.iconst 1, 1) := by decide +kernel
theorem dX4_drop_9 : decode cX4_drop 9 = .ok (.goto 4, 3) := by decide +kernel
theorem dX4_drop_12 : decode cX4_drop 12 = .ok (.iconst 0, 1) := by decide +kernel
theorem dX4_drop_13 : decode cX4_drop 13 = .ok (.invokevirtual 54, 3) := by decide +kernel
theorem dX4_drop_16 : decode cX4_drop 16 = .ok (.ifCond .ne 5, 3) := by decide +kernel
theorem dX4_drop_19 : decode cX4_drop 19 = .ok (.iconst 0, 1) := by decide +kernel
theorem dX4_drop_20 : decode cX4_drop 20 = .ok (.ireturn, 1) := by decide +kernel
theorem dX4_drop_21 : decode cX4_drop 21 = .ok (.aload_n 0, 1) := by decide +kernel
theorem dX4_drop_22 : decode cX4_drop 22 = .ok (.dup, 1) := by decide +kernel
theorem dX4_drop_23 : decode cX4_drop 23 = .ok (.getfield 136, 3) := by decide +kernel
theorem dX4_drop_26 : decode cX4_drop 26 = .ok (.iconst 1, 1) := by decide +kernel
theorem dX4_drop_27 : decode cX4_drop 27 = .ok (.isub, 1) := by decide +kernel
theorem dX4_drop_28 : decode cX4_drop 28 = .ok (.putfield 136, 3) := by decide +kernel
theorem dX4_drop_31 : decode cX4_drop 31 = .ok (.iconst 0, 1) := by decide +kernel
theorem dX4_drop_32 : decode cX4_drop 32 = .ok (.istore_n 1, 1) := by decide +kernel
theorem dX4_drop_33 : decode cX4_drop 33 = .ok (.iconst 0, 1) := by decide +kernel
theorem dX4_drop_34 : decode cX4_drop 34 = .ok (.istore_n 2, 1) := by decide +kernel
theorem dX4_drop_35 : decode cX4_drop 35 = .ok (.iconst 0, 1) := by decide +kernel
theorem dX4_drop_36 : decode cX4_drop 36 = .ok (.istore_n 3, 1) := by decide +kernel
theorem dX4_drop_37 : decode cX4_drop 37 = .ok (.iload_n 3, 1) := by decide +kernel
theorem dX4_drop_38 : decode cX4_drop 38 = .ok (.bipush 30, 2) := by decide +kernel
theorem dX4_drop_40 : decode cX4_drop 40 = .ok (.if_icmp .ge 26, 3) := by decide +kernel
theorem dX4_drop_43 : decode cX4_drop 43 = .ok (.aload_n 0, 1) := by decide +kernel
theorem dX4_drop_44 : decode cX4_drop 44 = .ok (.iload_n 3, 1) := by decide +kernel
theorem dX4_drop_45 : decode cX4_drop 45 = .ok (.invokevirtual 139, 3) := by decide +kernel
theorem dX4_drop_48 : decode cX4_drop 48 = .ok (.ifCond .eq 12, 3) := by decide +kernel
theorem dX4_drop_51 : decode cX4_drop 51 = .ok (.iload_n 1, 1) := by decide +kernel
theorem dX4_drop_52 : decode cX4_drop 52 = .ok (.iconst 1, 1) := by decide +kernel
theorem dX4_drop_53 : decode cX4_drop 53 = .ok (.iload_n 3, 1) := by decide +kernel
theorem dX4_drop_54 : decode cX4_drop 54 = .ok (.ishl, 1) := by decide +kernel
theorem dX4_drop_55 : decode cX4_drop 55 = .ok (.ior, 1) := by decide +kernel
theorem dX4_drop_56 : decode cX4_drop 56 = .ok (.istore_n 1, 1) := by decide +kernel
theorem dX4_drop_57 : decode cX4_drop 57 = .ok (.iinc 2 1, 3) := by decide +kernel
theorem dX4_drop_60 : decode cX4_drop 60 = .ok (.iinc 3 1, 3) := by decide +kernel
theorem dX4_drop_63 : decode cX4_drop 63 = .ok (.goto (-26), 3) := by decide +kernel
theorem dX4_drop_66 : decode cX4_drop 66 = .ok (.iconst 0, 1) := by decide +kernel
theorem dX4_drop_67 : decode cX4_drop 67 = .ok (.istore_n 3, 1) := by decide +kernel
theorem dX4_drop_68 : decode cX4_drop 68 = .ok (.iload_n 3, 1) := by decide +kernel
theorem dX4_drop_69 : decode cX4_drop 69 = .ok (.sipush 450, 3) := by decide +kernel
theorem dX4_drop_72 : decode cX4_drop 72 = .ok (.if_icmp .ge 30, 3) := by decide +kernel
theorem dX4_drop_75 : decode cX4_drop 75 = .ok (.aload_n 0, 1) := by decide +kernel
theorem dX4_drop_76 : decode cX4_drop 76 = .ok (.getfield 13, 3) := by decide +kernel
theorem dX4_drop_79 : decode cX4_drop 79 = .ok (.iload_n 3, 1) := by decide +kernel
theorem dX4_drop_80 : decode cX4_drop 80 = .ok (.aload_n 0, 1) := by decide +kernel
theorem dX4_drop_81 : decode cX4_drop 81 = .ok (.getfield 19, 3) := by decide +kernel
theorem dX4_drop_84 : decode cX4_drop 84 = .ok (.sipush 450, 3) := by decide +kernel
theorem dX4_drop_87 : decode cX4_drop 87 = .ok (.aload_n 0, 1) := by decide +kernel
theorem dX4_drop_88 : decode cX4_drop 88 = .ok (.getfield 136, 3) := by decide +kernel
theorem dX4_drop_91 : decode cX4_drop 91 = .ok (.imul, 1) := by decide +kernel
theorem dX4_drop_92 : decode cX4_drop 92 = .ok (.iload_n 3, 1) := by decide +kernel
theorem dX4_drop_93 : decode cX4_drop 93 = .ok (.iadd, 1) := by decide +kernel
theorem dX4_drop_94 : decode cX4_drop 94 = .ok (.iaload, 1) := by decide +kernel
theorem dX4_drop_95 : decode cX4_drop 95 = .ok (.iastore, 1) := by decide +kernel
theorem dX4_drop_96 : decode cX4_drop 96 = .ok (.iinc 3 1, 3) := by decide +kernel
theorem dX4_drop_99 : decode cX4_drop 99 = .ok (.goto (-31), 3) := by decide +kernel
theorem dX4_drop_102 : decode cX4_drop 102 = .ok (.iconst 0, 1) := by decide +kernel
theorem dX4_drop_103 : decode cX4_drop 103 = .ok (.istore_n 3, 1) := by decide +kernel
theorem dX4_drop_104 : decode cX4_drop 104 = .ok (.iload_n 3, 1) := by decide +kernel
theorem dX4_drop_105 : decode cX4_drop 105 = .ok (.bipush 30, 2) := by decide +kernel
theorem dX4_drop_107 : decode cX4_drop 107 = .ok (.if_icmp .ge 29, 3) := by decide +kernel
theorem dX4_drop_110 : decode cX4_drop 110 = .ok (.aload_n 0, 1) := by decide +kernel
theorem dX4_drop_111 : decode cX4_drop 111 = .ok (.getfield 16, 3) := by decide +kernel
theorem dX4_drop_114 : decode cX4_drop 114 = .ok (.iload_n 3, 1) := by decide +kernel
theorem dX4_drop_115 : decode cX4_drop 115 = .ok (.aload_n 0, 1) := by decide +kernel
theorem dX4_drop_116 : decode cX4_drop 116 = .ok (.getfield 22, 3) := by decide +kernel
theorem dX4_drop_119 : decode cX4_drop 119 = .ok (.bipush 30, 2) := by decide +kernel
theorem dX4_drop_121 : decode cX4_drop 121 = .ok (.aload_n 0, 1) := by decide +kernel
theorem dX4_drop_122 : decode cX4_drop 122 = .ok (.getfield 136, 3) := by decide +kernel
theorem dX4_drop_125 : decode cX4_drop 125 = .ok (.imul, 1) := by decide +kernel
theorem dX4_drop_126 : decode cX4_drop 126 = .ok (.iload_n 3, 1) := by decide +kernel
theorem dX4_drop_127 : decode cX4_drop 127 = .ok (.iadd, 1) := by decide +kernel
theorem dX4_drop_128 : decode cX4_drop 128 = .ok (.iaload, 1) := by decide +kernel
theorem dX4_drop_129 : decode cX4_drop 129 = .ok (.iastore, 1) := by decide +kernel
theorem dX4_drop_130 : decode cX4_drop 130 = .ok (.iinc 3 1, 3) := by decide +kernel
theorem dX4_drop_133 : decode cX4_drop 133 = .ok (.goto (-29), 3) := by decide +kernel
theorem dX4_drop_136 : decode cX4_drop 136 = .ok (.aload_n 0, 1) := by decide +kernel
theorem dX4_drop_137 : decode cX4_drop 137 = .ok (.dup, 1) := by decide +kernel
theorem dX4_drop_138 : decode cX4_drop 138 = .ok (.getfield 129, 3) := by decide +kernel
theorem dX4_drop_141 : decode cX4_drop 141 = .ok (.aload_n 0, 1) := by decide +kernel
theorem dX4_drop_142 : decode cX4_drop 142 = .ok (.iload_n 1, 1) := by decide +kernel
theorem dX4_drop_143 : decode cX4_drop 143 = .ok (.invokevirtual 126, 3) := by decide +kernel
theorem dX4_drop_146 : decode cX4_drop 146 = .ok (.iadd, 1) := by decide +kernel
theorem dX4_drop_147 : decode cX4_drop 147 = .ok (.putfield 129, 3) := by decide +kernel
theorem dX4_drop_150 : decode cX4_drop 150 = .ok (.iload_n 2, 1) := by decide +kernel
theorem dX4_drop_151 : decode cX4_drop 151 = .ok (.ireturn, 1) := by decide +kernel
set_option maxRecDepth 20000 in
theorem ggX4_keep_X4_holds : GoodIn wsX4_keep wsX4_holds := goodIn_r _ [6, 7, 8, 9, 10, 11, 12, 13, 14, 15, 16, 17, 18, 19, 20, 21, 22, 23] (by decide +kernel) (by decide +kernel)
set_option maxRecDepth 20000 in
theorem gX4_keep_X4_holds : GoodIn wsX4_keep (wsV RX4 54 RX4 yX4_holds wsX4_holds) := goodIn_app (goodIn_of _ (by decide +kernel)) ggX4_keep_X4_holds
theorem dX4_keep_0 : decode cX4_keep 0 = .ok (.aload_n 0, 1) := by decide +kernel
theorem dX4_keep_1 : decode cX4_keep 1 = .ok (.aload_n 0, 1) := by decide +kernel
theorem dX4_keep_2 : decode cX4_keep 2 = .ok (.getfield 136, 3) := by decide +kernel
theorem dX4_keep_5 : decode cX4_keep 5 = .ok (.ifCond .ne 7, 3) := by decide +kernel
theorem dX4_keep_8 : decode cX4_keep 8 = .ok (.iconst 1, 1) := by decide +kernel
theorem dX4_keep_9 : decode cX4_keep 9 = .ok (.goto 4, 3) := by decide +kernel
theorem dX4_keep_12 : decode cX4_keep 12 = .ok (.iconst 0, 1) := by decide +kernel
theorem dX4_keep_13 : decode cX4_keep 13 = .ok (.invokevirtual 54, 3) := by decide +kernel
theorem dX4_keep_16 : decode cX4_keep 16 = .ok (.ifCond .ne 5, 3) := by decide +kernel
theorem dX4_keep_19 : decode cX4_keep 19 = .ok (.iconst 0, 1) := by decide +kernel
theorem dX4_keep_20 : decode cX4_keep 20 = .ok (.ireturn, 1) := by decide +kernel
theorem dX4_keep_21 : decode cX4_keep 21 = .ok (.aload_n 0, 1) := by decide +kernel
theorem dX4_keep_22 : decode cX4_keep 22 = .ok (.dup, 1) := by decide +kernel
theorem dX4_keep_23 : decode cX4_keep 23 = .ok (.getfield 136, 3) := by decide +kernel
theorem dX4_keep_26 : decode cX4_keep 26 = .ok (.iconst 1, 1) := by decide +kernel
theorem dX4_keep_27 : decode cX4_keep 27 = .ok (.isub, 1) := by decide +kernel
theorem dX4_keep_28 : decode cX4_keep 28 = .ok (.putfield 136, 3) := by decide +kernel
theorem dX4_keep_31 : decode cX4_keep 31 = .ok (.aload_n 0, 1) := by decide +kernel
theorem dX4_keep_32 : decode cX4_keep 32 = .ok (.getfield 136, 3) := by decide +kernel
theorem dX4_keep_35 : decode cX4_keep 35 = .ok (.ireturn, 1) := by decide +kernel
theorem dX4_layers_0 : decode cX4_layers 0 = .ok (.aload_n 0, 1) := by decide +kernel
theorem dX4_layers_1 : decode cX4_layers 1 = .ok (.iconst 0, 1) := by decide +kernel
theorem dX4_layers_2 : decode cX4_layers 2 = .ok (.putfield 38, 3) := by decide +kernel
theorem dX4_layers_5 : decode cX4_layers 5 = .ok (.aload_n 0, 1) := by decide +kernel
theorem dX4_layers_6 : decode cX4_layers 6 = .ok (.getfield 136, 3) := by decide +kernel
theorem dX4_layers_9 : decode cX4_layers 9 = .ok (.ireturn, 1) := by decide +kernel
theorem dX4_drafted_0 : decode cX4_drafted 0 = .ok (.aload_n 0, 1) := by decide +kernel
theorem dX4_drafted_1 : decode cX4_drafted 1 = .ok (.iconst 0, 1) := by decide +kernel
theorem dX4_drafted_2 : decode cX4_drafted 2 = .ok (.putfield 38, 3) := by decide +kernel
theorem dX4_drafted_5 : decode cX4_drafted 5 = .ok (.aload_n 0, 1) := by decide +kernel
theorem dX4_drafted_6 : decode cX4_drafted 6 = .ok (.getfield 46, 3) := by decide +kernel
theorem dX4_drafted_9 : decode cX4_drafted 9 = .ok (.ireturn, 1) := by decide +kernel
set_option maxRecDepth 20000 in
theorem ggX4_errorOfValue_X4_worksAll : GoodIn wsX4_errorOfValue wsX4_worksAll := goodIn_ca (goodIn_ca (goodIn_r _ [6, 1, 7, 8, 9, 5, 10, 11, 12, 13, 14, 15, 16, 17, 18, 19, 20, 21, 22, 23, 24, 25, 26, 27, 28, 29, 30, 31, 32, 33, 34, 35, 36, 37, 38, 39, 40, 41, 42, 43, 44, 45, 46, 47, 48, 49, 50, 51, 52, 53, 54, 55, 56, 57, 58, 62, 63, 64, 65, 66, 67, 68, 69, 70, 71, 72, 73, 74, 75, 76, 77] (by decide +kernel) (by decide +kernel)) (goodIn_sub (fun _ h => List.mem_cons_of_mem _ (List.mem_append_left _ (List.mem_append_right _ h))) (by decide +kernel))) (goodIn_sub (fun _ h => List.mem_cons_of_mem _ (List.mem_append_right _ h)) (by decide +kernel))
set_option maxRecDepth 20000 in
theorem gX4_errorOfValue_X4_worksAll : GoodIn wsX4_errorOfValue (wsV RX4 142 RX4 yX4_worksAll wsX4_worksAll) := goodIn_app (goodIn_of _ (by decide +kernel)) ggX4_errorOfValue_X4_worksAll
set_option maxRecDepth 20000 in
theorem ggX4_errorOfValue_X4_isCell : GoodIn wsX4_errorOfValue wsX4_isCell := goodIn_r _ [61, 18, 19, 5, 20] (by decide +kernel) (by decide +kernel)
set_option maxRecDepth 20000 in
theorem gX4_errorOfValue_X4_isCell : GoodIn wsX4_errorOfValue (va_wsS RX4 62 yX4_isCell wsX4_isCell) := goodIn_app (goodIn_of _ (by decide +kernel)) ggX4_errorOfValue_X4_isCell
theorem dX4_errorOfValue_0 : decode cX4_errorOfValue 0 = .ok (.aload_n 0, 1) := by decide +kernel
theorem dX4_errorOfValue_1 : decode cX4_errorOfValue 1 = .ok (.invokevirtual 142, 3) := by decide +kernel
theorem dX4_errorOfValue_4 : decode cX4_errorOfValue 4 = .ok (.iload_n 1, 1) := by decide +kernel
theorem dX4_errorOfValue_5 : decode cX4_errorOfValue 5 = .ok (.invokestatic 62, 3) := by decide +kernel
theorem dX4_errorOfValue_8 : decode cX4_errorOfValue 8 = .ok (.ifCond .ne 7, 3) := by decide +kernel
theorem dX4_errorOfValue_11 : decode cX4_errorOfValue 11 = .ok (.iconst 1, 1) := by decide +kernel
theorem dX4_errorOfValue_12 : decode cX4_errorOfValue 12 = .ok (.goto 18, 3) := by decide +kernel
theorem dX4_errorOfValue_15 : decode cX4_errorOfValue 15 = .ok (.aload_n 0, 1) := by decide +kernel
theorem dX4_errorOfValue_16 : decode cX4_errorOfValue 16 = .ok (.getfield 29, 3) := by decide +kernel
theorem dX4_errorOfValue_19 : decode cX4_errorOfValue 19 = .ok (.iload_n 1, 1) := by decide +kernel
theorem dX4_errorOfValue_20 : decode cX4_errorOfValue 20 = .ok (.iaload, 1) := by decide +kernel
theorem dX4_errorOfValue_21 : decode cX4_errorOfValue 21 = .ok (.iconst 2, 1) := by decide +kernel
theorem dX4_errorOfValue_22 : decode cX4_errorOfValue 22 = .ok (.if_icmp .ne 7, 3) := by decide +kernel
theorem dX4_errorOfValue_25 : decode cX4_errorOfValue 25 = .ok (.iconst 2, 1) := by decide +kernel
theorem dX4_errorOfValue_26 : decode cX4_errorOfValue 26 = .ok (.goto 4, 3) := by decide +kernel
theorem dX4_errorOfValue_29 : decode cX4_errorOfValue 29 = .ok (.iconst 0, 1) := by decide +kernel
theorem dX4_errorOfValue_30 : decode cX4_errorOfValue 30 = .ok (.ireturn, 1) := by decide +kernel
set_option maxRecDepth 20000 in
theorem ggX4_value_X4_errorOfValue : GoodIn wsX4_value wsX4_errorOfValue := goodIn_ca (goodIn_ca (goodIn_r _ [6, 7, 8, 9, 10, 5, 11, 12, 13, 14, 15, 16, 17, 18, 19, 20, 21, 22, 23, 24, 25, 26, 27, 28, 29, 30, 31, 32, 33, 34, 35, 36, 37, 1, 38, 39, 40, 41, 42, 43, 44, 45, 46, 47, 48, 49, 50, 51, 52, 53, 54, 55, 56, 57, 58, 59, 60, 61, 62, 63, 64, 65, 71, 72, 73, 74, 75, 76, 77, 78, 79, 80, 81, 82, 83, 84, 85, 86] (by decide +kernel) (by decide +kernel)) (goodIn_sub (fun _ h => List.mem_cons_of_mem _ (List.mem_append_left _ (List.mem_append_right _ h))) (by decide +kernel))) (goodIn_sub (fun _ h => List.mem_cons_of_mem _ (List.mem_append_right _ h)) (by decide +kernel))
set_option maxRecDepth 20000 in
theorem gX4_value_X4_errorOfValue : GoodIn wsX4_value (wsV RX4 145 RX4 yX4_errorOfValue wsX4_errorOfValue) := goodIn_app (goodIn_of _ (by decide +kernel)) ggX4_value_X4_errorOfValue
set_option maxRecDepth 20000 in
theorem ggX4_value_X4_holds : GoodIn wsX4_value wsX4_holds := goodIn_r _ [69, 70, 71, 72, 73, 74, 75, 76, 77, 78, 79, 80, 81, 82, 83, 84, 85, 86] (by decide +kernel) (by decide +kernel)
set_option maxRecDepth 20000 in
theorem gX4_value_X4_holds : GoodIn wsX4_value (wsV RX4 54 RX4 yX4_holds wsX4_holds) := goodIn_app (goodIn_of _ (by decide +kernel)) ggX4_value_X4_holds
theorem dX4_value_0 : decode cX4_value 0 = .ok (.aload_n 0, 1) := by decide +kernel
theorem dX4_value_1 : decode cX4_value 1 = .ok (.aload_n 0, 1) := by decide +kernel
theorem dX4_value_2 : decode cX4_value 2 = .ok (.iload_n 1, 1) := by decide +kernel
theorem dX4_value_3 : decode cX4_value 3 = .ok (.invokevirtual 145, 3) := by decide +kernel
theorem dX4_value_6 : decode cX4_value 6 = .ok (.invokevirtual 54, 3) := by decide +kernel
theorem dX4_value_9 : decode cX4_value 9 = .ok (.ifCond .eq 12, 3) := by decide +kernel
theorem dX4_value_12 : decode cX4_value 12 = .ok (.aload_n 0, 1) := by decide +kernel
theorem dX4_value_13 : decode cX4_value 13 = .ok (.getfield 25, 3) := by decide +kernel
theorem dX4_value_16 : decode cX4_value 16 = .ok (.iload_n 1, 1) := by decide +kernel
theorem dX4_value_17 : decode cX4_value 17 = .ok (.laload, 1) := by decide +kernel
theorem dX4_value_18 : decode cX4_value 18 = .ok (.goto 4, 3) := by decide +kernel
theorem dX4_value_21 : decode cX4_value 21 = .ok (.lconst 0, 1) := by decide +kernel
theorem dX4_value_22 : decode cX4_value 22 = .ok (.lreturn, 1) := by decide +kernel
set_option maxRecDepth 20000 in
theorem ggX4_valueAnew_X4_errorOfValue : GoodIn wsX4_valueAnew wsX4_errorOfValue := goodIn_ca (goodIn_ca (goodIn_r _ [6, 7, 8, 9, 10, 5, 11, 12, 13, 14, 15, 16, 17, 18, 19, 20, 21, 22, 23, 24, 25, 26, 27, 28, 29, 30, 31, 32, 33, 34, 35, 36, 37, 1, 38, 39, 40, 41, 42, 43, 44, 45, 46, 47, 48, 49, 50, 51, 52, 53, 54, 55, 56, 57, 58, 59, 60, 61, 62, 63, 64, 65, 71, 72, 73, 74, 75, 76, 77, 78, 79, 80, 81, 82, 83, 84, 85, 86] (by decide +kernel) (by decide +kernel)) (goodIn_sub (fun _ h => List.mem_cons_of_mem _ (List.mem_append_left _ (List.mem_append_right _ h))) (by decide +kernel))) (goodIn_sub (fun _ h => List.mem_cons_of_mem _ (List.mem_append_right _ h)) (by decide +kernel))
set_option maxRecDepth 20000 in
theorem gX4_valueAnew_X4_errorOfValue : GoodIn wsX4_valueAnew (wsV RX4 145 RX4 yX4_errorOfValue wsX4_errorOfValue) := goodIn_app (goodIn_of _ (by decide +kernel)) ggX4_valueAnew_X4_errorOfValue
set_option maxRecDepth 20000 in
theorem ggX4_valueAnew_X4_holds : GoodIn wsX4_valueAnew wsX4_holds := goodIn_r _ [69, 70, 71, 72, 73, 74, 75, 76, 77, 78, 79, 80, 81, 82, 83, 84, 85, 86] (by decide +kernel) (by decide +kernel)
set_option maxRecDepth 20000 in
theorem gX4_valueAnew_X4_holds : GoodIn wsX4_valueAnew (wsV RX4 54 RX4 yX4_holds wsX4_holds) := goodIn_app (goodIn_of _ (by decide +kernel)) ggX4_valueAnew_X4_holds
theorem dX4_valueAnew_0 : decode cX4_valueAnew 0 = .ok (.aload_n 0, 1) := by decide +kernel
theorem dX4_valueAnew_1 : decode cX4_valueAnew 1 = .ok (.aload_n 0, 1) := by decide +kernel
theorem dX4_valueAnew_2 : decode cX4_valueAnew 2 = .ok (.iload_n 1, 1) := by decide +kernel
theorem dX4_valueAnew_3 : decode cX4_valueAnew 3 = .ok (.invokevirtual 145, 3) := by decide +kernel
theorem dX4_valueAnew_6 : decode cX4_valueAnew 6 = .ok (.invokevirtual 54, 3) := by decide +kernel
theorem dX4_valueAnew_9 : decode cX4_valueAnew 9 = .ok (.ifCond .eq 12, 3) := by decide +kernel
theorem dX4_valueAnew_12 : decode cX4_valueAnew 12 = .ok (.aload_n 0, 1) := by decide +kernel
theorem dX4_valueAnew_13 : decode cX4_valueAnew 13 = .ok (.getfield 25, 3) := by decide +kernel
theorem dX4_valueAnew_16 : decode cX4_valueAnew 16 = .ok (.iload_n 1, 1) := by decide +kernel
theorem dX4_valueAnew_17 : decode cX4_valueAnew 17 = .ok (.laload, 1) := by decide +kernel
theorem dX4_valueAnew_18 : decode cX4_valueAnew 18 = .ok (.goto 4, 3) := by decide +kernel
theorem dX4_valueAnew_21 : decode cX4_valueAnew 21 = .ok (.lconst 0, 1) := by decide +kernel
theorem dX4_valueAnew_22 : decode cX4_valueAnew 22 = .ok (.lreturn, 1) := by decide +kernel
set_option maxRecDepth 20000 in
theorem ggX4_signs_X4_isCell : GoodIn wsX4_signs wsX4_isCell := goodIn_r _ [5, 6, 7, 4, 8] (by decide +kernel) (by decide +kernel)
set_option maxRecDepth 20000 in
theorem gX4_signs_X4_isCell : GoodIn wsX4_signs (va_wsS RX4 62 yX4_isCell wsX4_isCell) := goodIn_app (goodIn_of _ (by decide +kernel)) ggX4_signs_X4_isCell
set_option maxRecDepth 20000 in
theorem ggX4_signs_X4_holds : GoodIn wsX4_signs wsX4_holds := goodIn_r _ [12, 13, 14, 15, 16, 17, 18, 19, 20, 21, 22, 23, 24, 25, 26, 27, 28, 29] (by decide +kernel) (by decide +kernel)
set_option maxRecDepth 20000 in
theorem gX4_signs_X4_holds : GoodIn wsX4_signs (wsV RX4 54 RX4 yX4_holds wsX4_holds) := goodIn_app (goodIn_of _ (by decide +kernel)) ggX4_signs_X4_holds
theorem dX4_signs_0 : decode cX4_signs 0 = .ok (.aload_n 0, 1) := by decide +kernel
theorem dX4_signs_1 : decode cX4_signs 1 = .ok (.iload_n 1, 1) := by decide +kernel
theorem dX4_signs_2 : decode cX4_signs 2 = .ok (.invokestatic 62, 3) := by decide +kernel
theorem dX4_signs_5 : decode cX4_signs 5 = .ok (.ifCond .eq 7, 3) := by decide +kernel
theorem dX4_signs_8 : decode cX4_signs 8 = .ok (.iconst 0, 1) := by decide +kernel
theorem dX4_signs_9 : decode cX4_signs 9 = .ok (.goto 4, 3) := by decide +kernel
theorem dX4_signs_12 : decode cX4_signs 12 = .ok (.iconst 1, 1) := by decide +kernel
theorem dX4_signs_13 : decode cX4_signs 13 = .ok (.invokevirtual 54, 3) := by decide +kernel
theorem dX4_signs_16 : decode cX4_signs 16 = .ok (.ifCond .eq 12, 3) := by decide +kernel
theorem dX4_signs_19 : decode cX4_signs 19 = .ok (.aload_n 0, 1) := by decide +kernel
theorem dX4_signs_20 : decode cX4_signs 20 = .ok (.getfield 16, 3) := by decide +kernel
theorem dX4_signs_23 : decode cX4_signs 23 = .ok (.iload_n 1, 1) := by decide +kernel
theorem dX4_signs_24 : decode cX4_signs 24 = .ok (.iaload, 1) := by decide +kernel
theorem dX4_signs_25 : decode cX4_signs 25 = .ok (.goto 4, 3) := by decide +kernel
theorem dX4_signs_28 : decode cX4_signs 28 = .ok (.iconst 0, 1) := by decide +kernel
theorem dX4_signs_29 : decode cX4_signs 29 = .ok (.ireturn, 1) := by decide +kernel
set_option maxRecDepth 20000 in
theorem ggX4_level_X4_isCell : GoodIn wsX4_level wsX4_isCell := goodIn_r _ [4, 5, 6, 3, 7] (by decide +kernel) (by decide +kernel)
set_option maxRecDepth 20000 in
theorem gX4_level_X4_isCell : GoodIn wsX4_level (va_wsS RX4 62 yX4_isCell wsX4_isCell) := goodIn_app (goodIn_of _ (by decide +kernel)) ggX4_level_X4_isCell
set_option maxRecDepth 20000 in
theorem ggX4_level_X4_holds : GoodIn wsX4_level wsX4_holds := goodIn_r _ [11, 12, 24, 25, 26, 27, 28, 29, 30, 31, 32, 33, 34, 35, 36, 37, 38, 39] (by decide +kernel) (by decide +kernel)
set_option maxRecDepth 20000 in
theorem gX4_level_X4_holds : GoodIn wsX4_level (wsV RX4 54 RX4 yX4_holds wsX4_holds) := goodIn_app (goodIn_of _ (by decide +kernel)) ggX4_level_X4_holds
set_option maxRecDepth 20000 in
theorem ggX4_level_X4_refersOf : GoodIn wsX4_level wsX4_refersOf := goodIn_ca (goodIn_r _ [16, 17, 18, 19, 20, 3, 21, 22, 23, 5, 6, 7, 24, 25, 26, 27, 28, 29, 30, 31, 32, 33, 34, 35, 36, 37, 38, 39] (by decide +kernel) (by decide +kernel)) (goodIn_sub (fun _ h => List.mem_cons_of_mem _ (List.mem_append_right _ h)) (by decide +kernel))
set_option maxRecDepth 20000 in
theorem gX4_level_X4_refersOf : GoodIn wsX4_level (wsV RX4 76 RX4 yX4_refersOf wsX4_refersOf) := goodIn_app (goodIn_of _ (by decide +kernel)) ggX4_level_X4_refersOf
theorem dX4_level_0 : decode cX4_level 0 = .ok (.aload_n 0, 1) := by decide +kernel
theorem dX4_level_1 : decode cX4_level 1 = .ok (.iload_n 1, 1) := by decide +kernel
theorem dX4_level_2 : decode cX4_level 2 = .ok (.invokestatic 62, 3) := by decide +kernel
theorem dX4_level_5 : decode cX4_level 5 = .ok (.ifCond .eq 7, 3) := by decide +kernel
theorem dX4_level_8 : decode cX4_level 8 = .ok (.iconst 0, 1) := by decide +kernel
theorem dX4_level_9 : decode cX4_level 9 = .ok (.goto 4, 3) := by decide +kernel
theorem dX4_level_12 : decode cX4_level 12 = .ok (.iconst 1, 1) := by decide +kernel
theorem dX4_level_13 : decode cX4_level 13 = .ok (.invokevirtual 54, 3) := by decide +kernel
theorem dX4_level_16 : decode cX4_level 16 = .ok (.ifCond .ne 5, 3) := by decide +kernel
theorem dX4_level_19 : decode cX4_level 19 = .ok (.iconst 0, 1) := by decide +kernel
theorem dX4_level_20 : decode cX4_level 20 = .ok (.ireturn, 1) := by decide +kernel
theorem dX4_level_21 : decode cX4_level 21 = .ok (.iconst 0, 1) := by decide +kernel
theorem dX4_level_22 : decode cX4_level 22 = .ok (.istore_n 2, 1) := by decide +kernel
theorem dX4_level_23 : decode cX4_level 23 = .ok (.aload_n 0, 1) := by decide +kernel
theorem dX4_level_24 : decode cX4_level 24 = .ok (.iload_n 1, 1) := by decide +kernel
theorem dX4_level_25 : decode cX4_level 25 = .ok (.invokevirtual 76, 3) := by decide +kernel
theorem dX4_level_28 : decode cX4_level 28 = .ok (.istore_n 3, 1) := by decide +kernel
theorem dX4_level_29 : decode cX4_level 29 = .ok (.iload_n 3, 1) := by decide +kernel
theorem dX4_level_30 : decode cX4_level 30 = .ok (.ifCond .eq 56, 3) := by decide +kernel
theorem dX4_level_33 : decode cX4_level 33 = .ok (.iinc 2 1, 3) := by decide +kernel
theorem dX4_level_36 : decode cX4_level 36 = .ok (.iconst 0, 1) := by decide +kernel
theorem dX4_level_37 : decode cX4_level 37 = .ok (.istore 4, 2) := by decide +kernel
theorem dX4_level_39 : decode cX4_level 39 = .ok (.iconst 0, 1) := by decide +kernel
theorem dX4_level_40 : decode cX4_level 40 = .ok (.istore 5, 2) := by decide +kernel
theorem dX4_level_42 : decode cX4_level 42 = .ok (.iload 5, 2) := by decide +kernel
theorem dX4_level_44 : decode cX4_level 44 = .ok (.bipush 30, 2) := by decide +kernel
theorem dX4_level_46 : decode cX4_level 46 = .ok (.if_icmp .ge 34, 3) := by decide +kernel
theorem dX4_level_49 : decode cX4_level 49 = .ok (.iload 4, 2) := by decide +kernel
theorem dX4_level_51 : decode cX4_level 51 = .ok (.iload_n 3, 1) := by decide +kernel
theorem dX4_level_52 : decode cX4_level 52 = .ok (.iload 5, 2) := by decide +kernel
theorem dX4_level_54 : decode cX4_level 54 = .ok (.ishr, 1) := by decide +kernel
theorem dX4_level_55 : decode cX4_level 55 = .ok (.iconst 1, 1) := by decide +kernel
theorem dX4_level_56 : decode cX4_level 56 = .ok (.iand, 1) := by decide +kernel
theorem dX4_level_57 : decode cX4_level 57 = .ok (.iconst 1, 1) := by decide +kernel
theorem dX4_level_58 : decode cX4_level 58 = .ok (.if_icmp .ne 12, 3) := by decide +kernel
theorem dX4_level_61 : decode cX4_level 61 = .ok (.aload_n 0, 1) := by decide +kernel
theorem dX4_level_62 : decode cX4_level 62 = .ok (.iload 5, 2) := by decide +kernel
theorem dX4_level_64 : decode cX4_level 64 = .ok (.invokevirtual 76, 3) := by decide +kernel
theorem dX4_level_67 : decode cX4_level 67 = .ok (.goto 4, 3) := by decide +kernel
theorem dX4_level_70 : decode cX4_level 70 = .ok (.iconst 0, 1) := by decide +kernel
theorem dX4_level_71 : decode cX4_level 71 = .ok (.ior, 1) := by decide +kernel
theorem dX4_level_72 : decode cX4_level 72 = .ok (.istore 4, 2) := by decide +kernel
theorem dX4_level_74 : decode cX4_level 74 = .ok (.iinc 5 1, 3) := by decide +kernel
theorem dX4_level_77 : decode cX4_level 77 = .ok (.goto (-35), 3) := by decide +kernel
theorem dX4_level_80 : decode cX4_level 80 = .ok (.iload 4, 2) := by decide +kernel
theorem dX4_level_82 : decode cX4_level 82 = .ok (.istore_n 3, 1) := by decide +kernel
theorem dX4_level_83 : decode cX4_level 83 = .ok (.goto (-54), 3) := by decide +kernel
theorem dX4_level_86 : decode cX4_level 86 = .ok (.iload_n 2, 1) := by decide +kernel
theorem dX4_level_87 : decode cX4_level 87 = .ok (.ireturn, 1) := by decide +kernel
set_option maxRecDepth 20000 in
theorem ggX4_depends_X4_isCell : GoodIn wsX4_depends wsX4_isCell := goodIn_r _ [4, 5, 6, 3, 7] (by decide +kernel) (by decide +kernel)
set_option maxRecDepth 20000 in
theorem gX4_depends_X4_isCell : GoodIn wsX4_depends (va_wsS RX4 62 yX4_isCell wsX4_isCell) := goodIn_app (goodIn_of _ (by decide +kernel)) ggX4_depends_X4_isCell
set_option maxRecDepth 20000 in
theorem ggX4_depends_X4_holds : GoodIn wsX4_depends wsX4_holds := goodIn_r _ [11, 12, 32, 33, 34, 35, 36, 37, 38, 39, 40, 41, 42, 43, 44, 45, 46, 47] (by decide +kernel) (by decide +kernel)
set_option maxRecDepth 20000 in
theorem gX4_depends_X4_holds : GoodIn wsX4_depends (wsV RX4 54 RX4 yX4_holds wsX4_holds) := goodIn_app (goodIn_of _ (by decide +kernel)) ggX4_depends_X4_holds
set_option maxRecDepth 20000 in
theorem ggX4_depends_X4_doesDepend : GoodIn wsX4_depends wsX4_doesDepend := goodIn_ca (goodIn_r _ [16, 17, 18, 19, 3, 20, 21, 22, 23, 24, 25, 26, 27, 5, 6, 7, 28, 29, 30, 31, 32, 33, 34, 35, 36, 37, 38, 39, 40, 41, 42, 43, 44, 45, 46, 47] (by decide +kernel) (by decide +kernel)) (goodIn_sub (fun _ h => List.mem_cons_of_mem _ (List.mem_append_right _ h)) (by decide +kernel))
set_option maxRecDepth 20000 in
theorem gX4_depends_X4_doesDepend : GoodIn wsX4_depends (wsV RX4 148 RX4 yX4_doesDepend wsX4_doesDepend) := goodIn_app (goodIn_of _ (by decide +kernel)) ggX4_depends_X4_doesDepend
theorem dX4_depends_0 : decode cX4_depends 0 = .ok (.aload_n 0, 1) := by decide +kernel
theorem dX4_depends_1 : decode cX4_depends 1 = .ok (.iload_n 1, 1) := by decide +kernel
theorem dX4_depends_2 : decode cX4_depends 2 = .ok (.invokestatic 62, 3) := by decide +kernel
theorem dX4_depends_5 : decode cX4_depends 5 = .ok (.ifCond .eq 14, 3) := by decide +kernel
theorem dX4_depends_8 : decode cX4_depends 8 = .ok (.iload_n 2, 1) := by decide +kernel
theorem dX4_depends_9 : decode cX4_depends 9 = .ok (.invokestatic 62, 3) := by decide +kernel
theorem dX4_depends_12 : decode cX4_depends 12 = .ok (.ifCond .eq 7, 3) := by decide +kernel
theorem dX4_depends_15 : decode cX4_depends 15 = .ok (.iconst 0, 1) := by decide +kernel
theorem dX4_depends_16 : decode cX4_depends 16 = .ok (.goto 4, 3) := by decide +kernel
theorem dX4_depends_19 : decode cX4_depends 19 = .ok (.iconst 1, 1) := by decide +kernel
theorem dX4_depends_20 : decode cX4_depends 20 = .ok (.invokevirtual 54, 3) := by decide +kernel
theorem dX4_depends_23 : decode cX4_depends 23 = .ok (.ifCond .eq 16, 3) := by decide +kernel
theorem dX4_depends_26 : decode cX4_depends 26 = .ok (.aload_n 0, 1) := by decide +kernel
theorem dX4_depends_27 : decode cX4_depends 27 = .ok (.iload_n 1, 1) := by decide +kernel
theorem dX4_depends_28 : decode cX4_depends 28 = .ok (.iload_n 2, 1) := by decide +kernel
theorem dX4_depends_29 : decode cX4_depends 29 = .ok (.invokevirtual 148, 3) := by decide +kernel
theorem dX4_depends_32 : decode cX4_depends 32 = .ok (.ifCond .eq 7, 3) := by decide +kernel
theorem dX4_depends_35 : decode cX4_depends 35 = .ok (.iconst 1, 1) := by decide +kernel
theorem dX4_depends_36 : decode cX4_depends 36 = .ok (.goto 4, 3) := by decide +kernel
theorem dX4_depends_39 : decode cX4_depends 39 = .ok (.iconst 0, 1) := by decide +kernel
theorem dX4_depends_40 : decode cX4_depends 40 = .ok (.ireturn, 1) := by decide +kernel
set_option maxRecDepth 20000 in
theorem ggX4_faulty_X4_worksAll : GoodIn wsX4_faulty wsX4_worksAll := goodIn_ca (goodIn_ca (goodIn_r _ [7, 2, 8, 9, 10, 6, 11, 12, 13, 14, 15, 16, 17, 18, 19, 20, 21, 22, 23, 24, 25, 26, 27, 28, 29, 30, 31, 32, 33, 34, 35, 36, 37, 38, 39, 40, 41, 42, 43, 44, 45, 46, 47, 48, 49, 50, 51, 52, 53, 54, 55, 56, 57, 58, 59, 60, 61, 62, 63, 64, 65, 66, 67, 68, 69, 70, 71, 72, 73, 74, 75] (by decide +kernel) (by decide +kernel)) (goodIn_sub (fun _ h => List.mem_cons_of_mem _ (List.mem_append_left _ (List.mem_append_right _ h))) (by decide +kernel))) (goodIn_sub (fun _ h => List.mem_cons_of_mem _ (List.mem_append_right _ h)) (by decide +kernel))
set_option maxRecDepth 20000 in
theorem gX4_faulty_X4_worksAll : GoodIn wsX4_faulty (wsV RX4 142 RX4 yX4_worksAll wsX4_worksAll) := goodIn_app (goodIn_of _ (by decide +kernel)) ggX4_faulty_X4_worksAll
theorem dX4_faulty_0 : decode cX4_faulty 0 = .ok (.aload_n 0, 1) := by decide +kernel
theorem dX4_faulty_1 : decode cX4_faulty 1 = .ok (.iconst 0, 1) := by decide +kernel
theorem dX4_faulty_2 : decode cX4_faulty 2 = .ok (.putfield 38, 3) := by decide +kernel
theorem dX4_faulty_5 : decode cX4_faulty 5 = .ok (.aload_n 0, 1) := by decide +kernel
theorem dX4_faulty_6 : decode cX4_faulty 6 = .ok (.invokevirtual 142, 3) := by decide +kernel
theorem dX4_faulty_9 : decode cX4_faulty 9 = .ok (.iconst 0, 1) := by decide +kernel
theorem dX4_faulty_10 : decode cX4_faulty 10 = .ok (.istore_n 1, 1) := by decide +kernel
theorem dX4_faulty_11 : decode cX4_faulty 11 = .ok (.iconst 0, 1) := by decide +kernel
theorem dX4_faulty_12 : decode cX4_faulty 12 = .ok (.istore_n 2, 1) := by decide +kernel
theorem dX4_faulty_13 : decode cX4_faulty 13 = .ok (.iload_n 2, 1) := by decide +kernel
theorem dX4_faulty_14 : decode cX4_faulty 14 = .ok (.bipush 30, 2) := by decide +kernel
theorem dX4_faulty_16 : decode cX4_faulty 16 = .ok (.if_icmp .ge 27, 3) := by decide +kernel
theorem dX4_faulty_19 : decode cX4_faulty 19 = .ok (.iload_n 1, 1) := by decide +kernel
theorem dX4_faulty_20 : decode cX4_faulty 20 = .ok (.aload_n 0, 1) := by decide +kernel
theorem dX4_faulty_21 : decode cX4_faulty 21 = .ok (.getfield 29, 3) := by decide +kernel
theorem dX4_faulty_24 : decode cX4_faulty 24 = .ok (.iload_n 2, 1) := by decide +kernel
theorem dX4_faulty_25 : decode cX4_faulty 25 = .ok (.iaload, 1) := by decide +kernel
theorem dX4_faulty_26 : decode cX4_faulty 26 = .ok (.iconst 2, 1) := by decide +kernel
theorem dX4_faulty_27 : decode cX4_faulty 27 = .ok (.if_icmp .ne 7, 3) := by decide +kernel
theorem dX4_faulty_30 : decode cX4_faulty 30 = .ok (.iconst 1, 1) := by decide +kernel
theorem dX4_faulty_31 : decode cX4_faulty 31 = .ok (.goto 4, 3) := by decide +kernel
theorem dX4_faulty_34 : decode cX4_faulty 34 = .ok (.iconst 0, 1) := by decide +kernel
theorem dX4_faulty_35 : decode cX4_faulty 35 = .ok (.iadd, 1) := by decide +kernel
theorem dX4_faulty_36 : decode cX4_faulty 36 = .ok (.istore_n 1, 1) := by decide +kernel
theorem dX4_faulty_37 : decode cX4_faulty 37 = .ok (.iinc 2 1, 3) := by decide +kernel
theorem dX4_faulty_40 : decode cX4_faulty 40 = .ok (.goto (-27), 3) := by decide +kernel
theorem dX4_faulty_43 : decode cX4_faulty 43 = .ok (.iload_n 1, 1) := by decide +kernel
theorem dX4_faulty_44 : decode cX4_faulty 44 = .ok (.ireturn, 1) := by decide +kernel
theorem dX4_foundAnew_0 : decode cX4_foundAnew 0 = .ok (.aload_n 0, 1) := by decide +kernel
theorem dX4_foundAnew_1 : decode cX4_foundAnew 1 = .ok (.iconst 0, 1) := by decide +kernel
theorem dX4_foundAnew_2 : decode cX4_foundAnew 2 = .ok (.putfield 38, 3) := by decide +kernel
theorem dX4_foundAnew_5 : decode cX4_foundAnew 5 = .ok (.aload_n 0, 1) := by decide +kernel
theorem dX4_foundAnew_6 : decode cX4_foundAnew 6 = .ok (.getfield 129, 3) := by decide +kernel
theorem dX4_foundAnew_9 : decode cX4_foundAnew 9 = .ok (.ireturn, 1) := by decide +kernel
set_option maxRecDepth 20000 in
theorem ggX4_side_X4_worksAll : GoodIn wsX4_side wsX4_worksAll := goodIn_ca (goodIn_ca (goodIn_r _ [9, 3, 10, 11, 12, 8, 13, 2, 1, 14, 15, 16, 17, 18, 19, 20, 21, 22, 23, 24, 25, 26, 27, 28, 29, 30, 31, 32, 33, 4, 34, 35, 36, 37, 38, 39, 40, 41, 42, 43, 44, 45, 46, 47, 48, 49, 50, 51, 52, 53, 54, 55, 56, 57, 58, 59, 60, 61, 62, 63, 64, 65, 66, 67, 68, 69, 70, 71, 72, 73, 74] (by decide +kernel) (by decide +kernel)) (goodIn_sub (fun _ h => List.mem_cons_of_mem _ (List.mem_append_left _ (List.mem_append_right _ h))) (by decide +kernel))) (goodIn_sub (fun _ h => List.mem_cons_of_mem _ (List.mem_append_right _ h)) (by decide +kernel))
set_option maxRecDepth 20000 in
theorem gX4_side_X4_worksAll : GoodIn wsX4_side (wsV RX4 142 RX4 yX4_worksAll wsX4_worksAll) := goodIn_app (goodIn_of _ (by decide +kernel)) ggX4_side_X4_worksAll
theorem dX4_side_0 : decode cX4_side 0 = .ok (.aload_n 0, 1) := by decide +kernel
theorem dX4_side_1 : decode cX4_side 1 = .ok (.getfield 16, 3) := by decide +kernel
theorem dX4_side_4 : decode cX4_side 4 = .ok (.iload_n 3, 1) := by decide +kernel
theorem dX4_side_5 : decode cX4_side 5 = .ok (.iaload, 1) := by decide +kernel
theorem dX4_side_6 : decode cX4_side 6 = .ok (.istore 5, 2) := by decide +kernel
theorem dX4_side_8 : decode cX4_side 8 = .ok (.aload_n 0, 1) := by decide +kernel
theorem dX4_side_9 : decode cX4_side 9 = .ok (.getfield 13, 3) := by decide +kernel
theorem dX4_side_12 : decode cX4_side 12 = .ok (.bipush 15, 2) := by decide +kernel
theorem dX4_side_14 : decode cX4_side 14 = .ok (.iload_n 3, 1) := by decide +kernel
theorem dX4_side_15 : decode cX4_side 15 = .ok (.imul, 1) := by decide +kernel
theorem dX4_side_16 : decode cX4_side 16 = .ok (.iaload, 1) := by decide +kernel
theorem dX4_side_17 : decode cX4_side 17 = .ok (.istore 6, 2) := by decide +kernel
theorem dX4_side_19 : decode cX4_side 19 = .ok (.aload_n 0, 1) := by decide +kernel
theorem dX4_side_20 : decode cX4_side 20 = .ok (.getfield 13, 3) := by decide +kernel
theorem dX4_side_23 : decode cX4_side 23 = .ok (.bipush 15, 2) := by decide +kernel
theorem dX4_side_25 : decode cX4_side 25 = .ok (.iload_n 3, 1) := by decide +kernel
theorem dX4_side_26 : decode cX4_side 26 = .ok (.imul, 1) := by decide +kernel
theorem dX4_side_27 : decode cX4_side 27 = .ok (.iload 4, 2) := by decide +kernel
theorem dX4_side_29 : decode cX4_side 29 = .ok (.iastore, 1) := by decide +kernel
theorem dX4_side_30 : decode cX4_side 30 = .ok (.aload_n 0, 1) := by decide +kernel
theorem dX4_side_31 : decode cX4_side 31 = .ok (.getfield 16, 3) := by decide +kernel
theorem dX4_side_34 : decode cX4_side 34 = .ok (.iload_n 3, 1) := by decide +kernel
theorem dX4_side_35 : decode cX4_side 35 = .ok (.iconst 1, 1) := by decide +kernel
theorem dX4_side_36 : decode cX4_side 36 = .ok (.iastore, 1) := by decide +kernel
theorem dX4_side_37 : decode cX4_side 37 = .ok (.aload_n 0, 1) := by decide +kernel
theorem dX4_side_38 : decode cX4_side 38 = .ok (.invokevirtual 142, 3) := by decide +kernel
theorem dX4_side_41 : decode cX4_side 41 = .ok (.aload_n 0, 1) := by decide +kernel
theorem dX4_side_42 : decode cX4_side 42 = .ok (.getfield 13, 3) := by decide +kernel
theorem dX4_side_45 : decode cX4_side 45 = .ok (.bipush 15, 2) := by decide +kernel
theorem dX4_side_47 : decode cX4_side 47 = .ok (.iload_n 3, 1) := by decide +kernel
theorem dX4_side_48 : decode cX4_side 48 = .ok (.imul, 1) := by decide +kernel
theorem dX4_side_49 : decode cX4_side 49 = .ok (.iload 6, 2) := by decide +kernel
theorem dX4_side_51 : decode cX4_side 51 = .ok (.iastore, 1) := by decide +kernel
theorem dX4_side_52 : decode cX4_side 52 = .ok (.aload_n 0, 1) := by decide +kernel
theorem dX4_side_53 : decode cX4_side 53 = .ok (.getfield 16, 3) := by decide +kernel
theorem dX4_side_56 : decode cX4_side 56 = .ok (.iload_n 3, 1) := by decide +kernel
theorem dX4_side_57 : decode cX4_side 57 = .ok (.iload 5, 2) := by decide +kernel
theorem dX4_side_59 : decode cX4_side 59 = .ok (.iastore, 1) := by decide +kernel
theorem dX4_side_60 : decode cX4_side 60 = .ok (.aload_n 0, 1) := by decide +kernel
theorem dX4_side_61 : decode cX4_side 61 = .ok (.getfield 29, 3) := by decide +kernel
theorem dX4_side_64 : decode cX4_side 64 = .ok (.iload_n 1, 1) := by decide +kernel
theorem dX4_side_65 : decode cX4_side 65 = .ok (.iaload, 1) := by decide +kernel
theorem dX4_side_66 : decode cX4_side 66 = .ok (.iconst 2, 1) := by decide +kernel
theorem dX4_side_67 : decode cX4_side 67 = .ok (.if_icmp .ne 7, 3) := by decide +kernel
theorem dX4_side_70 : decode cX4_side 70 = .ok (.iconst 2, 1) := by decide +kernel
theorem dX4_side_71 : decode cX4_side 71 = .ok (.goto 36, 3) := by decide +kernel
theorem dX4_side_74 : decode cX4_side 74 = .ok (.aload_n 0, 1) := by decide +kernel
theorem dX4_side_75 : decode cX4_side 75 = .ok (.getfield 25, 3) := by decide +kernel
theorem dX4_side_78 : decode cX4_side 78 = .ok (.iload_n 1, 1) := by decide +kernel
theorem dX4_side_79 : decode cX4_side 79 = .ok (.laload, 1) := by decide +kernel
theorem dX4_side_80 : decode cX4_side 80 = .ok (.iload_n 2, 1) := by decide +kernel
theorem dX4_side_81 : decode cX4_side 81 = .ok (.i2l, 1) := by decide +kernel
theorem dX4_side_82 : decode cX4_side 82 = .ok (.lcmp, 1) := by decide +kernel
theorem dX4_side_83 : decode cX4_side 83 = .ok (.ifCond .ge 7, 3) := by decide +kernel
theorem dX4_side_86 : decode cX4_side 86 = .ok (.iconst (-1), 1) := by decide +kernel
theorem dX4_side_87 : decode cX4_side 87 = .ok (.goto 20, 3) := by decide +kernel
theorem dX4_side_90 : decode cX4_side 90 = .ok (.aload_n 0, 1) := by decide +kernel
theorem dX4_side_91 : decode cX4_side 91 = .ok (.getfield 25, 3) := by decide +kernel
theorem dX4_side_94 : decode cX4_side 94 = .ok (.iload_n 1, 1) := by decide +kernel
theorem dX4_side_95 : decode cX4_side 95 = .ok (.laload, 1) := by decide +kernel
theorem dX4_side_96 : decode cX4_side 96 = .ok (.iload_n 2, 1) := by decide +kernel
theorem dX4_side_97 : decode cX4_side 97 = .ok (.i2l, 1) := by decide +kernel
theorem dX4_side_98 : decode cX4_side 98 = .ok (.lcmp, 1) := by decide +kernel
theorem dX4_side_99 : decode cX4_side 99 = .ok (.ifCond .le 7, 3) := by decide +kernel
theorem dX4_side_102 : decode cX4_side 102 = .ok (.iconst 1, 1) := by decide +kernel
theorem dX4_side_103 : decode cX4_side 103 = .ok (.goto 4, 3) := by decide +kernel
theorem dX4_side_106 : decode cX4_side 106 = .ok (.iconst 0, 1) := by decide +kernel
theorem dX4_side_107 : decode cX4_side 107 = .ok (.ireturn, 1) := by decide +kernel
set_option maxRecDepth 20000 in
theorem ggX4_sought_X4_side : GoodIn wsX4_sought wsX4_side := goodIn_ca (goodIn_ca (goodIn_r _ [5, 6, 7, 8, 9, 10, 11, 12, 4, 13, 14, 15, 16, 17, 18, 19, 20, 21, 22, 23, 24, 25, 26, 27, 28, 29, 30, 31, 32, 33, 34, 35, 36, 37, 38, 39, 40, 41, 42, 43, 44, 45, 46, 47, 48, 49, 50, 51, 52, 53, 54, 55, 56, 57, 58, 59, 60, 61, 62, 63, 64, 65, 66, 67, 68, 69, 70, 71, 72, 73, 74, 75, 76, 77, 78] (by decide +kernel) (by decide +kernel)) (goodIn_sub (fun _ h => List.mem_cons_of_mem _ (List.mem_append_left _ (List.mem_append_right _ h))) (by decide +kernel))) (goodIn_sub (fun _ h => List.mem_cons_of_mem _ (List.mem_append_right _ h)) (by decide +kernel))
set_option maxRecDepth 20000 in
theorem gX4_sought_X4_side : GoodIn wsX4_sought (wsV RX4 152 RX4 yX4_side wsX4_side) := goodIn_app (goodIn_of _ (by decide +kernel)) ggX4_sought_X4_side
theorem dX4_sought_0 : decode cX4_sought 0 = .ok (.iload 4, 2) := by decide +kernel
theorem dX4_sought_2 : decode cX4_sought 2 = .ok (.istore 6, 2) := by decide +kernel
theorem dX4_sought_4 : decode cX4_sought 4 = .ok (.iload 5, 2) := by decide +kernel
theorem dX4_sought_6 : decode cX4_sought 6 = .ok (.istore 7, 2) := by decide +kernel
theorem dX4_sought_8 : decode cX4_sought 8 = .ok (.aload_n 0, 1) := by decide +kernel
theorem dX4_sought_9 : decode cX4_sought 9 = .ok (.iload_n 1, 1) := by decide +kernel
theorem dX4_sought_10 : decode cX4_sought 10 = .ok (.iload_n 2, 1) := by decide +kernel
theorem dX4_sought_11 : decode cX4_sought 11 = .ok (.iload_n 3, 1) := by decide +kernel
theorem dX4_sought_12 : decode cX4_sought 12 = .ok (.iload 6, 2) := by decide +kernel
theorem dX4_sought_14 : decode cX4_sought 14 = .ok (.invokevirtual 152, 3) := by decide +kernel
theorem dX4_sought_17 : decode cX4_sought 17 = .ok (.istore 8, 2) := by decide +kernel
theorem dX4_sought_19 : decode cX4_sought 19 = .ok (.aload_n 0, 1) := by decide +kernel
theorem dX4_sought_20 : decode cX4_sought 20 = .ok (.iload_n 1, 1) := by decide +kernel
theorem dX4_sought_21 : decode cX4_sought 21 = .ok (.iload_n 2, 1) := by decide +kernel
theorem dX4_sought_22 : decode cX4_sought 22 = .ok (.iload_n 3, 1) := by decide +kernel
theorem dX4_sought_23 : decode cX4_sought 23 = .ok (.iload 7, 2) := by decide +kernel
theorem dX4_sought_25 : decode cX4_sought 25 = .ok (.invokevirtual 152, 3) := by decide +kernel
theorem dX4_sought_28 : decode cX4_sought 28 = .ok (.istore 9, 2) := by decide +kernel
theorem dX4_sought_30 : decode cX4_sought 30 = .ok (.iload 8, 2) := by decide +kernel
theorem dX4_sought_32 : decode cX4_sought 32 = .ok (.iconst 2, 1) := by decide +kernel
theorem dX4_sought_33 : decode cX4_sought 33 = .ok (.if_icmp .eq 21, 3) := by decide +kernel
theorem dX4_sought_36 : decode cX4_sought 36 = .ok (.iload 9, 2) := by decide +kernel
theorem dX4_sought_38 : decode cX4_sought 38 = .ok (.iconst 2, 1) := by decide +kernel
theorem dX4_sought_39 : decode cX4_sought 39 = .ok (.if_icmp .eq 15, 3) := by decide +kernel
theorem dX4_sought_42 : decode cX4_sought 42 = .ok (.iload 8, 2) := by decide +kernel
theorem dX4_sought_44 : decode cX4_sought 44 = .ok (.iload 9, 2) := by decide +kernel
theorem dX4_sought_46 : decode cX4_sought 46 = .ok (.if_icmp .ne 10, 3) := by decide +kernel
theorem dX4_sought_49 : decode cX4_sought 49 = .ok (.iload 8, 2) := by decide +kernel
theorem dX4_sought_51 : decode cX4_sought 51 = .ok (.ifCond .eq 5, 3) := by decide +kernel
theorem dX4_sought_54 : decode cX4_sought 54 = .ok (.iconst (-1), 1) := by decide +kernel
theorem dX4_sought_55 : decode cX4_sought 55 = .ok (.ireturn, 1) := by decide +kernel
theorem dX4_sought_56 : decode cX4_sought 56 = .ok (.iload 7, 2) := by decide +kernel
theorem dX4_sought_58 : decode cX4_sought 58 = .ok (.iload 6, 2) := by decide +kernel
theorem dX4_sought_60 : decode cX4_sought 60 = .ok (.iconst 1, 1) := by decide +kernel
theorem dX4_sought_61 : decode cX4_sought 61 = .ok (.iadd, 1) := by decide +kernel
theorem dX4_sought_62 : decode cX4_sought 62 = .ok (.if_icmp .le 57, 3) := by decide +kernel
theorem dX4_sought_65 : decode cX4_sought 65 = .ok (.iload 6, 2) := by decide +kernel
theorem dX4_sought_67 : decode cX4_sought 67 = .ok (.iload 7, 2) := by decide +kernel
theorem dX4_sought_69 : decode cX4_sought 69 = .ok (.iadd, 1) := by decide +kernel
theorem dX4_sought_70 : decode cX4_sought 70 = .ok (.iconst 2, 1) := by decide +kernel
theorem dX4_sought_71 : decode cX4_sought 71 = .ok (.idiv, 1) := by decide +kernel
theorem dX4_sought_72 : decode cX4_sought 72 = .ok (.istore 10, 2) := by decide +kernel
theorem dX4_sought_74 : decode cX4_sought 74 = .ok (.aload_n 0, 1) := by decide +kernel
theorem dX4_sought_75 : decode cX4_sought 75 = .ok (.iload_n 1, 1) := by decide +kernel
theorem dX4_sought_76 : decode cX4_sought 76 = .ok (.iload_n 2, 1) := by decide +kernel
theorem dX4_sought_77 : decode cX4_sought 77 = .ok (.iload_n 3, 1) := by decide +kernel
theorem dX4_sought_78 : decode cX4_sought 78 = .ok (.iload 10, 2) := by decide +kernel
theorem dX4_sought_80 : decode cX4_sought 80 = .ok (.invokevirtual 152, 3) := by decide +kernel
theorem dX4_sought_83 : decode cX4_sought 83 = .ok (.istore 11, 2) := by decide +kernel
theorem dX4_sought_85 : decode cX4_sought 85 = .ok (.iload 11, 2) := by decide +kernel
theorem dX4_sought_87 : decode cX4_sought 87 = .ok (.iconst 2, 1) := by decide +kernel
theorem dX4_sought_88 : decode cX4_sought 88 = .ok (.if_icmp .ne 5, 3) := by decide +kernel
theorem dX4_sought_91 : decode cX4_sought 91 = .ok (.iconst (-1), 1) := by decide +kernel
theorem dX4_sought_92 : decode cX4_sought 92 = .ok (.ireturn, 1) := by decide +kernel
theorem dX4_sought_93 : decode cX4_sought 93 = .ok (.iload 11, 2) := by decide +kernel
theorem dX4_sought_95 : decode cX4_sought 95 = .ok (.iload 8, 2) := by decide +kernel
theorem dX4_sought_97 : decode cX4_sought 97 = .ok (.if_icmp .ne 15, 3) := by decide +kernel
theorem dX4_sought_100 : decode cX4_sought 100 = .ok (.iload 11, 2) := by decide +kernel
theorem dX4_sought_102 : decode cX4_sought 102 = .ok (.ifCond .eq 10, 3) := by decide +kernel
theorem dX4_sought_105 : decode cX4_sought 105 = .ok (.iload 10, 2) := by decide +kernel
theorem dX4_sought_107 : decode cX4_sought 107 = .ok (.istore 6, 2) := by decide +kernel
theorem dX4_sought_109 : decode cX4_sought 109 = .ok (.goto 7, 3) := by decide +kernel
theorem dX4_sought_112 : decode cX4_sought 112 = .ok (.iload 10, 2) := by decide +kernel
theorem dX4_sought_114 : decode cX4_sought 114 = .ok (.istore 7, 2) := by decide +kernel
theorem dX4_sought_116 : decode cX4_sought 116 = .ok (.goto (-60), 3) := by decide +kernel
theorem dX4_sought_119 : decode cX4_sought 119 = .ok (.iload 8, 2) := by decide +kernel
theorem dX4_sought_121 : decode cX4_sought 121 = .ok (.ifCond .ne 8, 3) := by decide +kernel
theorem dX4_sought_124 : decode cX4_sought 124 = .ok (.iload 6, 2) := by decide +kernel
theorem dX4_sought_126 : decode cX4_sought 126 = .ok (.goto 5, 3) := by decide +kernel
theorem dX4_sought_129 : decode cX4_sought 129 = .ok (.iload 7, 2) := by decide +kernel
theorem dX4_sought_131 : decode cX4_sought 131 = .ok (.ireturn, 1) := by decide +kernel
set_option maxRecDepth 20000 in
theorem ggX4_errorOfSeek_X4_isCell : GoodIn wsX4_errorOfSeek wsX4_isCell := goodIn_r _ [10, 11, 12, 9, 13] (by decide +kernel) (by decide +kernel)
set_option maxRecDepth 20000 in
theorem gX4_errorOfSeek_X4_isCell : GoodIn wsX4_errorOfSeek (va_wsS RX4 62 yX4_isCell wsX4_isCell) := goodIn_app (goodIn_of _ (by decide +kernel)) ggX4_errorOfSeek_X4_isCell
set_option maxRecDepth 20000 in
theorem ggX4_errorOfSeek_X4_in : GoodIn wsX4_errorOfSeek wsX4_in := goodIn_r _ [13] (by decide +kernel) (by decide +kernel)
set_option maxRecDepth 20000 in
theorem gX4_errorOfSeek_X4_in : GoodIn wsX4_errorOfSeek (va_wsS RX4 42 yX4_in wsX4_in) := goodIn_app (goodIn_of _ (by decide +kernel)) ggX4_errorOfSeek_X4_in
set_option maxRecDepth 20000 in
theorem ggX4_errorOfSeek_X4_doesDepend : GoodIn wsX4_errorOfSeek wsX4_doesDepend := goodIn_ca (goodIn_r _ [17, 18, 19, 20, 9, 21, 5, 4, 22, 23, 24, 6, 25, 11, 12, 13, 26, 27, 28, 29, 30, 31, 32, 33, 34, 35, 36, 37, 38, 39, 40, 41, 42, 43, 44, 45] (by decide +kernel) (by decide +kernel)) (goodIn_sub (fun _ h => List.mem_cons_of_mem _ (List.mem_append_right _ h)) (by decide +kernel))
set_option maxRecDepth 20000 in
theorem gX4_errorOfSeek_X4_doesDepend : GoodIn wsX4_errorOfSeek (wsV RX4 148 RX4 yX4_doesDepend wsX4_doesDepend) := goodIn_app (goodIn_of _ (by decide +kernel)) ggX4_errorOfSeek_X4_doesDepend
theorem dX4_errorOfSeek_0 : decode cX4_errorOfSeek 0 = .ok (.iload_n 1, 1) := by decide +kernel
theorem dX4_errorOfSeek_1 : decode cX4_errorOfSeek 1 = .ok (.invokestatic 62, 3) := by decide +kernel
theorem dX4_errorOfSeek_4 : decode cX4_errorOfSeek 4 = .ok (.ifCond .eq 10, 3) := by decide +kernel
theorem dX4_errorOfSeek_7 : decode cX4_errorOfSeek 7 = .ok (.iload_n 3, 1) := by decide +kernel
theorem dX4_errorOfSeek_8 : decode cX4_errorOfSeek 8 = .ok (.invokestatic 62, 3) := by decide +kernel
theorem dX4_errorOfSeek_11 : decode cX4_errorOfSeek 11 = .ok (.ifCond .ne 5, 3) := by decide +kernel
theorem dX4_errorOfSeek_14 : decode cX4_errorOfSeek 14 = .ok (.iconst 1, 1) := by decide +kernel
theorem dX4_errorOfSeek_15 : decode cX4_errorOfSeek 15 = .ok (.ireturn, 1) := by decide +kernel
theorem dX4_errorOfSeek_16 : decode cX4_errorOfSeek 16 = .ok (.iload_n 2, 1) := by decide +kernel
theorem dX4_errorOfSeek_17 : decode cX4_errorOfSeek 17 = .ok (.ldc 156, 2) := by decide +kernel
theorem dX4_errorOfSeek_19 : decode cX4_errorOfSeek 19 = .ok (.ldc 157, 2) := by decide +kernel
theorem dX4_errorOfSeek_21 : decode cX4_errorOfSeek 21 = .ok (.invokestatic 42, 3) := by decide +kernel
theorem dX4_errorOfSeek_24 : decode cX4_errorOfSeek 24 = .ok (.ifCond .eq 26, 3) := by decide +kernel
theorem dX4_errorOfSeek_27 : decode cX4_errorOfSeek 27 = .ok (.iload 4, 2) := by decide +kernel
theorem dX4_errorOfSeek_29 : decode cX4_errorOfSeek 29 = .ok (.iconst 0, 1) := by decide +kernel
theorem dX4_errorOfSeek_30 : decode cX4_errorOfSeek 30 = .ok (.ldc 49, 2) := by decide +kernel
theorem dX4_errorOfSeek_32 : decode cX4_errorOfSeek 32 = .ok (.invokestatic 42, 3) := by decide +kernel
theorem dX4_errorOfSeek_35 : decode cX4_errorOfSeek 35 = .ok (.ifCond .eq 15, 3) := by decide +kernel
theorem dX4_errorOfSeek_38 : decode cX4_errorOfSeek 38 = .ok (.iload 5, 2) := by decide +kernel
theorem dX4_errorOfSeek_40 : decode cX4_errorOfSeek 40 = .ok (.iload 4, 2) := by decide +kernel
theorem dX4_errorOfSeek_42 : decode cX4_errorOfSeek 42 = .ok (.ldc 49, 2) := by decide +kernel
theorem dX4_errorOfSeek_44 : decode cX4_errorOfSeek 44 = .ok (.invokestatic 42, 3) := by decide +kernel
theorem dX4_errorOfSeek_47 : decode cX4_errorOfSeek 47 = .ok (.ifCond .ne 5, 3) := by decide +kernel
theorem dX4_errorOfSeek_50 : decode cX4_errorOfSeek 50 = .ok (.iconst 2, 1) := by decide +kernel
theorem dX4_errorOfSeek_51 : decode cX4_errorOfSeek 51 = .ok (.ireturn, 1) := by decide +kernel
theorem dX4_errorOfSeek_52 : decode cX4_errorOfSeek 52 = .ok (.aload_n 0, 1) := by decide +kernel
theorem dX4_errorOfSeek_53 : decode cX4_errorOfSeek 53 = .ok (.getfield 16, 3) := by decide +kernel
theorem dX4_errorOfSeek_56 : decode cX4_errorOfSeek 56 = .ok (.iload_n 3, 1) := by decide +kernel
theorem dX4_errorOfSeek_57 : decode cX4_errorOfSeek 57 = .ok (.iaload, 1) := by decide +kernel
theorem dX4_errorOfSeek_58 : decode cX4_errorOfSeek 58 = .ok (.ifCond .eq 27, 3) := by decide +kernel
theorem dX4_errorOfSeek_61 : decode cX4_errorOfSeek 61 = .ok (.aload_n 0, 1) := by decide +kernel
theorem dX4_errorOfSeek_62 : decode cX4_errorOfSeek 62 = .ok (.getfield 16, 3) := by decide +kernel
theorem dX4_errorOfSeek_65 : decode cX4_errorOfSeek 65 = .ok (.iload_n 3, 1) := by decide +kernel
theorem dX4_errorOfSeek_66 : decode cX4_errorOfSeek 66 = .ok (.iaload, 1) := by decide +kernel
theorem dX4_errorOfSeek_67 : decode cX4_errorOfSeek 67 = .ok (.iconst 1, 1) := by decide +kernel
theorem dX4_errorOfSeek_68 : decode cX4_errorOfSeek 68 = .ok (.if_icmp .ne 21, 3) := by decide +kernel
theorem dX4_errorOfSeek_71 : decode cX4_errorOfSeek 71 = .ok (.aload_n 0, 1) := by decide +kernel
theorem dX4_errorOfSeek_72 : decode cX4_errorOfSeek 72 = .ok (.getfield 13, 3) := by decide +kernel
theorem dX4_errorOfSeek_75 : decode cX4_errorOfSeek 75 = .ok (.bipush 15, 2) := by decide +kernel
theorem dX4_errorOfSeek_77 : decode cX4_errorOfSeek 77 = .ok (.iload_n 3, 1) := by decide +kernel
theorem dX4_errorOfSeek_78 : decode cX4_errorOfSeek 78 = .ok (.imul, 1) := by decide +kernel
theorem dX4_errorOfSeek_79 : decode cX4_errorOfSeek 79 = .ok (.iaload, 1) := by decide +kernel
theorem dX4_errorOfSeek_80 : decode cX4_errorOfSeek 80 = .ok (.ldc 65, 2) := by decide +kernel
theorem dX4_errorOfSeek_82 : decode cX4_errorOfSeek 82 = .ok (.if_icmp .ge 7, 3) := by decide +kernel
theorem dX4_errorOfSeek_85 : decode cX4_errorOfSeek 85 = .ok (.iconst 1, 1) := by decide +kernel
theorem dX4_errorOfSeek_86 : decode cX4_errorOfSeek 86 = .ok (.goto 4, 3) := by decide +kernel
theorem dX4_errorOfSeek_89 : decode cX4_errorOfSeek 89 = .ok (.iconst 0, 1) := by decide +kernel
theorem dX4_errorOfSeek_90 : decode cX4_errorOfSeek 90 = .ok (.istore 6, 2) := by decide +kernel
theorem dX4_errorOfSeek_92 : decode cX4_errorOfSeek 92 = .ok (.iload 6, 2) := by decide +kernel
theorem dX4_errorOfSeek_94 : decode cX4_errorOfSeek 94 = .ok (.ifCond .eq 16, 3) := by decide +kernel
theorem dX4_errorOfSeek_97 : decode cX4_errorOfSeek 97 = .ok (.aload_n 0, 1) := by decide +kernel
theorem dX4_errorOfSeek_98 : decode cX4_errorOfSeek 98 = .ok (.iload_n 1, 1) := by decide +kernel
theorem dX4_errorOfSeek_99 : decode cX4_errorOfSeek 99 = .ok (.iload_n 3, 1) := by decide +kernel
theorem dX4_errorOfSeek_100 : decode cX4_errorOfSeek 100 = .ok (.invokevirtual 148, 3) := by decide +kernel
theorem dX4_errorOfSeek_103 : decode cX4_errorOfSeek 103 = .ok (.ifCond .eq 7, 3) := by decide +kernel
theorem dX4_errorOfSeek_106 : decode cX4_errorOfSeek 106 = .ok (.iconst 0, 1) := by decide +kernel
theorem dX4_errorOfSeek_107 : decode cX4_errorOfSeek 107 = .ok (.goto 4, 3) := by decide +kernel
theorem dX4_errorOfSeek_110 : decode cX4_errorOfSeek 110 = .ok (.iconst 3, 1) := by decide +kernel
theorem dX4_errorOfSeek_111 : decode cX4_errorOfSeek 111 = .ok (.ireturn, 1) := by decide +kernel
set_option maxRecDepth 20000 in
theorem ggX4_seek_X4_errorOfSeek : GoodIn wsX4_seek wsX4_errorOfSeek := goodIn_ca (goodIn_r _ [5, 6, 7, 8, 9, 10, 11, 12, 13, 4, 14, 15, 16, 17, 18, 19, 20, 21, 22, 23, 24, 25, 26, 27, 28, 29, 30, 31, 32, 33, 99, 100, 101, 102, 103, 104, 105, 106, 107, 108, 109, 110, 111, 112, 113, 114] (by decide +kernel) (by decide +kernel)) (goodIn_sub (fun _ h => List.mem_cons_of_mem _ (List.mem_append_left _ (List.mem_append_right _ h))) (by decide +kernel))
set_option maxRecDepth 20000 in
theorem gX4_seek_X4_errorOfSeek : GoodIn wsX4_seek (wsV RX4 158 RX4 yX4_errorOfSeek wsX4_errorOfSeek) := goodIn_app (goodIn_of _ (by decide +kernel)) ggX4_seek_X4_errorOfSeek
set_option maxRecDepth 20000 in
theorem ggX4_seek_X4_sought : GoodIn wsX4_seek wsX4_sought := goodIn_ca (goodIn_ca (goodIn_r _ [37, 38, 39, 40, 4, 41, 9, 10, 42, 43, 44, 45, 46, 47, 22, 23, 24, 25, 26, 27, 28, 11, 29, 15, 16, 17, 48, 49, 50, 51, 52, 53, 54, 55, 56, 57, 58, 59, 60, 61, 62, 63, 64, 65, 66, 67, 68, 69, 70, 71, 72, 73, 74, 75, 76, 77, 78, 79, 80, 81, 82, 83, 84, 99, 100, 101, 102, 103, 104, 105, 106, 107, 108, 109, 110, 111, 112, 113, 114] (by decide +kernel) (by decide +kernel)) (goodIn_sub (fun _ h => List.mem_cons_of_mem _ (List.mem_append_left _ (List.mem_append_right _ h))) (by decide +kernel))) (goodIn_sub (fun _ h => List.mem_cons_of_mem _ (List.mem_append_right _ h)) (by decide +kernel))
set_option maxRecDepth 20000 in
theorem gX4_seek_X4_sought : GoodIn wsX4_seek (wsV RX4 162 RX4 yX4_sought wsX4_sought) := goodIn_app (goodIn_of _ (by decide +kernel)) ggX4_seek_X4_sought
set_option maxRecDepth 20000 in
theorem ggX4_seek_X4_holds : GoodIn wsX4_seek wsX4_holds := goodIn_r _ [88, 89, 99, 100, 101, 102, 103, 104, 105, 106, 107, 108, 109, 110, 111, 112, 113, 114] (by decide +kernel) (by decide +kernel)
set_option maxRecDepth 20000 in
theorem gX4_seek_X4_holds : GoodIn wsX4_seek (wsV RX4 54 RX4 yX4_holds wsX4_holds) := goodIn_app (goodIn_of _ (by decide +kernel)) ggX4_seek_X4_holds
set_option maxRecDepth 20000 in
theorem ggX4_seek_X4_puts : GoodIn wsX4_seek wsX4_puts := goodIn_ca (goodIn_r _ [93, 10, 9, 94, 95, 96, 97, 4, 98, 30, 31, 32, 33, 22, 23, 24, 25, 26, 27, 28, 11, 29, 15, 16, 17, 99, 100, 101, 102, 103, 104, 105, 106, 107, 108, 109, 110, 111, 112, 113, 114] (by decide +kernel) (by decide +kernel)) (goodIn_sub (fun _ h => List.mem_cons_of_mem _ (List.mem_append_left _ (List.mem_append_right _ h))) (by decide +kernel))
set_option maxRecDepth 20000 in
theorem gX4_seek_X4_puts : GoodIn wsX4_seek (wsV RX4 132 RX4 yX4_puts wsX4_puts) := goodIn_app (goodIn_of _ (by decide +kernel)) ggX4_seek_X4_puts
theorem dX4_seek_0 : decode cX4_seek 0 = .ok (.aload_n 0, 1) := by decide +kernel
theorem dX4_seek_1 : decode cX4_seek 1 = .ok (.iload_n 1, 1) := by decide +kernel
theorem dX4_seek_2 : decode cX4_seek 2 = .ok (.iload_n 2, 1) := by decide +kernel
theorem dX4_seek_3 : decode cX4_seek 3 = .ok (.iload_n 3, 1) := by decide +kernel
theorem dX4_seek_4 : decode cX4_seek 4 = .ok (.iload 4, 2) := by decide +kernel
theorem dX4_seek_6 : decode cX4_seek 6 = .ok (.iload 5, 2) := by decide +kernel
theorem dX4_seek_8 : decode cX4_seek 8 = .ok (.invokevirtual 158, 3) := by decide +kernel
theorem dX4_seek_11 : decode cX4_seek 11 = .ok (.istore 6, 2) := by decide +kernel
theorem dX4_seek_13 : decode cX4_seek 13 = .ok (.iload 6, 2) := by decide +kernel
theorem dX4_seek_15 : decode cX4_seek 15 = .ok (.ifCond .ne 17, 3) := by decide +kernel
theorem dX4_seek_18 : decode cX4_seek 18 = .ok (.aload_n 0, 1) := by decide +kernel
theorem dX4_seek_19 : decode cX4_seek 19 = .ok (.iload_n 1, 1) := by decide +kernel
theorem dX4_seek_20 : decode cX4_seek 20 = .ok (.iload_n 2, 1) := by decide +kernel
theorem dX4_seek_21 : decode cX4_seek 21 = .ok (.iload_n 3, 1) := by decide +kernel
theorem dX4_seek_22 : decode cX4_seek 22 = .ok (.iload 4, 2) := by decide +kernel
theorem dX4_seek_24 : decode cX4_seek 24 = .ok (.iload 5, 2) := by decide +kernel
theorem dX4_seek_26 : decode cX4_seek 26 = .ok (.invokevirtual 162, 3) := by decide +kernel
theorem dX4_seek_29 : decode cX4_seek 29 = .ok (.goto 4, 3) := by decide +kernel
theorem dX4_seek_32 : decode cX4_seek 32 = .ok (.iconst (-1), 1) := by decide +kernel
theorem dX4_seek_33 : decode cX4_seek 33 = .ok (.istore 7, 2) := by decide +kernel
theorem dX4_seek_35 : decode cX4_seek 35 = .ok (.aload_n 0, 1) := by decide +kernel
theorem dX4_seek_36 : decode cX4_seek 36 = .ok (.iload 6, 2) := by decide +kernel
theorem dX4_seek_38 : decode cX4_seek 38 = .ok (.ifCond .le 8, 3) := by decide +kernel
theorem dX4_seek_41 : decode cX4_seek 41 = .ok (.iload 6, 2) := by decide +kernel
theorem dX4_seek_43 : decode cX4_seek 43 = .ok (.goto 14, 3) := by decide +kernel
theorem dX4_seek_46 : decode cX4_seek 46 = .ok (.iload 7, 2) := by decide +kernel
theorem dX4_seek_48 : decode cX4_seek 48 = .ok (.iconst (-1), 1) := by decide +kernel
theorem dX4_seek_49 : decode cX4_seek 49 = .ok (.if_icmp .ne 7, 3) := by decide +kernel
theorem dX4_seek_52 : decode cX4_seek 52 = .ok (.iconst 4, 1) := by decide +kernel
theorem dX4_seek_53 : decode cX4_seek 53 = .ok (.goto 4, 3) := by decide +kernel
theorem dX4_seek_56 : decode cX4_seek 56 = .ok (.iconst 0, 1) := by decide +kernel
theorem dX4_seek_57 : decode cX4_seek 57 = .ok (.invokevirtual 54, 3) := by decide +kernel
theorem dX4_seek_60 : decode cX4_seek 60 = .ok (.ifCond .ne 5, 3) := by decide +kernel
theorem dX4_seek_63 : decode cX4_seek 63 = .ok (.iconst 0, 1) := by decide +kernel
theorem dX4_seek_64 : decode cX4_seek 64 = .ok (.ireturn, 1) := by decide +kernel
theorem dX4_seek_65 : decode cX4_seek 65 = .ok (.aload_n 0, 1) := by decide +kernel
theorem dX4_seek_66 : decode cX4_seek 66 = .ok (.iload_n 3, 1) := by decide +kernel
theorem dX4_seek_67 : decode cX4_seek 67 = .ok (.iload 7, 2) := by decide +kernel
theorem dX4_seek_69 : decode cX4_seek 69 = .ok (.invokevirtual 132, 3) := by decide +kernel
theorem dX4_seek_72 : decode cX4_seek 72 = .ok (.pop, 1) := by decide +kernel
theorem dX4_seek_73 : decode cX4_seek 73 = .ok (.iload 7, 2) := by decide +kernel
theorem dX4_seek_75 : decode cX4_seek 75 = .ok (.ireturn, 1) := by decide +kernel
end
section
/-! base words of the walk: a world in a call, a world in a walk, one row for each kind of instruction that touches the heap -/
section GB
variable {p : Program} {l : Launch} {e : Env} {R : Room} {s : State} {m : MethodId} {args : Array Value} {below : List Frame} {meth : Method} {c : Code} {H : Heap} {locs : List Loc} {cells slots : Nat} {Q : State → Prop}
variable {cc : ByteArray} {pc : Nat} {ls : Array Slot} {rest st0 : List Value} {D : va_G} {A : Nat → Prop} {a bs nL : Nat} {tys : List (ClassId × FieldType)} {ws ws' : va_W} {own : String} {Ts : List Cond}
/-- the world ws, as a method finds and leaves it: its cells are of A, all from bs on is of A -/
def gW (D : va_G) (tys : List (ClassId × FieldType)) (ws : va_W) (A : Nat → Prop) (bs : Nat) (U : State) : Prop := bs ≤ U.heap.size ∧ va_P D vwCl ws U.heap ∧ va_K D vwCl tys U ∧ va_D A ws
/-- the world ws in the midst of a walk from s -/
def gZ (D : va_G) (tys : List (ClassId × FieldType)) (ws : va_W) (A : Nat → Prop) (bs : Nat) (s : State) (H : Heap) (locs : List Loc) : Prop := va_P D vwCl ws H ∧ va_K D vwCl tys s ∧ va_D A ws ∧ va_S A s.heap H locs ∧ bs ≤ s.heap.size ∧ ∀ q, bs ≤ q → A q
theorem g_start (hA : ∀ q, bs ≤ q → A q) (h : gW D tys ws A bs s) : gZ D tys ws A bs s s.heap [] := ⟨h.2.1, h.2.2.1, h.2.2.2, va_S.rf, h.1, hA⟩
theorem g_end {t : State} (Z : gZ D tys ws A bs s H locs) (ht : t.heap = H) (hW : s.WarmedH t.vm) : gW D tys ws A bs t := ⟨by rw [ht]; exact Nat.le_trans Z.2.2.2.2.1 Z.2.2.2.1.1, by rw [ht]; exact Z.1, va_K.moved hW.alike Z.2.1, Z.2.2.1⟩
theorem g_pre (Z : gZ D tys ws A bs s H locs) (av : List Value) : ∀ U : State, U.heap = H → s.WarmedH U.vm → va_Pc av (gW D tys ws A bs) av.toArray U := fun U hU hW => ⟨rfl, by rw [hU]; exact Nat.le_trans Z.2.2.2.2.1 Z.2.2.2.1.1, by rw [hU]; exact Z.1, va_K.moved hW.alike Z.2.1, Z.2.2.1⟩
theorem g_blind {av : List Value} : FrameBlind (va_Pc av (gW D tys ws A bs)) := fun a U g mk q => ⟨q.1, q.2.1, q.2.2.1, va_K.moved (u := U) (U := U.calling g mk a) (Vm.Alike.refl U.vm) q.2.2.2.1, q.2.2.2.2⟩
theorem g_post {t : State} {H1 : Heap} {locs1 : List Loc} (Z : gZ D tys ws A bs s H locs) (ht : t.heap = H1) (hvm : s.vm.Alike t.vm) (hB : gW D tys ws' A bs t) (hS : va_S A s.heap H1 locs1) : gZ D tys ws' A bs s H1 locs1 := ⟨by rw [← ht]; exact hB.2.1, va_K.moved hvm.symm hB.2.2.1, hB.2.2.2, hS, Z.2.2.2.2.1, Z.2.2.2.2.2⟩
/-- what holds all through the walk of a body -/
def gC (p : Program) (m : MethodId) (meth : Method) (c : Code) (cc : ByteArray) (nL : Nat) (ret : Option FieldType) (s : State) (args : Array Value) (Ts : List Cond) (own : String) : Prop := CallFix p m c cc nL s args Ts own ∧ meth.sig.returnType = ret ∧ meth.locks = false
theorem g_ni {P : Prop} [Decidable P] {α : Type} {T : Option α} {r : α} (h : (if P then none else T) = some r) : ¬ P ∧ T = some r := by
  by_cases hp : P
  · rw [if_pos hp] at h; cases h
  · rw [if_neg hp] at h; exact ⟨hp, h⟩
theorem g_yi {P : Prop} [Decidable P] {α : Type} {T : Option α} {r : α} (h : (if P then T else none) = some r) : P ∧ T = some r := by
  by_cases hp : P
  · rw [if_pos hp] at h; exact ⟨hp, h⟩
  · rw [if_neg hp] at h; cases h
theorem g_bd {α β : Type} {o : Option α} {f : α → Option β} {r : β} (h : o.bind f = some r) : ∃ x, o = some x ∧ f x = some r := Option.bind_eq_some_iff.mp h
theorem g_nb {v : Int32} (h : v = 0 ∨ v = 1) : narrow .boolean (.int v) = .int v := by rcases h with rfl | rfl <;> rfl
theorem g_fb {v : Int32} (h : v = 0 ∨ v = 1) : fits .boolean (.int v) = true := by rcases h with rfl | rfl <;> rfl
theorem g_get (C0 : CallFix p m c cc nL s args Ts own) (Z : gZ D tys ws A bs s H locs) (q0 : Nat) {ci : Nat} {fs : List Value} (he : ws[q0]? = some (a, .inr (ci, fs))) {C ref : String} {T : u_T} {N : Nat} (hc : vwCl[ci]? = some (C, T, N)) (k : Nat) (hk : k < N) (hin : ∀ w ∈ u_ws C T N, w ∈ Ts) {index : Nat} (hlink : Cond.fieldLink own index ref (T k).2.1 (T k).2.2.1 ∈ Ts) (href : (T k).1 = ref) {v : Value} (hv : fs[k]? = some v) (hdg : decode cc pc = .ok (.getfield index, 3))
    (kk : W p l e R s m args below meth c H locs cells slots Q (F0 m (pc + 3) ls (v :: rest))) : W p l e R s m args below meth c H locs cells slots Q (F0 m pc ls (.ref a :: rest)) := by
  subst href
  exact va_get C0.1 C0.2.1 C0.2.2.2.2 hin C0.2.2.2.1 Z.2.1 Z.1 q0 he hc k hk (C0.2.2.2.2 _ hlink) (fun _ h => h) hv hdg kk
theorem g_put (C0 : CallFix p m c cc nL s args Ts own) (Z : gZ D tys ws A bs s H locs) (q0 : Nat) {ci : Nat} {fs : List Value} (he : ws[q0]? = some (a, .inr (ci, fs))) {C ref : String} {T : u_T} {N : Nat} (hc : vwCl[ci]? = some (C, T, N)) (k : Nat) (hk : k < N) (hin : ∀ w ∈ u_ws C T N, w ∈ Ts) {index : Nat} (hlink : Cond.fieldLink own index ref (T k).2.1 (T k).2.2.1 ∈ Ts) (href : (T k).1 = ref) (ty0 : Nat → FieldType) (hty : ∀ k, k < N → parseFieldDescriptor (T k).2.2.1 = some (ty0 k)) (hnm : ∀ a, a < N → ∀ b, b < N → a ≠ b → (T a).2.1 ≠ (T b).2.1) (hfin : (T k).2.2.2 = false) {v : Value} (hn : narrow (ty0 k) v = v) (hfit : fits (ty0 k) v = true) (hl : k < fs.length) (hdg : decode cc pc = .ok (.putfield index, 3)) (hws : ws.set q0 (a, .inr (ci, fs.set k v)) = ws')
    (kk : ∀ (H1 : Heap) (locs1 : List Loc), gZ D tys ws' A bs s H1 locs1 → W p l e R s m args below meth c H1 locs1 cells slots Q (F0 m (pc + 3) ls rest)) : W p l e R s m args below meth c H locs cells slots Q (F0 m pc ls (v :: .ref a :: rest)) := by
  subst href
  subst hws
  exact va_put C0.1 C0.2.1 C0.2.2.2.2 hin ty0 hty hnm C0.2.2.2.1 Z.2.1 Z.1 Z.2.2.1 Z.2.2.2.1 q0 he hc k hk (C0.2.2.2.2 _ hlink) (fun _ h => h) hfin (hty k hk) hn hfit hl hdg (fun H1 locs1 h1 h2 h3 => kk H1 locs1 ⟨h1, Z.2.1, h2, h3, Z.2.2.2.2⟩)
theorem g_iald (C0 : CallFix p m c cc nL s args Ts own) (Z : gZ D tys ws A bs s H locs) (q0 t0 : Nat) {cA : ClassId} {n : Nat} {f : Nat → Int32} (ha : ws[q0]? = some (a, .inl (cA, n, .inl f))) (ht : tys[t0]? = some (cA, .int)) {i : Int32} (hin : vp_in i n) (hdg : decode cc pc = .ok (.iaload, 1))
    (kk : W p l e R s m args below meth c H locs cells slots Q (F0 m (pc + 1) ls (.int (f i.toNatClampNeg) :: rest))) : W p l e R s m args below meth c H locs cells slots Q (F0 m pc ls (.int i :: .ref a :: rest)) := va_iald C0.1 C0.2.1 Z.2.1 Z.1 q0 t0 ha ht hin hdg kk
theorem g_lald (C0 : CallFix p m c cc nL s args Ts own) (Z : gZ D tys ws A bs s H locs) (q0 t0 : Nat) {cA : ClassId} {n : Nat} {f : Nat → Int64} (ha : ws[q0]? = some (a, .inl (cA, n, .inr (.inl f)))) (ht : tys[t0]? = some (cA, .long)) {i : Int32} (hin : vp_in i n) (hdg : decode cc pc = .ok (.laload, 1))
    (kk : W p l e R s m args below meth c H locs cells slots Q (F0 m (pc + 1) ls (.long (f i.toNatClampNeg) :: rest))) : W p l e R s m args below meth c H locs cells slots Q (F0 m pc ls (.int i :: .ref a :: rest)) := va_lald C0.1 C0.2.1 Z.2.1 Z.1 q0 t0 ha ht hin hdg kk
theorem g_iast (C0 : CallFix p m c cc nL s args Ts own) (Z : gZ D tys ws A bs s H locs) (q0 t0 : Nat) {cA : ClassId} {n : Nat} {f : Nat → Int32} (ha : ws[q0]? = some (a, .inl (cA, n, .inl f))) (ht : tys[t0]? = some (cA, .int)) {i x : Int32} (hin : vp_in i n) (hdg : decode cc pc = .ok (.iastore, 1)) (hws : ws.set q0 (a, .inl (cA, n, .inl (upd f i.toNatClampNeg x))) = ws')
    (kk : ∀ (H1 : Heap) (locs1 : List Loc), gZ D tys ws' A bs s H1 locs1 → W p l e R s m args below meth c H1 locs1 cells slots Q (F0 m (pc + 1) ls rest)) : W p l e R s m args below meth c H locs cells slots Q (F0 m pc ls (.int x :: .int i :: .ref a :: rest)) := by
  subst hws
  exact va_iast C0.1 C0.2.1 Z.2.1 Z.1 Z.2.2.1 Z.2.2.2.1 q0 t0 ha ht hin hdg (fun H1 locs1 h1 h2 h3 => kk H1 locs1 ⟨h1, Z.2.1, h2, h3, Z.2.2.2.2⟩)
theorem g_last (C0 : CallFix p m c cc nL s args Ts own) (Z : gZ D tys ws A bs s H locs) (q0 t0 : Nat) {cA : ClassId} {n : Nat} {f : Nat → Int64} (ha : ws[q0]? = some (a, .inl (cA, n, .inr (.inl f)))) (ht : tys[t0]? = some (cA, .long)) {i : Int32} {x : Int64} (hin : vp_in i n) (hdg : decode cc pc = .ok (.lastore, 1)) (hws : ws.set q0 (a, .inl (cA, n, .inr (.inl (vp_updL f i.toNatClampNeg x)))) = ws')
    (kk : ∀ (H1 : Heap) (locs1 : List Loc), gZ D tys ws' A bs s H1 locs1 → W p l e R s m args below meth c H1 locs1 cells slots Q (F0 m (pc + 1) ls rest)) : W p l e R s m args below meth c H locs cells slots Q (F0 m pc ls (.long x :: .int i :: .ref a :: rest)) := by
  subst hws
  exact va_last C0.1 C0.2.1 Z.2.1 Z.1 Z.2.2.1 Z.2.2.2.1 q0 t0 ha ht hin hdg (fun H1 locs1 h1 h2 h3 => kk H1 locs1 ⟨h1, Z.2.1, h2, h3, Z.2.2.2.2⟩)
theorem g_alen (C0 : CallFix p m c cc nL s args Ts own) (Z : gZ D tys ws A bs s H locs) (q0 t0 : Nat) {cA : ClassId} {x : vp_A} (ha : ws[q0]? = some (a, .inl (cA, x))) {ty : FieldType} (ht : tys[t0]? = some (cA, ty)) {v : Int32} (hv : Int32.ofNat x.1 = v) (hdg : decode cc pc = .ok (.arraylength, 1))
    (kk : W p l e R s m args below meth c H locs cells slots Q (F0 m (pc + 1) ls (.int v :: rest))) : W p l e R s m args below meth c H locs cells slots Q (F0 m pc ls (.ref a :: rest)) := va_alen C0.1 C0.2.1 Z.2.1 Z.1 q0 t0 ha ht hv hdg kk
end GB
section GCALL
variable {p : Program} {l : Launch} {e : Env} {R : Room} {s : State} {m : MethodId} {args : Array Value} {below : List Frame} {meth : Method} {c : Code} {H : Heap} {locs : List Loc} {cells slots : Nat} {Q : State → Prop}
variable {cc : ByteArray} {pc : Nat} {ls : Array Slot} {rest st0 : List Value} {D : va_G} {A : Nat → Prop} {a bs nL : Nat} {tys : List (ClassId × FieldType)} {ws : va_W} {own : String} {Ts : List Cond}
variable {y : MethodName} {bytes : ByteArray} {maxL mc ms n index : Nat} {ret : Option FieldType} {wy : List Cond} {rm : Room} {C : String} {b : Addr} {As : List Value} {S : Type} {ws' : S → va_W}
theorem g_callVi {post : Int32 → S → Prop} (C0 : CallFix p m c cc nL s args Ts own) (Z : gZ D tys ws A bs s H locs) (hM : Met l y wy rm (va_Pc (.ref b :: As) (gW D tys ws A bs)) (va_Qi post (fun u U => gW D tys (ws' u) A bs U) A) mc ms A) (cw : CallW R s args own C index y bytes maxL ret wy rm mc ms n) (q0 : Nat) {ci : Nat} {q : vw_C} {fs : List Value} (hc : vwCl[ci]? = some q) (hq : q.1 = C) (he : ws[q0]? = some (b, .inr (ci, fs))) (hn : As.length = n) (hl : ls.size = nL) (hst : st0 = As.reverse ++ .ref b :: rest) (hW : (rest.map fun v => v.category).sum ≤ 8) (hdg : decode cc pc = .ok (.invokevirtual index, 3)) (hf : cells + mc ≤ R.cells ∧ slots + ms ≤ R.slots)
    (kk : ∀ (r : Int32) (u : S) (H1 : Heap) (locs1 : List Loc), post r u → gZ D tys (ws' u) A bs s H1 locs1 → W p l e R s m args below meth c H1 locs1 (cells + mc) (slots + ms) Q (F0 m (pc + 3) ls (.int r :: rest))) : W p l e R s m args below meth c H locs cells slots Q (F0 m pc ls st0) := by
  subst hq
  exact va_calli (va_runV (rest := rest) C0 hM cw ⟨g_blind, va_recv Z.2.1 Z.1 hc he, g_pre Z _⟩ rfl hn hl hst (lv_room hW) hdg hf) Z.2.2.2.1 (fun _ _ h => h) (fun _ h => h) (fun r u t H1 locs1 ht hvm hw hB _ _ hS => kk r u H1 locs1 hw (g_post Z ht hvm hB hS))
theorem g_callVl {post : Int64 → S → Prop} (C0 : CallFix p m c cc nL s args Ts own) (Z : gZ D tys ws A bs s H locs) (hM : Met l y wy rm (va_Pc (.ref b :: As) (gW D tys ws A bs)) (va_Ql post (fun u U => gW D tys (ws' u) A bs U) A) mc ms A) (cw : CallW R s args own C index y bytes maxL ret wy rm mc ms n) (q0 : Nat) {ci : Nat} {q : vw_C} {fs : List Value} (hc : vwCl[ci]? = some q) (hq : q.1 = C) (he : ws[q0]? = some (b, .inr (ci, fs))) (hn : As.length = n) (hl : ls.size = nL) (hst : st0 = As.reverse ++ .ref b :: rest) (hW : (rest.map fun v => v.category).sum ≤ 8) (hdg : decode cc pc = .ok (.invokevirtual index, 3)) (hf : cells + mc ≤ R.cells ∧ slots + ms ≤ R.slots)
    (kk : ∀ (r : Int64) (u : S) (H1 : Heap) (locs1 : List Loc), post r u → gZ D tys (ws' u) A bs s H1 locs1 → W p l e R s m args below meth c H1 locs1 (cells + mc) (slots + ms) Q (F0 m (pc + 3) ls (.long r :: rest))) : W p l e R s m args below meth c H locs cells slots Q (F0 m pc ls st0) := by
  subst hq
  exact va_calll (va_runV (rest := rest) C0 hM cw ⟨g_blind, va_recv Z.2.1 Z.1 hc he, g_pre Z _⟩ rfl hn hl hst (lv_room hW) hdg hf) Z.2.2.2.1 (fun _ _ h => h) (fun _ h => h) (fun r u t H1 locs1 ht hvm hw hB _ _ hS => kk r u H1 locs1 hw (g_post Z ht hvm hB hS))
theorem g_callVv {post : S → Prop} (C0 : CallFix p m c cc nL s args Ts own) (Z : gZ D tys ws A bs s H locs) (hM : Met l y wy rm (va_Pc (.ref b :: As) (gW D tys ws A bs)) (va_Qv post (fun u U => gW D tys (ws' u) A bs U) A) mc ms A) (cw : CallW R s args own C index y bytes maxL ret wy rm mc ms n) (q0 : Nat) {ci : Nat} {q : vw_C} {fs : List Value} (hc : vwCl[ci]? = some q) (hq : q.1 = C) (he : ws[q0]? = some (b, .inr (ci, fs))) (hn : As.length = n) (hl : ls.size = nL) (hst : st0 = As.reverse ++ .ref b :: rest) (hW : (rest.map fun v => v.category).sum ≤ 8) (hdg : decode cc pc = .ok (.invokevirtual index, 3)) (hf : cells + mc ≤ R.cells ∧ slots + ms ≤ R.slots)
    (kk : ∀ (u : S) (H1 : Heap) (locs1 : List Loc), post u → gZ D tys (ws' u) A bs s H1 locs1 → W p l e R s m args below meth c H1 locs1 (cells + mc) (slots + ms) Q (F0 m (pc + 3) ls rest)) : W p l e R s m args below meth c H locs cells slots Q (F0 m pc ls st0) := by
  subst hq
  exact va_callv (va_runV (rest := rest) C0 hM cw ⟨g_blind, va_recv Z.2.1 Z.1 hc he, g_pre Z _⟩ rfl hn hl hst (lv_room hW) hdg hf) Z.2.2.2.1 (fun _ _ h => h) (fun _ h => h) (fun u t H1 locs1 ht hvm hw hB _ _ hS => kk u H1 locs1 hw (g_post Z ht hvm hB hS))
theorem g_callSi {post : Int32 → S → Prop} (C0 : CallFix p m c cc nL s args Ts own) (Z : gZ D tys ws A bs s H locs) (hM : Met l y wy rm (va_Pc As (gW D tys ws A bs)) (va_Qi post (fun u U => gW D tys (ws' u) A bs U) A) mc ms A) (cw : CallB R s args own index y bytes maxL ret wy rm mc ms n ∧ (Cond.static y).before args s = true) (hn : As.length = n) (hl : ls.size = nL) (hst : st0 = As.reverse ++ rest) (hW : (rest.map fun v => v.category).sum ≤ 8) (hdg : decode cc pc = .ok (.invokestatic index, 3)) (hf : cells + mc ≤ R.cells ∧ slots + ms ≤ R.slots)
    (kk : ∀ (r : Int32) (u : S) (H1 : Heap) (locs1 : List Loc), post r u → gZ D tys (ws' u) A bs s H1 locs1 → W p l e R s m args below meth c H1 locs1 (cells + mc) (slots + ms) Q (F0 m (pc + 3) ls (.int r :: rest))) : W p l e R s m args below meth c H locs cells slots Q (F0 m pc ls st0) :=
  va_calli (va_runS (rest := rest) C0 hM cw ⟨g_blind, g_pre Z _⟩ rfl hn hl hst (lv_room hW) hdg hf) Z.2.2.2.1 (fun _ _ h => h) (fun _ h => h) (fun r u t H1 locs1 ht hvm hw hB _ _ hS => kk r u H1 locs1 hw (g_post Z ht hvm hB hS))
theorem g_callSl {post : Int64 → S → Prop} (C0 : CallFix p m c cc nL s args Ts own) (Z : gZ D tys ws A bs s H locs) (hM : Met l y wy rm (va_Pc As (gW D tys ws A bs)) (va_Ql post (fun u U => gW D tys (ws' u) A bs U) A) mc ms A) (cw : CallB R s args own index y bytes maxL ret wy rm mc ms n ∧ (Cond.static y).before args s = true) (hn : As.length = n) (hl : ls.size = nL) (hst : st0 = As.reverse ++ rest) (hW : (rest.map fun v => v.category).sum ≤ 8) (hdg : decode cc pc = .ok (.invokestatic index, 3)) (hf : cells + mc ≤ R.cells ∧ slots + ms ≤ R.slots)
    (kk : ∀ (r : Int64) (u : S) (H1 : Heap) (locs1 : List Loc), post r u → gZ D tys (ws' u) A bs s H1 locs1 → W p l e R s m args below meth c H1 locs1 (cells + mc) (slots + ms) Q (F0 m (pc + 3) ls (.long r :: rest))) : W p l e R s m args below meth c H locs cells slots Q (F0 m pc ls st0) :=
  va_calll (va_runS (rest := rest) C0 hM cw ⟨g_blind, g_pre Z _⟩ rfl hn hl hst (lv_room hW) hdg hf) Z.2.2.2.1 (fun _ _ h => h) (fun _ h => h) (fun r u t H1 locs1 ht hvm hw hB _ _ hS => kk r u H1 locs1 hw (g_post Z ht hvm hB hS))
end GCALL
abbrev gT (cyI cyJ cyO : ClassId) : List (ClassId × FieldType) := [(cyI, .int), (cyJ, .long), (cyO, .object "GoalseekOffice$Formula")]
/-- the model's world: its object and its nine arrays -/
def XM (a : Nat → Nat) (cyI cyJ : ClassId) (th df la fo he wt br : Int32) (dr fm sz om os st wa : Nat → Int32) (va sk : Nat → Int64) : va_W := [(a 0, .inr (6, [.int th, .ref (a 1), .int df, .ref (a 2), .ref (a 3), .int la, .ref (a 4), .ref (a 5), .int fo, .ref (a 6), .ref (a 7), .ref (a 8), .int he, .ref (a 9), .int wt, .int br])), (a 1, .inl (cyI, 15, .inl dr)), (a 2, .inl (cyI, 450, .inl fm)), (a 3, .inl (cyI, 30, .inl sz)), (a 4, .inl (cyI, 1800, .inl om)), (a 5, .inl (cyI, 120, .inl os)), (a 6, .inl (cyJ, 30, .inr (.inl va))), (a 7, .inl (cyI, 30, .inl st)), (a 8, .inl (cyJ, 15, .inr (.inl sk))), (a 9, .inl (cyI, 15, .inl wa))]
end
section
/-! the landed class's world: eight cells that stay, and a pool of formulas and their rows, which nobody changes -/
/-- an int row of the pool: its first n places hold f -/
def isA (cyI : ClassId) (P : List Nat) (g : Nat → va_E) (b : Nat) (n : Nat) (f : Nat → Int32) : Prop := b ∈ P ∧ ∃ f1 : Nat → Int32, g b = .inl (cyI, n, .inl f1) ∧ ∀ k, k < n → f1 k = f k
/-- a formula of the pool: its set of named cells, its signs -/
def isF (cyI : ClassId) (P : List Nat) (g : Nat → va_E) (b : Nat) (w : Int32) (n : Nat) (f : Nat → Int32) : Prop := b ∈ P ∧ ∃ sa : Nat, g b = .inr (3, [.ref sa, .int w]) ∧ isA cyI P g sa n f
theorem isA_get {cyI : ClassId} {P : List Nat} {g : Nat → va_E} {b n : Nat} {f : Nat → Int32} (X : va_W) (h : isA cyI P g b n f) : ∃ (k : Nat) (f1 : Nat → Int32), (X ++ va_pl P g)[k]? = some (b, .inl (cyI, n, .inl f1)) ∧ ∀ j, j < n → f1 j = f j := by
  obtain ⟨h1, f1, h2, h3⟩ := h
  obtain ⟨k, hk⟩ := va_pl_get (X := X) (f := g) h1
  rw [h2] at hk
  exact ⟨k, f1, hk, h3⟩
theorem isF_get {cyI : ClassId} {P : List Nat} {g : Nat → va_E} {b n : Nat} {w : Int32} {f : Nat → Int32} (X : va_W) (h : isF cyI P g b w n f) : ∃ (k sa : Nat), (X ++ va_pl P g)[k]? = some (b, .inr (3, [.ref sa, .int w])) ∧ isA cyI P g sa n f := by
  obtain ⟨h1, sa, h2, h3⟩ := h
  obtain ⟨k, hk⟩ := va_pl_get (X := X) (f := g) h1
  rw [h2] at hk
  exact ⟨k, sa, hk, h3⟩
/-- one pool goes on as another: all formulas and rows stay -/
def exP (P : List Nat) (g : Nat → va_E) (P1 : List Nat) (g1 : Nat → va_E) : Prop := ∀ b, b ∈ P → b ∈ P1 ∧ g1 b = g b
theorem exP_rf {P : List Nat} {g : Nat → va_E} : exP P g P g := fun _ h => ⟨h, rfl⟩
theorem exP_tr {P P1 P2 : List Nat} {g g1 g2 : Nat → va_E} (h1 : exP P g P1 g1) (h2 : exP P1 g1 P2 g2) : exP P g P2 g2 := fun b h => ⟨(h2 b (h1 b h).1).1, (h2 b (h1 b h).1).2.trans (h1 b h).2⟩
theorem isA_ex {cyI : ClassId} {P P1 : List Nat} {g g1 : Nat → va_E} {b n : Nat} {f : Nat → Int32} (e : exP P g P1 g1) (h : isA cyI P g b n f) : isA cyI P1 g1 b n f := by
  obtain ⟨h1, f1, h2, h3⟩ := h
  exact ⟨(e b h1).1, f1, (e b h1).2.trans h2, h3⟩
theorem isF_ex {cyI : ClassId} {P P1 : List Nat} {g g1 : Nat → va_E} {b n : Nat} {w : Int32} {f : Nat → Int32} (e : exP P g P1 g1) (h : isF cyI P g b w n f) : isF cyI P1 g1 b w n f := by
  obtain ⟨h1, sa, h2, h3⟩ := h
  exact ⟨(e b h1).1, sa, (e b h1).2.trans h2, isA_ex e h3⟩
theorem exP_push {P : List Nat} {g : Nat → va_E} {q : Nat} {x : va_E} (h : q ∉ P) : exP P g (P ++ [q]) (va_up g q x) := fun b hb => ⟨List.mem_append_left _ hb, by
  have : b ≠ q := fun z => h (z ▸ hb)
  simp [va_up, this]⟩
/-- the eight cells: the office, its draft, its reckoner, its formulas, the remembered ones, two rows of values, the draft's signs -/
def XD (d : Nat → Nat) (cyI cyJ cyO : ClassId) (eA vr vt rs rr : Nat) (at' : Int32) (fa ra : Nat → Nat) (ol fd dc : Int32) (ds : Nat → Int32) (va tr : Nat → Int64) : va_W := [(d 0, .inr (5, [.ref (d 1), .ref (d 2), .ref eA, .ref (d 3), .ref (d 4), .ref vr, .ref vt, .int ol, .int fd])), (d 1, .inr (2, [.ref (d 7), .int dc])), (d 2, .inr (4, [.ref rs, .ref rr, .int at'])), (d 3, .inl (cyO, 30, .inr (.inr (.inr (.inr (fun k => some (fa k))))))), (d 4, .inl (cyO, 120, .inr (.inr (.inr (.inr (fun k => some (ra k))))))), (d 5, .inl (cyJ, 30, .inr (.inl va))), (d 6, .inl (cyJ, 30, .inr (.inl tr))), (d 7, .inl (cyI, 15, .inl ds))]
/-- all formulas that the office holds, and that its layers remember, and the empty one -/
def dF (cyI : ClassId) (P : List Nat) (g : Nat → va_E) (eA : Nat) (fa ra : Nat → Nat) (fw : Nat → Int32) (fn : Nat → Nat) (ff : Nat → Nat → Int32) (rw' : Nat → Int32) (rn : Nat → Nat) (rf' : Nat → Nat → Int32) : Prop := (∀ k, k < 30 → isF cyI P g (fa k) (fw k) (fn k) (ff k)) ∧ (∀ k, k < 120 → isF cyI P g (ra k) (rw' k) (rn k) (rf' k)) ∧ isF cyI P g eA 0 0 (fun _ => 0)
theorem dF_ex {cyI : ClassId} {P P1 : List Nat} {g g1 : Nat → va_E} {eA : Nat} {fa ra : Nat → Nat} {fw : Nat → Int32} {fn : Nat → Nat} {ff : Nat → Nat → Int32} {rw' : Nat → Int32} {rn : Nat → Nat} {rf' : Nat → Nat → Int32} (e : exP P g P1 g1) (h : dF cyI P g eA fa ra fw fn ff rw' rn rf') : dF cyI P1 g1 eA fa ra fw fn ff rw' rn rf' := ⟨fun k hk => isF_ex e (h.1 k hk), fun k hk => isF_ex e (h.2.1 k hk), isF_ex e h.2.2⟩
/-- the office's world at a method's start and end: the reckoner's fields are nobody's business -/
def dW (D : va_G) (cyI cyJ cyO : ClassId) (A : Nat → Prop) (bs : Nat) (P : List Nat) (g : Nat → va_E) (d : Nat → Nat) (eA vr vt : Nat) (ol fd dc : Int32) (ds : Nat → Int32) (fw : Nat → Int32) (fn : Nat → Nat) (ff : Nat → Nat → Int32) (rw' : Nat → Int32) (rn : Nat → Nat) (rf' : Nat → Nat → Int32) (va tr : Nat → Int64) (U : State) : Prop := ∃ (rs rr : Nat) (at' : Int32) (fa ra : Nat → Nat), gW D (gT cyI cyJ cyO) (XD d cyI cyJ cyO eA vr vt rs rr at' fa ra ol fd dc ds va tr ++ va_pl P g) A bs U ∧ dF cyI P g eA fa ra fw fn ff rw' rn rf'
/-- .. and in the midst of a walk -/
def dZ (D : va_G) (cyI cyJ cyO : ClassId) (A : Nat → Prop) (bs : Nat) (P : List Nat) (g : Nat → va_E) (d : Nat → Nat) (eA vr vt : Nat) (ol fd dc : Int32) (ds : Nat → Int32) (fw : Nat → Int32) (fn : Nat → Nat) (ff : Nat → Nat → Int32) (rw' : Nat → Int32) (rn : Nat → Nat) (rf' : Nat → Nat → Int32) (va tr : Nat → Int64) (s : State) (H : Heap) (locs : List Loc) : Prop := ∃ (rs rr : Nat) (at' : Int32) (fa ra : Nat → Nat), gZ D (gT cyI cyJ cyO) (XD d cyI cyJ cyO eA vr vt rs rr at' fa ra ol fd dc ds va tr ++ va_pl P g) A bs s H locs ∧ dF cyI P g eA fa ra fw fn ff rw' rn rf'
/-- the words of private members of nest mates -/
def nestW : List Cond := [.methodLinkNest RX3 106 yX1_isEmpty RX3, .methodLinkNest RX3 118 yX1_sameAs RX3, .methodLinkNest RX3 13 yX0_init RX3, .methodLinkNest RX3 163 yX1_canBeInput RX3, .methodLinkNest RX3 196 yX2_take RX3, .methodLinkNest RX3 20 yX2_init RX3, .methodLinkNest RX3 200 yX2_sum RX3, .methodLinkNest RX3 27 yX1_init RX3, .methodLinkNest RX3 55 yX0_write RX3, .methodLinkNest RX3 73 yX0_faultPlace RX3, .methodLinkNest RX3 79 yX0_toFormula RX3, .methodLinkNest RX0 27 yX1_init RX3, .methodLinkNest RX1 15 yX3_only RX3, .fieldLinkNest RX3 141 "GoalseekOffice$Formula" "signs" "[I" RX3, .fieldLinkNest RX3 69 "GoalseekOffice$Draft" "count" "I" RX3, .fieldLinkNest RX3 83 "GoalseekOffice$Formula" "named" "I" RX3, .fieldLinkNest RX2 19 "GoalseekOffice$Formula" "signs" "[I" RX3, .declares ⟨"java/lang/RuntimeException", "<init>", "(Ljava/lang/String;)V"⟩, .declares ⟨"java/lang/Exception", "<init>", "(Ljava/lang/String;)V"⟩, .declares ⟨"java/lang/Throwable", "<init>", "(Ljava/lang/String;)V"⟩, .castable "java/lang/IndexOutOfBoundsException" "java/lang/IndexOutOfBoundsException", .castable "java/lang/IllegalArgumentException" "java/lang/IllegalArgumentException", .castable "java/lang/IllegalStateException" "java/lang/IllegalStateException", .castable "java/lang/ArithmeticException" "java/lang/ArithmeticException", .castable "java/util/NoSuchElementException" "java/util/NoSuchElementException"]
/-- the texts of what is thrown -/
def strW : List (Nat × String) := [(113, "no more layers can be opened"), (158, "the target is out of range"), (161, "low or high is out of range"), (166, "the input is neither empty nor a single number"), (168, "the goal does not depend on the input"), (176, "nothing is found"), (206, "there is no such cell"), (209, "the number is out of range"), (213, "the cell is faulty"), (216, "the draft is full"), (218, "no layer is open"), (64, "the code is out of range"), (77, "the draft is no formula"), (95, "a cell would depend on itself")]
def dN (U : State) : Prop := (∀ w ∈ nestW, va_Nw w U) ∧ ∀ q ∈ strW, ∃ sa : Nat, vk_R RX3 q.1 q.2 sa U
theorem dN_same {u U : State} (h : u.vm = U.vm) (hN : dN u) : dN U := by
  refine ⟨?_, fun q hq => ?_⟩
  rotate_left
  · obtain ⟨sa, h1⟩ := hN.2 q hq
    exact ⟨sa, vk_R.same h.symm h1⟩
  intro w hw
  have h1 := hN.1 w hw
  refine va_Nw.same ?_ h h1
  simp only [nestW, List.mem_cons, List.not_mem_nil, or_false] at hw
  rcases hw with rfl | rfl | rfl | rfl | rfl | rfl | rfl | rfl | rfl | rfl | rfl | rfl | rfl | rfl | rfl | rfl | rfl | rfl | rfl | rfl | rfl | rfl | rfl | rfl | rfl <;> rfl
theorem dN_warm {s U : State} (hW : s.WarmedH U.vm) (hN : dN s) : dN U := by
  refine ⟨?_, fun q hq => ?_⟩
  rotate_left
  · obtain ⟨sa, h1⟩ := hN.2 q hq
    exact ⟨sa, vk_R.warm hW h1⟩
  intro w hw
  have h1 := hN.1 w hw
  simp only [nestW, List.mem_cons, List.not_mem_nil, or_false] at hw
  rcases hw with rfl | rfl | rfl | rfl | rfl | rfl | rfl | rfl | rfl | rfl | rfl | rfl | rfl | rfl | rfl | rfl | rfl | rfl | rfl | rfl | rfl | rfl | rfl | rfl | rfl <;> first | exact va_Nw.warmM hW h1 | exact va_Nw.warmF hW h1 | exact va_Nw.warmD hW h1 | exact va_Nw.warmC hW h1
/-- the two statics that a throw reads -/
def dT (A : Nat → Prop) (U : State) : Prop := vx_Zq Bundle.tN "UNASSIGNED_STACK" Bundle.steD A U U.heap ∧ vx_Zq Bundle.tN "SUPPRESSED_SENTINEL" Bundle.listD A U U.heap
theorem dT_go {A A1 : Nat → Prop} {s U : State} {H : Heap} {locs : List Loc} (h : dT A s) (hS : va_S A s.heap H locs) (hU : U.heap = H) (hW : s.WarmedH U.vm) (h1 : ∀ q, A1 q → A q) : dT A1 U := by
  refine ⟨?_, ?_⟩
  · rw [hU]; exact vx_Zq.narrow (vx_Zq.moved hW.alike (h.1.kept hS.2.1)) h1
  · rw [hU]; exact vx_Zq.narrow (vx_Zq.moved hW.alike (h.2.kept hS.2.1)) h1
/-- a method of the landed class: what it finds beside its world -/
def dP (Wd : State → Prop) (A : Nat → Prop) : State → Prop := fun U => Wd U ∧ dN U ∧ dT A U
/-- the exceptions by number -/
def exN (k : Nat) : String := if k = 1 then "java/lang/IndexOutOfBoundsException" else if k = 2 then "java/lang/IllegalArgumentException" else if k = 3 then "java/lang/IllegalStateException" else if k = 4 then "java/lang/ArithmeticException" else "java/util/NoSuchElementException"
section DB
variable {p : Program} {l : Launch} {e : Env} {R : Room} {s : State} {m : MethodId} {args : Array Value} {below : List Frame} {meth : Method} {c : Code} {H : Heap} {locs : List Loc} {cells slots : Nat} {Q : State → Prop}
variable {cc : ByteArray} {pc : Nat} {ls : Array Slot} {rest st0 : List Value} {D : va_G} {A : Nat → Prop} {a bs nL : Nat} {ws : va_W} {own : String} {Ts : List Cond} {cyI cyJ cyO : ClassId} {P : List Nat} {g : Nat → va_E} {d : Nat → Nat} {eA vr vt rs rr : Nat} {at' : Int32} {fa ra : Nat → Nat} {ol fd dc : Int32} {ds : Nat → Int32} {fw : Nat → Int32} {fn : Nat → Nat} {ff : Nat → Nat → Int32} {rw' : Nat → Int32} {rn : Nat → Nat} {rf' : Nat → Nat → Int32} {va tr : Nat → Int64} {X : va_W} {b n : Nat} {w : Int32} {f : Nat → Int32}
theorem dT_same {u U : State} (h : u.vm = U.vm) (hh : u.heap = U.heap) (hT : dT A u) : dT A U := by
  have ha : u.vm.Alike U.vm := by rw [h]; exact Vm.Alike.refl U.vm
  exact ⟨by rw [← hh]; exact vx_Zq.moved ha hT.1, by rw [← hh]; exact vx_Zq.moved ha hT.2⟩
theorem gP_blind {av : List Value} : FrameBlind (va_Pc av (dP (gW D (gT cyI cyJ cyO) ws A bs) A)) := fun a U g mk q => ⟨q.1, ⟨q.2.1.1, q.2.1.2.1, va_K.moved (u := U) (U := U.calling g mk a) (Vm.Alike.refl U.vm) q.2.1.2.2.1, q.2.1.2.2.2⟩, dN_same (u := U) (U := U.calling g mk a) rfl q.2.2.1, dT_same (u := U) (U := U.calling g mk a) rfl rfl q.2.2.2⟩
theorem gP_pre (Z : gZ D (gT cyI cyJ cyO) ws A bs s H locs) (hN : dN s) (hT : dT A s) (av : List Value) : ∀ U : State, U.heap = H → s.WarmedH U.vm → va_Pc av (dP (gW D (gT cyI cyJ cyO) ws A bs) A) av.toArray U := fun U hU hW => ⟨rfl, (g_pre Z av U hU hW).2, dN_warm hW hN, dT_go hT Z.2.2.2.1 hU hW (fun _ h => h)⟩
theorem dP_blind {av : List Value} : FrameBlind (va_Pc av (dP (dW D cyI cyJ cyO A bs P g d eA vr vt ol fd dc ds fw fn ff rw' rn rf' va tr) A)) := fun a U g mk q => by
  obtain ⟨q1, ⟨rs, rr, at', fa, ra, q2, q3⟩, q4, q5⟩ := q
  exact ⟨q1, ⟨rs, rr, at', fa, ra, ⟨q2.1, q2.2.1, va_K.moved (u := U) (U := U.calling g mk a) (Vm.Alike.refl U.vm) q2.2.2.1, q2.2.2.2⟩, q3⟩, dN_same (u := U) (U := U.calling g mk a) rfl q4, dT_same (u := U) (U := U.calling g mk a) rfl rfl q5⟩
theorem dP_pre (Z : dZ D cyI cyJ cyO A bs P g d eA vr vt ol fd dc ds fw fn ff rw' rn rf' va tr s H locs) (hN : dN s) (hT : dT A s) (av : List Value) : ∀ U : State, U.heap = H → s.WarmedH U.vm → va_Pc av (dP (dW D cyI cyJ cyO A bs P g d eA vr vt ol fd dc ds fw fn ff rw' rn rf' va tr) A) av.toArray U := fun U hU hW => by
  obtain ⟨rs, rr, at', fa, ra, Z, q3⟩ := Z
  exact ⟨rfl, ⟨rs, rr, at', fa, ra, (g_pre Z av U hU hW).2, q3⟩, dN_warm hW hN, dT_go hT Z.2.2.2.1 hU hW (fun _ h => h)⟩
theorem dW_post {t : State} {H1 : Heap} {locs1 : List Loc} (Z : gZ D (gT cyI cyJ cyO) ws A bs s H locs) (ht : t.heap = H1) (hvm : s.vm.Alike t.vm) (hB : dW D cyI cyJ cyO A bs P g d eA vr vt ol fd dc ds fw fn ff rw' rn rf' va tr t) (hS : va_S A s.heap H1 locs1) : dZ D cyI cyJ cyO A bs P g d eA vr vt ol fd dc ds fw fn ff rw' rn rf' va tr s H1 locs1 := by
  obtain ⟨rs, rr, at', fa, ra, hB, q3⟩ := hB
  exact ⟨rs, rr, at', fa, ra, g_post Z ht hvm hB hS, q3⟩
theorem dZ_end {t : State} (Z : dZ D cyI cyJ cyO A bs P g d eA vr vt ol fd dc ds fw fn ff rw' rn rf' va tr s H locs) (ht : t.heap = H) (hW : s.WarmedH t.vm) : dW D cyI cyJ cyO A bs P g d eA vr vt ol fd dc ds fw fn ff rw' rn rf' va tr t := by
  obtain ⟨rs, rr, at', fa, ra, Z, q3⟩ := Z
  exact ⟨rs, rr, at', fa, ra, g_end Z ht hW, q3⟩
theorem dZ_start (hA : ∀ q, bs ≤ q → A q) (h : dW D cyI cyJ cyO A bs P g d eA vr vt ol fd dc ds fw fn ff rw' rn rf' va tr s) : dZ D cyI cyJ cyO A bs P g d eA vr vt ol fd dc ds fw fn ff rw' rn rf' va tr s s.heap [] := by
  obtain ⟨rs, rr, at', fa, ra, h, q3⟩ := h
  exact ⟨rs, rr, at', fa, ra, g_start hA h, q3⟩
theorem dZ_S (Z : dZ D cyI cyJ cyO A bs P g d eA vr vt ol fd dc ds fw fn ff rw' rn rf' va tr s H locs) : va_S A s.heap H locs := by
  obtain ⟨rs, rr, at', fa, ra, Z, q3⟩ := Z
  exact Z.2.2.2.1
theorem dZ_A (Z : dZ D cyI cyJ cyO A bs P g d eA vr vt ol fd dc ds fw fn ff rw' rn rf' va tr s H locs) : ∀ q, bs ≤ q → A q := by
  obtain ⟨rs, rr, at', fa, ra, Z, q3⟩ := Z
  exact Z.2.2.2.2.2
theorem g_lt {i : Int32} {n : Nat} (h : vp_in i n) : i.toNatClampNeg < n := Nat.not_le.mp fun q => h (Or.inr q)
/-- a field of a nest mate -/
theorem g_getN (C0 : CallFix p m c cc nL s args Ts own) (Z : gZ D (gT cyI cyJ cyO) ws A bs s H locs) (q0 : Nat) {ci : Nat} {fs : List Value} (he : ws[q0]? = some (a, .inr (ci, fs))) {C ref host : String} {T : u_T} {N : Nat} (hc : vwCl[ci]? = some (C, T, N)) (k : Nat) (hk : k < N) (hin : ∀ w ∈ u_ws C T N, w ∈ Ts) {index : Nat} (hlink : va_Nw (.fieldLinkNest own index ref (T k).2.1 (T k).2.2.1 host) s) (href : (T k).1 = ref) {v : Value} (hv : fs[k]? = some v) (hdg : decode cc pc = .ok (.getfield index, 3))
    (kk : W p l e R s m args below meth c H locs cells slots Q (F0 m (pc + 3) ls (v :: rest))) : W p l e R s m args below meth c H locs cells slots Q (F0 m pc ls (.ref a :: rest)) := by
  subst href
  exact va_getN C0.1 C0.2.1 C0.2.2.2.2 hin C0.2.2.2.1 Z.2.1 Z.1 q0 he hc k hk (va_Nw.use rfl hlink) (fun _ h => h) hv hdg kk
theorem g_putN (C0 : CallFix p m c cc nL s args Ts own) (Z : gZ D (gT cyI cyJ cyO) ws A bs s H locs) (q0 : Nat) {ci : Nat} {fs : List Value} (he : ws[q0]? = some (a, .inr (ci, fs))) {C ref host : String} {T : u_T} {N : Nat} (hc : vwCl[ci]? = some (C, T, N)) (k : Nat) (hk : k < N) (hin : ∀ w ∈ u_ws C T N, w ∈ Ts) {index : Nat} (hlink : va_Nw (.fieldLinkNest own index ref (T k).2.1 (T k).2.2.1 host) s) (href : (T k).1 = ref) (ty0 : Nat → FieldType) (hty : ∀ k, k < N → parseFieldDescriptor (T k).2.2.1 = some (ty0 k)) (hnm : ∀ a, a < N → ∀ b, b < N → a ≠ b → (T a).2.1 ≠ (T b).2.1) (hfin : (T k).2.2.2 = false) {v : Value} (hn : narrow (ty0 k) v = v) (hfit : fits (ty0 k) v = true) (hl : k < fs.length) (hdg : decode cc pc = .ok (.putfield index, 3)) {ws' : va_W} (hws : ws.set q0 (a, .inr (ci, fs.set k v)) = ws')
    (kk : ∀ (H1 : Heap) (locs1 : List Loc), gZ D (gT cyI cyJ cyO) ws' A bs s H1 locs1 → W p l e R s m args below meth c H1 locs1 cells slots Q (F0 m (pc + 3) ls rest)) : W p l e R s m args below meth c H locs cells slots Q (F0 m pc ls (v :: .ref a :: rest)) := by
  subst href
  subst hws
  exact va_putN C0.1 C0.2.1 C0.2.2.2.2 hin ty0 hty hnm C0.2.2.2.1 Z.2.1 Z.1 Z.2.2.1 Z.2.2.2.1 q0 he hc k hk (va_Nw.use rfl hlink) (fun _ h => h) hfin (hty k hk) hn hfit hl hdg (fun H1 locs1 h1 h2 h3 => kk H1 locs1 ⟨h1, Z.2.1, h2, h3, Z.2.2.2.2⟩)
/-- a place of an int row of the pool -/
theorem d_iald (C0 : CallFix p m c cc nL s args Ts own) (Z : gZ D (gT cyI cyJ cyO) (X ++ va_pl P g) A bs s H locs) (hs : isA cyI P g b n f) {i : Int32} (hin : vp_in i n) (hdg : decode cc pc = .ok (.iaload, 1))
    (kk : W p l e R s m args below meth c H locs cells slots Q (F0 m (pc + 1) ls (.int (f i.toNatClampNeg) :: rest))) : W p l e R s m args below meth c H locs cells slots Q (F0 m pc ls (.int i :: .ref b :: rest)) := by
  obtain ⟨k, f1, hk, hf⟩ := isA_get X hs
  refine g_iald C0 Z k 0 hk rfl hin hdg ?_
  rw [hf _ (g_lt hin)]
  exact kk
theorem d_alen (C0 : CallFix p m c cc nL s args Ts own) (Z : gZ D (gT cyI cyJ cyO) (X ++ va_pl P g) A bs s H locs) (hs : isA cyI P g b n f) (hdg : decode cc pc = .ok (.arraylength, 1))
    (kk : W p l e R s m args below meth c H locs cells slots Q (F0 m (pc + 1) ls (.int (nI n) :: rest))) : W p l e R s m args below meth c H locs cells slots Q (F0 m pc ls (.ref b :: rest)) := by
  obtain ⟨k, f1, hk, hf⟩ := isA_get X hs
  exact g_alen C0 Z k 0 hk rfl rfl hdg kk
/-- what a formula of the pool holds -/
theorem d_named (C0 : CallFix p m c cc nL s args Ts own) (Z : gZ D (gT cyI cyJ cyO) (X ++ va_pl P g) A bs s H locs) (hs : isF cyI P g b w n f) (hin : ∀ w ∈ wsX10, w ∈ Ts) {index : Nat} {host : String} (hlink : va_Nw (.fieldLinkNest own index "GoalseekOffice$Formula" "named" "I" host) s) (hdg : decode cc pc = .ok (.getfield index, 3))
    (kk : W p l e R s m args below meth c H locs cells slots Q (F0 m (pc + 3) ls (.int w :: rest))) : W p l e R s m args below meth c H locs cells slots Q (F0 m pc ls (.ref b :: rest)) := by
  obtain ⟨k, sa, hk, hf⟩ := isF_get X hs
  exact g_getN (T := TX1) (N := 2) C0 Z k hk rfl 1 (by decide) hin hlink rfl rfl hdg kk
theorem d_fsigns (C0 : CallFix p m c cc nL s args Ts own) (Z : gZ D (gT cyI cyJ cyO) (X ++ va_pl P g) A bs s H locs) (hs : isF cyI P g b w n f) (hin : ∀ w ∈ wsX10, w ∈ Ts) {index : Nat} {host : String} (hlink : va_Nw (.fieldLinkNest own index "GoalseekOffice$Formula" "signs" "[I" host) s) (hdg : decode cc pc = .ok (.getfield index, 3))
    (kk : ∀ sa : Nat, isA cyI P g sa n f → W p l e R s m args below meth c H locs cells slots Q (F0 m (pc + 3) ls (.ref sa :: rest))) : W p l e R s m args below meth c H locs cells slots Q (F0 m pc ls (.ref b :: rest)) := by
  obtain ⟨k, sa, hk, hf⟩ := isF_get X hs
  exact g_getN (T := TX1) (N := 2) C0 Z k hk rfl 0 (by decide) hin hlink rfl rfl hdg (kk sa hf)
theorem d_fsignsO (C0 : CallFix p m c cc nL s args Ts own) (Z : gZ D (gT cyI cyJ cyO) (X ++ va_pl P g) A bs s H locs) (hs : isF cyI P g b w n f) (hin : ∀ w ∈ wsX10, w ∈ Ts) {index : Nat} (hlink : Cond.fieldLink own index "GoalseekOffice$Formula" "signs" "[I" ∈ Ts) (hdg : decode cc pc = .ok (.getfield index, 3))
    (kk : ∀ sa : Nat, isA cyI P g sa n f → W p l e R s m args below meth c H locs cells slots Q (F0 m (pc + 3) ls (.ref sa :: rest))) : W p l e R s m args below meth c H locs cells slots Q (F0 m pc ls (.ref b :: rest)) := by
  obtain ⟨k, sa, hk, hf⟩ := isF_get X hs
  exact g_get (T := TX1) (N := 2) C0 Z k hk rfl 0 (by decide) hin hlink rfl rfl hdg (kk sa hf)
theorem up_some {fa : Nat → Nat} {i b : Nat} : va_up (fun k => some (fa k)) i (some b) = fun k => some (va_up fa i b k) := by
  funext k
  by_cases h : k = i
  · simp [va_up, h]
  · simp [va_up, h]
/-- a formula out of the office's row, or out of what the layers remember -/
theorem d_aldF (C0 : CallFix p m c cc nL s args Ts own) (Z : gZ D (gT cyI cyJ cyO) (XD d cyI cyJ cyO eA vr vt rs rr at' fa ra ol fd dc ds va tr ++ va_pl P g) A bs s H locs) (hF : dF cyI P g eA fa ra fw fn ff rw' rn rf') {i : Int32} (hin : vp_in i 30) (hdg : decode cc pc = .ok (.aaload, 1))
    (kk : isF cyI P g (fa i.toNatClampNeg) (fw i.toNatClampNeg) (fn i.toNatClampNeg) (ff i.toNatClampNeg) → W p l e R s m args below meth c H locs cells slots Q (F0 m (pc + 1) ls (.ref (fa i.toNatClampNeg) :: rest))) : W p l e R s m args below meth c H locs cells slots Q (F0 m pc ls (.int i :: .ref (d 3) :: rest)) :=
  va_aldq C0.1 C0.2.1 Z.2.1 Z.1 3 2 (n := 30) (f := fun k => some (fa k)) rfl rfl hin hdg (kk (hF.1 _ (g_lt hin)))
theorem d_aldR (C0 : CallFix p m c cc nL s args Ts own) (Z : gZ D (gT cyI cyJ cyO) (XD d cyI cyJ cyO eA vr vt rs rr at' fa ra ol fd dc ds va tr ++ va_pl P g) A bs s H locs) (hF : dF cyI P g eA fa ra fw fn ff rw' rn rf') {i : Int32} (hin : vp_in i 120) (hdg : decode cc pc = .ok (.aaload, 1))
    (kk : isF cyI P g (ra i.toNatClampNeg) (rw' i.toNatClampNeg) (rn i.toNatClampNeg) (rf' i.toNatClampNeg) → W p l e R s m args below meth c H locs cells slots Q (F0 m (pc + 1) ls (.ref (ra i.toNatClampNeg) :: rest))) : W p l e R s m args below meth c H locs cells slots Q (F0 m pc ls (.int i :: .ref (d 4) :: rest)) :=
  va_aldq C0.1 C0.2.1 Z.2.1 Z.1 4 2 (n := 120) (f := fun k => some (ra k)) rfl rfl hin hdg (kk (hF.2.1 _ (g_lt hin)))
theorem d_astF (C0 : CallFix p m c cc nL s args Ts own) (Z : gZ D (gT cyI cyJ cyO) (XD d cyI cyJ cyO eA vr vt rs rr at' fa ra ol fd dc ds va tr ++ va_pl P g) A bs s H locs) (hF : dF cyI P g eA fa ra fw fn ff rw' rn rf') (hb : isF cyI P g b w n f) {i : Int32} (hin : vp_in i 30) (hdg : decode cc pc = .ok (.aastore, 1))
    (kk : ∀ (H1 : Heap) (locs1 : List Loc), gZ D (gT cyI cyJ cyO) (XD d cyI cyJ cyO eA vr vt rs rr at' (va_up fa i.toNatClampNeg b) ra ol fd dc ds va tr ++ va_pl P g) A bs s H1 locs1 → dF cyI P g eA (va_up fa i.toNatClampNeg b) ra (va_up fw i.toNatClampNeg w) (va_up fn i.toNatClampNeg n) (va_up ff i.toNatClampNeg f) rw' rn rf' → W p l e R s m args below meth c H1 locs1 cells slots Q (F0 m (pc + 1) ls rest)) : W p l e R s m args below meth c H locs cells slots Q (F0 m pc ls (.ref b :: .int i :: .ref (d 3) :: rest)) := by
  obtain ⟨k1, sa, hk1, hs⟩ := isF_get (XD d cyI cyJ cyO eA vr vt rs rr at' fa ra ol fd dc ds va tr) hb
  refine va_astq (r := (RX1, TX1, 2)) C0.1 C0.2.1 Z.2.1 Z.1 Z.2.2.1 Z.2.2.2.1 3 2 k1 3 (n := 30) (f := fun k => some (fa k)) rfl rfl hk1 rfl hin hdg (fun H1 locs1 h1 h2 h3 => ?_)
  rw [up_some] at h1 h2
  refine kk H1 locs1 ⟨h1, Z.2.1, h2, h3, Z.2.2.2.2⟩ ⟨fun k hk => ?_, hF.2⟩
  by_cases h : k = i.toNatClampNeg
  · simp only [va_up, h, if_true]; exact hb
  · simp only [va_up, h, if_false]; exact hF.1 k hk
theorem d_astR (C0 : CallFix p m c cc nL s args Ts own) (Z : gZ D (gT cyI cyJ cyO) (XD d cyI cyJ cyO eA vr vt rs rr at' fa ra ol fd dc ds va tr ++ va_pl P g) A bs s H locs) (hF : dF cyI P g eA fa ra fw fn ff rw' rn rf') (hb : isF cyI P g b w n f) {i : Int32} (hin : vp_in i 120) (hdg : decode cc pc = .ok (.aastore, 1))
    (kk : ∀ (H1 : Heap) (locs1 : List Loc), gZ D (gT cyI cyJ cyO) (XD d cyI cyJ cyO eA vr vt rs rr at' fa (va_up ra i.toNatClampNeg b) ol fd dc ds va tr ++ va_pl P g) A bs s H1 locs1 → dF cyI P g eA fa (va_up ra i.toNatClampNeg b) fw fn ff (va_up rw' i.toNatClampNeg w) (va_up rn i.toNatClampNeg n) (va_up rf' i.toNatClampNeg f) → W p l e R s m args below meth c H1 locs1 cells slots Q (F0 m (pc + 1) ls rest)) : W p l e R s m args below meth c H locs cells slots Q (F0 m pc ls (.ref b :: .int i :: .ref (d 4) :: rest)) := by
  obtain ⟨k1, sa, hk1, hs⟩ := isF_get (XD d cyI cyJ cyO eA vr vt rs rr at' fa ra ol fd dc ds va tr) hb
  refine va_astq (r := (RX1, TX1, 2)) C0.1 C0.2.1 Z.2.1 Z.1 Z.2.2.1 Z.2.2.2.1 4 2 k1 3 (n := 120) (f := fun k => some (ra k)) rfl rfl hk1 rfl hin hdg (fun H1 locs1 h1 h2 h3 => ?_)
  rw [up_some] at h1 h2
  refine kk H1 locs1 ⟨h1, Z.2.1, h2, h3, Z.2.2.2.2⟩ ⟨hF.1, fun k hk => ?_, hF.2.2⟩
  by_cases h : k = i.toNatClampNeg
  · simp only [va_up, h, if_true]; exact hb
  · simp only [va_up, h, if_false]; exact hF.2.1 k hk
end DB
end
section
/-! calls and throws of the landed class: the world behind them by one rule -/
section DCA
variable {p : Program} {l : Launch} {e : Env} {R : Room} {s : State} {m : MethodId} {args : Array Value} {below : List Frame} {meth : Method} {c : Code} {H : Heap} {locs : List Loc} {cells slots : Nat} {Q : State → Prop}
variable {cc : ByteArray} {pc : Nat} {ls : Array Slot} {rest st0 : List Value} {D : va_G} {A : Nat → Prop} {bs nL mc ms : Nat} {ws : va_W} {own : String} {Ts : List Cond} {cyI cyJ cyO : ClassId} {P : List Nat} {g : Nat → va_E} {d : Nat → Nat} {eA vr vt : Nat} {ol fd dc : Int32} {ds : Nat → Int32} {fw : Nat → Int32} {fn : Nat → Nat} {ff : Nat → Nat → Int32} {rw' : Nat → Int32} {rn : Nat → Nat} {rf' : Nat → Nat → Int32} {va tr : Nat → Int64} {a : Array Value} {S SX : Type} {Wd : S → State → Prop} {Zd : S → Heap → List Loc → Prop}
theorem x_calli {post : Int32 → S → Prop} (hr : va_Run p l e R s m args below meth c H locs cells slots mc ms (F0 m pc ls st0) rest (va_Qi post Wd A a) A) (hS : va_S A s.heap H locs) (hp : ∀ (u : S) (t : State) (H1 : Heap) (locs1 : List Loc), t.heap = H1 → s.vm.Alike t.vm → Wd u t → va_S A s.heap H1 locs1 → Zd u H1 locs1)
    (kk : ∀ (r : Int32) (u : S) (H1 : Heap) (locs1 : List Loc), post r u → Zd u H1 locs1 → W p l e R s m args below meth c H1 locs1 (cells + mc) (slots + ms) Q (F0 m (pc + 3) ls (.int r :: rest))) : W p l e R s m args below meth c H locs cells slots Q (F0 m pc ls st0) :=
  va_calli hr hS (fun _ _ h => h) (fun _ h => h) (fun r u t H1 locs1 ht hvm hw hB _ _ hS => kk r u H1 locs1 hw (hp u t H1 locs1 ht hvm hB hS))
theorem x_calll {post : Int64 → S → Prop} (hr : va_Run p l e R s m args below meth c H locs cells slots mc ms (F0 m pc ls st0) rest (va_Ql post Wd A a) A) (hS : va_S A s.heap H locs) (hp : ∀ (u : S) (t : State) (H1 : Heap) (locs1 : List Loc), t.heap = H1 → s.vm.Alike t.vm → Wd u t → va_S A s.heap H1 locs1 → Zd u H1 locs1)
    (kk : ∀ (r : Int64) (u : S) (H1 : Heap) (locs1 : List Loc), post r u → Zd u H1 locs1 → W p l e R s m args below meth c H1 locs1 (cells + mc) (slots + ms) Q (F0 m (pc + 3) ls (.long r :: rest))) : W p l e R s m args below meth c H locs cells slots Q (F0 m pc ls st0) :=
  va_calll hr hS (fun _ _ h => h) (fun _ h => h) (fun r u t H1 locs1 ht hvm hw hB _ _ hS => kk r u H1 locs1 hw (hp u t H1 locs1 ht hvm hB hS))
theorem x_callv {post : S → Prop} (hr : va_Run p l e R s m args below meth c H locs cells slots mc ms (F0 m pc ls st0) rest (va_Qv post Wd A a) A) (hS : va_S A s.heap H locs) (hp : ∀ (u : S) (t : State) (H1 : Heap) (locs1 : List Loc), t.heap = H1 → s.vm.Alike t.vm → Wd u t → va_S A s.heap H1 locs1 → Zd u H1 locs1)
    (kk : ∀ (u : S) (H1 : Heap) (locs1 : List Loc), post u → Zd u H1 locs1 → W p l e R s m args below meth c H1 locs1 (cells + mc) (slots + ms) Q (F0 m (pc + 3) ls rest)) : W p l e R s m args below meth c H locs cells slots Q (F0 m pc ls st0) :=
  va_callv hr hS (fun _ _ h => h) (fun _ h => h) (fun u t H1 locs1 ht hvm hw hB _ _ hS => kk u H1 locs1 hw (hp u t H1 locs1 ht hvm hB hS))
theorem x_callr {post : S → Prop} {Wr : S → Nat → State → Prop} {Zr : S → Nat → Heap → List Loc → Prop} (hr : va_Run p l e R s m args below meth c H locs cells slots mc ms (F0 m pc ls st0) rest (va_Qr post Wr A a) A) (hS : va_S A s.heap H locs) (hp : ∀ (u : S) (ra : Nat) (t : State) (H1 : Heap) (locs1 : List Loc), t.heap = H1 → s.vm.Alike t.vm → Wr u ra t → va_S A s.heap H1 locs1 → Zr u ra H1 locs1)
    (kk : ∀ (u : S) (ra : Nat) (H1 : Heap) (locs1 : List Loc), post u → Zr u ra H1 locs1 → W p l e R s m args below meth c H1 locs1 (cells + mc) (slots + ms) Q (F0 m (pc + 3) ls (.ref ra :: rest))) : W p l e R s m args below meth c H locs cells slots Q (F0 m pc ls st0) :=
  va_callr hr hS (fun _ _ h => h) (fun _ h => h) (fun u ra t H1 locs1 ht hvm hw hB _ _ hS => kk u ra H1 locs1 hw (hp u ra t H1 locs1 ht hvm hB hS))
theorem x_xcalli {post : Int32 → S → Prop} {px : SX → Prop} {BX : String → SX → State → Prop} (hr : vx_Run p l e R s m args below meth c H locs cells slots mc ms (F0 m pc ls st0) rest (va_Qi post Wd A a) (vx_X px BX A) A) (hS : va_S A s.heap H locs) (hp : ∀ (u : S) (t : State) (H1 : Heap) (locs1 : List Loc), t.heap = H1 → s.vm.Alike t.vm → Wd u t → va_S A s.heap H1 locs1 → Zd u H1 locs1)
    (kx : ∀ (E : String) (ce : Cell) (q9 : Addr) (u : SX) (t : State) (H1 : Heap) (locs1 : List Loc), t.heap = H1 → s.vm.Alike t.vm → px u → BX E u t → va_S A s.heap H1 locs1 → H1[q9]? = some ce → ce.vm = .none → s.vm.findClass E = some ce.cls → vx_W p l e R s m args below meth c H1 locs1 (cells + mc) (slots + ms) Q (F0 m pc ls rest) q9)
    (kk : ∀ (r : Int32) (u : S) (H1 : Heap) (locs1 : List Loc), post r u → Zd u H1 locs1 → W p l e R s m args below meth c H1 locs1 (cells + mc) (slots + ms) Q (F0 m (pc + 3) ls (.int r :: rest))) : W p l e R s m args below meth c H locs cells slots Q (F0 m pc ls st0) :=
  vx_calli hr hS (fun _ _ h => h) (fun _ h => h) (fun _ _ h => h) (fun E ce q9 u t H1 locs1 ht hvm hpx hB _ _ hS h1 h2 h3 => kx E ce q9 u t H1 locs1 ht hvm hpx hB hS h1 h2 h3) (fun r u t H1 locs1 ht hvm hw hB _ _ hS => kk r u H1 locs1 hw (hp u t H1 locs1 ht hvm hB hS))
theorem x_xcalll {post : Int64 → S → Prop} {px : SX → Prop} {BX : String → SX → State → Prop} (hr : vx_Run p l e R s m args below meth c H locs cells slots mc ms (F0 m pc ls st0) rest (va_Ql post Wd A a) (vx_X px BX A) A) (hS : va_S A s.heap H locs) (hp : ∀ (u : S) (t : State) (H1 : Heap) (locs1 : List Loc), t.heap = H1 → s.vm.Alike t.vm → Wd u t → va_S A s.heap H1 locs1 → Zd u H1 locs1)
    (kx : ∀ (E : String) (ce : Cell) (q9 : Addr) (u : SX) (t : State) (H1 : Heap) (locs1 : List Loc), t.heap = H1 → s.vm.Alike t.vm → px u → BX E u t → va_S A s.heap H1 locs1 → H1[q9]? = some ce → ce.vm = .none → s.vm.findClass E = some ce.cls → vx_W p l e R s m args below meth c H1 locs1 (cells + mc) (slots + ms) Q (F0 m pc ls rest) q9)
    (kk : ∀ (r : Int64) (u : S) (H1 : Heap) (locs1 : List Loc), post r u → Zd u H1 locs1 → W p l e R s m args below meth c H1 locs1 (cells + mc) (slots + ms) Q (F0 m (pc + 3) ls (.long r :: rest))) : W p l e R s m args below meth c H locs cells slots Q (F0 m pc ls st0) :=
  vx_calll hr hS (fun _ _ h => h) (fun _ h => h) (fun _ _ h => h) (fun E ce q9 u t H1 locs1 ht hvm hpx hB _ _ hS h1 h2 h3 => kx E ce q9 u t H1 locs1 ht hvm hpx hB hS h1 h2 h3) (fun r u t H1 locs1 ht hvm hw hB _ _ hS => kk r u H1 locs1 hw (hp u t H1 locs1 ht hvm hB hS))
theorem x_xcallv {post : S → Prop} {px : SX → Prop} {BX : String → SX → State → Prop} (hr : vx_Run p l e R s m args below meth c H locs cells slots mc ms (F0 m pc ls st0) rest (va_Qv post Wd A a) (vx_X px BX A) A) (hS : va_S A s.heap H locs) (hp : ∀ (u : S) (t : State) (H1 : Heap) (locs1 : List Loc), t.heap = H1 → s.vm.Alike t.vm → Wd u t → va_S A s.heap H1 locs1 → Zd u H1 locs1)
    (kx : ∀ (E : String) (ce : Cell) (q9 : Addr) (u : SX) (t : State) (H1 : Heap) (locs1 : List Loc), t.heap = H1 → s.vm.Alike t.vm → px u → BX E u t → va_S A s.heap H1 locs1 → H1[q9]? = some ce → ce.vm = .none → s.vm.findClass E = some ce.cls → vx_W p l e R s m args below meth c H1 locs1 (cells + mc) (slots + ms) Q (F0 m pc ls rest) q9)
    (kk : ∀ (u : S) (H1 : Heap) (locs1 : List Loc), post u → Zd u H1 locs1 → W p l e R s m args below meth c H1 locs1 (cells + mc) (slots + ms) Q (F0 m (pc + 3) ls rest)) : W p l e R s m args below meth c H locs cells slots Q (F0 m pc ls st0) :=
  vx_callv hr hS (fun _ _ h => h) (fun _ h => h) (fun _ _ h => h) (fun E ce q9 u t H1 locs1 ht hvm hpx hB _ _ hS h1 h2 h3 => kx E ce q9 u t H1 locs1 ht hvm hpx hB hS h1 h2 h3) (fun u t H1 locs1 ht hvm hw hB _ _ hS => kk u H1 locs1 hw (hp u t H1 locs1 ht hvm hB hS))
/-- the world in a heap that has only grown -/
theorem gW_grow {t : State} (Z : gZ D (gT cyI cyJ cyO) ws A bs s H locs) (hvm : s.vm.Alike t.vm) (hz : H.size ≤ t.heap.size) (hk : ∀ q : Nat, q < H.size → t.heap[q]? = H[q]?) : gW D (gT cyI cyJ cyO) ws A bs t := ⟨Nat.le_trans (Nat.le_trans Z.2.2.2.2.1 Z.2.2.2.1.1) hz, Z.1.kept (fun k q h => hk q.1 ((Z.1 k q h).lt)), va_K.moved hvm Z.2.1, Z.2.2.1⟩
theorem dW_grow {t : State} (Z : dZ D cyI cyJ cyO A bs P g d eA vr vt ol fd dc ds fw fn ff rw' rn rf' va tr s H locs) (hvm : s.vm.Alike t.vm) (hz : H.size ≤ t.heap.size) (hk : ∀ q : Nat, q < H.size → t.heap[q]? = H[q]?) : dW D cyI cyJ cyO A bs P g d eA vr vt ol fd dc ds fw fn ff rw' rn rf' va tr t := by
  obtain ⟨rs, rr, at', fa, ra, Z, q3⟩ := Z
  exact ⟨rs, rr, at', fa, ra, gW_grow Z hvm hz hk, q3⟩
theorem vaF_grow {t : State} (hS : va_S A s.heap H locs) (hz : H.size ≤ t.heap.size) (hk : ∀ q : Nat, q < H.size → t.heap[q]? = H[q]?) : va_F A s t := ⟨Nat.le_trans hS.1 hz, fun q h1 h2 => (hk q (Nat.lt_of_lt_of_le h1 hS.1)).trans (hS.2.1 q h1 h2)⟩
theorem nestW_use (hN : dN s) : ∀ w ∈ nestW, w.before args s = true := by
  intro w hw
  have h1 := hN.1 w hw
  refine va_Nw.use ?_ h1
  simp only [nestW, List.mem_cons, List.not_mem_nil, or_false] at hw
  rcases hw with rfl | rfl | rfl | rfl | rfl | rfl | rfl | rfl | rfl | rfl | rfl | rfl | rfl | rfl | rfl | rfl | rfl | rfl | rfl | rfl | rfl | rfl | rfl | rfl | rfl <;> rfl
/-- what a throw of one of the five classes asks of the words -/
def xOk (ik ic : Nat) (cls : String) : Prop := Bundle.fit cls = true ∧ (∀ w ∈ Cond.classLink RX3 ik cls :: Cond.initialized cls :: vx_atS RX3 ic cls ["java/lang/RuntimeException", "java/lang/Exception"], vx_ot w = true) ∧ ∀ w ∈ (vx_atS RX3 ic cls ["java/lang/RuntimeException", "java/lang/Exception"]).filter (fun w => !goodWord w), w ∈ nestW
theorem xOk_1 : xOk 204 208 "java/lang/IndexOutOfBoundsException" := ⟨by decide +kernel, by decide +kernel, by decide +kernel⟩
theorem xOk_2 : xOk 62 66 "java/lang/IllegalArgumentException" := ⟨by decide +kernel, by decide +kernel, by decide +kernel⟩
theorem xOk_3 : xOk 93 97 "java/lang/IllegalStateException" := ⟨by decide +kernel, by decide +kernel, by decide +kernel⟩
theorem xOk_4 : xOk 211 215 "java/lang/ArithmeticException" := ⟨by decide +kernel, by decide +kernel, by decide +kernel⟩
theorem xOk_5 : xOk 174 178 "java/util/NoSuchElementException" := ⟨by decide +kernel, by decide +kernel, by decide +kernel⟩
theorem xNames : ∀ n ∈ ["java/lang/RuntimeException", "java/lang/Exception"], Bundle.fit n = true := by decide +kernel
theorem x_throw {ret : Option FieldType} {Qc : Array Value → State → Outcome → State → Prop} {XC : String → State → State → Prop} {ik is ic : Nat} {cls text : String} (hX : xOk ik ic cls) (C0 : gC p m meth c cc nL ret s args Ts RX3) (hxt : ∀ x ∈ c.exceptionTable.toList, False) (hl : l.stackTraces = false) (hN : dN s) (hT : dT A s) (hS : va_S A s.heap H locs) (hstr : (is, text) ∈ strW) (hw1 : Cond.classLink RX3 ik cls ∈ Ts) (hw2 : Cond.initialized cls ∈ Ts) (hat : ∀ w ∈ (vx_atS RX3 ic cls ["java/lang/RuntimeException", "java/lang/Exception"]).filter goodWord, w ∈ Ts) (hsize : ls.size = nL)
    (d0 : decode cc pc = .ok (.new ik, 3)) (d3 : decode cc (pc + 3) = .ok (.dup, 1)) (d4 : decode cc (pc + 4) = .ok (.ldc is, 2)) (d6 : decode cc (pc + 6) = .ok (.invokespecial ic, 3)) (d9 : decode cc (pc + 9) = .ok (.athrow, 1)) (hR : 5 < R.frames ∧ (rest.map fun v => v.category).sum + 82 ≤ R.locals ∧ cells + 1 ≤ R.cells ∧ slots + 6 ≤ R.slots) (hc : cells + 1 ≤ mc) (hs : slots + 6 ≤ ms)
    (hx : ∀ t : State, s.vm.Alike t.vm → H.size ≤ t.heap.size → (∀ q : Nat, q < H.size → t.heap[q]? = H[q]?) → XC cls s t) : W p l e R s m args below meth c H locs cells slots (vx_MQ below Qc XC args s mc ms A) (F0 m pc ls rest) := by
  obtain ⟨sa, hsa⟩ := hN.2 _ hstr
  exact vx_throwS C0.1.1 C0.1.2.1 hl C0.1.2.2.2.1 hX.1 xNames (C0.1.2.2.2.2 _ hw1) (C0.1.2.2.2.2 _ hw2) hsa (vx_hat (fun w hw => C0.1.2.2.2.2 _ (hat w hw)) hX.2.2 (nestW_use hN)) hX.2.1 hT.1 hT.2 hS (hsize.trans C0.1.2.2.1.symm) d0 d3 d4 d6 d9 (fun x hx => (hxt x hx).elim) hR.1 hR.2.1 hR.2.2.1 hR.2.2.2 C0.2.2 hx hS.2.2 hc hs
theorem x_throwW {ret : Option FieldType} {Qc : Array Value → State → Outcome → State → Prop} {XC : String → State → State → Prop} {ik is ic : Nat} {cls text : String} (hX : xOk ik ic cls) (C0 : gC p m meth c cc nL ret s args Ts RX3) (hxt : ∀ x ∈ c.exceptionTable.toList, False) (hl : l.stackTraces = false) (hN : dN s) (hT : dT A s) (hS : va_S A s.heap H locs) (hstr : (is, text) ∈ strW) (hw1 : Cond.classLink RX3 ik cls ∈ Ts) (hw2 : Cond.initialized cls ∈ Ts) (hat : ∀ w ∈ (vx_atS RX3 ic cls ["java/lang/RuntimeException", "java/lang/Exception"]).filter goodWord, w ∈ Ts) (hsize : ls.size = nL)
    (d0 : decode cc pc = .ok (.new ik, 3)) (d3 : decode cc (pc + 3) = .ok (.dup, 1)) (d4 : decode cc (pc + 4) = .ok (.ldc_w is, 3)) (d6 : decode cc (pc + 7) = .ok (.invokespecial ic, 3)) (d9 : decode cc (pc + 10) = .ok (.athrow, 1)) (hR : 5 < R.frames ∧ (rest.map fun v => v.category).sum + 82 ≤ R.locals ∧ cells + 1 ≤ R.cells ∧ slots + 6 ≤ R.slots) (hc : cells + 1 ≤ mc) (hs : slots + 6 ≤ ms)
    (hx : ∀ t : State, s.vm.Alike t.vm → H.size ≤ t.heap.size → (∀ q : Nat, q < H.size → t.heap[q]? = H[q]?) → XC cls s t) : W p l e R s m args below meth c H locs cells slots (vx_MQ below Qc XC args s mc ms A) (F0 m pc ls rest) := by
  obtain ⟨sa, hsa⟩ := hN.2 _ hstr
  exact vx_throwSW C0.1.1 C0.1.2.1 hl C0.1.2.2.2.1 hX.1 xNames (C0.1.2.2.2.2 _ hw1) (C0.1.2.2.2.2 _ hw2) hsa (vx_hat (fun w hw => C0.1.2.2.2.2 _ (hat w hw)) hX.2.2 (nestW_use hN)) hX.2.1 hT.1 hT.2 hS (hsize.trans C0.1.2.2.1.symm) d0 d3 d4 d6 d9 (fun x hx => (hxt x hx).elim) hR.1 hR.2.1 hR.2.2.1 hR.2.2.2 C0.2.2 hx hS.2.2 hc hs
end DCA
end
