section
-- ===== PART A: goes FIRST, ahead of the names: the tables' words, and 'selects' of the private methods out of them =====
/-- a private method of a class that the tables say can be made, by its rows of tables_1 -/
def lw_okq (q : MethodName × Nat) : Prop := (q.1.cls ≠ "java/lang/invoke/MethodHandle" ∧ q.1.cls ≠ "java/lang/invoke/VarHandle") ∧ Cond.instantiable q.1.cls q.2 ∈ tables_1 ∧ Cond.privateMethod q.1 ∈ tables_1 ∧ Cond.instanceMethod q.1 ∈ tables_1
theorem lw_p0 : lw_okq (⟨"TideWheels", "isSheet", "(I)Z"⟩, 14) := ⟨⟨by decide +kernel, by decide +kernel⟩, List.mem_of_getElem? (i := 17) (by decide +kernel), List.mem_of_getElem? (i := 196) (by decide +kernel), List.mem_of_getElem? (i := 197) (by decide +kernel)⟩
theorem lw_p1 : lw_okq (⟨"TideWheels", "rowOf", "(I)LTideWheels$Row;"⟩, 14) := ⟨⟨by decide +kernel, by decide +kernel⟩, List.mem_of_getElem? (i := 17) (by decide +kernel), List.mem_of_getElem? (i := 203) (by decide +kernel), List.mem_of_getElem? (i := 204) (by decide +kernel)⟩
theorem lw_p2 : lw_okq (⟨"TideWheels", "faulted", "(I)I"⟩, 14) := ⟨⟨by decide +kernel, by decide +kernel⟩, List.mem_of_getElem? (i := 17) (by decide +kernel), List.mem_of_getElem? (i := 214) (by decide +kernel), List.mem_of_getElem? (i := 215) (by decide +kernel)⟩
theorem lw_p3 : lw_okq (⟨"TideWheels$Text", "passes", "(I)Z"⟩, 9) := ⟨⟨by decide +kernel, by decide +kernel⟩, List.mem_of_getElem? (i := 27) (by decide +kernel), List.mem_of_getElem? (i := 222) (by decide +kernel), List.mem_of_getElem? (i := 223) (by decide +kernel)⟩
theorem lw_p4 : lw_okq (⟨"TideWheels$Text", "isNext", "(I)Z"⟩, 9) := ⟨⟨by decide +kernel, by decide +kernel⟩, List.mem_of_getElem? (i := 27) (by decide +kernel), List.mem_of_getElem? (i := 226) (by decide +kernel), List.mem_of_getElem? (i := 227) (by decide +kernel)⟩
theorem lw_p5 : lw_okq (⟨"TideWheels$Text", "hasTides", "()Z"⟩, 9) := ⟨⟨by decide +kernel, by decide +kernel⟩, List.mem_of_getElem? (i := 27) (by decide +kernel), List.mem_of_getElem? (i := 233) (by decide +kernel), List.mem_of_getElem? (i := 234) (by decide +kernel)⟩
theorem lw_p6 : lw_okq (⟨"TideWheels$Text", "readDigit", "(II)I"⟩, 9) := ⟨⟨by decide +kernel, by decide +kernel⟩, List.mem_of_getElem? (i := 27) (by decide +kernel), List.mem_of_getElem? (i := 237) (by decide +kernel), List.mem_of_getElem? (i := 238) (by decide +kernel)⟩
theorem lw_p7 : lw_okq (⟨"TideWheels$Text", "hasWorks", "()Z"⟩, 9) := ⟨⟨by decide +kernel, by decide +kernel⟩, List.mem_of_getElem? (i := 27) (by decide +kernel), List.mem_of_getElem? (i := 241) (by decide +kernel), List.mem_of_getElem? (i := 242) (by decide +kernel)⟩
theorem lw_p8 : lw_okq (⟨"TideWheels$Text", "readKind", "()I"⟩, 9) := ⟨⟨by decide +kernel, by decide +kernel⟩, List.mem_of_getElem? (i := 27) (by decide +kernel), List.mem_of_getElem? (i := 245) (by decide +kernel), List.mem_of_getElem? (i := 246) (by decide +kernel)⟩
theorem lw_p9 : lw_okq (⟨"TideWheels", "settle", "()V"⟩, 14) := ⟨⟨by decide +kernel, by decide +kernel⟩, List.mem_of_getElem? (i := 17) (by decide +kernel), List.mem_of_getElem? (i := 249) (by decide +kernel), List.mem_of_getElem? (i := 250) (by decide +kernel)⟩
theorem lw_p10 : lw_okq (⟨"TideWheels$Stopping", "firstToStop", "(II)I"⟩, 2) := ⟨⟨by decide +kernel, by decide +kernel⟩, List.mem_of_getElem? (i := 126) (by decide +kernel), List.mem_of_getElem? (i := 319) (by decide +kernel), List.mem_of_getElem? (i := 320) (by decide +kernel)⟩
theorem lw_p11 : lw_okq (⟨"TideWheels$Stopping", "stopsAhead", "(III)Z"⟩, 2) := ⟨⟨by decide +kernel, by decide +kernel⟩, List.mem_of_getElem? (i := 126) (by decide +kernel), List.mem_of_getElem? (i := 326) (by decide +kernel), List.mem_of_getElem? (i := 327) (by decide +kernel)⟩
theorem lw_p12 : lw_okq (⟨"TideWheels", "workOf", "(I)LTideWheels$Work;"⟩, 14) := ⟨⟨by decide +kernel, by decide +kernel⟩, List.mem_of_getElem? (i := 17) (by decide +kernel), List.mem_of_getElem? (i := 335) (by decide +kernel), List.mem_of_getElem? (i := 336) (by decide +kernel)⟩
theorem lw_p13 : lw_okq (⟨"TideWheels", "hasNoTown", "()Z"⟩, 14) := ⟨⟨by decide +kernel, by decide +kernel⟩, List.mem_of_getElem? (i := 17) (by decide +kernel), List.mem_of_getElem? (i := 356) (by decide +kernel), List.mem_of_getElem? (i := 357) (by decide +kernel)⟩
theorem lw_p14 : lw_okq (⟨"TideWheels$Sea", "tideAt", "(II)I"⟩, 3) := ⟨⟨by decide +kernel, by decide +kernel⟩, List.mem_of_getElem? (i := 79) (by decide +kernel), List.mem_of_getElem? (i := 398) (by decide +kernel), List.mem_of_getElem? (i := 399) (by decide +kernel)⟩
theorem lw_p15 : lw_okq (⟨"TideWheels", "stopped", "(II)I"⟩, 14) := ⟨⟨by decide +kernel, by decide +kernel⟩, List.mem_of_getElem? (i := 17) (by decide +kernel), List.mem_of_getElem? (i := 416) (by decide +kernel), List.mem_of_getElem? (i := 417) (by decide +kernel)⟩
def lw_privs_1 : List (MethodName × Nat) := [(⟨"TideWheels", "isSheet", "(I)Z"⟩, 14), (⟨"TideWheels", "rowOf", "(I)LTideWheels$Row;"⟩, 14), (⟨"TideWheels", "faulted", "(I)I"⟩, 14), (⟨"TideWheels$Text", "passes", "(I)Z"⟩, 9), (⟨"TideWheels$Text", "isNext", "(I)Z"⟩, 9), (⟨"TideWheels$Text", "hasTides", "()Z"⟩, 9), (⟨"TideWheels$Text", "readDigit", "(II)I"⟩, 9), (⟨"TideWheels$Text", "hasWorks", "()Z"⟩, 9), (⟨"TideWheels$Text", "readKind", "()I"⟩, 9), (⟨"TideWheels", "settle", "()V"⟩, 14), (⟨"TideWheels$Stopping", "firstToStop", "(II)I"⟩, 2), (⟨"TideWheels$Stopping", "stopsAhead", "(III)Z"⟩, 2), (⟨"TideWheels", "workOf", "(I)LTideWheels$Work;"⟩, 14), (⟨"TideWheels", "hasNoTown", "()Z"⟩, 14), (⟨"TideWheels$Sea", "tideAt", "(II)I"⟩, 3), (⟨"TideWheels", "stopped", "(II)I"⟩, 14)]
theorem lw_r1 : ∀ q ∈ lw_privs_1, lw_okq q := List.forall_mem_cons.mpr ⟨lw_p0, List.forall_mem_cons.mpr ⟨lw_p1, List.forall_mem_cons.mpr ⟨lw_p2, List.forall_mem_cons.mpr ⟨lw_p3, List.forall_mem_cons.mpr ⟨lw_p4, List.forall_mem_cons.mpr ⟨lw_p5, List.forall_mem_cons.mpr ⟨lw_p6, List.forall_mem_cons.mpr ⟨lw_p7, List.forall_mem_cons.mpr ⟨lw_p8, List.forall_mem_cons.mpr ⟨lw_p9, List.forall_mem_cons.mpr ⟨lw_p10, List.forall_mem_cons.mpr ⟨lw_p11, List.forall_mem_cons.mpr ⟨lw_p12, List.forall_mem_cons.mpr ⟨lw_p13, List.forall_mem_cons.mpr ⟨lw_p14, List.forall_mem_cons.mpr ⟨lw_p15, fun _ h => absurd h List.not_mem_nil⟩⟩⟩⟩⟩⟩⟩⟩⟩⟩⟩⟩⟩⟩⟩⟩
theorem lw_p16 : lw_okq (⟨"TideWheels$Stopping", "takenBy", "(I)I"⟩, 2) := ⟨⟨by decide +kernel, by decide +kernel⟩, List.mem_of_getElem? (i := 126) (by decide +kernel), List.mem_of_getElem? (i := 424) (by decide +kernel), List.mem_of_getElem? (i := 425) (by decide +kernel)⟩
theorem lw_p17 : lw_okq (⟨"TideWheels", "weakest", "(II)I"⟩, 14) := ⟨⟨by decide +kernel, by decide +kernel⟩, List.mem_of_getElem? (i := 17) (by decide +kernel), List.mem_of_getElem? (i := 458) (by decide +kernel), List.mem_of_getElem? (i := 459) (by decide +kernel)⟩
theorem lw_p18 : lw_okq (⟨"TideWheels", "lateTogether", "()I"⟩, 14) := ⟨⟨by decide +kernel, by decide +kernel⟩, List.mem_of_getElem? (i := 17) (by decide +kernel), List.mem_of_getElem? (i := 475) (by decide +kernel), List.mem_of_getElem? (i := 476) (by decide +kernel)⟩
theorem lw_p19 : lw_okq (⟨"TideWheels", "refusalOfPlan", "(LTideWheels$Row;II)I"⟩, 14) := ⟨⟨by decide +kernel, by decide +kernel⟩, List.mem_of_getElem? (i := 17) (by decide +kernel), List.mem_of_getElem? (i := 483) (by decide +kernel), List.mem_of_getElem? (i := 484) (by decide +kernel)⟩
theorem lw_p20 : lw_okq (⟨"TideWheels", "lateByPlan", "(LTideWheels$Row;II)I"⟩, 14) := ⟨⟨by decide +kernel, by decide +kernel⟩, List.mem_of_getElem? (i := 17) (by decide +kernel), List.mem_of_getElem? (i := 495) (by decide +kernel), List.mem_of_getElem? (i := 496) (by decide +kernel)⟩
theorem lw_p21 : lw_okq (⟨"TideWheels", "fits", "(LTideWheels$Stopping;II)Z"⟩, 14) := ⟨⟨by decide +kernel, by decide +kernel⟩, List.mem_of_getElem? (i := 17) (by decide +kernel), List.mem_of_getElem? (i := 511) (by decide +kernel), List.mem_of_getElem? (i := 512) (by decide +kernel)⟩
theorem lw_p22 : lw_okq (⟨"TideWheels$Row", "cut", "(I)I"⟩, 2) := ⟨⟨by decide +kernel, by decide +kernel⟩, List.mem_of_getElem? (i := 545) (by decide +kernel), List.mem_of_getElem? (i := 573) (by decide +kernel), List.mem_of_getElem? (i := 574) (by decide +kernel)⟩
theorem lw_p23 : lw_okq (⟨"TideWheelsModel", "refused", "(I)I"⟩, 29) := ⟨⟨by decide +kernel, by decide +kernel⟩, List.mem_of_getElem? (i := 647) (by decide +kernel), List.mem_of_getElem? (i := 752) (by decide +kernel), List.mem_of_getElem? (i := 753) (by decide +kernel)⟩
theorem lw_p24 : lw_okq (⟨"TideWheelsModel", "cellsBarred", "(IIIJ)I"⟩, 29) := ⟨⟨by decide +kernel, by decide +kernel⟩, List.mem_of_getElem? (i := 647) (by decide +kernel), List.mem_of_getElem? (i := 757) (by decide +kernel), List.mem_of_getElem? (i := 758) (by decide +kernel)⟩
theorem lw_p25 : lw_okq (⟨"TideWheelsModel", "failed", "(I)I"⟩, 29) := ⟨⟨by decide +kernel, by decide +kernel⟩, List.mem_of_getElem? (i := 647) (by decide +kernel), List.mem_of_getElem? (i := 761) (by decide +kernel), List.mem_of_getElem? (i := 762) (by decide +kernel)⟩
theorem lw_p26 : lw_okq (⟨"TideWheelsModel", "readsTown", "(II)Z"⟩, 29) := ⟨⟨by decide +kernel, by decide +kernel⟩, List.mem_of_getElem? (i := 647) (by decide +kernel), List.mem_of_getElem? (i := 768) (by decide +kernel), List.mem_of_getElem? (i := 769) (by decide +kernel)⟩
theorem lw_p27 : lw_okq (⟨"TideWheelsModel", "codeAt", "(II)I"⟩, 29) := ⟨⟨by decide +kernel, by decide +kernel⟩, List.mem_of_getElem? (i := 647) (by decide +kernel), List.mem_of_getElem? (i := 772) (by decide +kernel), List.mem_of_getElem? (i := 773) (by decide +kernel)⟩
theorem lw_p28 : lw_okq (⟨"TideWheelsModel", "readsTide", "(II)Z"⟩, 29) := ⟨⟨by decide +kernel, by decide +kernel⟩, List.mem_of_getElem? (i := 647) (by decide +kernel), List.mem_of_getElem? (i := 776) (by decide +kernel), List.mem_of_getElem? (i := 777) (by decide +kernel)⟩
theorem lw_p29 : lw_okq (⟨"TideWheelsModel", "figure", "(IIII)I"⟩, 29) := ⟨⟨by decide +kernel, by decide +kernel⟩, List.mem_of_getElem? (i := 647) (by decide +kernel), List.mem_of_getElem? (i := 780) (by decide +kernel), List.mem_of_getElem? (i := 781) (by decide +kernel)⟩
theorem lw_p30 : lw_okq (⟨"TideWheelsModel", "readsWork", "(II)Z"⟩, 29) := ⟨⟨by decide +kernel, by decide +kernel⟩, List.mem_of_getElem? (i := 647) (by decide +kernel), List.mem_of_getElem? (i := 784) (by decide +kernel), List.mem_of_getElem? (i := 785) (by decide +kernel)⟩
theorem lw_p31 : lw_okq (⟨"TideWheelsModel", "everyWork", "()I"⟩, 29) := ⟨⟨by decide +kernel, by decide +kernel⟩, List.mem_of_getElem? (i := 647) (by decide +kernel), List.mem_of_getElem? (i := 788) (by decide +kernel), List.mem_of_getElem? (i := 789) (by decide +kernel)⟩
def lw_privs_2 : List (MethodName × Nat) := [(⟨"TideWheels$Stopping", "takenBy", "(I)I"⟩, 2), (⟨"TideWheels", "weakest", "(II)I"⟩, 14), (⟨"TideWheels", "lateTogether", "()I"⟩, 14), (⟨"TideWheels", "refusalOfPlan", "(LTideWheels$Row;II)I"⟩, 14), (⟨"TideWheels", "lateByPlan", "(LTideWheels$Row;II)I"⟩, 14), (⟨"TideWheels", "fits", "(LTideWheels$Stopping;II)Z"⟩, 14), (⟨"TideWheels$Row", "cut", "(I)I"⟩, 2), (⟨"TideWheelsModel", "refused", "(I)I"⟩, 29), (⟨"TideWheelsModel", "cellsBarred", "(IIIJ)I"⟩, 29), (⟨"TideWheelsModel", "failed", "(I)I"⟩, 29), (⟨"TideWheelsModel", "readsTown", "(II)Z"⟩, 29), (⟨"TideWheelsModel", "codeAt", "(II)I"⟩, 29), (⟨"TideWheelsModel", "readsTide", "(II)Z"⟩, 29), (⟨"TideWheelsModel", "figure", "(IIII)I"⟩, 29), (⟨"TideWheelsModel", "readsWork", "(II)Z"⟩, 29), (⟨"TideWheelsModel", "everyWork", "()I"⟩, 29)]
theorem lw_r2 : ∀ q ∈ lw_privs_2, lw_okq q := List.forall_mem_cons.mpr ⟨lw_p16, List.forall_mem_cons.mpr ⟨lw_p17, List.forall_mem_cons.mpr ⟨lw_p18, List.forall_mem_cons.mpr ⟨lw_p19, List.forall_mem_cons.mpr ⟨lw_p20, List.forall_mem_cons.mpr ⟨lw_p21, List.forall_mem_cons.mpr ⟨lw_p22, List.forall_mem_cons.mpr ⟨lw_p23, List.forall_mem_cons.mpr ⟨lw_p24, List.forall_mem_cons.mpr ⟨lw_p25, List.forall_mem_cons.mpr ⟨lw_p26, List.forall_mem_cons.mpr ⟨lw_p27, List.forall_mem_cons.mpr ⟨lw_p28, List.forall_mem_cons.mpr ⟨lw_p29, List.forall_mem_cons.mpr ⟨lw_p30, List.forall_mem_cons.mpr ⟨lw_p31, fun _ h => absurd h List.not_mem_nil⟩⟩⟩⟩⟩⟩⟩⟩⟩⟩⟩⟩⟩⟩⟩⟩
theorem lw_p32 : lw_okq (⟨"TideWheelsModel", "noWork", "(I)Z"⟩, 29) := ⟨⟨by decide +kernel, by decide +kernel⟩, List.mem_of_getElem? (i := 647) (by decide +kernel), List.mem_of_getElem? (i := 796) (by decide +kernel), List.mem_of_getElem? (i := 797) (by decide +kernel)⟩
theorem lw_p33 : lw_okq (⟨"TideWheelsModel", "takesOf", "(I)I"⟩, 29) := ⟨⟨by decide +kernel, by decide +kernel⟩, List.mem_of_getElem? (i := 647) (by decide +kernel), List.mem_of_getElem? (i := 800) (by decide +kernel), List.mem_of_getElem? (i := 801) (by decide +kernel)⟩
theorem lw_p34 : lw_okq (⟨"TideWheelsModel", "refusedFor", "(I)I"⟩, 29) := ⟨⟨by decide +kernel, by decide +kernel⟩, List.mem_of_getElem? (i := 647) (by decide +kernel), List.mem_of_getElem? (i := 836) (by decide +kernel), List.mem_of_getElem? (i := 837) (by decide +kernel)⟩
theorem lw_p35 : lw_okq (⟨"TideWheelsModel", "strengthOf", "(I)I"⟩, 29) := ⟨⟨by decide +kernel, by decide +kernel⟩, List.mem_of_getElem? (i := 647) (by decide +kernel), List.mem_of_getElem? (i := 840) (by decide +kernel), List.mem_of_getElem? (i := 841) (by decide +kernel)⟩
theorem lw_p36 : lw_okq (⟨"TideWheelsModel", "goIn", "(I)I"⟩, 29) := ⟨⟨by decide +kernel, by decide +kernel⟩, List.mem_of_getElem? (i := 647) (by decide +kernel), List.mem_of_getElem? (i := 848) (by decide +kernel), List.mem_of_getElem? (i := 849) (by decide +kernel)⟩
theorem lw_p37 : lw_okq (⟨"TideWheelsModel", "takesAll", "(I)I"⟩, 29) := ⟨⟨by decide +kernel, by decide +kernel⟩, List.mem_of_getElem? (i := 647) (by decide +kernel), List.mem_of_getElem? (i := 852) (by decide +kernel), List.mem_of_getElem? (i := 853) (by decide +kernel)⟩
theorem lw_p38 : lw_okq (⟨"TideWheelsModel", "takesNow", "(I)I"⟩, 29) := ⟨⟨by decide +kernel, by decide +kernel⟩, List.mem_of_getElem? (i := 647) (by decide +kernel), List.mem_of_getElem? (i := 856) (by decide +kernel), List.mem_of_getElem? (i := 857) (by decide +kernel)⟩
theorem lw_p39 : lw_okq (⟨"TideWheelsModel", "stopsFirst", "(I)I"⟩, 29) := ⟨⟨by decide +kernel, by decide +kernel⟩, List.mem_of_getElem? (i := 647) (by decide +kernel), List.mem_of_getElem? (i := 860) (by decide +kernel), List.mem_of_getElem? (i := 861) (by decide +kernel)⟩
theorem lw_p40 : lw_okq (⟨"TideWheelsModel", "goTo", "(I)V"⟩, 29) := ⟨⟨by decide +kernel, by decide +kernel⟩, List.mem_of_getElem? (i := 647) (by decide +kernel), List.mem_of_getElem? (i := 868) (by decide +kernel), List.mem_of_getElem? (i := 869) (by decide +kernel)⟩
theorem lw_p41 : lw_okq (⟨"TideWheelsModel", "beginHours", "()V"⟩, 29) := ⟨⟨by decide +kernel, by decide +kernel⟩, List.mem_of_getElem? (i := 647) (by decide +kernel), List.mem_of_getElem? (i := 872) (by decide +kernel), List.mem_of_getElem? (i := 873) (by decide +kernel)⟩
theorem lw_p42 : lw_okq (⟨"TideWheelsModel", "goHour", "(I)V"⟩, 29) := ⟨⟨by decide +kernel, by decide +kernel⟩, List.mem_of_getElem? (i := 647) (by decide +kernel), List.mem_of_getElem? (i := 876) (by decide +kernel), List.mem_of_getElem? (i := 877) (by decide +kernel)⟩
theorem lw_p43 : lw_okq (⟨"TideWheelsModel", "areAlike", "()Z"⟩, 29) := ⟨⟨by decide +kernel, by decide +kernel⟩, List.mem_of_getElem? (i := 647) (by decide +kernel), List.mem_of_getElem? (i := 888) (by decide +kernel), List.mem_of_getElem? (i := 889) (by decide +kernel)⟩
theorem lw_p44 : lw_okq (⟨"TideWheelsModel", "doesGo", "(III)Z"⟩, 29) := ⟨⟨by decide +kernel, by decide +kernel⟩, List.mem_of_getElem? (i := 647) (by decide +kernel), List.mem_of_getElem? (i := 899) (by decide +kernel), List.mem_of_getElem? (i := 900) (by decide +kernel)⟩
theorem lw_p45 : lw_okq (⟨"TideWheelsModel", "lateAll", "()I"⟩, 29) := ⟨⟨by decide +kernel, by decide +kernel⟩, List.mem_of_getElem? (i := 647) (by decide +kernel), List.mem_of_getElem? (i := 907) (by decide +kernel), List.mem_of_getElem? (i := 908) (by decide +kernel)⟩
theorem lw_p46 : lw_okq (⟨"TideWheelsModel", "lateBy", "(II)I"⟩, 29) := ⟨⟨by decide +kernel, by decide +kernel⟩, List.mem_of_getElem? (i := 647) (by decide +kernel), List.mem_of_getElem? (i := 916) (by decide +kernel), List.mem_of_getElem? (i := 917) (by decide +kernel)⟩
theorem lw_p47 : lw_okq (⟨"TideWheelsModel", "areSo", "()Z"⟩, 29) := ⟨⟨by decide +kernel, by decide +kernel⟩, List.mem_of_getElem? (i := 647) (by decide +kernel), List.mem_of_getElem? (i := 933) (by decide +kernel), List.mem_of_getElem? (i := 934) (by decide +kernel)⟩
def lw_privs_3 : List (MethodName × Nat) := [(⟨"TideWheelsModel", "noWork", "(I)Z"⟩, 29), (⟨"TideWheelsModel", "takesOf", "(I)I"⟩, 29), (⟨"TideWheelsModel", "refusedFor", "(I)I"⟩, 29), (⟨"TideWheelsModel", "strengthOf", "(I)I"⟩, 29), (⟨"TideWheelsModel", "goIn", "(I)I"⟩, 29), (⟨"TideWheelsModel", "takesAll", "(I)I"⟩, 29), (⟨"TideWheelsModel", "takesNow", "(I)I"⟩, 29), (⟨"TideWheelsModel", "stopsFirst", "(I)I"⟩, 29), (⟨"TideWheelsModel", "goTo", "(I)V"⟩, 29), (⟨"TideWheelsModel", "beginHours", "()V"⟩, 29), (⟨"TideWheelsModel", "goHour", "(I)V"⟩, 29), (⟨"TideWheelsModel", "areAlike", "()Z"⟩, 29), (⟨"TideWheelsModel", "doesGo", "(III)Z"⟩, 29), (⟨"TideWheelsModel", "lateAll", "()I"⟩, 29), (⟨"TideWheelsModel", "lateBy", "(II)I"⟩, 29), (⟨"TideWheelsModel", "areSo", "()Z"⟩, 29)]
theorem lw_r3 : ∀ q ∈ lw_privs_3, lw_okq q := List.forall_mem_cons.mpr ⟨lw_p32, List.forall_mem_cons.mpr ⟨lw_p33, List.forall_mem_cons.mpr ⟨lw_p34, List.forall_mem_cons.mpr ⟨lw_p35, List.forall_mem_cons.mpr ⟨lw_p36, List.forall_mem_cons.mpr ⟨lw_p37, List.forall_mem_cons.mpr ⟨lw_p38, List.forall_mem_cons.mpr ⟨lw_p39, List.forall_mem_cons.mpr ⟨lw_p40, List.forall_mem_cons.mpr ⟨lw_p41, List.forall_mem_cons.mpr ⟨lw_p42, List.forall_mem_cons.mpr ⟨lw_p43, List.forall_mem_cons.mpr ⟨lw_p44, List.forall_mem_cons.mpr ⟨lw_p45, List.forall_mem_cons.mpr ⟨lw_p46, List.forall_mem_cons.mpr ⟨lw_p47, fun _ h => absurd h List.not_mem_nil⟩⟩⟩⟩⟩⟩⟩⟩⟩⟩⟩⟩⟩⟩⟩⟩
theorem lw_p48 : lw_okq (⟨"TideWheelsModel", "noCell", "(II)I"⟩, 29) := ⟨⟨by decide +kernel, by decide +kernel⟩, List.mem_of_getElem? (i := 647) (by decide +kernel), List.mem_of_getElem? (i := 972) (by decide +kernel), List.mem_of_getElem? (i := 973) (by decide +kernel)⟩
theorem lw_p49 : lw_okq (⟨"TideWheelsModel", "failedLong", "(I)J"⟩, 29) := ⟨⟨by decide +kernel, by decide +kernel⟩, List.mem_of_getElem? (i := 647) (by decide +kernel), List.mem_of_getElem? (i := 980) (by decide +kernel), List.mem_of_getElem? (i := 981) (by decide +kernel)⟩
theorem lw_p50 : lw_okq (⟨"TideWheelsModel", "traced", "(I)V"⟩, 29) := ⟨⟨by decide +kernel, by decide +kernel⟩, List.mem_of_getElem? (i := 647) (by decide +kernel), List.mem_of_getElem? (i := 992) (by decide +kernel), List.mem_of_getElem? (i := 993) (by decide +kernel)⟩
def lw_privs_4 : List (MethodName × Nat) := [(⟨"TideWheelsModel", "noCell", "(II)I"⟩, 29), (⟨"TideWheelsModel", "failedLong", "(I)J"⟩, 29), (⟨"TideWheelsModel", "traced", "(I)V"⟩, 29)]
theorem lw_r4 : ∀ q ∈ lw_privs_4, lw_okq q := List.forall_mem_cons.mpr ⟨lw_p48, List.forall_mem_cons.mpr ⟨lw_p49, List.forall_mem_cons.mpr ⟨lw_p50, fun _ h => absurd h List.not_mem_nil⟩⟩⟩
def lw_privs : List (MethodName × Nat) := lw_privs_1 ++ (lw_privs_2 ++ (lw_privs_3 ++ (lw_privs_4)))
def lw_tbl : List Cond := k2_sels lw_privs ++ tables_1
theorem lw_privs_ok : ∀ q ∈ lw_privs, lw_okq q := by
  show ∀ q ∈ lw_privs_1 ++ (lw_privs_2 ++ (lw_privs_3 ++ (lw_privs_4))), lw_okq q
  exact List.forall_mem_append.mpr ⟨lw_r1, List.forall_mem_append.mpr ⟨lw_r2, List.forall_mem_append.mpr ⟨lw_r3, lw_r4⟩⟩⟩
end
section
/-! the tables: classes, methods, calls, fields, by numbers; each list is checked against the words of the Statement by one count -/
def tw_R : Nat → String
  | 0 => "TideWheels$Barnacled"
  | 1 => "TideWheels$Lateness"
  | 2 => "TideWheels$Notes"
  | 3 => "TideWheels$Row"
  | 4 => "TideWheels$Saint"
  | 5 => "TideWheels$Sea"
  | 6 => "TideWheels$Stopping"
  | 7 => "TideWheels$Text"
  | 8 => "TideWheels$Trace"
  | 9 => "TideWheels$Work"
  | 10 => "TideWheels"
  | 11 => "TideWheelsModel"
  | 12 => "TideWheelsLaw"
  | _ => "java/lang/Integer"
def tw_T0 : u_T := fun k => match k with
  | 0 => ("TideWheels$Work", "number", "I", true)
  | _ => ("TideWheels$Work", "weight", "I", true)
def tw_t0 : Nat → FieldType := fun k => match k with
  | 0 => .int
  | _ => .int
def tw_T1 : u_T := fun k => match k with
  | _ => ("TideWheels$Lateness", "late", "[I", true)
def tw_t1 : Nat → FieldType := fun k => match k with
  | _ => .array .int
def tw_T2 : u_T := fun k => match k with
  | 0 => ("TideWheels$Notes", "count", "I", false)
  | 1 => ("TideWheels$Notes", "works", "[I", true)
  | 2 => ("TideWheels$Notes", "hours", "[I", true)
  | _ => ("TideWheels$Notes", "amounts", "[I", true)
def tw_t2 : Nat → FieldType := fun k => match k with
  | 0 => .int
  | 1 => .array .int
  | 2 => .array .int
  | _ => .array .int
def tw_T3 : u_T := fun k => match k with
  | 0 => ("TideWheels$Row", "lane", "I", true)
  | _ => ("TideWheels$Row", "cells", "[I", true)
def tw_t3 : Nat → FieldType := fun k => match k with
  | 0 => .int
  | _ => .array .int
def tw_T4 : u_T := fun k => match k with
  | 0 => ("TideWheels$Work", "number", "I", true)
  | _ => ("TideWheels$Work", "weight", "I", true)
def tw_t4 : Nat → FieldType := fun k => match k with
  | 0 => .int
  | _ => .int
def tw_T5 : u_T := fun k => match k with
  | 0 => ("TideWheels$Sea", "storms", "LTideWheels$Notes;", true)
  | 1 => ("TideWheels$Sea", "tideCount", "I", false)
  | _ => ("TideWheels$Sea", "tides", "[I", true)
def tw_t5 : Nat → FieldType := fun k => match k with
  | 0 => .object "TideWheels$Notes"
  | 1 => .int
  | _ => .array .int
def tw_T6 : u_T := fun k => match k with
  | 0 => ("TideWheels$Stopping", "takes", "[I", true)
  | _ => ("TideWheels$Stopping", "order", "[I", true)
def tw_t6 : Nat → FieldType := fun k => match k with
  | 0 => .array .int
  | _ => .array .int
def tw_T7 : u_T := fun k => match k with
  | 0 => ("TideWheels$Text", "strengths", "[I", true)
  | 1 => ("TideWheels$Text", "kinds", "[I", true)
  | 2 => ("TideWheels$Text", "weights", "[I", true)
  | 3 => ("TideWheels$Text", "tides", "I", false)
  | 4 => ("TideWheels$Text", "works", "I", false)
  | 5 => ("TideWheels$Text", "place", "I", false)
  | 6 => ("TideWheels$Text", "codes", "[I", false)
  | 7 => ("TideWheels$Text", "from", "I", false)
  | _ => ("TideWheels$Text", "size", "I", false)
def tw_t7 : Nat → FieldType := fun k => match k with
  | 0 => .array .int
  | 1 => .array .int
  | 2 => .array .int
  | 3 => .int
  | 4 => .int
  | 5 => .int
  | 6 => .array .int
  | 7 => .int
  | _ => .int
def tw_T8 : u_T := fun k => match k with
  | _ => ("TideWheels$Trace", "sum", "I", false)
def tw_t8 : Nat → FieldType := fun k => match k with
  | _ => .int
def tw_T9 : u_T := fun k => match k with
  | 0 => ("TideWheels$Work", "number", "I", true)
  | _ => ("TideWheels$Work", "weight", "I", true)
def tw_t9 : Nat → FieldType := fun k => match k with
  | 0 => .int
  | _ => .int
def tw_T10 : u_T := fun k => match k with
  | 0 => ("TideWheels", "sheets", "[LTideWheels$Row;", true)
  | 1 => ("TideWheels", "text", "LTideWheels$Text;", true)
  | 2 => ("TideWheels", "trace", "LTideWheels$Trace;", true)
  | 3 => ("TideWheels", "sea", "LTideWheels$Sea;", true)
  | 4 => ("TideWheels", "readings", "LTideWheels$Notes;", true)
  | 5 => ("TideWheels", "works", "[LTideWheels$Work;", true)
  | 6 => ("TideWheels", "asItIs", "LTideWheels$Stopping;", true)
  | 7 => ("TideWheels", "otherwise", "LTideWheels$Stopping;", true)
  | 8 => ("TideWheels", "lateness", "LTideWheels$Lateness;", true)
  | 9 => ("TideWheels", "workCount", "I", false)
  | 10 => ("TideWheels", "hooked", "I", false)
  | 11 => ("TideWheels", "law", "I", false)
  | 12 => ("TideWheels", "start", "I", false)
  | _ => ("TideWheels", "fault", "I", false)
def tw_t10 : Nat → FieldType := fun k => match k with
  | 0 => .array (.object "TideWheels$Row")
  | 1 => .object "TideWheels$Text"
  | 2 => .object "TideWheels$Trace"
  | 3 => .object "TideWheels$Sea"
  | 4 => .object "TideWheels$Notes"
  | 5 => .array (.object "TideWheels$Work")
  | 6 => .object "TideWheels$Stopping"
  | 7 => .object "TideWheels$Stopping"
  | 8 => .object "TideWheels$Lateness"
  | 9 => .int
  | 10 => .int
  | 11 => .int
  | 12 => .int
  | _ => .int
def tw_T11 : u_T := fun k => match k with
  | 0 => ("TideWheelsModel", "fault", "I", false)
  | 1 => ("TideWheelsModel", "tides", "I", false)
  | 2 => ("TideWheelsModel", "tideOf", "[I", true)
  | 3 => ("TideWheelsModel", "works", "I", false)
  | 4 => ("TideWheelsModel", "kindOf", "[I", true)
  | 5 => ("TideWheelsModel", "weightOf", "[I", true)
  | 6 => ("TideWheelsModel", "hooked", "I", false)
  | 7 => ("TideWheelsModel", "lawNow", "I", false)
  | 8 => ("TideWheelsModel", "startNow", "I", false)
  | 9 => ("TideWheelsModel", "hangsOn", "I", false)
  | 10 => ("TideWheelsModel", "readAt", "I", false)
  | 11 => ("TideWheelsModel", "readTides", "I", false)
  | 12 => ("TideWheelsModel", "readWorks", "I", false)
  | 13 => ("TideWheelsModel", "readTide", "[I", true)
  | 14 => ("TideWheelsModel", "readKind", "[I", true)
  | 15 => ("TideWheelsModel", "readWeight", "[I", true)
  | 16 => ("TideWheelsModel", "storms", "I", false)
  | 17 => ("TideWheelsModel", "stormIn", "[I", true)
  | 18 => ("TideWheelsModel", "stormOf", "[I", true)
  | 19 => ("TideWheelsModel", "lateNow", "[I", true)
  | 20 => ("TideWheelsModel", "readings", "I", false)
  | 21 => ("TideWheelsModel", "readingOf", "[I", true)
  | 22 => ("TideWheelsModel", "readingIn", "[I", true)
  | 23 => ("TideWheelsModel", "readingLate", "[I", true)
  | 24 => ("TideWheelsModel", "sheetSize", "[I", true)
  | 25 => ("TideWheelsModel", "sheetLane", "[I", true)
  | 26 => ("TideWheelsModel", "sheet", "[I", true)
  | 27 => ("TideWheelsModel", "hands", "[I", true)
  | _ => ("TideWheelsModel", "traceNow", "I", false)
def tw_t11 : Nat → FieldType := fun k => match k with
  | 0 => .int
  | 1 => .int
  | 2 => .array .int
  | 3 => .int
  | 4 => .array .int
  | 5 => .array .int
  | 6 => .int
  | 7 => .int
  | 8 => .int
  | 9 => .int
  | 10 => .int
  | 11 => .int
  | 12 => .int
  | 13 => .array .int
  | 14 => .array .int
  | 15 => .array .int
  | 16 => .int
  | 17 => .array .int
  | 18 => .array .int
  | 19 => .array .int
  | 20 => .int
  | 21 => .array .int
  | 22 => .array .int
  | 23 => .array .int
  | 24 => .array .int
  | 25 => .array .int
  | 26 => .array .int
  | 27 => .array .int
  | _ => .int
def tw_T : Nat → u_T
  | 0 => tw_T0
  | 1 => tw_T1
  | 2 => tw_T2
  | 3 => tw_T3
  | 4 => tw_T4
  | 5 => tw_T5
  | 6 => tw_T6
  | 7 => tw_T7
  | 8 => tw_T8
  | 9 => tw_T9
  | 10 => tw_T10
  | _ => tw_T11
def tw_t : Nat → Nat → FieldType
  | 0 => tw_t0
  | 1 => tw_t1
  | 2 => tw_t2
  | 3 => tw_t3
  | 4 => tw_t4
  | 5 => tw_t5
  | 6 => tw_t6
  | 7 => tw_t7
  | 8 => tw_t8
  | 9 => tw_t9
  | 10 => tw_t10
  | _ => tw_t11
def tw_N : Nat → Nat
  | 0 => 2
  | 1 => 1
  | 2 => 4
  | 3 => 2
  | 4 => 2
  | 5 => 3
  | 6 => 2
  | 7 => 9
  | 8 => 1
  | 9 => 2
  | 10 => 14
  | _ => 29
/-- what a new object of a class holds -/
def tw_df : Nat → List Value
  | 0 => [.int 0, .int 0]
  | 1 => [.null]
  | 2 => [.int 0, .null, .null, .null]
  | 3 => [.int 0, .null]
  | 4 => [.int 0, .int 0]
  | 5 => [.null, .int 0, .null]
  | 6 => [.null, .null]
  | 7 => [.null, .null, .null, .int 0, .int 0, .int 0, .null, .int 0, .int 0]
  | 8 => [.int 0]
  | 9 => [.int 0, .int 0]
  | 10 => [.null, .null, .null, .null, .null, .null, .null, .null, .null, .int 0, .int 0, .int 0, .int 0, .int 0]
  | _ => [.int 0, .int 0, .null, .int 0, .null, .null, .int 0, .int 0, .int 0, .int 0, .int 0, .int 0, .int 0, .null, .null, .null, .int 0, .null, .null, .null, .int 0, .null, .null, .null, .null, .null, .null, .null, .int 0]
def tw_cl : List vw_C := (List.range 12).map fun c => (tw_R c, tw_T c, tw_N c)
theorem tw_mem {w : Cond} (i : Nat) (h : lw_tbl[i]? = some w) : w ∈ lw_tbl := List.mem_of_getElem? h
def tw_is (i : Nat) (w : Cond) : Bool := decide (lw_tbl[i]? = some w)
theorem tw_is.mem {i : Nat} {w : Cond} (h : tw_is i w = true) : w ∈ lw_tbl := tw_mem i (of_decide_eq_true h)
def tw_lp : Nat → List Nat
  | 0 => [330, 331]
  | 1 => [196]
  | 2 => [151, 153, 155, 157]
  | 3 => [606, 608]
  | 4 => [322, 324]
  | 5 => [165, 167, 169]
  | 6 => [184, 186]
  | 7 => [98, 100, 102, 104, 106, 108, 110, 112, 114]
  | 8 => [126]
  | 9 => [335, 336]
  | 10 => [213, 215, 217, 219, 221, 223, 225, 227, 229, 231, 233, 235, 237, 239]
  | _ => [732, 734, 736, 738, 740, 742, 744, 746, 748, 750, 752, 754, 756, 758, 760, 762, 764, 766, 768, 770, 772, 774, 776, 778, 780, 782, 784, 786, 788]
def tw_lc (c k : Nat) : Bool := tw_is ((tw_lp c).getD k 0) (u_lay (tw_R c) (tw_T c) k)
theorem tw_lc0 : (List.range (tw_N 0)).all (tw_lc 0) = true := by decide +kernel
theorem tw_nm0 : ∀ a, a < tw_N 0 → ∀ b, b < tw_N 0 → a ≠ b → (tw_T 0 a).2.1 ≠ (tw_T 0 b).2.1 := by decide +kernel
theorem tw_tk0 : ∀ k, k < tw_N 0 → parseFieldDescriptor (tw_T 0 k).2.2.1 = some (tw_t 0 k) := by decide +kernel
theorem tw_dk0 : ∀ k, k < tw_N 0 → defaultValue (tw_t 0 k) = vp_V (tw_df 0) k := by decide +kernel
theorem tw_lc1 : (List.range (tw_N 1)).all (tw_lc 1) = true := by decide +kernel
theorem tw_nm1 : ∀ a, a < tw_N 1 → ∀ b, b < tw_N 1 → a ≠ b → (tw_T 1 a).2.1 ≠ (tw_T 1 b).2.1 := by decide +kernel
theorem tw_tk1 : ∀ k, k < tw_N 1 → parseFieldDescriptor (tw_T 1 k).2.2.1 = some (tw_t 1 k) := by decide +kernel
theorem tw_dk1 : ∀ k, k < tw_N 1 → defaultValue (tw_t 1 k) = vp_V (tw_df 1) k := by decide +kernel
theorem tw_lc2 : (List.range (tw_N 2)).all (tw_lc 2) = true := by decide +kernel
theorem tw_nm2 : ∀ a, a < tw_N 2 → ∀ b, b < tw_N 2 → a ≠ b → (tw_T 2 a).2.1 ≠ (tw_T 2 b).2.1 := by decide +kernel
theorem tw_tk2 : ∀ k, k < tw_N 2 → parseFieldDescriptor (tw_T 2 k).2.2.1 = some (tw_t 2 k) := by decide +kernel
theorem tw_dk2 : ∀ k, k < tw_N 2 → defaultValue (tw_t 2 k) = vp_V (tw_df 2) k := by decide +kernel
theorem tw_lc3 : (List.range (tw_N 3)).all (tw_lc 3) = true := by decide +kernel
theorem tw_nm3 : ∀ a, a < tw_N 3 → ∀ b, b < tw_N 3 → a ≠ b → (tw_T 3 a).2.1 ≠ (tw_T 3 b).2.1 := by decide +kernel
theorem tw_tk3 : ∀ k, k < tw_N 3 → parseFieldDescriptor (tw_T 3 k).2.2.1 = some (tw_t 3 k) := by decide +kernel
theorem tw_dk3 : ∀ k, k < tw_N 3 → defaultValue (tw_t 3 k) = vp_V (tw_df 3) k := by decide +kernel
theorem tw_lc4 : (List.range (tw_N 4)).all (tw_lc 4) = true := by decide +kernel
theorem tw_nm4 : ∀ a, a < tw_N 4 → ∀ b, b < tw_N 4 → a ≠ b → (tw_T 4 a).2.1 ≠ (tw_T 4 b).2.1 := by decide +kernel
theorem tw_tk4 : ∀ k, k < tw_N 4 → parseFieldDescriptor (tw_T 4 k).2.2.1 = some (tw_t 4 k) := by decide +kernel
theorem tw_dk4 : ∀ k, k < tw_N 4 → defaultValue (tw_t 4 k) = vp_V (tw_df 4) k := by decide +kernel
theorem tw_lc5 : (List.range (tw_N 5)).all (tw_lc 5) = true := by decide +kernel
theorem tw_nm5 : ∀ a, a < tw_N 5 → ∀ b, b < tw_N 5 → a ≠ b → (tw_T 5 a).2.1 ≠ (tw_T 5 b).2.1 := by decide +kernel
theorem tw_tk5 : ∀ k, k < tw_N 5 → parseFieldDescriptor (tw_T 5 k).2.2.1 = some (tw_t 5 k) := by decide +kernel
theorem tw_dk5 : ∀ k, k < tw_N 5 → defaultValue (tw_t 5 k) = vp_V (tw_df 5) k := by decide +kernel
theorem tw_lc6 : (List.range (tw_N 6)).all (tw_lc 6) = true := by decide +kernel
theorem tw_nm6 : ∀ a, a < tw_N 6 → ∀ b, b < tw_N 6 → a ≠ b → (tw_T 6 a).2.1 ≠ (tw_T 6 b).2.1 := by decide +kernel
theorem tw_tk6 : ∀ k, k < tw_N 6 → parseFieldDescriptor (tw_T 6 k).2.2.1 = some (tw_t 6 k) := by decide +kernel
theorem tw_dk6 : ∀ k, k < tw_N 6 → defaultValue (tw_t 6 k) = vp_V (tw_df 6) k := by decide +kernel
theorem tw_lc7 : (List.range (tw_N 7)).all (tw_lc 7) = true := by decide +kernel
theorem tw_nm7 : ∀ a, a < tw_N 7 → ∀ b, b < tw_N 7 → a ≠ b → (tw_T 7 a).2.1 ≠ (tw_T 7 b).2.1 := by decide +kernel
theorem tw_tk7 : ∀ k, k < tw_N 7 → parseFieldDescriptor (tw_T 7 k).2.2.1 = some (tw_t 7 k) := by decide +kernel
theorem tw_dk7 : ∀ k, k < tw_N 7 → defaultValue (tw_t 7 k) = vp_V (tw_df 7) k := by decide +kernel
theorem tw_lc8 : (List.range (tw_N 8)).all (tw_lc 8) = true := by decide +kernel
theorem tw_nm8 : ∀ a, a < tw_N 8 → ∀ b, b < tw_N 8 → a ≠ b → (tw_T 8 a).2.1 ≠ (tw_T 8 b).2.1 := by decide +kernel
theorem tw_tk8 : ∀ k, k < tw_N 8 → parseFieldDescriptor (tw_T 8 k).2.2.1 = some (tw_t 8 k) := by decide +kernel
theorem tw_dk8 : ∀ k, k < tw_N 8 → defaultValue (tw_t 8 k) = vp_V (tw_df 8) k := by decide +kernel
theorem tw_lc9 : (List.range (tw_N 9)).all (tw_lc 9) = true := by decide +kernel
theorem tw_nm9 : ∀ a, a < tw_N 9 → ∀ b, b < tw_N 9 → a ≠ b → (tw_T 9 a).2.1 ≠ (tw_T 9 b).2.1 := by decide +kernel
theorem tw_tk9 : ∀ k, k < tw_N 9 → parseFieldDescriptor (tw_T 9 k).2.2.1 = some (tw_t 9 k) := by decide +kernel
theorem tw_dk9 : ∀ k, k < tw_N 9 → defaultValue (tw_t 9 k) = vp_V (tw_df 9) k := by decide +kernel
theorem tw_lc10 : (List.range (tw_N 10)).all (tw_lc 10) = true := by decide +kernel
theorem tw_nm10 : ∀ a, a < tw_N 10 → ∀ b, b < tw_N 10 → a ≠ b → (tw_T 10 a).2.1 ≠ (tw_T 10 b).2.1 := by decide +kernel
theorem tw_tk10 : ∀ k, k < tw_N 10 → parseFieldDescriptor (tw_T 10 k).2.2.1 = some (tw_t 10 k) := by decide +kernel
theorem tw_dk10 : ∀ k, k < tw_N 10 → defaultValue (tw_t 10 k) = vp_V (tw_df 10) k := by decide +kernel
theorem tw_lc11 : (List.range (tw_N 11)).all (tw_lc 11) = true := by decide +kernel
theorem tw_nm11 : ∀ a, a < tw_N 11 → ∀ b, b < tw_N 11 → a ≠ b → (tw_T 11 a).2.1 ≠ (tw_T 11 b).2.1 := by decide +kernel
theorem tw_tk11 : ∀ k, k < tw_N 11 → parseFieldDescriptor (tw_T 11 k).2.2.1 = some (tw_t 11 k) := by decide +kernel
theorem tw_dk11 : ∀ k, k < tw_N 11 → defaultValue (tw_t 11 k) = vp_V (tw_df 11) k := by decide +kernel
theorem tw_12 {P : Nat → Prop} (h0 : P 0) (h1 : P 1) (h2 : P 2) (h3 : P 3) (h4 : P 4) (h5 : P 5) (h6 : P 6) (h7 : P 7) (h8 : P 8) (h9 : P 9) (h10 : P 10) (h11 : P 11) : ∀ c, c < 12 → P c := by
  intro c h
  match c, h with
  | 0, _ => exact h0
  | 1, _ => exact h1
  | 2, _ => exact h2
  | 3, _ => exact h3
  | 4, _ => exact h4
  | 5, _ => exact h5
  | 6, _ => exact h6
  | 7, _ => exact h7
  | 8, _ => exact h8
  | 9, _ => exact h9
  | 10, _ => exact h10
  | 11, _ => exact h11
theorem tw_lay : ∀ c, c < 12 → ∀ w ∈ u_ws (tw_R c) (tw_T c) (tw_N c), w ∈ lw_tbl := by
  have key : ∀ c, (List.range (tw_N c)).all (tw_lc c) = true → ∀ w ∈ u_ws (tw_R c) (tw_T c) (tw_N c), w ∈ lw_tbl := by
    intro c h w hw
    obtain ⟨k, hk, rfl⟩ := List.mem_map.mp hw
    exact tw_is.mem (List.all_eq_true.mp h k hk)
  exact tw_12 (key _ tw_lc0) (key _ tw_lc1) (key _ tw_lc2) (key _ tw_lc3) (key _ tw_lc4) (key _ tw_lc5) (key _ tw_lc6) (key _ tw_lc7) (key _ tw_lc8) (key _ tw_lc9) (key _ tw_lc10) (key _ tw_lc11)
theorem tw_nm : ∀ c, c < 12 → ∀ a, a < tw_N c → ∀ b, b < tw_N c → a ≠ b → (tw_T c a).2.1 ≠ (tw_T c b).2.1 := tw_12 tw_nm0 tw_nm1 tw_nm2 tw_nm3 tw_nm4 tw_nm5 tw_nm6 tw_nm7 tw_nm8 tw_nm9 tw_nm10 tw_nm11
theorem tw_tk : ∀ c, c < 12 → ∀ k, k < tw_N c → parseFieldDescriptor (tw_T c k).2.2.1 = some (tw_t c k) := tw_12 tw_tk0 tw_tk1 tw_tk2 tw_tk3 tw_tk4 tw_tk5 tw_tk6 tw_tk7 tw_tk8 tw_tk9 tw_tk10 tw_tk11
theorem tw_dk : ∀ c, c < 12 → ∀ k, k < tw_N c → defaultValue (tw_t c k) = vp_V (tw_df c) k := tw_12 tw_dk0 tw_dk1 tw_dk2 tw_dk3 tw_dk4 tw_dk5 tw_dk6 tw_dk7 tw_dk8 tw_dk9 tw_dk10 tw_dk11
theorem tw_cls {c : Nat} (h : c < 12) : tw_cl[c]? = some (tw_R c, tw_T c, tw_N c) := by
  simp [tw_cl, h]
theorem tw_clt {c : Nat} {q : vw_C} (h : tw_cl[c]? = some q) : c < 12 ∧ q = (tw_R c, tw_T c, tw_N c) := by
  have hl : c < 12 := by
    have := (List.getElem?_eq_some_iff.mp h).1
    simpa [tw_cl] using this
  exact ⟨hl, Option.some.inj (h.symm.trans (tw_cls hl))⟩
/-! the methods: name, code, locals, what they answer, their class, their rank (how deep their calls go), the place of their word -/
abbrev tw_ME : Type := MethodName × ByteArray × Nat × Option FieldType × Nat × Nat × Nat
def tw_ms0 : List tw_ME := [(⟨"TideWheels", "<init>", "()V"⟩, prog_1_method_1_code, 1, none, 10, 3, 71), (⟨"TideWheels$Text", "<init>", "()V"⟩, prog_9_method_1_code, 1, none, 7, 1, 81), (⟨"TideWheels$Trace", "<init>", "()V"⟩, prog_10_method_1_code, 1, none, 8, 1, 122), (⟨"TideWheels$Sea", "<init>", "()V"⟩, prog_7_method_1_code, 1, none, 5, 2, 133), (⟨"TideWheels$Notes", "<init>", "(I)V"⟩, prog_4_method_1_code, 2, none, 2, 1, 139), (⟨"TideWheels$Stopping", "<init>", "()V"⟩, prog_8_method_1_code, 1, none, 6, 1, 180), (⟨"TideWheels$Lateness", "<init>", "()V"⟩, prog_3_method_1_code, 1, none, 1, 1, 193), (⟨"TideWheels", "town", "(IIII)I"⟩, prog_1_method_2_code, 7, some .int, 10, 6, 245), (⟨"TideWheels", "isSheet", "(I)Z"⟩, prog_1_method_35_code, 2, some .boolean, 10, 0, 249), (⟨"TideWheels", "isLane", "(I)Z"⟩, prog_1_method_36_code, 1, some .boolean, 10, 0, 252), (⟨"TideWheels", "rowOf", "(I)LTideWheels$Row;"⟩, prog_1_method_44_code, 2, some (.object "TideWheels$Row"), 10, 1, 256), (⟨"TideWheels", "faultOfCells", "(LTideWheels$Row;III)I"⟩, prog_1_method_46_code, 4, some .int, 10, 1, 259), (⟨"TideWheels$Row", "reaches", "(II)Z"⟩, prog_5_method_2_code, 3, some .boolean, 3, 0, 263), (⟨"TideWheels", "faulted", "(I)I"⟩, prog_1_method_45_code, 2, some .int, 10, 0, 267), (⟨"TideWheels$Text", "isTaken", "([III)Z"⟩, prog_9_method_2_code, 4, some .boolean, 7, 5, 271), (⟨"TideWheels$Text", "passes", "(I)Z"⟩, prog_9_method_6_code, 2, some .boolean, 7, 2, 275), (⟨"TideWheels$Text", "isNext", "(I)Z"⟩, prog_9_method_5_code, 2, some .boolean, 7, 1, 279), (⟨"TideWheels", "at", "([II)I"⟩, prog_1_method_41_code, 2, some .int, 10, 0, 282), (⟨"TideWheels$Text", "hasTides", "()Z"⟩, prog_9_method_3_code, 4, some .boolean, 7, 4, 286), (⟨"TideWheels$Text", "readDigit", "(II)I"⟩, prog_9_method_8_code, 4, some .int, 7, 3, 290)]
def tw_ms1 : List tw_ME := [(⟨"TideWheels$Text", "hasWorks", "()Z"⟩, prog_9_method_4_code, 4, some .boolean, 7, 4, 294), (⟨"TideWheels$Text", "readKind", "()I"⟩, prog_9_method_7_code, 1, some .int, 7, 3, 298), (⟨"TideWheels", "settle", "()V"⟩, prog_1_method_47_code, 2, none, 10, 5, 302), (⟨"TideWheels", "madeWork", "(III)LTideWheels$Work;"⟩, prog_1_method_48_code, 3, some (.object "TideWheels$Work"), 10, 4, 306), (⟨"TideWheels$Saint", "<init>", "(II)V"⟩, prog_6_method_1_code, 3, none, 4, 3, 311), (⟨"TideWheels$Barnacled", "<init>", "(II)V"⟩, prog_2_method_1_code, 3, none, 0, 2, 314), (⟨"TideWheels$Work", "<init>", "(II)V"⟩, prog_11_method_1_code, 3, none, 9, 1, 317), (⟨"TideWheels$Sea", "rise", "([II)V"⟩, prog_7_method_2_code, 4, none, 5, 1, 341), (⟨"TideWheels$Notes", "forget", "()V"⟩, prog_4_method_2_code, 1, none, 2, 0, 346), (⟨"TideWheels", "bit", "(I)I"⟩, prog_1_method_39_code, 1, some .int, 10, 0, 350), (⟨"TideWheels$Stopping", "arrange", "([LTideWheels$Work;II)V"⟩, prog_8_method_2_code, 6, none, 6, 3, 354), (⟨"TideWheels$Barnacled", "takes", "()I"⟩, prog_2_method_3_code, 1, some .int, 0, 1, 361), (⟨"TideWheels$Saint", "takes", "()I"⟩, prog_6_method_3_code, 1, some .int, 4, 2, 365), (⟨"TideWheels$Work", "takes", "()I"⟩, prog_11_method_3_code, 1, some .int, 9, 0, 367), (⟨"TideWheels$Stopping", "firstToStop", "(II)I"⟩, prog_8_method_5_code, 5, some .int, 6, 2, 372), (⟨"TideWheels", "has", "(II)Z"⟩, prog_1_method_40_code, 2, some .boolean, 10, 0, 375), (⟨"TideWheels$Stopping", "stopsAhead", "(III)Z"⟩, prog_8_method_6_code, 4, some .boolean, 6, 1, 379), (⟨"TideWheels", "ofWork", "(II)I"⟩, prog_1_method_3_code, 4, some .int, 10, 3, 384), (⟨"TideWheels", "workOf", "(I)LTideWheels$Work;"⟩, prog_1_method_43_code, 2, some (.object "TideWheels$Work"), 10, 0, 388), (⟨"TideWheels$Barnacled", "kind", "()I"⟩, prog_2_method_2_code, 1, some .int, 0, 0, 395)]
def tw_ms2 : List tw_ME := [(⟨"TideWheels$Saint", "kind", "()I"⟩, prog_6_method_2_code, 1, some .int, 4, 0, 398), (⟨"TideWheels$Work", "kind", "()I"⟩, prog_11_method_2_code, 1, some .int, 9, 0, 399), (⟨"TideWheels", "law", "(I)I"⟩, prog_1_method_4_code, 3, some .int, 10, 4, 405), (⟨"TideWheels", "hasNoTown", "()Z"⟩, prog_1_method_42_code, 1, some .boolean, 10, 0, 409), (⟨"TideWheels", "start", "(I)I"⟩, prog_1_method_5_code, 3, some .int, 10, 0, 413), (⟨"TideWheels", "hook", "(IZ)I"⟩, prog_1_method_6_code, 3, some .int, 10, 1, 417), (⟨"TideWheels", "storm", "(II)I"⟩, prog_1_method_7_code, 3, some .int, 10, 1, 421), (⟨"TideWheels", "isHour", "(I)Z"⟩, prog_1_method_37_code, 1, some .boolean, 10, 0, 424), (⟨"TideWheels", "isForce", "(I)Z"⟩, prog_1_method_38_code, 1, some .boolean, 10, 0, 427), (⟨"TideWheels$Notes", "add", "(III)I"⟩, prog_4_method_3_code, 4, some .int, 2, 0, 431), (⟨"TideWheels", "calm", "(I)I"⟩, prog_1_method_8_code, 2, some .int, 10, 1, 435), (⟨"TideWheels$Notes", "takeBack", "(I)I"⟩, prog_4_method_4_code, 2, some .int, 2, 0, 439), (⟨"TideWheels", "strength", "(I)I"⟩, prog_1_method_9_code, 2, some .int, 10, 3, 443), (⟨"TideWheels$Sea", "strengthAt", "(III)I"⟩, prog_7_method_3_code, 6, some .int, 5, 2, 447), (⟨"TideWheels$Sea", "tideAt", "(II)I"⟩, prog_7_method_4_code, 3, some .int, 5, 1, 451), (⟨"TideWheels$Notes", "hourOf", "(I)I"⟩, prog_4_method_6_code, 2, some .int, 2, 1, 455), (⟨"TideWheels$Notes", "amountOf", "(I)I"⟩, prog_4_method_7_code, 2, some .int, 2, 1, 460), (⟨"TideWheels", "goes", "(I)I"⟩, prog_1_method_10_code, 2, some .int, 10, 4, 465), (⟨"TideWheels", "stopped", "(II)I"⟩, prog_1_method_49_code, 3, some .int, 10, 3, 469), (⟨"TideWheels$Stopping", "going", "(II)I"⟩, prog_8_method_3_code, 7, some .int, 6, 2, 473)]
def tw_ms3 : List tw_ME := [(⟨"TideWheels$Stopping", "takenBy", "(I)I"⟩, prog_8_method_4_code, 4, some .int, 6, 1, 477), (⟨"TideWheels", "late", "(II)I"⟩, prog_1_method_11_code, 5, some .int, 10, 4, 481), (⟨"TideWheels", "all", "(I)I"⟩, prog_1_method_12_code, 3, some .int, 10, 4, 485), (⟨"TideWheels", "alike", "(I)I"⟩, prog_1_method_13_code, 3, some .int, 10, 4, 489), (⟨"TideWheels$Lateness", "forget", "()V"⟩, prog_3_method_2_code, 2, none, 1, 0, 493), (⟨"TideWheels$Lateness", "add", "(I)V"⟩, prog_3_method_3_code, 3, none, 1, 1, 497), (⟨"TideWheels$Lateness", "isAlike", "(I)Z"⟩, prog_3_method_4_code, 4, some .boolean, 1, 1, 502), (⟨"TideWheels", "fewest", "(III)I"⟩, prog_1_method_14_code, 10, some .int, 10, 4, 507), (⟨"TideWheels", "weakest", "(II)I"⟩, prog_1_method_51_code, 5, some .int, 10, 3, 511), (⟨"java/lang/Integer", "bitCount", "(I)I"⟩, prog_14_method_49_code, 1, some .int, 13, 0, 517), (⟨"TideWheels", "help", "(II)I"⟩, prog_1_method_15_code, 9, some .int, 10, 5, 524), (⟨"TideWheels", "lateTogether", "()I"⟩, prog_1_method_50_code, 3, some .int, 10, 4, 528), (⟨"TideWheels", "plan", "(IIII)I"⟩, prog_1_method_16_code, 9, some .int, 10, 5, 532), (⟨"TideWheels", "refusalOfPlan", "(LTideWheels$Row;II)I"⟩, prog_1_method_52_code, 5, some .int, 10, 2, 536), (⟨"TideWheels$Row", "get", "(I)I"⟩, prog_5_method_3_code, 2, some .int, 3, 1, 540), (⟨"TideWheels", "firstWrong", "(LTideWheels$Row;II)I"⟩, prog_1_method_53_code, 4, some .int, 10, 2, 544), (⟨"TideWheels", "lateByPlan", "(LTideWheels$Row;II)I"⟩, prog_1_method_54_code, 8, some .int, 10, 4, 548), (⟨"TideWheels", "reading", "(III)I"⟩, prog_1_method_17_code, 4, some .int, 10, 1, 552), (⟨"TideWheels", "back", "(I)I"⟩, prog_1_method_18_code, 2, some .int, 10, 1, 556), (⟨"TideWheels", "starts", "()I"⟩, prog_1_method_19_code, 3, some .int, 10, 4, 560)]
def tw_ms4 : List tw_ME := [(⟨"TideWheels", "fits", "(LTideWheels$Stopping;II)Z"⟩, prog_1_method_55_code, 5, some .boolean, 10, 3, 564), (⟨"TideWheels$Lateness", "isAsRead", "(LTideWheels$Notes;I)Z"⟩, prog_3_method_5_code, 5, some .boolean, 1, 2, 568), (⟨"TideWheels$Notes", "workOf", "(I)I"⟩, prog_4_method_5_code, 2, some .int, 2, 1, 573), (⟨"TideWheels", "laws", "()I"⟩, prog_1_method_20_code, 3, some .int, 10, 4, 578), (⟨"TideWheels", "hung", "()I"⟩, prog_1_method_21_code, 3, some .int, 10, 4, 582), (⟨"TideWheels", "freed", "()I"⟩, prog_1_method_22_code, 3, some .int, 10, 4, 586), (⟨"TideWheels", "odds", "(III)J"⟩, prog_1_method_23_code, 8, some .long, 10, 3, 590), (⟨"TideWheels", "sheet", "(III)I"⟩, prog_1_method_24_code, 4, some .int, 10, 2, 595), (⟨"TideWheels$Row", "<init>", "(II)V"⟩, prog_5_method_1_code, 3, none, 3, 1, 599), (⟨"TideWheels", "lose", "(I)I"⟩, prog_1_method_25_code, 2, some .int, 10, 1, 614), (⟨"TideWheels", "put", "(III)I"⟩, prog_1_method_26_code, 5, some .int, 10, 2, 618), (⟨"TideWheels$Row", "set", "(II)V"⟩, prog_5_method_4_code, 3, none, 3, 1, 622), (⟨"TideWheels$Row", "cut", "(I)I"⟩, prog_5_method_5_code, 2, some .int, 3, 0, 626), (⟨"TideWheels", "cell", "(III)J"⟩, prog_1_method_27_code, 6, some .long, 10, 2, 630), (⟨"TideWheels", "copy", "(IIIII)I"⟩, prog_1_method_28_code, 8, some .int, 10, 2, 634), (⟨"TideWheels", "tell", "(I)I"⟩, prog_1_method_29_code, 3, some .int, 10, 5, 641), (⟨"TideWheels$Barnacled", "telling", "(LTideWheels$Trace;)I"⟩, prog_2_method_4_code, 2, some .int, 0, 3, 648), (⟨"TideWheels$Trace", "leave", "(I)V"⟩, prog_10_method_2_code, 2, none, 8, 0, 652), (⟨"TideWheels$Saint", "telling", "(LTideWheels$Trace;)I"⟩, prog_6_method_4_code, 2, some .int, 4, 4, 656), (⟨"TideWheels$Work", "plainTelling", "(LTideWheels$Trace;)I"⟩, prog_11_method_6_code, 2, some .int, 9, 1, 664)]
def tw_ms5 : List tw_ME := [(⟨"TideWheels$Work", "telling", "(LTideWheels$Trace;)I"⟩, prog_11_method_4_code, 2, some .int, 9, 2, 666), (⟨"TideWheels", "ring", "(I)I"⟩, prog_1_method_30_code, 3, some .int, 10, 2, 671), (⟨"TideWheels$Saint", "ringing", "(LTideWheels$Trace;)I"⟩, prog_6_method_5_code, 2, some .int, 4, 1, 679), (⟨"TideWheels$Work", "ringing", "(LTideWheels$Trace;)I"⟩, prog_11_method_5_code, 2, some .int, 9, 1, 680), (⟨"TideWheels", "as", "(II)I"⟩, prog_1_method_31_code, 4, some .int, 10, 1, 684), (⟨"TideWheels", "trace", "()I"⟩, prog_1_method_32_code, 1, some .int, 10, 0, 688), (⟨"TideWheels", "fault", "()I"⟩, prog_1_method_33_code, 1, some .int, 10, 0, 692), (⟨"TideWheels", "many", "(I)I"⟩, prog_1_method_34_code, 2, some .int, 10, 0, 696), (⟨"TideWheelsModel", "<init>", "()V"⟩, prog_13_method_1_code, 2, none, 11, 1, 701), (⟨"TideWheelsModel", "town", "(IIII)I"⟩, prog_13_method_19_code, 7, some .int, 11, 4, 794), (⟨"TideWheelsModel", "noSheet", "(I)Z"⟩, prog_13_method_56_code, 1, some .boolean, 11, 1, 797), (⟨"TideWheelsModel", "in", "(JJJ)Z"⟩, prog_13_method_2_code, 6, some .boolean, 11, 0, 801), (⟨"TideWheelsModel", "refused", "(I)I"⟩, prog_13_method_7_code, 2, some .int, 11, 0, 805), (⟨"TideWheelsModel", "cellsBarred", "(IIIJ)I"⟩, prog_13_method_18_code, 6, some .int, 11, 1, 810), (⟨"TideWheelsModel", "failed", "(I)I"⟩, prog_13_method_8_code, 2, some .int, 11, 0, 814), (⟨"TideWheelsModel", "isBeyond", "(IJI)Z"⟩, prog_13_method_62_code, 4, some .boolean, 11, 0, 817), (⟨"TideWheelsModel", "readsTown", "(II)Z"⟩, prog_13_method_17_code, 4, some .boolean, 11, 3, 821), (⟨"TideWheelsModel", "codeAt", "(II)I"⟩, prog_13_method_13_code, 3, some .int, 11, 0, 825), (⟨"TideWheelsModel", "readsTide", "(II)Z"⟩, prog_13_method_15_code, 5, some .boolean, 11, 2, 829), (⟨"TideWheelsModel", "figure", "(IIII)I"⟩, prog_13_method_14_code, 7, some .int, 11, 1, 833)]
def tw_ms6 : List tw_ME := [(⟨"TideWheelsModel", "readsWork", "(II)Z"⟩, prog_13_method_16_code, 5, some .boolean, 11, 2, 837), (⟨"TideWheelsModel", "everyWork", "()I"⟩, prog_13_method_12_code, 1, some .int, 11, 0, 841), (⟨"TideWheelsModel", "ofWork", "(II)I"⟩, prog_13_method_21_code, 3, some .int, 11, 2, 845), (⟨"TideWheelsModel", "noWork", "(I)Z"⟩, prog_13_method_10_code, 2, some .boolean, 11, 1, 849), (⟨"TideWheelsModel", "takesOf", "(I)I"⟩, prog_13_method_20_code, 3, some .int, 11, 0, 853), (⟨"TideWheelsModel", "isIn", "(II)Z"⟩, prog_13_method_4_code, 2, some .boolean, 11, 0, 856), (⟨"TideWheelsModel", "law", "(I)I"⟩, prog_13_method_22_code, 3, some .int, 11, 1, 860), (⟨"TideWheelsModel", "start", "(I)I"⟩, prog_13_method_23_code, 3, some .int, 11, 1, 864), (⟨"TideWheelsModel", "hook", "(IZ)I"⟩, prog_13_method_24_code, 4, some .int, 11, 2, 868), (⟨"TideWheelsModel", "storm", "(II)I"⟩, prog_13_method_25_code, 3, some .int, 11, 2, 872), (⟨"TideWheelsModel", "isHour", "(I)Z"⟩, prog_13_method_11_code, 1, some .boolean, 11, 1, 875), (⟨"TideWheelsModel", "calm", "(I)I"⟩, prog_13_method_26_code, 2, some .int, 11, 1, 881), (⟨"TideWheelsModel", "strength", "(I)I"⟩, prog_13_method_29_code, 3, some .int, 11, 3, 885), (⟨"TideWheelsModel", "refusedFor", "(I)I"⟩, prog_13_method_28_code, 2, some .int, 11, 2, 889), (⟨"TideWheelsModel", "strengthOf", "(I)I"⟩, prog_13_method_27_code, 4, some .int, 11, 0, 893), (⟨"TideWheelsModel", "goes", "(I)I"⟩, prog_13_method_34_code, 3, some .int, 11, 4, 897), (⟨"TideWheelsModel", "goIn", "(I)I"⟩, prog_13_method_33_code, 4, some .int, 11, 3, 901), (⟨"TideWheelsModel", "takesAll", "(I)I"⟩, prog_13_method_31_code, 4, some .int, 11, 2, 905), (⟨"TideWheelsModel", "takesNow", "(I)I"⟩, prog_13_method_30_code, 2, some .int, 11, 1, 909), (⟨"TideWheelsModel", "stopsFirst", "(I)I"⟩, prog_13_method_32_code, 5, some .int, 11, 2, 913)]
def tw_ms7 : List tw_ME := [(⟨"TideWheelsModel", "late", "(II)I"⟩, prog_13_method_38_code, 3, some .int, 11, 6, 917), (⟨"TideWheelsModel", "goTo", "(I)V"⟩, prog_13_method_37_code, 3, none, 11, 5, 921), (⟨"TideWheelsModel", "beginHours", "()V"⟩, prog_13_method_35_code, 2, none, 11, 0, 925), (⟨"TideWheelsModel", "goHour", "(I)V"⟩, prog_13_method_36_code, 4, none, 11, 4, 929), (⟨"TideWheelsModel", "all", "(I)I"⟩, prog_13_method_39_code, 4, some .int, 11, 4, 933), (⟨"TideWheelsModel", "alike", "(I)I"⟩, prog_13_method_41_code, 4, some .int, 11, 5, 937), (⟨"TideWheelsModel", "areAlike", "()Z"⟩, prog_13_method_40_code, 4, some .boolean, 11, 1, 941), (⟨"TideWheelsModel", "fewest", "(III)I"⟩, prog_13_method_43_code, 8, some .int, 11, 5, 945), (⟨"TideWheelsModel", "bits", "(I)I"⟩, prog_13_method_5_code, 3, some .int, 11, 0, 948), (⟨"TideWheelsModel", "doesGo", "(III)Z"⟩, prog_13_method_42_code, 6, some .boolean, 11, 4, 952), (⟨"TideWheelsModel", "help", "(II)I"⟩, prog_13_method_45_code, 7, some .int, 11, 7, 956), (⟨"TideWheelsModel", "lateAll", "()I"⟩, prog_13_method_44_code, 3, some .int, 11, 6, 960), (⟨"TideWheelsModel", "plan", "(IIII)I"⟩, prog_13_method_47_code, 8, some .int, 11, 6, 964), (⟨"TideWheelsModel", "lateBy", "(II)I"⟩, prog_13_method_46_code, 7, some .int, 11, 5, 969), (⟨"TideWheelsModel", "reading", "(III)I"⟩, prog_13_method_48_code, 4, some .int, 11, 2, 973), (⟨"TideWheelsModel", "back", "(I)I"⟩, prog_13_method_49_code, 2, some .int, 11, 1, 978), (⟨"TideWheelsModel", "starts", "()I"⟩, prog_13_method_51_code, 4, some .int, 11, 6, 982), (⟨"TideWheelsModel", "areSo", "()Z"⟩, prog_13_method_50_code, 4, some .boolean, 11, 5, 986), (⟨"TideWheelsModel", "laws", "()I"⟩, prog_13_method_52_code, 4, some .int, 11, 6, 990), (⟨"TideWheelsModel", "hung", "()I"⟩, prog_13_method_53_code, 3, some .int, 11, 6, 994)]
def tw_ms8 : List tw_ME := [(⟨"TideWheelsModel", "freed", "()I"⟩, prog_13_method_54_code, 4, some .int, 11, 6, 998), (⟨"TideWheelsModel", "odds", "(III)J"⟩, prog_13_method_55_code, 8, some .long, 11, 4, 1002), (⟨"TideWheelsModel", "lost", "()J"⟩, prog_13_method_3_code, 0, some .long, 11, 0, 1005), (⟨"TideWheelsModel", "told", "(JJI)J"⟩, prog_13_method_6_code, 11, some .long, 11, 0, 1009), (⟨"TideWheelsModel", "sheet", "(III)I"⟩, prog_13_method_57_code, 5, some .int, 11, 2, 1013), (⟨"TideWheelsModel", "lose", "(I)I"⟩, prog_13_method_58_code, 3, some .int, 11, 2, 1017), (⟨"TideWheelsModel", "put", "(III)I"⟩, prog_13_method_60_code, 4, some .int, 11, 2, 1021), (⟨"TideWheelsModel", "noCell", "(II)I"⟩, prog_13_method_59_code, 3, some .int, 11, 1, 1025), (⟨"TideWheelsModel", "cell", "(III)J"⟩, prog_13_method_61_code, 4, some .long, 11, 2, 1029), (⟨"TideWheelsModel", "failedLong", "(I)J"⟩, prog_13_method_9_code, 2, some .long, 11, 1, 1033), (⟨"TideWheelsModel", "copy", "(IIIII)I"⟩, prog_13_method_63_code, 7, some .int, 11, 2, 1037), (⟨"TideWheelsModel", "tell", "(I)I"⟩, prog_13_method_65_code, 4, some .int, 11, 2, 1041), (⟨"TideWheelsModel", "traced", "(I)V"⟩, prog_13_method_64_code, 2, none, 11, 0, 1045), (⟨"TideWheelsModel", "ring", "(I)I"⟩, prog_13_method_66_code, 2, some .int, 11, 2, 1049), (⟨"TideWheelsModel", "as", "(II)I"⟩, prog_13_method_67_code, 3, some .int, 11, 2, 1053), (⟨"TideWheelsModel", "trace", "()I"⟩, prog_13_method_68_code, 1, some .int, 11, 0, 1057), (⟨"TideWheelsModel", "fault", "()I"⟩, prog_13_method_69_code, 1, some .int, 11, 0, 1061), (⟨"TideWheelsModel", "many", "(I)I"⟩, prog_13_method_70_code, 2, some .int, 11, 0, 1065), (⟨"TideWheelsLaw", "law", "([I)Z"⟩, code, 4, some .boolean, 12, 8, 0)]
def tw_ms : List tw_ME := tw_ms0 ++ (tw_ms1 ++ (tw_ms2 ++ (tw_ms3 ++ (tw_ms4 ++ (tw_ms5 ++ (tw_ms6 ++ (tw_ms7 ++ (tw_ms8))))))))
def tw_me (i : Nat) : tw_ME := tw_ms.getD i (⟨"", "", ""⟩, ⟨#[]⟩, 0, none, 0, 0, 0)
def tw_y (i : Nat) : MethodName := (tw_me i).1
def tw_c (i : Nat) : ByteArray := (tw_me i).2.1
def tw_ml (i : Nat) : Nat := (tw_me i).2.2.1
def tw_rt (i : Nat) : Option FieldType := (tw_me i).2.2.2.1
def tw_ow (i : Nat) : Nat := (tw_me i).2.2.2.2.1
def tw_rk (i : Nat) : Nat := (tw_me i).2.2.2.2.2.1
def tw_cw (i : Nat) : Nat := (tw_me i).2.2.2.2.2.2
def tw_nM : Nat := 178
def tw_mc (i : Nat) : Bool := tw_is (tw_cw i) (.code (tw_y i) (tw_c i) (tw_ml i) (tw_rt i)) && (plainName (tw_y i).cls && (decide ((tw_y i).cls = tw_R (tw_ow i)) && (decide ((tw_y i).cls ≠ "java/lang/invoke/MethodHandle") && (decide ((tw_y i).cls ≠ "java/lang/invoke/VarHandle") && decide (tw_ml i ≤ 17)))))
theorem tw_mc0 : ((List.range 20).map (· + 0)).all tw_mc = true := by decide +kernel
theorem tw_mc1 : ((List.range 20).map (· + 20)).all tw_mc = true := by decide +kernel
theorem tw_mc2 : ((List.range 20).map (· + 40)).all tw_mc = true := by decide +kernel
theorem tw_mc3 : ((List.range 20).map (· + 60)).all tw_mc = true := by decide +kernel
theorem tw_mc4 : ((List.range 20).map (· + 80)).all tw_mc = true := by decide +kernel
theorem tw_mc5 : ((List.range 20).map (· + 100)).all tw_mc = true := by decide +kernel
theorem tw_mc6 : ((List.range 20).map (· + 120)).all tw_mc = true := by decide +kernel
theorem tw_mc7 : ((List.range 20).map (· + 140)).all tw_mc = true := by decide +kernel
theorem tw_mc8 : ((List.range 18).map (· + 160)).all tw_mc = true := by decide +kernel
theorem tw_mok {i : Nat} (h : i < 178) : tw_mc i = true := by
  have key : ∀ (lo n : Nat), ((List.range n).map (· + lo)).all tw_mc = true → lo ≤ i → i < lo + n → tw_mc i = true := fun lo n h h1 h2 => List.all_eq_true.mp h i (List.mem_map.mpr ⟨i - lo, List.mem_range.mpr (by omega), by omega⟩)
  by_cases h0 : i < 20
  · exact key 0 20 tw_mc0 (by omega) (by omega)
  by_cases h20 : i < 40
  · exact key 20 20 tw_mc1 (by omega) (by omega)
  by_cases h40 : i < 60
  · exact key 40 20 tw_mc2 (by omega) (by omega)
  by_cases h60 : i < 80
  · exact key 60 20 tw_mc3 (by omega) (by omega)
  by_cases h80 : i < 100
  · exact key 80 20 tw_mc4 (by omega) (by omega)
  by_cases h100 : i < 120
  · exact key 100 20 tw_mc5 (by omega) (by omega)
  by_cases h120 : i < 140
  · exact key 120 20 tw_mc6 (by omega) (by omega)
  by_cases h140 : i < 160
  · exact key 140 20 tw_mc7 (by omega) (by omega)
  exact key 160 18 tw_mc8 (by omega) (by omega)
/-! the calls: of a class and a number of its pool: kind, how many arguments, the receivers' classes with the methods, places of words -/
abbrev tw_CE : Type := (Nat × Nat) × Nat × Nat × List (Nat × Nat) × List Nat × List (List Nat) × MethodName × String
def tw_cs0 : List tw_CE := [((0, 3), 2, 2, [(0, 26)], [315, 316, 61], [], ⟨"", "", ""⟩, ""), ((0, 9), 4, 0, [(0, 33)], [362, 358, 332, 356, 61], [], ⟨"", "", ""⟩, ""), ((0, 13), 5, 1, [(8, 97)], [649, 650, 651, 54], [], ⟨"", "", ""⟩, ""), ((0, 19), 4, 1, [(0, 100)], [653, 645, 332, 643, 61], [], ⟨"", "", ""⟩, ""), ((1, 3), 10, 0, [], [194], [], ⟨"", "", ""⟩, ""), ((1, 15), 1, 2, [(0, 35)], [498, 374, 52], [], ⟨"", "", ""⟩, ""), ((1, 19), 1, 2, [(0, 17)], [503, 281, 52], [], ⟨"", "", ""⟩, ""), ((1, 29), 5, 1, [(2, 55)], [569, 453, 454, 56], [], ⟨"", "", ""⟩, ""), ((1, 33), 5, 1, [(2, 82)], [570, 571, 572, 56], [], ⟨"", "", ""⟩, ""), ((1, 36), 5, 1, [(2, 56)], [574, 458, 459, 56], [], ⟨"", "", ""⟩, ""), ((2, 3), 10, 0, [], [140], [], ⟨"", "", ""⟩, ""), ((2, 9), 11, 2, [], [141], [], ⟨"", "", ""⟩, ""), ((2, 31), 1, 2, [(0, 17)], [456, 281, 52], [], ⟨"", "", ""⟩, ""), ((3, 3), 10, 0, [], [600], [], ⟨"", "", ""⟩, ""), ((3, 15), 11, 2, [], [601], [], ⟨"", "", ""⟩, ""), ((3, 25), 1, 2, [(0, 17)], [541, 281, 52], [], ⟨"", "", ""⟩, ""), ((3, 29), 5, 1, [(3, 92)], [623, 625, 22, 65], [], ⟨"", "", ""⟩, ""), ((4, 3), 2, 2, [(0, 25)], [312, 313, 62], [], ⟨"", "", ""⟩, ""), ((4, 9), 4, 0, [(0, 31)], [366, 1066, 326, 360, 62], [], ⟨"", "", ""⟩, ""), ((4, 13), 5, 1, [(8, 97)], [657, 650, 651, 54], [], ⟨"", "", ""⟩, ""), ((4, 19), 4, 1, [(0, 96)], [658, 1067, 326, 647, 62], [], ⟨"", "", ""⟩, ""), ((4, 23), 6, 1, [(4, 99)], [659, 660, 663, 99], [[662, 663, 61]], ⟨"TideWheels$Saint", "plainTelling", "(LTideWheels$Trace;)I"⟩, "TideWheels$Work"), ((5, 3), 10, 0, [], [134], [], ⟨"", "", ""⟩, ""), ((5, 11), 2, 1, [(0, 4)], [137, 138, 56], [], ⟨"", "", ""⟩, ""), ((5, 24), 1, 2, [(0, 17)], [342, 281, 52], [], ⟨"", "", ""⟩, ""), ((5, 32), 5, 0, [(2, 28)], [343, 344, 345, 56], [], ⟨"", "", ""⟩, ""), ((5, 35), 5, 2, [(5, 54)], [448, 450, 14, 55], [], ⟨"", "", ""⟩, ""), ((5, 42), 5, 1, [(2, 55)], [452, 453, 454, 56], [], ⟨"", "", ""⟩, ""), ((5, 46), 5, 1, [(2, 56)], [457, 458, 459, 56], [], ⟨"", "", ""⟩, ""), ((5, 49), 11, 2, [], [461], [], ⟨"", "", ""⟩, ""), ((6, 3), 10, 0, [], [181], [], ⟨"", "", ""⟩, ""), ((6, 18), 6, 0, [(9, 33), (0, 31), (4, 32)], [355, 358, 356, 33], [[357, 356, 61], [359, 360, 62], [363, 364, 63]], ⟨"TideWheels$Work", "takes", "()I"⟩, "TideWheels$Work"), ((6, 23), 1, 1, [(0, 29)], [368, 349, 52], [], ⟨"", "", ""⟩, ""), ((6, 27), 5, 2, [(6, 34)], [369, 371, 10, 58], [], ⟨"", "", ""⟩, ""), ((6, 31), 5, 1, [(6, 60)], [474, 476, 16, 58], [], ⟨"", "", ""⟩, ""), ((6, 34), 1, 2, [(0, 35)], [373, 374, 52], [], ⟨"", "", ""⟩, ""), ((6, 38), 1, 2, [(0, 17)], [380, 281, 52], [], ⟨"", "", ""⟩, ""), ((6, 42), 5, 3, [(6, 36)], [376, 378, 11, 58], [], ⟨"", "", ""⟩, ""), ((7, 3), 10, 0, [], [82], [], ⟨"", "", ""⟩, ""), ((7, 34), 5, 1, [(7, 15)], [272, 274, 3, 53], [], ⟨"", "", ""⟩, "")]
def tw_cs1 : List tw_CE := [((7, 38), 5, 0, [(7, 18)], [283, 285, 5, 53], [], ⟨"", "", ""⟩, ""), ((7, 42), 5, 0, [(7, 20)], [291, 293, 7, 53], [], ⟨"", "", ""⟩, ""), ((7, 45), 5, 1, [(7, 16)], [276, 278, 4, 53], [], ⟨"", "", ""⟩, ""), ((7, 48), 5, 2, [(7, 19)], [287, 289, 6, 53], [], ⟨"", "", ""⟩, ""), ((7, 55), 5, 0, [(7, 21)], [295, 297, 8, 53], [], ⟨"", "", ""⟩, ""), ((7, 62), 1, 2, [(0, 17)], [280, 281, 52], [], ⟨"", "", ""⟩, ""), ((8, 1), 10, 0, [], [123], [], ⟨"", "", ""⟩, ""), ((9, 3), 10, 0, [], [318], [], ⟨"", "", ""⟩, ""), ((9, 18), 6, 1, [(9, 99), (0, 99), (4, 99)], [667, 1068, 663, 99], [[1071, 663, 61], [1069, 663, 61], [1070, 663, 61]], ⟨"TideWheels$Work", "plainTelling", "(LTideWheels$Trace;)I"⟩, "TideWheels$Work"), ((9, 22), 5, 1, [(8, 97)], [665, 650, 651, 54], [], ⟨"", "", ""⟩, ""), ((10, 3), 10, 0, [], [72], [], ⟨"", "", ""⟩, ""), ((10, 19), 3, 0, [(0, 1)], [79, 80, 53], [], ⟨"", "", ""⟩, ""), ((10, 26), 3, 0, [(0, 2)], [120, 121, 54], [], ⟨"", "", ""⟩, ""), ((10, 33), 3, 0, [(0, 3)], [131, 132, 55], [], ⟨"", "", ""⟩, ""), ((10, 40), 2, 1, [(0, 4)], [173, 138, 56], [], ⟨"", "", ""⟩, ""), ((10, 55), 3, 0, [(0, 5)], [178, 179, 58], [], ⟨"", "", ""⟩, ""), ((10, 65), 3, 0, [(0, 6)], [191, 192, 59], [], ⟨"", "", ""⟩, ""), ((10, 74), 5, 1, [(10, 8)], [246, 248, 0, 52], [], ⟨"", "", ""⟩, ""), ((10, 78), 0, 1, [(0, 9)], [250, 251, 52], [], ⟨"", "", ""⟩, ""), ((10, 81), 5, 1, [(10, 10)], [253, 255, 1, 52], [], ⟨"", "", ""⟩, ""), ((10, 85), 0, 4, [(0, 11)], [257, 258, 52], [], ⟨"", "", ""⟩, ""), ((10, 89), 5, 1, [(10, 13)], [264, 266, 2, 52], [], ⟨"", "", ""⟩, ""), ((10, 97), 5, 3, [(7, 14)], [268, 269, 270, 53], [], ⟨"", "", ""⟩, ""), ((10, 104), 5, 0, [(10, 22)], [299, 301, 9, 52], [], ⟨"", "", ""⟩, ""), ((10, 110), 5, 1, [(10, 38)], [385, 387, 12, 52], [], ⟨"", "", ""⟩, ""), ((10, 114), 6, 0, [(9, 41), (0, 39), (4, 40)], [389, 392, 390, 41], [[391, 390, 61], [393, 394, 62], [396, 397, 63]], ⟨"TideWheels$Work", "kind", "()I"⟩, "TideWheels$Work"), ((10, 121), 6, 0, [(9, 33), (0, 31), (4, 32)], [400, 358, 356, 33], [[357, 356, 61], [359, 360, 62], [363, 364, 63]], ⟨"TideWheels$Work", "takes", "()I"⟩, "TideWheels$Work"), ((10, 127), 0, 2, [(0, 35)], [401, 374, 52], [], ⟨"", "", ""⟩, ""), ((10, 131), 5, 0, [(10, 43)], [406, 408, 13, 52], [], ⟨"", "", ""⟩, ""), ((10, 138), 5, 3, [(6, 30)], [351, 352, 353, 58], [], ⟨"", "", ""⟩, ""), ((10, 148), 0, 1, [(0, 29)], [348, 349, 52], [], ⟨"", "", ""⟩, ""), ((10, 151), 0, 1, [(0, 47)], [422, 423, 52], [], ⟨"", "", ""⟩, ""), ((10, 154), 0, 1, [(0, 48)], [425, 426, 52], [], ⟨"", "", ""⟩, ""), ((10, 160), 5, 3, [(2, 49)], [428, 429, 430, 56], [], ⟨"", "", ""⟩, ""), ((10, 164), 5, 1, [(2, 51)], [436, 437, 438, 56], [], ⟨"", "", ""⟩, ""), ((10, 167), 5, 3, [(5, 53)], [444, 445, 446, 55], [], ⟨"", "", ""⟩, ""), ((10, 170), 5, 2, [(10, 58)], [466, 468, 15, 52], [], ⟨"", "", ""⟩, ""), ((10, 174), 5, 0, [(1, 64)], [490, 491, 492, 59], [], ⟨"", "", ""⟩, ""), ((10, 177), 5, 1, [(1, 65)], [494, 495, 496, 59], [], ⟨"", "", ""⟩, ""), ((10, 179), 5, 1, [(1, 66)], [499, 500, 501, 59], [], ⟨"", "", ""⟩, "")]
def tw_cs2 : List tw_CE := [((10, 182), 5, 2, [(10, 68)], [508, 510, 17, 52], [], ⟨"", "", ""⟩, ""), ((10, 185), 0, 1, [(0, 69)], [515, 516, 64], [], ⟨"", "", ""⟩, ""), ((10, 190), 5, 2, [(6, 59)], [470, 471, 472, 58], [], ⟨"", "", ""⟩, ""), ((10, 193), 5, 0, [(10, 71)], [525, 527, 18, 52], [], ⟨"", "", ""⟩, ""), ((10, 196), 5, 3, [(10, 73)], [533, 535, 19, 52], [], ⟨"", "", ""⟩, ""), ((10, 200), 0, 3, [(0, 75)], [542, 543, 52], [], ⟨"", "", ""⟩, ""), ((10, 203), 5, 3, [(10, 76)], [545, 547, 20, 52], [], ⟨"", "", ""⟩, ""), ((10, 206), 5, 3, [(10, 80)], [561, 563, 21, 52], [], ⟨"", "", ""⟩, ""), ((10, 212), 2, 2, [(0, 88)], [597, 598, 65], [], ⟨"", "", ""⟩, ""), ((10, 215), 5, 2, [(3, 12)], [260, 261, 262, 65], [], ⟨"", "", ""⟩, ""), ((10, 218), 5, 2, [(3, 91)], [619, 620, 621, 65], [], ⟨"", "", ""⟩, ""), ((10, 221), 5, 1, [(3, 74)], [537, 538, 539, 65], [], ⟨"", "", ""⟩, ""), ((10, 227), 13, 5, [], [635], [], ⟨"", "", ""⟩, ""), ((10, 233), 6, 1, [(9, 100), (0, 96), (4, 98)], [642, 645, 643, 100], [[644, 643, 61], [646, 647, 62], [654, 655, 63]], ⟨"TideWheels$Work", "telling", "(LTideWheels$Trace;)I"⟩, "TideWheels$Work"), ((10, 237), 6, 1, [(9, 103), (0, 103), (4, 102)], [672, 675, 673, 103], [[674, 673, 61], [676, 673, 61], [677, 678, 63]], ⟨"TideWheels$Work", "ringing", "(LTideWheels$Trace;)I"⟩, "TideWheels$Work"), ((10, 251), 0, 2, [(0, 17)], [303, 281, 52], [], ⟨"", "", ""⟩, ""), ((10, 258), 0, 3, [(0, 23)], [304, 305, 52], [], ⟨"", "", ""⟩, ""), ((10, 268), 5, 2, [(5, 27)], [338, 339, 340, 55], [], ⟨"", "", ""⟩, ""), ((10, 272), 5, 0, [(2, 28)], [347, 344, 345, 56], [], ⟨"", "", ""⟩, ""), ((10, 275), 2, 2, [(0, 24)], [309, 310, 63], [], ⟨"", "", ""⟩, ""), ((10, 278), 2, 2, [(0, 25)], [329, 313, 62], [], ⟨"", "", ""⟩, ""), ((10, 279), 2, 2, [(0, 26)], [334, 316, 61], [], ⟨"", "", ""⟩, ""), ((10, 280), 12, 2, [], [512], [], ⟨"", "", ""⟩, ""), ((10, 285), 5, 2, [(1, 81)], [565, 566, 567, 59], [], ⟨"", "", ""⟩, ""), ((11, 1), 10, 0, [], [702], [], ⟨"", "", ""⟩, ""), ((11, 67), 0, 0, [(0, 162)], [1003, 1004, 60], [], ⟨"", "", ""⟩, ""), ((11, 74), 0, 3, [(0, 111)], [799, 800, 60], [], ⟨"", "", ""⟩, ""), ((11, 83), 5, 2, [(11, 117)], [822, 824, 27, 60], [], ⟨"", "", ""⟩, ""), ((11, 90), 5, 4, [(11, 119)], [830, 832, 29, 60], [], ⟨"", "", ""⟩, ""), ((11, 97), 5, 2, [(11, 118)], [826, 828, 28, 60], [], ⟨"", "", ""⟩, ""), ((11, 101), 5, 2, [(11, 120)], [834, 836, 30, 60], [], ⟨"", "", ""⟩, ""), ((11, 104), 5, 1, [(11, 114)], [811, 813, 25, 60], [], ⟨"", "", ""⟩, ""), ((11, 108), 0, 3, [(0, 115)], [815, 816, 60], [], ⟨"", "", ""⟩, ""), ((11, 112), 0, 1, [(0, 110)], [795, 796, 60], [], ⟨"", "", ""⟩, ""), ((11, 116), 5, 1, [(11, 112)], [802, 804, 23, 60], [], ⟨"", "", ""⟩, ""), ((11, 121), 5, 4, [(11, 113)], [807, 809, 24, 60], [], ⟨"", "", ""⟩, ""), ((11, 125), 5, 2, [(11, 116)], [818, 820, 26, 60], [], ⟨"", "", ""⟩, ""), ((11, 131), 5, 0, [(11, 121)], [838, 840, 31, 60], [], ⟨"", "", ""⟩, ""), ((11, 150), 5, 1, [(11, 123)], [846, 848, 32, 60], [], ⟨"", "", ""⟩, ""), ((11, 153), 5, 1, [(11, 124)], [850, 852, 33, 60], [], ⟨"", "", ""⟩, "")]
def tw_cs3 : List tw_CE := [((11, 156), 0, 2, [(0, 125)], [854, 855, 60], [], ⟨"", "", ""⟩, ""), ((11, 159), 0, 1, [(0, 130)], [873, 874, 60], [], ⟨"", "", ""⟩, ""), ((11, 164), 5, 1, [(11, 133)], [886, 888, 34, 60], [], ⟨"", "", ""⟩, ""), ((11, 167), 5, 1, [(11, 134)], [890, 892, 35, 60], [], ⟨"", "", ""⟩, ""), ((11, 170), 5, 1, [(11, 138)], [906, 908, 38, 60], [], ⟨"", "", ""⟩, ""), ((11, 173), 5, 1, [(11, 137)], [902, 904, 37, 60], [], ⟨"", "", ""⟩, ""), ((11, 176), 5, 1, [(11, 139)], [910, 912, 39, 60], [], ⟨"", "", ""⟩, ""), ((11, 179), 5, 1, [(11, 136)], [898, 900, 36, 60], [], ⟨"", "", ""⟩, ""), ((11, 182), 5, 0, [(11, 142)], [922, 924, 41, 60], [], ⟨"", "", ""⟩, ""), ((11, 185), 5, 1, [(11, 143)], [926, 928, 42, 60], [], ⟨"", "", ""⟩, ""), ((11, 189), 5, 1, [(11, 141)], [918, 920, 40, 60], [], ⟨"", "", ""⟩, ""), ((11, 192), 5, 0, [(11, 146)], [938, 940, 43, 60], [], ⟨"", "", ""⟩, ""), ((11, 196), 0, 1, [(0, 148)], [946, 947, 60], [], ⟨"", "", ""⟩, ""), ((11, 199), 5, 3, [(11, 149)], [949, 951, 44, 60], [], ⟨"", "", ""⟩, ""), ((11, 203), 5, 0, [(11, 151)], [957, 959, 45, 60], [], ⟨"", "", ""⟩, ""), ((11, 208), 5, 2, [(11, 153)], [966, 968, 46, 60], [], ⟨"", "", ""⟩, ""), ((11, 213), 5, 0, [(11, 157)], [983, 985, 47, 60], [], ⟨"", "", ""⟩, ""), ((11, 216), 0, 3, [(0, 163)], [1007, 1008, 60], [], ⟨"", "", ""⟩, ""), ((11, 222), 5, 2, [(11, 167)], [1022, 1024, 48, 60], [], ⟨"", "", ""⟩, ""), ((11, 225), 5, 1, [(11, 169)], [1030, 1032, 49, 60], [], ⟨"", "", ""⟩, ""), ((11, 232), 5, 1, [(11, 172)], [1042, 1044, 50, 60], [], ⟨"", "", ""⟩, ""), ((12, 9), 2, 0, [(0, 0)], [69, 70, 52], [], ⟨"", "", ""⟩, ""), ((12, 12), 2, 0, [(0, 108)], [699, 700, 60], [], ⟨"", "", ""⟩, ""), ((12, 13), 5, 4, [(10, 7)], [242, 243, 244, 52], [], ⟨"", "", ""⟩, ""), ((12, 17), 5, 4, [(11, 109)], [791, 792, 793, 60], [], ⟨"", "", ""⟩, ""), ((12, 18), 5, 2, [(10, 37)], [381, 382, 383, 52], [], ⟨"", "", ""⟩, ""), ((12, 22), 5, 2, [(11, 122)], [842, 843, 844, 60], [], ⟨"", "", ""⟩, ""), ((12, 23), 5, 1, [(10, 42)], [402, 403, 404, 52], [], ⟨"", "", ""⟩, ""), ((12, 27), 5, 1, [(11, 126)], [857, 858, 859, 60], [], ⟨"", "", ""⟩, ""), ((12, 28), 5, 1, [(10, 44)], [410, 411, 412, 52], [], ⟨"", "", ""⟩, ""), ((12, 31), 5, 1, [(11, 127)], [861, 862, 863, 60], [], ⟨"", "", ""⟩, ""), ((12, 32), 5, 2, [(10, 45)], [414, 415, 416, 52], [], ⟨"", "", ""⟩, ""), ((12, 36), 5, 2, [(11, 128)], [865, 866, 867, 60], [], ⟨"", "", ""⟩, ""), ((12, 37), 5, 2, [(10, 46)], [418, 419, 420, 52], [], ⟨"", "", ""⟩, ""), ((12, 40), 5, 2, [(11, 129)], [869, 870, 871, 60], [], ⟨"", "", ""⟩, ""), ((12, 41), 5, 1, [(10, 50)], [432, 433, 434, 52], [], ⟨"", "", ""⟩, ""), ((12, 44), 5, 1, [(11, 131)], [878, 879, 880, 60], [], ⟨"", "", ""⟩, ""), ((12, 45), 5, 1, [(10, 52)], [440, 441, 442, 52], [], ⟨"", "", ""⟩, ""), ((12, 48), 5, 1, [(11, 132)], [882, 883, 884, 60], [], ⟨"", "", ""⟩, ""), ((12, 49), 5, 1, [(10, 57)], [462, 463, 464, 52], [], ⟨"", "", ""⟩, "")]
def tw_cs4 : List tw_CE := [((12, 52), 5, 1, [(11, 135)], [894, 895, 896, 60], [], ⟨"", "", ""⟩, ""), ((12, 53), 5, 2, [(10, 61)], [478, 479, 480, 52], [], ⟨"", "", ""⟩, ""), ((12, 56), 5, 2, [(11, 140)], [914, 915, 916, 60], [], ⟨"", "", ""⟩, ""), ((12, 57), 5, 1, [(10, 62)], [482, 483, 484, 52], [], ⟨"", "", ""⟩, ""), ((12, 60), 5, 1, [(11, 144)], [930, 931, 932, 60], [], ⟨"", "", ""⟩, ""), ((12, 61), 5, 1, [(10, 63)], [486, 487, 488, 52], [], ⟨"", "", ""⟩, ""), ((12, 64), 5, 1, [(11, 145)], [934, 935, 936, 60], [], ⟨"", "", ""⟩, ""), ((12, 65), 5, 3, [(10, 67)], [504, 505, 506, 52], [], ⟨"", "", ""⟩, ""), ((12, 69), 5, 3, [(11, 147)], [942, 943, 944, 60], [], ⟨"", "", ""⟩, ""), ((12, 70), 5, 2, [(10, 70)], [521, 522, 523, 52], [], ⟨"", "", ""⟩, ""), ((12, 73), 5, 2, [(11, 150)], [953, 954, 955, 60], [], ⟨"", "", ""⟩, ""), ((12, 74), 5, 4, [(10, 72)], [529, 530, 531, 52], [], ⟨"", "", ""⟩, ""), ((12, 77), 5, 4, [(11, 152)], [961, 962, 963, 60], [], ⟨"", "", ""⟩, ""), ((12, 78), 5, 3, [(10, 77)], [549, 550, 551, 52], [], ⟨"", "", ""⟩, ""), ((12, 81), 5, 3, [(11, 154)], [970, 971, 972, 60], [], ⟨"", "", ""⟩, ""), ((12, 82), 5, 1, [(10, 78)], [553, 554, 555, 52], [], ⟨"", "", ""⟩, ""), ((12, 85), 5, 1, [(11, 155)], [975, 976, 977, 60], [], ⟨"", "", ""⟩, ""), ((12, 86), 5, 0, [(10, 79)], [557, 558, 559, 52], [], ⟨"", "", ""⟩, ""), ((12, 90), 5, 0, [(11, 156)], [979, 980, 981, 60], [], ⟨"", "", ""⟩, ""), ((12, 91), 5, 0, [(10, 83)], [575, 576, 577, 52], [], ⟨"", "", ""⟩, ""), ((12, 94), 5, 0, [(11, 158)], [987, 988, 989, 60], [], ⟨"", "", ""⟩, ""), ((12, 95), 5, 0, [(10, 84)], [579, 580, 581, 52], [], ⟨"", "", ""⟩, ""), ((12, 98), 5, 0, [(11, 159)], [991, 992, 993, 60], [], ⟨"", "", ""⟩, ""), ((12, 99), 5, 0, [(10, 85)], [583, 584, 585, 52], [], ⟨"", "", ""⟩, ""), ((12, 102), 5, 0, [(11, 160)], [995, 996, 997, 60], [], ⟨"", "", ""⟩, ""), ((12, 103), 5, 3, [(10, 86)], [587, 588, 589, 52], [], ⟨"", "", ""⟩, ""), ((12, 107), 5, 3, [(11, 161)], [999, 1000, 1001, 60], [], ⟨"", "", ""⟩, ""), ((12, 108), 5, 3, [(10, 87)], [592, 593, 594, 52], [], ⟨"", "", ""⟩, ""), ((12, 111), 5, 3, [(11, 164)], [1010, 1011, 1012, 60], [], ⟨"", "", ""⟩, ""), ((12, 112), 5, 1, [(10, 89)], [611, 612, 613, 52], [], ⟨"", "", ""⟩, ""), ((12, 115), 5, 1, [(11, 165)], [1014, 1015, 1016, 60], [], ⟨"", "", ""⟩, ""), ((12, 116), 5, 3, [(10, 90)], [615, 616, 617, 52], [], ⟨"", "", ""⟩, ""), ((12, 119), 5, 3, [(11, 166)], [1018, 1019, 1020, 60], [], ⟨"", "", ""⟩, ""), ((12, 120), 5, 3, [(10, 93)], [627, 628, 629, 52], [], ⟨"", "", ""⟩, ""), ((12, 123), 5, 3, [(11, 168)], [1026, 1027, 1028, 60], [], ⟨"", "", ""⟩, ""), ((12, 124), 5, 5, [(10, 94)], [631, 632, 633, 52], [], ⟨"", "", ""⟩, ""), ((12, 128), 5, 5, [(11, 170)], [1034, 1035, 1036, 60], [], ⟨"", "", ""⟩, ""), ((12, 129), 5, 1, [(10, 95)], [638, 639, 640, 52], [], ⟨"", "", ""⟩, ""), ((12, 132), 5, 1, [(11, 171)], [1038, 1039, 1040, 60], [], ⟨"", "", ""⟩, ""), ((12, 133), 5, 1, [(10, 101)], [668, 669, 670, 52], [], ⟨"", "", ""⟩, "")]
def tw_cs5 : List tw_CE := [((12, 136), 5, 1, [(11, 173)], [1046, 1047, 1048, 60], [], ⟨"", "", ""⟩, ""), ((12, 137), 5, 2, [(10, 104)], [681, 682, 683, 52], [], ⟨"", "", ""⟩, ""), ((12, 140), 5, 2, [(11, 174)], [1050, 1051, 1052, 60], [], ⟨"", "", ""⟩, ""), ((12, 141), 5, 0, [(10, 105)], [685, 686, 687, 52], [], ⟨"", "", ""⟩, ""), ((12, 144), 5, 0, [(11, 175)], [1054, 1055, 1056, 60], [], ⟨"", "", ""⟩, ""), ((12, 145), 5, 0, [(10, 106)], [689, 690, 691, 52], [], ⟨"", "", ""⟩, ""), ((12, 148), 5, 0, [(11, 176)], [1058, 1059, 1060, 60], [], ⟨"", "", ""⟩, ""), ((12, 149), 5, 1, [(10, 107)], [693, 694, 695, 52], [], ⟨"", "", ""⟩, ""), ((12, 152), 5, 1, [(11, 177)], [1062, 1063, 1064, 60], [], ⟨"", "", ""⟩, "")]
def tw_cs : List tw_CE := tw_cs0 ++ (tw_cs1 ++ (tw_cs2 ++ (tw_cs3 ++ (tw_cs4 ++ (tw_cs5)))))
def tw_ce (o i : Nat) : Option tw_CE := tw_cs.find? fun q => q.1.1 == o && q.1.2 == i
def tw_hd (q : tw_CE) : Nat := (q.2.2.2.1.headD (0, 0)).2
def tw_np (y : MethodName) (n : Nat) : Bool := decide ((parseMethodDescriptor y.desc).map (fun d => d.parameters.length) = some n)
def tw_lt (q : tw_CE) : Bool := q.2.2.2.1.all fun t => decide (t.2 < 178)
/-- one entry is right: its words stand in the tables -/
def tw_cc (q : tw_CE) : Bool := match q with
  | ((o, i), kd, n, ts, ps, tp, x, ow) => tw_lt q && (match kd with
    | 0 => tw_is (ps.getD 0 0) (.methodLink (tw_R o) i (tw_y (tw_hd q))) && tw_is (ps.getD 1 0) (.static (tw_y (tw_hd q))) && tw_is (ps.getD 2 0) (.initialized (tw_y (tw_hd q)).cls) && tw_np (tw_y (tw_hd q)) n
    | 1 => tw_is (ps.getD 0 0) (.methodLinkNest (tw_R o) i (tw_y (tw_hd q)) "TideWheels") && tw_is (ps.getD 1 0) (.static (tw_y (tw_hd q))) && tw_is (ps.getD 2 0) (.initialized (tw_y (tw_hd q)).cls) && tw_np (tw_y (tw_hd q)) n
    | 2 => tw_is (ps.getD 0 0) (.methodLink (tw_R o) i (tw_y (tw_hd q))) && tw_is (ps.getD 1 0) (.instanceMethod (tw_y (tw_hd q))) && tw_is (ps.getD 2 0) (.initialized (tw_y (tw_hd q)).cls) && tw_np (tw_y (tw_hd q)) n && decide ((tw_y (tw_hd q)).name = "<init>") && decide (tw_rt (tw_hd q) = none)
    | 3 => tw_is (ps.getD 0 0) (.methodLinkNest (tw_R o) i (tw_y (tw_hd q)) "TideWheels") && tw_is (ps.getD 1 0) (.instanceMethod (tw_y (tw_hd q))) && tw_is (ps.getD 2 0) (.initialized (tw_y (tw_hd q)).cls) && tw_np (tw_y (tw_hd q)) n && decide ((tw_y (tw_hd q)).name = "<init>") && decide (tw_rt (tw_hd q) = none)
    | 4 => tw_is (ps.getD 0 0) (.methodLink (tw_R o) i (tw_y (tw_hd q))) && tw_is (ps.getD 1 0) (.sameMethod (tw_y (tw_hd q)).cls (tw_y (tw_hd q)).cls (tw_y (tw_hd q)).name (tw_y (tw_hd q)).desc) && tw_is (ps.getD 2 0) (.superclass (tw_R o) (tw_y (tw_hd q)).cls) && tw_is (ps.getD 3 0) (.instanceMethod (tw_y (tw_hd q))) && tw_is (ps.getD 4 0) (.initialized (tw_y (tw_hd q)).cls) && tw_np (tw_y (tw_hd q)) n && decide ((tw_y (tw_hd q)).name ≠ "<init>")
    | 5 => tw_is (ps.getD 0 0) (.methodLink (tw_R o) i (tw_y (tw_hd q))) && tw_is (ps.getD 1 0) (.instanceMethod (tw_y (tw_hd q))) && tw_is (ps.getD 2 0) (.selects (tw_y (tw_hd q)).cls (tw_y (tw_hd q)) (tw_y (tw_hd q))) && tw_is (ps.getD 3 0) (.initialized (tw_y (tw_hd q)).cls) && tw_np (tw_y (tw_hd q)) n && ts.all (fun t => decide (t.1 < 12) && decide (t.2 = tw_hd q) && decide (tw_R t.1 = (tw_y t.2).cls))
    | 6 => tw_is (ps.getD 0 0) (.methodLink (tw_R o) i x) && tw_is (ps.getD 1 0) (.sameMethod x.cls ow x.name x.desc) && tw_is (ps.getD 2 0) (.instanceMethod ⟨ow, x.name, x.desc⟩) && decide (ps.getD 3 0 < 178) && decide (tw_y (ps.getD 3 0) = ⟨ow, x.name, x.desc⟩) && tw_np x n && decide (ow ≠ "java/lang/invoke/MethodHandle") && decide (ow ≠ "java/lang/invoke/VarHandle") && decide (tp.length = ts.length) && (ts.zip tp).all (fun z => decide (z.1.1 < 12) && tw_is (z.2.getD 0 0) (.selects (tw_R z.1.1) x (tw_y z.1.2)) && tw_is (z.2.getD 1 0) (.instanceMethod (tw_y z.1.2)) && tw_is (z.2.getD 2 0) (.initialized (tw_y z.1.2).cls))
    | 10 => tw_is (ps.getD 0 0) (.methodLink (tw_R o) i objectInit)
    | 11 => tw_is (ps.getD 0 0) (.methodLink (tw_R o) i Lib.Math.max.name)
    | 12 => tw_is (ps.getD 0 0) (.methodLink (tw_R o) i Lib.Math.min.name)
    | 13 => tw_is (ps.getD 0 0) (.methodLink (tw_R o) i arraycopyName)
    | _ => false)
theorem tw_cc0 : tw_cs0.all tw_cc = true := by decide +kernel
theorem tw_cc1 : tw_cs1.all tw_cc = true := by decide +kernel
theorem tw_cc2 : tw_cs2.all tw_cc = true := by decide +kernel
theorem tw_cc3 : tw_cs3.all tw_cc = true := by decide +kernel
theorem tw_cc4 : tw_cs4.all tw_cc = true := by decide +kernel
theorem tw_cc5 : tw_cs5.all tw_cc = true := by decide +kernel
theorem tw_cok {o i : Nat} {q : tw_CE} (h : tw_ce o i = some q) : tw_cc q = true ∧ q.1 = (o, i) := by
  have hm := List.mem_of_find?_eq_some h
  have hp := List.find?_some h
  refine ⟨?_, ?_⟩
  · have ha : tw_cs.all tw_cc = true := by
      simp only [tw_cs, List.all_append, tw_cc0, tw_cc1, tw_cc2, tw_cc3, tw_cc4, tw_cc5, Bool.and_self]
    exact List.all_eq_true.mp ha q hm
  · simp only [Bool.and_eq_true, beq_iff_eq] at hp
    exact Prod.ext hp.1 hp.2
theorem tw_w_objInst : (Cond.instanceMethod objectInit : Cond) ∈ lw_tbl := tw_mem 73 (by decide +kernel)
theorem tw_w_objCode : (Cond.code objectInit ⟨#[0xb1]⟩ 1 none : Cond) ∈ lw_tbl := tw_mem 74 (by decide +kernel)
theorem tw_w_mathIni : (Cond.initialized "java/lang/Math" : Cond) ∈ lw_tbl := tw_mem 57 (by decide +kernel)
theorem tw_w_maxSt : (Cond.static Lib.Math.max.name : Cond) ∈ lw_tbl := tw_mem 142 (by decide +kernel)
theorem tw_w_minSt : (Cond.static Lib.Math.min.name : Cond) ∈ lw_tbl := tw_mem 513 (by decide +kernel)
theorem tw_w_maxC : (Cond.code Lib.Math.max.name Lib.Math.max.code 2 (some .int) : Cond) ∈ lw_tbl := tw_mem 143 (by decide +kernel)
theorem tw_w_minC : (Cond.code Lib.Math.min.name Lib.Math.min.code 2 (some .int) : Cond) ∈ lw_tbl := tw_mem 514 (by decide +kernel)
theorem tw_w_sysIni : (Cond.initialized "java/lang/System" : Cond) ∈ lw_tbl := tw_mem 66 (by decide +kernel)
theorem tw_w_acpNat : (Cond.native arraycopyName : Cond) ∈ lw_tbl := tw_mem 637 (by decide +kernel)
theorem tw_w_acpSt : (Cond.static arraycopyName : Cond) ∈ lw_tbl := tw_mem 636 (by decide +kernel)
theorem tw_w_arrI : (Cond.arrayClass .int : Cond) ∈ lw_tbl := tw_mem 117 (by decide +kernel)
theorem tw_w_ovR : (Cond.arrayOver (.object "TideWheels$Row") : Cond) ∈ lw_tbl := tw_mem 76 (by decide +kernel)
theorem tw_w_ovW : (Cond.arrayOver (.object "TideWheels$Work") : Cond) ∈ lw_tbl := tw_mem 175 (by decide +kernel)
theorem tw_w_casS : (Cond.castable "TideWheels$Saint" "TideWheels$Work" : Cond) ∈ lw_tbl := tw_mem 1072 (by decide +kernel)
theorem tw_w_casB : (Cond.castable "TideWheels$Barnacled" "TideWheels$Work" : Cond) ∈ lw_tbl := tw_mem 1073 (by decide +kernel)
/-! the fields: of a class and a number of its pool: the place of the word, which field, of objects of which classes -/
def tw_fs : List ((Nat × Nat) × Nat × Nat × List Nat) := [((1, 9), 195, 0, [1]), ((1, 23), 146, 0, [2]), ((2, 15), 148, 1, [2]), ((2, 21), 149, 2, [2]), ((2, 24), 150, 3, [2]), ((2, 27), 144, 0, [2]), ((3, 9), 602, 0, [3]), ((3, 21), 604, 1, [3]), ((5, 14), 160, 0, [5]), ((5, 20), 164, 2, [5]), ((5, 28), 162, 1, [5]), ((5, 39), 145, 0, [2]), ((6, 9), 182, 0, [6]), ((6, 15), 183, 1, [6]), ((7, 9), 83, 0, [7]), ((7, 15), 85, 1, [7]), ((7, 18), 87, 2, [7]), ((7, 21), 95, 6, [7]), ((7, 24), 96, 7, [7]), ((7, 28), 97, 8, [7]), ((7, 31), 93, 5, [7]), ((7, 52), 89, 3, [7]), ((7, 59), 91, 4, [7]), ((8, 7), 124, 0, [8]), ((9, 9), 319, 0, [0, 4, 9]), ((9, 15), 320, 1, [0, 4, 9]), ((10, 13), 199, 0, [10]), ((10, 20), 200, 1, [10]), ((10, 27), 201, 2, [10]), ((10, 34), 202, 3, [10]), ((10, 43), 203, 4, [10]), ((10, 49), 204, 5, [10]), ((10, 56), 205, 6, [10]), ((10, 60), 206, 7, [10]), ((10, 66), 207, 8, [10]), ((10, 70), 212, 13, [10]), ((10, 93), 605, 1, [3]), ((10, 101), 94, 5, [7]), ((10, 107), 208, 9, [10]), ((10, 118), 321, 1, [0, 4, 9]), ((10, 124), 209, 10, [10]), ((10, 135), 210, 11, [10]), ((10, 142), 163, 1, [5]), ((10, 145), 211, 12, [10]), ((10, 157), 161, 0, [5]), ((10, 224), 603, 0, [3]), ((10, 240), 125, 0, [8]), ((10, 243), 147, 0, [2]), ((10, 246), 92, 4, [7]), ((10, 248), 86, 1, [7]), ((10, 255), 88, 2, [7]), ((10, 262), 84, 0, [7]), ((10, 265), 90, 3, [7]), ((11, 7), 705, 2, [11]), ((11, 13), 707, 4, [11]), ((11, 16), 708, 5, [11]), ((11, 19), 716, 13, [11]), ((11, 22), 717, 14, [11]), ((11, 25), 718, 15, [11]), ((11, 28), 720, 17, [11]), ((11, 31), 721, 18, [11]), ((11, 34), 722, 19, [11]), ((11, 37), 724, 21, [11]), ((11, 40), 725, 22, [11]), ((11, 43), 726, 23, [11]), ((11, 46), 727, 24, [11]), ((11, 49), 728, 25, [11]), ((11, 52), 729, 26, [11]), ((11, 55), 730, 27, [11]), ((11, 58), 712, 9, [11]), ((11, 64), 703, 0, [11]), ((11, 71), 706, 3, [11]), ((11, 80), 713, 10, [11]), ((11, 87), 714, 11, [11]), ((11, 94), 715, 12, [11]), ((11, 128), 704, 1, [11]), ((11, 135), 709, 6, [11]), ((11, 138), 710, 7, [11]), ((11, 141), 711, 8, [11]), ((11, 144), 719, 16, [11]), ((11, 147), 723, 20, [11]), ((11, 229), 731, 28, [11])]
def tw_fe (o i : Nat) : Option ((Nat × Nat) × Nat × Nat × List Nat) := tw_fs.find? fun q => q.1.1 == o && q.1.2 == i
def tw_fc (q : (Nat × Nat) × Nat × Nat × List Nat) : Bool := q.2.2.2.all fun c => decide (c < 12) && (decide (q.2.2.1 < tw_N c) && tw_is q.2.1 (.fieldLink (tw_R q.1.1) q.1.2 (tw_T c q.2.2.1).1 (tw_T c q.2.2.1).2.1 (tw_T c q.2.2.1).2.2.1))
theorem tw_fcs : tw_fs.all tw_fc = true := by decide +kernel
theorem tw_fok {o i : Nat} {q : (Nat × Nat) × Nat × Nat × List Nat} (h : tw_fe o i = some q) {c : Nat} (hc : c ∈ q.2.2.2) : c < 12 ∧ q.2.2.1 < tw_N c ∧ Cond.fieldLink (tw_R o) i (tw_T c q.2.2.1).1 (tw_T c q.2.2.1).2.1 (tw_T c q.2.2.1).2.2.1 ∈ lw_tbl := by
  have hm := List.mem_of_find?_eq_some h
  have hp := List.find?_some h
  simp only [Bool.and_eq_true, beq_iff_eq] at hp
  have h1 := List.all_eq_true.mp (List.all_eq_true.mp tw_fcs q hm) c hc
  simp only [Bool.and_eq_true, decide_eq_true_eq] at h1
  have h2 := tw_is.mem h1.2.2
  rw [hp.1, hp.2] at h2
  exact ⟨h1.1, h1.2.1, h2⟩
def tw_nws : List ((Nat × Nat) × Nat × Nat × Nat × Nat) := [((5, 9), 2, 135, 136, 56), ((10, 11), 3, 75, 596, 65), ((10, 17), 7, 77, 78, 53), ((10, 24), 8, 118, 119, 54), ((10, 31), 5, 129, 130, 55), ((10, 38), 2, 172, 136, 56), ((10, 47), 9, 174, 333, 61), ((10, 53), 6, 176, 177, 58), ((10, 63), 1, 189, 190, 59), ((10, 273), 4, 307, 308, 63), ((10, 276), 0, 327, 328, 62), ((12, 7), 10, 67, 68, 52), ((12, 10), 11, 697, 698, 60)]
def tw_nw (o i : Nat) : Option ((Nat × Nat) × Nat × Nat × Nat × Nat) := tw_nws.find? fun q => q.1.1 == o && q.1.2 == i
def tw_nwc (q : (Nat × Nat) × Nat × Nat × Nat × Nat) : Bool := decide (q.2.1 < 12) && (tw_is q.2.2.1 (.classLink (tw_R q.1.1) q.1.2 (tw_R q.2.1)) && (tw_is q.2.2.2.1 (.instantiable (tw_R q.2.1) (tw_N q.2.1)) && tw_is q.2.2.2.2 (.initialized (tw_R q.2.1))))
theorem tw_nwcs : tw_nws.all tw_nwc = true := by decide +kernel
theorem tw_nok {o i : Nat} {q : (Nat × Nat) × Nat × Nat × Nat × Nat} (h : tw_nw o i = some q) : q.2.1 < 12 ∧ Cond.classLink (tw_R o) i (tw_R q.2.1) ∈ lw_tbl ∧ Cond.instantiable (tw_R q.2.1) (tw_N q.2.1) ∈ lw_tbl ∧ Cond.initialized (tw_R q.2.1) ∈ lw_tbl := by
  have hm := List.mem_of_find?_eq_some h
  have hp := List.find?_some h
  simp only [Bool.and_eq_true, beq_iff_eq] at hp
  have h1 := List.all_eq_true.mp tw_nwcs q hm
  simp only [tw_nwc, Bool.and_eq_true, decide_eq_true_eq] at h1
  have h2 := tw_is.mem h1.2.1
  rw [hp.1, hp.2] at h2
  exact ⟨h1.1, h2, tw_is.mem h1.2.2.1, tw_is.mem h1.2.2.2⟩
def tw_aR : Nat → String
  | 1 => "TideWheels$Row"
  | _ => "TideWheels$Work"
def tw_aws : List ((Nat × Nat) × Nat × Nat) := [((10, 11), 1, 75), ((10, 47), 2, 174)]
def tw_aw (o i : Nat) : Option ((Nat × Nat) × Nat × Nat) := tw_aws.find? fun q => q.1.1 == o && q.1.2 == i
def tw_awc (q : (Nat × Nat) × Nat × Nat) : Bool := (decide (q.2.1 = 1) || decide (q.2.1 = 2)) && tw_is q.2.2 (.classLink (tw_R q.1.1) q.1.2 (tw_aR q.2.1))
theorem tw_awcs : tw_aws.all tw_awc = true := by decide +kernel
theorem tw_aok {o i : Nat} {q : (Nat × Nat) × Nat × Nat} (h : tw_aw o i = some q) : (q.2.1 = 1 ∨ q.2.1 = 2) ∧ Cond.classLink (tw_R o) i (tw_aR q.2.1) ∈ lw_tbl := by
  have hm := List.mem_of_find?_eq_some h
  have hp := List.find?_some h
  simp only [Bool.and_eq_true, beq_iff_eq] at hp
  have h1 := List.all_eq_true.mp tw_awcs q hm
  simp only [tw_awc, Bool.and_eq_true, Bool.or_eq_true, decide_eq_true_eq] at h1
  have h2 := tw_is.mem h1.2
  rw [hp.1, hp.2] at h2
  exact ⟨h1.1, h2⟩
def tw_lls : List ((Nat × Nat) × Int64 × Nat) := [((10, 210), (-9223372036854775808), 591), ((11, 62), (-9223372036854775808), 1006), ((11, 78), 59, 876), ((11, 119), 2, 806), ((11, 162), (-59), 877), ((11, 206), 30, 965), ((11, 211), 60, 974), ((11, 220), 3, 798)]
def tw_ll (o i : Nat) : Option ((Nat × Nat) × Int64 × Nat) := tw_lls.find? fun q => q.1.1 == o && q.1.2 == i
theorem tw_llcs : (tw_lls.all fun q => tw_is q.2.2 (.constantLong (tw_R q.1.1) q.1.2 q.2.1)) = true := by decide +kernel
theorem tw_llok {o i : Nat} {q : (Nat × Nat) × Int64 × Nat} (h : tw_ll o i = some q) : Cond.constantLong (tw_R o) i q.2.1 ∈ lw_tbl := by
  have hm := List.mem_of_find?_eq_some h
  have hp := List.find?_some h
  simp only [Bool.and_eq_true, beq_iff_eq] at hp
  have h2 := tw_is.mem (List.all_eq_true.mp tw_llcs q hm)
  rw [hp.1, hp.2] at h2
  exact h2
def tw_lis : List ((Nat × Nat) × Int32 × Nat) := [((13, 265), 1431655765, 518), ((13, 266), 858993459, 519), ((13, 267), 252645135, 520)]
def tw_li (o i : Nat) : Option ((Nat × Nat) × Int32 × Nat) := tw_lis.find? fun q => q.1.1 == o && q.1.2 == i
theorem tw_lics : (tw_lis.all fun q => tw_is q.2.2 (.constant (tw_R q.1.1) q.1.2 q.2.1)) = true := by decide +kernel
theorem tw_liok {o i : Nat} {q : (Nat × Nat) × Int32 × Nat} (h : tw_li o i = some q) : Cond.constant (tw_R o) i q.2.1 ∈ lw_tbl := by
  have hm := List.mem_of_find?_eq_some h
  have hp := List.find?_some h
  simp only [Bool.and_eq_true, beq_iff_eq] at hp
  have h2 := tw_is.mem (List.all_eq_true.mp tw_lics q hm)
  rw [hp.1, hp.2] at h2
  exact h2
/-- the words that hold in every state that a call reaches; and the others that are used -/
def tw_gt : List Cond := lw_tbl.filter goodWord
theorem tw_gt_of {w : Cond} (h : w ∈ lw_tbl) (hg : goodWord w = true) : w ∈ tw_gt := List.mem_filter.mpr ⟨h, hg⟩
def tw_xw : Cond → Bool
  | .methodLinkNest .. => true
  | .castable .. => true
  | _ => false
end
section
/-! A SMALLER MACHINE: the methods by numbers, a frame as lists, the heap by numbers of cells (0 is the script): its runs are the real machine's (part 04); what the program answers is then shown of it alone -/
/-- a cell: an int array (length, contents); an array of references (which kind, length, contents); an object (class, fields) -/
abbrev tw_C : Type := (Nat × (Nat → Int32)) ⊕ ((Nat × Nat × (Nat → Option Nat)) ⊕ (Nat × List Value))
/-- how many cells, how many slots were made, what the cells hold -/
abbrev tw_H : Type := Nat × Nat × (Nat → Option tw_C)
abbrev tw_Q : Type := Option Value × tw_H
abbrev tw_S : Type := Nat × Nat × List Value × List Value × tw_H
abbrev tw_O : Type := tw_Q ⊕ (tw_S ⊕ (tw_S × (Nat × Nat × List Value × List Value)))
def tw_set (h : tw_H) (a : Nat) (e : tw_C) : tw_H := (h.1, h.2.1, fun j => if j = a then some e else h.2.2 j)
def tw_new (h : tw_H) (e : tw_C) (n : Nat) : tw_H := (h.1 + 1, h.2.1 + n, fun j => if j = h.1 then some e else h.2.2 j)
def tw_nx (mi pc : Nat) (L S : List Value) (h : tw_H) : Option tw_O := some (.inr (.inl (mi, pc, L, S, h)))
def tw_g {α : Type} (b : Bool) (o : Option α) : Option α := if b = true then o else none
def tw_asI : Value → Option Int32
  | .int x => some x
  | _ => none
def tw_asL : Value → Option Int64
  | .long x => some x
  | _ => none
def tw_asA : Value → Option Value
  | .ref a => some (.ref a)
  | .null => some .null
  | _ => none
def tw_pI : List Value → Option (Int32 × List Value)
  | .int x :: T => some (x, T)
  | _ => none
def tw_pL : List Value → Option (Int64 × List Value)
  | .long x :: T => some (x, T)
  | _ => none
def tw_pR : List Value → Option (Nat × List Value)
  | .ref x :: T => some (x, T)
  | _ => none
def tw_pV : List Value → Option (Value × List Value)
  | v :: T => some (v, T)
  | _ => none
/-- the locals: a place that is unset, or a long's second half, is retAddr 0 -/
def tw_un : Value := .retAddr 0
def tw_st (L : List Value) (i : Nat) (v : Value) : Option (List Value) :=
  tw_g (decide (i < L.length) && (match i with | 0 => true | j + 1 => decide ((L.getD j tw_un).category ≠ 2))) (some (L.set i v))
def tw_st2 (L : List Value) (i : Nat) (v : Value) : Option (List Value) :=
  tw_g (decide (i + 1 < L.length) && (match i with | 0 => true | j + 1 => decide ((L.getD j tw_un).category ≠ 2))) (some ((L.set i v).set (i + 1) tw_un))
def tw_cmp (k : Jvm.ClassFile.Cond) (x y : Int32) : Bool := match k with
  | .eq => decide (x = y)
  | .ne => decide (¬ x = y)
  | .lt => decide (x < y)
  | .ge => decide (y ≤ x)
  | .gt => decide (y < x)
  | .le => decide (x ≤ y)
/-- where a jump goes -/
def tw_to (pc : Nat) (off : Int) (k : Nat → Option tw_O) : Option tw_O := tw_g (decide (0 ≤ (pc : Int) + off)) (k ((pc : Int) + off).toNat)
/-- the locals with which a method begins -/
def tw_ea : List Value → List Value
  | [] => []
  | v :: vs => if v.category = 2 then v :: tw_un :: tw_ea vs else v :: tw_ea vs
def tw_en (mi : Nat) (vs : List Value) : List Value := tw_ea vs ++ List.replicate (tw_ml mi - (tw_ea vs).length) tw_un
def tw_ct (S : List Value) : Nat := (S.map fun v => v.category).sum
def tw_inv (mi pc : Nat) (L rest : List Value) (h : tw_H) (t : Nat) (vs : List Value) : Option tw_O :=
  tw_g (decide (tw_ct rest ≤ 8) && (decide (tw_rk t < tw_rk mi) && decide ((tw_ea vs).length ≤ tw_ml t))) (some (.inr (.inr ((t, 0, tw_en t vs, [], h), (mi, pc + 3, L, rest)))))
def tw_nb (mi : Nat) (x : Int32) : Bool := match tw_rt mi with
  | some .int => true
  | some .boolean => decide (x = 0) || decide (x = 1)
  | _ => false
def tw_isL (mi : Nat) : Bool := match tw_rt mi with
  | some .long => true
  | _ => false
def tw_isA (mi : Nat) : Bool := match tw_rt mi with
  | some (.object _) => true
  | _ => false
def tw_isV (mi : Nat) : Bool := match tw_rt mi with
  | none => true
  | _ => false
def tw_fit (t : FieldType) (v : Value) : Bool := match t, v with
  | .int, .int _ => true
  | .object _, .ref _ => true
  | .object _, .null => true
  | .array _, .ref _ => true
  | .array _, .null => true
  | _, _ => false
/-- a field of this kind of object may be written by this method -/
def tw_pok (mi c k : Nat) : Bool := decide ((tw_T c k).2.2.2 = false) || (decide ((tw_y mi).name = "<init>") && decide ((tw_T c k).1 = tw_R (tw_ow mi)))
def tw_vi (i : Int32) (n : Nat) : Bool := decide (0 ≤ i) && decide (i.toNatClampNeg < n)
def tw_rf : Option Nat → Value
  | none => .null
  | some a => .ref a
/-- what may be put into an array of references -/
def tw_el (h : tw_H) (t : Nat) (v : Value) : Option (Option Nat) := match v with
  | .null => some none
  | .ref b => (match h.2.2 b with
    | some (.inr (.inr (c, _))) => if (t = 1 ∧ c = 3) ∨ (t = 2 ∧ (c = 9 ∨ c = 0 ∨ c = 4)) then some (some b) else none
    | _ => none)
  | _ => none
def tw_do (mi pc : Nat) (L S : List Value) (h : tw_H) (len : Nat) : Instr → Option tw_O
  | .iconst n => tw_g (len == 1) (tw_nx mi (pc + 1) L (.int (Int32.ofInt n) :: S) h)
  | .bipush n => tw_g (len == 2) (tw_nx mi (pc + 2) L (.int (Int8.ofInt n).toInt32 :: S) h)
  | .sipush n => tw_g (len == 3) (tw_nx mi (pc + 3) L (.int (Int16.ofInt n).toInt32 :: S) h)
  | .lconst n => tw_g (len == 1) (tw_nx mi (pc + 1) L (.long (Int64.ofNat (n : Nat)) :: S) h)
  | .ldc2_w i => tw_g (len == 3) ((tw_ll (tw_ow mi) i).bind fun q => tw_nx mi (pc + 3) L (.long q.2.1 :: S) h)
  | .ldc_w i => tw_g (len == 3) ((tw_li (tw_ow mi) i).bind fun q => tw_nx mi (pc + 3) L (.int q.2.1 :: S) h)
  | .aconst_null => tw_g (len == 1) (tw_nx mi (pc + 1) L (.null :: S) h)
  | .iload_n k => tw_g (len == 1) ((L[(k : Nat)]?.bind tw_asI).bind fun x => tw_nx mi (pc + 1) L (.int x :: S) h)
  | .iload i => tw_g (len == 2) ((L[i]?.bind tw_asI).bind fun x => tw_nx mi (pc + 2) L (.int x :: S) h)
  | .lload_n k => tw_g (len == 1) ((L[(k : Nat)]?.bind tw_asL).bind fun x => tw_nx mi (pc + 1) L (.long x :: S) h)
  | .lload i => tw_g (len == 2) ((L[i]?.bind tw_asL).bind fun x => tw_nx mi (pc + 2) L (.long x :: S) h)
  | .aload_n k => tw_g (len == 1) ((L[(k : Nat)]?.bind tw_asA).bind fun x => tw_nx mi (pc + 1) L (x :: S) h)
  | .aload i => tw_g (len == 2) ((L[i]?.bind tw_asA).bind fun x => tw_nx mi (pc + 2) L (x :: S) h)
  | .istore_n k => tw_g (len == 1) ((tw_pI S).bind fun q => (tw_st L (k : Nat) (.int q.1)).bind fun L' => tw_nx mi (pc + 1) L' q.2 h)
  | .istore i => tw_g (len == 2) ((tw_pI S).bind fun q => (tw_st L i (.int q.1)).bind fun L' => tw_nx mi (pc + 2) L' q.2 h)
  | .lstore_n k => tw_g (len == 1) ((tw_pL S).bind fun q => (tw_st2 L (k : Nat) (.long q.1)).bind fun L' => tw_nx mi (pc + 1) L' q.2 h)
  | .lstore i => tw_g (len == 2) ((tw_pL S).bind fun q => (tw_st2 L i (.long q.1)).bind fun L' => tw_nx mi (pc + 2) L' q.2 h)
  | .astore_n k => tw_g (len == 1) ((tw_pV S).bind fun q => (tw_asA q.1).bind fun v => (tw_st L (k : Nat) v).bind fun L' => tw_nx mi (pc + 1) L' q.2 h)
  | .astore i => tw_g (len == 2) ((tw_pV S).bind fun q => (tw_asA q.1).bind fun v => (tw_st L i v).bind fun L' => tw_nx mi (pc + 2) L' q.2 h)
  | .iinc i n => tw_g (len == 3) ((L[i]?.bind tw_asI).bind fun x => (tw_st L i (.int (x + Int32.ofInt n))).bind fun L' => tw_nx mi (pc + 3) L' S h)
  | .iadd => tw_g (len == 1) ((tw_pI S).bind fun y => (tw_pI y.2).bind fun x => tw_nx mi (pc + 1) L (.int (x.1 + y.1) :: x.2) h)
  | .isub => tw_g (len == 1) ((tw_pI S).bind fun y => (tw_pI y.2).bind fun x => tw_nx mi (pc + 1) L (.int (x.1 - y.1) :: x.2) h)
  | .imul => tw_g (len == 1) ((tw_pI S).bind fun y => (tw_pI y.2).bind fun x => tw_nx mi (pc + 1) L (.int (x.1 * y.1) :: x.2) h)
  | .idiv => tw_g (len == 1) ((tw_pI S).bind fun y => (tw_pI y.2).bind fun x => tw_g (decide (¬ y.1 = 0)) (tw_nx mi (pc + 1) L (.int (x.1 / y.1) :: x.2) h))
  | .irem => tw_g (len == 1) ((tw_pI S).bind fun y => (tw_pI y.2).bind fun x => tw_g (decide (¬ y.1 = 0)) (tw_nx mi (pc + 1) L (.int (x.1 - x.1 / y.1 * y.1) :: x.2) h))
  | .iand => tw_g (len == 1) ((tw_pI S).bind fun y => (tw_pI y.2).bind fun x => tw_nx mi (pc + 1) L (.int (x.1 &&& y.1) :: x.2) h)
  | .ior => tw_g (len == 1) ((tw_pI S).bind fun y => (tw_pI y.2).bind fun x => tw_nx mi (pc + 1) L (.int (x.1 ||| y.1) :: x.2) h)
  | .ixor => tw_g (len == 1) ((tw_pI S).bind fun y => (tw_pI y.2).bind fun x => tw_nx mi (pc + 1) L (.int (x.1 ^^^ y.1) :: x.2) h)
  | .ishl => tw_g (len == 1) ((tw_pI S).bind fun y => (tw_pI y.2).bind fun x => tw_nx mi (pc + 1) L (.int (x.1 <<< (y.1 &&& 31)) :: x.2) h)
  | .ishr => tw_g (len == 1) ((tw_pI S).bind fun y => (tw_pI y.2).bind fun x => tw_nx mi (pc + 1) L (.int (x.1 >>> (y.1 &&& 31)) :: x.2) h)
  | .iushr => tw_g (len == 1) ((tw_pI S).bind fun y => (tw_pI y.2).bind fun x => tw_nx mi (pc + 1) L (.int (x.1.toUInt32 >>> (y.1.toUInt32 &&& Int32.toUInt32 31)).toInt32 :: x.2) h)
  | .ladd => tw_g (len == 1) ((tw_pL S).bind fun y => (tw_pL y.2).bind fun x => tw_nx mi (pc + 1) L (.long (x.1 + y.1) :: x.2) h)
  | .lsub => tw_g (len == 1) ((tw_pL S).bind fun y => (tw_pL y.2).bind fun x => tw_nx mi (pc + 1) L (.long (x.1 - y.1) :: x.2) h)
  | .lmul => tw_g (len == 1) ((tw_pL S).bind fun y => (tw_pL y.2).bind fun x => tw_nx mi (pc + 1) L (.long (x.1 * y.1) :: x.2) h)
  | .ldiv => tw_g (len == 1) ((tw_pL S).bind fun y => (tw_pL y.2).bind fun x => tw_g (decide (¬ y.1 = 0)) (tw_nx mi (pc + 1) L (.long (x.1 / y.1) :: x.2) h))
  | .lrem => tw_g (len == 1) ((tw_pL S).bind fun y => (tw_pL y.2).bind fun x => tw_g (decide (¬ y.1 = 0)) (tw_nx mi (pc + 1) L (.long (x.1 - x.1 / y.1 * y.1) :: x.2) h))
  | .lcmp => tw_g (len == 1) ((tw_pL S).bind fun y => (tw_pL y.2).bind fun x => tw_nx mi (pc + 1) L (.int (lg_cmp x.1 y.1) :: x.2) h)
  | .i2l => tw_g (len == 1) ((tw_pI S).bind fun x => tw_nx mi (pc + 1) L (.long x.1.toInt64 :: x.2) h)
  | .i2b => tw_g (len == 1) ((tw_pI S).bind fun x => tw_nx mi (pc + 1) L (.int x.1.toInt8.toInt32 :: x.2) h)
  | .i2s => tw_g (len == 1) ((tw_pI S).bind fun x => tw_nx mi (pc + 1) L (.int x.1.toInt16.toInt32 :: x.2) h)
  | .dup => tw_g (len == 1) ((tw_pV S).bind fun x => tw_g (decide (x.1.category = 1)) (tw_nx mi (pc + 1) L (x.1 :: x.1 :: x.2) h))
  | .dup_x1 => tw_g (len == 1) ((tw_pV S).bind fun x => (tw_pV x.2).bind fun y => tw_g (decide (x.1.category = 1) && decide (y.1.category = 1)) (tw_nx mi (pc + 1) L (x.1 :: y.1 :: x.1 :: y.2) h))
  | .dup2 => tw_g (len == 1) ((tw_pV S).bind fun x => (tw_pV x.2).bind fun y => tw_g (decide (x.1.category = 1) && decide (y.1.category = 1)) (tw_nx mi (pc + 1) L (x.1 :: y.1 :: x.1 :: y.1 :: y.2) h))
  | .ifCond c off => tw_g (len == 3) ((tw_pI S).bind fun x => tw_to pc off fun t => if tw_cmp c x.1 0 = true then tw_nx mi t L x.2 h else tw_nx mi (pc + 3) L x.2 h)
  | .if_icmp c off => tw_g (len == 3) ((tw_pI S).bind fun y => (tw_pI y.2).bind fun x => tw_to pc off fun t => if tw_cmp c x.1 y.1 = true then tw_nx mi t L x.2 h else tw_nx mi (pc + 3) L x.2 h)
  | .goto off => tw_g (len == 3) (tw_to pc off (fun t => tw_nx mi t L S h))
  | .ifnull off => tw_g (len == 3) ((tw_pV S).bind fun x => (tw_asA x.1).bind fun v => if v = .null then tw_to pc off (fun t => tw_nx mi t L x.2 h) else tw_nx mi (pc + 3) L x.2 h)
  | .ifnonnull off => tw_g (len == 3) ((tw_pV S).bind fun x => (tw_asA x.1).bind fun v => if v = .null then tw_nx mi (pc + 3) L x.2 h else tw_to pc off (fun t => tw_nx mi t L x.2 h))
  | .tableswitch d lo hi offs => (tw_pI S).bind fun x => if x.1.toInt < lo ∨ hi < x.1.toInt then tw_to pc d (fun t => tw_nx mi t L x.2 h) else (offs[(x.1.toInt - lo).toNat]?).bind fun off => tw_to pc off (fun t => tw_nx mi t L x.2 h)
  | .lookupswitch d ps => tw_g ((ps.toList.zip (ps.toList.drop 1)).all (fun (a, next) => a.1 < next.1)) ((tw_pI S).bind fun x => tw_to pc (Op.lookupswitch.offset ps.toList d x.1.toInt) (fun t => tw_nx mi t L x.2 h))
  | .ireturn => tw_g (len == 1) (match S with | [.int x] => tw_g (tw_nb mi x) (some (.inl (some (.int x), h))) | _ => none)
  | .lreturn => tw_g (len == 1) (match S with | [.long x] => tw_g (tw_isL mi) (some (.inl (some (.long x), h))) | _ => none)
  | .areturn => tw_g (len == 1) (match S with | [v] => (tw_asA v).bind fun v => tw_g (tw_isA mi) (some (.inl (some v, h))) | _ => none)
  | .return_ => tw_g (len == 1) (match S with | [] => tw_g (tw_isV mi) (some (.inl (none, h))) | _ => none)
  | .new i => tw_g (len == 3) ((tw_nw (tw_ow mi) i).bind fun q => tw_nx mi (pc + 3) L (.ref h.1 :: S) (tw_new h (.inr (.inr (q.2.1, tw_df q.2.1))) (tw_N q.2.1)))
  | .newarray .int => tw_g (len == 2) ((tw_pI S).bind fun n => tw_g (decide (0 ≤ n.1) && decide (n.1.toNatClampNeg ≤ 1000)) (tw_nx mi (pc + 2) L (.ref h.1 :: n.2) (tw_new h (.inl (n.1.toNatClampNeg, fun _ => 0)) n.1.toNatClampNeg)))
  | .anewarray i => tw_g (len == 3) ((tw_aw (tw_ow mi) i).bind fun q => (tw_pI S).bind fun n => tw_g (decide (0 ≤ n.1) && decide (n.1.toNatClampNeg ≤ 1000)) (tw_nx mi (pc + 3) L (.ref h.1 :: n.2) (tw_new h (.inr (.inl (q.2.1, n.1.toNatClampNeg, fun _ => none))) n.1.toNatClampNeg)))
  | .getfield i => tw_g (len == 3) ((tw_fe (tw_ow mi) i).bind fun q => (tw_pR S).bind fun a => tw_g (decide (a.1 ≠ 0)) (match h.2.2 a.1 with
    | some (.inr (.inr (c, fs))) => tw_g (decide (c ∈ q.2.2.2)) ((fs[q.2.2.1]?).bind fun v => tw_nx mi (pc + 3) L (v :: a.2) h)
    | _ => none))
  | .putfield i => tw_g (len == 3) ((tw_fe (tw_ow mi) i).bind fun q => (tw_pV S).bind fun v => (tw_pR v.2).bind fun a => tw_g (decide (a.1 ≠ 0)) (match h.2.2 a.1 with
    | some (.inr (.inr (c, fs))) => tw_g (decide (c ∈ q.2.2.2) && (tw_fit (tw_t c q.2.2.1) v.1 && (tw_pok mi c q.2.2.1 && decide (q.2.2.1 < fs.length)))) (tw_nx mi (pc + 3) L a.2 (tw_set h a.1 (.inr (.inr (c, fs.set q.2.2.1 v.1)))))
    | _ => none))
  | .iaload => tw_g (len == 1) ((tw_pI S).bind fun i => (tw_pR i.2).bind fun a => match h.2.2 a.1 with
    | some (.inl (n, f)) => tw_g (tw_vi i.1 n) (tw_nx mi (pc + 1) L (.int (f i.1.toNatClampNeg) :: a.2) h)
    | _ => none)
  | .iastore => tw_g (len == 1) ((tw_pI S).bind fun x => (tw_pI x.2).bind fun i => (tw_pR i.2).bind fun a => tw_g (decide (a.1 ≠ 0)) (match h.2.2 a.1 with
    | some (.inl (n, f)) => tw_g (tw_vi i.1 n) (tw_nx mi (pc + 1) L a.2 (tw_set h a.1 (.inl (n, upd f i.1.toNatClampNeg x.1))))
    | _ => none))
  | .aaload => tw_g (len == 1) ((tw_pI S).bind fun i => (tw_pR i.2).bind fun a => tw_g (decide (a.1 ≠ 0)) (match h.2.2 a.1 with
    | some (.inr (.inl (t, n, f))) => tw_g (tw_vi i.1 n && (decide (t = 1) || decide (t = 2))) (tw_nx mi (pc + 1) L (tw_rf (f i.1.toNatClampNeg) :: a.2) h)
    | _ => none))
  | .aastore => tw_g (len == 1) ((tw_pV S).bind fun v => (tw_pI v.2).bind fun i => (tw_pR i.2).bind fun a => tw_g (decide (a.1 ≠ 0) && decide (v.1 ≠ .ref 0)) (match h.2.2 a.1 with
    | some (.inr (.inl (t, n, f))) => tw_g (tw_vi i.1 n && (decide (t = 1) || decide (t = 2))) ((tw_el h t v.1).bind fun o => tw_nx mi (pc + 1) L a.2 (tw_set h a.1 (.inr (.inl (t, n, va_up f i.1.toNatClampNeg o)))))
    | _ => none))
  | .arraylength => tw_g (len == 1) ((tw_pR S).bind fun a => match h.2.2 a.1 with
    | some (.inl (n, _)) => tw_nx mi (pc + 1) L (.int (Int32.ofNat n) :: a.2) h
    | some (.inr (.inl (t, n, _))) => tw_g (decide (a.1 ≠ 0) && (decide (t = 1) || decide (t = 2))) (tw_nx mi (pc + 1) L (.int (Int32.ofNat n) :: a.2) h)
    | _ => none)
  | .invokestatic i => tw_g (len == 3) ((tw_ce (tw_ow mi) i).bind fun q => match q.2.1 with
    | 0 => tw_g (decide (q.2.2.1 ≤ S.length)) (tw_inv mi pc L (S.drop q.2.2.1) h (tw_hd q) (S.take q.2.2.1).reverse)
    | 1 => tw_g (decide (q.2.2.1 ≤ S.length)) (tw_inv mi pc L (S.drop q.2.2.1) h (tw_hd q) (S.take q.2.2.1).reverse)
    | 11 => (tw_pI S).bind fun y => (tw_pI y.2).bind fun x => tw_g (decide (tw_ct x.2 ≤ 8) && decide (0 < tw_rk mi)) (tw_nx mi (pc + 3) L (.int (if x.1 < y.1 then y.1 else x.1) :: x.2) h)
    | 12 => (tw_pI S).bind fun y => (tw_pI y.2).bind fun x => tw_g (decide (tw_ct x.2 ≤ 8) && decide (0 < tw_rk mi)) (tw_nx mi (pc + 3) L (.int (if y.1 < x.1 then y.1 else x.1) :: x.2) h)
    | 13 => (tw_pI S).bind fun n => (tw_pI n.2).bind fun dp => (tw_pR dp.2).bind fun b => (tw_pI b.2).bind fun sp => (tw_pR sp.2).bind fun a => tw_g (decide (a.1 ≠ 0) && (decide (b.1 ≠ 0) && (decide (tw_ct a.2 ≤ 8) && decide (0 < tw_rk mi)))) (match h.2.2 a.1, h.2.2 b.1 with
      | some (.inl (n0, f)), some (.inl (n1, g)) => tw_g (decide (0 ≤ n.1) && (decide (0 ≤ dp.1) && (decide (0 ≤ sp.1) && (decide (sp.1.toNatClampNeg + n.1.toNatClampNeg ≤ n0) && decide (dp.1.toNatClampNeg + n.1.toNatClampNeg ≤ n1))))) (tw_nx mi (pc + 3) L a.2 (tw_set h b.1 (.inl (n1, va_cpy f g sp.1.toNatClampNeg dp.1.toNatClampNeg n.1.toNatClampNeg))))
      | _, _ => none)
    | _ => none)
  | .invokespecial i => tw_g (len == 3) ((tw_ce (tw_ow mi) i).bind fun q => (tw_pR (S.drop q.2.2.1)).bind fun a => tw_g (decide (a.1 ≠ 0)) (match q.2.1 with
    | 2 => tw_inv mi pc L a.2 h (tw_hd q) (.ref a.1 :: (S.take q.2.2.1).reverse)
    | 3 => tw_inv mi pc L a.2 h (tw_hd q) (.ref a.1 :: (S.take q.2.2.1).reverse)
    | 4 => (match h.2.2 a.1 with
      | some (.inr (.inr (c, _))) => tw_g (decide (c < 12)) (tw_inv mi pc L a.2 h (tw_hd q) (.ref a.1 :: (S.take q.2.2.1).reverse))
      | _ => none)
    | 10 => tw_g (decide (tw_ct a.2 ≤ 8) && (decide (0 < tw_rk mi) && decide (q.2.2.1 = 0))) (tw_nx mi (pc + 3) L a.2 h)
    | _ => none))
  | .invokevirtual i => tw_g (len == 3) ((tw_ce (tw_ow mi) i).bind fun q => (tw_pR (S.drop q.2.2.1)).bind fun a => tw_g (decide (a.1 ≠ 0) && (decide (q.2.1 = 5) || decide (q.2.1 = 6))) (match h.2.2 a.1 with
    | some (.inr (.inr (c, _))) => (q.2.2.2.1.lookup c).bind fun t => tw_inv mi pc L a.2 h t (.ref a.1 :: (S.take q.2.2.1).reverse)
    | _ => none))
  | _ => none
def tw_stp (σ : tw_S) : Option tw_O := match decode (tw_c σ.1) σ.2.1 with
  | .ok (ins, len) => tw_do σ.1 σ.2.1 σ.2.2.1 σ.2.2.2.1 σ.2.2.2.2 len ins
  | .error _ => none
def tw_run : Nat → tw_S → Option tw_Q
  | 0, _ => none
  | F + 1, σ => match tw_stp σ with
    | none => none
    | some (.inl r) => some r
    | some (.inr (.inl σ')) => tw_run F σ'
    | some (.inr (.inr (σ1, k))) => (tw_run F σ1).bind fun r => tw_run F (k.1, k.2.1, k.2.2.1, r.1.toList ++ k.2.2.2, r.2)
theorem tw_run_mono : ∀ (F : Nat) (σ : tw_S) (r : tw_Q), tw_run F σ = some r → ∀ G, F ≤ G → tw_run G σ = some r
  | 0, σ, r, h, _, _ => by simp [tw_run] at h
  | F + 1, σ, r, h, 0, hG => by omega
  | F + 1, σ, r, h, G + 1, hG => by
    have ih := tw_run_mono F
    simp only [tw_run] at h ⊢
    cases hs : tw_stp σ with
    | none => rw [hs] at h; exact h
    | some o =>
      rw [hs] at h
      rcases o with x | σ' | ⟨σ1, k⟩
      · exact h
      · exact ih _ _ h G (by omega)
      · simp only at h ⊢
        obtain ⟨r1, h1, h2⟩ := Option.bind_eq_some_iff.mp h
        rw [ih _ _ h1 G (by omega)]
        exact ih _ _ h2 G (by omega)
noncomputable def tw_B (σ : tw_S) : Option tw_Q := @dite (Option tw_Q) (∃ F, (tw_run F σ).isSome = true) (Classical.propDecidable _) (fun h => tw_run h.choose σ) (fun _ => none)
theorem tw_B_iff {σ : tw_S} {r : tw_Q} : tw_B σ = some r ↔ ∃ F, tw_run F σ = some r := by
  constructor
  · intro h
    unfold tw_B at h
    split at h
    · exact ⟨_, h⟩
    · cases h
  · rintro ⟨F, h⟩
    have hx : ∃ F, (tw_run F σ).isSome = true := ⟨F, by rw [h]; rfl⟩
    unfold tw_B
    rw [dif_pos hx]
    obtain ⟨r2, h2⟩ := Option.isSome_iff_exists.mp hx.choose_spec
    have a := tw_run_mono _ _ _ h2 (max F hx.choose) (Nat.le_max_right _ _)
    have b := tw_run_mono _ _ _ h (max F hx.choose) (Nat.le_max_left _ _)
    rw [h2]
    exact a.symm.trans b
theorem tw_B_ext {a b : Option tw_Q} (h : ∀ r, a = some r ↔ b = some r) : a = b := by
  cases a with
  | none => cases b with
    | none => rfl
    | some y => exact ((h y).mpr rfl)
  | some x => exact ((h x).mp rfl).symm
theorem tw_B_eq (σ : tw_S) : tw_B σ = match tw_stp σ with
    | none => none
    | some (.inl r) => some r
    | some (.inr (.inl σ')) => tw_B σ'
    | some (.inr (.inr (σ1, k))) => (tw_B σ1).bind fun r => tw_B (k.1, k.2.1, k.2.2.1, r.1.toList ++ k.2.2.2, r.2) := by
  apply tw_B_ext
  intro r
  rw [tw_B_iff]
  constructor
  · rintro ⟨F, h⟩
    cases F with
    | zero => simp [tw_run] at h
    | succ F =>
      simp only [tw_run] at h
      cases hs : tw_stp σ with
      | none => rw [hs] at h; exact h
      | some o =>
        rw [hs] at h
        rcases o with x | σ' | ⟨σ1, k⟩
        · exact h
        · exact tw_B_iff.mpr ⟨F, h⟩
        · simp only at h ⊢
          obtain ⟨r1, h1, h2⟩ := Option.bind_eq_some_iff.mp h
          rw [tw_B_iff.mpr ⟨F, h1⟩]
          exact tw_B_iff.mpr ⟨F, h2⟩
  · intro h
    cases hs : tw_stp σ with
    | none => rw [hs] at h; cases h
    | some o =>
      rw [hs] at h
      rcases o with x | σ' | ⟨σ1, k⟩
      · exact ⟨1, by simp only [tw_run, hs]; exact h⟩
      · obtain ⟨F, hF⟩ := tw_B_iff.mp h
        exact ⟨F + 1, by simp only [tw_run, hs]; exact hF⟩
      · simp only at h
        obtain ⟨r1, h1, h2⟩ := Option.bind_eq_some_iff.mp h
        obtain ⟨F1, g1⟩ := tw_B_iff.mp h1
        obtain ⟨F2, g2⟩ := tw_B_iff.mp h2
        refine ⟨max F1 F2 + 1, ?_⟩
        simp only [tw_run, hs]
        rw [tw_run_mono _ _ _ g1 _ (Nat.le_max_left _ _)]
        exact tw_run_mono _ _ _ g2 _ (Nat.le_max_right _ _)
/-- what a frame's run answers, with the heap behind it; none, if it doesn't end -/
noncomputable def tw_b (mi pc : Nat) (L S : List Value) (h : tw_H) : Option tw_Q := tw_B (mi, pc, L, S, h)
theorem tw_b_st {mi pc len : Nat} {ins : Instr} (hd : decode (tw_c mi) pc = .ok (ins, len)) (L S : List Value) (h : tw_H) : tw_b mi pc L S h = match tw_do mi pc L S h len ins with
    | none => none
    | some (.inl r) => some r
    | some (.inr (.inl σ')) => tw_b σ'.1 σ'.2.1 σ'.2.2.1 σ'.2.2.2.1 σ'.2.2.2.2
    | some (.inr (.inr (σ1, k))) => (tw_b σ1.1 σ1.2.1 σ1.2.2.1 σ1.2.2.2.1 σ1.2.2.2.2).bind fun r => tw_b k.1 k.2.1 k.2.2.1 (r.1.toList ++ k.2.2.2) r.2 := by
  show tw_B _ = _
  rw [tw_B_eq]
  simp only [tw_stp, hd]
  rfl
end
section
/-! THE SMALL MACHINE'S RUNS ARE THE REAL ONE'S. A cell k + 1 stands at base + k, cell 0 (the script) at b0 -/
theorem tw_gS {α : Type} {b : Bool} {o : Option α} {x : α} : tw_g b o = some x ↔ b = true ∧ o = some x := by
  unfold tw_g
  split
  · rename_i h; simp [h]
  · rename_i h; simp [h]
theorem tw_pIS {S : List Value} {q : Int32 × List Value} (h : tw_pI S = some q) : S = .int q.1 :: q.2 := by
  unfold tw_pI at h
  split at h
  · cases h; rfl
  · cases h
theorem tw_pLS {S : List Value} {q : Int64 × List Value} (h : tw_pL S = some q) : S = .long q.1 :: q.2 := by
  unfold tw_pL at h
  split at h
  · cases h; rfl
  · cases h
theorem tw_pRS {S : List Value} {q : Nat × List Value} (h : tw_pR S = some q) : S = .ref q.1 :: q.2 := by
  unfold tw_pR at h
  split at h
  · cases h; rfl
  · cases h
theorem tw_pVS {S : List Value} {q : Value × List Value} (h : tw_pV S = some q) : S = q.1 :: q.2 := by
  unfold tw_pV at h
  split at h
  · cases h; rfl
  · cases h
theorem tw_asIS {v : Value} {x : Int32} (h : tw_asI v = some x) : v = .int x := by
  unfold tw_asI at h
  split at h
  · cases h; rfl
  · cases h
theorem tw_asLS {v : Value} {x : Int64} (h : tw_asL v = some x) : v = .long x := by
  unfold tw_asL at h
  split at h
  · cases h; rfl
  · cases h
theorem tw_asAS {v w : Value} (h : tw_asA v = some w) : v = w ∧ (w = .null ∨ ∃ a, w = .ref a) := by
  unfold tw_asA at h
  split at h
  · cases h; exact ⟨rfl, Or.inr ⟨_, rfl⟩⟩
  · cases h; exact ⟨rfl, Or.inl rfl⟩
  · cases h
theorem tw_toS {pc : Nat} {off : Int} {k : Nat → Option tw_O} {o : tw_O} (h : tw_to pc off k = some o) : ∃ t : Nat, (pc : Int) + off = (t : Int) ∧ k t = some o := by
  unfold tw_to at h
  obtain ⟨h1, h2⟩ := tw_gS.mp h
  have h1 := of_decide_eq_true h1
  exact ⟨_, (Int.toNat_of_nonneg h1).symm, h2⟩
theorem tw_nxS {mi pc : Nat} {L S : List Value} {h : tw_H} {σ : tw_S} (hx : tw_nx mi pc L S h = some (.inr (.inl σ))) : σ = (mi, pc, L, S, h) := by
  unfold tw_nx at hx
  cases hx
  rfl
theorem tw_viS {i : Int32} {n : Nat} (h : tw_vi i n = true) : vp_in i n ∧ i.toNatClampNeg < n := by
  unfold tw_vi at h
  simp only [Bool.and_eq_true, decide_eq_true_eq] at h
  refine ⟨fun q => ?_, h.2⟩
  rcases q with q | q
  · exact absurd q (Int32.not_lt.mpr h.1)
  · omega
/-! where cells stand, what values are there -/
def tw_ad (base b0 : Nat) : Nat → Nat
  | 0 => b0
  | k + 1 => base + k
def tw_v (base b0 : Nat) : Value → Value
  | .ref k => .ref (tw_ad base b0 k)
  | v => v
theorem tw_v_cat (base b0 : Nat) (v : Value) : (tw_v base b0 v).category = v.category := by cases v <;> rfl
def tw_e (base b0 : Nat) (cA : Nat → ClassId) : tw_C → va_E
  | .inl (n, f) => .inl (cA 0, n, .inl f)
  | .inr (.inl (t, n, g)) => .inl (cA t, n, .inr (.inr (.inr (.inr fun j => (g j).map (tw_ad base b0)))))
  | .inr (.inr (c, fs)) => .inr (c, fs.map (tw_v base b0))
def tw_Rel (base b0 L0 : Nat) (cA : Nat → ClassId) (D : va_G) (xs : Nat → Int32) (h : tw_H) (U : State) (H : Heap) : Prop :=
  1 ≤ h.1 ∧ H.size + 1 = base + h.1 ∧ b0 < base ∧ va_X b0 L0 xs U H ∧ h.2.2 0 = some (.inl (L0, xs)) ∧ ∀ k e, h.2.2 (k + 1) = some e → va_at D tw_cl (base + k, tw_e base b0 cA e) H
def tw_tys (cA : Nat → ClassId) : List (ClassId × FieldType) := [(cA 0, .int), (cA 1, .object "TideWheels$Row"), (cA 2, .object "TideWheels$Work")]
/-- what the tables give, in every state that a call reaches -/
def tw_Wd (cA : Nat → ClassId) (D : va_G) (U : State) : Prop := va_K D tw_cl (tw_tys cA) U ∧ va_AO "TideWheels$Row" U ∧ va_AO "TideWheels$Work" U ∧ ∀ w ∈ lw_tbl, tw_xw w = true → va_Nw w U
theorem tw_Wd.warm {cA : Nat → ClassId} {D : va_G} {s U : State} (hW : s.WarmedH U.vm) (h : tw_Wd cA D s) : tw_Wd cA D U := by
  obtain ⟨h1, h2, h3, h4⟩ := h
  refine ⟨h1.moved hW.alike, h2.moved hW.alike, h3.moved hW.alike, fun w hw hx => ?_⟩
  have hz := h4 w hw hx
  cases w <;> first | (simp [tw_xw] at hx; done) | exact hz.warmM hW | exact hz.warmC hW
theorem tw_Wd.same {cA : Nat → ClassId} {D : va_G} {s U : State} (hv : s.vm = U.vm) (h : tw_Wd cA D s) : tw_Wd cA D U := by
  obtain ⟨h1, h2, h3, h4⟩ := h
  have hal : s.vm.Alike U.vm := hv ▸ Vm.Alike.refl _
  refine ⟨h1.moved hal, h2.moved hal, h3.moved hal, fun w hw hx => ?_⟩
  have hz := h4 w hw hx
  cases w <;> first | (simp [tw_xw] at hx; done) | exact hz.same rfl hv
theorem tw_Rel.moved {base b0 L0 : Nat} {cA : Nat → ClassId} {D : va_G} {xs : Nat → Int32} {h : tw_H} {s U : State} {H : Heap} (hal : s.vm.Alike U.vm) (r : tw_Rel base b0 L0 cA D xs h s H) : tw_Rel base b0 L0 cA D xs h U H := by
  obtain ⟨r1, r2, r3, r4, r5, r6⟩ := r
  exact ⟨r1, r2, r3, r4.moved hal, r5, r6⟩
/-- one cell is written: the others stay -/
theorem tw_Rel.set {base b0 L0 : Nat} {cA : Nat → ClassId} {D : va_G} {xs : Nat → Int32} {h : tw_H} {U : State} {H H1 : Heap} (r : tw_Rel base b0 L0 cA D xs h U H) {k : Nat} {x : tw_C} (hz : H1.size = H.size) (hat : va_at D tw_cl (base + k, tw_e base b0 cA x) H1) (oq : ∀ q, q ≠ base + k → H1[q]? = H[q]?) : tw_Rel base b0 L0 cA D xs (tw_set h (k + 1) x) U H1 := by
  obtain ⟨r1, r2, r3, r4, r5, r6⟩ := r
  refine ⟨r1, by show H1.size + 1 = base + h.1; omega, r3, r4.kept (oq _ (by omega)), ?_, fun j e hj => ?_⟩
  · show (if 0 = k + 1 then some x else h.2.2 0) = _
    rw [if_neg (by omega)]; exact r5
  · have hj : (if j + 1 = k + 1 then some x else h.2.2 (j + 1)) = some e := hj
    by_cases hjk : j = k
    · subst hjk
      rw [if_pos rfl] at hj
      cases hj
      exact hat
    · rw [if_neg (by omega)] at hj
      exact (r6 j e hj).kept (oq _ (by show base + j ≠ base + k; omega))
/-- a cell comes -/
theorem tw_Rel.new {base b0 L0 : Nat} {cA : Nat → ClassId} {D : va_G} {xs : Nat → Int32} {h : tw_H} {U : State} {H H1 : Heap} (r : tw_Rel base b0 L0 cA D xs h U H) {x : tw_C} {n : Nat} (hz : H1.size = H.size + 1) (hat : va_at D tw_cl (H.size, tw_e base b0 cA x) H1) (oq : ∀ q, q < H.size → H1[q]? = H[q]?) : tw_Rel base b0 L0 cA D xs (tw_new h x n) U H1 ∧ tw_ad base b0 h.1 = H.size := by
  obtain ⟨r1, r2, r3, r4, r5, r6⟩ := r
  obtain ⟨k, hk⟩ : ∃ k, h.1 = k + 1 := ⟨h.1 - 1, by omega⟩
  have hb : b0 < H.size := by
    obtain ⟨scr, g, -⟩ := r4
    exact (Array.getElem?_eq_some_iff.mp g).1
  refine ⟨⟨by show 1 ≤ h.1 + 1; omega, by show H1.size + 1 = base + (h.1 + 1); omega, r3, r4.kept (oq _ hb), ?_, fun j e hj => ?_⟩, ?_⟩
  · show (if 0 = h.1 then some x else h.2.2 0) = _
    rw [if_neg (by omega)]; exact r5
  · have hj : (if j + 1 = h.1 then some x else h.2.2 (j + 1)) = some e := hj
    by_cases hjk : j + 1 = h.1
    · rw [if_pos hjk] at hj
      cases hj
      have : base + j = H.size := by omega
      rw [this]
      exact hat
    · rw [if_neg hjk] at hj
      exact (r6 j e hj).kept (oq _ (r6 j e hj).lt)
  · rw [hk]
    show base + k = H.size
    omega
theorem tw_Rel.at {base b0 L0 : Nat} {cA : Nat → ClassId} {D : va_G} {xs : Nat → Int32} {h : tw_H} {U : State} {H : Heap} (r : tw_Rel base b0 L0 cA D xs h U H) {a : Nat} (ha : a ≠ 0) {x : tw_C} (hx : h.2.2 a = some x) : va_at D tw_cl (tw_ad base b0 a, tw_e base b0 cA x) H ∧ base ≤ tw_ad base b0 a := by
  obtain ⟨k, rfl⟩ : ∃ k, a = k + 1 := ⟨a - 1, by omega⟩
  exact ⟨r.2.2.2.2.2 k x hx, Nat.le_add_right _ _⟩
/-- the locals -/
def tw_LR (base b0 : Nat) (ls : Array Slot) (n : Nat) (L : List Value) : Prop := ls.size = n ∧ lv_wf ls ∧ L.length = n ∧ ∀ (i : Nat) (v : Value), L[i]? = some v → v ≠ tw_un → ls[i]? = some (Slot.val (tw_v base b0 v))
def tw_pl (base b0 : Nat) (L : List Value) : List (Nat × Value) := (List.range L.length).filterMap fun i => if L.getD i tw_un = tw_un then none else some (i, tw_v base b0 (L.getD i tw_un))
theorem tw_pl_mem {base b0 : Nat} {L : List Value} {i : Nat} {v : Value} (h : L[i]? = some v) (hv : v ≠ tw_un) : (i, tw_v base b0 v) ∈ tw_pl base b0 L := by
  have hl := (List.getElem?_eq_some_iff.mp h).1
  have hg : L.getD i tw_un = v := by simp [List.getD, h]
  refine List.mem_filterMap.mpr ⟨i, List.mem_range.mpr hl, ?_⟩
  rw [hg, if_neg hv]
theorem tw_LR.has {base b0 n : Nat} {ls : Array Slot} {L : List Value} (h : tw_LR base b0 ls n L) : lv_has ls n (tw_pl base b0 L) := by
  refine ⟨h.1, h.2.1, fun q hq => ?_⟩
  obtain ⟨i, hi, he⟩ := List.mem_filterMap.mp hq
  split at he
  · cases he
  · rename_i hne
    cases he
    have hl := List.mem_range.mp hi
    exact h.2.2.2 i _ (by rw [List.getD_eq_getElem?_getD]; simp [hl]) hne
theorem tw_LR.get {base b0 n : Nat} {ls : Array Slot} {L : List Value} (h : tw_LR base b0 ls n L) {i : Nat} {v : Value} (hv : L[i]? = some v) (hn : v ≠ tw_un) : ls[i]? = some (.val (tw_v base b0 v)) := h.2.2.2 i v hv hn
theorem tw_stS {base b0 n : Nat} {L L' : List Value} {i : Nat} {v : Value} (h : tw_st L i v = some L') (hL : L.length = n) {ls' : Array Slot} (hs : lv_has ls' n ((i, tw_v base b0 v) :: (tw_pl base b0 L).filter (fun q => !(q.1 == i) && !(q.1 + 1 == i && q.2.category == 2)))) : tw_LR base b0 ls' n L' := by
  obtain ⟨hg, he⟩ := tw_gS.mp h
  cases he
  simp only [Bool.and_eq_true, decide_eq_true_eq] at hg
  refine ⟨hs.1, hs.2.1, by simp [hL], fun j w hj hw => ?_⟩
  by_cases hji : j = i
  · subst hji
    rw [List.getElem?_set_self hg.1] at hj
    cases hj
    exact hs.2.2 _ List.mem_cons_self
  · rw [List.getElem?_set_ne (Ne.symm hji)] at hj
    refine hs.2.2 (j, tw_v base b0 w) (List.mem_cons_of_mem _ (List.mem_filter.mpr ⟨tw_pl_mem hj hw, ?_⟩))
    simp only [Bool.and_eq_true, Bool.not_eq_true', beq_eq_false_iff_ne, ne_eq, Bool.and_eq_false_iff, tw_v_cat]
    refine ⟨hji, ?_⟩
    cases i with
    | zero => exact Or.inl (by omega)
    | succ i =>
      by_cases hj2 : j = i
      · subst hj2
        have h2 := of_decide_eq_true hg.2
        rw [show L.getD j tw_un = w by simp [List.getD, hj]] at h2
        exact Or.inr h2
      · exact Or.inl (by omega)
theorem tw_st2S {base b0 n : Nat} {L L' : List Value} {i : Nat} {v : Value} (h : tw_st2 L i v = some L') (hL : L.length = n) {ls' : Array Slot} (hs : lv_has ls' n ((i, tw_v base b0 v) :: (tw_pl base b0 L).filter (fun q => !(q.1 == i) && (!(q.1 == i + 1) && !(q.1 + 1 == i && q.2.category == 2))))) : tw_LR base b0 ls' n L' := by
  obtain ⟨hg, he⟩ := tw_gS.mp h
  cases he
  simp only [Bool.and_eq_true, decide_eq_true_eq] at hg
  refine ⟨hs.1, hs.2.1, by simp [hL], fun j w hj hw => ?_⟩
  by_cases hj1 : j = i + 1
  · subst hj1
    rw [List.getElem?_set_self (by simp; omega)] at hj
    cases hj
    exact absurd rfl hw
  · rw [List.getElem?_set_ne (Ne.symm hj1)] at hj
    by_cases hji : j = i
    · subst hji
      rw [List.getElem?_set_self (by omega)] at hj
      cases hj
      exact hs.2.2 _ List.mem_cons_self
    · rw [List.getElem?_set_ne (Ne.symm hji)] at hj
      refine hs.2.2 (j, tw_v base b0 w) (List.mem_cons_of_mem _ (List.mem_filter.mpr ⟨tw_pl_mem hj hw, ?_⟩))
      simp only [Bool.and_eq_true, Bool.not_eq_true', beq_eq_false_iff_ne, ne_eq, Bool.and_eq_false_iff, tw_v_cat]
      refine ⟨hji, hj1, ?_⟩
      cases i with
      | zero => exact Or.inl (by omega)
      | succ i =>
        by_cases hj2 : j = i
        · subst hj2
          have h2 := of_decide_eq_true hg.2
          rw [show L.getD j tw_un = w by simp [List.getD, hj]] at h2
          exact Or.inr h2
        · exact Or.inl (by omega)
theorem tw_st_lt {L L' : List Value} {i : Nat} {v : Value} (h : tw_st L i v = some L') : i < L.length := by
  obtain ⟨hg, -⟩ := tw_gS.mp h
  simp only [Bool.and_eq_true, decide_eq_true_eq] at hg
  exact hg.1
theorem tw_st2_lt {L L' : List Value} {i : Nat} {v : Value} (h : tw_st2 L i v = some L') : i + 1 < L.length := by
  obtain ⟨hg, -⟩ := tw_gS.mp h
  simp only [Bool.and_eq_true, decide_eq_true_eq] at hg
  exact hg.1
theorem tw_un_int (x : Int32) : Value.int x ≠ tw_un := fun h => by cases h
theorem tw_un_long (x : Int64) : Value.long x ≠ tw_un := fun h => by cases h
theorem tw_un_ref (x : Nat) : Value.ref x ≠ tw_un := fun h => by cases h
theorem tw_un_null : Value.null ≠ tw_un := fun h => by cases h
/-- one activation of a method -/
def tw_Cx (p : Program) (s : State) (m : MethodId) (args : Array Value) (meth : Method) (c : Code) (mi : Nat) : Prop := p.tables.exec = Jvm.exec ∧ c.code = tw_c mi ∧ c.maxLocals = tw_ml mi ∧ meth.sig.returnType = tw_rt mi ∧ s.vm.findClass (tw_R (tw_ow mi)) = some m.cls ∧ meth.locks = false ∧ ((tw_y mi).name = "<init>" → meth.name = "<init>") ∧ ∀ w ∈ tw_gt, w.before args s = true
/-- from this state of the small machine the real one comes to Q -/
def tw_K (p : Program) (l : Launch) (e : Env) (R : Room) (s : State) (m : MethodId) (args : Array Value) (below : List Frame) (meth : Method) (c : Code) (Q : State → Prop) (base b0 L0 k0 k1 : Nat) (cA : Nat → ClassId) (D : va_G) (xs : Nat → Int32) (mi pc : Nat) (L S : List Value) (h : tw_H) : Prop :=
  ∀ (H : Heap) (ls : Array Slot) (locs : List Loc) (cells slots : Nat), tw_Rel base b0 L0 cA D xs h s H → tw_LR base b0 ls (tw_ml mi) L → (∀ q ∈ locs, base ≤ q.base) → cells + k0 = h.1 → slots + k1 = h.2.1 → W p l e R s m args below meth c H locs cells slots Q (F0 m pc ls (S.map (tw_v base b0)))
section TWN
variable {p : Program} {l : Launch} {e : Env} {R : Room} {s : State} {m : MethodId} {args : Array Value} {below : List Frame} {meth : Method} {c : Code} {Q : State → Prop} {base b0 L0 k0 k1 : Nat} {cA : Nat → ClassId} {D : va_G} {xs : Nat → Int32} {mi pc len : Nat} {L S : List Value} {h : tw_H} {σ : tw_S}
theorem tw_n_iconst {n : Int} (C : tw_Cx p s m args meth c mi) (Wd : tw_Wd cA D s) (hf : tw_rk mi ≤ R.frames ∧ 36 * tw_rk mi ≤ R.locals) (hcb : σ.2.2.2.2.1 ≤ R.cells + k0) (hsb : σ.2.2.2.2.2.1 ≤ R.slots + k1) (K : tw_K p l e R s m args below meth c Q base b0 L0 k0 k1 cA D xs σ.1 σ.2.1 σ.2.2.1 σ.2.2.2.1 σ.2.2.2.2) (hd : decode (tw_c mi) pc = .ok (.iconst n, len)) (hx : tw_do mi pc L S h len (.iconst n) = some (.inr (.inl σ))) : tw_K p l e R s m args below meth c Q base b0 L0 k0 k1 cA D xs mi pc L S h := by
  obtain ⟨hX, hB, hM, hrt, hown, hlk, hnm, hts⟩ := C
  simp only [tw_do] at hx
  replace hx := tw_gS.mp hx
  obtain ⟨hl, hx⟩ := hx
  obtain rfl := eq_of_beq hl
  obtain rfl := tw_nxS hx
  intro H ls locs cells slots hR hL hlo hc hs
  exact lv_iconst hX hB hd rfl (K H ls locs cells slots hR hL hlo hc hs)
theorem tw_n_bipush {n : Int} (C : tw_Cx p s m args meth c mi) (Wd : tw_Wd cA D s) (hf : tw_rk mi ≤ R.frames ∧ 36 * tw_rk mi ≤ R.locals) (hcb : σ.2.2.2.2.1 ≤ R.cells + k0) (hsb : σ.2.2.2.2.2.1 ≤ R.slots + k1) (K : tw_K p l e R s m args below meth c Q base b0 L0 k0 k1 cA D xs σ.1 σ.2.1 σ.2.2.1 σ.2.2.2.1 σ.2.2.2.2) (hd : decode (tw_c mi) pc = .ok (.bipush n, len)) (hx : tw_do mi pc L S h len (.bipush n) = some (.inr (.inl σ))) : tw_K p l e R s m args below meth c Q base b0 L0 k0 k1 cA D xs mi pc L S h := by
  obtain ⟨hX, hB, hM, hrt, hown, hlk, hnm, hts⟩ := C
  simp only [tw_do] at hx
  replace hx := tw_gS.mp hx
  obtain ⟨hl, hx⟩ := hx
  obtain rfl := eq_of_beq hl
  obtain rfl := tw_nxS hx
  intro H ls locs cells slots hR hL hlo hc hs
  exact lv_bipush hX hB hd rfl (K H ls locs cells slots hR hL hlo hc hs)
theorem tw_n_sipush {n : Int} (C : tw_Cx p s m args meth c mi) (Wd : tw_Wd cA D s) (hf : tw_rk mi ≤ R.frames ∧ 36 * tw_rk mi ≤ R.locals) (hcb : σ.2.2.2.2.1 ≤ R.cells + k0) (hsb : σ.2.2.2.2.2.1 ≤ R.slots + k1) (K : tw_K p l e R s m args below meth c Q base b0 L0 k0 k1 cA D xs σ.1 σ.2.1 σ.2.2.1 σ.2.2.2.1 σ.2.2.2.2) (hd : decode (tw_c mi) pc = .ok (.sipush n, len)) (hx : tw_do mi pc L S h len (.sipush n) = some (.inr (.inl σ))) : tw_K p l e R s m args below meth c Q base b0 L0 k0 k1 cA D xs mi pc L S h := by
  obtain ⟨hX, hB, hM, hrt, hown, hlk, hnm, hts⟩ := C
  simp only [tw_do] at hx
  replace hx := tw_gS.mp hx
  obtain ⟨hl, hx⟩ := hx
  obtain rfl := eq_of_beq hl
  obtain rfl := tw_nxS hx
  intro H ls locs cells slots hR hL hlo hc hs
  exact lv_sipush hX hB hd rfl (K H ls locs cells slots hR hL hlo hc hs)
theorem tw_n_lconst {n : Fin 2} (C : tw_Cx p s m args meth c mi) (Wd : tw_Wd cA D s) (hf : tw_rk mi ≤ R.frames ∧ 36 * tw_rk mi ≤ R.locals) (hcb : σ.2.2.2.2.1 ≤ R.cells + k0) (hsb : σ.2.2.2.2.2.1 ≤ R.slots + k1) (K : tw_K p l e R s m args below meth c Q base b0 L0 k0 k1 cA D xs σ.1 σ.2.1 σ.2.2.1 σ.2.2.2.1 σ.2.2.2.2) (hd : decode (tw_c mi) pc = .ok (.lconst n, len)) (hx : tw_do mi pc L S h len (.lconst n) = some (.inr (.inl σ))) : tw_K p l e R s m args below meth c Q base b0 L0 k0 k1 cA D xs mi pc L S h := by
  obtain ⟨hX, hB, hM, hrt, hown, hlk, hnm, hts⟩ := C
  simp only [tw_do] at hx
  replace hx := tw_gS.mp hx
  obtain ⟨hl, hx⟩ := hx
  obtain rfl := eq_of_beq hl
  obtain rfl := tw_nxS hx
  intro H ls locs cells slots hR hL hlo hc hs
  exact lv_lconst hX hB hd rfl (K H ls locs cells slots hR hL hlo hc hs)
theorem tw_n_anull (C : tw_Cx p s m args meth c mi) (Wd : tw_Wd cA D s) (hf : tw_rk mi ≤ R.frames ∧ 36 * tw_rk mi ≤ R.locals) (hcb : σ.2.2.2.2.1 ≤ R.cells + k0) (hsb : σ.2.2.2.2.2.1 ≤ R.slots + k1) (K : tw_K p l e R s m args below meth c Q base b0 L0 k0 k1 cA D xs σ.1 σ.2.1 σ.2.2.1 σ.2.2.2.1 σ.2.2.2.2) (hd : decode (tw_c mi) pc = .ok (.aconst_null, len)) (hx : tw_do mi pc L S h len (.aconst_null) = some (.inr (.inl σ))) : tw_K p l e R s m args below meth c Q base b0 L0 k0 k1 cA D xs mi pc L S h := by
  obtain ⟨hX, hB, hM, hrt, hown, hlk, hnm, hts⟩ := C
  simp only [tw_do] at hx
  replace hx := tw_gS.mp hx
  obtain ⟨hl, hx⟩ := hx
  obtain rfl := eq_of_beq hl
  obtain rfl := tw_nxS hx
  intro H ls locs cells slots hR hL hlo hc hs
  exact lv_null hX hB hd (K H ls locs cells slots hR hL hlo hc hs)
theorem tw_n_ldc2 {n : Nat} (C : tw_Cx p s m args meth c mi) (Wd : tw_Wd cA D s) (hf : tw_rk mi ≤ R.frames ∧ 36 * tw_rk mi ≤ R.locals) (hcb : σ.2.2.2.2.1 ≤ R.cells + k0) (hsb : σ.2.2.2.2.2.1 ≤ R.slots + k1) (K : tw_K p l e R s m args below meth c Q base b0 L0 k0 k1 cA D xs σ.1 σ.2.1 σ.2.2.1 σ.2.2.2.1 σ.2.2.2.2) (hd : decode (tw_c mi) pc = .ok (.ldc2_w n, len)) (hx : tw_do mi pc L S h len (.ldc2_w n) = some (.inr (.inl σ))) : tw_K p l e R s m args below meth c Q base b0 L0 k0 k1 cA D xs mi pc L S h := by
  obtain ⟨hX, hB, hM, hrt, hown, hlk, hnm, hts⟩ := C
  simp only [tw_do] at hx
  replace hx := tw_gS.mp hx
  obtain ⟨hl, hx⟩ := hx
  obtain rfl := eq_of_beq hl
  replace hx := Option.bind_eq_some_iff.mp hx
  obtain ⟨q, hq, hx⟩ := hx
  obtain rfl := tw_nxS hx
  intro H ls locs cells slots hR hL hlo hc hs
  exact lv_ldc2 hX hB hown (hts _ (tw_gt_of (tw_llok hq) rfl)) hd (K H ls locs cells slots hR hL hlo hc hs)
theorem tw_n_ldcw {n : Nat} (C : tw_Cx p s m args meth c mi) (Wd : tw_Wd cA D s) (hf : tw_rk mi ≤ R.frames ∧ 36 * tw_rk mi ≤ R.locals) (hcb : σ.2.2.2.2.1 ≤ R.cells + k0) (hsb : σ.2.2.2.2.2.1 ≤ R.slots + k1) (K : tw_K p l e R s m args below meth c Q base b0 L0 k0 k1 cA D xs σ.1 σ.2.1 σ.2.2.1 σ.2.2.2.1 σ.2.2.2.2) (hd : decode (tw_c mi) pc = .ok (.ldc_w n, len)) (hx : tw_do mi pc L S h len (.ldc_w n) = some (.inr (.inl σ))) : tw_K p l e R s m args below meth c Q base b0 L0 k0 k1 cA D xs mi pc L S h := by
  obtain ⟨hX, hB, hM, hrt, hown, hlk, hnm, hts⟩ := C
  simp only [tw_do] at hx
  replace hx := tw_gS.mp hx
  obtain ⟨hl, hx⟩ := hx
  obtain rfl := eq_of_beq hl
  replace hx := Option.bind_eq_some_iff.mp hx
  obtain ⟨q, hq, hx⟩ := hx
  obtain rfl := tw_nxS hx
  intro H ls locs cells slots hR hL hlo hc hs
  exact lv_ldcw hX hB hown (hts _ (tw_gt_of (tw_liok hq) rfl)) hd (K H ls locs cells slots hR hL hlo hc hs)
theorem tw_n_iload_n {k : Fin 4} (C : tw_Cx p s m args meth c mi) (Wd : tw_Wd cA D s) (hf : tw_rk mi ≤ R.frames ∧ 36 * tw_rk mi ≤ R.locals) (hcb : σ.2.2.2.2.1 ≤ R.cells + k0) (hsb : σ.2.2.2.2.2.1 ≤ R.slots + k1) (K : tw_K p l e R s m args below meth c Q base b0 L0 k0 k1 cA D xs σ.1 σ.2.1 σ.2.2.1 σ.2.2.2.1 σ.2.2.2.2) (hd : decode (tw_c mi) pc = .ok (.iload_n k, len)) (hx : tw_do mi pc L S h len (.iload_n k) = some (.inr (.inl σ))) : tw_K p l e R s m args below meth c Q base b0 L0 k0 k1 cA D xs mi pc L S h := by
  obtain ⟨hX, hB, hM, hrt, hown, hlk, hnm, hts⟩ := C
  simp only [tw_do] at hx
  replace hx := tw_gS.mp hx
  obtain ⟨hl, hx⟩ := hx
  obtain rfl := eq_of_beq hl
  replace hx := Option.bind_eq_some_iff.mp hx
  obtain ⟨x, hq, hx⟩ := hx
  replace hq := Option.bind_eq_some_iff.mp hq
  obtain ⟨v, hv, hq⟩ := hq
  obtain rfl := tw_asIS hq
  obtain rfl := tw_nxS hx
  intro H ls locs cells slots hR hL hlo hc hs
  exact lv_iload_n hX hB hd rfl (hL.get hv (tw_un_int _)) (K H ls locs cells slots hR hL hlo hc hs)
theorem tw_n_iload {k : Nat} (C : tw_Cx p s m args meth c mi) (Wd : tw_Wd cA D s) (hf : tw_rk mi ≤ R.frames ∧ 36 * tw_rk mi ≤ R.locals) (hcb : σ.2.2.2.2.1 ≤ R.cells + k0) (hsb : σ.2.2.2.2.2.1 ≤ R.slots + k1) (K : tw_K p l e R s m args below meth c Q base b0 L0 k0 k1 cA D xs σ.1 σ.2.1 σ.2.2.1 σ.2.2.2.1 σ.2.2.2.2) (hd : decode (tw_c mi) pc = .ok (.iload k, len)) (hx : tw_do mi pc L S h len (.iload k) = some (.inr (.inl σ))) : tw_K p l e R s m args below meth c Q base b0 L0 k0 k1 cA D xs mi pc L S h := by
  obtain ⟨hX, hB, hM, hrt, hown, hlk, hnm, hts⟩ := C
  simp only [tw_do] at hx
  replace hx := tw_gS.mp hx
  obtain ⟨hl, hx⟩ := hx
  obtain rfl := eq_of_beq hl
  replace hx := Option.bind_eq_some_iff.mp hx
  obtain ⟨x, hq, hx⟩ := hx
  replace hq := Option.bind_eq_some_iff.mp hq
  obtain ⟨v, hv, hq⟩ := hq
  obtain rfl := tw_asIS hq
  obtain rfl := tw_nxS hx
  intro H ls locs cells slots hR hL hlo hc hs
  exact lv_iload hX hB hd (hL.get hv (tw_un_int _)) (K H ls locs cells slots hR hL hlo hc hs)
theorem tw_n_lload_n {k : Fin 4} (C : tw_Cx p s m args meth c mi) (Wd : tw_Wd cA D s) (hf : tw_rk mi ≤ R.frames ∧ 36 * tw_rk mi ≤ R.locals) (hcb : σ.2.2.2.2.1 ≤ R.cells + k0) (hsb : σ.2.2.2.2.2.1 ≤ R.slots + k1) (K : tw_K p l e R s m args below meth c Q base b0 L0 k0 k1 cA D xs σ.1 σ.2.1 σ.2.2.1 σ.2.2.2.1 σ.2.2.2.2) (hd : decode (tw_c mi) pc = .ok (.lload_n k, len)) (hx : tw_do mi pc L S h len (.lload_n k) = some (.inr (.inl σ))) : tw_K p l e R s m args below meth c Q base b0 L0 k0 k1 cA D xs mi pc L S h := by
  obtain ⟨hX, hB, hM, hrt, hown, hlk, hnm, hts⟩ := C
  simp only [tw_do] at hx
  replace hx := tw_gS.mp hx
  obtain ⟨hl, hx⟩ := hx
  obtain rfl := eq_of_beq hl
  replace hx := Option.bind_eq_some_iff.mp hx
  obtain ⟨x, hq, hx⟩ := hx
  replace hq := Option.bind_eq_some_iff.mp hq
  obtain ⟨v, hv, hq⟩ := hq
  obtain rfl := tw_asLS hq
  obtain rfl := tw_nxS hx
  intro H ls locs cells slots hR hL hlo hc hs
  exact lv_lload_n hX hB hd rfl (hL.get hv (tw_un_long _)) (K H ls locs cells slots hR hL hlo hc hs)
theorem tw_n_lload {k : Nat} (C : tw_Cx p s m args meth c mi) (Wd : tw_Wd cA D s) (hf : tw_rk mi ≤ R.frames ∧ 36 * tw_rk mi ≤ R.locals) (hcb : σ.2.2.2.2.1 ≤ R.cells + k0) (hsb : σ.2.2.2.2.2.1 ≤ R.slots + k1) (K : tw_K p l e R s m args below meth c Q base b0 L0 k0 k1 cA D xs σ.1 σ.2.1 σ.2.2.1 σ.2.2.2.1 σ.2.2.2.2) (hd : decode (tw_c mi) pc = .ok (.lload k, len)) (hx : tw_do mi pc L S h len (.lload k) = some (.inr (.inl σ))) : tw_K p l e R s m args below meth c Q base b0 L0 k0 k1 cA D xs mi pc L S h := by
  obtain ⟨hX, hB, hM, hrt, hown, hlk, hnm, hts⟩ := C
  simp only [tw_do] at hx
  replace hx := tw_gS.mp hx
  obtain ⟨hl, hx⟩ := hx
  obtain rfl := eq_of_beq hl
  replace hx := Option.bind_eq_some_iff.mp hx
  obtain ⟨x, hq, hx⟩ := hx
  replace hq := Option.bind_eq_some_iff.mp hq
  obtain ⟨v, hv, hq⟩ := hq
  obtain rfl := tw_asLS hq
  obtain rfl := tw_nxS hx
  intro H ls locs cells slots hR hL hlo hc hs
  exact lv_lload hX hB hd (hL.get hv (tw_un_long _)) (K H ls locs cells slots hR hL hlo hc hs)
theorem tw_n_aload_n {k : Fin 4} (C : tw_Cx p s m args meth c mi) (Wd : tw_Wd cA D s) (hf : tw_rk mi ≤ R.frames ∧ 36 * tw_rk mi ≤ R.locals) (hcb : σ.2.2.2.2.1 ≤ R.cells + k0) (hsb : σ.2.2.2.2.2.1 ≤ R.slots + k1) (K : tw_K p l e R s m args below meth c Q base b0 L0 k0 k1 cA D xs σ.1 σ.2.1 σ.2.2.1 σ.2.2.2.1 σ.2.2.2.2) (hd : decode (tw_c mi) pc = .ok (.aload_n k, len)) (hx : tw_do mi pc L S h len (.aload_n k) = some (.inr (.inl σ))) : tw_K p l e R s m args below meth c Q base b0 L0 k0 k1 cA D xs mi pc L S h := by
  obtain ⟨hX, hB, hM, hrt, hown, hlk, hnm, hts⟩ := C
  simp only [tw_do] at hx
  replace hx := tw_gS.mp hx
  obtain ⟨hl, hx⟩ := hx
  obtain rfl := eq_of_beq hl
  replace hx := Option.bind_eq_some_iff.mp hx
  obtain ⟨x, hq, hx⟩ := hx
  replace hq := Option.bind_eq_some_iff.mp hq
  obtain ⟨v, hv, hq⟩ := hq
  obtain ⟨rfl, hz⟩ := tw_asAS hq
  obtain rfl := tw_nxS hx
  intro H ls locs cells slots hR hL hlo hc hs
  rcases hz with rfl | ⟨a, rfl⟩
  · exact lv_aload_nN hX hB hd rfl (hL.get hv tw_un_null) (K H ls locs cells slots hR hL hlo hc hs)
  · exact lv_aload_n hX hB hd rfl (hL.get hv (tw_un_ref _)) (K H ls locs cells slots hR hL hlo hc hs)
theorem tw_n_aload {k : Nat} (C : tw_Cx p s m args meth c mi) (Wd : tw_Wd cA D s) (hf : tw_rk mi ≤ R.frames ∧ 36 * tw_rk mi ≤ R.locals) (hcb : σ.2.2.2.2.1 ≤ R.cells + k0) (hsb : σ.2.2.2.2.2.1 ≤ R.slots + k1) (K : tw_K p l e R s m args below meth c Q base b0 L0 k0 k1 cA D xs σ.1 σ.2.1 σ.2.2.1 σ.2.2.2.1 σ.2.2.2.2) (hd : decode (tw_c mi) pc = .ok (.aload k, len)) (hx : tw_do mi pc L S h len (.aload k) = some (.inr (.inl σ))) : tw_K p l e R s m args below meth c Q base b0 L0 k0 k1 cA D xs mi pc L S h := by
  obtain ⟨hX, hB, hM, hrt, hown, hlk, hnm, hts⟩ := C
  simp only [tw_do] at hx
  replace hx := tw_gS.mp hx
  obtain ⟨hl, hx⟩ := hx
  obtain rfl := eq_of_beq hl
  replace hx := Option.bind_eq_some_iff.mp hx
  obtain ⟨x, hq, hx⟩ := hx
  replace hq := Option.bind_eq_some_iff.mp hq
  obtain ⟨v, hv, hq⟩ := hq
  obtain ⟨rfl, hz⟩ := tw_asAS hq
  obtain rfl := tw_nxS hx
  intro H ls locs cells slots hR hL hlo hc hs
  rcases hz with rfl | ⟨a, rfl⟩
  · exact lv_aloadN hX hB hd (hL.get hv tw_un_null) (K H ls locs cells slots hR hL hlo hc hs)
  · exact lv_aload hX hB hd (hL.get hv (tw_un_ref _)) (K H ls locs cells slots hR hL hlo hc hs)
theorem tw_n_istore_n {k : Fin 4} (C : tw_Cx p s m args meth c mi) (Wd : tw_Wd cA D s) (hf : tw_rk mi ≤ R.frames ∧ 36 * tw_rk mi ≤ R.locals) (hcb : σ.2.2.2.2.1 ≤ R.cells + k0) (hsb : σ.2.2.2.2.2.1 ≤ R.slots + k1) (K : tw_K p l e R s m args below meth c Q base b0 L0 k0 k1 cA D xs σ.1 σ.2.1 σ.2.2.1 σ.2.2.2.1 σ.2.2.2.2) (hd : decode (tw_c mi) pc = .ok (.istore_n k, len)) (hx : tw_do mi pc L S h len (.istore_n k) = some (.inr (.inl σ))) : tw_K p l e R s m args below meth c Q base b0 L0 k0 k1 cA D xs mi pc L S h := by
  obtain ⟨hX, hB, hM, hrt, hown, hlk, hnm, hts⟩ := C
  simp only [tw_do] at hx
  replace hx := tw_gS.mp hx
  obtain ⟨hl, hx⟩ := hx
  obtain rfl := eq_of_beq hl
  replace hx := Option.bind_eq_some_iff.mp hx
  obtain ⟨⟨x, T⟩, hq, hx⟩ := hx
  obtain rfl := tw_pIS hq
  replace hx := Option.bind_eq_some_iff.mp hx
  obtain ⟨L', hst, hx⟩ := hx
  obtain rfl := tw_nxS hx
  intro H ls locs cells slots hR hL hlo hc hs
  exact lv_istore_n hX hB hd rfl hL.has (by have := tw_st_lt hst; rw [hL.2.2.1] at this; exact this) rfl (fun ls' hl => K H ls' locs cells slots hR (tw_stS hst hL.2.2.1 hl) hlo hc hs)
theorem tw_n_istore {k : Nat} (C : tw_Cx p s m args meth c mi) (Wd : tw_Wd cA D s) (hf : tw_rk mi ≤ R.frames ∧ 36 * tw_rk mi ≤ R.locals) (hcb : σ.2.2.2.2.1 ≤ R.cells + k0) (hsb : σ.2.2.2.2.2.1 ≤ R.slots + k1) (K : tw_K p l e R s m args below meth c Q base b0 L0 k0 k1 cA D xs σ.1 σ.2.1 σ.2.2.1 σ.2.2.2.1 σ.2.2.2.2) (hd : decode (tw_c mi) pc = .ok (.istore k, len)) (hx : tw_do mi pc L S h len (.istore k) = some (.inr (.inl σ))) : tw_K p l e R s m args below meth c Q base b0 L0 k0 k1 cA D xs mi pc L S h := by
  obtain ⟨hX, hB, hM, hrt, hown, hlk, hnm, hts⟩ := C
  simp only [tw_do] at hx
  replace hx := tw_gS.mp hx
  obtain ⟨hl, hx⟩ := hx
  obtain rfl := eq_of_beq hl
  replace hx := Option.bind_eq_some_iff.mp hx
  obtain ⟨⟨x, T⟩, hq, hx⟩ := hx
  obtain rfl := tw_pIS hq
  replace hx := Option.bind_eq_some_iff.mp hx
  obtain ⟨L', hst, hx⟩ := hx
  obtain rfl := tw_nxS hx
  intro H ls locs cells slots hR hL hlo hc hs
  exact lv_istore hX hB hd hL.has (by have := tw_st_lt hst; rw [hL.2.2.1] at this; exact this) rfl (fun ls' hl => K H ls' locs cells slots hR (tw_stS hst hL.2.2.1 hl) hlo hc hs)
theorem tw_n_lstore_n {k : Fin 4} (C : tw_Cx p s m args meth c mi) (Wd : tw_Wd cA D s) (hf : tw_rk mi ≤ R.frames ∧ 36 * tw_rk mi ≤ R.locals) (hcb : σ.2.2.2.2.1 ≤ R.cells + k0) (hsb : σ.2.2.2.2.2.1 ≤ R.slots + k1) (K : tw_K p l e R s m args below meth c Q base b0 L0 k0 k1 cA D xs σ.1 σ.2.1 σ.2.2.1 σ.2.2.2.1 σ.2.2.2.2) (hd : decode (tw_c mi) pc = .ok (.lstore_n k, len)) (hx : tw_do mi pc L S h len (.lstore_n k) = some (.inr (.inl σ))) : tw_K p l e R s m args below meth c Q base b0 L0 k0 k1 cA D xs mi pc L S h := by
  obtain ⟨hX, hB, hM, hrt, hown, hlk, hnm, hts⟩ := C
  simp only [tw_do] at hx
  replace hx := tw_gS.mp hx
  obtain ⟨hl, hx⟩ := hx
  obtain rfl := eq_of_beq hl
  replace hx := Option.bind_eq_some_iff.mp hx
  obtain ⟨⟨x, T⟩, hq, hx⟩ := hx
  obtain rfl := tw_pLS hq
  replace hx := Option.bind_eq_some_iff.mp hx
  obtain ⟨L', hst, hx⟩ := hx
  obtain rfl := tw_nxS hx
  intro H ls locs cells slots hR hL hlo hc hs
  exact lv_lstore_n hX hB hd rfl hL.has (by have := tw_st2_lt hst; rw [hL.2.2.1] at this; exact this) rfl (fun ls' hl => K H ls' locs cells slots hR (tw_st2S hst hL.2.2.1 hl) hlo hc hs)
theorem tw_n_lstore {k : Nat} (C : tw_Cx p s m args meth c mi) (Wd : tw_Wd cA D s) (hf : tw_rk mi ≤ R.frames ∧ 36 * tw_rk mi ≤ R.locals) (hcb : σ.2.2.2.2.1 ≤ R.cells + k0) (hsb : σ.2.2.2.2.2.1 ≤ R.slots + k1) (K : tw_K p l e R s m args below meth c Q base b0 L0 k0 k1 cA D xs σ.1 σ.2.1 σ.2.2.1 σ.2.2.2.1 σ.2.2.2.2) (hd : decode (tw_c mi) pc = .ok (.lstore k, len)) (hx : tw_do mi pc L S h len (.lstore k) = some (.inr (.inl σ))) : tw_K p l e R s m args below meth c Q base b0 L0 k0 k1 cA D xs mi pc L S h := by
  obtain ⟨hX, hB, hM, hrt, hown, hlk, hnm, hts⟩ := C
  simp only [tw_do] at hx
  replace hx := tw_gS.mp hx
  obtain ⟨hl, hx⟩ := hx
  obtain rfl := eq_of_beq hl
  replace hx := Option.bind_eq_some_iff.mp hx
  obtain ⟨⟨x, T⟩, hq, hx⟩ := hx
  obtain rfl := tw_pLS hq
  replace hx := Option.bind_eq_some_iff.mp hx
  obtain ⟨L', hst, hx⟩ := hx
  obtain rfl := tw_nxS hx
  intro H ls locs cells slots hR hL hlo hc hs
  exact lv_lstore hX hB hd hL.has (by have := tw_st2_lt hst; rw [hL.2.2.1] at this; exact this) rfl (fun ls' hl => K H ls' locs cells slots hR (tw_st2S hst hL.2.2.1 hl) hlo hc hs)
theorem tw_n_astore_n {k : Fin 4} (C : tw_Cx p s m args meth c mi) (Wd : tw_Wd cA D s) (hf : tw_rk mi ≤ R.frames ∧ 36 * tw_rk mi ≤ R.locals) (hcb : σ.2.2.2.2.1 ≤ R.cells + k0) (hsb : σ.2.2.2.2.2.1 ≤ R.slots + k1) (K : tw_K p l e R s m args below meth c Q base b0 L0 k0 k1 cA D xs σ.1 σ.2.1 σ.2.2.1 σ.2.2.2.1 σ.2.2.2.2) (hd : decode (tw_c mi) pc = .ok (.astore_n k, len)) (hx : tw_do mi pc L S h len (.astore_n k) = some (.inr (.inl σ))) : tw_K p l e R s m args below meth c Q base b0 L0 k0 k1 cA D xs mi pc L S h := by
  obtain ⟨hX, hB, hM, hrt, hown, hlk, hnm, hts⟩ := C
  simp only [tw_do] at hx
  replace hx := tw_gS.mp hx
  obtain ⟨hl, hx⟩ := hx
  obtain rfl := eq_of_beq hl
  replace hx := Option.bind_eq_some_iff.mp hx
  obtain ⟨⟨x, T⟩, hq, hx⟩ := hx
  obtain rfl := tw_pVS hq
  replace hx := Option.bind_eq_some_iff.mp hx
  obtain ⟨v, hv, hx⟩ := hx
  obtain ⟨he, hz⟩ := tw_asAS hv
  dsimp only at he
  subst he
  replace hx := Option.bind_eq_some_iff.mp hx
  obtain ⟨L', hst, hx⟩ := hx
  obtain rfl := tw_nxS hx
  intro H ls locs cells slots hR hL hlo hc hs
  rcases hz with rfl | ⟨a, rfl⟩
  · exact lv_astore_nN hX hB hd rfl hL.has (by have := tw_st_lt hst; rw [hL.2.2.1] at this; exact this) rfl (fun ls' hl => K H ls' locs cells slots hR (tw_stS hst hL.2.2.1 hl) hlo hc hs)
  · exact lv_astore_n hX hB hd rfl hL.has (by have := tw_st_lt hst; rw [hL.2.2.1] at this; exact this) rfl (fun ls' hl => K H ls' locs cells slots hR (tw_stS hst hL.2.2.1 hl) hlo hc hs)
theorem tw_n_astore {k : Nat} (C : tw_Cx p s m args meth c mi) (Wd : tw_Wd cA D s) (hf : tw_rk mi ≤ R.frames ∧ 36 * tw_rk mi ≤ R.locals) (hcb : σ.2.2.2.2.1 ≤ R.cells + k0) (hsb : σ.2.2.2.2.2.1 ≤ R.slots + k1) (K : tw_K p l e R s m args below meth c Q base b0 L0 k0 k1 cA D xs σ.1 σ.2.1 σ.2.2.1 σ.2.2.2.1 σ.2.2.2.2) (hd : decode (tw_c mi) pc = .ok (.astore k, len)) (hx : tw_do mi pc L S h len (.astore k) = some (.inr (.inl σ))) : tw_K p l e R s m args below meth c Q base b0 L0 k0 k1 cA D xs mi pc L S h := by
  obtain ⟨hX, hB, hM, hrt, hown, hlk, hnm, hts⟩ := C
  simp only [tw_do] at hx
  replace hx := tw_gS.mp hx
  obtain ⟨hl, hx⟩ := hx
  obtain rfl := eq_of_beq hl
  replace hx := Option.bind_eq_some_iff.mp hx
  obtain ⟨⟨x, T⟩, hq, hx⟩ := hx
  obtain rfl := tw_pVS hq
  replace hx := Option.bind_eq_some_iff.mp hx
  obtain ⟨v, hv, hx⟩ := hx
  obtain ⟨he, hz⟩ := tw_asAS hv
  dsimp only at he
  subst he
  replace hx := Option.bind_eq_some_iff.mp hx
  obtain ⟨L', hst, hx⟩ := hx
  obtain rfl := tw_nxS hx
  intro H ls locs cells slots hR hL hlo hc hs
  rcases hz with rfl | ⟨a, rfl⟩
  · exact lv_astoreN hX hB hd hL.has (by have := tw_st_lt hst; rw [hL.2.2.1] at this; exact this) rfl (fun ls' hl => K H ls' locs cells slots hR (tw_stS hst hL.2.2.1 hl) hlo hc hs)
  · exact lv_astore hX hB hd hL.has (by have := tw_st_lt hst; rw [hL.2.2.1] at this; exact this) rfl (fun ls' hl => K H ls' locs cells slots hR (tw_stS hst hL.2.2.1 hl) hlo hc hs)
theorem tw_n_iinc {k : Nat} {n : Int} (C : tw_Cx p s m args meth c mi) (Wd : tw_Wd cA D s) (hf : tw_rk mi ≤ R.frames ∧ 36 * tw_rk mi ≤ R.locals) (hcb : σ.2.2.2.2.1 ≤ R.cells + k0) (hsb : σ.2.2.2.2.2.1 ≤ R.slots + k1) (K : tw_K p l e R s m args below meth c Q base b0 L0 k0 k1 cA D xs σ.1 σ.2.1 σ.2.2.1 σ.2.2.2.1 σ.2.2.2.2) (hd : decode (tw_c mi) pc = .ok (.iinc k n, len)) (hx : tw_do mi pc L S h len (.iinc k n) = some (.inr (.inl σ))) : tw_K p l e R s m args below meth c Q base b0 L0 k0 k1 cA D xs mi pc L S h := by
  obtain ⟨hX, hB, hM, hrt, hown, hlk, hnm, hts⟩ := C
  simp only [tw_do] at hx
  replace hx := tw_gS.mp hx
  obtain ⟨hl, hx⟩ := hx
  obtain rfl := eq_of_beq hl
  replace hx := Option.bind_eq_some_iff.mp hx
  obtain ⟨x, hq, hx⟩ := hx
  replace hq := Option.bind_eq_some_iff.mp hq
  obtain ⟨v, hv, hq⟩ := hq
  obtain rfl := tw_asIS hq
  replace hx := Option.bind_eq_some_iff.mp hx
  obtain ⟨L', hst, hx⟩ := hx
  obtain rfl := tw_nxS hx
  intro H ls locs cells slots hR hL hlo hc hs
  have hm := tw_pl_mem (base := base) (b0 := b0) hv (tw_un_int x)
  obtain ⟨j, hj⟩ := List.getElem?_of_mem hm
  exact lv_iinc hX hB hd hL.has hj rfl (by have := tw_st_lt hst; rw [hL.2.2.1] at this; exact this) rfl (fun ls' hl => K H ls' locs cells slots hR (tw_stS hst hL.2.2.1 hl) hlo hc hs)
theorem tw_n_iadd (C : tw_Cx p s m args meth c mi) (Wd : tw_Wd cA D s) (hf : tw_rk mi ≤ R.frames ∧ 36 * tw_rk mi ≤ R.locals) (hcb : σ.2.2.2.2.1 ≤ R.cells + k0) (hsb : σ.2.2.2.2.2.1 ≤ R.slots + k1) (K : tw_K p l e R s m args below meth c Q base b0 L0 k0 k1 cA D xs σ.1 σ.2.1 σ.2.2.1 σ.2.2.2.1 σ.2.2.2.2) (hd : decode (tw_c mi) pc = .ok (.iadd, len)) (hx : tw_do mi pc L S h len (.iadd) = some (.inr (.inl σ))) : tw_K p l e R s m args below meth c Q base b0 L0 k0 k1 cA D xs mi pc L S h := by
  obtain ⟨hX, hB, hM, hrt, hown, hlk, hnm, hts⟩ := C
  simp only [tw_do] at hx
  replace hx := tw_gS.mp hx
  obtain ⟨hl, hx⟩ := hx
  obtain rfl := eq_of_beq hl
  replace hx := Option.bind_eq_some_iff.mp hx
  obtain ⟨⟨y, T⟩, hq, hx⟩ := hx
  obtain rfl := tw_pIS hq
  replace hx := Option.bind_eq_some_iff.mp hx
  obtain ⟨⟨x, T2⟩, hq2, hx⟩ := hx
  obtain rfl := tw_pIS hq2
  obtain rfl := tw_nxS hx
  intro H ls locs cells slots hR hL hlo hc hs
  exact lv_iadd hX hB hd (K H ls locs cells slots hR hL hlo hc hs)
theorem tw_n_isub (C : tw_Cx p s m args meth c mi) (Wd : tw_Wd cA D s) (hf : tw_rk mi ≤ R.frames ∧ 36 * tw_rk mi ≤ R.locals) (hcb : σ.2.2.2.2.1 ≤ R.cells + k0) (hsb : σ.2.2.2.2.2.1 ≤ R.slots + k1) (K : tw_K p l e R s m args below meth c Q base b0 L0 k0 k1 cA D xs σ.1 σ.2.1 σ.2.2.1 σ.2.2.2.1 σ.2.2.2.2) (hd : decode (tw_c mi) pc = .ok (.isub, len)) (hx : tw_do mi pc L S h len (.isub) = some (.inr (.inl σ))) : tw_K p l e R s m args below meth c Q base b0 L0 k0 k1 cA D xs mi pc L S h := by
  obtain ⟨hX, hB, hM, hrt, hown, hlk, hnm, hts⟩ := C
  simp only [tw_do] at hx
  replace hx := tw_gS.mp hx
  obtain ⟨hl, hx⟩ := hx
  obtain rfl := eq_of_beq hl
  replace hx := Option.bind_eq_some_iff.mp hx
  obtain ⟨⟨y, T⟩, hq, hx⟩ := hx
  obtain rfl := tw_pIS hq
  replace hx := Option.bind_eq_some_iff.mp hx
  obtain ⟨⟨x, T2⟩, hq2, hx⟩ := hx
  obtain rfl := tw_pIS hq2
  obtain rfl := tw_nxS hx
  intro H ls locs cells slots hR hL hlo hc hs
  exact lv_isub hX hB hd (K H ls locs cells slots hR hL hlo hc hs)
theorem tw_n_imul (C : tw_Cx p s m args meth c mi) (Wd : tw_Wd cA D s) (hf : tw_rk mi ≤ R.frames ∧ 36 * tw_rk mi ≤ R.locals) (hcb : σ.2.2.2.2.1 ≤ R.cells + k0) (hsb : σ.2.2.2.2.2.1 ≤ R.slots + k1) (K : tw_K p l e R s m args below meth c Q base b0 L0 k0 k1 cA D xs σ.1 σ.2.1 σ.2.2.1 σ.2.2.2.1 σ.2.2.2.2) (hd : decode (tw_c mi) pc = .ok (.imul, len)) (hx : tw_do mi pc L S h len (.imul) = some (.inr (.inl σ))) : tw_K p l e R s m args below meth c Q base b0 L0 k0 k1 cA D xs mi pc L S h := by
  obtain ⟨hX, hB, hM, hrt, hown, hlk, hnm, hts⟩ := C
  simp only [tw_do] at hx
  replace hx := tw_gS.mp hx
  obtain ⟨hl, hx⟩ := hx
  obtain rfl := eq_of_beq hl
  replace hx := Option.bind_eq_some_iff.mp hx
  obtain ⟨⟨y, T⟩, hq, hx⟩ := hx
  obtain rfl := tw_pIS hq
  replace hx := Option.bind_eq_some_iff.mp hx
  obtain ⟨⟨x, T2⟩, hq2, hx⟩ := hx
  obtain rfl := tw_pIS hq2
  obtain rfl := tw_nxS hx
  intro H ls locs cells slots hR hL hlo hc hs
  exact lv_imul hX hB hd (K H ls locs cells slots hR hL hlo hc hs)
theorem tw_n_iand (C : tw_Cx p s m args meth c mi) (Wd : tw_Wd cA D s) (hf : tw_rk mi ≤ R.frames ∧ 36 * tw_rk mi ≤ R.locals) (hcb : σ.2.2.2.2.1 ≤ R.cells + k0) (hsb : σ.2.2.2.2.2.1 ≤ R.slots + k1) (K : tw_K p l e R s m args below meth c Q base b0 L0 k0 k1 cA D xs σ.1 σ.2.1 σ.2.2.1 σ.2.2.2.1 σ.2.2.2.2) (hd : decode (tw_c mi) pc = .ok (.iand, len)) (hx : tw_do mi pc L S h len (.iand) = some (.inr (.inl σ))) : tw_K p l e R s m args below meth c Q base b0 L0 k0 k1 cA D xs mi pc L S h := by
  obtain ⟨hX, hB, hM, hrt, hown, hlk, hnm, hts⟩ := C
  simp only [tw_do] at hx
  replace hx := tw_gS.mp hx
  obtain ⟨hl, hx⟩ := hx
  obtain rfl := eq_of_beq hl
  replace hx := Option.bind_eq_some_iff.mp hx
  obtain ⟨⟨y, T⟩, hq, hx⟩ := hx
  obtain rfl := tw_pIS hq
  replace hx := Option.bind_eq_some_iff.mp hx
  obtain ⟨⟨x, T2⟩, hq2, hx⟩ := hx
  obtain rfl := tw_pIS hq2
  obtain rfl := tw_nxS hx
  intro H ls locs cells slots hR hL hlo hc hs
  exact lv_iand hX hB hd (K H ls locs cells slots hR hL hlo hc hs)
theorem tw_n_ior (C : tw_Cx p s m args meth c mi) (Wd : tw_Wd cA D s) (hf : tw_rk mi ≤ R.frames ∧ 36 * tw_rk mi ≤ R.locals) (hcb : σ.2.2.2.2.1 ≤ R.cells + k0) (hsb : σ.2.2.2.2.2.1 ≤ R.slots + k1) (K : tw_K p l e R s m args below meth c Q base b0 L0 k0 k1 cA D xs σ.1 σ.2.1 σ.2.2.1 σ.2.2.2.1 σ.2.2.2.2) (hd : decode (tw_c mi) pc = .ok (.ior, len)) (hx : tw_do mi pc L S h len (.ior) = some (.inr (.inl σ))) : tw_K p l e R s m args below meth c Q base b0 L0 k0 k1 cA D xs mi pc L S h := by
  obtain ⟨hX, hB, hM, hrt, hown, hlk, hnm, hts⟩ := C
  simp only [tw_do] at hx
  replace hx := tw_gS.mp hx
  obtain ⟨hl, hx⟩ := hx
  obtain rfl := eq_of_beq hl
  replace hx := Option.bind_eq_some_iff.mp hx
  obtain ⟨⟨y, T⟩, hq, hx⟩ := hx
  obtain rfl := tw_pIS hq
  replace hx := Option.bind_eq_some_iff.mp hx
  obtain ⟨⟨x, T2⟩, hq2, hx⟩ := hx
  obtain rfl := tw_pIS hq2
  obtain rfl := tw_nxS hx
  intro H ls locs cells slots hR hL hlo hc hs
  exact lv_ior hX hB hd (K H ls locs cells slots hR hL hlo hc hs)
theorem tw_n_ixor (C : tw_Cx p s m args meth c mi) (Wd : tw_Wd cA D s) (hf : tw_rk mi ≤ R.frames ∧ 36 * tw_rk mi ≤ R.locals) (hcb : σ.2.2.2.2.1 ≤ R.cells + k0) (hsb : σ.2.2.2.2.2.1 ≤ R.slots + k1) (K : tw_K p l e R s m args below meth c Q base b0 L0 k0 k1 cA D xs σ.1 σ.2.1 σ.2.2.1 σ.2.2.2.1 σ.2.2.2.2) (hd : decode (tw_c mi) pc = .ok (.ixor, len)) (hx : tw_do mi pc L S h len (.ixor) = some (.inr (.inl σ))) : tw_K p l e R s m args below meth c Q base b0 L0 k0 k1 cA D xs mi pc L S h := by
  obtain ⟨hX, hB, hM, hrt, hown, hlk, hnm, hts⟩ := C
  simp only [tw_do] at hx
  replace hx := tw_gS.mp hx
  obtain ⟨hl, hx⟩ := hx
  obtain rfl := eq_of_beq hl
  replace hx := Option.bind_eq_some_iff.mp hx
  obtain ⟨⟨y, T⟩, hq, hx⟩ := hx
  obtain rfl := tw_pIS hq
  replace hx := Option.bind_eq_some_iff.mp hx
  obtain ⟨⟨x, T2⟩, hq2, hx⟩ := hx
  obtain rfl := tw_pIS hq2
  obtain rfl := tw_nxS hx
  intro H ls locs cells slots hR hL hlo hc hs
  exact lv_ixor hX hB hd (K H ls locs cells slots hR hL hlo hc hs)
theorem tw_n_ishl (C : tw_Cx p s m args meth c mi) (Wd : tw_Wd cA D s) (hf : tw_rk mi ≤ R.frames ∧ 36 * tw_rk mi ≤ R.locals) (hcb : σ.2.2.2.2.1 ≤ R.cells + k0) (hsb : σ.2.2.2.2.2.1 ≤ R.slots + k1) (K : tw_K p l e R s m args below meth c Q base b0 L0 k0 k1 cA D xs σ.1 σ.2.1 σ.2.2.1 σ.2.2.2.1 σ.2.2.2.2) (hd : decode (tw_c mi) pc = .ok (.ishl, len)) (hx : tw_do mi pc L S h len (.ishl) = some (.inr (.inl σ))) : tw_K p l e R s m args below meth c Q base b0 L0 k0 k1 cA D xs mi pc L S h := by
  obtain ⟨hX, hB, hM, hrt, hown, hlk, hnm, hts⟩ := C
  simp only [tw_do] at hx
  replace hx := tw_gS.mp hx
  obtain ⟨hl, hx⟩ := hx
  obtain rfl := eq_of_beq hl
  replace hx := Option.bind_eq_some_iff.mp hx
  obtain ⟨⟨y, T⟩, hq, hx⟩ := hx
  obtain rfl := tw_pIS hq
  replace hx := Option.bind_eq_some_iff.mp hx
  obtain ⟨⟨x, T2⟩, hq2, hx⟩ := hx
  obtain rfl := tw_pIS hq2
  obtain rfl := tw_nxS hx
  intro H ls locs cells slots hR hL hlo hc hs
  exact lv_ishl hX hB hd (K H ls locs cells slots hR hL hlo hc hs)
theorem tw_n_ishr (C : tw_Cx p s m args meth c mi) (Wd : tw_Wd cA D s) (hf : tw_rk mi ≤ R.frames ∧ 36 * tw_rk mi ≤ R.locals) (hcb : σ.2.2.2.2.1 ≤ R.cells + k0) (hsb : σ.2.2.2.2.2.1 ≤ R.slots + k1) (K : tw_K p l e R s m args below meth c Q base b0 L0 k0 k1 cA D xs σ.1 σ.2.1 σ.2.2.1 σ.2.2.2.1 σ.2.2.2.2) (hd : decode (tw_c mi) pc = .ok (.ishr, len)) (hx : tw_do mi pc L S h len (.ishr) = some (.inr (.inl σ))) : tw_K p l e R s m args below meth c Q base b0 L0 k0 k1 cA D xs mi pc L S h := by
  obtain ⟨hX, hB, hM, hrt, hown, hlk, hnm, hts⟩ := C
  simp only [tw_do] at hx
  replace hx := tw_gS.mp hx
  obtain ⟨hl, hx⟩ := hx
  obtain rfl := eq_of_beq hl
  replace hx := Option.bind_eq_some_iff.mp hx
  obtain ⟨⟨y, T⟩, hq, hx⟩ := hx
  obtain rfl := tw_pIS hq
  replace hx := Option.bind_eq_some_iff.mp hx
  obtain ⟨⟨x, T2⟩, hq2, hx⟩ := hx
  obtain rfl := tw_pIS hq2
  obtain rfl := tw_nxS hx
  intro H ls locs cells slots hR hL hlo hc hs
  exact lv_ishr hX hB hd (K H ls locs cells slots hR hL hlo hc hs)
theorem tw_n_iushr (C : tw_Cx p s m args meth c mi) (Wd : tw_Wd cA D s) (hf : tw_rk mi ≤ R.frames ∧ 36 * tw_rk mi ≤ R.locals) (hcb : σ.2.2.2.2.1 ≤ R.cells + k0) (hsb : σ.2.2.2.2.2.1 ≤ R.slots + k1) (K : tw_K p l e R s m args below meth c Q base b0 L0 k0 k1 cA D xs σ.1 σ.2.1 σ.2.2.1 σ.2.2.2.1 σ.2.2.2.2) (hd : decode (tw_c mi) pc = .ok (.iushr, len)) (hx : tw_do mi pc L S h len (.iushr) = some (.inr (.inl σ))) : tw_K p l e R s m args below meth c Q base b0 L0 k0 k1 cA D xs mi pc L S h := by
  obtain ⟨hX, hB, hM, hrt, hown, hlk, hnm, hts⟩ := C
  simp only [tw_do] at hx
  replace hx := tw_gS.mp hx
  obtain ⟨hl, hx⟩ := hx
  obtain rfl := eq_of_beq hl
  replace hx := Option.bind_eq_some_iff.mp hx
  obtain ⟨⟨y, T⟩, hq, hx⟩ := hx
  obtain rfl := tw_pIS hq
  replace hx := Option.bind_eq_some_iff.mp hx
  obtain ⟨⟨x, T2⟩, hq2, hx⟩ := hx
  obtain rfl := tw_pIS hq2
  obtain rfl := tw_nxS hx
  intro H ls locs cells slots hR hL hlo hc hs
  exact lv_iushr hX hB hd rfl (K H ls locs cells slots hR hL hlo hc hs)
theorem tw_n_idiv (C : tw_Cx p s m args meth c mi) (Wd : tw_Wd cA D s) (hf : tw_rk mi ≤ R.frames ∧ 36 * tw_rk mi ≤ R.locals) (hcb : σ.2.2.2.2.1 ≤ R.cells + k0) (hsb : σ.2.2.2.2.2.1 ≤ R.slots + k1) (K : tw_K p l e R s m args below meth c Q base b0 L0 k0 k1 cA D xs σ.1 σ.2.1 σ.2.2.1 σ.2.2.2.1 σ.2.2.2.2) (hd : decode (tw_c mi) pc = .ok (.idiv, len)) (hx : tw_do mi pc L S h len (.idiv) = some (.inr (.inl σ))) : tw_K p l e R s m args below meth c Q base b0 L0 k0 k1 cA D xs mi pc L S h := by
  obtain ⟨hX, hB, hM, hrt, hown, hlk, hnm, hts⟩ := C
  simp only [tw_do] at hx
  replace hx := tw_gS.mp hx
  obtain ⟨hl, hx⟩ := hx
  obtain rfl := eq_of_beq hl
  replace hx := Option.bind_eq_some_iff.mp hx
  obtain ⟨⟨y, T⟩, hq, hx⟩ := hx
  obtain rfl := tw_pIS hq
  replace hx := Option.bind_eq_some_iff.mp hx
  obtain ⟨⟨x, T2⟩, hq2, hx⟩ := hx
  obtain rfl := tw_pIS hq2
  replace hx := tw_gS.mp hx
  obtain ⟨hz, hx⟩ := hx
  obtain rfl := tw_nxS hx
  intro H ls locs cells slots hR hL hlo hc hs
  exact lv_idiv hX hB hd (of_decide_eq_true hz) (K H ls locs cells slots hR hL hlo hc hs)
theorem tw_n_irem (C : tw_Cx p s m args meth c mi) (Wd : tw_Wd cA D s) (hf : tw_rk mi ≤ R.frames ∧ 36 * tw_rk mi ≤ R.locals) (hcb : σ.2.2.2.2.1 ≤ R.cells + k0) (hsb : σ.2.2.2.2.2.1 ≤ R.slots + k1) (K : tw_K p l e R s m args below meth c Q base b0 L0 k0 k1 cA D xs σ.1 σ.2.1 σ.2.2.1 σ.2.2.2.1 σ.2.2.2.2) (hd : decode (tw_c mi) pc = .ok (.irem, len)) (hx : tw_do mi pc L S h len (.irem) = some (.inr (.inl σ))) : tw_K p l e R s m args below meth c Q base b0 L0 k0 k1 cA D xs mi pc L S h := by
  obtain ⟨hX, hB, hM, hrt, hown, hlk, hnm, hts⟩ := C
  simp only [tw_do] at hx
  replace hx := tw_gS.mp hx
  obtain ⟨hl, hx⟩ := hx
  obtain rfl := eq_of_beq hl
  replace hx := Option.bind_eq_some_iff.mp hx
  obtain ⟨⟨y, T⟩, hq, hx⟩ := hx
  obtain rfl := tw_pIS hq
  replace hx := Option.bind_eq_some_iff.mp hx
  obtain ⟨⟨x, T2⟩, hq2, hx⟩ := hx
  obtain rfl := tw_pIS hq2
  replace hx := tw_gS.mp hx
  obtain ⟨hz, hx⟩ := hx
  obtain rfl := tw_nxS hx
  intro H ls locs cells slots hR hL hlo hc hs
  exact lv_irem hX hB hd (of_decide_eq_true hz) (K H ls locs cells slots hR hL hlo hc hs)
theorem tw_n_ladd (C : tw_Cx p s m args meth c mi) (Wd : tw_Wd cA D s) (hf : tw_rk mi ≤ R.frames ∧ 36 * tw_rk mi ≤ R.locals) (hcb : σ.2.2.2.2.1 ≤ R.cells + k0) (hsb : σ.2.2.2.2.2.1 ≤ R.slots + k1) (K : tw_K p l e R s m args below meth c Q base b0 L0 k0 k1 cA D xs σ.1 σ.2.1 σ.2.2.1 σ.2.2.2.1 σ.2.2.2.2) (hd : decode (tw_c mi) pc = .ok (.ladd, len)) (hx : tw_do mi pc L S h len (.ladd) = some (.inr (.inl σ))) : tw_K p l e R s m args below meth c Q base b0 L0 k0 k1 cA D xs mi pc L S h := by
  obtain ⟨hX, hB, hM, hrt, hown, hlk, hnm, hts⟩ := C
  simp only [tw_do] at hx
  replace hx := tw_gS.mp hx
  obtain ⟨hl, hx⟩ := hx
  obtain rfl := eq_of_beq hl
  replace hx := Option.bind_eq_some_iff.mp hx
  obtain ⟨⟨y, T⟩, hq, hx⟩ := hx
  obtain rfl := tw_pLS hq
  replace hx := Option.bind_eq_some_iff.mp hx
  obtain ⟨⟨x, T2⟩, hq2, hx⟩ := hx
  obtain rfl := tw_pLS hq2
  obtain rfl := tw_nxS hx
  intro H ls locs cells slots hR hL hlo hc hs
  exact lv_ladd hX hB hd (K H ls locs cells slots hR hL hlo hc hs)
theorem tw_n_lsub (C : tw_Cx p s m args meth c mi) (Wd : tw_Wd cA D s) (hf : tw_rk mi ≤ R.frames ∧ 36 * tw_rk mi ≤ R.locals) (hcb : σ.2.2.2.2.1 ≤ R.cells + k0) (hsb : σ.2.2.2.2.2.1 ≤ R.slots + k1) (K : tw_K p l e R s m args below meth c Q base b0 L0 k0 k1 cA D xs σ.1 σ.2.1 σ.2.2.1 σ.2.2.2.1 σ.2.2.2.2) (hd : decode (tw_c mi) pc = .ok (.lsub, len)) (hx : tw_do mi pc L S h len (.lsub) = some (.inr (.inl σ))) : tw_K p l e R s m args below meth c Q base b0 L0 k0 k1 cA D xs mi pc L S h := by
  obtain ⟨hX, hB, hM, hrt, hown, hlk, hnm, hts⟩ := C
  simp only [tw_do] at hx
  replace hx := tw_gS.mp hx
  obtain ⟨hl, hx⟩ := hx
  obtain rfl := eq_of_beq hl
  replace hx := Option.bind_eq_some_iff.mp hx
  obtain ⟨⟨y, T⟩, hq, hx⟩ := hx
  obtain rfl := tw_pLS hq
  replace hx := Option.bind_eq_some_iff.mp hx
  obtain ⟨⟨x, T2⟩, hq2, hx⟩ := hx
  obtain rfl := tw_pLS hq2
  obtain rfl := tw_nxS hx
  intro H ls locs cells slots hR hL hlo hc hs
  exact lv_lsub hX hB hd (K H ls locs cells slots hR hL hlo hc hs)
theorem tw_n_lmul (C : tw_Cx p s m args meth c mi) (Wd : tw_Wd cA D s) (hf : tw_rk mi ≤ R.frames ∧ 36 * tw_rk mi ≤ R.locals) (hcb : σ.2.2.2.2.1 ≤ R.cells + k0) (hsb : σ.2.2.2.2.2.1 ≤ R.slots + k1) (K : tw_K p l e R s m args below meth c Q base b0 L0 k0 k1 cA D xs σ.1 σ.2.1 σ.2.2.1 σ.2.2.2.1 σ.2.2.2.2) (hd : decode (tw_c mi) pc = .ok (.lmul, len)) (hx : tw_do mi pc L S h len (.lmul) = some (.inr (.inl σ))) : tw_K p l e R s m args below meth c Q base b0 L0 k0 k1 cA D xs mi pc L S h := by
  obtain ⟨hX, hB, hM, hrt, hown, hlk, hnm, hts⟩ := C
  simp only [tw_do] at hx
  replace hx := tw_gS.mp hx
  obtain ⟨hl, hx⟩ := hx
  obtain rfl := eq_of_beq hl
  replace hx := Option.bind_eq_some_iff.mp hx
  obtain ⟨⟨y, T⟩, hq, hx⟩ := hx
  obtain rfl := tw_pLS hq
  replace hx := Option.bind_eq_some_iff.mp hx
  obtain ⟨⟨x, T2⟩, hq2, hx⟩ := hx
  obtain rfl := tw_pLS hq2
  obtain rfl := tw_nxS hx
  intro H ls locs cells slots hR hL hlo hc hs
  exact lv_lmul hX hB hd (K H ls locs cells slots hR hL hlo hc hs)
theorem tw_n_lcmp (C : tw_Cx p s m args meth c mi) (Wd : tw_Wd cA D s) (hf : tw_rk mi ≤ R.frames ∧ 36 * tw_rk mi ≤ R.locals) (hcb : σ.2.2.2.2.1 ≤ R.cells + k0) (hsb : σ.2.2.2.2.2.1 ≤ R.slots + k1) (K : tw_K p l e R s m args below meth c Q base b0 L0 k0 k1 cA D xs σ.1 σ.2.1 σ.2.2.1 σ.2.2.2.1 σ.2.2.2.2) (hd : decode (tw_c mi) pc = .ok (.lcmp, len)) (hx : tw_do mi pc L S h len (.lcmp) = some (.inr (.inl σ))) : tw_K p l e R s m args below meth c Q base b0 L0 k0 k1 cA D xs mi pc L S h := by
  obtain ⟨hX, hB, hM, hrt, hown, hlk, hnm, hts⟩ := C
  simp only [tw_do] at hx
  replace hx := tw_gS.mp hx
  obtain ⟨hl, hx⟩ := hx
  obtain rfl := eq_of_beq hl
  replace hx := Option.bind_eq_some_iff.mp hx
  obtain ⟨⟨y, T⟩, hq, hx⟩ := hx
  obtain rfl := tw_pLS hq
  replace hx := Option.bind_eq_some_iff.mp hx
  obtain ⟨⟨x, T2⟩, hq2, hx⟩ := hx
  obtain rfl := tw_pLS hq2
  obtain rfl := tw_nxS hx
  intro H ls locs cells slots hR hL hlo hc hs
  exact W.lcmp hX hB hd (K H ls locs cells slots hR hL hlo hc hs)
theorem tw_n_ldiv (C : tw_Cx p s m args meth c mi) (Wd : tw_Wd cA D s) (hf : tw_rk mi ≤ R.frames ∧ 36 * tw_rk mi ≤ R.locals) (hcb : σ.2.2.2.2.1 ≤ R.cells + k0) (hsb : σ.2.2.2.2.2.1 ≤ R.slots + k1) (K : tw_K p l e R s m args below meth c Q base b0 L0 k0 k1 cA D xs σ.1 σ.2.1 σ.2.2.1 σ.2.2.2.1 σ.2.2.2.2) (hd : decode (tw_c mi) pc = .ok (.ldiv, len)) (hx : tw_do mi pc L S h len (.ldiv) = some (.inr (.inl σ))) : tw_K p l e R s m args below meth c Q base b0 L0 k0 k1 cA D xs mi pc L S h := by
  obtain ⟨hX, hB, hM, hrt, hown, hlk, hnm, hts⟩ := C
  simp only [tw_do] at hx
  replace hx := tw_gS.mp hx
  obtain ⟨hl, hx⟩ := hx
  obtain rfl := eq_of_beq hl
  replace hx := Option.bind_eq_some_iff.mp hx
  obtain ⟨⟨y, T⟩, hq, hx⟩ := hx
  obtain rfl := tw_pLS hq
  replace hx := Option.bind_eq_some_iff.mp hx
  obtain ⟨⟨x, T2⟩, hq2, hx⟩ := hx
  obtain rfl := tw_pLS hq2
  replace hx := tw_gS.mp hx
  obtain ⟨hz, hx⟩ := hx
  obtain rfl := tw_nxS hx
  intro H ls locs cells slots hR hL hlo hc hs
  exact lv_ldiv hX hB hd (of_decide_eq_true hz) (K H ls locs cells slots hR hL hlo hc hs)
theorem tw_n_lrem (C : tw_Cx p s m args meth c mi) (Wd : tw_Wd cA D s) (hf : tw_rk mi ≤ R.frames ∧ 36 * tw_rk mi ≤ R.locals) (hcb : σ.2.2.2.2.1 ≤ R.cells + k0) (hsb : σ.2.2.2.2.2.1 ≤ R.slots + k1) (K : tw_K p l e R s m args below meth c Q base b0 L0 k0 k1 cA D xs σ.1 σ.2.1 σ.2.2.1 σ.2.2.2.1 σ.2.2.2.2) (hd : decode (tw_c mi) pc = .ok (.lrem, len)) (hx : tw_do mi pc L S h len (.lrem) = some (.inr (.inl σ))) : tw_K p l e R s m args below meth c Q base b0 L0 k0 k1 cA D xs mi pc L S h := by
  obtain ⟨hX, hB, hM, hrt, hown, hlk, hnm, hts⟩ := C
  simp only [tw_do] at hx
  replace hx := tw_gS.mp hx
  obtain ⟨hl, hx⟩ := hx
  obtain rfl := eq_of_beq hl
  replace hx := Option.bind_eq_some_iff.mp hx
  obtain ⟨⟨y, T⟩, hq, hx⟩ := hx
  obtain rfl := tw_pLS hq
  replace hx := Option.bind_eq_some_iff.mp hx
  obtain ⟨⟨x, T2⟩, hq2, hx⟩ := hx
  obtain rfl := tw_pLS hq2
  replace hx := tw_gS.mp hx
  obtain ⟨hz, hx⟩ := hx
  obtain rfl := tw_nxS hx
  intro H ls locs cells slots hR hL hlo hc hs
  exact lv_lrem hX hB hd (of_decide_eq_true hz) (K H ls locs cells slots hR hL hlo hc hs)
theorem tw_n_i2l (C : tw_Cx p s m args meth c mi) (Wd : tw_Wd cA D s) (hf : tw_rk mi ≤ R.frames ∧ 36 * tw_rk mi ≤ R.locals) (hcb : σ.2.2.2.2.1 ≤ R.cells + k0) (hsb : σ.2.2.2.2.2.1 ≤ R.slots + k1) (K : tw_K p l e R s m args below meth c Q base b0 L0 k0 k1 cA D xs σ.1 σ.2.1 σ.2.2.1 σ.2.2.2.1 σ.2.2.2.2) (hd : decode (tw_c mi) pc = .ok (.i2l, len)) (hx : tw_do mi pc L S h len (.i2l) = some (.inr (.inl σ))) : tw_K p l e R s m args below meth c Q base b0 L0 k0 k1 cA D xs mi pc L S h := by
  obtain ⟨hX, hB, hM, hrt, hown, hlk, hnm, hts⟩ := C
  simp only [tw_do] at hx
  replace hx := tw_gS.mp hx
  obtain ⟨hl, hx⟩ := hx
  obtain rfl := eq_of_beq hl
  replace hx := Option.bind_eq_some_iff.mp hx
  obtain ⟨⟨x, T⟩, hq, hx⟩ := hx
  obtain rfl := tw_pIS hq
  obtain rfl := tw_nxS hx
  intro H ls locs cells slots hR hL hlo hc hs
  exact lv_i2l hX hB hd rfl (K H ls locs cells slots hR hL hlo hc hs)
theorem tw_n_i2b (C : tw_Cx p s m args meth c mi) (Wd : tw_Wd cA D s) (hf : tw_rk mi ≤ R.frames ∧ 36 * tw_rk mi ≤ R.locals) (hcb : σ.2.2.2.2.1 ≤ R.cells + k0) (hsb : σ.2.2.2.2.2.1 ≤ R.slots + k1) (K : tw_K p l e R s m args below meth c Q base b0 L0 k0 k1 cA D xs σ.1 σ.2.1 σ.2.2.1 σ.2.2.2.1 σ.2.2.2.2) (hd : decode (tw_c mi) pc = .ok (.i2b, len)) (hx : tw_do mi pc L S h len (.i2b) = some (.inr (.inl σ))) : tw_K p l e R s m args below meth c Q base b0 L0 k0 k1 cA D xs mi pc L S h := by
  obtain ⟨hX, hB, hM, hrt, hown, hlk, hnm, hts⟩ := C
  simp only [tw_do] at hx
  replace hx := tw_gS.mp hx
  obtain ⟨hl, hx⟩ := hx
  obtain rfl := eq_of_beq hl
  replace hx := Option.bind_eq_some_iff.mp hx
  obtain ⟨⟨x, T⟩, hq, hx⟩ := hx
  obtain rfl := tw_pIS hq
  obtain rfl := tw_nxS hx
  intro H ls locs cells slots hR hL hlo hc hs
  exact lv_i2b hX hB hd rfl (K H ls locs cells slots hR hL hlo hc hs)
theorem tw_n_i2s (C : tw_Cx p s m args meth c mi) (Wd : tw_Wd cA D s) (hf : tw_rk mi ≤ R.frames ∧ 36 * tw_rk mi ≤ R.locals) (hcb : σ.2.2.2.2.1 ≤ R.cells + k0) (hsb : σ.2.2.2.2.2.1 ≤ R.slots + k1) (K : tw_K p l e R s m args below meth c Q base b0 L0 k0 k1 cA D xs σ.1 σ.2.1 σ.2.2.1 σ.2.2.2.1 σ.2.2.2.2) (hd : decode (tw_c mi) pc = .ok (.i2s, len)) (hx : tw_do mi pc L S h len (.i2s) = some (.inr (.inl σ))) : tw_K p l e R s m args below meth c Q base b0 L0 k0 k1 cA D xs mi pc L S h := by
  obtain ⟨hX, hB, hM, hrt, hown, hlk, hnm, hts⟩ := C
  simp only [tw_do] at hx
  replace hx := tw_gS.mp hx
  obtain ⟨hl, hx⟩ := hx
  obtain rfl := eq_of_beq hl
  replace hx := Option.bind_eq_some_iff.mp hx
  obtain ⟨⟨x, T⟩, hq, hx⟩ := hx
  obtain rfl := tw_pIS hq
  obtain rfl := tw_nxS hx
  intro H ls locs cells slots hR hL hlo hc hs
  exact lv_i2s hX hB hd rfl (K H ls locs cells slots hR hL hlo hc hs)
theorem tw_n_dup (C : tw_Cx p s m args meth c mi) (Wd : tw_Wd cA D s) (hf : tw_rk mi ≤ R.frames ∧ 36 * tw_rk mi ≤ R.locals) (hcb : σ.2.2.2.2.1 ≤ R.cells + k0) (hsb : σ.2.2.2.2.2.1 ≤ R.slots + k1) (K : tw_K p l e R s m args below meth c Q base b0 L0 k0 k1 cA D xs σ.1 σ.2.1 σ.2.2.1 σ.2.2.2.1 σ.2.2.2.2) (hd : decode (tw_c mi) pc = .ok (.dup, len)) (hx : tw_do mi pc L S h len (.dup) = some (.inr (.inl σ))) : tw_K p l e R s m args below meth c Q base b0 L0 k0 k1 cA D xs mi pc L S h := by
  obtain ⟨hX, hB, hM, hrt, hown, hlk, hnm, hts⟩ := C
  simp only [tw_do] at hx
  replace hx := tw_gS.mp hx
  obtain ⟨hl, hx⟩ := hx
  obtain rfl := eq_of_beq hl
  replace hx := Option.bind_eq_some_iff.mp hx
  obtain ⟨⟨x, T⟩, hq, hx⟩ := hx
  obtain rfl := tw_pVS hq
  replace hx := tw_gS.mp hx
  obtain ⟨hz, hx⟩ := hx
  obtain rfl := tw_nxS hx
  intro H ls locs cells slots hR hL hlo hc hs
  exact lv_dup hX hB hd (by rw [tw_v_cat]; exact of_decide_eq_true hz) (K H ls locs cells slots hR hL hlo hc hs)
theorem tw_n_dup_x1 (C : tw_Cx p s m args meth c mi) (Wd : tw_Wd cA D s) (hf : tw_rk mi ≤ R.frames ∧ 36 * tw_rk mi ≤ R.locals) (hcb : σ.2.2.2.2.1 ≤ R.cells + k0) (hsb : σ.2.2.2.2.2.1 ≤ R.slots + k1) (K : tw_K p l e R s m args below meth c Q base b0 L0 k0 k1 cA D xs σ.1 σ.2.1 σ.2.2.1 σ.2.2.2.1 σ.2.2.2.2) (hd : decode (tw_c mi) pc = .ok (.dup_x1, len)) (hx : tw_do mi pc L S h len (.dup_x1) = some (.inr (.inl σ))) : tw_K p l e R s m args below meth c Q base b0 L0 k0 k1 cA D xs mi pc L S h := by
  obtain ⟨hX, hB, hM, hrt, hown, hlk, hnm, hts⟩ := C
  simp only [tw_do] at hx
  replace hx := tw_gS.mp hx
  obtain ⟨hl, hx⟩ := hx
  obtain rfl := eq_of_beq hl
  replace hx := Option.bind_eq_some_iff.mp hx
  obtain ⟨⟨y, T⟩, hq, hx⟩ := hx
  obtain rfl := tw_pVS hq
  replace hx := Option.bind_eq_some_iff.mp hx
  obtain ⟨⟨x, T2⟩, hq2, hx⟩ := hx
  obtain rfl := tw_pVS hq2
  replace hx := tw_gS.mp hx
  obtain ⟨hz, hx⟩ := hx
  simp only [Bool.and_eq_true, decide_eq_true_eq] at hz
  obtain rfl := tw_nxS hx
  intro H ls locs cells slots hR hL hlo hc hs
  exact lv_dup_x1 hX hB hd (by rw [tw_v_cat]; exact hz.1) (by rw [tw_v_cat]; exact hz.2) (K H ls locs cells slots hR hL hlo hc hs)
theorem tw_n_dup2 (C : tw_Cx p s m args meth c mi) (Wd : tw_Wd cA D s) (hf : tw_rk mi ≤ R.frames ∧ 36 * tw_rk mi ≤ R.locals) (hcb : σ.2.2.2.2.1 ≤ R.cells + k0) (hsb : σ.2.2.2.2.2.1 ≤ R.slots + k1) (K : tw_K p l e R s m args below meth c Q base b0 L0 k0 k1 cA D xs σ.1 σ.2.1 σ.2.2.1 σ.2.2.2.1 σ.2.2.2.2) (hd : decode (tw_c mi) pc = .ok (.dup2, len)) (hx : tw_do mi pc L S h len (.dup2) = some (.inr (.inl σ))) : tw_K p l e R s m args below meth c Q base b0 L0 k0 k1 cA D xs mi pc L S h := by
  obtain ⟨hX, hB, hM, hrt, hown, hlk, hnm, hts⟩ := C
  simp only [tw_do] at hx
  replace hx := tw_gS.mp hx
  obtain ⟨hl, hx⟩ := hx
  obtain rfl := eq_of_beq hl
  replace hx := Option.bind_eq_some_iff.mp hx
  obtain ⟨⟨y, T⟩, hq, hx⟩ := hx
  obtain rfl := tw_pVS hq
  replace hx := Option.bind_eq_some_iff.mp hx
  obtain ⟨⟨x, T2⟩, hq2, hx⟩ := hx
  obtain rfl := tw_pVS hq2
  replace hx := tw_gS.mp hx
  obtain ⟨hz, hx⟩ := hx
  simp only [Bool.and_eq_true, decide_eq_true_eq] at hz
  obtain rfl := tw_nxS hx
  intro H ls locs cells slots hR hL hlo hc hs
  exact lv_dup2_11 hX hB hd (by rw [tw_v_cat]; exact hz.1) (by rw [tw_v_cat]; exact hz.2) (K H ls locs cells slots hR hL hlo hc hs)
theorem tw_n_ifc {cnd : Jvm.ClassFile.Cond} {off : Int} (C : tw_Cx p s m args meth c mi) (Wd : tw_Wd cA D s) (hf : tw_rk mi ≤ R.frames ∧ 36 * tw_rk mi ≤ R.locals) (hcb : σ.2.2.2.2.1 ≤ R.cells + k0) (hsb : σ.2.2.2.2.2.1 ≤ R.slots + k1) (K : tw_K p l e R s m args below meth c Q base b0 L0 k0 k1 cA D xs σ.1 σ.2.1 σ.2.2.1 σ.2.2.2.1 σ.2.2.2.2) (hd : decode (tw_c mi) pc = .ok (.ifCond cnd off, len)) (hx : tw_do mi pc L S h len (.ifCond cnd off) = some (.inr (.inl σ))) : tw_K p l e R s m args below meth c Q base b0 L0 k0 k1 cA D xs mi pc L S h := by
  obtain ⟨hX, hB, hM, hrt, hown, hlk, hnm, hts⟩ := C
  simp only [tw_do] at hx
  replace hx := tw_gS.mp hx
  obtain ⟨hl, hx⟩ := hx
  obtain rfl := eq_of_beq hl
  replace hx := Option.bind_eq_some_iff.mp hx
  obtain ⟨⟨x, T⟩, hq, hx⟩ := hx
  obtain rfl := tw_pIS hq
  replace hx := tw_toS hx
  obtain ⟨t, ht, hx⟩ := hx
  intro H ls locs cells slots hR hL hlo hc hs
  cases cnd
  · refine lv_if_eq hX hB hd ht (fun q => ?_) (fun q => ?_)
    · rw [if_pos (by simpa [tw_cmp] using q)] at hx
      obtain rfl := tw_nxS hx
      exact K H ls locs cells slots hR hL hlo hc hs
    · rw [if_neg (by simpa [tw_cmp] using q)] at hx
      obtain rfl := tw_nxS hx
      exact K H ls locs cells slots hR hL hlo hc hs
  · refine lv_if_ne hX hB hd ht (fun q => ?_) (fun q => ?_)
    · rw [if_pos (by simpa [tw_cmp] using q)] at hx
      obtain rfl := tw_nxS hx
      exact K H ls locs cells slots hR hL hlo hc hs
    · rw [if_neg (by simpa [tw_cmp] using q)] at hx
      obtain rfl := tw_nxS hx
      exact K H ls locs cells slots hR hL hlo hc hs
  · refine lv_if_lt hX hB hd ht (fun q => ?_) (fun q => ?_)
    · rw [if_pos (by simpa [tw_cmp] using q)] at hx
      obtain rfl := tw_nxS hx
      exact K H ls locs cells slots hR hL hlo hc hs
    · rw [if_neg (by simpa [tw_cmp] using q)] at hx
      obtain rfl := tw_nxS hx
      exact K H ls locs cells slots hR hL hlo hc hs
  · refine lv_if_ge hX hB hd ht (fun q => ?_) (fun q => ?_)
    · rw [if_pos (by simpa [tw_cmp] using q)] at hx
      obtain rfl := tw_nxS hx
      exact K H ls locs cells slots hR hL hlo hc hs
    · rw [if_neg (by simpa [tw_cmp] using q)] at hx
      obtain rfl := tw_nxS hx
      exact K H ls locs cells slots hR hL hlo hc hs
  · refine lv_if_gt hX hB hd ht (fun q => ?_) (fun q => ?_)
    · rw [if_pos (by simpa [tw_cmp] using q)] at hx
      obtain rfl := tw_nxS hx
      exact K H ls locs cells slots hR hL hlo hc hs
    · rw [if_neg (by simpa [tw_cmp] using q)] at hx
      obtain rfl := tw_nxS hx
      exact K H ls locs cells slots hR hL hlo hc hs
  · refine lv_if_le hX hB hd ht (fun q => ?_) (fun q => ?_)
    · rw [if_pos (by simpa [tw_cmp] using q)] at hx
      obtain rfl := tw_nxS hx
      exact K H ls locs cells slots hR hL hlo hc hs
    · rw [if_neg (by simpa [tw_cmp] using q)] at hx
      obtain rfl := tw_nxS hx
      exact K H ls locs cells slots hR hL hlo hc hs
theorem tw_n_ificmp {cnd : Jvm.ClassFile.Cond} {off : Int} (C : tw_Cx p s m args meth c mi) (Wd : tw_Wd cA D s) (hf : tw_rk mi ≤ R.frames ∧ 36 * tw_rk mi ≤ R.locals) (hcb : σ.2.2.2.2.1 ≤ R.cells + k0) (hsb : σ.2.2.2.2.2.1 ≤ R.slots + k1) (K : tw_K p l e R s m args below meth c Q base b0 L0 k0 k1 cA D xs σ.1 σ.2.1 σ.2.2.1 σ.2.2.2.1 σ.2.2.2.2) (hd : decode (tw_c mi) pc = .ok (.if_icmp cnd off, len)) (hx : tw_do mi pc L S h len (.if_icmp cnd off) = some (.inr (.inl σ))) : tw_K p l e R s m args below meth c Q base b0 L0 k0 k1 cA D xs mi pc L S h := by
  obtain ⟨hX, hB, hM, hrt, hown, hlk, hnm, hts⟩ := C
  simp only [tw_do] at hx
  replace hx := tw_gS.mp hx
  obtain ⟨hl, hx⟩ := hx
  obtain rfl := eq_of_beq hl
  replace hx := Option.bind_eq_some_iff.mp hx
  obtain ⟨⟨y, T⟩, hq, hx⟩ := hx
  obtain rfl := tw_pIS hq
  replace hx := Option.bind_eq_some_iff.mp hx
  obtain ⟨⟨x, T2⟩, hq2, hx⟩ := hx
  obtain rfl := tw_pIS hq2
  replace hx := tw_toS hx
  obtain ⟨t, ht, hx⟩ := hx
  intro H ls locs cells slots hR hL hlo hc hs
  cases cnd
  · refine lv_icmp_eq hX hB hd ht (fun q => ?_) (fun q => ?_)
    · rw [if_pos (by simpa [tw_cmp] using q)] at hx
      obtain rfl := tw_nxS hx
      exact K H ls locs cells slots hR hL hlo hc hs
    · rw [if_neg (by simpa [tw_cmp] using q)] at hx
      obtain rfl := tw_nxS hx
      exact K H ls locs cells slots hR hL hlo hc hs
  · refine lv_icmp_ne hX hB hd ht (fun q => ?_) (fun q => ?_)
    · rw [if_pos (by simpa [tw_cmp] using q)] at hx
      obtain rfl := tw_nxS hx
      exact K H ls locs cells slots hR hL hlo hc hs
    · rw [if_neg (by simpa [tw_cmp] using q)] at hx
      obtain rfl := tw_nxS hx
      exact K H ls locs cells slots hR hL hlo hc hs
  · refine lv_icmp_lt hX hB hd ht (fun q => ?_) (fun q => ?_)
    · rw [if_pos (by simpa [tw_cmp] using q)] at hx
      obtain rfl := tw_nxS hx
      exact K H ls locs cells slots hR hL hlo hc hs
    · rw [if_neg (by simpa [tw_cmp] using q)] at hx
      obtain rfl := tw_nxS hx
      exact K H ls locs cells slots hR hL hlo hc hs
  · refine lv_icmp_ge hX hB hd ht (fun q => ?_) (fun q => ?_)
    · rw [if_pos (by simpa [tw_cmp] using q)] at hx
      obtain rfl := tw_nxS hx
      exact K H ls locs cells slots hR hL hlo hc hs
    · rw [if_neg (by simpa [tw_cmp] using q)] at hx
      obtain rfl := tw_nxS hx
      exact K H ls locs cells slots hR hL hlo hc hs
  · refine lv_icmp_gt hX hB hd ht (fun q => ?_) (fun q => ?_)
    · rw [if_pos (by simpa [tw_cmp] using q)] at hx
      obtain rfl := tw_nxS hx
      exact K H ls locs cells slots hR hL hlo hc hs
    · rw [if_neg (by simpa [tw_cmp] using q)] at hx
      obtain rfl := tw_nxS hx
      exact K H ls locs cells slots hR hL hlo hc hs
  · refine lv_icmp_le hX hB hd ht (fun q => ?_) (fun q => ?_)
    · rw [if_pos (by simpa [tw_cmp] using q)] at hx
      obtain rfl := tw_nxS hx
      exact K H ls locs cells slots hR hL hlo hc hs
    · rw [if_neg (by simpa [tw_cmp] using q)] at hx
      obtain rfl := tw_nxS hx
      exact K H ls locs cells slots hR hL hlo hc hs
theorem tw_n_goto {off : Int} (C : tw_Cx p s m args meth c mi) (Wd : tw_Wd cA D s) (hf : tw_rk mi ≤ R.frames ∧ 36 * tw_rk mi ≤ R.locals) (hcb : σ.2.2.2.2.1 ≤ R.cells + k0) (hsb : σ.2.2.2.2.2.1 ≤ R.slots + k1) (K : tw_K p l e R s m args below meth c Q base b0 L0 k0 k1 cA D xs σ.1 σ.2.1 σ.2.2.1 σ.2.2.2.1 σ.2.2.2.2) (hd : decode (tw_c mi) pc = .ok (.goto off, len)) (hx : tw_do mi pc L S h len (.goto off) = some (.inr (.inl σ))) : tw_K p l e R s m args below meth c Q base b0 L0 k0 k1 cA D xs mi pc L S h := by
  obtain ⟨hX, hB, hM, hrt, hown, hlk, hnm, hts⟩ := C
  simp only [tw_do] at hx
  replace hx := tw_gS.mp hx
  obtain ⟨hl, hx⟩ := hx
  obtain rfl := eq_of_beq hl
  replace hx := tw_toS hx
  obtain ⟨t, ht, hx⟩ := hx
  obtain rfl := tw_nxS hx
  intro H ls locs cells slots hR hL hlo hc hs
  exact lv_goto hX hB hd ht (K H ls locs cells slots hR hL hlo hc hs)
theorem tw_n_ifnull {off : Int} (C : tw_Cx p s m args meth c mi) (Wd : tw_Wd cA D s) (hf : tw_rk mi ≤ R.frames ∧ 36 * tw_rk mi ≤ R.locals) (hcb : σ.2.2.2.2.1 ≤ R.cells + k0) (hsb : σ.2.2.2.2.2.1 ≤ R.slots + k1) (K : tw_K p l e R s m args below meth c Q base b0 L0 k0 k1 cA D xs σ.1 σ.2.1 σ.2.2.1 σ.2.2.2.1 σ.2.2.2.2) (hd : decode (tw_c mi) pc = .ok (.ifnull off, len)) (hx : tw_do mi pc L S h len (.ifnull off) = some (.inr (.inl σ))) : tw_K p l e R s m args below meth c Q base b0 L0 k0 k1 cA D xs mi pc L S h := by
  obtain ⟨hX, hB, hM, hrt, hown, hlk, hnm, hts⟩ := C
  simp only [tw_do] at hx
  replace hx := tw_gS.mp hx
  obtain ⟨hl, hx⟩ := hx
  obtain rfl := eq_of_beq hl
  replace hx := Option.bind_eq_some_iff.mp hx
  obtain ⟨⟨x, T⟩, hq, hx⟩ := hx
  obtain rfl := tw_pVS hq
  replace hx := Option.bind_eq_some_iff.mp hx
  obtain ⟨v, hv, hx⟩ := hx
  obtain ⟨he, hz⟩ := tw_asAS hv
  dsimp only at he
  subst he
  intro H ls locs cells slots hR hL hlo hc hs
  rcases hz with rfl | ⟨a, rfl⟩
  · rw [if_pos rfl] at hx
    replace hx := tw_toS hx
    obtain ⟨t, ht, hx⟩ := hx
    obtain rfl := tw_nxS hx
    exact lv_ifnullN hX hB hd ht (K H ls locs cells slots hR hL hlo hc hs)
  · rw [if_neg (fun q => by cases q)] at hx
    obtain rfl := tw_nxS hx
    exact lv_ifnull hX hB hd (K H ls locs cells slots hR hL hlo hc hs)
theorem tw_n_ifnonnull {off : Int} (C : tw_Cx p s m args meth c mi) (Wd : tw_Wd cA D s) (hf : tw_rk mi ≤ R.frames ∧ 36 * tw_rk mi ≤ R.locals) (hcb : σ.2.2.2.2.1 ≤ R.cells + k0) (hsb : σ.2.2.2.2.2.1 ≤ R.slots + k1) (K : tw_K p l e R s m args below meth c Q base b0 L0 k0 k1 cA D xs σ.1 σ.2.1 σ.2.2.1 σ.2.2.2.1 σ.2.2.2.2) (hd : decode (tw_c mi) pc = .ok (.ifnonnull off, len)) (hx : tw_do mi pc L S h len (.ifnonnull off) = some (.inr (.inl σ))) : tw_K p l e R s m args below meth c Q base b0 L0 k0 k1 cA D xs mi pc L S h := by
  obtain ⟨hX, hB, hM, hrt, hown, hlk, hnm, hts⟩ := C
  simp only [tw_do] at hx
  replace hx := tw_gS.mp hx
  obtain ⟨hl, hx⟩ := hx
  obtain rfl := eq_of_beq hl
  replace hx := Option.bind_eq_some_iff.mp hx
  obtain ⟨⟨x, T⟩, hq, hx⟩ := hx
  obtain rfl := tw_pVS hq
  replace hx := Option.bind_eq_some_iff.mp hx
  obtain ⟨v, hv, hx⟩ := hx
  obtain ⟨he, hz⟩ := tw_asAS hv
  dsimp only at he
  subst he
  intro H ls locs cells slots hR hL hlo hc hs
  rcases hz with rfl | ⟨a, rfl⟩
  · rw [if_pos rfl] at hx
    obtain rfl := tw_nxS hx
    exact lv_ifnonnullN hX hB hd (K H ls locs cells slots hR hL hlo hc hs)
  · rw [if_neg (fun q => by cases q)] at hx
    replace hx := tw_toS hx
    obtain ⟨t, ht, hx⟩ := hx
    obtain rfl := tw_nxS hx
    exact lv_ifnonnull hX hB hd ht (K H ls locs cells slots hR hL hlo hc hs)
theorem tw_n_tsw {d lo hi : Int} {offs : Array Int} (C : tw_Cx p s m args meth c mi) (Wd : tw_Wd cA D s) (hf : tw_rk mi ≤ R.frames ∧ 36 * tw_rk mi ≤ R.locals) (hcb : σ.2.2.2.2.1 ≤ R.cells + k0) (hsb : σ.2.2.2.2.2.1 ≤ R.slots + k1) (K : tw_K p l e R s m args below meth c Q base b0 L0 k0 k1 cA D xs σ.1 σ.2.1 σ.2.2.1 σ.2.2.2.1 σ.2.2.2.2) (hd : decode (tw_c mi) pc = .ok (.tableswitch d lo hi offs, len)) (hx : tw_do mi pc L S h len (.tableswitch d lo hi offs) = some (.inr (.inl σ))) : tw_K p l e R s m args below meth c Q base b0 L0 k0 k1 cA D xs mi pc L S h := by
  obtain ⟨hX, hB, hM, hrt, hown, hlk, hnm, hts⟩ := C
  simp only [tw_do] at hx
  replace hx := Option.bind_eq_some_iff.mp hx
  obtain ⟨⟨x, T⟩, hq, hx⟩ := hx
  obtain rfl := tw_pIS hq
  intro H ls locs cells slots hR hL hlo hc hs
  by_cases hq2 : x.toInt < lo ∨ hi < x.toInt
  · rw [if_pos hq2] at hx
    replace hx := tw_toS hx
    obtain ⟨t, ht, hx⟩ := hx
    obtain rfl := tw_nxS hx
    exact lv_tableOut hX hB hd hq2 ht (K H ls locs cells slots hR hL hlo hc hs)
  · rw [if_neg hq2] at hx
    replace hx := Option.bind_eq_some_iff.mp hx
    obtain ⟨off, ho, hx⟩ := hx
    replace hx := tw_toS hx
    obtain ⟨t, ht, hx⟩ := hx
    obtain rfl := tw_nxS hx
    exact lv_tableIn hX hB hd (fun z => hq2 (Or.inl z)) (fun z => hq2 (Or.inr z)) ho ht (K H ls locs cells slots hR hL hlo hc hs)
theorem tw_n_lsw {d : Int} {ps : Array (Int × Int)} (C : tw_Cx p s m args meth c mi) (Wd : tw_Wd cA D s) (hf : tw_rk mi ≤ R.frames ∧ 36 * tw_rk mi ≤ R.locals) (hcb : σ.2.2.2.2.1 ≤ R.cells + k0) (hsb : σ.2.2.2.2.2.1 ≤ R.slots + k1) (K : tw_K p l e R s m args below meth c Q base b0 L0 k0 k1 cA D xs σ.1 σ.2.1 σ.2.2.1 σ.2.2.2.1 σ.2.2.2.2) (hd : decode (tw_c mi) pc = .ok (.lookupswitch d ps, len)) (hx : tw_do mi pc L S h len (.lookupswitch d ps) = some (.inr (.inl σ))) : tw_K p l e R s m args below meth c Q base b0 L0 k0 k1 cA D xs mi pc L S h := by
  obtain ⟨hX, hB, hM, hrt, hown, hlk, hnm, hts⟩ := C
  simp only [tw_do] at hx
  replace hx := tw_gS.mp hx
  obtain ⟨hp, hx⟩ := hx
  replace hx := Option.bind_eq_some_iff.mp hx
  obtain ⟨⟨x, T⟩, hq, hx⟩ := hx
  obtain rfl := tw_pIS hq
  replace hx := tw_toS hx
  obtain ⟨t, ht, hx⟩ := hx
  obtain rfl := tw_nxS hx
  intro H ls locs cells slots hR hL hlo hc hs
  exact lv_lookup hX hB hd hp rfl ht (K H ls locs cells slots hR hL hlo hc hs)
end TWN
end
section
/-! the steps that read and write the heap, and the JDK's own calls -/
theorem tw_fitS {t : FieldType} {v : Value} {base b0 : Nat} (h : tw_fit t v = true) : narrow t (tw_v base b0 v) = tw_v base b0 v ∧ fits t (tw_v base b0 v) = true := by
  cases t <;> cases v <;> first | (simp [tw_fit] at h; done) | exact ⟨rfl, rfl⟩
theorem tw_map_get {fs : List Value} {k : Nat} {v : Value} (base b0 : Nat) (h : fs[k]? = some v) : (fs.map (tw_v base b0))[k]? = some (tw_v base b0 v) := by
  rw [List.getElem?_map, h]; rfl
theorem tw_df_map (base b0 : Nat) (c : Nat) : (tw_df c).map (tw_v base b0) = tw_df c := by
  unfold tw_df
  split <;> rfl
theorem tw_rf_v (base b0 : Nat) (o : Option Nat) : tw_v base b0 (tw_rf o) = va_rf (o.map (tw_ad base b0)) := by cases o <;> rfl
section TWH
variable {p : Program} {l : Launch} {e : Env} {R : Room} {s : State} {m : MethodId} {args : Array Value} {below : List Frame} {meth : Method} {c : Code} {Q : State → Prop} {base b0 L0 k0 k1 : Nat} {cA : Nat → ClassId} {D : va_G} {xs : Nat → Int32} {mi pc len : Nat} {L S : List Value} {h : tw_H} {σ : tw_S}
theorem tw_n_getfield {n : Nat} (C : tw_Cx p s m args meth c mi) (Wd : tw_Wd cA D s) (hf : tw_rk mi ≤ R.frames ∧ 36 * tw_rk mi ≤ R.locals) (hcb : σ.2.2.2.2.1 ≤ R.cells + k0) (hsb : σ.2.2.2.2.2.1 ≤ R.slots + k1) (K : tw_K p l e R s m args below meth c Q base b0 L0 k0 k1 cA D xs σ.1 σ.2.1 σ.2.2.1 σ.2.2.2.1 σ.2.2.2.2) (hd : decode (tw_c mi) pc = .ok (.getfield n, len)) (hx : tw_do mi pc L S h len (.getfield n) = some (.inr (.inl σ))) : tw_K p l e R s m args below meth c Q base b0 L0 k0 k1 cA D xs mi pc L S h := by
  obtain ⟨hX, hB, hM, hrt, hown, hlk, hnm, hts⟩ := C
  simp only [tw_do] at hx
  replace hx := tw_gS.mp hx
  obtain ⟨hl, hx⟩ := hx
  obtain rfl := eq_of_beq hl
  replace hx := Option.bind_eq_some_iff.mp hx
  obtain ⟨q, hfe, hx⟩ := hx
  replace hx := Option.bind_eq_some_iff.mp hx
  obtain ⟨⟨a, T_a⟩, hq, hx⟩ := hx
  obtain rfl := tw_pRS hq
  dsimp only at hx
  replace hx := tw_gS.mp hx
  obtain ⟨hz, hx⟩ := hx
  have hz := of_decide_eq_true hz
  split at hx
  · rename_i c2 fs hcell
    replace hx := tw_gS.mp hx
    obtain ⟨hm, hx⟩ := hx
    have hm := of_decide_eq_true hm
    replace hx := Option.bind_eq_some_iff.mp hx
    obtain ⟨v, hv, hx⟩ := hx
    obtain rfl := tw_nxS hx
    obtain ⟨f1, f2, f3⟩ := tw_fok hfe hm
    intro H ls locs cells slots hR hL hlo hc hs
    obtain ⟨hat, -⟩ := hR.at hz hcell
    exact va_get (D := D) (cl := tw_cl) (ws := [(tw_ad base b0 a, .inr (c2, fs.map (tw_v base b0)))]) (tys := tw_tys cA) hX hB hts (fun w hw => tw_gt_of (tw_lay _ f1 w hw) (by obtain ⟨k, -, rfl⟩ := List.mem_map.mp hw; unfold u_lay; split <;> rfl)) hown Wd.1 (fun k q hk => by
      cases k with
      | zero => cases hk; exact hat
      | succ k => cases hk) 0 rfl (tw_cls f1) _ f2 (hts _ (tw_gt_of f3 rfl)) (fun _ z => z) (tw_map_get base b0 hv) hd (K H ls locs cells slots hR hL hlo hc hs)
  · cases hx
theorem tw_n_putfield {n : Nat} (C : tw_Cx p s m args meth c mi) (Wd : tw_Wd cA D s) (hf : tw_rk mi ≤ R.frames ∧ 36 * tw_rk mi ≤ R.locals) (hcb : σ.2.2.2.2.1 ≤ R.cells + k0) (hsb : σ.2.2.2.2.2.1 ≤ R.slots + k1) (K : tw_K p l e R s m args below meth c Q base b0 L0 k0 k1 cA D xs σ.1 σ.2.1 σ.2.2.1 σ.2.2.2.1 σ.2.2.2.2) (hd : decode (tw_c mi) pc = .ok (.putfield n, len)) (hx : tw_do mi pc L S h len (.putfield n) = some (.inr (.inl σ))) : tw_K p l e R s m args below meth c Q base b0 L0 k0 k1 cA D xs mi pc L S h := by
  obtain ⟨hX, hB, hM, hrt, hown, hlk, hnm, hts⟩ := C
  simp only [tw_do] at hx
  replace hx := tw_gS.mp hx
  obtain ⟨hl, hx⟩ := hx
  obtain rfl := eq_of_beq hl
  replace hx := Option.bind_eq_some_iff.mp hx
  obtain ⟨q, hfe, hx⟩ := hx
  replace hx := Option.bind_eq_some_iff.mp hx
  obtain ⟨⟨v, T_v⟩, hq, hx⟩ := hx
  obtain rfl := tw_pVS hq
  dsimp only at hx
  replace hx := Option.bind_eq_some_iff.mp hx
  obtain ⟨⟨a, T_a⟩, hq, hx⟩ := hx
  obtain rfl := tw_pRS hq
  dsimp only at hx
  replace hx := tw_gS.mp hx
  obtain ⟨hz, hx⟩ := hx
  have hz := of_decide_eq_true hz
  split at hx
  · rename_i c2 fs hcell
    replace hx := tw_gS.mp hx
    obtain ⟨hm, hx⟩ := hx
    simp only [Bool.and_eq_true, decide_eq_true_eq] at hm
    obtain ⟨hm, hft, hpk, hln⟩ := hm
    obtain rfl := tw_nxS hx
    obtain ⟨f1, f2, f3⟩ := tw_fok hfe hm
    obtain ⟨n1, n2⟩ := tw_fitS (base := base) (b0 := b0) hft
    obtain ⟨j, rfl⟩ : ∃ j, a = j + 1 := ⟨a - 1, by omega⟩
    intro H ls locs cells slots hR hL hlo hc hs
    obtain ⟨hat, hbs⟩ := hR.at hz hcell
    have hin : ∀ w ∈ u_ws (tw_R c2) (tw_T c2) (tw_N c2), w ∈ tw_gt := fun w hw => tw_gt_of (tw_lay _ f1 w hw) (by obtain ⟨k, -, rfl⟩ := List.mem_map.mp hw; unfold u_lay; split <;> rfl)
    have hlink := hts _ (tw_gt_of f3 rfl)
    have hKn := Wd.1.1 c2 _ (tw_cls f1)
    have hap : ∀ x y, x < tw_N c2 → y < tw_N c2 → x ≠ y → (D.2 c2) x ≠ (D.2 c2) y := va_apart (own := tw_R (tw_ow mi)) hts hin (tw_t c2) (tw_tk c2 f1) (tw_nm c2 f1) Wd.1 (tw_cls f1)
    obtain ⟨r, h1, cell, q1, q2, q3, q4⟩ := hat
    obtain rfl : r = (tw_R c2, tw_T c2, tw_N c2) := Option.some.inj (h1.symm.trans (tw_cls f1))
    obtain ⟨hS, hfc, kC, hkC, hkind⟩ := hKn
    obtain ⟨cf, kf, fi, f, hi, hsl⟩ := hS _ f2
    have hlay := hts _ (hin _ (u_in_lay f2))
    have hst := (u_facts hfc hkC (u_lays hts hin f2) hi).1
    have fin : ∀ H' : Heap, H'[tw_ad base b0 (j + 1)]? = some (cell.setSlot (D.2 c2 q.2.2.1) (tw_v base b0 v)) → H'.size = H.size → (∀ q, q ≠ tw_ad base b0 (j + 1) → H'[q]? = H[q]?) → tw_Rel base b0 L0 cA D xs (tw_set h (j + 1) (.inr (.inr (c2, fs.set q.2.2.1 v)))) s H' := fun H' e1 e2 e3 =>
      hR.set e2 ⟨_, tw_cls f1, t_OB.to (V := updV (vp_V (fs.map (tw_v base b0))) q.2.2.1 (tw_v base b0 v)) ⟨_, e1, q2, q3, t_set q4 hap f2 _⟩ (fun i _ => by rw [vp_updV_set (by simpa using hln)]; rw [List.map_set])⟩ e3
    have hlo' : ∀ z ∈ locs ++ [⟨tw_ad base b0 (j + 1), D.2 c2 q.2.2.1⟩], base ≤ z.base := fun z hz' => by
      rcases List.mem_append.mp hz' with z1 | z1
      · exact hlo z z1
      · obtain rfl := List.mem_singleton.mp z1
        exact hbs
    by_cases hfin : (tw_T c2 q.2.2.1).2.2.2 = true
    · unfold tw_pok at hpk
      rw [hfin] at hpk
      simp only [Bool.or_eq_true, Bool.and_eq_true, decide_eq_true_eq] at hpk
      obtain ⟨p1, p2⟩ : (tw_y mi).name = "<init>" ∧ (tw_T c2 q.2.2.1).1 = tw_R (tw_ow mi) := by
        rcases hpk with z | z
        · cases z
        · exact z
      unfold u_lay at hlay
      rw [if_pos hfin] at hlay
      have hcf : m.cls = cf := by
        obtain ⟨_, _, c', _, _, _, -, -, hf', -, -, -, hown2, -⟩ := Cond.laysFinal_spec hlay
        have e1 : c' = cf := by have := hi.symm.trans hf'; simp at this; exact this.1.symm
        rw [p2] at hown2
        rw [← e1]; exact Option.some.inj (hown.symm.trans hown2)
      have h6 := u_fits hfc hkC hkind (Or.inr hlay) hi (tw_tk c2 f1 _ f2) n1 n2
      refine W.putFinK hX hB hown hlink hi hst hcf (hnm p1) (by rw [q2]; exact h6) q1 q3 (by rw [hsl]; exact k2_hasslot (q4 _ f2)) rfl rfl hd fun H' e1 e2 e3 => ?_
      rw [hsl] at e1 ⊢
      exact K H' ls _ cells slots (fin H' e1 e2 e3) hL hlo' hc hs
    · unfold u_lay at hlay
      rw [if_neg hfin] at hlay
      have h6 := u_store hfc hkC hkind hlay hi (tw_tk c2 f1 _ f2) n1 n2
      refine W.putK hX hB (f := f) ⟨hown, hlink, ⟨_, _, _, hi⟩, hst⟩ (by rw [q2]; exact h6) q1 q3 (by rw [hsl]; exact k2_hasslot (q4 _ f2)) rfl rfl hd fun H' e1 e2 e3 => ?_
      rw [hsl] at e1 ⊢
      exact K H' ls _ cells slots (fin H' e1 e2 e3) hL hlo' hc hs
  · cases hx
theorem tw_n_iaload (C : tw_Cx p s m args meth c mi) (Wd : tw_Wd cA D s) (hf : tw_rk mi ≤ R.frames ∧ 36 * tw_rk mi ≤ R.locals) (hcb : σ.2.2.2.2.1 ≤ R.cells + k0) (hsb : σ.2.2.2.2.2.1 ≤ R.slots + k1) (K : tw_K p l e R s m args below meth c Q base b0 L0 k0 k1 cA D xs σ.1 σ.2.1 σ.2.2.1 σ.2.2.2.1 σ.2.2.2.2) (hd : decode (tw_c mi) pc = .ok (.iaload, len)) (hx : tw_do mi pc L S h len (.iaload) = some (.inr (.inl σ))) : tw_K p l e R s m args below meth c Q base b0 L0 k0 k1 cA D xs mi pc L S h := by
  obtain ⟨hX, hB, hM, hrt, hown, hlk, hnm, hts⟩ := C
  simp only [tw_do] at hx
  replace hx := tw_gS.mp hx
  obtain ⟨hl, hx⟩ := hx
  obtain rfl := eq_of_beq hl
  replace hx := Option.bind_eq_some_iff.mp hx
  obtain ⟨⟨i, T_i⟩, hq, hx⟩ := hx
  obtain rfl := tw_pIS hq
  dsimp only at hx
  replace hx := Option.bind_eq_some_iff.mp hx
  obtain ⟨⟨a, T_a⟩, hq, hx⟩ := hx
  obtain rfl := tw_pRS hq
  dsimp only at hx
  split at hx
  · rename_i n f hcell
    replace hx := tw_gS.mp hx
    obtain ⟨hm, hx⟩ := hx
    obtain ⟨hv1, hv2⟩ := tw_viS hm
    obtain rfl := tw_nxS hx
    intro H ls locs cells slots hR hL hlo hc hs
    by_cases hz : a = 0
    · subst hz
      obtain ⟨r1, r2, r3, ⟨scr, g1, g2, g3, g4, g5⟩, r5, r6⟩ := id hR
      rw [r5] at hcell
      cases hcell
      exact W.iald (v := .int (xs i.toNatClampNeg)) hX hB g1 g2 g3 (by rw [g4]; exact hv1) (g5 _ hv2) rfl rfl hd (K H ls locs cells slots hR hL hlo hc hs)
    · obtain ⟨hat, -⟩ := hR.at hz hcell
      exact va_iald (D := D) (cl := tw_cl) (ws := [(tw_ad base b0 a, .inl (cA 0, n, .inl f))]) hX hB Wd.1 (fun k q hk => by
        cases k with
        | zero => cases hk; exact hat
        | succ k => cases hk) 0 0 rfl rfl hv1 hd (K H ls locs cells slots hR hL hlo hc hs)
  · cases hx
theorem tw_n_iastore (C : tw_Cx p s m args meth c mi) (Wd : tw_Wd cA D s) (hf : tw_rk mi ≤ R.frames ∧ 36 * tw_rk mi ≤ R.locals) (hcb : σ.2.2.2.2.1 ≤ R.cells + k0) (hsb : σ.2.2.2.2.2.1 ≤ R.slots + k1) (K : tw_K p l e R s m args below meth c Q base b0 L0 k0 k1 cA D xs σ.1 σ.2.1 σ.2.2.1 σ.2.2.2.1 σ.2.2.2.2) (hd : decode (tw_c mi) pc = .ok (.iastore, len)) (hx : tw_do mi pc L S h len (.iastore) = some (.inr (.inl σ))) : tw_K p l e R s m args below meth c Q base b0 L0 k0 k1 cA D xs mi pc L S h := by
  obtain ⟨hX, hB, hM, hrt, hown, hlk, hnm, hts⟩ := C
  simp only [tw_do] at hx
  replace hx := tw_gS.mp hx
  obtain ⟨hl, hx⟩ := hx
  obtain rfl := eq_of_beq hl
  replace hx := Option.bind_eq_some_iff.mp hx
  obtain ⟨⟨x, T_x⟩, hq, hx⟩ := hx
  obtain rfl := tw_pIS hq
  dsimp only at hx
  replace hx := Option.bind_eq_some_iff.mp hx
  obtain ⟨⟨i, T_i⟩, hq, hx⟩ := hx
  obtain rfl := tw_pIS hq
  dsimp only at hx
  replace hx := Option.bind_eq_some_iff.mp hx
  obtain ⟨⟨a, T_a⟩, hq, hx⟩ := hx
  obtain rfl := tw_pRS hq
  dsimp only at hx
  replace hx := tw_gS.mp hx
  obtain ⟨hz, hx⟩ := hx
  have hz := of_decide_eq_true hz
  split at hx
  · rename_i n f hcell
    replace hx := tw_gS.mp hx
    obtain ⟨hm, hx⟩ := hx
    obtain ⟨hv1, hv2⟩ := tw_viS hm
    obtain rfl := tw_nxS hx
    obtain ⟨j, rfl⟩ : ∃ j, a = j + 1 := ⟨a - 1, by omega⟩
    intro H ls locs cells slots hR hL hlo hc hs
    obtain ⟨hat, hbs⟩ := hR.at hz hcell
    have hlo' : ∀ z ∈ locs ++ [⟨tw_ad base b0 (j + 1), i.toNatClampNeg⟩], base ≤ z.base := fun z hz' => by
      rcases List.mem_append.mp hz' with z1 | z1
      · exact hlo z z1
      · obtain rfl := List.mem_singleton.mp z1
        exact hbs
    refine W.iast hX hB (show H[tw_ad base b0 (j + 1)]? = some (vp_cell (cA 0) (n, .inl f)) from hat) ((Wd.1.2 0 _ rfl).1 n (fun j => .int (f j))) (fun q => by cases q) (by show ¬ (i < 0 ∨ (arrV _ _ _).slots.size ≤ _); rw [arrV_size]; exact hv1) rfl rfl hd fun H1 e1 z oq => ?_
    refine K H1 ls _ cells slots (hR.set z ?_ oq) hL hlo' hc hs
    show H1[base + j]? = some (vp_cell _ _)
    refine Eq.trans e1 ?_
    rw [vp_cell_i, vp_cell_i, arrV_store]
    congr 2
    funext q
    by_cases hq : q = i.toNatClampNeg
    · subst hq
      simp [updV, upd]
    · simp [updV, upd, hq]
  · cases hx
theorem tw_n_aaload (C : tw_Cx p s m args meth c mi) (Wd : tw_Wd cA D s) (hf : tw_rk mi ≤ R.frames ∧ 36 * tw_rk mi ≤ R.locals) (hcb : σ.2.2.2.2.1 ≤ R.cells + k0) (hsb : σ.2.2.2.2.2.1 ≤ R.slots + k1) (K : tw_K p l e R s m args below meth c Q base b0 L0 k0 k1 cA D xs σ.1 σ.2.1 σ.2.2.1 σ.2.2.2.1 σ.2.2.2.2) (hd : decode (tw_c mi) pc = .ok (.aaload, len)) (hx : tw_do mi pc L S h len (.aaload) = some (.inr (.inl σ))) : tw_K p l e R s m args below meth c Q base b0 L0 k0 k1 cA D xs mi pc L S h := by
  obtain ⟨hX, hB, hM, hrt, hown, hlk, hnm, hts⟩ := C
  simp only [tw_do] at hx
  replace hx := tw_gS.mp hx
  obtain ⟨hl, hx⟩ := hx
  obtain rfl := eq_of_beq hl
  replace hx := Option.bind_eq_some_iff.mp hx
  obtain ⟨⟨i, T_i⟩, hq, hx⟩ := hx
  obtain rfl := tw_pIS hq
  dsimp only at hx
  replace hx := Option.bind_eq_some_iff.mp hx
  obtain ⟨⟨a, T_a⟩, hq, hx⟩ := hx
  obtain rfl := tw_pRS hq
  dsimp only at hx
  replace hx := tw_gS.mp hx
  obtain ⟨hz, hx⟩ := hx
  have hz := of_decide_eq_true hz
  split at hx
  · rename_i t n f hcell
    replace hx := tw_gS.mp hx
    obtain ⟨hm, hx⟩ := hx
    simp only [Bool.and_eq_true, Bool.or_eq_true, decide_eq_true_eq] at hm
    obtain ⟨hm, hk⟩ := hm
    obtain ⟨hv1, hv2⟩ := tw_viS hm
    obtain rfl := tw_nxS hx
    obtain ⟨E, hE, ht⟩ : ∃ E, E = tw_aR t ∧ (tw_tys cA)[t]? = some (cA t, .object E) := by
      rcases hk with rfl | rfl
      · exact ⟨_, rfl, rfl⟩
      · exact ⟨_, rfl, rfl⟩
    intro H ls locs cells slots hR hL hlo hc hs
    obtain ⟨hat, -⟩ := hR.at hz hcell
    refine va_aldq (D := D) (cl := tw_cl) (ws := [(tw_ad base b0 a, .inl (cA t, n, .inr (.inr (.inr (.inr fun j => (f j).map (tw_ad base b0))))))]) (tys := tw_tys cA) hX hB Wd.1 (fun k q hk => by
      cases k with
      | zero => cases hk; exact hat
      | succ k => cases hk) 0 t rfl ht hv1 hd ?_
    rw [← tw_rf_v]
    exact K H ls locs cells slots hR hL hlo hc hs
  · cases hx
theorem tw_n_aastore (C : tw_Cx p s m args meth c mi) (Wd : tw_Wd cA D s) (hf : tw_rk mi ≤ R.frames ∧ 36 * tw_rk mi ≤ R.locals) (hcb : σ.2.2.2.2.1 ≤ R.cells + k0) (hsb : σ.2.2.2.2.2.1 ≤ R.slots + k1) (K : tw_K p l e R s m args below meth c Q base b0 L0 k0 k1 cA D xs σ.1 σ.2.1 σ.2.2.1 σ.2.2.2.1 σ.2.2.2.2) (hd : decode (tw_c mi) pc = .ok (.aastore, len)) (hx : tw_do mi pc L S h len (.aastore) = some (.inr (.inl σ))) : tw_K p l e R s m args below meth c Q base b0 L0 k0 k1 cA D xs mi pc L S h := by
  obtain ⟨hX, hB, hM, hrt, hown, hlk, hnm, hts⟩ := C
  simp only [tw_do] at hx
  replace hx := tw_gS.mp hx
  obtain ⟨hl, hx⟩ := hx
  obtain rfl := eq_of_beq hl
  replace hx := Option.bind_eq_some_iff.mp hx
  obtain ⟨⟨v, T_v⟩, hq, hx⟩ := hx
  obtain rfl := tw_pVS hq
  dsimp only at hx
  replace hx := Option.bind_eq_some_iff.mp hx
  obtain ⟨⟨i, T_i⟩, hq, hx⟩ := hx
  obtain rfl := tw_pIS hq
  dsimp only at hx
  replace hx := Option.bind_eq_some_iff.mp hx
  obtain ⟨⟨a, T_a⟩, hq, hx⟩ := hx
  obtain rfl := tw_pRS hq
  dsimp only at hx
  replace hx := tw_gS.mp hx
  obtain ⟨hz, hx⟩ := hx
  simp only [Bool.and_eq_true, decide_eq_true_eq] at hz
  obtain ⟨hz, hv0⟩ := hz
  split at hx
  · rename_i t n f hcell
    replace hx := tw_gS.mp hx
    obtain ⟨hm, hx⟩ := hx
    simp only [Bool.and_eq_true, Bool.or_eq_true, decide_eq_true_eq] at hm
    obtain ⟨hm, hk⟩ := hm
    obtain ⟨hv1, hv2⟩ := tw_viS hm
    replace hx := Option.bind_eq_some_iff.mp hx
    obtain ⟨o, ho, hx⟩ := hx
    obtain rfl := tw_nxS hx
    obtain ⟨E, hE, ht⟩ : ∃ E, E = tw_aR t ∧ (tw_tys cA)[t]? = some (cA t, .object E) := by
      rcases hk with rfl | rfl
      · exact ⟨_, rfl, rfl⟩
      · exact ⟨_, rfl, rfl⟩
    obtain ⟨j, rfl⟩ : ∃ j, a = j + 1 := ⟨a - 1, by omega⟩
    intro H ls locs cells slots hR hL hlo hc hs
    obtain ⟨hat, hbs⟩ := hR.at hz hcell
    have hlo' : ∀ z ∈ locs ++ [⟨tw_ad base b0 (j + 1), i.toNatClampNeg⟩], base ≤ z.base := fun z hz' => by
      rcases List.mem_append.mp hz' with z1 | z1
      · exact hlo z z1
      · obtain rfl := List.mem_singleton.mp z1
        exact hbs
    have hcl : H[tw_ad base b0 (j + 1)]? = some (vp_cell (cA t) (n, .inr (.inr (.inr (.inr fun j => (f j).map (tw_ad base b0)))))) := hat
    have fin : ∀ H1 : Heap, H1[tw_ad base b0 (j + 1)]? = some ((vp_cell (cA t) (n, .inr (.inr (.inr (.inr fun j => (f j).map (tw_ad base b0)))))).setSlot i.toNatClampNeg (va_rf (o.map (tw_ad base b0)))) → H1.size = H.size → (∀ q, q ≠ tw_ad base b0 (j + 1) → H1[q]? = H[q]?) → tw_Rel base b0 L0 cA D xs (tw_set h (j + 1) (.inr (.inl (t, n, va_up f i.toNatClampNeg o)))) s H1 := fun H1 e1 z oq => by
      refine hR.set z ?_ oq
      show H1[base + j]? = some (vp_cell _ _)
      refine Eq.trans e1 ?_
      rw [vp_cell_q, vp_cell_q, arrV_store]
      congr 2
      funext q
      by_cases hq : q = i.toNatClampNeg
      · subst hq
        simp [updV, va_up]
      · simp [updV, va_up, hq]
    unfold tw_el at ho
    split at ho
    · cases ho
      refine va_WaastN (C := E) hX hB hcl ((Wd.1.2 t _ ht).1 n (fun j => va_rf ((f j).map (tw_ad base b0)))) (fun h => by cases h) (by show ¬ (i < 0 ∨ (arrV _ _ _).slots.size ≤ _); rw [arrV_size]; exact hv1) rfl rfl hd fun H1 e1 z oq => ?_
      exact K H1 ls _ cells slots (fin H1 e1 z oq) hL hlo' hc hs
    · rename_i b
      split at ho
      · rename_i c2 fs hb
        split at ho
        · rename_i hct
          cases ho
          have hb0 : b ≠ 0 := fun q => hv0 (by rw [q])
          obtain ⟨hbt, -⟩ := hR.at hb0 hb
          have hlt : i.toNatClampNeg < n := hv2
          have h0 : ¬ i < 0 := fun q => hv1 (Or.inl q)
          obtain ⟨r', hr', cellV, g1, g2, g3, -⟩ := hbt
          obtain ⟨hc12, rfl⟩ := tw_clt hr'
          have hcls := (Wd.1.1 c2 _ hr').2
          obtain ⟨kA, comp, k1', k2', k3', -⟩ := (Wd.1.2 t _ ht).2
          obtain ⟨kE, hkE, -⟩ := Vm.findClass_spec k3'
          obtain ⟨kC, hkC, -⟩ := hcls.2
          have hasg : s.vm.assignable (D.1 c2) comp = true := by
            have same : tw_R c2 = E → s.vm.assignable (D.1 c2) comp = true := fun q => by
              have e1 : comp = D.1 c2 := by
                have := hcls.1
                rw [q] at this
                exact Option.some.inj (k3'.symm.trans this)
              rw [e1]
              exact va_assign hcls
            have up : va_Nw (.castable (tw_R c2) E) s → s.vm.assignable (D.1 c2) comp = true := fun q => vb_asgC q comp (D.1 c2) k3' hcls.1
            rcases hct with ⟨q1, q2⟩ | ⟨q1, q2⟩
            · subst q1; subst q2; exact same hE.symm
            · subst q1
              rcases q2 with q2 | q2 | q2
              · subst q2; exact same hE.symm
              · subst q2
                rw [hE] at up
                exact up (Wd.2.2.2 _ tw_w_casB rfl)
              · subst q2
                rw [hE] at up
                exact up (Wd.2.2.2 _ tw_w_casS rfl)
          refine W.aast hX hB hcl (fun q h => by cases h) (fun h => by cases h) k1' k2' rfl hkE ⟨h0, by show _ < (arrV _ _ _).slots.size; rw [arrV_size]; exact hlt⟩ g1 (fun q h => by rw [g3] at h; cases h) (by rw [g2]; exact hkC) (by rw [g2]; exact hasg) rfl rfl hd fun H1 e1 z oq => ?_
          exact K H1 ls _ cells slots (fin H1 e1 z oq) hL hlo' hc hs
        · cases ho
      · cases ho
    · cases ho
  · cases hx
theorem tw_n_alen (C : tw_Cx p s m args meth c mi) (Wd : tw_Wd cA D s) (hf : tw_rk mi ≤ R.frames ∧ 36 * tw_rk mi ≤ R.locals) (hcb : σ.2.2.2.2.1 ≤ R.cells + k0) (hsb : σ.2.2.2.2.2.1 ≤ R.slots + k1) (K : tw_K p l e R s m args below meth c Q base b0 L0 k0 k1 cA D xs σ.1 σ.2.1 σ.2.2.1 σ.2.2.2.1 σ.2.2.2.2) (hd : decode (tw_c mi) pc = .ok (.arraylength, len)) (hx : tw_do mi pc L S h len (.arraylength) = some (.inr (.inl σ))) : tw_K p l e R s m args below meth c Q base b0 L0 k0 k1 cA D xs mi pc L S h := by
  obtain ⟨hX, hB, hM, hrt, hown, hlk, hnm, hts⟩ := C
  simp only [tw_do] at hx
  replace hx := tw_gS.mp hx
  obtain ⟨hl, hx⟩ := hx
  obtain rfl := eq_of_beq hl
  replace hx := Option.bind_eq_some_iff.mp hx
  obtain ⟨⟨a, T_a⟩, hq, hx⟩ := hx
  obtain rfl := tw_pRS hq
  dsimp only at hx
  split at hx
  · rename_i n f hcell
    obtain rfl := tw_nxS hx
    intro H ls locs cells slots hR hL hlo hc hs
    by_cases hz : a = 0
    · subst hz
      obtain ⟨r1, r2, r3, ⟨scr, g1, g2, g3, g4, g5⟩, r5, r6⟩ := id hR
      rw [r5] at hcell
      cases hcell
      exact W.alen (n := Int32.ofNat L0) hX hB g1 g2 (by rw [g4] <;> rfl) rfl rfl hd (K H ls locs cells slots hR hL hlo hc hs)
    · obtain ⟨hat, -⟩ := hR.at hz hcell
      exact va_alen (D := D) (cl := tw_cl) (ws := [(tw_ad base b0 a, .inl (cA 0, n, .inl f))]) hX hB Wd.1 (fun k q hk => by
        cases k with
        | zero => cases hk; exact hat
        | succ k => cases hk) 0 0 rfl rfl rfl hd (K H ls locs cells slots hR hL hlo hc hs)
  · rename_i t n f hcell
    replace hx := tw_gS.mp hx
    obtain ⟨hm, hx⟩ := hx
    simp only [Bool.and_eq_true, Bool.or_eq_true, decide_eq_true_eq] at hm
    obtain ⟨hz, hk⟩ := hm
    obtain rfl := tw_nxS hx
    obtain ⟨E, hE, ht⟩ : ∃ E, E = tw_aR t ∧ (tw_tys cA)[t]? = some (cA t, .object E) := by
      rcases hk with rfl | rfl
      · exact ⟨_, rfl, rfl⟩
      · exact ⟨_, rfl, rfl⟩
    intro H ls locs cells slots hR hL hlo hc hs
    obtain ⟨hat, -⟩ := hR.at hz hcell
    exact va_alen (D := D) (cl := tw_cl) (ws := [(tw_ad base b0 a, .inl (cA t, n, .inr (.inr (.inr (.inr fun j => (f j).map (tw_ad base b0))))))]) hX hB Wd.1 (fun k q hk => by
      cases k with
      | zero => cases hk; exact hat
      | succ k => cases hk) 0 t rfl ht rfl hd (K H ls locs cells slots hR hL hlo hc hs)
  · cases hx
theorem tw_n_new {n : Nat} (C : tw_Cx p s m args meth c mi) (Wd : tw_Wd cA D s) (hf : tw_rk mi ≤ R.frames ∧ 36 * tw_rk mi ≤ R.locals) (hcb : σ.2.2.2.2.1 ≤ R.cells + k0) (hsb : σ.2.2.2.2.2.1 ≤ R.slots + k1) (K : tw_K p l e R s m args below meth c Q base b0 L0 k0 k1 cA D xs σ.1 σ.2.1 σ.2.2.1 σ.2.2.2.1 σ.2.2.2.2) (hd : decode (tw_c mi) pc = .ok (.new n, len)) (hx : tw_do mi pc L S h len (.new n) = some (.inr (.inl σ))) : tw_K p l e R s m args below meth c Q base b0 L0 k0 k1 cA D xs mi pc L S h := by
  obtain ⟨hX, hB, hM, hrt, hown, hlk, hnm, hts⟩ := C
  simp only [tw_do] at hx
  replace hx := tw_gS.mp hx
  obtain ⟨hl, hx⟩ := hx
  obtain rfl := eq_of_beq hl
  replace hx := Option.bind_eq_some_iff.mp hx
  obtain ⟨q, hnw, hx⟩ := hx
  obtain rfl := tw_nxS hx
  obtain ⟨f1, f2, f3, f4⟩ := tw_nok hnw
  intro H ls locs cells slots hR hL hlo hc hs
  have hKn := Wd.1.1 q.2.1 _ (tw_cls f1)
  have hin : ∀ w ∈ u_ws (tw_R q.2.1) (tw_T q.2.1) (tw_N q.2.1), w ∈ tw_gt := fun w hw => tw_gt_of (tw_lay _ f1 w hw) (by obtain ⟨k, -, rfl⟩ := List.mem_map.mp hw; unfold u_lay; split <;> rfl)
  have hcb : h.1 + 1 ≤ R.cells + k0 := hcb
  have hsb : h.2.1 + tw_N q.2.1 ≤ R.slots + k1 := hsb
  refine W.newcK hX hB hown (hts _ (tw_gt_of f2 rfl)) (hts _ (tw_gt_of f3 rfl)) (hts _ (tw_gt_of f4 rfl)) rfl hd (by omega) (by omega) hKn.2.1 rfl fun H1 kC hkC e1 z1 o1 => ?_
  obtain ⟨hR', ha⟩ := hR.new (x := .inr (.inr (q.2.1, tw_df q.2.1))) (n := tw_N q.2.1) z1 (by
    show va_at D tw_cl (H.size, .inr (q.2.1, (tw_df q.2.1).map (tw_v base b0))) H1
    rw [tw_df_map]
    exact ⟨_, tw_cls f1, (u_born (tw_t q.2.1) hts hin hKn hkC e1 (tw_tk _ f1)).to (fun k hk => tw_dk _ f1 k hk)⟩) o1
  rw [← ha]
  exact K H1 ls locs (cells + 1) (slots + tw_N q.2.1) hR' hL hlo (by show cells + 1 + k0 = h.1 + 1; omega) (by show slots + tw_N q.2.1 + k1 = h.2.1 + tw_N q.2.1; omega)
theorem tw_n_newarray (C : tw_Cx p s m args meth c mi) (Wd : tw_Wd cA D s) (hf : tw_rk mi ≤ R.frames ∧ 36 * tw_rk mi ≤ R.locals) (hcb : σ.2.2.2.2.1 ≤ R.cells + k0) (hsb : σ.2.2.2.2.2.1 ≤ R.slots + k1) (K : tw_K p l e R s m args below meth c Q base b0 L0 k0 k1 cA D xs σ.1 σ.2.1 σ.2.2.1 σ.2.2.2.1 σ.2.2.2.2) (hd : decode (tw_c mi) pc = .ok (.newarray .int, len)) (hx : tw_do mi pc L S h len (.newarray .int) = some (.inr (.inl σ))) : tw_K p l e R s m args below meth c Q base b0 L0 k0 k1 cA D xs mi pc L S h := by
  obtain ⟨hX, hB, hM, hrt, hown, hlk, hnm, hts⟩ := C
  simp only [tw_do] at hx
  replace hx := tw_gS.mp hx
  obtain ⟨hl, hx⟩ := hx
  obtain rfl := eq_of_beq hl
  replace hx := Option.bind_eq_some_iff.mp hx
  obtain ⟨⟨n, T_n⟩, hq, hx⟩ := hx
  obtain rfl := tw_pIS hq
  dsimp only at hx
  replace hx := tw_gS.mp hx
  obtain ⟨hz, hx⟩ := hx
  simp only [Bool.and_eq_true, decide_eq_true_eq] at hz
  obtain ⟨hz1, hz2⟩ := hz
  have hz2 : n.toNatClampNeg ≤ 1000 := hz2
  obtain rfl := tw_nxS hx
  intro H ls locs cells slots hR hL hlo hc hs
  have hcb : h.1 + 1 ≤ R.cells + k0 := hcb
  have hsb : h.2.1 + n.toNatClampNeg ≤ R.slots + k1 := hsb
  refine va_newaK (atype := .int) hX hB (hts (.arrayClass .int) (tw_gt_of tw_w_arrI rfl)) rfl hd rfl (Int32.not_lt.mpr hz1) rfl (by show n.toNatClampNeg * 4 ≤ 536870912; omega) (by omega) (by show slots + n.toNatClampNeg ≤ R.slots; omega) rfl fun H1 cI e1 z1 o1 hAr hNm => ?_
  have hcI : cI = cA 0 := Option.some.inj (hNm.symm.trans (Wd.1.2 0 _ rfl).2)
  subst hcI
  obtain ⟨hR', ha⟩ := hR.new (x := .inl (n.toNatClampNeg, fun _ => 0)) (n := n.toNatClampNeg) z1 e1 o1
  rw [← ha]
  exact K H1 ls locs (cells + 1) (slots + n.toNatClampNeg) hR' hL hlo (by show cells + 1 + k0 = h.1 + 1; omega) (by show slots + n.toNatClampNeg + k1 = h.2.1 + n.toNatClampNeg; omega)
theorem tw_n_anewarray {i : Nat} (C : tw_Cx p s m args meth c mi) (Wd : tw_Wd cA D s) (hf : tw_rk mi ≤ R.frames ∧ 36 * tw_rk mi ≤ R.locals) (hcb : σ.2.2.2.2.1 ≤ R.cells + k0) (hsb : σ.2.2.2.2.2.1 ≤ R.slots + k1) (K : tw_K p l e R s m args below meth c Q base b0 L0 k0 k1 cA D xs σ.1 σ.2.1 σ.2.2.1 σ.2.2.2.1 σ.2.2.2.2) (hd : decode (tw_c mi) pc = .ok (.anewarray i, len)) (hx : tw_do mi pc L S h len (.anewarray i) = some (.inr (.inl σ))) : tw_K p l e R s m args below meth c Q base b0 L0 k0 k1 cA D xs mi pc L S h := by
  obtain ⟨hX, hB, hM, hrt, hown, hlk, hnm, hts⟩ := C
  simp only [tw_do] at hx
  replace hx := tw_gS.mp hx
  obtain ⟨hl, hx⟩ := hx
  obtain rfl := eq_of_beq hl
  replace hx := Option.bind_eq_some_iff.mp hx
  obtain ⟨q, haw, hx⟩ := hx
  replace hx := Option.bind_eq_some_iff.mp hx
  obtain ⟨⟨n, T_n⟩, hq, hx⟩ := hx
  obtain rfl := tw_pIS hq
  dsimp only at hx
  replace hx := tw_gS.mp hx
  obtain ⟨hz, hx⟩ := hx
  simp only [Bool.and_eq_true, decide_eq_true_eq] at hz
  obtain ⟨hz1, hz2⟩ := hz
  have hz2 : n.toNatClampNeg ≤ 1000 := hz2
  obtain rfl := tw_nxS hx
  obtain ⟨hk, hlk⟩ := tw_aok haw
  obtain ⟨t, ht⟩ : ∃ t, t = q.2.1 := ⟨_, rfl⟩
  rw [← ht] at hk hlk K
  intro H ls locs cells slots hR hL hlo hc hs
  have hcb : h.1 + 1 ≤ R.cells + k0 := hcb
  have hsb : h.2.1 + n.toNatClampNeg ≤ R.slots + k1 := hsb
  obtain ⟨hty, hov⟩ : (tw_tys cA)[t]? = some (cA t, .object (tw_aR t)) ∧ va_AO (tw_aR t) s := by
    rcases hk with rfl | rfl
    · exact ⟨rfl, Wd.2.1⟩
    · exact ⟨rfl, Wd.2.2.1⟩
  refine W.anew hX hB hown (hts _ (tw_gt_of hlk rfl)) (va_AO.use hov) rfl hd rfl (Int32.not_lt.mpr hz1) (by show n.toNatClampNeg * 4 ≤ 536870912; omega) (by omega) (by show slots + n.toNatClampNeg ≤ R.slots; omega) fun cI kA comp f1 f2 f3 f4 => ?_
  have hcI : cI = cA t := by
    obtain ⟨_, _, -, -, -, g⟩ := (Wd.1.2 t _ hty).2
    exact Option.some.inj (f1.symm.trans g)
  subst hcI
  generalize hH1 : H.push ({ cls := cA t, slots := Array.replicate n.toNatClampNeg .null, vm := .none } : Cell) = H1
  have z1 : H1.size = H.size + 1 := by rw [← hH1, Array.size_push]
  have e1 : H1[H.size]? = some (arrV (cA t) n.toNatClampNeg (fun _ => .null)) := by rw [← hH1, Array.getElem?_push_size, ← arrV_new]
  have o1 : ∀ q : Nat, q < H.size → H1[q]? = H[q]? := fun q hq => by rw [← hH1, Array.getElem?_push, if_neg (Nat.ne_of_lt hq)]
  obtain ⟨hR', ha⟩ := hR.new (x := .inr (.inl (t, n.toNatClampNeg, fun _ => none))) (n := n.toNatClampNeg) z1 e1 o1
  rw [← ha]
  exact K H1 ls locs (cells + 1) (slots + n.toNatClampNeg) hR' hL hlo (by show cells + 1 + k0 = h.1 + 1; omega) (by show slots + n.toNatClampNeg + k1 = h.2.1 + n.toNatClampNeg; omega)
end TWH
end
section
/-! the JDK's own calls; what a step may make -/
theorem tw_ct_v (base b0 : Nat) (T : List Value) : ((T.map (tw_v base b0)).map fun v => v.category).sum = tw_ct T := by
  unfold tw_ct
  rw [List.map_map]
  congr 1
  exact List.map_congr_left fun v _ => tw_v_cat base b0 v
theorem tw_inv_no {mi pc t : Nat} {L T vs : List Value} {h : tw_H} {σ : tw_S} (hx : tw_inv mi pc L T h t vs = some (.inr (.inl σ))) : False := by
  unfold tw_inv at hx
  obtain ⟨-, hx⟩ := tw_gS.mp hx
  cases hx
section TWJ
variable {p : Program} {l : Launch} {e : Env} {R : Room} {s : State} {m : MethodId} {args : Array Value} {below : List Frame} {meth : Method} {c : Code} {Q : State → Prop} {base b0 L0 k0 k1 : Nat} {cA : Nat → ClassId} {D : va_G} {xs : Nat → Int32} {mi pc len : Nat} {L S : List Value} {h : tw_H} {σ : tw_S}
theorem tw_n_static {i : Nat} (C : tw_Cx p s m args meth c mi) (Wd : tw_Wd cA D s) (hf : tw_rk mi ≤ R.frames ∧ 36 * tw_rk mi ≤ R.locals) (hcb : σ.2.2.2.2.1 ≤ R.cells + k0) (hsb : σ.2.2.2.2.2.1 ≤ R.slots + k1) (K : tw_K p l e R s m args below meth c Q base b0 L0 k0 k1 cA D xs σ.1 σ.2.1 σ.2.2.1 σ.2.2.2.1 σ.2.2.2.2) (hd : decode (tw_c mi) pc = .ok (.invokestatic i, len)) (hx : tw_do mi pc L S h len (.invokestatic i) = some (.inr (.inl σ))) : tw_K p l e R s m args below meth c Q base b0 L0 k0 k1 cA D xs mi pc L S h := by
  obtain ⟨hX, hB, hM, hrt, hown, hlk, hnm, hts⟩ := C
  simp only [tw_do] at hx
  replace hx := tw_gS.mp hx
  obtain ⟨hl, hx⟩ := hx
  obtain rfl := eq_of_beq hl
  replace hx := Option.bind_eq_some_iff.mp hx
  obtain ⟨q, hce, hx⟩ := hx
  obtain ⟨hok, hoi⟩ := tw_cok hce
  obtain ⟨⟨o, i'⟩, kd, n, ts, ps, tp, x0, ow⟩ := q
  cases hoi
  simp only [tw_cc] at hok
  dsimp only at hx
  split at hx
  · exact (tw_inv_no (tw_gS.mp hx).2).elim
  · exact (tw_inv_no (tw_gS.mp hx).2).elim
  · -- max
    simp only [Bool.and_eq_true] at hok
    have hlk := tw_is.mem hok.2
    replace hx := Option.bind_eq_some_iff.mp hx
    obtain ⟨⟨y, T_y⟩, hq, hx⟩ := hx
    obtain rfl := tw_pIS hq
    dsimp only at hx
    replace hx := Option.bind_eq_some_iff.mp hx
    obtain ⟨⟨x, T_x⟩, hq, hx⟩ := hx
    obtain rfl := tw_pIS hq
    dsimp only at hx
    replace hx := tw_gS.mp hx
    obtain ⟨hz, hx⟩ := hx
    simp only [Bool.and_eq_true, decide_eq_true_eq] at hz
    obtain rfl := tw_nxS hx
    intro H ls locs cells slots hR hL hlo hc hs
    have hcb : h.1 ≤ R.cells + k0 := hcb
    have hsb : h.2.1 ≤ R.slots + k1 := hsb
    exact va_mmax hX hB (by rw [hM]; exact hL.1.symm) hown (hts _ (tw_gt_of hlk rfl)) (hts _ (tw_gt_of tw_w_maxSt rfl)) (hts _ (tw_gt_of tw_w_mathIni rfl)) (hts _ (tw_gt_of tw_w_maxC rfl)) (by omega) (by rw [tw_ct_v]; show tw_ct T_x + 13 ≤ R.locals; omega) (by omega) (by omega) hd (K H ls locs cells slots hR hL hlo hc hs)
  · -- min
    simp only [Bool.and_eq_true] at hok
    have hlk := tw_is.mem hok.2
    replace hx := Option.bind_eq_some_iff.mp hx
    obtain ⟨⟨y, T_y⟩, hq, hx⟩ := hx
    obtain rfl := tw_pIS hq
    dsimp only at hx
    replace hx := Option.bind_eq_some_iff.mp hx
    obtain ⟨⟨x, T_x⟩, hq, hx⟩ := hx
    obtain rfl := tw_pIS hq
    dsimp only at hx
    replace hx := tw_gS.mp hx
    obtain ⟨hz, hx⟩ := hx
    simp only [Bool.and_eq_true, decide_eq_true_eq] at hz
    obtain rfl := tw_nxS hx
    intro H ls locs cells slots hR hL hlo hc hs
    have hcb : h.1 ≤ R.cells + k0 := hcb
    have hsb : h.2.1 ≤ R.slots + k1 := hsb
    exact va_mmin hX hB (by rw [hM]; exact hL.1.symm) hown (hts _ (tw_gt_of hlk rfl)) (hts _ (tw_gt_of tw_w_minSt rfl)) (hts _ (tw_gt_of tw_w_mathIni rfl)) (hts _ (tw_gt_of tw_w_minC rfl)) (by omega) (by rw [tw_ct_v]; show tw_ct T_x + 13 ≤ R.locals; omega) (by omega) (by omega) hd (K H ls locs cells slots hR hL hlo hc hs)
  · -- arraycopy
    simp only [Bool.and_eq_true] at hok
    have hlk := tw_is.mem hok.2
    replace hx := Option.bind_eq_some_iff.mp hx
    obtain ⟨⟨n0, T_n0⟩, hq, hx⟩ := hx
    obtain rfl := tw_pIS hq
    dsimp only at hx
    replace hx := Option.bind_eq_some_iff.mp hx
    obtain ⟨⟨dp, T_dp⟩, hq, hx⟩ := hx
    obtain rfl := tw_pIS hq
    dsimp only at hx
    replace hx := Option.bind_eq_some_iff.mp hx
    obtain ⟨⟨b, T_b⟩, hq, hx⟩ := hx
    obtain rfl := tw_pRS hq
    dsimp only at hx
    replace hx := Option.bind_eq_some_iff.mp hx
    obtain ⟨⟨sp, T_sp⟩, hq, hx⟩ := hx
    obtain rfl := tw_pIS hq
    dsimp only at hx
    replace hx := Option.bind_eq_some_iff.mp hx
    obtain ⟨⟨a, T_a⟩, hq, hx⟩ := hx
    obtain rfl := tw_pRS hq
    dsimp only at hx
    replace hx := tw_gS.mp hx
    obtain ⟨hz, hx⟩ := hx
    simp only [Bool.and_eq_true, decide_eq_true_eq] at hz
    obtain ⟨hza, hzb, hzc, hzr⟩ := hz
    split at hx
    · rename_i na f nb g ha hb
      replace hx := tw_gS.mp hx
      obtain ⟨hz, hx⟩ := hx
      simp only [Bool.and_eq_true, decide_eq_true_eq] at hz
      obtain ⟨z1, z2, z3, z4, z5⟩ := hz
      have h3 := Int32.not_lt.mpr z1
      have h2 := Int32.not_lt.mpr z2
      have h1 := Int32.not_lt.mpr z3
      obtain rfl := tw_nxS hx
      obtain ⟨j, rfl⟩ : ∃ j, b = j + 1 := ⟨b - 1, by omega⟩
      intro H ls locs cells slots hR hL hlo hc hs
      obtain ⟨hat, hbs⟩ := hR.at hzb hb
      obtain ⟨hat0, -⟩ := hR.at hza ha
      have hc0 : H[tw_ad base b0 a]? = some (vp_cell (cA 0) (na, .inl f)) := hat0
      have hc1 : H[tw_ad base b0 (j + 1)]? = some (vp_cell (cA 0) (nb, .inl g)) := hat
      obtain ⟨-, kA, hkA, cm, hkk⟩ := (Wd.1.2 0 _ rfl).1 0 (fun _ => .null)
      have nn : ∀ z : Int32, ¬ z < 0 → z.toInt = (z.toNatClampNeg : Int) := fun z hz => by
        have : (0 : Int32).toInt ≤ z.toInt := Int32.le_iff_toInt_le.mp (Int32.not_lt.mp hz)
        show z.toInt = (z.toInt.toNat : Int)
        have h0 : (0 : Int32).toInt = 0 := rfl
        omega
      intro T hT X
      obtain ⟨vm', X', step⟩ := X.arraycopy hX hown (hts _ (tw_gt_of hlk rfl)) (hts _ (tw_gt_of tw_w_acpNat rfl)) (hts _ (tw_gt_of tw_w_acpSt rfl)) (hts _ (tw_gt_of tw_w_sysIni rfl)) (src := tw_ad base b0 a) (dst := tw_ad base b0 (j + 1)) (cs := vp_cell (cA 0) (na, .inl f)) (cd := vp_cell (cA 0) (nb, .inl g)) (srcPos := sp) (destPos := dp) (n := n0) (by rw [hT]; exact hc0) (by rw [hT]; exact hc1)
        (fun _ h => by cases h) (fun _ h => by cases h) (fun h => by cases h) (fun h => by cases h) hkA hkA hkk hkk (by simp [refKind]) h1 h2 h3
        (by rw [nn sp h1, nn n0 h3]; show ¬ _ > ((arrV (cA 0) na (fun j => .int (f j))).slots.size : Int); rw [arrV_size]; omega)
        (by rw [nn dp h2, nn n0 h3]; show ¬ _ > ((arrV (cA 0) nb (fun j => .int (g j))).slots.size : Int); rw [arrV_size]; omega)
        (fun vm₁ _ i hi => by
          have e : (vp_cell (cA 0) (na, .inl f)).slots.getD (sp.toNatClampNeg + i) .null = .int (f (sp.toNatClampNeg + i)) := by
            show (arrV (cA 0) na (fun j => .int (f j))).slots.getD _ _ = _
            rw [Array.getD_eq_getD_getElem?, arrV_read _ _ (by omega)]
            rfl
          refine ⟨?_, ?_⟩
          · rw [e]
            rfl
          · rw [e]
            exact trivial)
        (g := F0 m pc ls (.int n0 :: .int dp :: .ref (tw_ad base b0 (j + 1)) :: .int sp :: .ref (tw_ad base b0 a) :: T_a.map (tw_v base b0))) rfl (by rw [hM]; exact hL.1) (rest := T_a.map (tw_v base b0)) rfl (by rw [hB]; exact hd) (by omega) (by
          have hnw : nativeFrameWords "java/lang/System" "arraycopy" 5 + 11 ≤ 28 := by decide +kernel
          show 2 * 0 + _ + _ ≤ _
          rw [tw_ct_v]
          omega)
      have e1 : copied (vp_cell (cA 0) (na, .inl f)) (vp_cell (cA 0) (nb, .inl g)) sp dp n0 = vp_cell (cA 0) (nb, .inl (va_cpy f g sp.toNatClampNeg dp.toNatClampNeg n0.toNatClampNeg)) := va_copied (fun z => .int z) (cA 0) (cA 0) f g z4
      rw [e1] at X' step
      have hl : tw_ad base b0 (j + 1) < H.size := (Array.getElem?_eq_some_iff.mp hc1).1
      have hheap : ((T.setVm vm').setCell (tw_ad base b0 (j + 1)) (vp_cell (cA 0) (nb, .inl (va_cpy f g sp.toNatClampNeg dp.toNatClampNeg n0.toNatClampNeg)))).heap = H.setIfInBounds (tw_ad base b0 (j + 1)) (vp_cell (cA 0) (nb, .inl (va_cpy f g sp.toNatClampNeg dp.toNatClampNeg n0.toNatClampNeg))) := by rw [← hT]; rfl
      obtain ⟨t, a1, b1⟩ := K _ ls _ cells slots (hR.set (H1 := H.setIfInBounds (tw_ad base b0 (j + 1)) (vp_cell (cA 0) (nb, .inl (va_cpy f g sp.toNatClampNeg dp.toNatClampNeg n0.toNatClampNeg)))) (by simp) (by
          show (H.setIfInBounds (base + j) _)[base + j]? = some _
          have hl' : base + j < H.size := hl
          simp [Array.getElem?_setIfInBounds, hl', tw_ad]) (fun q hq => by
          have hq' : ¬ tw_ad base b0 (j + 1) = q := fun z => hq z.symm
          simp [Array.getElem?_setIfInBounds, hq'])) hL (fun z hz => by
          rcases List.mem_append.mp hz with h | h
          · exact hlo z h
          · obtain ⟨y, -, hy⟩ := List.mem_map.mp h
            rw [← hy]
            exact hbs) hc hs _ hheap X'
      exact ⟨t, step t a1, b1⟩
    · cases hx
  · cases hx
theorem tw_n_special {i : Nat} (C : tw_Cx p s m args meth c mi) (Wd : tw_Wd cA D s) (hf : tw_rk mi ≤ R.frames ∧ 36 * tw_rk mi ≤ R.locals) (hcb : σ.2.2.2.2.1 ≤ R.cells + k0) (hsb : σ.2.2.2.2.2.1 ≤ R.slots + k1) (K : tw_K p l e R s m args below meth c Q base b0 L0 k0 k1 cA D xs σ.1 σ.2.1 σ.2.2.1 σ.2.2.2.1 σ.2.2.2.2) (hd : decode (tw_c mi) pc = .ok (.invokespecial i, len)) (hx : tw_do mi pc L S h len (.invokespecial i) = some (.inr (.inl σ))) : tw_K p l e R s m args below meth c Q base b0 L0 k0 k1 cA D xs mi pc L S h := by
  obtain ⟨hX, hB, hM, hrt, hown, hlk, hnm, hts⟩ := C
  simp only [tw_do] at hx
  replace hx := tw_gS.mp hx
  obtain ⟨hl, hx⟩ := hx
  obtain rfl := eq_of_beq hl
  replace hx := Option.bind_eq_some_iff.mp hx
  obtain ⟨q, hce, hx⟩ := hx
  obtain ⟨hok, hoi⟩ := tw_cok hce
  obtain ⟨⟨o, i'⟩, kd, n, ts, ps, tp, x0, ow⟩ := q
  cases hoi
  simp only [tw_cc] at hok
  dsimp only at hx
  replace hx := Option.bind_eq_some_iff.mp hx
  obtain ⟨⟨a, T_a⟩, hq, hx⟩ := hx
  have hS := tw_pRS hq
  dsimp only at hx
  replace hx := tw_gS.mp hx
  obtain ⟨hz, hx⟩ := hx
  have hz := of_decide_eq_true hz
  split at hx
  · exact (tw_inv_no hx).elim
  · exact (tw_inv_no hx).elim
  · split at hx
    · exact (tw_inv_no (tw_gS.mp hx).2).elim
    · cases hx
  · simp only [Bool.and_eq_true] at hok
    have hlk := tw_is.mem hok.2
    replace hx := tw_gS.mp hx
    obtain ⟨hz, hx⟩ := hx
    simp only [Bool.and_eq_true, decide_eq_true_eq] at hz
    obtain ⟨w1, w2, rfl⟩ := hz
    obtain rfl := tw_nxS hx
    rw [List.drop_zero] at hS
    subst hS
    intro H ls locs cells slots hR hL hlo hc hs
    exact W.objInit hX hB hown (hts _ (tw_gt_of hlk rfl)) (hts _ (tw_gt_of tw_w_objInst rfl)) (hts _ (tw_gt_of tw_w_objCode rfl)) rfl (by rw [hM]; exact hL.1) rfl hd (by omega) (by show 2 * 0 + _ + 12 ≤ _; rw [tw_ct_v]; show 2 * 0 + tw_ct T_a + 12 ≤ R.locals; omega) (K H ls locs cells slots hR hL hlo hc hs)
  · cases hx
theorem tw_n_virtual {i : Nat} (C : tw_Cx p s m args meth c mi) (Wd : tw_Wd cA D s) (hf : tw_rk mi ≤ R.frames ∧ 36 * tw_rk mi ≤ R.locals) (hcb : σ.2.2.2.2.1 ≤ R.cells + k0) (hsb : σ.2.2.2.2.2.1 ≤ R.slots + k1) (K : tw_K p l e R s m args below meth c Q base b0 L0 k0 k1 cA D xs σ.1 σ.2.1 σ.2.2.1 σ.2.2.2.1 σ.2.2.2.2) (hd : decode (tw_c mi) pc = .ok (.invokevirtual i, len)) (hx : tw_do mi pc L S h len (.invokevirtual i) = some (.inr (.inl σ))) : tw_K p l e R s m args below meth c Q base b0 L0 k0 k1 cA D xs mi pc L S h := by
  obtain ⟨hX, hB, hM, hrt, hown, hlk, hnm, hts⟩ := C
  simp only [tw_do] at hx
  replace hx := tw_gS.mp hx
  obtain ⟨hl, hx⟩ := hx
  obtain rfl := eq_of_beq hl
  replace hx := Option.bind_eq_some_iff.mp hx
  obtain ⟨q, hce, hx⟩ := hx
  obtain ⟨hok, hoi⟩ := tw_cok hce
  obtain ⟨⟨o, i'⟩, kd, n, ts, ps, tp, x0, ow⟩ := q
  cases hoi
  simp only [tw_cc] at hok
  dsimp only at hx
  replace hx := Option.bind_eq_some_iff.mp hx
  obtain ⟨⟨a, T_a⟩, hq, hx⟩ := hx
  have hS := tw_pRS hq
  dsimp only at hx
  replace hx := tw_gS.mp hx
  obtain ⟨hz, hx⟩ := hx
  split at hx
  · replace hx := Option.bind_eq_some_iff.mp hx
    obtain ⟨t, ht, hx⟩ := hx
    exact (tw_inv_no hx).elim
  · cases hx
end TWJ
/-- what a step does: the heap's size, whose frame it is, whether it calls -/
def tw_ic : Instr → Bool
  | .invokestatic _ => true
  | .invokespecial _ => true
  | .invokevirtual _ => true
  | _ => false
def tw_gd (mi : Nat) (h : tw_H) (ins : Instr) (o : tw_O) : Prop := match o with
  | .inl r => r.2 = h
  | .inr (.inl σ) => σ.1 = mi ∧ h.1 ≤ σ.2.2.2.2.1 ∧ h.2.1 ≤ σ.2.2.2.2.2.1
  | .inr (.inr (σ, k)) => σ.2.2.2.2 = h ∧ k.1 = mi ∧ tw_ic ins = true
def tw_P (mi : Nat) (h : tw_H) (ins : Instr) (x : Option tw_O) : Prop := ∀ o, x = some o → tw_gd mi h ins o
section TWP
variable {mi : Nat} {h : tw_H} {ins : Instr}
theorem tw_P0 : tw_P mi h ins none := fun o q => by cases q
theorem tw_Pg {b : Bool} {x : Option tw_O} (k : tw_P mi h ins x) : tw_P mi h ins (tw_g b x) := fun o q => k o (tw_gS.mp q).2
theorem tw_Pb {α : Type} {x : Option α} {f : α → Option tw_O} (k : ∀ a, tw_P mi h ins (f a)) : tw_P mi h ins (x.bind f) := fun o q => by
  obtain ⟨a, -, q⟩ := Option.bind_eq_some_iff.mp q
  exact k a o q
theorem tw_Pt {pc : Nat} {off : Int} {k : Nat → Option tw_O} (kk : ∀ t, tw_P mi h ins (k t)) : tw_P mi h ins (tw_to pc off k) := tw_Pg (kk _)
theorem tw_Pn {h' : tw_H} {pc : Nat} {L S : List Value} (q : h.1 ≤ h'.1 ∧ h.2.1 ≤ h'.2.1) : tw_P mi h ins (tw_nx mi pc L S h') := fun o z => by
  cases z
  exact ⟨rfl, q⟩
theorem tw_Pi {pc t : Nat} {L T vs : List Value} (q : tw_ic ins = true) : tw_P mi h ins (tw_inv mi pc L T h t vs) := tw_Pg (fun o z => by cases z; exact ⟨rfl, rfl, q⟩)
theorem tw_Pr {v : Option Value} : tw_P mi h ins (some (.inl (v, h))) := fun o z => by cases z; rfl
theorem tw_do_gd {pc len : Nat} {L S : List Value} : tw_P mi h ins (tw_do mi pc L S h len ins) := by
  unfold tw_do
  split <;>
    repeat' (first | exact tw_P0 | exact tw_Pi rfl | exact tw_Pr | exact tw_Pn ⟨Nat.le_refl _, Nat.le_refl _⟩ | exact tw_Pn ⟨Nat.le_add_right _ _, Nat.le_add_right _ _⟩ | refine tw_Pg ?_ | refine tw_Pb fun _ => ?_ | refine tw_Pt fun _ => ?_ | split)
end TWP
theorem tw_stp_gd {σ : tw_S} {o : tw_O} (hs : tw_stp σ = some o) : ∃ ins len, decode (tw_c σ.1) σ.2.1 = .ok (ins, len) ∧ tw_do σ.1 σ.2.1 σ.2.2.1 σ.2.2.2.1 σ.2.2.2.2 len ins = some o ∧ tw_gd σ.1 σ.2.2.2.2 ins o := by
  unfold tw_stp at hs
  split at hs
  · rename_i ins len hd
    exact ⟨ins, len, hd, hs, tw_do_gd o hs⟩
  · cases hs
theorem tw_run_gd : ∀ (F : Nat) (σ : tw_S) (r : tw_Q), tw_run F σ = some r → σ.2.2.2.2.1 ≤ r.2.1 ∧ σ.2.2.2.2.2.1 ≤ r.2.2.1
  | 0, σ, r, h => by simp [tw_run] at h
  | F + 1, σ, r, h => by
    have ih := tw_run_gd F
    simp only [tw_run] at h
    cases hs : tw_stp σ with
    | none => rw [hs] at h; cases h
    | some o =>
      rw [hs] at h
      obtain ⟨ins, len, -, -, hg⟩ := tw_stp_gd hs
      rcases o with x | σ' | ⟨σ1, k⟩
      · simp only at h
        cases h
        have hg : r.2 = σ.2.2.2.2 := hg
        rw [hg]
        exact ⟨Nat.le_refl _, Nat.le_refl _⟩
      · have h1 := ih _ _ h
        have hg : σ'.1 = σ.1 ∧ σ.2.2.2.2.1 ≤ σ'.2.2.2.2.1 ∧ σ.2.2.2.2.2.1 ≤ σ'.2.2.2.2.2.1 := hg
        exact ⟨Nat.le_trans hg.2.1 h1.1, Nat.le_trans hg.2.2 h1.2⟩
      · simp only at h
        obtain ⟨r1, h1, h2⟩ := Option.bind_eq_some_iff.mp h
        have g1 := ih _ _ h1
        have g2 := ih _ _ h2
        have hg : σ1.2.2.2.2 = σ.2.2.2.2 := hg.1
        rw [hg] at g1
        exact ⟨Nat.le_trans g1.1 g2.1, Nat.le_trans g1.2 g2.2⟩
end
section
/-! calls, and the whole: a run of the small machine is a run of the real one -/
def tw_ws (t : Nat) : List Cond := .code (tw_y t) (tw_c t) (tw_ml t) (tw_rt t) :: tw_gt
def tw_rm (t mc ms : Nat) : Room := { frames := tw_rk t, cells := mc, slots := ms, locals := 36 * tw_rk t }
def tw_Pc (base b0 L0 : Nat) (cA : Nat → ClassId) (D : va_G) (xs : Nat → Int32) (vs : List Value) (h : tw_H) : Array Value → State → Prop := fun a U => a = (vs.map (tw_v base b0)).toArray ∧ tw_Rel base b0 L0 cA D xs h U U.heap ∧ tw_Wd cA D U
def tw_Qc (base b0 L0 : Nat) (cA : Nat → ClassId) (D : va_G) (xs : Nat → Int32) (v : Option Value) (h : tw_H) : Array Value → State → Outcome → State → Prop := fun _ _ o t => o = .returned (v.map (tw_v base b0)) ∧ tw_Rel base b0 L0 cA D xs h t t.heap
def tw_M (l : Launch) (base b0 L0 : Nat) (cA : Nat → ClassId) (D : va_G) (xs : Nat → Int32) (t : Nat) : Prop := ∀ (vs : List Value) (h : tw_H) (v : Option Value) (h1 : tw_H), (∃ F, tw_run F (t, 0, tw_en t vs, [], h) = some (v, h1)) → (tw_ea vs).length ≤ tw_ml t →
  Met l (tw_y t) (tw_ws t) (tw_rm t (h1.1 - h.1) (h1.2.1 - h.2.1)) (tw_Pc base b0 L0 cA D xs vs h) (tw_Qc base b0 L0 cA D xs v h1) (h1.1 - h.1) (h1.2.1 - h.2.1) (fun q => base ≤ q)
theorem tw_gI {ws : List Cond} (h : ∀ w ∈ ws, w ∈ tw_gt) : GoodIn tw_gt ws := fun w hw => ⟨h w hw, good_of_word (List.mem_filter.mp (h w hw)).2⟩
theorem tw_mS {t : Nat} (h : t < 178) : Cond.code (tw_y t) (tw_c t) (tw_ml t) (tw_rt t) ∈ tw_gt ∧ plainName (tw_y t).cls = true ∧ (tw_y t).cls = tw_R (tw_ow t) ∧ ((tw_y t).cls ≠ "java/lang/invoke/MethodHandle" ∧ (tw_y t).cls ≠ "java/lang/invoke/VarHandle") ∧ tw_ml t ≤ 17 := by
  have h0 := tw_mok h
  simp only [tw_mc, Bool.and_eq_true, decide_eq_true_eq] at h0
  obtain ⟨a1, a2, a3, a4, a5, a6⟩ := h0
  exact ⟨tw_gt_of (tw_is.mem a1) rfl, a2, a3, ⟨a4, a5⟩, a6⟩
theorem tw_wsI {t : Nat} (h : t < 178) : ∀ w ∈ tw_ws t, w ∈ tw_gt := fun w hw => by
  rcases List.mem_cons.mp hw with rfl | hw
  · exact (tw_mS h).1
  · exact hw
theorem tw_invS {mi pc t : Nat} {L T vs : List Value} {h : tw_H} {σ : tw_S} {k : Nat × Nat × List Value × List Value} (hx : tw_inv mi pc L T h t vs = some (.inr (.inr (σ, k)))) : tw_ct T ≤ 8 ∧ tw_rk t < tw_rk mi ∧ (tw_ea vs).length ≤ tw_ml t ∧ σ = (t, 0, tw_en t vs, [], h) ∧ k = (mi, pc + 3, L, T) := by
  unfold tw_inv at hx
  obtain ⟨hg, hx⟩ := tw_gS.mp hx
  simp only [Bool.and_eq_true, decide_eq_true_eq] at hg
  cases hx
  exact ⟨hg.1, hg.2.1, hg.2.2, rfl, rfl⟩
theorem tw_Pc_blind {base b0 L0 : Nat} {cA : Nat → ClassId} {D : va_G} {xs : Nat → Int32} {vs : List Value} {h : tw_H} : FrameBlind (tw_Pc base b0 L0 cA D xs vs h) := fun a U g mk q => ⟨q.1, tw_Rel.moved (s := U) (U := U.calling g mk a) (Vm.Alike.refl U.vm) q.2.1, tw_Wd.same (s := U) (U := U.calling g mk a) rfl q.2.2⟩
theorem tw_npS {y : MethodName} {n : Nat} (h : tw_np y n = true) : (parseMethodDescriptor y.desc).map (fun d => d.parameters.length) = some n := of_decide_eq_true h
section TWC
variable {p : Program} {l : Launch} {e : Env} {R : Room} {s : State} {m : MethodId} {args : Array Value} {below : List Frame} {meth : Method} {c : Code} {Q : State → Prop} {base b0 L0 k0 k1 : Nat} {cA : Nat → ClassId} {D : va_G} {xs : Nat → Int32} {mi pc len : Nat} {L S : List Value} {h h1 : tw_H} {v : Option Value} {H : Heap} {ls : Array Slot} {locs : List Loc} {cells slots mc ms : Nat}
theorem tw_after {rest st0 : List Value} {a : Array Value} (hr : va_Run p l e R s m args below meth c H locs cells slots mc ms (F0 m pc ls st0) (rest.map (tw_v base b0)) (tw_Qc base b0 L0 cA D xs v h1 a) (fun q => base ≤ q)) (K : tw_K p l e R s m args below meth c Q base b0 L0 k0 k1 cA D xs mi (pc + 3) L (v.toList ++ rest) h1) (hL : tw_LR base b0 ls (tw_ml mi) L) (hlo : ∀ q ∈ locs, base ≤ q.base) (hc : cells + mc + k0 = h1.1) (hs : slots + ms + k1 = h1.2.1) : W p l e R s m args below meth c H locs cells slots Q (F0 m pc ls st0) := by
  intro T hT X
  obtain ⟨v', st0', t, T', Lc, h0, X', hLc, e1, e2, ⟨hv, hRel⟩, st⟩ := hr T hT X
  have hv : v' = v.map (tw_v base b0) := by
    injection hv
  subst hv
  obtain ⟨t2, a1, b1⟩ := K T'.heap ls (locs ++ Lc) (cells + mc) (slots + ms) (by rw [e1]; exact hRel.moved (by rw [← e2]; exact X'.warmed.alike.symm)) hL (fun q hq => by
    rcases List.mem_append.mp hq with z | z
    · exact hlo q z
    · exact hLc q z) hc hs T' rfl X'
  refine ⟨t2, st t2 ?_, b1⟩
  have hst : (v.map (tw_v base b0)).toList ++ rest.map (tw_v base b0) = (v.toList ++ rest).map (tw_v base b0) := by cases v <;> simp
  rw [hst]
  exact a1
theorem tw_recv (Wd : tw_Wd cA D s) (hR : tw_Rel base b0 L0 cA D xs h s H) {a c2 : Nat} {fs : List Value} (ha : a ≠ 0) (hc : h.2.2 a = some (.inr (.inr (c2, fs)))) : c2 < 12 ∧ ClassAt s (tw_R c2) (D.1 c2) ∧ ∃ cellB : Cell, H[tw_ad base b0 a]? = some cellB ∧ cellB.vm.isStatics = false ∧ s.vm.findClass (tw_R c2) = some cellB.cls := by
  obtain ⟨⟨r', hr', cellV, g1, g2, g3, -⟩, -⟩ := hR.at ha hc
  obtain ⟨hc12, rfl⟩ := tw_clt hr'
  have hcls := (Wd.1.1 c2 _ hr').2
  exact ⟨hc12, hcls, cellV, g1, by rw [g3]; rfl, by rw [g2]; exact hcls.1⟩
theorem tw_q_static {i : Nat} (C : tw_Cx p s m args meth c mi) (Wd : tw_Wd cA D s) (hf : tw_rk mi ≤ R.frames ∧ 36 * tw_rk mi ≤ R.locals) (hm : ∀ t, t < 178 → tw_rk t < tw_rk mi → tw_M l base b0 L0 cA D xs t) {σ : tw_S} {k : Nat × Nat × List Value × List Value} (hrun : ∃ F, tw_run F σ = some (v, h1)) (hmo : h.1 ≤ h1.1 ∧ h.2.1 ≤ h1.2.1) (hcb : h1.1 ≤ R.cells + k0) (hsb : h1.2.1 ≤ R.slots + k1) (K : tw_K p l e R s m args below meth c Q base b0 L0 k0 k1 cA D xs k.1 k.2.1 k.2.2.1 (v.toList ++ k.2.2.2) h1) (hd : decode (tw_c mi) pc = .ok (.invokestatic i, len)) (hx : tw_do mi pc L S h len (.invokestatic i) = some (.inr (.inr (σ, k)))) : tw_K p l e R s m args below meth c Q base b0 L0 k0 k1 cA D xs mi pc L S h := by
  obtain ⟨hX, hB, hM, hrt, hown, hlk, hnm, hts⟩ := C
  simp only [tw_do] at hx
  replace hx := tw_gS.mp hx
  obtain ⟨hl, hx⟩ := hx
  obtain rfl := eq_of_beq hl
  replace hx := Option.bind_eq_some_iff.mp hx
  obtain ⟨q, hce, hx⟩ := hx
  obtain ⟨hok, hoi⟩ := tw_cok hce
  obtain ⟨⟨o, i'⟩, kd, n, ts, ps, tp, x0, ow⟩ := q
  cases hoi
  simp only [tw_cc] at hok
  dsimp only at hx
  split at hx
  · simp only [Bool.and_eq_true] at hok
    have htd : (ts.headD (0, 0)).2 < 178 := by
      have := hok.1
      simp only [tw_lt, List.all_eq_true, decide_eq_true_eq] at this
      cases ts with
      | nil => decide
      | cons z zs => exact this z List.mem_cons_self
    replace hx := tw_gS.mp hx
    obtain ⟨hn, hx⟩ := hx
    have hn := of_decide_eq_true hn
    change tw_inv mi pc L _ h (ts.headD (0, 0)).2 _ = _ at hx
    obtain ⟨i1, i2, i3, i4, i5⟩ := tw_invS hx
    subst i4; subst i5
    have ht := htd
    have hM' := hm _ ht i2 _ _ _ _ hrun i3
    obtain ⟨m1, m2, m3, m4, m5⟩ := tw_mS ht
    have hR2 : (tw_rm _ (h1.1 - h.1) (h1.2.1 - h.2.1)).frames + 1 ≤ R.frames ∧ 8 + (tw_ml _ + 11) + (tw_rm _ (h1.1 - h.1) (h1.2.1 - h.2.1)).locals ≤ R.locals := ⟨(by show tw_rk _ + 1 ≤ R.frames; omega : tw_rk (ts.headD (0, 0)).2 + 1 ≤ R.frames), (by omega : 8 + (tw_ml (ts.headD (0, 0)).2 + 11) + 36 * tw_rk (ts.headD (0, 0)).2 ≤ R.locals)⟩
    intro H ls locs cells slots hR hL hlo hc hs
    have hAs : ((S.take n).reverse.map (tw_v base b0)).length = n := by simp; omega
    have hst : S.map (tw_v base b0) = ((S.take n).reverse.map (tw_v base b0)).reverse ++ (S.drop n).map (tw_v base b0) := by
      rw [← List.map_reverse, List.reverse_reverse, ← List.map_append, List.take_append_drop]
    exact tw_after (va_runS (As := (S.take n).reverse.map (tw_v base b0)) (rest := (S.drop n).map (tw_v base b0)) (n := n) ⟨hX, hB, hM, hown, hts⟩ hM' ⟨callB_of n hts (tw_gI (tw_wsI ht)) rfl rfl rfl (hts _ (tw_gt_of (tw_is.mem hok.2.1.2) rfl)) (hts _ (tw_gt_of (tw_is.mem hok.2.1.1.1) rfl)) ⟨m4.1, m4.2, tw_npS hok.2.2⟩ hR2, hts _ (tw_gt_of (tw_is.mem hok.2.1.1.2) rfl)⟩ ⟨tw_Pc_blind, fun U hU hW => ⟨rfl, by rw [hU]; exact hR.moved hW.alike, Wd.warm hW⟩⟩ rfl hAs hL.1 hst (lv_room (by rw [tw_ct_v]; exact i1)) hd ⟨by omega, by omega⟩) K hL hlo (by omega) (by omega)
  · simp only [Bool.and_eq_true] at hok
    have htd : (ts.headD (0, 0)).2 < 178 := by
      have := hok.1
      simp only [tw_lt, List.all_eq_true, decide_eq_true_eq] at this
      cases ts with
      | nil => decide
      | cons z zs => exact this z List.mem_cons_self
    replace hx := tw_gS.mp hx
    obtain ⟨hn, hx⟩ := hx
    have hn := of_decide_eq_true hn
    change tw_inv mi pc L _ h (ts.headD (0, 0)).2 _ = _ at hx
    obtain ⟨i1, i2, i3, i4, i5⟩ := tw_invS hx
    subst i4; subst i5
    have ht := htd
    have hM' := hm _ ht i2 _ _ _ _ hrun i3
    obtain ⟨m1, m2, m3, m4, m5⟩ := tw_mS ht
    have hR2 : (tw_rm _ (h1.1 - h.1) (h1.2.1 - h.2.1)).frames + 1 ≤ R.frames ∧ 8 + (tw_ml _ + 11) + (tw_rm _ (h1.1 - h.1) (h1.2.1 - h.2.1)).locals ≤ R.locals := ⟨(by show tw_rk _ + 1 ≤ R.frames; omega : tw_rk (ts.headD (0, 0)).2 + 1 ≤ R.frames), (by omega : 8 + (tw_ml (ts.headD (0, 0)).2 + 11) + 36 * tw_rk (ts.headD (0, 0)).2 ≤ R.locals)⟩
    intro H ls locs cells slots hR hL hlo hc hs
    have hAs : ((S.take n).reverse.map (tw_v base b0)).length = n := by simp; omega
    have hst : S.map (tw_v base b0) = ((S.take n).reverse.map (tw_v base b0)).reverse ++ (S.drop n).map (tw_v base b0) := by
      rw [← List.map_reverse, List.reverse_reverse, ← List.map_append, List.take_append_drop]
    exact tw_after (va_runSN (As := (S.take n).reverse.map (tw_v base b0)) (rest := (S.drop n).map (tw_v base b0)) (n := n) ⟨hX, hB, hM, hown, hts⟩ hM' ⟨va_cnB n hts (tw_gI (tw_wsI ht)) rfl rfl rfl (Wd.2.2.2 _ (tw_is.mem hok.2.1.1.1) rfl) (hts _ (tw_gt_of (tw_is.mem hok.2.1.2) rfl)) ⟨m4.1, m4.2, tw_npS hok.2.2⟩ hR2, hts _ (tw_gt_of (tw_is.mem hok.2.1.1.2) rfl), trivial⟩ ⟨tw_Pc_blind, fun U hU hW => ⟨rfl, by rw [hU]; exact hR.moved hW.alike, Wd.warm hW⟩⟩ rfl hAs hL.1 hst (lv_room (by rw [tw_ct_v]; exact i1)) hd ⟨by omega, by omega⟩) K hL hlo (by omega) (by omega)
  · replace hx := Option.bind_eq_some_iff.mp hx
    obtain ⟨y, -, hx⟩ := hx
    replace hx := Option.bind_eq_some_iff.mp hx
    obtain ⟨x, -, hx⟩ := hx
    exact absurd (tw_gS.mp hx).2 (fun z => by cases z)
  · replace hx := Option.bind_eq_some_iff.mp hx
    obtain ⟨y, -, hx⟩ := hx
    replace hx := Option.bind_eq_some_iff.mp hx
    obtain ⟨x, -, hx⟩ := hx
    exact absurd (tw_gS.mp hx).2 (fun z => by cases z)
  · replace hx := Option.bind_eq_some_iff.mp hx
    obtain ⟨y1, -, hx⟩ := hx
    replace hx := Option.bind_eq_some_iff.mp hx
    obtain ⟨y2, -, hx⟩ := hx
    replace hx := Option.bind_eq_some_iff.mp hx
    obtain ⟨y3, -, hx⟩ := hx
    replace hx := Option.bind_eq_some_iff.mp hx
    obtain ⟨y4, -, hx⟩ := hx
    replace hx := Option.bind_eq_some_iff.mp hx
    obtain ⟨y5, -, hx⟩ := hx
    replace hx := (tw_gS.mp hx).2
    split at hx
    · exact absurd (tw_gS.mp hx).2 (fun z => by cases z)
    · cases hx
  · cases hx
theorem tw_q_special {i : Nat} (C : tw_Cx p s m args meth c mi) (Wd : tw_Wd cA D s) (hf : tw_rk mi ≤ R.frames ∧ 36 * tw_rk mi ≤ R.locals) (hm : ∀ t, t < 178 → tw_rk t < tw_rk mi → tw_M l base b0 L0 cA D xs t) {σ : tw_S} {k : Nat × Nat × List Value × List Value} (hrun : ∃ F, tw_run F σ = some (v, h1)) (hmo : h.1 ≤ h1.1 ∧ h.2.1 ≤ h1.2.1) (hcb : h1.1 ≤ R.cells + k0) (hsb : h1.2.1 ≤ R.slots + k1) (K : tw_K p l e R s m args below meth c Q base b0 L0 k0 k1 cA D xs k.1 k.2.1 k.2.2.1 (v.toList ++ k.2.2.2) h1) (hd : decode (tw_c mi) pc = .ok (.invokespecial i, len)) (hx : tw_do mi pc L S h len (.invokespecial i) = some (.inr (.inr (σ, k)))) : tw_K p l e R s m args below meth c Q base b0 L0 k0 k1 cA D xs mi pc L S h := by
  obtain ⟨hX, hB, hM, hrt, hown, hlk, hnm, hts⟩ := C
  simp only [tw_do] at hx
  replace hx := tw_gS.mp hx
  obtain ⟨hl, hx⟩ := hx
  obtain rfl := eq_of_beq hl
  replace hx := Option.bind_eq_some_iff.mp hx
  obtain ⟨q, hce, hx⟩ := hx
  obtain ⟨hok, hoi⟩ := tw_cok hce
  obtain ⟨⟨o, i'⟩, kd, n, ts, ps, tp, x0, ow⟩ := q
  cases hoi
  simp only [tw_cc] at hok
  dsimp only at hx
  replace hx := Option.bind_eq_some_iff.mp hx
  obtain ⟨⟨a, T_a⟩, hq, hx⟩ := hx
  have hS := tw_pRS hq
  dsimp only at hS hx
  have hn : n < S.length := by
    have := congrArg List.length hS
    simp at this
    omega
  have hAs : ((S.take n).reverse.map (tw_v base b0)).length = n := by simp; omega
  have hst : S.map (tw_v base b0) = ((S.take n).reverse.map (tw_v base b0)).reverse ++ .ref (tw_ad base b0 a) :: T_a.map (tw_v base b0) := by
    have e1 : S = S.take n ++ .ref a :: T_a := by rw [← hS, List.take_append_drop]
    rw [← List.map_reverse, List.reverse_reverse]
    conv => lhs; rw [e1]
    rw [List.map_append]
    rfl
  replace hx := tw_gS.mp hx
  obtain ⟨hz, hx⟩ := hx
  have hz := of_decide_eq_true hz
  split at hx
  · simp only [Bool.and_eq_true, decide_eq_true_eq] at hok
    have htd : (ts.headD (0, 0)).2 < 178 := by
      have := hok.1
      simp only [tw_lt, List.all_eq_true, decide_eq_true_eq] at this
      cases ts with
      | nil => decide
      | cons z zs => exact this z List.mem_cons_self
    change tw_inv mi pc L _ h (ts.headD (0, 0)).2 _ = _ at hx
    obtain ⟨i1, i2, i3, i4, i5⟩ := tw_invS hx
    subst i4; subst i5
    have ht := htd
    have hM' := hm _ ht i2 _ _ _ _ hrun i3
    obtain ⟨m1, m2, m3, m4, m5⟩ := tw_mS ht
    have hR2 : (tw_rm _ (h1.1 - h.1) (h1.2.1 - h.2.1)).frames + 1 ≤ R.frames ∧ 8 + (tw_ml _ + 11) + (tw_rm _ (h1.1 - h.1) (h1.2.1 - h.2.1)).locals ≤ R.locals := ⟨(by show tw_rk _ + 1 ≤ R.frames; omega : tw_rk (ts.headD (0, 0)).2 + 1 ≤ R.frames), (by omega : 8 + (tw_ml (ts.headD (0, 0)).2 + 11) + 36 * tw_rk (ts.headD (0, 0)).2 ≤ R.locals)⟩
    intro H ls locs cells slots hR hL hlo hc hs
    have hrn : tw_rt (ts.headD (0, 0)).2 = none := hok.2.2
    have hw0 : tw_ws (ts.headD (0, 0)).2 = Cond.code (tw_y (ts.headD (0, 0)).2) (tw_c (ts.headD (0, 0)).2) (tw_ml (ts.headD (0, 0)).2) none :: tw_gt := by rw [tw_ws, hrn]
    exact tw_after (va_runI (As := (S.take n).reverse.map (tw_v base b0)) (b := tw_ad base b0 a) (rest := T_a.map (tw_v base b0)) (n := n) ⟨hX, hB, hM, hown, hts⟩ hM' ⟨callB_of n hts (tw_gI (tw_wsI ht)) hw0 rfl rfl (hts _ (tw_gt_of (tw_is.mem hok.2.1.1.1.2) rfl)) (hts _ (tw_gt_of (tw_is.mem hok.2.1.1.1.1.1) rfl)) ⟨m4.1, m4.2, tw_npS hok.2.1.1.2⟩ hR2, hok.2.1.2, hts _ (tw_gt_of (tw_is.mem hok.2.1.1.1.1.2) rfl)⟩ ⟨tw_Pc_blind, fun U hU hW => ⟨rfl, by rw [hU]; exact hR.moved hW.alike, Wd.warm hW⟩⟩ rfl hAs hL.1 hst (lv_room (by rw [tw_ct_v]; exact i1)) hd ⟨by omega, by omega⟩) K hL hlo (by omega) (by omega)
  · simp only [Bool.and_eq_true, decide_eq_true_eq] at hok
    have htd : (ts.headD (0, 0)).2 < 178 := by
      have := hok.1
      simp only [tw_lt, List.all_eq_true, decide_eq_true_eq] at this
      cases ts with
      | nil => decide
      | cons z zs => exact this z List.mem_cons_self
    change tw_inv mi pc L _ h (ts.headD (0, 0)).2 _ = _ at hx
    obtain ⟨i1, i2, i3, i4, i5⟩ := tw_invS hx
    subst i4; subst i5
    have ht := htd
    have hM' := hm _ ht i2 _ _ _ _ hrun i3
    obtain ⟨m1, m2, m3, m4, m5⟩ := tw_mS ht
    have hR2 : (tw_rm _ (h1.1 - h.1) (h1.2.1 - h.2.1)).frames + 1 ≤ R.frames ∧ 8 + (tw_ml _ + 11) + (tw_rm _ (h1.1 - h.1) (h1.2.1 - h.2.1)).locals ≤ R.locals := ⟨(by show tw_rk _ + 1 ≤ R.frames; omega : tw_rk (ts.headD (0, 0)).2 + 1 ≤ R.frames), (by omega : 8 + (tw_ml (ts.headD (0, 0)).2 + 11) + 36 * tw_rk (ts.headD (0, 0)).2 ≤ R.locals)⟩
    intro H ls locs cells slots hR hL hlo hc hs
    have hrn : tw_rt (ts.headD (0, 0)).2 = none := hok.2.2
    have hw0 : tw_ws (ts.headD (0, 0)).2 = Cond.code (tw_y (ts.headD (0, 0)).2) (tw_c (ts.headD (0, 0)).2) (tw_ml (ts.headD (0, 0)).2) none :: tw_gt := by rw [tw_ws, hrn]
    exact tw_after (va_runIN (As := (S.take n).reverse.map (tw_v base b0)) (b := tw_ad base b0 a) (rest := T_a.map (tw_v base b0)) (n := n) ⟨hX, hB, hM, hown, hts⟩ hM' ⟨va_cnB n hts (tw_gI (tw_wsI ht)) hw0 rfl rfl (Wd.2.2.2 _ (tw_is.mem hok.2.1.1.1.1.1) rfl) (hts _ (tw_gt_of (tw_is.mem hok.2.1.1.1.2) rfl)) ⟨m4.1, m4.2, tw_npS hok.2.1.1.2⟩ hR2, hok.2.1.2, hts _ (tw_gt_of (tw_is.mem hok.2.1.1.1.1.2) rfl)⟩ ⟨tw_Pc_blind, fun U hU hW => ⟨rfl, by rw [hU]; exact hR.moved hW.alike, Wd.warm hW⟩⟩ rfl hAs hL.1 hst (lv_room (by rw [tw_ct_v]; exact i1)) hd ⟨by omega, by omega⟩) K hL hlo (by omega) (by omega)
  · simp only [Bool.and_eq_true, decide_eq_true_eq] at hok
    have htd : (ts.headD (0, 0)).2 < 178 := by
      have := hok.1
      simp only [tw_lt, List.all_eq_true, decide_eq_true_eq] at this
      cases ts with
      | nil => decide
      | cons z zs => exact this z List.mem_cons_self
    split at hx
    · rename_i c2 fs hcell
      replace hx := tw_gS.mp hx
      obtain ⟨-, hx⟩ := hx
      change tw_inv mi pc L _ h (ts.headD (0, 0)).2 _ = _ at hx
      obtain ⟨i1, i2, i3, i4, i5⟩ := tw_invS hx
      subst i4; subst i5
      have ht := htd
      have hM' := hm _ ht i2 _ _ _ _ hrun i3
      obtain ⟨m1, m2, m3, m4, m5⟩ := tw_mS ht
      have hR2 : (tw_rm _ (h1.1 - h.1) (h1.2.1 - h.2.1)).frames + 1 ≤ R.frames ∧ 8 + (tw_ml _ + 11) + (tw_rm _ (h1.1 - h.1) (h1.2.1 - h.2.1)).locals ≤ R.locals := ⟨(by show tw_rk _ + 1 ≤ R.frames; omega : tw_rk (ts.headD (0, 0)).2 + 1 ≤ R.frames), (by omega : 8 + (tw_ml (ts.headD (0, 0)).2 + 11) + 36 * tw_rk (ts.headD (0, 0)).2 ≤ R.locals)⟩
      intro H ls locs cells slots hR hL hlo hc hs
      obtain ⟨-, hat, hrc⟩ := tw_recv Wd hR hz hcell
      exact tw_after (va_runSU (As := (S.take n).reverse.map (tw_v base b0)) (b := tw_ad base b0 a) (rest := T_a.map (tw_v base b0)) (n := n) hat ⟨hX, hB, hM, hown, hts⟩ hM' (va_cwSU n hts (tw_gI (fun w hw => by
        simp only [va_wsSU, List.cons_append, List.nil_append, List.mem_cons] at hw
        rcases hw with rfl | rfl | rfl | rfl | rfl | hw
        · exact tw_gt_of (tw_is.mem hok.2.1.1.1.1.1.1) rfl
        · exact tw_gt_of (tw_is.mem hok.2.1.1.1.1.1.2) rfl
        · exact tw_gt_of (tw_is.mem hok.2.1.1.1.1.2) rfl
        · exact tw_gt_of (tw_is.mem hok.2.1.1.1.2) rfl
        · exact tw_gt_of (tw_is.mem hok.2.1.1.2) rfl
        · exact tw_wsI ht w hw)) rfl rfl rfl ⟨hok.2.2, tw_npS hok.2.1.2⟩ hR2) ⟨tw_Pc_blind, hrc, fun U hU hW => ⟨rfl, by rw [hU]; exact hR.moved hW.alike, Wd.warm hW⟩⟩ rfl hAs hL.1 hst (lv_room (by rw [tw_ct_v]; exact i1)) hd ⟨by omega, by omega⟩) K hL hlo (by omega) (by omega)
    · cases hx
  · exact absurd (tw_gS.mp hx).2 (fun z => by cases z)
  · cases hx
theorem tw_q_virtual {i : Nat} (C : tw_Cx p s m args meth c mi) (Wd : tw_Wd cA D s) (hf : tw_rk mi ≤ R.frames ∧ 36 * tw_rk mi ≤ R.locals) (hm : ∀ t, t < 178 → tw_rk t < tw_rk mi → tw_M l base b0 L0 cA D xs t) {σ : tw_S} {k : Nat × Nat × List Value × List Value} (hrun : ∃ F, tw_run F σ = some (v, h1)) (hmo : h.1 ≤ h1.1 ∧ h.2.1 ≤ h1.2.1) (hcb : h1.1 ≤ R.cells + k0) (hsb : h1.2.1 ≤ R.slots + k1) (K : tw_K p l e R s m args below meth c Q base b0 L0 k0 k1 cA D xs k.1 k.2.1 k.2.2.1 (v.toList ++ k.2.2.2) h1) (hd : decode (tw_c mi) pc = .ok (.invokevirtual i, len)) (hx : tw_do mi pc L S h len (.invokevirtual i) = some (.inr (.inr (σ, k)))) : tw_K p l e R s m args below meth c Q base b0 L0 k0 k1 cA D xs mi pc L S h := by
  obtain ⟨hX, hB, hM, hrt, hown, hlk, hnm, hts⟩ := C
  simp only [tw_do] at hx
  replace hx := tw_gS.mp hx
  obtain ⟨hl, hx⟩ := hx
  obtain rfl := eq_of_beq hl
  replace hx := Option.bind_eq_some_iff.mp hx
  obtain ⟨q, hce, hx⟩ := hx
  obtain ⟨hok, hoi⟩ := tw_cok hce
  obtain ⟨⟨o, i'⟩, kd, n, ts, ps, tp, x0, ow⟩ := q
  cases hoi
  simp only [tw_cc] at hok
  dsimp only at hx
  replace hx := Option.bind_eq_some_iff.mp hx
  obtain ⟨⟨a, T_a⟩, hq, hx⟩ := hx
  have hS := tw_pRS hq
  dsimp only at hS hx
  have hn : n < S.length := by
    have := congrArg List.length hS
    simp at this
    omega
  have hAs : ((S.take n).reverse.map (tw_v base b0)).length = n := by simp; omega
  have hst : S.map (tw_v base b0) = ((S.take n).reverse.map (tw_v base b0)).reverse ++ .ref (tw_ad base b0 a) :: T_a.map (tw_v base b0) := by
    have e1 : S = S.take n ++ .ref a :: T_a := by rw [← hS, List.take_append_drop]
    rw [← List.map_reverse, List.reverse_reverse]
    conv => lhs; rw [e1]
    rw [List.map_append]
    rfl
  replace hx := tw_gS.mp hx
  obtain ⟨hz, hx⟩ := hx
  simp only [Bool.and_eq_true, Bool.or_eq_true, decide_eq_true_eq] at hz
  obtain ⟨hz, hkd⟩ := hz
  split at hx
  · rename_i c2 fs hcell
    replace hx := Option.bind_eq_some_iff.mp hx
    obtain ⟨t, hlu, hx⟩ := hx
    have hmem : (c2, t) ∈ ts := by
      have : ∀ (ys : List (Nat × Nat)), ys.lookup c2 = some t → (c2, t) ∈ ys := by
        intro ys
        induction ys with
        | nil => intro q; cases q
        | cons z zs ih =>
          obtain ⟨z1, z2⟩ := z
          intro q
          rw [List.lookup_cons] at q
          by_cases hcz : c2 == z1
          · rw [hcz] at q
            cases q
            rw [eq_of_beq hcz]
            exact List.mem_cons_self
          · have hcz : (c2 == z1) = false := by simpa using hcz
            rw [hcz] at q
            exact List.mem_cons_of_mem _ (ih q)
      exact this ts hlu
    have htd : t < 178 := by
      simp only [Bool.and_eq_true] at hok
      have := hok.1
      simp only [tw_lt, List.all_eq_true, decide_eq_true_eq] at this
      exact this _ hmem
    obtain ⟨i1, i2, i3, i4, i5⟩ := tw_invS hx
    subst i4; subst i5
    have ht := htd
    have hM' := hm _ ht i2 _ _ _ _ hrun i3
    obtain ⟨m1, m2, m3, m4, m5⟩ := tw_mS ht
    have hR2 : (tw_rm _ (h1.1 - h.1) (h1.2.1 - h.2.1)).frames + 1 ≤ R.frames ∧ 8 + (tw_ml _ + 11) + (tw_rm _ (h1.1 - h.1) (h1.2.1 - h.2.1)).locals ≤ R.locals := ⟨(by show tw_rk _ + 1 ≤ R.frames; omega : tw_rk t + 1 ≤ R.frames), (by omega : 8 + (tw_ml t + 11) + 36 * tw_rk t ≤ R.locals)⟩
    intro H ls locs cells slots hR hL hlo hc hs
    obtain ⟨-, hat, hrc⟩ := tw_recv Wd hR hz hcell
    rcases hkd with rfl | rfl
    · simp only [Bool.and_eq_true, List.all_eq_true, decide_eq_true_eq] at hok
      obtain ⟨⟨q1, q2⟩, q3⟩ := hok.2.2 _ hmem
      have q2 : t = tw_hd ((tw_ow mi, i), 5, n, ts, ps, tp, x0, ow) := q2
      have q3 : tw_R c2 = (tw_y t).cls := q3
      rw [← q2] at hok
      rw [q3] at hrc
      exact tw_after (va_runV (C := (tw_y t).cls) (As := (S.take n).reverse.map (tw_v base b0)) (b := tw_ad base b0 a) (rest := T_a.map (tw_v base b0)) (n := n) ⟨hX, hB, hM, hown, hts⟩ hM' ⟨callB_of n hts (tw_gI (tw_wsI ht)) rfl rfl rfl (hts _ (tw_gt_of (tw_is.mem hok.2.1.1.2) rfl)) (hts _ (tw_gt_of (tw_is.mem hok.2.1.1.1.1.1) rfl)) ⟨m4.1, m4.2, tw_npS hok.2.1.2⟩ hR2, hts _ (tw_gt_of (tw_is.mem hok.2.1.1.1.1.2) rfl), hts _ (tw_gt_of (tw_is.mem hok.2.1.1.1.2) rfl)⟩ ⟨tw_Pc_blind, hrc, fun U hU hW => ⟨rfl, by rw [hU]; exact hR.moved hW.alike, Wd.warm hW⟩⟩ rfl hAs hL.1 hst (lv_room (by rw [tw_ct_v]; exact i1)) hd ⟨by omega, by omega⟩) K hL hlo (by omega) (by omega)
    · simp only [Bool.and_eq_true, List.all_eq_true, decide_eq_true_eq] at hok
      obtain ⟨hlt0, ⟨⟨⟨⟨⟨⟨⟨⟨w1, w2⟩, w3⟩, w4⟩, w5⟩, w6⟩, w7⟩, w8⟩, w9⟩, w10⟩ := hok
      obtain ⟨j, hj⟩ := List.getElem?_of_mem hmem
      have hjl := (List.getElem?_eq_some_iff.mp hj).1
      have hzip : ((c2, t), tp[j]'(by omega)) ∈ ts.zip tp := by
        refine List.mem_of_getElem? (i := j) ?_
        rw [List.getElem?_zip_eq_some]
        exact ⟨hj, List.getElem?_eq_getElem _⟩
      obtain ⟨⟨⟨z1, z2⟩, z3⟩, z4⟩ := w10 _ hzip
      have hc0 := (tw_mS w4).1
      rw [w5] at hc0
      exact tw_after (va_runU (C := tw_R c2) (owner := ow) (x := x0) (As := (S.take n).reverse.map (tw_v base b0)) (b := tw_ad base b0 a) (rest := T_a.map (tw_v base b0)) (n := n) ⟨hX, hB, hM, hown, hts⟩ hM' (va_cwO n hts (tw_gI (fun w hw => by
        simp only [va_wsO, List.cons_append, List.nil_append, List.mem_cons] at hw
        rcases hw with rfl | rfl | rfl | rfl | rfl | rfl | hw
        · exact tw_gt_of (tw_is.mem w1) rfl
        · exact tw_gt_of (tw_is.mem w2) rfl
        · exact tw_gt_of (tw_is.mem w3) rfl
        · exact tw_gt_of (tw_is.mem z2) rfl
        · exact tw_gt_of (tw_is.mem z3) rfl
        · exact tw_gt_of (tw_is.mem z4) rfl
        · exact tw_wsI ht w hw)) rfl rfl rfl hc0 ⟨w7, w8, tw_npS w6⟩ hR2) ⟨tw_Pc_blind, hrc, fun U hU hW => ⟨rfl, by rw [hU]; exact hR.moved hW.alike, Wd.warm hW⟩⟩ rfl hAs hL.1 hst (lv_room (by rw [tw_ct_v]; exact i1)) hd ⟨by omega, by omega⟩) K hL hlo (by omega) (by omega)
  · cases hx
end TWC
end
section
/-! the whole: a run of the small machine is a run of the real one -/
def tw_ir : Instr → Bool
  | .ireturn => true
  | .lreturn => true
  | .areturn => true
  | .return_ => true
  | _ => false
def tw_N0 (ins : Instr) (x : Option tw_O) : Prop := ∀ r, x = some (.inl r) → tw_ir ins = true
section TWN0
variable {ins : Instr}
theorem tw_N00 : tw_N0 ins none := fun o q => by cases q
theorem tw_N0g {b : Bool} {x : Option tw_O} (k : tw_N0 ins x) : tw_N0 ins (tw_g b x) := fun o q => k o (tw_gS.mp q).2
theorem tw_N0b {α : Type} {x : Option α} {f : α → Option tw_O} (k : ∀ a, tw_N0 ins (f a)) : tw_N0 ins (x.bind f) := fun o q => by
  obtain ⟨a, -, q⟩ := Option.bind_eq_some_iff.mp q
  exact k a o q
theorem tw_N0t {pc : Nat} {off : Int} {k : Nat → Option tw_O} (kk : ∀ t, tw_N0 ins (k t)) : tw_N0 ins (tw_to pc off k) := tw_N0g (kk _)
theorem tw_N0n {mi : Nat} {h' : tw_H} {pc : Nat} {L S : List Value} : tw_N0 ins (tw_nx mi pc L S h') := fun o z => by cases z
theorem tw_N0i {mi : Nat} {h : tw_H} {pc t : Nat} {L T vs : List Value} : tw_N0 ins (tw_inv mi pc L T h t vs) := tw_N0g (fun o z => by cases z)
theorem tw_N0r {x : Option tw_O} (q : tw_ir ins = true) : tw_N0 ins x := fun _ _ => q
theorem tw_do_n0 {mi : Nat} {h : tw_H} {pc len : Nat} {L S : List Value} : tw_N0 ins (tw_do mi pc L S h len ins) := by
  unfold tw_do
  split <;>
    repeat' (first | exact tw_N00 | exact tw_N0r rfl | exact tw_N0i | exact tw_N0n | refine tw_N0g ?_ | refine tw_N0b fun _ => ?_ | refine tw_N0t fun _ => ?_ | split)
theorem tw_noret {mi : Nat} {h : tw_H} {pc len : Nat} {L S : List Value} {r : tw_Q} (ins : Instr) (hi : tw_ir ins = false) : ¬ tw_do mi pc L S h len ins = some (.inl r) := fun q => by
  have := tw_do_n0 (ins := ins) r q
  rw [hi] at this
  cases this
end TWN0
theorem tw_inl_eq {mi pc len : Nat} {L S : List Value} {h h1 : tw_H} {ins : Instr} {v : Option Value} (hx : tw_do mi pc L S h len ins = some (.inl (v, h1))) : h1 = h := tw_do_gd (mi := mi) (pc := pc) (len := len) (L := L) (S := S) _ hx
section TWB
variable {p : Program} {l : Launch} {e : Env} {R : Room} {s : State} {m : MethodId} {args : Array Value} {below : List Frame} {meth : Method} {c : Code} {Q : State → Prop} {base b0 L0 k0 k1 : Nat} {cA : Nat → ClassId} {D : va_G} {xs : Nat → Int32} {mi pc len : Nat} {L S : List Value} {h h1 : tw_H} {v : Option Value}
theorem tw_next {σ : tw_S} (C : tw_Cx p s m args meth c mi) (Wd : tw_Wd cA D s) (hf : tw_rk mi ≤ R.frames ∧ 36 * tw_rk mi ≤ R.locals) (hcb : σ.2.2.2.2.1 ≤ R.cells + k0) (hsb : σ.2.2.2.2.2.1 ≤ R.slots + k1) (K : tw_K p l e R s m args below meth c Q base b0 L0 k0 k1 cA D xs σ.1 σ.2.1 σ.2.2.1 σ.2.2.2.1 σ.2.2.2.2) (ins : Instr) (hd : decode (tw_c mi) pc = .ok (ins, len)) (hx : tw_do mi pc L S h len ins = some (.inr (.inl σ))) : tw_K p l e R s m args below meth c Q base b0 L0 k0 k1 cA D xs mi pc L S h := by
  cases ins with
  | iconst n => exact tw_n_iconst C Wd hf hcb hsb K hd hx
  | bipush n => exact tw_n_bipush C Wd hf hcb hsb K hd hx
  | sipush n => exact tw_n_sipush C Wd hf hcb hsb K hd hx
  | lconst n => exact tw_n_lconst C Wd hf hcb hsb K hd hx
  | aconst_null => exact tw_n_anull C Wd hf hcb hsb K hd hx
  | ldc2_w n => exact tw_n_ldc2 C Wd hf hcb hsb K hd hx
  | ldc_w n => exact tw_n_ldcw C Wd hf hcb hsb K hd hx
  | iload_n k => exact tw_n_iload_n C Wd hf hcb hsb K hd hx
  | iload k => exact tw_n_iload C Wd hf hcb hsb K hd hx
  | lload_n k => exact tw_n_lload_n C Wd hf hcb hsb K hd hx
  | lload k => exact tw_n_lload C Wd hf hcb hsb K hd hx
  | aload_n k => exact tw_n_aload_n C Wd hf hcb hsb K hd hx
  | aload k => exact tw_n_aload C Wd hf hcb hsb K hd hx
  | istore_n k => exact tw_n_istore_n C Wd hf hcb hsb K hd hx
  | istore k => exact tw_n_istore C Wd hf hcb hsb K hd hx
  | lstore_n k => exact tw_n_lstore_n C Wd hf hcb hsb K hd hx
  | lstore k => exact tw_n_lstore C Wd hf hcb hsb K hd hx
  | astore_n k => exact tw_n_astore_n C Wd hf hcb hsb K hd hx
  | astore k => exact tw_n_astore C Wd hf hcb hsb K hd hx
  | iinc k n => exact tw_n_iinc C Wd hf hcb hsb K hd hx
  | iadd => exact tw_n_iadd C Wd hf hcb hsb K hd hx
  | isub => exact tw_n_isub C Wd hf hcb hsb K hd hx
  | imul => exact tw_n_imul C Wd hf hcb hsb K hd hx
  | iand => exact tw_n_iand C Wd hf hcb hsb K hd hx
  | ior => exact tw_n_ior C Wd hf hcb hsb K hd hx
  | ixor => exact tw_n_ixor C Wd hf hcb hsb K hd hx
  | ishl => exact tw_n_ishl C Wd hf hcb hsb K hd hx
  | ishr => exact tw_n_ishr C Wd hf hcb hsb K hd hx
  | iushr => exact tw_n_iushr C Wd hf hcb hsb K hd hx
  | idiv => exact tw_n_idiv C Wd hf hcb hsb K hd hx
  | irem => exact tw_n_irem C Wd hf hcb hsb K hd hx
  | ladd => exact tw_n_ladd C Wd hf hcb hsb K hd hx
  | lsub => exact tw_n_lsub C Wd hf hcb hsb K hd hx
  | lmul => exact tw_n_lmul C Wd hf hcb hsb K hd hx
  | lcmp => exact tw_n_lcmp C Wd hf hcb hsb K hd hx
  | ldiv => exact tw_n_ldiv C Wd hf hcb hsb K hd hx
  | lrem => exact tw_n_lrem C Wd hf hcb hsb K hd hx
  | i2l => exact tw_n_i2l C Wd hf hcb hsb K hd hx
  | i2b => exact tw_n_i2b C Wd hf hcb hsb K hd hx
  | i2s => exact tw_n_i2s C Wd hf hcb hsb K hd hx
  | dup => exact tw_n_dup C Wd hf hcb hsb K hd hx
  | dup_x1 => exact tw_n_dup_x1 C Wd hf hcb hsb K hd hx
  | dup2 => exact tw_n_dup2 C Wd hf hcb hsb K hd hx
  | ifCond cnd off => exact tw_n_ifc C Wd hf hcb hsb K hd hx
  | if_icmp cnd off => exact tw_n_ificmp C Wd hf hcb hsb K hd hx
  | goto off => exact tw_n_goto C Wd hf hcb hsb K hd hx
  | ifnull off => exact tw_n_ifnull C Wd hf hcb hsb K hd hx
  | ifnonnull off => exact tw_n_ifnonnull C Wd hf hcb hsb K hd hx
  | tableswitch d lo hi offs => exact tw_n_tsw C Wd hf hcb hsb K hd hx
  | lookupswitch d ps => exact tw_n_lsw C Wd hf hcb hsb K hd hx
  | getfield n => exact tw_n_getfield C Wd hf hcb hsb K hd hx
  | putfield n => exact tw_n_putfield C Wd hf hcb hsb K hd hx
  | iaload => exact tw_n_iaload C Wd hf hcb hsb K hd hx
  | iastore => exact tw_n_iastore C Wd hf hcb hsb K hd hx
  | aaload => exact tw_n_aaload C Wd hf hcb hsb K hd hx
  | aastore => exact tw_n_aastore C Wd hf hcb hsb K hd hx
  | arraylength => exact tw_n_alen C Wd hf hcb hsb K hd hx
  | new n => exact tw_n_new C Wd hf hcb hsb K hd hx
  | anewarray i => exact tw_n_anewarray C Wd hf hcb hsb K hd hx
  | invokestatic i => exact tw_n_static C Wd hf hcb hsb K hd hx
  | invokespecial i => exact tw_n_special C Wd hf hcb hsb K hd hx
  | invokevirtual i => exact tw_n_virtual C Wd hf hcb hsb K hd hx
  | newarray a =>
    cases a with
    | int => exact tw_n_newarray C Wd hf hcb hsb K hd hx
    | _ => simp [tw_do] at hx
  | ireturn | lreturn | areturn | return_ =>
    exfalso
    simp only [tw_do] at hx
    replace hx := (tw_gS.mp hx).2
    split at hx <;> first | (cases hx; done) | (exact absurd (tw_gS.mp hx).2 (fun z => by cases z)) | (obtain ⟨a, -, hx⟩ := Option.bind_eq_some_iff.mp hx; exact absurd (tw_gS.mp hx).2 (fun z => by cases z))
  | _ => simp [tw_do] at hx
theorem tw_body (C : tw_Cx p s m args meth c mi) (Wd : tw_Wd cA D s) (hf : tw_rk mi ≤ R.frames ∧ 36 * tw_rk mi ≤ R.locals) (hm : ∀ t, t < 178 → tw_rk t < tw_rk mi → tw_M l base b0 L0 cA D xs t) (hcb : h1.1 ≤ R.cells + k0) (hsb : h1.2.1 ≤ R.slots + k1)
    (fin : ∀ (pc len : Nat) (L S : List Value) (ins : Instr), decode (tw_c mi) pc = .ok (ins, len) → tw_do mi pc L S h1 len ins = some (.inl (v, h1)) → tw_K p l e R s m args below meth c Q base b0 L0 k0 k1 cA D xs mi pc L S h1) : ∀ (F pc : Nat) (L S : List Value) (h : tw_H), tw_run F (mi, pc, L, S, h) = some (v, h1) → tw_K p l e R s m args below meth c Q base b0 L0 k0 k1 cA D xs mi pc L S h
  | 0, pc, L, S, h, hx => by simp [tw_run] at hx
  | F + 1, pc, L, S, h, hx => by
    have ih := tw_body C Wd hf hm hcb hsb fin F
    simp only [tw_run] at hx
    cases hs : tw_stp (mi, pc, L, S, h) with
    | none => rw [hs] at hx; cases hx
    | some o =>
      rw [hs] at hx
      obtain ⟨ins, len, hd, hdo, hg⟩ := tw_stp_gd hs
      rcases o with r | σ' | ⟨σ1, k⟩
      · simp only at hx
        cases hx
        have he : h1 = h := hg
        subst he
        exact fin pc len L S ins hd hdo
      · simp only at hx
        obtain ⟨g1, g2, g3⟩ : σ'.1 = mi ∧ h.1 ≤ σ'.2.2.2.2.1 ∧ h.2.1 ≤ σ'.2.2.2.2.2.1 := hg
        have hgr := tw_run_gd _ _ _ hx
        obtain ⟨m2, pc2, L2, S2, h2⟩ := σ'
        dsimp only at g1
        subst g1
        exact tw_next C Wd hf (Nat.le_trans hgr.1 hcb) (Nat.le_trans hgr.2 hsb) (ih _ _ _ _ hx) ins hd hdo
      · simp only at hx
        obtain ⟨g1, g2, g3⟩ : σ1.2.2.2.2 = h ∧ k.1 = mi ∧ tw_ic ins = true := hg
        obtain ⟨⟨v1, h2⟩, hr1, hr2⟩ := Option.bind_eq_some_iff.mp hx
        have hgr1 := tw_run_gd _ _ _ hr1
        have hgr2 := tw_run_gd _ _ _ hr2
        rw [g1] at hgr1
        obtain ⟨m2, pc2, L2, S2⟩ := k
        dsimp only at g2 hr2 hgr2
        subst g2
        have K := ih _ _ _ _ hr2
        cases ins with
        | invokestatic i => exact tw_q_static C Wd hf hm ⟨F, hr1⟩ hgr1 (Nat.le_trans hgr2.1 hcb) (Nat.le_trans hgr2.2 hsb) K hd hdo
        | invokespecial i => exact tw_q_special C Wd hf hm ⟨F, hr1⟩ hgr1 (Nat.le_trans hgr2.1 hcb) (Nat.le_trans hgr2.2 hsb) K hd hdo
        | invokevirtual i => exact tw_q_virtual C Wd hf hm ⟨F, hr1⟩ hgr1 (Nat.le_trans hgr2.1 hcb) (Nat.le_trans hgr2.2 hsb) K hd hdo
        | _ => cases g3
end TWB
theorem tw_ea_args (base b0 : Nat) : ∀ (vs : List Value) (k i : Nat) (v : Value), (tw_ea vs)[i]? = some v → v ≠ tw_un → (k + i, tw_v base b0 v) ∈ lv_args k (vs.map (tw_v base b0))
  | [], k, i, v, h, _ => by simp [tw_ea] at h
  | w :: vs, k, i, v, h, hv => by
    have ih := tw_ea_args base b0 vs
    simp only [tw_ea] at h
    simp only [List.map_cons, lv_args, tw_v_cat]
    by_cases hc : w.category = 2
    · rw [if_pos hc] at h ⊢
      match i, h with
      | 0, h => cases h; exact List.mem_cons_self
      | 1, h => cases h; exact absurd rfl hv
      | i + 2, h =>
        refine List.mem_cons_of_mem _ ?_
        rw [show k + (i + 2) = k + 2 + i by omega]
        exact ih (k + 2) i v h hv
    · rw [if_neg hc] at h ⊢
      match i, h with
      | 0, h => cases h; exact List.mem_cons_self
      | i + 1, h =>
        refine List.mem_cons_of_mem _ ?_
        rw [show k + (i + 1) = k + 1 + i by omega]
        exact ih (k + 1) i v h hv
theorem tw_ea_len (base b0 : Nat) : ∀ (vs : List Value), (lg_sl (vs.map (tw_v base b0))).length = (tw_ea vs).length
  | [] => rfl
  | w :: vs => by
    have ih := tw_ea_len base b0 vs
    unfold lg_sl at ih ⊢
    rw [List.map_cons, List.flatMap_cons, List.length_append, ih, tw_ea, tw_v_cat]
    split <;> simp <;> omega
theorem tw_entry {base b0 t : Nat} {vs : List Value} (h : (tw_ea vs).length ≤ tw_ml t) : tw_LR base b0 ((lg_sl (vs.map (tw_v base b0)) ++ List.replicate (tw_ml t - (lg_sl (vs.map (tw_v base b0))).length) Slot.unset).toArray) (tw_ml t) (tw_en t vs) := by
  have he := lv_entry (vs.map (tw_v base b0)) (n := tw_ml t) (by rw [tw_ea_len]; exact h)
  refine ⟨he.1, he.2.1, by simp [tw_en]; omega, fun i v hi hv => ?_⟩
  unfold tw_en at hi
  by_cases hl : i < (tw_ea vs).length
  · rw [List.getElem?_append_left hl] at hi
    have := tw_ea_args base b0 vs 0 i v hi hv
    rw [Nat.zero_add] at this
    exact he.2.2 _ this
  · rw [List.getElem?_append_right (by omega)] at hi
    exact absurd (List.eq_of_mem_replicate (List.mem_of_getElem? hi)) hv
theorem tw_nbS {mi : Nat} {x : Int32} (h : tw_nb mi x = true) : ∃ ty, tw_rt mi = some ty ∧ narrow ty (.int x) = .int x := by
  unfold tw_nb at h
  split at h
  · rename_i q; exact ⟨_, q, rfl⟩
  · rename_i q
    simp only [Bool.or_eq_true, decide_eq_true_eq] at h
    rcases h with rfl | rfl
    · exact ⟨_, q, rfl⟩
    · exact ⟨_, q, rfl⟩
  · cases h
/-- every method's contract: what the small machine's run answers, the real one answers -/
theorem tw_all (l : Launch) (base b0 L0 : Nat) (cA : Nat → ClassId) (D : va_G) (xs : Nat → Int32) : ∀ (n t : Nat), t < 178 → tw_rk t ≤ n → tw_M l base b0 L0 cA D xs t := by
  intro n
  induction n using Nat.strongRecOn with
  | _ n ihn =>
  intro t ht hrk vs h v h1 hrun hea
  obtain ⟨m1, m2, m3, m4, m5⟩ := tw_mS ht
  obtain ⟨F, hrun⟩ := hrun
  have hgr := tw_run_gd _ _ _ hrun
  refine Met.ofW (cc := tw_c t) (maxL := tw_ml t) (ret := tw_rt t) m2 rfl ?_
  intro p e s m args below meth c s₁ B hml hv
  obtain ⟨rfl, hRel, hWd⟩ := hv
  have hts := atoms_spec (ws := tw_ws t) B.pre
  have hnm := (name_of_methodNamed B.named B.method).1
  have hown : s.vm.findClass (tw_R (tw_ow t)) = some m.cls := by rw [← m3]; exact findClass_of_methodNamed B.named
  have C : tw_Cx p s m (vs.map (tw_v base b0)).toArray meth c t := ⟨B.exec, B.bytes, hml, B.returns, hown, B.notSynchronized, fun q => hnm.trans q, fun w hw => hts w (List.mem_cons_of_mem _ hw)⟩
  have hlocks := B.notSynchronized
  have hm : ∀ t', t' < 178 → tw_rk t' < tw_rk t → tw_M l base b0 L0 cA D xs t' := fun t' ht' hr' => ihn (tw_rk t') (by omega) t' ht' (Nat.le_refl _)
  rw [lg_entry_eq]
  have K := tw_body (p := p) (e := e) (below := below) (R := (headSpec (tw_ws t) (tw_rm t (h1.1 - h.1) (h1.2.1 - h.2.1))).room) (Q := MQ below (tw_Qc base b0 L0 cA D xs v h1) (vs.map (tw_v base b0)).toArray s (h1.1 - h.1) (h1.2.1 - h.2.1) (fun q => base ≤ q)) (k0 := h.1) (k1 := h.2.1) (h1 := h1) (v := v) C hWd ⟨Nat.le_refl _, Nat.le_refl _⟩ hm (show h1.1 ≤ h1.1 - h.1 + h.1 by have := hgr.1; dsimp only at this; omega) (show h1.2.1 ≤ h1.2.1 - h.2.1 + h.2.1 by have := hgr.2; dsimp only at this; omega) (fun pc len L S ins hd hx => ?_) F 0 (tw_en t vs) [] h hrun
  · exact K s.heap _ [] 0 0 hRel (tw_entry hea) (fun q hq => by cases hq) (Nat.zero_add _) (Nat.zero_add _)
  · intro H ls locs cells slots hR hL hlo hc hs
    have hc : cells = h1.1 - h.1 := by omega
    have hs : slots = h1.2.1 - h.2.1 := by omega
    subst hc
    subst hs
    have hq : ∀ t' : State, t'.heap = H → s.WarmedH t'.vm → tw_Qc base b0 L0 cA D xs v h1 (vs.map (tw_v base b0)).toArray s (.returned (v.map (tw_v base b0))) t' := fun t' ht' hW => ⟨rfl, by rw [ht']; exact hR.moved hW.alike⟩
    have hX := B.exec
    have hB := B.bytes
    cases ins with
    | ireturn =>
      simp only [tw_do] at hx
      replace hx := tw_gS.mp hx
      obtain ⟨hl, hx⟩ := hx
      obtain rfl := eq_of_beq hl
      split at hx
      · replace hx := tw_gS.mp hx
        obtain ⟨hb, hx⟩ := hx
        cases hx
        obtain ⟨ty, hty, hn⟩ := tw_nbS hb
        exact W.zret hX hB (B.returns.trans hty) hn hq hlo hd
      · cases hx
    | lreturn =>
      simp only [tw_do] at hx
      replace hx := tw_gS.mp hx
      obtain ⟨hl, hx⟩ := hx
      obtain rfl := eq_of_beq hl
      split at hx
      · replace hx := tw_gS.mp hx
        obtain ⟨hb, hx⟩ := hx
        cases hx
        have hty : tw_rt t = some .long := by
          unfold tw_isL at hb
          split at hb
          · assumption
          · cases hb
        exact W.lret hX hB (B.returns.trans hty) hq hlo hd
      · cases hx
    | areturn =>
      simp only [tw_do] at hx
      replace hx := tw_gS.mp hx
      obtain ⟨hl, hx⟩ := hx
      obtain rfl := eq_of_beq hl
      split at hx
      · replace hx := Option.bind_eq_some_iff.mp hx
        obtain ⟨w, hw, hx⟩ := hx
        obtain ⟨rfl, hz⟩ := tw_asAS hw
        replace hx := tw_gS.mp hx
        obtain ⟨hb, hx⟩ := hx
        cases hx
        obtain ⟨nmr, hty⟩ : ∃ n, tw_rt t = some (.object n) := by
          unfold tw_isA at hb
          split at hb
          · exact ⟨_, by assumption⟩
          · cases hb
        refine W.aret (v := tw_v base b0 _) hX hB (B.returns.trans hty) (Or.inl ⟨_, rfl⟩) ?_ hq hlo hd
        rcases hz with rfl | ⟨a, rfl⟩
        · exact Or.inl rfl
        · exact Or.inr ⟨_, rfl⟩
      · cases hx
    | return_ =>
      simp only [tw_do] at hx
      replace hx := tw_gS.mp hx
      obtain ⟨hl, hx⟩ := hx
      obtain rfl := eq_of_beq hl
      split at hx
      · replace hx := tw_gS.mp hx
        obtain ⟨hb, hx⟩ := hx
        cases hx
        have hty : tw_rt t = none := by
          unfold tw_isV at hb
          split at hb
          · assumption
          · cases hb
        exact W.vret hX hB (B.returns.trans hty) hq hlo hd
      · cases hx
    | _ => exact absurd hx (tw_noret _ rfl)
end
section
/-! THE SMALL MACHINE BY EQUATIONS: one for each kind of instruction -/
def tw_gf (h : tw_H) (a : Nat) (cs : List Nat) (k : Nat) : Option Value := match h.2.2 a with
  | some (.inr (.inr (c, fs))) => if a ≠ 0 ∧ c ∈ cs then fs[k]? else none
  | _ => none
def tw_sf (h : tw_H) (a : Nat) (cs : List Nat) (k : Nat) (t : FieldType) (v : Value) : Option tw_H := match h.2.2 a with
  | some (.inr (.inr (c, fs))) => if a ≠ 0 ∧ c ∈ cs ∧ tw_fit t v = true ∧ k < fs.length then some (tw_set h a (.inr (.inr (c, fs.set k v)))) else none
  | _ => none
def tw_ia (h : tw_H) (a : Nat) (i : Int32) : Option Value := match h.2.2 a with
  | some (.inl (n, f)) => if tw_vi i n = true then some (.int (f i.toNatClampNeg)) else none
  | _ => none
def tw_ix (h : tw_H) (a : Nat) (i x : Int32) : Option tw_H := match h.2.2 a with
  | some (.inl (n, f)) => if a ≠ 0 ∧ tw_vi i n = true then some (tw_set h a (.inl (n, upd f i.toNatClampNeg x))) else none
  | _ => none
def tw_aa (h : tw_H) (a : Nat) (i : Int32) : Option Value := match h.2.2 a with
  | some (.inr (.inl (t, n, f))) => if a ≠ 0 ∧ tw_vi i n = true ∧ (t = 1 ∨ t = 2) then some (tw_rf (f i.toNatClampNeg)) else none
  | _ => none
def tw_ax (h : tw_H) (a : Nat) (i : Int32) (v : Value) : Option tw_H := match h.2.2 a with
  | some (.inr (.inl (t, n, f))) => if a ≠ 0 ∧ v ≠ .ref 0 ∧ tw_vi i n = true ∧ (t = 1 ∨ t = 2) then (tw_el h t v).bind fun o => some (tw_set h a (.inr (.inl (t, n, va_up f i.toNatClampNeg o)))) else none
  | _ => none
def tw_al (h : tw_H) (a : Nat) : Option Value := match h.2.2 a with
  | some (.inl (n, _)) => some (.int (Int32.ofNat n))
  | some (.inr (.inl (t, n, _))) => if a ≠ 0 ∧ (t = 1 ∨ t = 2) then some (.int (Int32.ofNat n)) else none
  | _ => none
def tw_co (h : tw_H) (a : Nat) : Option Nat := match h.2.2 a with
  | some (.inr (.inr (c, _))) => if a ≠ 0 then some c else none
  | _ => none
def tw_ac (h : tw_H) (a : Nat) (sp : Int32) (b : Nat) (dp n : Int32) : Option tw_H := match h.2.2 a, h.2.2 b with
  | some (.inl (n0, f)), some (.inl (n1, g)) => if a ≠ 0 ∧ b ≠ 0 ∧ 0 ≤ n ∧ 0 ≤ dp ∧ 0 ≤ sp ∧ sp.toNatClampNeg + n.toNatClampNeg ≤ n0 ∧ dp.toNatClampNeg + n.toNatClampNeg ≤ n1 then some (tw_set h b (.inl (n1, va_cpy f g sp.toNatClampNeg dp.toNatClampNeg n.toNatClampNeg))) else none
  | _, _ => none
def tw_ok (n : Int32) : Bool := decide (0 ≤ n) && decide (n.toNatClampNeg ≤ 1000)
section TWE
variable {mi pc : Nat} {L S : List Value} {h : tw_H}
theorem tw_e_iconst {n : Int} {v : Int32} (hd : decode (tw_c mi) pc = .ok (.iconst n, 1)) (hv : Int32.ofInt n = v) : tw_b mi pc L S h = tw_b mi (pc + 1) L (.int v :: S) h := by
  rw [tw_b_st hd, ← hv]; rfl
theorem tw_e_bipush {n : Int} {v : Int32} (hd : decode (tw_c mi) pc = .ok (.bipush n, 2)) (hv : (Int8.ofInt n).toInt32 = v) : tw_b mi pc L S h = tw_b mi (pc + 2) L (.int v :: S) h := by
  rw [tw_b_st hd, ← hv]; rfl
theorem tw_e_sipush {n : Int} {v : Int32} (hd : decode (tw_c mi) pc = .ok (.sipush n, 3)) (hv : (Int16.ofInt n).toInt32 = v) : tw_b mi pc L S h = tw_b mi (pc + 3) L (.int v :: S) h := by
  rw [tw_b_st hd, ← hv]; rfl
theorem tw_e_lconst {n : Fin 2} {v : Int64} (hd : decode (tw_c mi) pc = .ok (.lconst n, 1)) (hv : Int64.ofNat (n : Nat) = v) : tw_b mi pc L S h = tw_b mi (pc + 1) L (.long v :: S) h := by
  rw [tw_b_st hd, ← hv]; rfl
theorem tw_e_ldc2 {i : Nat} {v : Int64} (hd : decode (tw_c mi) pc = .ok (.ldc2_w i, 3)) (hv : (tw_ll (tw_ow mi) i).map (fun q => q.2.1) = some v) : tw_b mi pc L S h = tw_b mi (pc + 3) L (.long v :: S) h := by
  replace hv := Option.map_eq_some_iff.mp hv
  obtain ⟨q, hq, rfl⟩ := hv
  rw [tw_b_st hd]; simp [tw_do, tw_g, tw_nx, hq]
theorem tw_e_ldcw {i : Nat} {v : Int32} (hd : decode (tw_c mi) pc = .ok (.ldc_w i, 3)) (hv : (tw_li (tw_ow mi) i).map (fun q => q.2.1) = some v) : tw_b mi pc L S h = tw_b mi (pc + 3) L (.int v :: S) h := by
  replace hv := Option.map_eq_some_iff.mp hv
  obtain ⟨q, hq, rfl⟩ := hv
  rw [tw_b_st hd]; simp [tw_do, tw_g, tw_nx, hq]
theorem tw_e_null (hd : decode (tw_c mi) pc = .ok (.aconst_null, 1)) : tw_b mi pc L S h = tw_b mi (pc + 1) L (.null :: S) h := by
  rw [tw_b_st hd]; rfl
theorem tw_e_iload_n {k : Fin 4} {x : Int32} (hd : decode (tw_c mi) pc = .ok (.iload_n k, 1)) (hl : L[(k : Nat)]? = some (.int x)) : tw_b mi pc L S h = tw_b mi (pc + 1) L (.int x :: S) h := by
  rw [tw_b_st hd]; simp [tw_do, tw_g, tw_nx, hl, tw_asI]
theorem tw_e_iload {k : Nat} {x : Int32} (hd : decode (tw_c mi) pc = .ok (.iload k, 2)) (hl : L[k]? = some (.int x)) : tw_b mi pc L S h = tw_b mi (pc + 2) L (.int x :: S) h := by
  rw [tw_b_st hd]; simp [tw_do, tw_g, tw_nx, hl, tw_asI]
theorem tw_e_lload_n {k : Fin 4} {x : Int64} (hd : decode (tw_c mi) pc = .ok (.lload_n k, 1)) (hl : L[(k : Nat)]? = some (.long x)) : tw_b mi pc L S h = tw_b mi (pc + 1) L (.long x :: S) h := by
  rw [tw_b_st hd]; simp [tw_do, tw_g, tw_nx, hl, tw_asL]
theorem tw_e_lload {k : Nat} {x : Int64} (hd : decode (tw_c mi) pc = .ok (.lload k, 2)) (hl : L[k]? = some (.long x)) : tw_b mi pc L S h = tw_b mi (pc + 2) L (.long x :: S) h := by
  rw [tw_b_st hd]; simp [tw_do, tw_g, tw_nx, hl, tw_asL]
theorem tw_e_aload_n {k : Fin 4} {v : Value} (hd : decode (tw_c mi) pc = .ok (.aload_n k, 1)) (hl : L[(k : Nat)]? = some v) (hv : tw_asA v = some v) : tw_b mi pc L S h = tw_b mi (pc + 1) L (v :: S) h := by
  rw [tw_b_st hd]; simp [tw_do, tw_g, tw_nx, hl, hv]
theorem tw_e_aload {k : Nat} {v : Value} (hd : decode (tw_c mi) pc = .ok (.aload k, 2)) (hl : L[k]? = some v) (hv : tw_asA v = some v) : tw_b mi pc L S h = tw_b mi (pc + 2) L (v :: S) h := by
  rw [tw_b_st hd]; simp [tw_do, tw_g, tw_nx, hl, hv]
theorem tw_e_istore_n {k : Fin 4} {x : Int32} {L' : List Value} (hd : decode (tw_c mi) pc = .ok (.istore_n k, 1)) (hl : tw_st L (k : Nat) (.int x) = some L') : tw_b mi pc L (.int x :: S) h = tw_b mi (pc + 1) L' S h := by
  rw [tw_b_st hd]; simp [tw_do, tw_g, tw_nx, tw_pI, hl]
theorem tw_e_istore {k : Nat} {x : Int32} {L' : List Value} (hd : decode (tw_c mi) pc = .ok (.istore k, 2)) (hl : tw_st L k (.int x) = some L') : tw_b mi pc L (.int x :: S) h = tw_b mi (pc + 2) L' S h := by
  rw [tw_b_st hd]; simp [tw_do, tw_g, tw_nx, tw_pI, hl]
theorem tw_e_lstore_n {k : Fin 4} {x : Int64} {L' : List Value} (hd : decode (tw_c mi) pc = .ok (.lstore_n k, 1)) (hl : tw_st2 L (k : Nat) (.long x) = some L') : tw_b mi pc L (.long x :: S) h = tw_b mi (pc + 1) L' S h := by
  rw [tw_b_st hd]; simp [tw_do, tw_g, tw_nx, tw_pL, hl]
theorem tw_e_lstore {k : Nat} {x : Int64} {L' : List Value} (hd : decode (tw_c mi) pc = .ok (.lstore k, 2)) (hl : tw_st2 L k (.long x) = some L') : tw_b mi pc L (.long x :: S) h = tw_b mi (pc + 2) L' S h := by
  rw [tw_b_st hd]; simp [tw_do, tw_g, tw_nx, tw_pL, hl]
theorem tw_e_astore_n {k : Fin 4} {v : Value} {L' : List Value} (hd : decode (tw_c mi) pc = .ok (.astore_n k, 1)) (hv : tw_asA v = some v) (hl : tw_st L (k : Nat) v = some L') : tw_b mi pc L (v :: S) h = tw_b mi (pc + 1) L' S h := by
  rw [tw_b_st hd]; simp [tw_do, tw_g, tw_nx, tw_pV, hv, hl]
theorem tw_e_astore {k : Nat} {v : Value} {L' : List Value} (hd : decode (tw_c mi) pc = .ok (.astore k, 2)) (hv : tw_asA v = some v) (hl : tw_st L k v = some L') : tw_b mi pc L (v :: S) h = tw_b mi (pc + 2) L' S h := by
  rw [tw_b_st hd]; simp [tw_do, tw_g, tw_nx, tw_pV, hv, hl]
theorem tw_e_iinc {k : Nat} {n : Int} {w x : Int32} {L' : List Value} (hd : decode (tw_c mi) pc = .ok (.iinc k n, 3)) (hw : Int32.ofInt n = w) (hx : L[k]? = some (.int x)) (hl : tw_st L k (.int (x + w)) = some L') : tw_b mi pc L S h = tw_b mi (pc + 3) L' S h := by
  subst hw
  rw [tw_b_st hd]; simp [tw_do, tw_g, tw_nx, hx, tw_asI, hl]
theorem tw_e_iadd {x y : Int32} (hd : decode (tw_c mi) pc = .ok (.iadd, 1)) : tw_b mi pc L (.int y :: .int x :: S) h = tw_b mi (pc + 1) L (.int (x + y) :: S) h := by
  rw [tw_b_st hd]; rfl
theorem tw_e_isub {x y : Int32} (hd : decode (tw_c mi) pc = .ok (.isub, 1)) : tw_b mi pc L (.int y :: .int x :: S) h = tw_b mi (pc + 1) L (.int (x - y) :: S) h := by
  rw [tw_b_st hd]; rfl
theorem tw_e_imul {x y : Int32} (hd : decode (tw_c mi) pc = .ok (.imul, 1)) : tw_b mi pc L (.int y :: .int x :: S) h = tw_b mi (pc + 1) L (.int (x * y) :: S) h := by
  rw [tw_b_st hd]; rfl
theorem tw_e_iand {x y : Int32} (hd : decode (tw_c mi) pc = .ok (.iand, 1)) : tw_b mi pc L (.int y :: .int x :: S) h = tw_b mi (pc + 1) L (.int (x &&& y) :: S) h := by
  rw [tw_b_st hd]; rfl
theorem tw_e_ior {x y : Int32} (hd : decode (tw_c mi) pc = .ok (.ior, 1)) : tw_b mi pc L (.int y :: .int x :: S) h = tw_b mi (pc + 1) L (.int (x ||| y) :: S) h := by
  rw [tw_b_st hd]; rfl
theorem tw_e_ixor {x y : Int32} (hd : decode (tw_c mi) pc = .ok (.ixor, 1)) : tw_b mi pc L (.int y :: .int x :: S) h = tw_b mi (pc + 1) L (.int (x ^^^ y) :: S) h := by
  rw [tw_b_st hd]; rfl
theorem tw_e_ishl {x y : Int32} (hd : decode (tw_c mi) pc = .ok (.ishl, 1)) : tw_b mi pc L (.int y :: .int x :: S) h = tw_b mi (pc + 1) L (.int (x <<< (y &&& 31)) :: S) h := by
  rw [tw_b_st hd]; rfl
theorem tw_e_ishr {x y : Int32} (hd : decode (tw_c mi) pc = .ok (.ishr, 1)) : tw_b mi pc L (.int y :: .int x :: S) h = tw_b mi (pc + 1) L (.int (x >>> (y &&& 31)) :: S) h := by
  rw [tw_b_st hd]; rfl
theorem tw_e_iushr {x y : Int32} (hd : decode (tw_c mi) pc = .ok (.iushr, 1)) : tw_b mi pc L (.int y :: .int x :: S) h = tw_b mi (pc + 1) L (.int (x.toUInt32 >>> (y.toUInt32 &&& Int32.toUInt32 31)).toInt32 :: S) h := by
  rw [tw_b_st hd]; rfl
theorem tw_e_idiv {x y : Int32} (hd : decode (tw_c mi) pc = .ok (.idiv, 1)) : tw_b mi pc L (.int y :: .int x :: S) h = if y = 0 then none else tw_b mi (pc + 1) L (.int (x / y) :: S) h := by
  rw [tw_b_st hd]; by_cases hy : y = 0 <;> simp [tw_do, tw_g, tw_nx, tw_pI, hy]
theorem tw_e_irem {x y : Int32} (hd : decode (tw_c mi) pc = .ok (.irem, 1)) : tw_b mi pc L (.int y :: .int x :: S) h = if y = 0 then none else tw_b mi (pc + 1) L (.int (x - x / y * y) :: S) h := by
  rw [tw_b_st hd]; by_cases hy : y = 0 <;> simp [tw_do, tw_g, tw_nx, tw_pI, hy]
theorem tw_e_ladd {x y : Int64} (hd : decode (tw_c mi) pc = .ok (.ladd, 1)) : tw_b mi pc L (.long y :: .long x :: S) h = tw_b mi (pc + 1) L (.long (x + y) :: S) h := by
  rw [tw_b_st hd]; rfl
theorem tw_e_lsub {x y : Int64} (hd : decode (tw_c mi) pc = .ok (.lsub, 1)) : tw_b mi pc L (.long y :: .long x :: S) h = tw_b mi (pc + 1) L (.long (x - y) :: S) h := by
  rw [tw_b_st hd]; rfl
theorem tw_e_lmul {x y : Int64} (hd : decode (tw_c mi) pc = .ok (.lmul, 1)) : tw_b mi pc L (.long y :: .long x :: S) h = tw_b mi (pc + 1) L (.long (x * y) :: S) h := by
  rw [tw_b_st hd]; rfl
theorem tw_e_ldiv {x y : Int64} (hd : decode (tw_c mi) pc = .ok (.ldiv, 1)) : tw_b mi pc L (.long y :: .long x :: S) h = if y = 0 then none else tw_b mi (pc + 1) L (.long (x / y) :: S) h := by
  rw [tw_b_st hd]; by_cases hy : y = 0 <;> simp [tw_do, tw_g, tw_nx, tw_pL, hy]
theorem tw_e_lrem {x y : Int64} (hd : decode (tw_c mi) pc = .ok (.lrem, 1)) : tw_b mi pc L (.long y :: .long x :: S) h = if y = 0 then none else tw_b mi (pc + 1) L (.long (x - x / y * y) :: S) h := by
  rw [tw_b_st hd]; by_cases hy : y = 0 <;> simp [tw_do, tw_g, tw_nx, tw_pL, hy]
theorem tw_e_lcmp {x y : Int64} (hd : decode (tw_c mi) pc = .ok (.lcmp, 1)) : tw_b mi pc L (.long y :: .long x :: S) h = tw_b mi (pc + 1) L (.int (lg_cmp x y) :: S) h := by
  rw [tw_b_st hd]; rfl
theorem tw_e_i2l {x : Int32} (hd : decode (tw_c mi) pc = .ok (.i2l, 1)) : tw_b mi pc L (.int x :: S) h = tw_b mi (pc + 1) L (.long x.toInt64 :: S) h := by
  rw [tw_b_st hd]; rfl
theorem tw_e_i2b {x : Int32} (hd : decode (tw_c mi) pc = .ok (.i2b, 1)) : tw_b mi pc L (.int x :: S) h = tw_b mi (pc + 1) L (.int x.toInt8.toInt32 :: S) h := by
  rw [tw_b_st hd]; rfl
theorem tw_e_i2s {x : Int32} (hd : decode (tw_c mi) pc = .ok (.i2s, 1)) : tw_b mi pc L (.int x :: S) h = tw_b mi (pc + 1) L (.int x.toInt16.toInt32 :: S) h := by
  rw [tw_b_st hd]; rfl
theorem tw_e_dup {v : Value} (hd : decode (tw_c mi) pc = .ok (.dup, 1)) (hv : v.category = 1) : tw_b mi pc L (v :: S) h = tw_b mi (pc + 1) L (v :: v :: S) h := by
  rw [tw_b_st hd]; simp [tw_do, tw_g, tw_nx, tw_pV, hv]
theorem tw_e_dup_x1 {v w : Value} (hd : decode (tw_c mi) pc = .ok (.dup_x1, 1)) (hv : v.category = 1) (hw : w.category = 1) : tw_b mi pc L (v :: w :: S) h = tw_b mi (pc + 1) L (v :: w :: v :: S) h := by
  rw [tw_b_st hd]; simp [tw_do, tw_g, tw_nx, tw_pV, hv, hw]
theorem tw_e_dup2 {v w : Value} (hd : decode (tw_c mi) pc = .ok (.dup2, 1)) (hv : v.category = 1) (hw : w.category = 1) : tw_b mi pc L (v :: w :: S) h = tw_b mi (pc + 1) L (v :: w :: v :: w :: S) h := by
  rw [tw_b_st hd]; simp [tw_do, tw_g, tw_nx, tw_pV, hv, hw]
theorem tw_to_eq {off : Int} {t : Nat} {k : Nat → Option tw_O} (ht : (pc : Int) + off = (t : Int)) : tw_to pc off k = k t := by
  unfold tw_to tw_g
  rw [ht, if_pos (by simp)]
  rfl
theorem tw_e_goto {off : Int} {t : Nat} (hd : decode (tw_c mi) pc = .ok (.goto off, 3)) (ht : (pc : Int) + off = (t : Int)) : tw_b mi pc L S h = tw_b mi t L S h := by
  rw [tw_b_st hd]; simp [tw_do, tw_g, tw_nx, tw_to_eq ht]
theorem tw_e_if_eq {x : Int32} {off : Int} {t : Nat} (hd : decode (tw_c mi) pc = .ok (.ifCond .eq off, 3)) (ht : (pc : Int) + off = (t : Int)) : tw_b mi pc L (.int x :: S) h = if x = 0 then tw_b mi t L S h else tw_b mi (pc + 3) L S h := by
  rw [tw_b_st hd]; by_cases hq : x = 0 <;> simp [tw_do, tw_g, tw_nx, tw_pI, tw_to_eq ht, tw_cmp, hq]
theorem tw_e_if_ne {x : Int32} {off : Int} {t : Nat} (hd : decode (tw_c mi) pc = .ok (.ifCond .ne off, 3)) (ht : (pc : Int) + off = (t : Int)) : tw_b mi pc L (.int x :: S) h = if x = 0 then tw_b mi (pc + 3) L S h else tw_b mi t L S h := by
  rw [tw_b_st hd]; by_cases hq : x = 0 <;> simp [tw_do, tw_g, tw_nx, tw_pI, tw_to_eq ht, tw_cmp, hq]
theorem tw_e_if_lt {x : Int32} {off : Int} {t : Nat} (hd : decode (tw_c mi) pc = .ok (.ifCond .lt off, 3)) (ht : (pc : Int) + off = (t : Int)) : tw_b mi pc L (.int x :: S) h = if x < 0 then tw_b mi t L S h else tw_b mi (pc + 3) L S h := by
  rw [tw_b_st hd]; by_cases hq : x < 0 <;> simp [tw_do, tw_g, tw_nx, tw_pI, tw_to_eq ht, tw_cmp, hq]
theorem tw_e_if_ge {x : Int32} {off : Int} {t : Nat} (hd : decode (tw_c mi) pc = .ok (.ifCond .ge off, 3)) (ht : (pc : Int) + off = (t : Int)) : tw_b mi pc L (.int x :: S) h = if x < 0 then tw_b mi (pc + 3) L S h else tw_b mi t L S h := by
  rw [tw_b_st hd]; by_cases hq : x < 0
  · simp [tw_do, tw_g, tw_nx, tw_pI, tw_to_eq ht, tw_cmp, hq, Int32.not_le.mpr hq]
  · simp [tw_do, tw_g, tw_nx, tw_pI, tw_to_eq ht, tw_cmp, hq, Int32.not_lt.mp hq]
theorem tw_e_if_gt {x : Int32} {off : Int} {t : Nat} (hd : decode (tw_c mi) pc = .ok (.ifCond .gt off, 3)) (ht : (pc : Int) + off = (t : Int)) : tw_b mi pc L (.int x :: S) h = if 0 < x then tw_b mi t L S h else tw_b mi (pc + 3) L S h := by
  rw [tw_b_st hd]; by_cases hq : 0 < x <;> simp [tw_do, tw_g, tw_nx, tw_pI, tw_to_eq ht, tw_cmp, hq]
theorem tw_e_if_le {x : Int32} {off : Int} {t : Nat} (hd : decode (tw_c mi) pc = .ok (.ifCond .le off, 3)) (ht : (pc : Int) + off = (t : Int)) : tw_b mi pc L (.int x :: S) h = if 0 < x then tw_b mi (pc + 3) L S h else tw_b mi t L S h := by
  rw [tw_b_st hd]; by_cases hq : 0 < x
  · simp [tw_do, tw_g, tw_nx, tw_pI, tw_to_eq ht, tw_cmp, hq, Int32.not_le.mpr hq]
  · simp [tw_do, tw_g, tw_nx, tw_pI, tw_to_eq ht, tw_cmp, hq, Int32.not_lt.mp hq]
theorem tw_e_icmp_eq {x y : Int32} {off : Int} {t : Nat} (hd : decode (tw_c mi) pc = .ok (.if_icmp .eq off, 3)) (ht : (pc : Int) + off = (t : Int)) : tw_b mi pc L (.int y :: .int x :: S) h = if x = y then tw_b mi t L S h else tw_b mi (pc + 3) L S h := by
  rw [tw_b_st hd]; by_cases hq : x = y <;> simp [tw_do, tw_g, tw_nx, tw_pI, tw_to_eq ht, tw_cmp, hq]
theorem tw_e_icmp_ne {x y : Int32} {off : Int} {t : Nat} (hd : decode (tw_c mi) pc = .ok (.if_icmp .ne off, 3)) (ht : (pc : Int) + off = (t : Int)) : tw_b mi pc L (.int y :: .int x :: S) h = if x = y then tw_b mi (pc + 3) L S h else tw_b mi t L S h := by
  rw [tw_b_st hd]; by_cases hq : x = y <;> simp [tw_do, tw_g, tw_nx, tw_pI, tw_to_eq ht, tw_cmp, hq]
theorem tw_e_icmp_lt {x y : Int32} {off : Int} {t : Nat} (hd : decode (tw_c mi) pc = .ok (.if_icmp .lt off, 3)) (ht : (pc : Int) + off = (t : Int)) : tw_b mi pc L (.int y :: .int x :: S) h = if x < y then tw_b mi t L S h else tw_b mi (pc + 3) L S h := by
  rw [tw_b_st hd]; by_cases hq : x < y <;> simp [tw_do, tw_g, tw_nx, tw_pI, tw_to_eq ht, tw_cmp, hq]
theorem tw_e_icmp_ge {x y : Int32} {off : Int} {t : Nat} (hd : decode (tw_c mi) pc = .ok (.if_icmp .ge off, 3)) (ht : (pc : Int) + off = (t : Int)) : tw_b mi pc L (.int y :: .int x :: S) h = if x < y then tw_b mi (pc + 3) L S h else tw_b mi t L S h := by
  rw [tw_b_st hd]; by_cases hq : x < y
  · simp [tw_do, tw_g, tw_nx, tw_pI, tw_to_eq ht, tw_cmp, hq, Int32.not_le.mpr hq]
  · simp [tw_do, tw_g, tw_nx, tw_pI, tw_to_eq ht, tw_cmp, hq, Int32.not_lt.mp hq]
theorem tw_e_icmp_gt {x y : Int32} {off : Int} {t : Nat} (hd : decode (tw_c mi) pc = .ok (.if_icmp .gt off, 3)) (ht : (pc : Int) + off = (t : Int)) : tw_b mi pc L (.int y :: .int x :: S) h = if y < x then tw_b mi t L S h else tw_b mi (pc + 3) L S h := by
  rw [tw_b_st hd]; by_cases hq : y < x <;> simp [tw_do, tw_g, tw_nx, tw_pI, tw_to_eq ht, tw_cmp, hq]
theorem tw_e_icmp_le {x y : Int32} {off : Int} {t : Nat} (hd : decode (tw_c mi) pc = .ok (.if_icmp .le off, 3)) (ht : (pc : Int) + off = (t : Int)) : tw_b mi pc L (.int y :: .int x :: S) h = if y < x then tw_b mi (pc + 3) L S h else tw_b mi t L S h := by
  rw [tw_b_st hd]; by_cases hq : y < x
  · simp [tw_do, tw_g, tw_nx, tw_pI, tw_to_eq ht, tw_cmp, hq, Int32.not_le.mpr hq]
  · simp [tw_do, tw_g, tw_nx, tw_pI, tw_to_eq ht, tw_cmp, hq, Int32.not_lt.mp hq]
theorem tw_e_ifnull {a : Nat} {off : Int} (hd : decode (tw_c mi) pc = .ok (.ifnull off, 3)) : tw_b mi pc L (.ref a :: S) h = tw_b mi (pc + 3) L S h := by
  rw [tw_b_st hd]; simp [tw_do, tw_g, tw_nx, tw_pV, tw_asA]
theorem tw_e_ifnullN {off : Int} {t : Nat} (hd : decode (tw_c mi) pc = .ok (.ifnull off, 3)) (ht : (pc : Int) + off = (t : Int)) : tw_b mi pc L (.null :: S) h = tw_b mi t L S h := by
  rw [tw_b_st hd]; simp [tw_do, tw_g, tw_nx, tw_pV, tw_asA, tw_to_eq ht]
theorem tw_e_ifnonnull {a : Nat} {off : Int} {t : Nat} (hd : decode (tw_c mi) pc = .ok (.ifnonnull off, 3)) (ht : (pc : Int) + off = (t : Int)) : tw_b mi pc L (.ref a :: S) h = tw_b mi t L S h := by
  rw [tw_b_st hd]; simp [tw_do, tw_g, tw_nx, tw_pV, tw_asA, tw_to_eq ht]
theorem tw_e_ifnonnullN {off : Int} (hd : decode (tw_c mi) pc = .ok (.ifnonnull off, 3)) : tw_b mi pc L (.null :: S) h = tw_b mi (pc + 3) L S h := by
  rw [tw_b_st hd]; simp [tw_do, tw_g, tw_nx, tw_pV, tw_asA]
/-- a switch whose value is known to lead to an offset -/
theorem tw_e_tsw {d lo hi off : Int} {offs : Array Int} {len t : Nat} {x : Int32} (hd : decode (tw_c mi) pc = .ok (.tableswitch d lo hi offs, len)) (ho : (if x.toInt < lo ∨ hi < x.toInt then some d else offs[(x.toInt - lo).toNat]?) = some off) (ht : (pc : Int) + off = (t : Int)) : tw_b mi pc L (.int x :: S) h = tw_b mi t L S h := by
  rw [tw_b_st hd]
  by_cases hq : x.toInt < lo ∨ hi < x.toInt
  · rw [if_pos hq] at ho
    cases ho
    simp [tw_do, tw_pI, hq, tw_to_eq ht, tw_nx]
  · rw [if_neg hq] at ho
    simp [tw_do, tw_pI, hq, ho, tw_to_eq ht, tw_nx]
theorem tw_e_lsw {d off : Int} {ps : Array (Int × Int)} {len t : Nat} {x : Int32} (hd : decode (tw_c mi) pc = .ok (.lookupswitch d ps, len)) (hp : (ps.toList.zip (ps.toList.drop 1)).all (fun (a, next) => a.1 < next.1) = true) (ho : Op.lookupswitch.offset ps.toList d x.toInt = off) (ht : (pc : Int) + off = (t : Int)) : tw_b mi pc L (.int x :: S) h = tw_b mi t L S h := by
  rw [tw_b_st hd]
  simp only [tw_do, tw_g, hp, if_true, tw_pI, Option.bind_some, ho, tw_to_eq ht, tw_nx]
theorem tw_e_ireturn {x : Int32} (hd : decode (tw_c mi) pc = .ok (.ireturn, 1)) : tw_b mi pc L [.int x] h = if tw_nb mi x = true then some (some (.int x), h) else none := by
  rw [tw_b_st hd]; by_cases hq : tw_nb mi x = true <;> simp [tw_do, tw_g, hq]
theorem tw_e_lreturn {x : Int64} (hd : decode (tw_c mi) pc = .ok (.lreturn, 1)) (hq : tw_isL mi = true) : tw_b mi pc L [.long x] h = some (some (.long x), h) := by
  rw [tw_b_st hd]; simp [tw_do, tw_g, hq]
theorem tw_e_areturn {v : Value} (hd : decode (tw_c mi) pc = .ok (.areturn, 1)) (hq : tw_isA mi = true) (hv : tw_asA v = some v) : tw_b mi pc L [v] h = some (some v, h) := by
  rw [tw_b_st hd]; simp [tw_do, tw_g, hq, hv]
theorem tw_e_return (hd : decode (tw_c mi) pc = .ok (.return_, 1)) (hq : tw_isV mi = true) : tw_b mi pc L [] h = some (none, h) := by
  rw [tw_b_st hd]; simp [tw_do, tw_g, hq]
theorem tw_e_new {i c n : Nat} {fs : List Value} (hd : decode (tw_c mi) pc = .ok (.new i, 3)) (hq : (tw_nw (tw_ow mi) i).map (fun q => q.2.1) = some c) (hf : tw_df c = fs) (hn : tw_N c = n) : tw_b mi pc L S h = tw_b mi (pc + 3) L (.ref h.1 :: S) (tw_new h (.inr (.inr (c, fs))) n) := by
  subst hf; subst hn
  replace hq := Option.map_eq_some_iff.mp hq
  obtain ⟨q, hq, rfl⟩ := hq
  rw [tw_b_st hd]; simp [tw_do, tw_g, tw_nx, hq]
theorem tw_e_newarray {n : Int32} (hd : decode (tw_c mi) pc = .ok (.newarray .int, 2)) : tw_b mi pc L (.int n :: S) h = if tw_ok n = true then tw_b mi (pc + 2) L (.ref h.1 :: S) (tw_new h (.inl (n.toNatClampNeg, fun _ => 0)) n.toNatClampNeg) else none := by
  rw [tw_b_st hd]; unfold tw_ok; by_cases hq : (decide (0 ≤ n) && decide (n.toNatClampNeg ≤ 1000)) = true <;> simp only [tw_do, tw_g, tw_nx, tw_pI, Option.bind_some, hq, beq_self_eq_true, if_true] <;> rfl
theorem tw_e_anewarray {i t : Nat} {n : Int32} (hd : decode (tw_c mi) pc = .ok (.anewarray i, 3)) (hq : (tw_aw (tw_ow mi) i).map (fun q => q.2.1) = some t) : tw_b mi pc L (.int n :: S) h = if tw_ok n = true then tw_b mi (pc + 3) L (.ref h.1 :: S) (tw_new h (.inr (.inl (t, n.toNatClampNeg, fun _ => none))) n.toNatClampNeg) else none := by
  replace hq := Option.map_eq_some_iff.mp hq
  obtain ⟨q, hq, rfl⟩ := hq
  rw [tw_b_st hd]; unfold tw_ok; by_cases hz : (decide (0 ≤ n) && decide (n.toNatClampNeg ≤ 1000)) = true <;> simp only [tw_do, tw_g, tw_nx, tw_pI, Option.bind_some, hq, hz, beq_self_eq_true, if_true] <;> rfl
theorem tw_e_getfield {i k a : Nat} {cs : List Nat} (hd : decode (tw_c mi) pc = .ok (.getfield i, 3)) (hq : (tw_fe (tw_ow mi) i).map (fun q => q.2.2) = some (k, cs)) : tw_b mi pc L (.ref a :: S) h = (tw_gf h a cs k).bind fun v => tw_b mi (pc + 3) L (v :: S) h := by
  replace hq := Option.map_eq_some_iff.mp hq
  obtain ⟨q, hq, he⟩ := hq
  rw [tw_b_st hd]
  simp only [tw_do, tw_g, tw_nx, tw_pR, Option.bind_some, hq, beq_self_eq_true, if_true, he, tw_gf]
  by_cases ha : a = 0
  · subst ha
    cases hc : h.2.2 0 with
    | none => simp
    | some x => rcases x with x | x | ⟨c, fs⟩ <;> simp
  · cases hc : h.2.2 a with
    | none => simp [ha]
    | some x =>
      rcases x with x | x | ⟨c, fs⟩
      · simp [ha]
      · simp [ha]
      · by_cases hm : c ∈ cs
        · cases hk : fs[k]? with
          | none => simp [ha, hm, hk]
          | some v => simp [ha, hm, hk]
        · simp [ha, hm]
theorem tw_e_putfield {i k a : Nat} {cs : List Nat} {t : FieldType} {v : Value} (hd : decode (tw_c mi) pc = .ok (.putfield i, 3)) (hq : (tw_fe (tw_ow mi) i).map (fun q => q.2.2) = some (k, cs)) (hz : (cs.all fun c => decide (tw_t c k = t) && tw_pok mi c k) = true) : tw_b mi pc L (v :: .ref a :: S) h = (tw_sf h a cs k t v).bind fun h' => tw_b mi (pc + 3) L S h' := by
  replace hq := Option.map_eq_some_iff.mp hq
  obtain ⟨q, hq, he⟩ := hq
  rw [tw_b_st hd]
  simp only [tw_do, tw_g, tw_nx, tw_pR, tw_pV, Option.bind_some, hq, beq_self_eq_true, if_true, he, tw_sf]
  by_cases ha : a = 0
  · subst ha
    cases hc : h.2.2 0 with
    | none => simp
    | some x => rcases x with x | x | ⟨c, fs⟩ <;> simp
  · cases hc : h.2.2 a with
    | none => simp [ha]
    | some x =>
      rcases x with x | x | ⟨c, fs⟩
      · simp [ha]
      · simp [ha]
      · by_cases hm : c ∈ cs
        · have h2 := List.all_eq_true.mp hz c hm
          simp only [Bool.and_eq_true, decide_eq_true_eq] at h2
          by_cases hf : tw_fit t v = true
          · by_cases hl : k < fs.length
            · simp [ha, hm, h2, hf, hl]
            · simp [ha, hm, h2, hf, hl]
          · simp [ha, hm, h2, hf]
        · simp [ha, hm]
theorem tw_e_iaload {a : Nat} {j : Int32} (hd : decode (tw_c mi) pc = .ok (.iaload, 1)) : tw_b mi pc L (.int j :: .ref a :: S) h = (tw_ia h a j).bind fun v => tw_b mi (pc + 1) L (v :: S) h := by
  rw [tw_b_st hd]
  simp only [tw_do, tw_g, tw_nx, tw_pR, tw_pI, Option.bind_some, beq_self_eq_true, if_true, tw_ia]
  cases hc : h.2.2 a with
  | none => simp
  | some x =>
    rcases x with ⟨n, f⟩ | x | ⟨c, fs⟩
    · by_cases hv : tw_vi j n = true <;> simp [hv]
    · simp
    · simp
theorem tw_e_iastore {a : Nat} {j x : Int32} (hd : decode (tw_c mi) pc = .ok (.iastore, 1)) : tw_b mi pc L (.int x :: .int j :: .ref a :: S) h = (tw_ix h a j x).bind fun h' => tw_b mi (pc + 1) L S h' := by
  rw [tw_b_st hd]
  simp only [tw_do, tw_g, tw_nx, tw_pR, tw_pI, Option.bind_some, beq_self_eq_true, if_true, tw_ix]
  by_cases ha : a = 0
  · subst ha
    cases hc : h.2.2 0 with
    | none => simp
    | some x => rcases x with ⟨n, f⟩ | x | ⟨c, fs⟩ <;> simp
  · cases hc : h.2.2 a with
    | none => simp [ha]
    | some x =>
      rcases x with ⟨n, f⟩ | x | ⟨c, fs⟩
      · by_cases hv : tw_vi j n = true <;> simp [ha, hv]
      · simp [ha]
      · simp [ha]
theorem tw_e_aaload {a : Nat} {j : Int32} (hd : decode (tw_c mi) pc = .ok (.aaload, 1)) : tw_b mi pc L (.int j :: .ref a :: S) h = (tw_aa h a j).bind fun v => tw_b mi (pc + 1) L (v :: S) h := by
  rw [tw_b_st hd]
  simp only [tw_do, tw_g, tw_nx, tw_pR, tw_pI, Option.bind_some, beq_self_eq_true, if_true, tw_aa]
  by_cases ha : a = 0
  · subst ha
    cases hc : h.2.2 0 with
    | none => simp
    | some x => rcases x with ⟨n, f⟩ | x | ⟨c, fs⟩ <;> simp
  · cases hc : h.2.2 a with
    | none => simp [ha]
    | some x =>
      rcases x with ⟨n, f⟩ | ⟨t, n, f⟩ | ⟨c, fs⟩
      · simp [ha]
      · by_cases hv : tw_vi j n = true
        · by_cases ht : t = 1 ∨ t = 2 <;> simp [ha, hv, ht]
        · simp [ha, hv]
      · simp [ha]
theorem tw_e_aastore {a : Nat} {j : Int32} {v : Value} (hd : decode (tw_c mi) pc = .ok (.aastore, 1)) : tw_b mi pc L (v :: .int j :: .ref a :: S) h = (tw_ax h a j v).bind fun h' => tw_b mi (pc + 1) L S h' := by
  rw [tw_b_st hd]
  simp only [tw_do, tw_g, tw_nx, tw_pR, tw_pI, tw_pV, Option.bind_some, beq_self_eq_true, if_true, tw_ax]
  by_cases ha : a = 0
  · subst ha
    cases hc : h.2.2 0 with
    | none => simp
    | some x => rcases x with ⟨n, f⟩ | x | ⟨c, fs⟩ <;> simp
  · by_cases hv0 : v = .ref 0
    · cases hc : h.2.2 a with
      | none => simp [ha, hv0]
      | some x => rcases x with ⟨n, f⟩ | x | ⟨c, fs⟩ <;> simp [ha, hv0]
    · cases hc : h.2.2 a with
      | none => simp [ha, hv0]
      | some x =>
        rcases x with ⟨n, f⟩ | ⟨t, n, f⟩ | ⟨c, fs⟩
        · simp [ha, hv0]
        · by_cases hv : tw_vi j n = true
          · by_cases ht : t = 1 ∨ t = 2
            · cases he : tw_el h t v <;> simp [ha, hv0, hv, ht, he]
            · simp [ha, hv0, hv, ht]
          · simp [ha, hv0, hv]
        · simp [ha, hv0]
theorem tw_e_alen {a : Nat} (hd : decode (tw_c mi) pc = .ok (.arraylength, 1)) : tw_b mi pc L (.ref a :: S) h = (tw_al h a).bind fun v => tw_b mi (pc + 1) L (v :: S) h := by
  rw [tw_b_st hd]
  simp only [tw_do, tw_g, tw_nx, tw_pR, Option.bind_some, beq_self_eq_true, if_true, tw_al]
  cases hc : h.2.2 a with
  | none => simp
  | some x =>
    rcases x with ⟨n, f⟩ | ⟨t, n, f⟩ | ⟨c, fs⟩
    · simp
    · by_cases ha : a = 0
      · simp [ha]
      · by_cases ht : t = 1 ∨ t = 2 <;> simp [ha, ht]
    · simp
/-! calls -/
theorem tw_inv_b {t : Nat} {vs rest L0 : List Value} (h1 : tw_ct rest ≤ 8) (h2 : tw_rk t < tw_rk mi) (h3 : (tw_ea vs).length ≤ tw_ml t) (h4 : tw_en t vs = L0) : (match tw_inv mi pc L rest h t vs with
    | none => none
    | some (.inl r) => some r
    | some (.inr (.inl σ')) => tw_b σ'.1 σ'.2.1 σ'.2.2.1 σ'.2.2.2.1 σ'.2.2.2.2
    | some (.inr (.inr (σ1, k))) => (tw_b σ1.1 σ1.2.1 σ1.2.2.1 σ1.2.2.2.1 σ1.2.2.2.2).bind fun r => tw_b k.1 k.2.1 k.2.2.1 (r.1.toList ++ k.2.2.2) r.2) = (tw_b t 0 L0 [] h).bind fun r => tw_b mi (pc + 3) L (r.1.toList ++ rest) r.2 := by
  subst h4
  simp [tw_inv, tw_g, h1, h2, h3]
theorem tw_e_static {i n t : Nat} {As rest L0 : List Value} (hd : decode (tw_c mi) pc = .ok (.invokestatic i, 3)) (hq : (tw_ce (tw_ow mi) i).map (fun q => (q.2.1 == 0 || q.2.1 == 1, q.2.2.1, tw_hd q)) = some (true, n, t)) (hn : As.length = n) (h1 : tw_ct rest ≤ 8) (h2 : tw_rk t < tw_rk mi) (h3 : (tw_ea As).length ≤ tw_ml t) (h4 : tw_en t As = L0) : tw_b mi pc L (As.reverse ++ rest) h = (tw_b t 0 L0 [] h).bind fun r => tw_b mi (pc + 3) L (r.1.toList ++ rest) r.2 := by
  replace hq := Option.map_eq_some_iff.mp hq
  obtain ⟨q, hq, he⟩ := hq
  rw [tw_b_st hd]
  obtain ⟨⟨o, i'⟩, kd, n', ts, q5⟩ := q
  simp only [Prod.mk.injEq, Bool.or_eq_true, beq_iff_eq] at he
  obtain ⟨hk, rfl, rfl⟩ := he
  have e1 : (As.reverse ++ rest).drop n' = rest := by rw [List.drop_append_of_le_length (by simp [hn])]; simp [hn]
  have e2 : ((As.reverse ++ rest).take n').reverse = As := by rw [List.take_append_of_le_length (by simp [hn]), List.take_of_length_le (by simp [hn]), List.reverse_reverse]
  have e3 : n' ≤ (As.reverse ++ rest).length := by simp; omega
  rw [← tw_inv_b (pc := pc) (L := L) (h := h) h1 h2 h3 h4]
  rcases hk with rfl | rfl
  · simp only [tw_do, tw_g, beq_self_eq_true, if_true, hq, Option.bind_some, e1, e2, e3, decide_true]
    rfl
  · simp only [tw_do, tw_g, beq_self_eq_true, if_true, hq, Option.bind_some, e1, e2, e3, decide_true]
    rfl
theorem tw_e_max {i : Nat} {x y : Int32} (hd : decode (tw_c mi) pc = .ok (.invokestatic i, 3)) (hq : (tw_ce (tw_ow mi) i).map (fun q => q.2.1) = some 11) (h1 : tw_ct S ≤ 8) (h2 : 0 < tw_rk mi) : tw_b mi pc L (.int y :: .int x :: S) h = tw_b mi (pc + 3) L (.int (if x < y then y else x) :: S) h := by
  replace hq := Option.map_eq_some_iff.mp hq
  obtain ⟨q, hq, he⟩ := hq
  rw [tw_b_st hd]
  simp [tw_do, tw_g, tw_nx, tw_pI, hq, he, h1, h2]
theorem tw_e_min {i : Nat} {x y : Int32} (hd : decode (tw_c mi) pc = .ok (.invokestatic i, 3)) (hq : (tw_ce (tw_ow mi) i).map (fun q => q.2.1) = some 12) (h1 : tw_ct S ≤ 8) (h2 : 0 < tw_rk mi) : tw_b mi pc L (.int y :: .int x :: S) h = tw_b mi (pc + 3) L (.int (if y < x then y else x) :: S) h := by
  replace hq := Option.map_eq_some_iff.mp hq
  obtain ⟨q, hq, he⟩ := hq
  rw [tw_b_st hd]
  simp [tw_do, tw_g, tw_nx, tw_pI, hq, he, h1, h2]
theorem tw_e_copy {i a b : Nat} {n dp sp : Int32} (hd : decode (tw_c mi) pc = .ok (.invokestatic i, 3)) (hq : (tw_ce (tw_ow mi) i).map (fun q => q.2.1) = some 13) (h1 : tw_ct S ≤ 8) (h2 : 0 < tw_rk mi) : tw_b mi pc L (.int n :: .int dp :: .ref b :: .int sp :: .ref a :: S) h = (tw_ac h a sp b dp n).bind fun h' => tw_b mi (pc + 3) L S h' := by
  replace hq := Option.map_eq_some_iff.mp hq
  obtain ⟨q, hq, he⟩ := hq
  rw [tw_b_st hd]
  simp only [tw_do, tw_g, tw_nx, tw_pI, tw_pR, hq, he, h1, h2, beq_self_eq_true, if_true, Option.bind_some, tw_ac]
  by_cases ha : a = 0
  · cases hc : h.2.2 a with
    | none => simp [ha]
    | some x =>
      cases hc2 : h.2.2 b with
      | none => rcases x with ⟨n0, f⟩ | x | x <;> simp [ha]
      | some y => rcases x with ⟨n0, f⟩ | x | x <;> rcases y with ⟨n1, g⟩ | y | y <;> simp [ha]
  · by_cases hb : b = 0
    · cases hc : h.2.2 a with
      | none => simp [hb]
      | some x =>
        cases hc2 : h.2.2 b with
        | none => rcases x with ⟨n0, f⟩ | x | x <;> simp [hb]
        | some y => rcases x with ⟨n0, f⟩ | x | x <;> rcases y with ⟨n1, g⟩ | y | y <;> simp [hb]
    · cases hc : h.2.2 a with
      | none => simp [ha, hb]
      | some x =>
        cases hc2 : h.2.2 b with
        | none => rcases x with ⟨n0, f⟩ | x | x <;> simp [ha, hb]
        | some y =>
          rcases x with ⟨n0, f⟩ | x | x
          · rcases y with ⟨n1, g⟩ | y | y
            · by_cases hz : 0 ≤ n ∧ 0 ≤ dp ∧ 0 ≤ sp ∧ sp.toNatClampNeg + n.toNatClampNeg ≤ n0 ∧ dp.toNatClampNeg + n.toNatClampNeg ≤ n1
              · simp [ha, hb, hz]
              · have hz' : ¬ ((decide (0 ≤ n) && (decide (0 ≤ dp) && (decide (0 ≤ sp) && (decide (sp.toNatClampNeg + n.toNatClampNeg ≤ n0) && decide (dp.toNatClampNeg + n.toNatClampNeg ≤ n1))))) = true) := by
                  simpa only [Bool.and_eq_true, decide_eq_true_eq] using hz
                simp only [ha, hb, ne_eq, not_false_eq_true, decide_true, Bool.and_self, if_true, true_and, if_neg hz, if_neg hz', Option.bind_none]
            · simp [ha, hb]
            · simp [ha, hb]
          · rcases y with ⟨n1, g⟩ | y | y <;> simp [ha, hb]
          · rcases y with ⟨n1, g⟩ | y | y <;> simp [ha, hb]
theorem tw_e_obj {i a : Nat} (hd : decode (tw_c mi) pc = .ok (.invokespecial i, 3)) (hq : (tw_ce (tw_ow mi) i).map (fun q => (q.2.1, q.2.2.1)) = some (10, 0)) (ha : a ≠ 0) (h1 : tw_ct S ≤ 8) (h2 : 0 < tw_rk mi) : tw_b mi pc L (.ref a :: S) h = tw_b mi (pc + 3) L S h := by
  replace hq := Option.map_eq_some_iff.mp hq
  obtain ⟨q, hq, he⟩ := hq
  simp only [Prod.mk.injEq] at he
  rw [tw_b_st hd]
  simp [tw_do, tw_g, tw_nx, tw_pR, hq, he.1, he.2, h1, h2, ha]
theorem tw_e_special {i n t a : Nat} {As rest L0 : List Value} (hd : decode (tw_c mi) pc = .ok (.invokespecial i, 3)) (hq : (tw_ce (tw_ow mi) i).map (fun q => (q.2.1 == 2 || q.2.1 == 3, q.2.2.1, tw_hd q)) = some (true, n, t)) (ha : a ≠ 0) (hn : As.length = n) (h1 : tw_ct rest ≤ 8) (h2 : tw_rk t < tw_rk mi) (h3 : (tw_ea (.ref a :: As)).length ≤ tw_ml t) (h4 : tw_en t (.ref a :: As) = L0) : tw_b mi pc L (As.reverse ++ .ref a :: rest) h = (tw_b t 0 L0 [] h).bind fun r => tw_b mi (pc + 3) L (r.1.toList ++ rest) r.2 := by
  replace hq := Option.map_eq_some_iff.mp hq
  obtain ⟨q, hq, he⟩ := hq
  rw [tw_b_st hd]
  obtain ⟨⟨o, i'⟩, kd, n', ts, q5⟩ := q
  simp only [Prod.mk.injEq, Bool.or_eq_true, beq_iff_eq] at he
  obtain ⟨hk, rfl, rfl⟩ := he
  have e1 : (As.reverse ++ .ref a :: rest).drop n' = .ref a :: rest := by rw [List.drop_append_of_le_length (by simp [hn])]; simp [hn]
  have e2 : ((As.reverse ++ .ref a :: rest).take n').reverse = As := by rw [List.take_append_of_le_length (by simp [hn]), List.take_of_length_le (by simp [hn]), List.reverse_reverse]
  rw [← tw_inv_b (pc := pc) (L := L) (h := h) h1 h2 h3 h4]
  rcases hk with rfl | rfl
  · simp only [tw_do, tw_g, beq_self_eq_true, if_true, hq, Option.bind_some, e1, e2, tw_pR, ne_eq, ha, not_false_eq_true, decide_true]
    rfl
  · simp only [tw_do, tw_g, beq_self_eq_true, if_true, hq, Option.bind_some, e1, e2, tw_pR, ne_eq, ha, not_false_eq_true, decide_true]
    rfl
theorem tw_e_super {i n t a : Nat} {As rest L0 : List Value} (hd : decode (tw_c mi) pc = .ok (.invokespecial i, 3)) (hq : (tw_ce (tw_ow mi) i).map (fun q => (q.2.1, q.2.2.1, tw_hd q)) = some (4, n, t)) {c : Nat} (hc : tw_co h a = some c) (hc2 : c < 12) (hn : As.length = n) (h1 : tw_ct rest ≤ 8) (h2 : tw_rk t < tw_rk mi) (h3 : (tw_ea (.ref a :: As)).length ≤ tw_ml t) (h4 : tw_en t (.ref a :: As) = L0) : tw_b mi pc L (As.reverse ++ .ref a :: rest) h = (tw_b t 0 L0 [] h).bind fun r => tw_b mi (pc + 3) L (r.1.toList ++ rest) r.2 := by
  replace hq := Option.map_eq_some_iff.mp hq
  obtain ⟨q, hq, he⟩ := hq
  rw [tw_b_st hd]
  obtain ⟨⟨o, i'⟩, kd, n', ts, q5⟩ := q
  simp only [Prod.mk.injEq] at he
  obtain ⟨rfl, rfl, rfl⟩ := he
  obtain ⟨fs, hf, ha⟩ : ∃ fs, h.2.2 a = some (.inr (.inr (c, fs))) ∧ a ≠ 0 := by
    unfold tw_co at hc
    split at hc
    · rename_i c' fs hh
      split at hc
      · cases hc; exact ⟨fs, hh, by assumption⟩
      · cases hc
    · cases hc
  have e1 : (As.reverse ++ .ref a :: rest).drop n' = .ref a :: rest := by rw [List.drop_append_of_le_length (by simp [hn])]; simp [hn]
  have e2 : ((As.reverse ++ .ref a :: rest).take n').reverse = As := by rw [List.take_append_of_le_length (by simp [hn]), List.take_of_length_le (by simp [hn]), List.reverse_reverse]
  rw [← tw_inv_b (pc := pc) (L := L) (h := h) h1 h2 h3 h4]
  simp only [tw_do, tw_g, beq_self_eq_true, if_true, hq, Option.bind_some, e1, e2, tw_pR, ne_eq, ha, not_false_eq_true, decide_true, hf, hc2]
  rfl
theorem tw_e_virtual {i n t a : Nat} {As rest L0 : List Value} {c : Nat} (hd : decode (tw_c mi) pc = .ok (.invokevirtual i, 3)) (hq : (tw_ce (tw_ow mi) i).map (fun q => (q.2.1 == 5 || q.2.1 == 6, q.2.2.1, q.2.2.2.1.lookup c)) = some (true, n, some t)) (hc : tw_co h a = some c) (hn : As.length = n) (h1 : tw_ct rest ≤ 8) (h2 : tw_rk t < tw_rk mi) (h3 : (tw_ea (.ref a :: As)).length ≤ tw_ml t) (h4 : tw_en t (.ref a :: As) = L0) : tw_b mi pc L (As.reverse ++ .ref a :: rest) h = (tw_b t 0 L0 [] h).bind fun r => tw_b mi (pc + 3) L (r.1.toList ++ rest) r.2 := by
  replace hq := Option.map_eq_some_iff.mp hq
  obtain ⟨q, hq, he⟩ := hq
  rw [tw_b_st hd]
  obtain ⟨⟨o, i'⟩, kd, n', ts, q5⟩ := q
  simp only [Prod.mk.injEq, Bool.or_eq_true, beq_iff_eq] at he
  obtain ⟨hk, rfl, hlu⟩ := he
  obtain ⟨fs, hf, ha⟩ : ∃ fs, h.2.2 a = some (.inr (.inr (c, fs))) ∧ a ≠ 0 := by
    unfold tw_co at hc
    split at hc
    · rename_i c' fs hh
      split at hc
      · cases hc; exact ⟨fs, hh, by assumption⟩
      · cases hc
    · cases hc
  have e1 : (As.reverse ++ .ref a :: rest).drop n' = .ref a :: rest := by rw [List.drop_append_of_le_length (by simp [hn])]; simp [hn]
  have e2 : ((As.reverse ++ .ref a :: rest).take n').reverse = As := by rw [List.take_append_of_le_length (by simp [hn]), List.take_of_length_le (by simp [hn]), List.reverse_reverse]
  rw [← tw_inv_b (pc := pc) (L := L) (h := h) h1 h2 h3 h4]
  have hk' : (decide (kd = 5) || decide (kd = 6)) = true := by simpa using hk
  simp only [tw_do, tw_g, beq_self_eq_true, if_true, hq, Option.bind_some, e1, e2, tw_pR, ne_eq, ha, not_false_eq_true, decide_true, hf, hlu, hk', Bool.and_self]
  rfl
end TWE
end
