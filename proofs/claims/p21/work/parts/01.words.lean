-- ===== PART A: goes FIRST, ahead of the names: the tables' words, and 'selects' of the private methods out of them =====
/-- a private method of a class that the tables say can be made, by its rows of tables_1 -/
def lw_okq (q : MethodName × Nat) : Prop := (q.1.cls ≠ "java/lang/invoke/MethodHandle" ∧ q.1.cls ≠ "java/lang/invoke/VarHandle") ∧ Cond.instantiable q.1.cls q.2 ∈ tables_1 ∧ Cond.privateMethod q.1 ∈ tables_1 ∧ Cond.instanceMethod q.1 ∈ tables_1
theorem lw_p0 : lw_okq (⟨"ClaySlips", "refused", "(I)I"⟩, 14) := ⟨⟨by decide +kernel, by decide +kernel⟩, List.mem_of_getElem? (i := 15) (by decide +kernel), List.mem_of_getElem? (i := 225) (by decide +kernel), List.mem_of_getElem? (i := 226) (by decide +kernel)⟩
theorem lw_p1 : lw_okq (⟨"ClaySlips", "told", "(I)I"⟩, 14) := ⟨⟨by decide +kernel, by decide +kernel⟩, List.mem_of_getElem? (i := 15) (by decide +kernel), List.mem_of_getElem? (i := 241) (by decide +kernel), List.mem_of_getElem? (i := 242) (by decide +kernel)⟩
theorem lw_p2 : lw_okq (⟨"ClaySlips", "bad", "(I)I"⟩, 14) := ⟨⟨by decide +kernel, by decide +kernel⟩, List.mem_of_getElem? (i := 15) (by decide +kernel), List.mem_of_getElem? (i := 282) (by decide +kernel), List.mem_of_getElem? (i := 283) (by decide +kernel)⟩
theorem lw_p3 : lw_okq (⟨"ClaySlips$Text", "advanceToken", "()V"⟩, 10) := ⟨⟨by decide +kernel, by decide +kernel⟩, List.mem_of_getElem? (i := 131) (by decide +kernel), List.mem_of_getElem? (i := 303) (by decide +kernel), List.mem_of_getElem? (i := 304) (by decide +kernel)⟩
theorem lw_p4 : lw_okq (⟨"ClaySlips$Text", "takeWord", "()V"⟩, 10) := ⟨⟨by decide +kernel, by decide +kernel⟩, List.mem_of_getElem? (i := 131) (by decide +kernel), List.mem_of_getElem? (i := 310) (by decide +kernel), List.mem_of_getElem? (i := 311) (by decide +kernel)⟩
theorem lw_p5 : lw_okq (⟨"ClaySlips$Text", "tokenIs", "(Ljava/lang/String;)Z"⟩, 10) := ⟨⟨by decide +kernel, by decide +kernel⟩, List.mem_of_getElem? (i := 131) (by decide +kernel), List.mem_of_getElem? (i := 315) (by decide +kernel), List.mem_of_getElem? (i := 316) (by decide +kernel)⟩
theorem lw_p6 : lw_okq (⟨"ClaySlips$Text", "takeNumber", "()V"⟩, 10) := ⟨⟨by decide +kernel, by decide +kernel⟩, List.mem_of_getElem? (i := 131) (by decide +kernel), List.mem_of_getElem? (i := 373) (by decide +kernel), List.mem_of_getElem? (i := 374) (by decide +kernel)⟩
theorem lw_p7 : lw_okq (⟨"ClaySlips$Text", "takeQuoted", "()V"⟩, 10) := ⟨⟨by decide +kernel, by decide +kernel⟩, List.mem_of_getElem? (i := 131) (by decide +kernel), List.mem_of_getElem? (i := 377) (by decide +kernel), List.mem_of_getElem? (i := 378) (by decide +kernel)⟩
theorem lw_p8 : lw_okq (⟨"ClaySlips$Text", "expect", "(Z)Z"⟩, 10) := ⟨⟨by decide +kernel, by decide +kernel⟩, List.mem_of_getElem? (i := 131) (by decide +kernel), List.mem_of_getElem? (i := 441) (by decide +kernel), List.mem_of_getElem? (i := 442) (by decide +kernel)⟩
theorem lw_p9 : lw_okq (⟨"ClaySlips$Text", "readRest", "(I)Z"⟩, 10) := ⟨⟨by decide +kernel, by decide +kernel⟩, List.mem_of_getElem? (i := 131) (by decide +kernel), List.mem_of_getElem? (i := 445) (by decide +kernel), List.mem_of_getElem? (i := 446) (by decide +kernel)⟩
theorem lw_p10 : lw_okq (⟨"ClaySlips$Text", "value", "()I"⟩, 10) := ⟨⟨by decide +kernel, by decide +kernel⟩, List.mem_of_getElem? (i := 131) (by decide +kernel), List.mem_of_getElem? (i := 449) (by decide +kernel), List.mem_of_getElem? (i := 450) (by decide +kernel)⟩
theorem lw_p11 : lw_okq (⟨"ClaySlips$Text", "obey", "(LClaySlips$Street;I)I"⟩, 10) := ⟨⟨by decide +kernel, by decide +kernel⟩, List.mem_of_getElem? (i := 131) (by decide +kernel), List.mem_of_getElem? (i := 453) (by decide +kernel), List.mem_of_getElem? (i := 454) (by decide +kernel)⟩
theorem lw_p12 : lw_okq (⟨"ClaySlips$Text", "writeSlip", "(LClaySlips$Street;)I"⟩, 10) := ⟨⟨by decide +kernel, by decide +kernel⟩, List.mem_of_getElem? (i := 131) (by decide +kernel), List.mem_of_getElem? (i := 460) (by decide +kernel), List.mem_of_getElem? (i := 461) (by decide +kernel)⟩
theorem lw_p13 : lw_okq (⟨"ClaySlips$Street", "act", "(I)V"⟩, 8) := ⟨⟨by decide +kernel, by decide +kernel⟩, List.mem_of_getElem? (i := 23) (by decide +kernel), List.mem_of_getElem? (i := 499) (by decide +kernel), List.mem_of_getElem? (i := 500) (by decide +kernel)⟩
theorem lw_p14 : lw_okq (⟨"ClaySlips$Street", "holds", "(LClaySlips$Man;I)Z"⟩, 8) := ⟨⟨by decide +kernel, by decide +kernel⟩, List.mem_of_getElem? (i := 23) (by decide +kernel), List.mem_of_getElem? (i := 503) (by decide +kernel), List.mem_of_getElem? (i := 504) (by decide +kernel)⟩
theorem lw_p15 : lw_okq (⟨"ClaySlips$Street", "isAlone", "(I)Z"⟩, 8) := ⟨⟨by decide +kernel, by decide +kernel⟩, List.mem_of_getElem? (i := 23) (by decide +kernel), List.mem_of_getElem? (i := 507) (by decide +kernel), List.mem_of_getElem? (i := 508) (by decide +kernel)⟩
def lw_privs_1 : List (MethodName × Nat) := [(⟨"ClaySlips", "refused", "(I)I"⟩, 14), (⟨"ClaySlips", "told", "(I)I"⟩, 14), (⟨"ClaySlips", "bad", "(I)I"⟩, 14), (⟨"ClaySlips$Text", "advanceToken", "()V"⟩, 10), (⟨"ClaySlips$Text", "takeWord", "()V"⟩, 10), (⟨"ClaySlips$Text", "tokenIs", "(Ljava/lang/String;)Z"⟩, 10), (⟨"ClaySlips$Text", "takeNumber", "()V"⟩, 10), (⟨"ClaySlips$Text", "takeQuoted", "()V"⟩, 10), (⟨"ClaySlips$Text", "expect", "(Z)Z"⟩, 10), (⟨"ClaySlips$Text", "readRest", "(I)Z"⟩, 10), (⟨"ClaySlips$Text", "value", "()I"⟩, 10), (⟨"ClaySlips$Text", "obey", "(LClaySlips$Street;I)I"⟩, 10), (⟨"ClaySlips$Text", "writeSlip", "(LClaySlips$Street;)I"⟩, 10), (⟨"ClaySlips$Street", "act", "(I)V"⟩, 8), (⟨"ClaySlips$Street", "holds", "(LClaySlips$Man;I)Z"⟩, 8), (⟨"ClaySlips$Street", "isAlone", "(I)Z"⟩, 8)]
theorem lw_r1 : ∀ q ∈ lw_privs_1, lw_okq q := List.forall_mem_cons.mpr ⟨lw_p0, List.forall_mem_cons.mpr ⟨lw_p1, List.forall_mem_cons.mpr ⟨lw_p2, List.forall_mem_cons.mpr ⟨lw_p3, List.forall_mem_cons.mpr ⟨lw_p4, List.forall_mem_cons.mpr ⟨lw_p5, List.forall_mem_cons.mpr ⟨lw_p6, List.forall_mem_cons.mpr ⟨lw_p7, List.forall_mem_cons.mpr ⟨lw_p8, List.forall_mem_cons.mpr ⟨lw_p9, List.forall_mem_cons.mpr ⟨lw_p10, List.forall_mem_cons.mpr ⟨lw_p11, List.forall_mem_cons.mpr ⟨lw_p12, List.forall_mem_cons.mpr ⟨lw_p13, List.forall_mem_cons.mpr ⟨lw_p14, List.forall_mem_cons.mpr ⟨lw_p15, fun _ h => absurd h List.not_mem_nil⟩⟩⟩⟩⟩⟩⟩⟩⟩⟩⟩⟩⟩⟩⟩⟩
theorem lw_p16 : lw_okq (⟨"ClaySlips$Street", "work", "(LClaySlips$Man;I)V"⟩, 8) := ⟨⟨by decide +kernel, by decide +kernel⟩, List.mem_of_getElem? (i := 23) (by decide +kernel), List.mem_of_getElem? (i := 511) (by decide +kernel), List.mem_of_getElem? (i := 512) (by decide +kernel)⟩
theorem lw_p17 : lw_okq (⟨"ClaySlips$Street", "fetch", "(LClaySlips$Man;)V"⟩, 8) := ⟨⟨by decide +kernel, by decide +kernel⟩, List.mem_of_getElem? (i := 23) (by decide +kernel), List.mem_of_getElem? (i := 515) (by decide +kernel), List.mem_of_getElem? (i := 516) (by decide +kernel)⟩
theorem lw_p18 : lw_okq (⟨"ClaySlips$Street", "put", "(LClaySlips$Man;)V"⟩, 8) := ⟨⟨by decide +kernel, by decide +kernel⟩, List.mem_of_getElem? (i := 23) (by decide +kernel), List.mem_of_getElem? (i := 521) (by decide +kernel), List.mem_of_getElem? (i := 522) (by decide +kernel)⟩
theorem lw_p19 : lw_okq (⟨"ClaySlips", "earlier", "(I)I"⟩, 14) := ⟨⟨by decide +kernel, by decide +kernel⟩, List.mem_of_getElem? (i := 15) (by decide +kernel), List.mem_of_getElem? (i := 584) (by decide +kernel), List.mem_of_getElem? (i := 585) (by decide +kernel)⟩
theorem lw_p20 : lw_okq (⟨"ClaySlips", "waitingAlways", "(II)I"⟩, 14) := ⟨⟨by decide +kernel, by decide +kernel⟩, List.mem_of_getElem? (i := 15) (by decide +kernel), List.mem_of_getElem? (i := 591) (by decide +kernel), List.mem_of_getElem? (i := 592) (by decide +kernel)⟩
theorem lw_p21 : lw_okq (⟨"ClaySlips", "endOfWhole", "()Z"⟩, 14) := ⟨⟨by decide +kernel, by decide +kernel⟩, List.mem_of_getElem? (i := 15) (by decide +kernel), List.mem_of_getElem? (i := 599) (by decide +kernel), List.mem_of_getElem? (i := 600) (by decide +kernel)⟩
theorem lw_p22 : lw_okq (⟨"ClaySlips", "leadsTo", "(IIZ)I"⟩, 14) := ⟨⟨by decide +kernel, by decide +kernel⟩, List.mem_of_getElem? (i := 15) (by decide +kernel), List.mem_of_getElem? (i := 603) (by decide +kernel), List.mem_of_getElem? (i := 604) (by decide +kernel)⟩
theorem lw_p23 : lw_okq (⟨"ClaySlips", "signsLeading", "(IIII)I"⟩, 14) := ⟨⟨by decide +kernel, by decide +kernel⟩, List.mem_of_getElem? (i := 15) (by decide +kernel), List.mem_of_getElem? (i := 652) (by decide +kernel), List.mem_of_getElem? (i := 653) (by decide +kernel)⟩
theorem lw_p24 : lw_okq (⟨"ClaySlips", "leftWhenEmptied", "(III)I"⟩, 14) := ⟨⟨by decide +kernel, by decide +kernel⟩, List.mem_of_getElem? (i := 15) (by decide +kernel), List.mem_of_getElem? (i := 661) (by decide +kernel), List.mem_of_getElem? (i := 662) (by decide +kernel)⟩
theorem lw_p25 : lw_okq (⟨"ClaySlips", "howMany", "(I)I"⟩, 14) := ⟨⟨by decide +kernel, by decide +kernel⟩, List.mem_of_getElem? (i := 15) (by decide +kernel), List.mem_of_getElem? (i := 688) (by decide +kernel), List.mem_of_getElem? (i := 689) (by decide +kernel)⟩
theorem lw_p26 : lw_okq (⟨"ClaySlipsModel", "setStreet", "(II)I"⟩, 25) := ⟨⟨by decide +kernel, by decide +kernel⟩, List.mem_of_getElem? (i := 704) (by decide +kernel), List.mem_of_getElem? (i := 790) (by decide +kernel), List.mem_of_getElem? (i := 791) (by decide +kernel)⟩
theorem lw_p27 : lw_okq (⟨"ClaySlipsModel", "met", "(I)I"⟩, 25) := ⟨⟨by decide +kernel, by decide +kernel⟩, List.mem_of_getElem? (i := 704) (by decide +kernel), List.mem_of_getElem? (i := 799) (by decide +kernel), List.mem_of_getElem? (i := 800) (by decide +kernel)⟩
theorem lw_p28 : lw_okq (⟨"ClaySlipsModel", "setWater", "(III)I"⟩, 25) := ⟨⟨by decide +kernel, by decide +kernel⟩, List.mem_of_getElem? (i := 704) (by decide +kernel), List.mem_of_getElem? (i := 807) (by decide +kernel), List.mem_of_getElem? (i := 808) (by decide +kernel)⟩
theorem lw_p29 : lw_okq (⟨"ClaySlipsModel", "isCell", "(II)Z"⟩, 25) := ⟨⟨by decide +kernel, by decide +kernel⟩, List.mem_of_getElem? (i := 704) (by decide +kernel), List.mem_of_getElem? (i := 811) (by decide +kernel), List.mem_of_getElem? (i := 812) (by decide +kernel)⟩
theorem lw_p30 : lw_okq (⟨"ClaySlipsModel", "addMan", "(III)I"⟩, 25) := ⟨⟨by decide +kernel, by decide +kernel⟩, List.mem_of_getElem? (i := 704) (by decide +kernel), List.mem_of_getElem? (i := 820) (by decide +kernel), List.mem_of_getElem? (i := 821) (by decide +kernel)⟩
theorem lw_p31 : lw_okq (⟨"ClaySlipsModel", "addSign", "(III)I"⟩, 25) := ⟨⟨by decide +kernel, by decide +kernel⟩, List.mem_of_getElem? (i := 704) (by decide +kernel), List.mem_of_getElem? (i := 829) (by decide +kernel), List.mem_of_getElem? (i := 830) (by decide +kernel)⟩
def lw_privs_2 : List (MethodName × Nat) := [(⟨"ClaySlips$Street", "work", "(LClaySlips$Man;I)V"⟩, 8), (⟨"ClaySlips$Street", "fetch", "(LClaySlips$Man;)V"⟩, 8), (⟨"ClaySlips$Street", "put", "(LClaySlips$Man;)V"⟩, 8), (⟨"ClaySlips", "earlier", "(I)I"⟩, 14), (⟨"ClaySlips", "waitingAlways", "(II)I"⟩, 14), (⟨"ClaySlips", "endOfWhole", "()Z"⟩, 14), (⟨"ClaySlips", "leadsTo", "(IIZ)I"⟩, 14), (⟨"ClaySlips", "signsLeading", "(IIII)I"⟩, 14), (⟨"ClaySlips", "leftWhenEmptied", "(III)I"⟩, 14), (⟨"ClaySlips", "howMany", "(I)I"⟩, 14), (⟨"ClaySlipsModel", "setStreet", "(II)I"⟩, 25), (⟨"ClaySlipsModel", "met", "(I)I"⟩, 25), (⟨"ClaySlipsModel", "setWater", "(III)I"⟩, 25), (⟨"ClaySlipsModel", "isCell", "(II)Z"⟩, 25), (⟨"ClaySlipsModel", "addMan", "(III)I"⟩, 25), (⟨"ClaySlipsModel", "addSign", "(III)I"⟩, 25)]
theorem lw_r2 : ∀ q ∈ lw_privs_2, lw_okq q := List.forall_mem_cons.mpr ⟨lw_p16, List.forall_mem_cons.mpr ⟨lw_p17, List.forall_mem_cons.mpr ⟨lw_p18, List.forall_mem_cons.mpr ⟨lw_p19, List.forall_mem_cons.mpr ⟨lw_p20, List.forall_mem_cons.mpr ⟨lw_p21, List.forall_mem_cons.mpr ⟨lw_p22, List.forall_mem_cons.mpr ⟨lw_p23, List.forall_mem_cons.mpr ⟨lw_p24, List.forall_mem_cons.mpr ⟨lw_p25, List.forall_mem_cons.mpr ⟨lw_p26, List.forall_mem_cons.mpr ⟨lw_p27, List.forall_mem_cons.mpr ⟨lw_p28, List.forall_mem_cons.mpr ⟨lw_p29, List.forall_mem_cons.mpr ⟨lw_p30, List.forall_mem_cons.mpr ⟨lw_p31, fun _ h => absurd h List.not_mem_nil⟩⟩⟩⟩⟩⟩⟩⟩⟩⟩⟩⟩⟩⟩⟩⟩
theorem lw_p32 : lw_okq (⟨"ClaySlipsModel", "isMan", "(II)Z"⟩, 25) := ⟨⟨by decide +kernel, by decide +kernel⟩, List.mem_of_getElem? (i := 704) (by decide +kernel), List.mem_of_getElem? (i := 833) (by decide +kernel), List.mem_of_getElem? (i := 834) (by decide +kernel)⟩
theorem lw_p33 : lw_okq (⟨"ClaySlipsModel", "faultOf", "(II)I"⟩, 25) := ⟨⟨by decide +kernel, by decide +kernel⟩, List.mem_of_getElem? (i := 704) (by decide +kernel), List.mem_of_getElem? (i := 838) (by decide +kernel), List.mem_of_getElem? (i := 839) (by decide +kernel)⟩
theorem lw_p34 : lw_okq (⟨"ClaySlipsModel", "bad", "()I"⟩, 25) := ⟨⟨by decide +kernel, by decide +kernel⟩, List.mem_of_getElem? (i := 704) (by decide +kernel), List.mem_of_getElem? (i := 846) (by decide +kernel), List.mem_of_getElem? (i := 847) (by decide +kernel)⟩
theorem lw_p35 : lw_okq (⟨"ClaySlipsModel", "badElse", "()I"⟩, 25) := ⟨⟨by decide +kernel, by decide +kernel⟩, List.mem_of_getElem? (i := 704) (by decide +kernel), List.mem_of_getElem? (i := 854) (by decide +kernel), List.mem_of_getElem? (i := 855) (by decide +kernel)⟩
theorem lw_p36 : lw_okq (⟨"ClaySlipsModel", "isEnd", "()Z"⟩, 25) := ⟨⟨by decide +kernel, by decide +kernel⟩, List.mem_of_getElem? (i := 704) (by decide +kernel), List.mem_of_getElem? (i := 872) (by decide +kernel), List.mem_of_getElem? (i := 873) (by decide +kernel)⟩
theorem lw_p37 : lw_okq (⟨"ClaySlipsModel", "takeItem", "()V"⟩, 25) := ⟨⟨by decide +kernel, by decide +kernel⟩, List.mem_of_getElem? (i := 704) (by decide +kernel), List.mem_of_getElem? (i := 876) (by decide +kernel), List.mem_of_getElem? (i := 877) (by decide +kernel)⟩
theorem lw_p38 : lw_okq (⟨"ClaySlipsModel", "takeNumber", "()I"⟩, 25) := ⟨⟨by decide +kernel, by decide +kernel⟩, List.mem_of_getElem? (i := 704) (by decide +kernel), List.mem_of_getElem? (i := 891) (by decide +kernel), List.mem_of_getElem? (i := 892) (by decide +kernel)⟩
theorem lw_p39 : lw_okq (⟨"ClaySlipsModel", "takeSigns", "()V"⟩, 25) := ⟨⟨by decide +kernel, by decide +kernel⟩, List.mem_of_getElem? (i := 704) (by decide +kernel), List.mem_of_getElem? (i := 897) (by decide +kernel), List.mem_of_getElem? (i := 898) (by decide +kernel)⟩
theorem lw_p40 : lw_okq (⟨"ClaySlipsModel", "tellItem", "(I)I"⟩, 25) := ⟨⟨by decide +kernel, by decide +kernel⟩, List.mem_of_getElem? (i := 704) (by decide +kernel), List.mem_of_getElem? (i := 905) (by decide +kernel), List.mem_of_getElem? (i := 906) (by decide +kernel)⟩
theorem lw_p41 : lw_okq (⟨"ClaySlipsModel", "copy", "(II)V"⟩, 25) := ⟨⟨by decide +kernel, by decide +kernel⟩, List.mem_of_getElem? (i := 704) (by decide +kernel), List.mem_of_getElem? (i := 909) (by decide +kernel), List.mem_of_getElem? (i := 910) (by decide +kernel)⟩
theorem lw_p42 : lw_okq (⟨"ClaySlipsModel", "minds", "()V"⟩, 25) := ⟨⟨by decide +kernel, by decide +kernel⟩, List.mem_of_getElem? (i := 704) (by decide +kernel), List.mem_of_getElem? (i := 917) (by decide +kernel), List.mem_of_getElem? (i := 918) (by decide +kernel)⟩
theorem lw_p43 : lw_okq (⟨"ClaySlipsModel", "layNow", "()V"⟩, 25) := ⟨⟨by decide +kernel, by decide +kernel⟩, List.mem_of_getElem? (i := 704) (by decide +kernel), List.mem_of_getElem? (i := 921) (by decide +kernel), List.mem_of_getElem? (i := 922) (by decide +kernel)⟩
theorem lw_p44 : lw_okq (⟨"ClaySlipsModel", "stoppedOf", "(I)I"⟩, 25) := ⟨⟨by decide +kernel, by decide +kernel⟩, List.mem_of_getElem? (i := 704) (by decide +kernel), List.mem_of_getElem? (i := 925) (by decide +kernel), List.mem_of_getElem? (i := 926) (by decide +kernel)⟩
theorem lw_p45 : lw_okq (⟨"ClaySlipsModel", "layAgainst", "(I)Z"⟩, 25) := ⟨⟨by decide +kernel, by decide +kernel⟩, List.mem_of_getElem? (i := 704) (by decide +kernel), List.mem_of_getElem? (i := 929) (by decide +kernel), List.mem_of_getElem? (i := 930) (by decide +kernel)⟩
theorem lw_p46 : lw_okq (⟨"ClaySlipsModel", "goStep", "()I"⟩, 25) := ⟨⟨by decide +kernel, by decide +kernel⟩, List.mem_of_getElem? (i := 704) (by decide +kernel), List.mem_of_getElem? (i := 933) (by decide +kernel), List.mem_of_getElem? (i := 934) (by decide +kernel)⟩
theorem lw_p47 : lw_okq (⟨"ClaySlipsModel", "isSo", "(II)Z"⟩, 25) := ⟨⟨by decide +kernel, by decide +kernel⟩, List.mem_of_getElem? (i := 704) (by decide +kernel), List.mem_of_getElem? (i := 940) (by decide +kernel), List.mem_of_getElem? (i := 941) (by decide +kernel)⟩
def lw_privs_3 : List (MethodName × Nat) := [(⟨"ClaySlipsModel", "isMan", "(II)Z"⟩, 25), (⟨"ClaySlipsModel", "faultOf", "(II)I"⟩, 25), (⟨"ClaySlipsModel", "bad", "()I"⟩, 25), (⟨"ClaySlipsModel", "badElse", "()I"⟩, 25), (⟨"ClaySlipsModel", "isEnd", "()Z"⟩, 25), (⟨"ClaySlipsModel", "takeItem", "()V"⟩, 25), (⟨"ClaySlipsModel", "takeNumber", "()I"⟩, 25), (⟨"ClaySlipsModel", "takeSigns", "()V"⟩, 25), (⟨"ClaySlipsModel", "tellItem", "(I)I"⟩, 25), (⟨"ClaySlipsModel", "copy", "(II)V"⟩, 25), (⟨"ClaySlipsModel", "minds", "()V"⟩, 25), (⟨"ClaySlipsModel", "layNow", "()V"⟩, 25), (⟨"ClaySlipsModel", "stoppedOf", "(I)I"⟩, 25), (⟨"ClaySlipsModel", "layAgainst", "(I)Z"⟩, 25), (⟨"ClaySlipsModel", "goStep", "()I"⟩, 25), (⟨"ClaySlipsModel", "isSo", "(II)Z"⟩, 25)]
theorem lw_r3 : ∀ q ∈ lw_privs_3, lw_okq q := List.forall_mem_cons.mpr ⟨lw_p32, List.forall_mem_cons.mpr ⟨lw_p33, List.forall_mem_cons.mpr ⟨lw_p34, List.forall_mem_cons.mpr ⟨lw_p35, List.forall_mem_cons.mpr ⟨lw_p36, List.forall_mem_cons.mpr ⟨lw_p37, List.forall_mem_cons.mpr ⟨lw_p38, List.forall_mem_cons.mpr ⟨lw_p39, List.forall_mem_cons.mpr ⟨lw_p40, List.forall_mem_cons.mpr ⟨lw_p41, List.forall_mem_cons.mpr ⟨lw_p42, List.forall_mem_cons.mpr ⟨lw_p43, List.forall_mem_cons.mpr ⟨lw_p44, List.forall_mem_cons.mpr ⟨lw_p45, List.forall_mem_cons.mpr ⟨lw_p46, List.forall_mem_cons.mpr ⟨lw_p47, fun _ h => absurd h List.not_mem_nil⟩⟩⟩⟩⟩⟩⟩⟩⟩⟩⟩⟩⟩⟩⟩⟩
theorem lw_p48 : lw_okq (⟨"ClaySlipsModel", "does", "(II)Z"⟩, 25) := ⟨⟨by decide +kernel, by decide +kernel⟩, List.mem_of_getElem? (i := 704) (by decide +kernel), List.mem_of_getElem? (i := 944) (by decide +kernel), List.mem_of_getElem? (i := 945) (by decide +kernel)⟩
theorem lw_p49 : lw_okq (⟨"ClaySlipsModel", "moves", "(II)V"⟩, 25) := ⟨⟨by decide +kernel, by decide +kernel⟩, List.mem_of_getElem? (i := 704) (by decide +kernel), List.mem_of_getElem? (i := 948) (by decide +kernel), List.mem_of_getElem? (i := 949) (by decide +kernel)⟩
theorem lw_p50 : lw_okq (⟨"ClaySlipsModel", "fetch", "(II)V"⟩, 25) := ⟨⟨by decide +kernel, by decide +kernel⟩, List.mem_of_getElem? (i := 704) (by decide +kernel), List.mem_of_getElem? (i := 952) (by decide +kernel), List.mem_of_getElem? (i := 953) (by decide +kernel)⟩
theorem lw_p51 : lw_okq (⟨"ClaySlipsModel", "isTogether", "(I)Z"⟩, 25) := ⟨⟨by decide +kernel, by decide +kernel⟩, List.mem_of_getElem? (i := 704) (by decide +kernel), List.mem_of_getElem? (i := 959) (by decide +kernel), List.mem_of_getElem? (i := 960) (by decide +kernel)⟩
theorem lw_p52 : lw_okq (⟨"ClaySlipsModel", "going", "()I"⟩, 25) := ⟨⟨by decide +kernel, by decide +kernel⟩, List.mem_of_getElem? (i := 704) (by decide +kernel), List.mem_of_getElem? (i := 963) (by decide +kernel), List.mem_of_getElem? (i := 964) (by decide +kernel)⟩
theorem lw_p53 : lw_okq (⟨"ClaySlipsModel", "goToStop", "()I"⟩, 25) := ⟨⟨by decide +kernel, by decide +kernel⟩, List.mem_of_getElem? (i := 704) (by decide +kernel), List.mem_of_getElem? (i := 989) (by decide +kernel), List.mem_of_getElem? (i := 990) (by decide +kernel)⟩
theorem lw_p54 : lw_okq (⟨"ClaySlipsModel", "keepState", "(I)V"⟩, 25) := ⟨⟨by decide +kernel, by decide +kernel⟩, List.mem_of_getElem? (i := 704) (by decide +kernel), List.mem_of_getElem? (i := 997) (by decide +kernel), List.mem_of_getElem? (i := 998) (by decide +kernel)⟩
theorem lw_p55 : lw_okq (⟨"ClaySlipsModel", "isAlike", "(II)Z"⟩, 25) := ⟨⟨by decide +kernel, by decide +kernel⟩, List.mem_of_getElem? (i := 704) (by decide +kernel), List.mem_of_getElem? (i := 1001) (by decide +kernel), List.mem_of_getElem? (i := 1002) (by decide +kernel)⟩
theorem lw_p56 : lw_okq (⟨"ClaySlipsModel", "isSign", "(II)Z"⟩, 25) := ⟨⟨by decide +kernel, by decide +kernel⟩, List.mem_of_getElem? (i := 704) (by decide +kernel), List.mem_of_getElem? (i := 1009) (by decide +kernel), List.mem_of_getElem? (i := 1010) (by decide +kernel)⟩
theorem lw_p57 : lw_okq (⟨"ClaySlipsModel", "rubbedOf", "(II)I"⟩, 25) := ⟨⟨by decide +kernel, by decide +kernel⟩, List.mem_of_getElem? (i := 704) (by decide +kernel), List.mem_of_getElem? (i := 1013) (by decide +kernel), List.mem_of_getElem? (i := 1014) (by decide +kernel)⟩
theorem lw_p58 : lw_okq (⟨"ClaySlipsModel", "keepEnd", "()V"⟩, 25) := ⟨⟨by decide +kernel, by decide +kernel⟩, List.mem_of_getElem? (i := 704) (by decide +kernel), List.mem_of_getElem? (i := 1017) (by decide +kernel), List.mem_of_getElem? (i := 1018) (by decide +kernel)⟩
theorem lw_p59 : lw_okq (⟨"ClaySlipsModel", "isEnded", "()Z"⟩, 25) := ⟨⟨by decide +kernel, by decide +kernel⟩, List.mem_of_getElem? (i := 704) (by decide +kernel), List.mem_of_getElem? (i := 1021) (by decide +kernel), List.mem_of_getElem? (i := 1022) (by decide +kernel)⟩
theorem lw_p60 : lw_okq (⟨"ClaySlipsModel", "gives", "(IIII)V"⟩, 25) := ⟨⟨by decide +kernel, by decide +kernel⟩, List.mem_of_getElem? (i := 704) (by decide +kernel), List.mem_of_getElem? (i := 1037) (by decide +kernel), List.mem_of_getElem? (i := 1038) (by decide +kernel)⟩
theorem lw_p61 : lw_okq (⟨"ClaySlipsModel", "countOf", "(I)I"⟩, 25) := ⟨⟨by decide +kernel, by decide +kernel⟩, List.mem_of_getElem? (i := 704) (by decide +kernel), List.mem_of_getElem? (i := 1071) (by decide +kernel), List.mem_of_getElem? (i := 1072) (by decide +kernel)⟩
theorem lw_p62 : lw_okq (⟨"ClaySlipsModel", "mix", "(J)V"⟩, 25) := ⟨⟨by decide +kernel, by decide +kernel⟩, List.mem_of_getElem? (i := 704) (by decide +kernel), List.mem_of_getElem? (i := 1080) (by decide +kernel), List.mem_of_getElem? (i := 1081) (by decide +kernel)⟩
def lw_privs_4 : List (MethodName × Nat) := [(⟨"ClaySlipsModel", "does", "(II)Z"⟩, 25), (⟨"ClaySlipsModel", "moves", "(II)V"⟩, 25), (⟨"ClaySlipsModel", "fetch", "(II)V"⟩, 25), (⟨"ClaySlipsModel", "isTogether", "(I)Z"⟩, 25), (⟨"ClaySlipsModel", "going", "()I"⟩, 25), (⟨"ClaySlipsModel", "goToStop", "()I"⟩, 25), (⟨"ClaySlipsModel", "keepState", "(I)V"⟩, 25), (⟨"ClaySlipsModel", "isAlike", "(II)Z"⟩, 25), (⟨"ClaySlipsModel", "isSign", "(II)Z"⟩, 25), (⟨"ClaySlipsModel", "rubbedOf", "(II)I"⟩, 25), (⟨"ClaySlipsModel", "keepEnd", "()V"⟩, 25), (⟨"ClaySlipsModel", "isEnded", "()Z"⟩, 25), (⟨"ClaySlipsModel", "gives", "(IIII)V"⟩, 25), (⟨"ClaySlipsModel", "countOf", "(I)I"⟩, 25), (⟨"ClaySlipsModel", "mix", "(J)V"⟩, 25)]
theorem lw_r4 : ∀ q ∈ lw_privs_4, lw_okq q := List.forall_mem_cons.mpr ⟨lw_p48, List.forall_mem_cons.mpr ⟨lw_p49, List.forall_mem_cons.mpr ⟨lw_p50, List.forall_mem_cons.mpr ⟨lw_p51, List.forall_mem_cons.mpr ⟨lw_p52, List.forall_mem_cons.mpr ⟨lw_p53, List.forall_mem_cons.mpr ⟨lw_p54, List.forall_mem_cons.mpr ⟨lw_p55, List.forall_mem_cons.mpr ⟨lw_p56, List.forall_mem_cons.mpr ⟨lw_p57, List.forall_mem_cons.mpr ⟨lw_p58, List.forall_mem_cons.mpr ⟨lw_p59, List.forall_mem_cons.mpr ⟨lw_p60, List.forall_mem_cons.mpr ⟨lw_p61, List.forall_mem_cons.mpr ⟨lw_p62, fun _ h => absurd h List.not_mem_nil⟩⟩⟩⟩⟩⟩⟩⟩⟩⟩⟩⟩⟩⟩⟩
def lw_privs : List (MethodName × Nat) := lw_privs_1 ++ (lw_privs_2 ++ (lw_privs_3 ++ (lw_privs_4)))
def lw_tbl : List Cond := k2_sels lw_privs ++ tables_1
theorem lw_privs_ok : ∀ q ∈ lw_privs, lw_okq q := by
  show ∀ q ∈ lw_privs_1 ++ (lw_privs_2 ++ (lw_privs_3 ++ (lw_privs_4))), lw_okq q
  exact List.forall_mem_append.mpr ⟨lw_r1, List.forall_mem_append.mpr ⟨lw_r2, List.forall_mem_append.mpr ⟨lw_r3, lw_r4⟩⟩⟩
def RX0 : String := "ClaySlips$Man"
def TX0 : u_T := fun k => match k with
  | 0 => ("ClaySlips$Man", "signs", "[I", true)
  | 1 => ("ClaySlips$Man", "partner", "[I", true)
  | 2 => ("ClaySlips$Man", "length", "I", false)
  | 3 => ("ClaySlips$Man", "flaw", "I", false)
  | 4 => ("ClaySlips$Man", "kind", "I", false)
  | 5 => ("ClaySlips$Man", "cell", "I", false)
  | 6 => ("ClaySlips$Man", "load", "I", false)
  | 7 => ("ClaySlips$Man", "place", "I", false)
  | _ => ("ClaySlips$Man", "halted", "Z", false)
def tyX0 : Nat → FieldType := fun k => match k with
  | 0 => .array .int
  | 1 => .array .int
  | 2 => .int
  | 3 => .int
  | 4 => .int
  | 5 => .int
  | 6 => .int
  | 7 => .int
  | _ => .boolean
abbrev wsX00 : List Cond := u_ws RX0 TX0 9
theorem nmX0 : ∀ a, a < 9 → ∀ b, b < 9 → a ≠ b → (TX0 a).2.1 ≠ (TX0 b).2.1 := by decide +kernel
theorem tyX0_ok : ∀ k, k < 9 → parseFieldDescriptor (TX0 k).2.2.1 = some (tyX0 k) := by decide +kernel
def RX1 : String := "ClaySlips$Past"
def TX1 : u_T := fun k => match k with
  | 0 => ("ClaySlips$Past", "rows", "[[I", true)
  | _ => ("ClaySlips$Past", "kept", "I", false)
def tyX1 : Nat → FieldType := fun k => match k with
  | 0 => .array (.array .int)
  | _ => .int
abbrev wsX10 : List Cond := u_ws RX1 TX1 2
theorem nmX1 : ∀ a, a < 2 → ∀ b, b < 2 → a ≠ b → (TX1 a).2.1 ≠ (TX1 b).2.1 := by decide +kernel
theorem tyX1_ok : ∀ k, k < 2 → parseFieldDescriptor (TX1 k).2.2.1 = some (tyX1 k) := by decide +kernel
def RX2 : String := "ClaySlips$Street"
def TX2 : u_T := fun k => match k with
  | 0 => ("ClaySlips$Street", "water", "[I", true)
  | 1 => ("ClaySlips$Street", "men", "[LClaySlips$Man;", true)
  | 2 => ("ClaySlips$Street", "seenCells", "[I", true)
  | 3 => ("ClaySlips$Street", "mark", "[I", true)
  | 4 => ("ClaySlips$Street", "cells", "I", false)
  | 5 => ("ClaySlips$Street", "menCount", "I", false)
  | 6 => ("ClaySlips$Street", "number", "I", false)
  | _ => ("ClaySlips$Street", "waiting", "I", false)
def tyX2 : Nat → FieldType := fun k => match k with
  | 0 => .array .int
  | 1 => .array (.object "ClaySlips$Man")
  | 2 => .array .int
  | 3 => .array .int
  | 4 => .int
  | 5 => .int
  | 6 => .int
  | _ => .int
abbrev wsX20 : List Cond := u_ws RX2 TX2 8
theorem nmX2 : ∀ a, a < 8 → ∀ b, b < 8 → a ≠ b → (TX2 a).2.1 ≠ (TX2 b).2.1 := by decide +kernel
theorem tyX2_ok : ∀ k, k < 8 → parseFieldDescriptor (TX2 k).2.2.1 = some (tyX2 k) := by decide +kernel
def RX3 : String := "ClaySlips$Text"
def TX3 : u_T := fun k => match k with
  | 0 => ("ClaySlips$Text", "bytes", "[I", true)
  | 1 => ("ClaySlips$Text", "numbers", "[I", true)
  | 2 => ("ClaySlips$Text", "length", "I", false)
  | 3 => ("ClaySlips$Text", "flaw", "I", false)
  | 4 => ("ClaySlips$Text", "refusedItem", "I", false)
  | 5 => ("ClaySlips$Text", "token", "I", false)
  | 6 => ("ClaySlips$Text", "tokenStart", "I", false)
  | 7 => ("ClaySlips$Text", "tokenEnd", "I", false)
  | 8 => ("ClaySlips$Text", "slipStart", "I", false)
  | _ => ("ClaySlips$Text", "slipEnd", "I", false)
def tyX3 : Nat → FieldType := fun k => match k with
  | 0 => .array .int
  | 1 => .array .int
  | 2 => .int
  | 3 => .int
  | 4 => .int
  | 5 => .int
  | 6 => .int
  | 7 => .int
  | 8 => .int
  | _ => .int
abbrev wsX30 : List Cond := u_ws RX3 TX3 10
theorem nmX3 : ∀ a, a < 10 → ∀ b, b < 10 → a ≠ b → (TX3 a).2.1 ≠ (TX3 b).2.1 := by decide +kernel
theorem tyX3_ok : ∀ k, k < 10 → parseFieldDescriptor (TX3 k).2.2.1 = some (tyX3 k) := by decide +kernel
def RX4 : String := "ClaySlips"
def TX4 : u_T := fun k => match k with
  | 0 => ("ClaySlips", "now", "LClaySlips$Street;", true)
  | 1 => ("ClaySlips", "past", "LClaySlips$Past;", true)
  | 2 => ("ClaySlips", "trial", "LClaySlips$Street;", true)
  | 3 => ("ClaySlips", "whole", "LClaySlips$Street;", true)
  | 4 => ("ClaySlips", "imageStreets", "[LClaySlips$Street;", true)
  | 5 => ("ClaySlips", "imagePasts", "[LClaySlips$Past;", true)
  | 6 => ("ClaySlips", "imageKept", "[Z", true)
  | 7 => ("ClaySlips", "text", "LClaySlips$Text;", true)
  | 8 => ("ClaySlips", "behind", "[[I", true)
  | 9 => ("ClaySlips", "waitedBy", "[I", true)
  | 10 => ("ClaySlips", "start", "[I", true)
  | 11 => ("ClaySlips", "badCalls", "I", false)
  | 12 => ("ClaySlips", "noCalls", "I", false)
  | _ => ("ClaySlips", "fullCalls", "I", false)
def tyX4 : Nat → FieldType := fun k => match k with
  | 0 => .object "ClaySlips$Street"
  | 1 => .object "ClaySlips$Past"
  | 2 => .object "ClaySlips$Street"
  | 3 => .object "ClaySlips$Street"
  | 4 => .array (.object "ClaySlips$Street")
  | 5 => .array (.object "ClaySlips$Past")
  | 6 => .array .boolean
  | 7 => .object "ClaySlips$Text"
  | 8 => .array (.array .int)
  | 9 => .array .int
  | 10 => .array .int
  | 11 => .int
  | 12 => .int
  | _ => .int
abbrev wsX40 : List Cond := u_ws RX4 TX4 14
theorem nmX4 : ∀ a, a < 14 → ∀ b, b < 14 → a ≠ b → (TX4 a).2.1 ≠ (TX4 b).2.1 := by decide +kernel
theorem tyX4_ok : ∀ k, k < 14 → parseFieldDescriptor (TX4 k).2.2.1 = some (tyX4 k) := by decide +kernel
def RX5 : String := "ClaySlipsModel"
def TX5 : u_T := fun k => match k with
  | 0 => ("ClaySlipsModel", "w", "[I", true)
  | 1 => ("ClaySlipsModel", "isKept", "[Z", true)
  | 2 => ("ClaySlipsModel", "text", "[I", true)
  | 3 => ("ClaySlipsModel", "texted", "I", false)
  | 4 => ("ClaySlipsModel", "refused", "[I", true)
  | 5 => ("ClaySlipsModel", "itemWord", "[I", true)
  | 6 => ("ClaySlipsModel", "number", "[I", true)
  | 7 => ("ClaySlipsModel", "items", "I", false)
  | 8 => ("ClaySlipsModel", "at", "I", false)
  | 9 => ("ClaySlipsModel", "wrong", "I", false)
  | 10 => ("ClaySlipsModel", "water", "[I", true)
  | 11 => ("ClaySlipsModel", "cells", "[I", true)
  | 12 => ("ClaySlipsModel", "loads", "[I", true)
  | 13 => ("ClaySlipsModel", "places", "[I", true)
  | 14 => ("ClaySlipsModel", "stopped", "[I", true)
  | 15 => ("ClaySlipsModel", "sizes", "[I", true)
  | 16 => ("ClaySlipsModel", "slips", "[I", true)
  | 17 => ("ClaySlipsModel", "against", "[I", true)
  | 18 => ("ClaySlipsModel", "numberNow", "I", false)
  | 19 => ("ClaySlipsModel", "there", "I", false)
  | 20 => ("ClaySlipsModel", "opens", "[I", true)
  | 21 => ("ClaySlipsModel", "states", "[I", true)
  | 22 => ("ClaySlipsModel", "waited", "[I", true)
  | 23 => ("ClaySlipsModel", "ends", "[I", true)
  | _ => ("ClaySlipsModel", "h", "J", false)
def tyX5 : Nat → FieldType := fun k => match k with
  | 0 => .array .int
  | 1 => .array .boolean
  | 2 => .array .int
  | 3 => .int
  | 4 => .array .int
  | 5 => .array .int
  | 6 => .array .int
  | 7 => .int
  | 8 => .int
  | 9 => .int
  | 10 => .array .int
  | 11 => .array .int
  | 12 => .array .int
  | 13 => .array .int
  | 14 => .array .int
  | 15 => .array .int
  | 16 => .array .int
  | 17 => .array .int
  | 18 => .int
  | 19 => .int
  | 20 => .array .int
  | 21 => .array .int
  | 22 => .array .int
  | 23 => .array .int
  | _ => .long
abbrev wsX50 : List Cond := u_ws RX5 TX5 25
theorem nmX5 : ∀ a, a < 25 → ∀ b, b < 25 → a ≠ b → (TX5 a).2.1 ≠ (TX5 b).2.1 := by decide +kernel
theorem tyX5_ok : ∀ k, k < 25 → parseFieldDescriptor (TX5 k).2.2.1 = some (tyX5 k) := by decide +kernel
def xqyl : List MethodName := [⟨RX4, "<init>", "()V"⟩, ⟨RX2, "<init>", "()V"⟩, ⟨RX0, "<init>", "()V"⟩, ⟨RX1, "<init>", "()V"⟩, ⟨RX3, "<init>", "()V"⟩, ⟨RX5, "<init>", "()V"⟩, ⟨RX4, "street", "(I)I"⟩, ⟨RX2, "begin", "(I)I"⟩, ⟨RX4, "refused", "(I)I"⟩, ⟨RX5, "street", "(I)I"⟩, ⟨RX5, "setStreet", "(II)I"⟩, ⟨RX5, "lies", "(JJJ)Z"⟩, ⟨RX5, "met", "(I)I"⟩, ⟨RX4, "water", "(II)I"⟩, ⟨RX2, "pour", "(II)I"⟩, ⟨RX2, "hasCell", "(I)Z"⟩, ⟨RX4, "told", "(I)I"⟩, ⟨RX5, "water", "(II)I"⟩, ⟨RX5, "setWater", "(III)I"⟩, ⟨RX5, "isCell", "(II)Z"⟩, ⟨RX4, "man", "(II)I"⟩, ⟨RX2, "enter", "(II)I"⟩, ⟨RX5, "man", "(II)I"⟩, ⟨RX5, "addMan", "(III)I"⟩, ⟨RX4, "write", "(II)I"⟩, ⟨RX2, "append", "(II)I"⟩, ⟨RX2, "hasMan", "(I)Z"⟩, ⟨RX5, "write", "(II)I"⟩, ⟨RX5, "addSign", "(III)I"⟩, ⟨RX5, "isMan", "(II)Z"⟩, ⟨RX4, "rub", "(I)I"⟩, ⟨RX2, "empty", "(I)I"⟩, ⟨RX5, "rub", "(I)I"⟩, ⟨RX5, "bad", "()I"⟩, ⟨RX4, "fault", "(I)I"⟩, ⟨RX4, "bad", "(I)I"⟩, ⟨RX5, "fault", "(I)I"⟩, ⟨RX5, "badElse", "()I"⟩, ⟨RX4, "type", "(JI)I"⟩, ⟨RX5, "type", "(JI)I"⟩, ⟨RX4, "clear", "()I"⟩, ⟨RX5, "clear", "()I"⟩, ⟨RX4, "read", "()I"⟩, ⟨RX3, "tell", "(LClaySlips$Street;)I"⟩, ⟨RX3, "advanceToken", "()V"⟩, ⟨RX3, "expect", "(Z)Z"⟩, ⟨RX5, "read", "()I"⟩, ⟨RX5, "isEnd", "()Z"⟩, ⟨RX4, "step", "()I"⟩, ⟨RX1, "keep", "(LClaySlips$Street;)V"⟩, ⟨RX2, "save", "([I)V"⟩, ⟨RX2, "advance", "()I"⟩, ⟨RX2, "awake", "()I"⟩, ⟨RX5, "step", "()I"⟩, ⟨RX5, "minds", "()V"⟩, ⟨RX5, "layNow", "()V"⟩, ⟨RX5, "stoppedOf", "(I)I"⟩, ⟨RX5, "layAgainst", "(I)Z"⟩, ⟨RX5, "goStep", "()I"⟩, ⟨RX5, "going", "()I"⟩, ⟨RX4, "undo", "()I"⟩, ⟨RX5, "undo", "()I"⟩, ⟨RX4, "of", "(II)I"⟩, ⟨RX5, "of", "(II)I"⟩, ⟨RX4, "in", "(I)I"⟩, ⟨RX5, "in", "(I)I"⟩, ⟨RX4, "stops", "()I"⟩, ⟨RX2, "copy", "(LClaySlips$Street;)V"⟩, ⟨RX2, "settle", "()I"⟩, ⟨RX5, "stops", "()I"⟩, ⟨RX5, "goToStop", "()I"⟩, ⟨RX4, "again", "(I)I"⟩, ⟨RX4, "earlier", "(I)I"⟩, ⟨RX4, "sameRows", "([I[I)Z"⟩, ⟨RX4, "waitingAlways", "(II)I"⟩, ⟨RX5, "again", "(I)I"⟩, ⟨RX5, "keepState", "(I)V"⟩, ⟨RX5, "isAlike", "(II)Z"⟩, ⟨RX4, "rubbed", "(II)I"⟩, ⟨RX5, "rubbed", "(II)I"⟩, ⟨RX5, "isSign", "(II)Z"⟩, ⟨RX4, "danger", "(I)I"⟩, ⟨RX5, "danger", "(I)I"⟩, ⟨RX4, "thief", "(II)I"⟩, ⟨RX5, "thief", "(II)I"⟩, ⟨RX4, "shortest", "(IIII)I"⟩, ⟨RX5, "shortest", "(IIII)I"⟩, ⟨RX4, "seen", "(II)I"⟩, ⟨RX5, "seen", "(II)I"⟩, ⟨RX4, "said", "(II)I"⟩, ⟨RX5, "said", "(II)I"⟩, ⟨RX4, "emptied", "(III)I"⟩, ⟨RX4, "leftWhenEmptied", "(III)I"⟩, ⟨RX5, "emptied", "(III)I"⟩, ⟨RX4, "image", "(I)I"⟩, ⟨RX1, "copy", "(LClaySlips$Past;)V"⟩, ⟨RX5, "image", "(I)I"⟩, ⟨RX5, "copy", "(II)V"⟩, ⟨RX4, "from", "(I)I"⟩, ⟨RX5, "from", "(I)I"⟩, ⟨RX4, "status", "(I)I"⟩, ⟨RX5, "status", "(I)I"⟩, ⟨RX4, "count", "(I)I"⟩, ⟨RX4, "howMany", "(I)I"⟩, ⟨RX5, "count", "(I)I"⟩, ⟨RX5, "countOf", "(I)I"⟩, ⟨RX4, "digest", "()J"⟩, ⟨RX5, "digest", "()J"⟩, ⟨RX5, "mix", "(J)V"⟩, ⟨RX4, "run", "(III)I"⟩, ⟨RX5, "run", "(III)I"⟩, ⟨RX2, "advanceBy", "(I)V"⟩, ⟨RX4, "endOfWhole", "()Z"⟩, ⟨RX4, "leadsTo", "(IIZ)I"⟩, ⟨RX4, "partOfShort", "(III)I"⟩, ⟨RX4, "shortSign", "(III)I"⟩, ⟨RX4, "signsLeading", "(IIII)I"⟩, ⟨RX4, "goal", "(IIIII)I"⟩, ⟨RX5, "has", "(II)Z"⟩, ⟨RX5, "lesser", "(II)I"⟩, ⟨RX5, "faultOf", "(II)I"⟩, ⟨RX5, "wordOf", "(J)I"⟩, ⟨RX5, "signOf", "(I)I"⟩, ⟨RX5, "takeNumber", "()I"⟩, ⟨RX5, "takeSigns", "()V"⟩, ⟨RX5, "takeItem", "()V"⟩, ⟨RX5, "tellItem", "(I)I"⟩, ⟨RX5, "isSo", "(II)Z"⟩, ⟨RX5, "isTogether", "(I)Z"⟩, ⟨RX5, "fetch", "(II)V"⟩, ⟨RX5, "moves", "(II)V"⟩, ⟨RX5, "does", "(II)Z"⟩, ⟨RX5, "isEnded", "()Z"⟩, ⟨RX5, "keepEnd", "()V"⟩, ⟨RX5, "rubbedOf", "(II)I"⟩, ⟨RX5, "gives", "(IIII)V"⟩, ⟨RX0, "hasStopped", "()Z"⟩, ⟨RX0, "copy", "(LClaySlips$Man;)V"⟩, ⟨RX0, "learn", "()V"⟩, ⟨RX0, "takeWithout", "(LClaySlips$Man;I)V"⟩, ⟨RX0, "takeWith", "(LClaySlips$Man;II)V"⟩, ⟨RX0, "takeShort", "(II)V"⟩, ⟨RX0, "digestOn", "(J)J"⟩, ⟨RX1, "giveBack", "(LClaySlips$Street;)V"⟩, ⟨RX2, "load", "([I)V"⟩, ⟨RX2, "isAt", "([I)Z"⟩, ⟨RX2, "endsAs", "(LClaySlips$Street;)Z"⟩, ⟨RX2, "act", "(I)V"⟩, ⟨RX2, "holds", "(LClaySlips$Man;I)Z"⟩, ⟨RX2, "isAlone", "(I)Z"⟩, ⟨RX2, "work", "(LClaySlips$Man;I)V"⟩, ⟨RX2, "fetch", "(LClaySlips$Man;)V"⟩, ⟨RX2, "put", "(LClaySlips$Man;)V"⟩, ⟨RX3, "readRest", "(I)Z"⟩, ⟨RX3, "obey", "(LClaySlips$Street;I)I"⟩, ⟨RX3, "writeSlip", "(LClaySlips$Street;)I"⟩, ⟨RX3, "value", "()I"⟩, ⟨RX3, "isLetter", "(I)Z"⟩, ⟨RX3, "isFigure", "(I)Z"⟩, ⟨RX3, "takeWord", "()V"⟩, ⟨RX3, "tokenIs", "(Ljava/lang/String;)Z"⟩, ⟨RX3, "takeNumber", "()V"⟩, ⟨RX3, "takeQuoted", "()V"⟩]
def xqcl : List ByteArray := [prog_1_method_1_code, prog_4_method_1_code, prog_2_method_1_code, prog_3_method_1_code, prog_5_method_1_code, prog_7_method_1_code, prog_1_method_2_code, prog_4_method_4_code, prog_1_method_31_code, prog_7_method_18_code, prog_7_method_12_code, prog_7_method_3_code, prog_7_method_6_code, prog_1_method_3_code, prog_4_method_5_code, prog_4_method_3_code, prog_1_method_32_code, prog_7_method_19_code, prog_7_method_13_code, prog_7_method_10_code, prog_1_method_4_code, prog_4_method_6_code, prog_7_method_20_code, prog_7_method_14_code, prog_1_method_5_code, prog_4_method_7_code, prog_4_method_2_code, prog_7_method_21_code, prog_7_method_15_code, prog_7_method_11_code, prog_1_method_6_code, prog_4_method_8_code, prog_7_method_22_code, prog_7_method_7_code, prog_1_method_7_code, prog_1_method_30_code, prog_7_method_23_code, prog_7_method_8_code, prog_1_method_8_code, prog_7_method_24_code, prog_1_method_9_code, prog_7_method_25_code, prog_1_method_10_code, prog_5_method_2_code, prog_5_method_8_code, prog_5_method_3_code, prog_7_method_33_code, prog_7_method_26_code, prog_1_method_11_code, prog_3_method_2_code, prog_4_method_10_code, prog_4_method_15_code, prog_4_method_14_code, prog_7_method_45_code, prog_7_method_44_code, prog_7_method_34_code, prog_7_method_17_code, prog_7_method_35_code, prog_7_method_41_code, prog_7_method_42_code, prog_1_method_12_code, prog_7_method_46_code, prog_1_method_13_code, prog_7_method_47_code, prog_1_method_14_code, prog_7_method_48_code, prog_1_method_16_code, prog_4_method_9_code, prog_4_method_17_code, prog_7_method_50_code, prog_7_method_43_code, prog_1_method_17_code, prog_1_method_34_code, prog_1_method_43_code, prog_1_method_35_code, prog_7_method_53_code, prog_7_method_51_code, prog_7_method_52_code, prog_1_method_18_code, prog_7_method_58_code, prog_7_method_56_code, prog_1_method_19_code, prog_7_method_59_code, prog_1_method_20_code, prog_7_method_60_code, prog_1_method_21_code, prog_7_method_62_code, prog_1_method_22_code, prog_7_method_63_code, prog_1_method_23_code, prog_7_method_64_code, prog_1_method_24_code, prog_1_method_41_code, prog_7_method_65_code, prog_1_method_25_code, prog_3_method_4_code, prog_7_method_66_code, prog_7_method_9_code, prog_1_method_26_code, prog_7_method_67_code, prog_1_method_27_code, prog_7_method_68_code, prog_1_method_28_code, prog_1_method_33_code, prog_7_method_70_code, prog_7_method_69_code, prog_1_method_29_code, prog_7_method_72_code, prog_7_method_71_code, prog_1_method_15_code, prog_7_method_49_code, prog_4_method_16_code, prog_1_method_36_code, prog_1_method_37_code, prog_1_method_38_code, prog_1_method_39_code, prog_1_method_40_code, prog_1_method_42_code, prog_7_method_4_code, prog_7_method_5_code, prog_7_method_16_code, prog_7_method_27_code, prog_7_method_28_code, prog_7_method_29_code, prog_7_method_30_code, prog_7_method_31_code, prog_7_method_32_code, prog_7_method_36_code, prog_7_method_37_code, prog_7_method_38_code, prog_7_method_39_code, prog_7_method_40_code, prog_7_method_54_code, prog_7_method_55_code, prog_7_method_57_code, prog_7_method_61_code, prog_2_method_2_code, prog_2_method_3_code, prog_2_method_4_code, prog_2_method_5_code, prog_2_method_6_code, prog_2_method_7_code, prog_2_method_8_code, prog_3_method_3_code, prog_4_method_11_code, prog_4_method_12_code, prog_4_method_13_code, prog_4_method_18_code, prog_4_method_19_code, prog_4_method_20_code, prog_4_method_21_code, prog_4_method_22_code, prog_4_method_23_code, prog_5_method_4_code, prog_5_method_5_code, prog_5_method_6_code, prog_5_method_7_code, prog_5_method_9_code, prog_5_method_10_code, prog_5_method_11_code, prog_5_method_12_code, prog_5_method_13_code, prog_5_method_14_code]
/-- the class of a method, the place of its code among the words, how many arguments, is it static -/
def xqol : List (Nat × Nat × Nat × Nat) := [(4, 81, 0, 0), (2, 89, 0, 0), (0, 96, 0, 0), (1, 179, 0, 0), (3, 197, 0, 0), (5, 770, 0, 0), (4, 282, 1, 0), (2, 286, 1, 0), (4, 290, 1, 0), (5, 851, 1, 0), (5, 855, 2, 0), (5, 860, 3, 1), (5, 864, 1, 0), (4, 294, 2, 0), (2, 298, 2, 0), (2, 302, 1, 0), (4, 306, 1, 0), (5, 868, 2, 0), (5, 872, 3, 0), (5, 876, 2, 0), (4, 310, 2, 0), (2, 314, 2, 0), (5, 881, 2, 0), (5, 885, 3, 0), (4, 318, 2, 0), (2, 322, 2, 0), (2, 326, 1, 0), (5, 890, 2, 0), (5, 894, 3, 0), (5, 898, 2, 0), (4, 334, 1, 0), (2, 338, 1, 0), (5, 907, 1, 0), (5, 911, 0, 0), (4, 342, 1, 0), (4, 347, 1, 0), (5, 915, 1, 0), (5, 919, 0, 0), (4, 351, 2, 0), (5, 923, 2, 0), (4, 356, 0, 0), (5, 929, 0, 0), (4, 360, 0, 0), (3, 364, 1, 0), (3, 368, 0, 0), (3, 506, 1, 0), (5, 933, 0, 0), (5, 937, 0, 0), (4, 543, 0, 0), (1, 547, 1, 0), (2, 551, 1, 0), (2, 556, 0, 0), (2, 595, 0, 0), (5, 978, 0, 0), (5, 982, 0, 0), (5, 986, 0, 0), (5, 990, 1, 0), (5, 994, 1, 0), (5, 998, 0, 0), (5, 1028, 0, 0), (4, 599, 0, 0), (5, 1032, 0, 0), (4, 611, 2, 0), (5, 1036, 2, 0), (4, 616, 1, 0), (5, 1041, 1, 0), (4, 631, 0, 0), (2, 530, 1, 0), (2, 635, 0, 0), (5, 1050, 0, 0), (5, 1054, 0, 0), (4, 644, 1, 0), (4, 649, 1, 0), (4, 652, 2, 1), (4, 656, 2, 0), (5, 1058, 1, 0), (5, 1062, 1, 0), (5, 1066, 2, 0), (4, 660, 2, 0), (5, 1070, 2, 0), (5, 1074, 2, 0), (4, 681, 1, 0), (5, 1090, 1, 0), (4, 685, 2, 0), (5, 1094, 2, 0), (4, 694, 4, 0), (5, 1098, 4, 0), (4, 709, 2, 0), (5, 1106, 2, 0), (4, 713, 2, 0), (5, 1111, 2, 0), (4, 722, 3, 0), (4, 726, 3, 0), (5, 1115, 3, 0), (4, 732, 1, 0), (1, 736, 1, 0), (5, 1120, 1, 0), (5, 974, 2, 0), (4, 741, 1, 0), (5, 1124, 1, 0), (4, 745, 1, 0), (5, 1128, 1, 0), (4, 749, 1, 0), (4, 753, 1, 0), (5, 1132, 1, 0), (5, 1136, 1, 0), (4, 757, 0, 0), (5, 1140, 0, 0), (5, 1145, 1, 0), (4, 621, 3, 0), (5, 1045, 3, 0), (2, 625, 1, 0), (4, 664, 0, 0), (4, 668, 3, 0), (4, 704, 3, 1), (4, 701, 3, 1), (4, 717, 4, 0), (4, 589, 5, 1), (5, 1001, 2, 1), (5, 1020, 2, 1), (5, 903, 2, 0), (5, 948, 1, 1), (5, 965, 1, 1), (5, 956, 0, 0), (5, 962, 0, 0), (5, 941, 0, 0), (5, 970, 1, 0), (5, 1005, 2, 0), (5, 1024, 1, 0), (5, 1017, 2, 0), (5, 1013, 2, 0), (5, 1009, 2, 0), (5, 1086, 0, 0), (5, 1082, 0, 0), (5, 1078, 2, 0), (5, 1102, 4, 0), (0, 560, 0, 0), (0, 537, 1, 0), (0, 330, 0, 0), (0, 672, 2, 0), (0, 690, 3, 0), (0, 698, 2, 0), (0, 763, 1, 0), (1, 603, 1, 0), (2, 607, 1, 0), (2, 640, 1, 0), (2, 677, 1, 0), (2, 564, 1, 0), (2, 568, 2, 0), (2, 572, 1, 0), (2, 576, 2, 0), (2, 580, 1, 0), (2, 586, 1, 0), (3, 510, 1, 0), (3, 518, 2, 0), (3, 525, 1, 0), (3, 514, 0, 0), (3, 371, 1, 1), (3, 434, 1, 1), (3, 375, 0, 0), (3, 380, 1, 0), (3, 438, 0, 0), (3, 442, 0, 0)]
