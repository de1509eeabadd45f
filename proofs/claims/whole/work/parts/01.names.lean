-- ===== PART A: goes FIRST, ahead of the names: the tables' words, and 'selects' of the private methods out of them =====
/-- a private method of a class that the tables say can be made, by its rows of tables_1 -/
def lw_okq (q : MethodName × Nat) : Prop := (q.1.cls ≠ "java/lang/invoke/MethodHandle" ∧ q.1.cls ≠ "java/lang/invoke/VarHandle") ∧ Cond.instantiable q.1.cls q.2 ∈ tables_1 ∧ Cond.privateMethod q.1 ∈ tables_1 ∧ Cond.instanceMethod q.1 ∈ tables_1
theorem lw_p0 : lw_okq (⟨"RouteEngine$Reader", "readList", "(I)V"⟩, 4) := ⟨⟨by decide +kernel, by decide +kernel⟩, List.mem_of_getElem? (i := 65) (by decide +kernel), List.mem_of_getElem? (i := 314) (by decide +kernel), List.mem_of_getElem? (i := 315) (by decide +kernel)⟩
theorem lw_p1 : lw_okq (⟨"RouteEngine$Reader", "readStep", "(CI)V"⟩, 4) := ⟨⟨by decide +kernel, by decide +kernel⟩, List.mem_of_getElem? (i := 65) (by decide +kernel), List.mem_of_getElem? (i := 322) (by decide +kernel), List.mem_of_getElem? (i := 323) (by decide +kernel)⟩
theorem lw_p2 : lw_okq (⟨"RouteEngine$Reader", "readNumber", "([IIII)V"⟩, 4) := ⟨⟨by decide +kernel, by decide +kernel⟩, List.mem_of_getElem? (i := 65) (by decide +kernel), List.mem_of_getElem? (i := 326) (by decide +kernel), List.mem_of_getElem? (i := 327) (by decide +kernel)⟩
theorem lw_p3 : lw_okq (⟨"RouteEngine$Reader", "readTest", "(I)V"⟩, 4) := ⟨⟨by decide +kernel, by decide +kernel⟩, List.mem_of_getElem? (i := 65) (by decide +kernel), List.mem_of_getElem? (i := 330) (by decide +kernel), List.mem_of_getElem? (i := 331) (by decide +kernel)⟩
theorem lw_p4 : lw_okq (⟨"RouteEngine$Reader", "readOneOf", "(Ljava/lang/String;)V"⟩, 4) := ⟨⟨by decide +kernel, by decide +kernel⟩, List.mem_of_getElem? (i := 65) (by decide +kernel), List.mem_of_getElem? (i := 335) (by decide +kernel), List.mem_of_getElem? (i := 336) (by decide +kernel)⟩
theorem lw_p5 : lw_okq (⟨"RouteEngine$Reader", "readChoice", "(II)V"⟩, 4) := ⟨⟨by decide +kernel, by decide +kernel⟩, List.mem_of_getElem? (i := 65) (by decide +kernel), List.mem_of_getElem? (i := 424) (by decide +kernel), List.mem_of_getElem? (i := 425) (by decide +kernel)⟩
theorem lw_p6 : lw_okq (⟨"RouteEngine$Reader", "readInner", "(I)I"⟩, 4) := ⟨⟨by decide +kernel, by decide +kernel⟩, List.mem_of_getElem? (i := 65) (by decide +kernel), List.mem_of_getElem? (i := 428) (by decide +kernel), List.mem_of_getElem? (i := 429) (by decide +kernel)⟩
theorem lw_p7 : lw_okq (⟨"RouteEngine$Reader", "readSplit", "(II)V"⟩, 4) := ⟨⟨by decide +kernel, by decide +kernel⟩, List.mem_of_getElem? (i := 65) (by decide +kernel), List.mem_of_getElem? (i := 433) (by decide +kernel), List.mem_of_getElem? (i := 434) (by decide +kernel)⟩
theorem lw_p8 : lw_okq (⟨"RouteEngine$Reader", "readGathering", "(II)V"⟩, 4) := ⟨⟨by decide +kernel, by decide +kernel⟩, List.mem_of_getElem? (i := 65) (by decide +kernel), List.mem_of_getElem? (i := 437) (by decide +kernel), List.mem_of_getElem? (i := 438) (by decide +kernel)⟩
theorem lw_p9 : lw_okq (⟨"RouteEngine$Reader", "refuseInner", "(II)V"⟩, 4) := ⟨⟨by decide +kernel, by decide +kernel⟩, List.mem_of_getElem? (i := 65) (by decide +kernel), List.mem_of_getElem? (i := 441) (by decide +kernel), List.mem_of_getElem? (i := 442) (by decide +kernel)⟩
theorem lw_p10 : lw_okq (⟨"RouteEngine$Reader", "readOrdering", "(II)V"⟩, 4) := ⟨⟨by decide +kernel, by decide +kernel⟩, List.mem_of_getElem? (i := 65) (by decide +kernel), List.mem_of_getElem? (i := 446) (by decide +kernel), List.mem_of_getElem? (i := 447) (by decide +kernel)⟩
theorem lw_p11 : lw_okq (⟨"RouteEngine", "runReady", "()I"⟩, 16) := ⟨⟨by decide +kernel, by decide +kernel⟩, List.mem_of_getElem? (i := 20) (by decide +kernel), List.mem_of_getElem? (i := 496) (by decide +kernel), List.mem_of_getElem? (i := 497) (by decide +kernel)⟩
theorem lw_p12 : lw_okq (⟨"RouteEngine", "begin", "(LRouteEngine$Exchange;II)V"⟩, 16) := ⟨⟨by decide +kernel, by decide +kernel⟩, List.mem_of_getElem? (i := 20) (by decide +kernel), List.mem_of_getElem? (i := 501) (by decide +kernel), List.mem_of_getElem? (i := 502) (by decide +kernel)⟩
theorem lw_p13 : lw_okq (⟨"RouteEngine", "runList", "(LRouteEngine$Exchange;II)V"⟩, 16) := ⟨⟨by decide +kernel, by decide +kernel⟩, List.mem_of_getElem? (i := 20) (by decide +kernel), List.mem_of_getElem? (i := 509) (by decide +kernel), List.mem_of_getElem? (i := 510) (by decide +kernel)⟩
theorem lw_p14 : lw_okq (⟨"RouteEngine", "end", "(LRouteEngine$Exchange;I)V"⟩, 16) := ⟨⟨by decide +kernel, by decide +kernel⟩, List.mem_of_getElem? (i := 20) (by decide +kernel), List.mem_of_getElem? (i := 513) (by decide +kernel), List.mem_of_getElem? (i := 514) (by decide +kernel)⟩
theorem lw_p15 : lw_okq (⟨"RouteEngine", "runStep", "(LRouteEngine$Exchange;II)V"⟩, 16) := ⟨⟨by decide +kernel, by decide +kernel⟩, List.mem_of_getElem? (i := 20) (by decide +kernel), List.mem_of_getElem? (i := 522) (by decide +kernel), List.mem_of_getElem? (i := 523) (by decide +kernel)⟩
def lw_privs_1 : List (MethodName × Nat) := [(⟨"RouteEngine$Reader", "readList", "(I)V"⟩, 4), (⟨"RouteEngine$Reader", "readStep", "(CI)V"⟩, 4), (⟨"RouteEngine$Reader", "readNumber", "([IIII)V"⟩, 4), (⟨"RouteEngine$Reader", "readTest", "(I)V"⟩, 4), (⟨"RouteEngine$Reader", "readOneOf", "(Ljava/lang/String;)V"⟩, 4), (⟨"RouteEngine$Reader", "readChoice", "(II)V"⟩, 4), (⟨"RouteEngine$Reader", "readInner", "(I)I"⟩, 4), (⟨"RouteEngine$Reader", "readSplit", "(II)V"⟩, 4), (⟨"RouteEngine$Reader", "readGathering", "(II)V"⟩, 4), (⟨"RouteEngine$Reader", "refuseInner", "(II)V"⟩, 4), (⟨"RouteEngine$Reader", "readOrdering", "(II)V"⟩, 4), (⟨"RouteEngine", "runReady", "()I"⟩, 16), (⟨"RouteEngine", "begin", "(LRouteEngine$Exchange;II)V"⟩, 16), (⟨"RouteEngine", "runList", "(LRouteEngine$Exchange;II)V"⟩, 16), (⟨"RouteEngine", "end", "(LRouteEngine$Exchange;I)V"⟩, 16), (⟨"RouteEngine", "runStep", "(LRouteEngine$Exchange;II)V"⟩, 16)]
theorem lw_r1 : ∀ q ∈ lw_privs_1, lw_okq q := List.forall_mem_cons.mpr ⟨lw_p0, List.forall_mem_cons.mpr ⟨lw_p1, List.forall_mem_cons.mpr ⟨lw_p2, List.forall_mem_cons.mpr ⟨lw_p3, List.forall_mem_cons.mpr ⟨lw_p4, List.forall_mem_cons.mpr ⟨lw_p5, List.forall_mem_cons.mpr ⟨lw_p6, List.forall_mem_cons.mpr ⟨lw_p7, List.forall_mem_cons.mpr ⟨lw_p8, List.forall_mem_cons.mpr ⟨lw_p9, List.forall_mem_cons.mpr ⟨lw_p10, List.forall_mem_cons.mpr ⟨lw_p11, List.forall_mem_cons.mpr ⟨lw_p12, List.forall_mem_cons.mpr ⟨lw_p13, List.forall_mem_cons.mpr ⟨lw_p14, List.forall_mem_cons.mpr ⟨lw_p15, fun _ h => absurd h List.not_mem_nil⟩⟩⟩⟩⟩⟩⟩⟩⟩⟩⟩⟩⟩⟩⟩⟩
theorem lw_p16 : lw_okq (⟨"RouteEngine", "attempt", "(LRouteEngine$Exchange;II)I"⟩, 16) := ⟨⟨by decide +kernel, by decide +kernel⟩, List.mem_of_getElem? (i := 20) (by decide +kernel), List.mem_of_getElem? (i := 526) (by decide +kernel), List.mem_of_getElem? (i := 527) (by decide +kernel)⟩
theorem lw_p17 : lw_okq (⟨"RouteEngine", "runParts", "(LRouteEngine$Exchange;II)V"⟩, 16) := ⟨⟨by decide +kernel, by decide +kernel⟩, List.mem_of_getElem? (i := 20) (by decide +kernel), List.mem_of_getElem? (i := 538) (by decide +kernel), List.mem_of_getElem? (i := 539) (by decide +kernel)⟩
theorem lw_p18 : lw_okq (⟨"RouteEngine", "filter", "(LRouteEngine$Exchange;I)V"⟩, 16) := ⟨⟨by decide +kernel, by decide +kernel⟩, List.mem_of_getElem? (i := 20) (by decide +kernel), List.mem_of_getElem? (i := 545) (by decide +kernel), List.mem_of_getElem? (i := 546) (by decide +kernel)⟩
theorem lw_p19 : lw_okq (⟨"RouteEngine", "endIfDuplicate", "(LRouteEngine$Exchange;I)V"⟩, 16) := ⟨⟨by decide +kernel, by decide +kernel⟩, List.mem_of_getElem? (i := 20) (by decide +kernel), List.mem_of_getElem? (i := 550) (by decide +kernel), List.mem_of_getElem? (i := 551) (by decide +kernel)⟩
theorem lw_p20 : lw_okq (⟨"RouteEngine", "hold", "(LRouteEngine$Exchange;I)V"⟩, 16) := ⟨⟨by decide +kernel, by decide +kernel⟩, List.mem_of_getElem? (i := 20) (by decide +kernel), List.mem_of_getElem? (i := 563) (by decide +kernel), List.mem_of_getElem? (i := 564) (by decide +kernel)⟩
theorem lw_p21 : lw_okq (⟨"RouteEngine", "gather", "(LRouteEngine$Exchange;I)I"⟩, 16) := ⟨⟨by decide +kernel, by decide +kernel⟩, List.mem_of_getElem? (i := 20) (by decide +kernel), List.mem_of_getElem? (i := 571) (by decide +kernel), List.mem_of_getElem? (i := 572) (by decide +kernel)⟩
theorem lw_p22 : lw_okq (⟨"RouteEngine$Groups", "openOf", "(I)I"⟩, 6) := ⟨⟨by decide +kernel, by decide +kernel⟩, List.mem_of_getElem? (i := 174) (by decide +kernel), List.mem_of_getElem? (i := 583) (by decide +kernel), List.mem_of_getElem? (i := 584) (by decide +kernel)⟩
theorem lw_p23 : lw_okq (⟨"RouteEngine", "release", "(I)V"⟩, 16) := ⟨⟨by decide +kernel, by decide +kernel⟩, List.mem_of_getElem? (i := 20) (by decide +kernel), List.mem_of_getElem? (i := 587) (by decide +kernel), List.mem_of_getElem? (i := 588) (by decide +kernel)⟩
theorem lw_p24 : lw_okq (⟨"RouteEngine", "copyToQueue", "(LRouteEngine$Exchange;I)I"⟩, 16) := ⟨⟨by decide +kernel, by decide +kernel⟩, List.mem_of_getElem? (i := 20) (by decide +kernel), List.mem_of_getElem? (i := 595) (by decide +kernel), List.mem_of_getElem? (i := 596) (by decide +kernel)⟩
theorem lw_p25 : lw_okq (⟨"RouteEngine", "deliver", "(LRouteEngine$Exchange;I)I"⟩, 16) := ⟨⟨by decide +kernel, by decide +kernel⟩, List.mem_of_getElem? (i := 20) (by decide +kernel), List.mem_of_getElem? (i := 599) (by decide +kernel), List.mem_of_getElem? (i := 600) (by decide +kernel)⟩
theorem lw_p26 : lw_okq (⟨"RouteEngine", "isRedelivered", "(LRouteEngine$Exchange;II)Z"⟩, 16) := ⟨⟨by decide +kernel, by decide +kernel⟩, List.mem_of_getElem? (i := 20) (by decide +kernel), List.mem_of_getElem? (i := 610) (by decide +kernel), List.mem_of_getElem? (i := 611) (by decide +kernel)⟩
theorem lw_p27 : lw_okq (⟨"RouteEngine", "isDelivery", "(II)Z"⟩, 16) := ⟨⟨by decide +kernel, by decide +kernel⟩, List.mem_of_getElem? (i := 20) (by decide +kernel), List.mem_of_getElem? (i := 639) (by decide +kernel), List.mem_of_getElem? (i := 640) (by decide +kernel)⟩
theorem lw_p28 : lw_okq (⟨"RouteEngineModel", "errorOf", "(I)I"⟩, 61) := ⟨⟨by decide +kernel, by decide +kernel⟩, List.mem_of_getElem? (i := 659) (by decide +kernel), List.mem_of_getElem? (i := 864) (by decide +kernel), List.mem_of_getElem? (i := 865) (by decide +kernel)⟩
theorem lw_p29 : lw_okq (⟨"RouteEngineModel", "look", "(II)C"⟩, 61) := ⟨⟨by decide +kernel, by decide +kernel⟩, List.mem_of_getElem? (i := 659) (by decide +kernel), List.mem_of_getElem? (i := 868) (by decide +kernel), List.mem_of_getElem? (i := 869) (by decide +kernel)⟩
theorem lw_p30 : lw_okq (⟨"RouteEngineModel", "leave", "(II)I"⟩, 61) := ⟨⟨by decide +kernel, by decide +kernel⟩, List.mem_of_getElem? (i := 659) (by decide +kernel), List.mem_of_getElem? (i := 872) (by decide +kernel), List.mem_of_getElem? (i := 873) (by decide +kernel)⟩
theorem lw_p31 : lw_okq (⟨"RouteEngineModel", "must", "(IIZ)Z"⟩, 61) := ⟨⟨by decide +kernel, by decide +kernel⟩, List.mem_of_getElem? (i := 659) (by decide +kernel), List.mem_of_getElem? (i := 876) (by decide +kernel), List.mem_of_getElem? (i := 877) (by decide +kernel)⟩
def lw_privs_2 : List (MethodName × Nat) := [(⟨"RouteEngine", "attempt", "(LRouteEngine$Exchange;II)I"⟩, 16), (⟨"RouteEngine", "runParts", "(LRouteEngine$Exchange;II)V"⟩, 16), (⟨"RouteEngine", "filter", "(LRouteEngine$Exchange;I)V"⟩, 16), (⟨"RouteEngine", "endIfDuplicate", "(LRouteEngine$Exchange;I)V"⟩, 16), (⟨"RouteEngine", "hold", "(LRouteEngine$Exchange;I)V"⟩, 16), (⟨"RouteEngine", "gather", "(LRouteEngine$Exchange;I)I"⟩, 16), (⟨"RouteEngine$Groups", "openOf", "(I)I"⟩, 6), (⟨"RouteEngine", "release", "(I)V"⟩, 16), (⟨"RouteEngine", "copyToQueue", "(LRouteEngine$Exchange;I)I"⟩, 16), (⟨"RouteEngine", "deliver", "(LRouteEngine$Exchange;I)I"⟩, 16), (⟨"RouteEngine", "isRedelivered", "(LRouteEngine$Exchange;II)Z"⟩, 16), (⟨"RouteEngine", "isDelivery", "(II)Z"⟩, 16), (⟨"RouteEngineModel", "errorOf", "(I)I"⟩, 61), (⟨"RouteEngineModel", "look", "(II)C"⟩, 61), (⟨"RouteEngineModel", "leave", "(II)I"⟩, 61), (⟨"RouteEngineModel", "must", "(IIZ)Z"⟩, 61)]
theorem lw_r2 : ∀ q ∈ lw_privs_2, lw_okq q := List.forall_mem_cons.mpr ⟨lw_p16, List.forall_mem_cons.mpr ⟨lw_p17, List.forall_mem_cons.mpr ⟨lw_p18, List.forall_mem_cons.mpr ⟨lw_p19, List.forall_mem_cons.mpr ⟨lw_p20, List.forall_mem_cons.mpr ⟨lw_p21, List.forall_mem_cons.mpr ⟨lw_p22, List.forall_mem_cons.mpr ⟨lw_p23, List.forall_mem_cons.mpr ⟨lw_p24, List.forall_mem_cons.mpr ⟨lw_p25, List.forall_mem_cons.mpr ⟨lw_p26, List.forall_mem_cons.mpr ⟨lw_p27, List.forall_mem_cons.mpr ⟨lw_p28, List.forall_mem_cons.mpr ⟨lw_p29, List.forall_mem_cons.mpr ⟨lw_p30, List.forall_mem_cons.mpr ⟨lw_p31, fun _ h => absurd h List.not_mem_nil⟩⟩⟩⟩⟩⟩⟩⟩⟩⟩⟩⟩⟩⟩⟩⟩
theorem lw_p32 : lw_okq (⟨"RouteEngineModel", "enter", "(III)I"⟩, 61) := ⟨⟨by decide +kernel, by decide +kernel⟩, List.mem_of_getElem? (i := 659) (by decide +kernel), List.mem_of_getElem? (i := 880) (by decide +kernel), List.mem_of_getElem? (i := 881) (by decide +kernel)⟩
theorem lw_p33 : lw_okq (⟨"RouteEngineModel", "stepAt", "(II)I"⟩, 61) := ⟨⟨by decide +kernel, by decide +kernel⟩, List.mem_of_getElem? (i := 659) (by decide +kernel), List.mem_of_getElem? (i := 884) (by decide +kernel), List.mem_of_getElem? (i := 885) (by decide +kernel)⟩
theorem lw_p34 : lw_okq (⟨"RouteEngineModel", "number", "(IIII)I"⟩, 61) := ⟨⟨by decide +kernel, by decide +kernel⟩, List.mem_of_getElem? (i := 659) (by decide +kernel), List.mem_of_getElem? (i := 888) (by decide +kernel), List.mem_of_getElem? (i := 889) (by decide +kernel)⟩
theorem lw_p35 : lw_okq (⟨"RouteEngineModel", "test", "(II)I"⟩, 61) := ⟨⟨by decide +kernel, by decide +kernel⟩, List.mem_of_getElem? (i := 659) (by decide +kernel), List.mem_of_getElem? (i := 895) (by decide +kernel), List.mem_of_getElem? (i := 896) (by decide +kernel)⟩
theorem lw_p36 : lw_okq (⟨"RouteEngineModel", "run", "(IIII)I"⟩, 61) := ⟨⟨by decide +kernel, by decide +kernel⟩, List.mem_of_getElem? (i := 659) (by decide +kernel), List.mem_of_getElem? (i := 915) (by decide +kernel), List.mem_of_getElem? (i := 916) (by decide +kernel)⟩
theorem lw_p37 : lw_okq (⟨"RouteEngineModel", "begin", "(II)V"⟩, 61) := ⟨⟨by decide +kernel, by decide +kernel⟩, List.mem_of_getElem? (i := 659) (by decide +kernel), List.mem_of_getElem? (i := 919) (by decide +kernel), List.mem_of_getElem? (i := 920) (by decide +kernel)⟩
theorem lw_p38 : lw_okq (⟨"RouteEngineModel", "here", "(I)C"⟩, 61) := ⟨⟨by decide +kernel, by decide +kernel⟩, List.mem_of_getElem? (i := 659) (by decide +kernel), List.mem_of_getElem? (i := 924) (by decide +kernel), List.mem_of_getElem? (i := 925) (by decide +kernel)⟩
theorem lw_p39 : lw_okq (⟨"RouteEngineModel", "close", "()I"⟩, 61) := ⟨⟨by decide +kernel, by decide +kernel⟩, List.mem_of_getElem? (i := 659) (by decide +kernel), List.mem_of_getElem? (i := 928) (by decide +kernel), List.mem_of_getElem? (i := 929) (by decide +kernel)⟩
theorem lw_p40 : lw_okq (⟨"RouteEngineModel", "finish", "(I)I"⟩, 61) := ⟨⟨by decide +kernel, by decide +kernel⟩, List.mem_of_getElem? (i := 659) (by decide +kernel), List.mem_of_getElem? (i := 932) (by decide +kernel), List.mem_of_getElem? (i := 933) (by decide +kernel)⟩
theorem lw_p41 : lw_okq (⟨"RouteEngineModel", "part", "()V"⟩, 61) := ⟨⟨by decide +kernel, by decide +kernel⟩, List.mem_of_getElem? (i := 659) (by decide +kernel), List.mem_of_getElem? (i := 936) (by decide +kernel), List.mem_of_getElem? (i := 937) (by decide +kernel)⟩
theorem lw_p42 : lw_okq (⟨"RouteEngineModel", "step", "()I"⟩, 61) := ⟨⟨by decide +kernel, by decide +kernel⟩, List.mem_of_getElem? (i := 659) (by decide +kernel), List.mem_of_getElem? (i := 943) (by decide +kernel), List.mem_of_getElem? (i := 944) (by decide +kernel)⟩
theorem lw_p43 : lw_okq (⟨"RouteEngineModel", "act", "(C)I"⟩, 61) := ⟨⟨by decide +kernel, by decide +kernel⟩, List.mem_of_getElem? (i := 659) (by decide +kernel), List.mem_of_getElem? (i := 947) (by decide +kernel), List.mem_of_getElem? (i := 948) (by decide +kernel)⟩
theorem lw_p44 : lw_okq (⟨"RouteEngineModel", "value", "(I)I"⟩, 61) := ⟨⟨by decide +kernel, by decide +kernel⟩, List.mem_of_getElem? (i := 659) (by decide +kernel), List.mem_of_getElem? (i := 951) (by decide +kernel), List.mem_of_getElem? (i := 952) (by decide +kernel)⟩
theorem lw_p45 : lw_okq (⟨"RouteEngineModel", "change", "(CI)V"⟩, 61) := ⟨⟨by decide +kernel, by decide +kernel⟩, List.mem_of_getElem? (i := 659) (by decide +kernel), List.mem_of_getElem? (i := 955) (by decide +kernel), List.mem_of_getElem? (i := 956) (by decide +kernel)⟩
theorem lw_p46 : lw_okq (⟨"RouteEngineModel", "holds", "(I)Z"⟩, 61) := ⟨⟨by decide +kernel, by decide +kernel⟩, List.mem_of_getElem? (i := 659) (by decide +kernel), List.mem_of_getElem? (i := 959) (by decide +kernel), List.mem_of_getElem? (i := 960) (by decide +kernel)⟩
theorem lw_p47 : lw_okq (⟨"RouteEngineModel", "choose", "(Z)V"⟩, 61) := ⟨⟨by decide +kernel, by decide +kernel⟩, List.mem_of_getElem? (i := 659) (by decide +kernel), List.mem_of_getElem? (i := 963) (by decide +kernel), List.mem_of_getElem? (i := 964) (by decide +kernel)⟩
def lw_privs_3 : List (MethodName × Nat) := [(⟨"RouteEngineModel", "enter", "(III)I"⟩, 61), (⟨"RouteEngineModel", "stepAt", "(II)I"⟩, 61), (⟨"RouteEngineModel", "number", "(IIII)I"⟩, 61), (⟨"RouteEngineModel", "test", "(II)I"⟩, 61), (⟨"RouteEngineModel", "run", "(IIII)I"⟩, 61), (⟨"RouteEngineModel", "begin", "(II)V"⟩, 61), (⟨"RouteEngineModel", "here", "(I)C"⟩, 61), (⟨"RouteEngineModel", "close", "()I"⟩, 61), (⟨"RouteEngineModel", "finish", "(I)I"⟩, 61), (⟨"RouteEngineModel", "part", "()V"⟩, 61), (⟨"RouteEngineModel", "step", "()I"⟩, 61), (⟨"RouteEngineModel", "act", "(C)I"⟩, 61), (⟨"RouteEngineModel", "value", "(I)I"⟩, 61), (⟨"RouteEngineModel", "change", "(CI)V"⟩, 61), (⟨"RouteEngineModel", "holds", "(I)Z"⟩, 61), (⟨"RouteEngineModel", "choose", "(Z)V"⟩, 61)]
theorem lw_r3 : ∀ q ∈ lw_privs_3, lw_okq q := List.forall_mem_cons.mpr ⟨lw_p32, List.forall_mem_cons.mpr ⟨lw_p33, List.forall_mem_cons.mpr ⟨lw_p34, List.forall_mem_cons.mpr ⟨lw_p35, List.forall_mem_cons.mpr ⟨lw_p36, List.forall_mem_cons.mpr ⟨lw_p37, List.forall_mem_cons.mpr ⟨lw_p38, List.forall_mem_cons.mpr ⟨lw_p39, List.forall_mem_cons.mpr ⟨lw_p40, List.forall_mem_cons.mpr ⟨lw_p41, List.forall_mem_cons.mpr ⟨lw_p42, List.forall_mem_cons.mpr ⟨lw_p43, List.forall_mem_cons.mpr ⟨lw_p44, List.forall_mem_cons.mpr ⟨lw_p45, List.forall_mem_cons.mpr ⟨lw_p46, List.forall_mem_cons.mpr ⟨lw_p47, fun _ h => absurd h List.not_mem_nil⟩⟩⟩⟩⟩⟩⟩⟩⟩⟩⟩⟩⟩⟩⟩⟩
theorem lw_p48 : lw_okq (⟨"RouteEngineModel", "behind", "(I)I"⟩, 61) := ⟨⟨by decide +kernel, by decide +kernel⟩, List.mem_of_getElem? (i := 659) (by decide +kernel), List.mem_of_getElem? (i := 967) (by decide +kernel), List.mem_of_getElem? (i := 968) (by decide +kernel)⟩
theorem lw_p49 : lw_okq (⟨"RouteEngineModel", "push", "(II)V"⟩, 61) := ⟨⟨by decide +kernel, by decide +kernel⟩, List.mem_of_getElem? (i := 659) (by decide +kernel), List.mem_of_getElem? (i := 971) (by decide +kernel), List.mem_of_getElem? (i := 972) (by decide +kernel)⟩
theorem lw_p50 : lw_okq (⟨"RouteEngineModel", "split", "(I)V"⟩, 61) := ⟨⟨by decide +kernel, by decide +kernel⟩, List.mem_of_getElem? (i := 659) (by decide +kernel), List.mem_of_getElem? (i := 975) (by decide +kernel), List.mem_of_getElem? (i := 976) (by decide +kernel)⟩
theorem lw_p51 : lw_okq (⟨"RouteEngineModel", "visit", "(I)V"⟩, 61) := ⟨⟨by decide +kernel, by decide +kernel⟩, List.mem_of_getElem? (i := 659) (by decide +kernel), List.mem_of_getElem? (i := 979) (by decide +kernel), List.mem_of_getElem? (i := 980) (by decide +kernel)⟩
theorem lw_p52 : lw_okq (⟨"RouteEngineModel", "copy", "(I)I"⟩, 61) := ⟨⟨by decide +kernel, by decide +kernel⟩, List.mem_of_getElem? (i := 659) (by decide +kernel), List.mem_of_getElem? (i := 983) (by decide +kernel), List.mem_of_getElem? (i := 984) (by decide +kernel)⟩
theorem lw_p53 : lw_okq (⟨"RouteEngineModel", "one", "(I)I"⟩, 61) := ⟨⟨by decide +kernel, by decide +kernel⟩, List.mem_of_getElem? (i := 659) (by decide +kernel), List.mem_of_getElem? (i := 987) (by decide +kernel), List.mem_of_getElem? (i := 988) (by decide +kernel)⟩
theorem lw_p54 : lw_okq (⟨"RouteEngineModel", "to", "(I)I"⟩, 61) := ⟨⟨by decide +kernel, by decide +kernel⟩, List.mem_of_getElem? (i := 659) (by decide +kernel), List.mem_of_getElem? (i := 991) (by decide +kernel), List.mem_of_getElem? (i := 992) (by decide +kernel)⟩
theorem lw_p55 : lw_okq (⟨"RouteEngineModel", "deliver", "(III)V"⟩, 61) := ⟨⟨by decide +kernel, by decide +kernel⟩, List.mem_of_getElem? (i := 659) (by decide +kernel), List.mem_of_getElem? (i := 995) (by decide +kernel), List.mem_of_getElem? (i := 996) (by decide +kernel)⟩
theorem lw_p56 : lw_okq (⟨"RouteEngineModel", "several", "()I"⟩, 61) := ⟨⟨by decide +kernel, by decide +kernel⟩, List.mem_of_getElem? (i := 659) (by decide +kernel), List.mem_of_getElem? (i := 999) (by decide +kernel), List.mem_of_getElem? (i := 1000) (by decide +kernel)⟩
theorem lw_p57 : lw_okq (⟨"RouteEngineModel", "once", "(I)V"⟩, 61) := ⟨⟨by decide +kernel, by decide +kernel⟩, List.mem_of_getElem? (i := 659) (by decide +kernel), List.mem_of_getElem? (i := 1003) (by decide +kernel), List.mem_of_getElem? (i := 1004) (by decide +kernel)⟩
theorem lw_p58 : lw_okq (⟨"RouteEngineModel", "gather", "(I)I"⟩, 61) := ⟨⟨by decide +kernel, by decide +kernel⟩, List.mem_of_getElem? (i := 659) (by decide +kernel), List.mem_of_getElem? (i := 1007) (by decide +kernel), List.mem_of_getElem? (i := 1008) (by decide +kernel)⟩
theorem lw_p59 : lw_okq (⟨"RouteEngineModel", "release", "(I)V"⟩, 61) := ⟨⟨by decide +kernel, by decide +kernel⟩, List.mem_of_getElem? (i := 659) (by decide +kernel), List.mem_of_getElem? (i := 1011) (by decide +kernel), List.mem_of_getElem? (i := 1012) (by decide +kernel)⟩
theorem lw_p60 : lw_okq (⟨"RouteEngineModel", "makeReady", "(III)V"⟩, 61) := ⟨⟨by decide +kernel, by decide +kernel⟩, List.mem_of_getElem? (i := 659) (by decide +kernel), List.mem_of_getElem? (i := 1015) (by decide +kernel), List.mem_of_getElem? (i := 1016) (by decide +kernel)⟩
theorem lw_p61 : lw_okq (⟨"RouteEngineModel", "order", "(I)V"⟩, 61) := ⟨⟨by decide +kernel, by decide +kernel⟩, List.mem_of_getElem? (i := 659) (by decide +kernel), List.mem_of_getElem? (i := 1019) (by decide +kernel), List.mem_of_getElem? (i := 1020) (by decide +kernel)⟩
theorem lw_p62 : lw_okq (⟨"RouteEngineModel", "takeLeast", "(II)V"⟩, 61) := ⟨⟨by decide +kernel, by decide +kernel⟩, List.mem_of_getElem? (i := 659) (by decide +kernel), List.mem_of_getElem? (i := 1023) (by decide +kernel), List.mem_of_getElem? (i := 1024) (by decide +kernel)⟩
theorem lw_p63 : lw_okq (⟨"RouteEngineModel", "clauseFor", "(I)I"⟩, 61) := ⟨⟨by decide +kernel, by decide +kernel⟩, List.mem_of_getElem? (i := 659) (by decide +kernel), List.mem_of_getElem? (i := 1027) (by decide +kernel), List.mem_of_getElem? (i := 1028) (by decide +kernel)⟩
def lw_privs_4 : List (MethodName × Nat) := [(⟨"RouteEngineModel", "behind", "(I)I"⟩, 61), (⟨"RouteEngineModel", "push", "(II)V"⟩, 61), (⟨"RouteEngineModel", "split", "(I)V"⟩, 61), (⟨"RouteEngineModel", "visit", "(I)V"⟩, 61), (⟨"RouteEngineModel", "copy", "(I)I"⟩, 61), (⟨"RouteEngineModel", "one", "(I)I"⟩, 61), (⟨"RouteEngineModel", "to", "(I)I"⟩, 61), (⟨"RouteEngineModel", "deliver", "(III)V"⟩, 61), (⟨"RouteEngineModel", "several", "()I"⟩, 61), (⟨"RouteEngineModel", "once", "(I)V"⟩, 61), (⟨"RouteEngineModel", "gather", "(I)I"⟩, 61), (⟨"RouteEngineModel", "release", "(I)V"⟩, 61), (⟨"RouteEngineModel", "makeReady", "(III)V"⟩, 61), (⟨"RouteEngineModel", "order", "(I)V"⟩, 61), (⟨"RouteEngineModel", "takeLeast", "(II)V"⟩, 61), (⟨"RouteEngineModel", "clauseFor", "(I)I"⟩, 61)]
theorem lw_r4 : ∀ q ∈ lw_privs_4, lw_okq q := List.forall_mem_cons.mpr ⟨lw_p48, List.forall_mem_cons.mpr ⟨lw_p49, List.forall_mem_cons.mpr ⟨lw_p50, List.forall_mem_cons.mpr ⟨lw_p51, List.forall_mem_cons.mpr ⟨lw_p52, List.forall_mem_cons.mpr ⟨lw_p53, List.forall_mem_cons.mpr ⟨lw_p54, List.forall_mem_cons.mpr ⟨lw_p55, List.forall_mem_cons.mpr ⟨lw_p56, List.forall_mem_cons.mpr ⟨lw_p57, List.forall_mem_cons.mpr ⟨lw_p58, List.forall_mem_cons.mpr ⟨lw_p59, List.forall_mem_cons.mpr ⟨lw_p60, List.forall_mem_cons.mpr ⟨lw_p61, List.forall_mem_cons.mpr ⟨lw_p62, List.forall_mem_cons.mpr ⟨lw_p63, fun _ h => absurd h List.not_mem_nil⟩⟩⟩⟩⟩⟩⟩⟩⟩⟩⟩⟩⟩⟩⟩⟩
theorem lw_p64 : lw_okq (⟨"RouteEngineModel", "runReady", "()V"⟩, 61) := ⟨⟨by decide +kernel, by decide +kernel⟩, List.mem_of_getElem? (i := 659) (by decide +kernel), List.mem_of_getElem? (i := 1031) (by decide +kernel), List.mem_of_getElem? (i := 1032) (by decide +kernel)⟩
theorem lw_p65 : lw_okq (⟨"RouteEngineModel", "dueGroup", "()I"⟩, 61) := ⟨⟨by decide +kernel, by decide +kernel⟩, List.mem_of_getElem? (i := 659) (by decide +kernel), List.mem_of_getElem? (i := 1044) (by decide +kernel), List.mem_of_getElem? (i := 1045) (by decide +kernel)⟩
theorem lw_p66 : lw_okq (⟨"RouteEngineModel", "slot", "(II)I"⟩, 61) := ⟨⟨by decide +kernel, by decide +kernel⟩, List.mem_of_getElem? (i := 659) (by decide +kernel), List.mem_of_getElem? (i := 1056) (by decide +kernel), List.mem_of_getElem? (i := 1057) (by decide +kernel)⟩
def lw_privs_5 : List (MethodName × Nat) := [(⟨"RouteEngineModel", "runReady", "()V"⟩, 61), (⟨"RouteEngineModel", "dueGroup", "()I"⟩, 61), (⟨"RouteEngineModel", "slot", "(II)I"⟩, 61)]
theorem lw_r5 : ∀ q ∈ lw_privs_5, lw_okq q := List.forall_mem_cons.mpr ⟨lw_p64, List.forall_mem_cons.mpr ⟨lw_p65, List.forall_mem_cons.mpr ⟨lw_p66, fun _ h => absurd h List.not_mem_nil⟩⟩⟩
def lw_privs : List (MethodName × Nat) := lw_privs_1 ++ (lw_privs_2 ++ (lw_privs_3 ++ (lw_privs_4 ++ (lw_privs_5))))
def lw_tbl : List Cond := k2_sels lw_privs ++ tables_1
theorem lw_privs_ok : ∀ q ∈ lw_privs, lw_okq q := by
  show ∀ q ∈ lw_privs_1 ++ (lw_privs_2 ++ (lw_privs_3 ++ (lw_privs_4 ++ (lw_privs_5)))), lw_okq q
  exact List.forall_mem_append.mpr ⟨lw_r1, List.forall_mem_append.mpr ⟨lw_r2, List.forall_mem_append.mpr ⟨lw_r3, List.forall_mem_append.mpr ⟨lw_r4, lw_r5⟩⟩⟩⟩
-- ===== end of PART A; then your names; then what follows =====
def ze_tbl : List Cond := lw_tbl.filter goodWord
theorem ze_tbl_good : ze_tbl.all goodWord = true := List.all_eq_true.mpr (fun w h => (List.mem_filter.mp h).2)
theorem ze_mem {w : Cond} (h : w ∈ lw_tbl) (g : goodWord w = true) : w ∈ ze_tbl := List.mem_filter.mpr ⟨h, g⟩
theorem ze_tbl_sub {w : Cond} (h : w ∈ ze_tbl) : w ∈ lw_tbl := (List.mem_filter.mp h).1
def cn_E : String := "RouteEngine"
def cn_P : String := "RouteEngine$Program"
def cn_R : String := "RouteEngine$Reader"
def cn_C : String := "RouteEngine$Clauses"
def cn_N : String := "RouteEngine$Endpoint"
def cn_L : String := "RouteEngine$Line"
def cn_G : String := "RouteEngine$Groups"
def cn_K : String := "RouteEngine$Kept"
def cn_H : String := "RouteEngine$Exchange"
def cn_M : String := "RouteEngineModel"
def cn_W : String := "RouteEngineLaw"
def cn_JM : String := "java/lang/Math"
def cn_JA : String := "java/util/Arrays"
def cn_JS : String := "java/lang/String"
def cn_JL : String := "java/lang/StringLatin1"
def ct_E : u_T := fun k => match k with
  | 0 => ("RouteEngine", "lengths", "[I", true)
  | 1 => ("RouteEngine", "written", "LRouteEngine$Program;", true)
  | 2 => ("RouteEngine", "running", "LRouteEngine$Program;", true)
  | 3 => ("RouteEngine", "reader", "LRouteEngine$Reader;", true)
  | 4 => ("RouteEngine", "clauses", "LRouteEngine$Clauses;", true)
  | 5 => ("RouteEngine", "endpoints", "[LRouteEngine$Endpoint;", true)
  | 6 => ("RouteEngine", "queue", "LRouteEngine$Line;", true)
  | 7 => ("RouteEngine", "ready", "LRouteEngine$Line;", true)
  | 8 => ("RouteEngine", "groups", "LRouteEngine$Groups;", true)
  | 9 => ("RouteEngine", "kept", "LRouteEngine$Kept;", true)
  | 10 => ("RouteEngine", "exchanges", "[LRouteEngine$Exchange;", true)
  | 11 => ("RouteEngine", "counts", "[I", true)
  | 12 => ("RouteEngine", "attempts", "I", false)
  | 13 => ("RouteEngine", "time", "I", false)
  | 14 => ("RouteEngine", "held", "I", false)
  | _ => ("RouteEngine", "redeliveries", "I", false)
def cy_E : Nat → FieldType := fun k => match k with
  | 0 => (.array .int)
  | 1 => (.object "RouteEngine$Program")
  | 2 => (.object "RouteEngine$Program")
  | 3 => (.object "RouteEngine$Reader")
  | 4 => (.object "RouteEngine$Clauses")
  | 5 => (.array (.object "RouteEngine$Endpoint"))
  | 6 => (.object "RouteEngine$Line")
  | 7 => (.object "RouteEngine$Line")
  | 8 => (.object "RouteEngine$Groups")
  | 9 => (.object "RouteEngine$Kept")
  | 10 => (.array (.object "RouteEngine$Exchange"))
  | 11 => (.array .int)
  | 12 => .int
  | 13 => .int
  | 14 => .int
  | _ => .int
theorem ce_E : ∀ a, a < 16 → ∀ b, b < 16 → a ≠ b → (ct_E a).2.1 ≠ (ct_E b).2.1 := by decide +kernel
theorem co_E : ∀ k, k < 16 → parseFieldDescriptor (ct_E k).2.2.1 = some (cy_E k) := by decide +kernel
set_option maxRecDepth 100000 in
theorem ci_E : ∀ w ∈ u_ws cn_E ct_E 16, w ∈ ze_tbl := by
  have h : u_ws cn_E ct_E 16 = ([328, 330, 332, 334, 336, 338, 340, 342, 344, 346, 348, 350, 352, 354, 356, 358] : List Nat).filterMap (fun i => lw_tbl[i]?) := by decide +kernel
  have g : (u_ws cn_E ct_E 16).all goodWord = true := by decide +kernel
  intro w hw
  have g1 := List.all_eq_true.mp g w hw
  rw [h] at hw
  obtain ⟨i, -, hi⟩ := List.mem_filterMap.mp hw
  exact ze_mem (List.mem_of_getElem? hi) g1
def ct_P : u_T := fun k => match k with
  | 0 => ("RouteEngine$Program", "text", "[C", true)
  | 1 => ("RouteEngine$Program", "number", "[I", true)
  | 2 => ("RouteEngine$Program", "second", "[I", true)
  | 3 => ("RouteEngine$Program", "inner", "[I", true)
  | 4 => ("RouteEngine$Program", "other", "[I", true)
  | _ => ("RouteEngine$Program", "after", "[I", true)
def cy_P : Nat → FieldType := fun k => match k with
  | 0 => (.array .char)
  | 1 => (.array .int)
  | 2 => (.array .int)
  | 3 => (.array .int)
  | 4 => (.array .int)
  | _ => (.array .int)
theorem ce_P : ∀ a, a < 6 → ∀ b, b < 6 → a ≠ b → (ct_P a).2.1 ≠ (ct_P b).2.1 := by decide +kernel
theorem co_P : ∀ k, k < 6 → parseFieldDescriptor (ct_P k).2.2.1 = some (cy_P k) := by decide +kernel
set_option maxRecDepth 100000 in
theorem ci_P : ∀ w ∈ u_ws cn_P ct_P 6, w ∈ ze_tbl := by
  have h : u_ws cn_P ct_P 6 = ([116, 118, 120, 122, 124, 126] : List Nat).filterMap (fun i => lw_tbl[i]?) := by decide +kernel
  have g : (u_ws cn_P ct_P 6).all goodWord = true := by decide +kernel
  intro w hw
  have g1 := List.all_eq_true.mp g w hw
  rw [h] at hw
  obtain ⟨i, -, hi⟩ := List.mem_filterMap.mp hw
  exact ze_mem (List.mem_of_getElem? hi) g1
def ct_R : u_T := fun k => match k with
  | 0 => ("RouteEngine$Reader", "program", "LRouteEngine$Program;", true)
  | 1 => ("RouteEngine$Reader", "route", "I", false)
  | 2 => ("RouteEngine$Reader", "spot", "I", false)
  | _ => ("RouteEngine$Reader", "error", "I", false)
def cy_R : Nat → FieldType := fun k => match k with
  | 0 => (.object "RouteEngine$Program")
  | 1 => .int
  | 2 => .int
  | _ => .int
theorem ce_R : ∀ a, a < 4 → ∀ b, b < 4 → a ≠ b → (ct_R a).2.1 ≠ (ct_R b).2.1 := by decide +kernel
theorem co_R : ∀ k, k < 4 → parseFieldDescriptor (ct_R k).2.2.1 = some (cy_R k) := by decide +kernel
set_option maxRecDepth 100000 in
theorem ci_R : ∀ w ∈ u_ws cn_R ct_R 4, w ∈ ze_tbl := by
  have h : u_ws cn_R ct_R 4 = ([141, 143, 145, 147] : List Nat).filterMap (fun i => lw_tbl[i]?) := by decide +kernel
  have g : (u_ws cn_R ct_R 4).all goodWord = true := by decide +kernel
  intro w hw
  have g1 := List.all_eq_true.mp g w hw
  rw [h] at hw
  obtain ⟨i, -, hi⟩ := List.mem_filterMap.mp hw
  exact ze_mem (List.mem_of_getElem? hi) g1
def ct_C : u_T := fun k => match k with
  | 0 => ("RouteEngine$Clauses", "numbers", "[I", true)
  | 1 => ("RouteEngine$Clauses", "maximums", "[I", true)
  | 2 => ("RouteEngine$Clauses", "delays", "[I", true)
  | 3 => ("RouteEngine$Clauses", "handled", "[Z", true)
  | 4 => ("RouteEngine$Clauses", "original", "[Z", true)
  | _ => ("RouteEngine$Clauses", "size", "I", false)
def cy_C : Nat → FieldType := fun k => match k with
  | 0 => (.array .int)
  | 1 => (.array .int)
  | 2 => (.array .int)
  | 3 => (.array .boolean)
  | 4 => (.array .boolean)
  | _ => .int
theorem ce_C : ∀ a, a < 6 → ∀ b, b < 6 → a ≠ b → (ct_C a).2.1 ≠ (ct_C b).2.1 := by decide +kernel
theorem co_C : ∀ k, k < 6 → parseFieldDescriptor (ct_C k).2.2.1 = some (cy_C k) := by decide +kernel
set_option maxRecDepth 100000 in
theorem ci_C : ∀ w ∈ u_ws cn_C ct_C 6, w ∈ ze_tbl := by
  have h : u_ws cn_C ct_C 6 = ([167, 169, 171, 173, 175, 177] : List Nat).filterMap (fun i => lw_tbl[i]?) := by decide +kernel
  have g : (u_ws cn_C ct_C 6).all goodWord = true := by decide +kernel
  intro w hw
  have g1 := List.all_eq_true.mp g w hw
  rw [h] at hw
  obtain ⟨i, -, hi⟩ := List.mem_filterMap.mp hw
  exact ze_mem (List.mem_of_getElem? hi) g1
def ct_N : u_T := fun k => match k with
  | 0 => ("RouteEngine$Endpoint", "bodies", "[I", true)
  | 1 => ("RouteEngine$Endpoint", "keys", "[I", true)
  | 2 => ("RouteEngine$Endpoint", "got", "I", false)
  | 3 => ("RouteEngine$Endpoint", "failures", "I", false)
  | _ => ("RouteEngine$Endpoint", "thrown", "I", false)
def cy_N : Nat → FieldType := fun k => match k with
  | 0 => (.array .int)
  | 1 => (.array .int)
  | 2 => .int
  | 3 => .int
  | _ => .int
theorem ce_N : ∀ a, a < 5 → ∀ b, b < 5 → a ≠ b → (ct_N a).2.1 ≠ (ct_N b).2.1 := by decide +kernel
theorem co_N : ∀ k, k < 5 → parseFieldDescriptor (ct_N k).2.2.1 = some (cy_N k) := by decide +kernel
set_option maxRecDepth 100000 in
theorem ci_N : ∀ w ∈ u_ws cn_N ct_N 5, w ∈ ze_tbl := by
  have h : u_ws cn_N ct_N 5 = ([196, 198, 200, 202, 204] : List Nat).filterMap (fun i => lw_tbl[i]?) := by decide +kernel
  have g : (u_ws cn_N ct_N 5).all goodWord = true := by decide +kernel
  intro w hw
  have g1 := List.all_eq_true.mp g w hw
  rw [h] at hw
  obtain ⟨i, -, hi⟩ := List.mem_filterMap.mp hw
  exact ze_mem (List.mem_of_getElem? hi) g1
def ct_L : u_T := fun k => match k with
  | 0 => ("RouteEngine$Line", "most", "I", true)
  | 1 => ("RouteEngine$Line", "spots", "[I", true)
  | 2 => ("RouteEngine$Line", "bodies", "[I", true)
  | 3 => ("RouteEngine$Line", "keys", "[I", true)
  | 4 => ("RouteEngine$Line", "first", "I", false)
  | _ => ("RouteEngine$Line", "size", "I", false)
def cy_L : Nat → FieldType := fun k => match k with
  | 0 => .int
  | 1 => (.array .int)
  | 2 => (.array .int)
  | 3 => (.array .int)
  | 4 => .int
  | _ => .int
theorem ce_L : ∀ a, a < 6 → ∀ b, b < 6 → a ≠ b → (ct_L a).2.1 ≠ (ct_L b).2.1 := by decide +kernel
theorem co_L : ∀ k, k < 6 → parseFieldDescriptor (ct_L k).2.2.1 = some (cy_L k) := by decide +kernel
set_option maxRecDepth 100000 in
theorem ci_L : ∀ w ∈ u_ws cn_L ct_L 6, w ∈ ze_tbl := by
  have h : u_ws cn_L ct_L 6 = ([227, 229, 231, 233, 235, 237] : List Nat).filterMap (fun i => lw_tbl[i]?) := by decide +kernel
  have g : (u_ws cn_L ct_L 6).all goodWord = true := by decide +kernel
  intro w hw
  have g1 := List.all_eq_true.mp g w hw
  rw [h] at hw
  obtain ⟨i, -, hi⟩ := List.mem_filterMap.mp hw
  exact ze_mem (List.mem_of_getElem? hi) g1
def ct_G : u_T := fun k => match k with
  | 0 => ("RouteEngine$Groups", "spots", "[I", true)
  | 1 => ("RouteEngine$Groups", "keys", "[I", true)
  | 2 => ("RouteEngine$Groups", "sums", "[I", true)
  | 3 => ("RouteEngine$Groups", "members", "[I", true)
  | 4 => ("RouteEngine$Groups", "dues", "[I", true)
  | _ => ("RouteEngine$Groups", "size", "I", false)
def cy_G : Nat → FieldType := fun k => match k with
  | 0 => (.array .int)
  | 1 => (.array .int)
  | 2 => (.array .int)
  | 3 => (.array .int)
  | 4 => (.array .int)
  | _ => .int
theorem ce_G : ∀ a, a < 6 → ∀ b, b < 6 → a ≠ b → (ct_G a).2.1 ≠ (ct_G b).2.1 := by decide +kernel
theorem co_G : ∀ k, k < 6 → parseFieldDescriptor (ct_G k).2.2.1 = some (cy_G k) := by decide +kernel
set_option maxRecDepth 100000 in
theorem ci_G : ∀ w ∈ u_ws cn_G ct_G 6, w ∈ ze_tbl := by
  have h : u_ws cn_G ct_G 6 = ([258, 260, 262, 264, 266, 268] : List Nat).filterMap (fun i => lw_tbl[i]?) := by decide +kernel
  have g : (u_ws cn_G ct_G 6).all goodWord = true := by decide +kernel
  intro w hw
  have g1 := List.all_eq_true.mp g w hw
  rw [h] at hw
  obtain ⟨i, -, hi⟩ := List.mem_filterMap.mp hw
  exact ze_mem (List.mem_of_getElem? hi) g1
def ct_K : u_T := fun k => match k with
  | 0 => ("RouteEngine$Kept", "sizes", "[I", true)
  | 1 => ("RouteEngine$Kept", "bodies", "[I", true)
  | _ => ("RouteEngine$Kept", "keys", "[I", true)
def cy_K : Nat → FieldType := fun k => match k with
  | 0 => (.array .int)
  | 1 => (.array .int)
  | _ => (.array .int)
theorem ce_K : ∀ a, a < 3 → ∀ b, b < 3 → a ≠ b → (ct_K a).2.1 ≠ (ct_K b).2.1 := by decide +kernel
theorem co_K : ∀ k, k < 3 → parseFieldDescriptor (ct_K k).2.2.1 = some (cy_K k) := by decide +kernel
set_option maxRecDepth 100000 in
theorem ci_K : ∀ w ∈ u_ws cn_K ct_K 3, w ∈ ze_tbl := by
  have h : u_ws cn_K ct_K 3 = ([283, 285, 287] : List Nat).filterMap (fun i => lw_tbl[i]?) := by decide +kernel
  have g : (u_ws cn_K ct_K 3).all goodWord = true := by decide +kernel
  intro w hw
  have g1 := List.all_eq_true.mp g w hw
  rw [h] at hw
  obtain ⟨i, -, hi⟩ := List.mem_filterMap.mp hw
  exact ze_mem (List.mem_of_getElem? hi) g1
def ct_H : u_T := fun k => match k with
  | 0 => ("RouteEngine$Exchange", "body", "I", false)
  | 1 => ("RouteEngine$Exchange", "key", "I", false)
  | 2 => ("RouteEngine$Exchange", "original", "I", false)
  | _ => ("RouteEngine$Exchange", "outcome", "I", false)
def cy_H : Nat → FieldType := fun k => match k with
  | 0 => .int
  | 1 => .int
  | 2 => .int
  | _ => .int
theorem ce_H : ∀ a, a < 4 → ∀ b, b < 4 → a ≠ b → (ct_H a).2.1 ≠ (ct_H b).2.1 := by decide +kernel
theorem co_H : ∀ k, k < 4 → parseFieldDescriptor (ct_H k).2.2.1 = some (cy_H k) := by decide +kernel
set_option maxRecDepth 100000 in
theorem ci_H : ∀ w ∈ u_ws cn_H ct_H 4, w ∈ ze_tbl := by
  have h : u_ws cn_H ct_H 4 = ([303, 305, 307, 309] : List Nat).filterMap (fun i => lw_tbl[i]?) := by decide +kernel
  have g : (u_ws cn_H ct_H 4).all goodWord = true := by decide +kernel
  intro w hw
  have g1 := List.all_eq_true.mp g w hw
  rw [h] at hw
  obtain ⟨i, -, hi⟩ := List.mem_filterMap.mp hw
  exact ze_mem (List.mem_of_getElem? hi) g1
def ct_M : u_T := fun k => match k with
  | 0 => ("RouteEngineModel", "draft", "[C", true)
  | 1 => ("RouteEngineModel", "draftSize", "[I", true)
  | 2 => ("RouteEngineModel", "text", "[C", true)
  | 3 => ("RouteEngineModel", "size", "[I", true)
  | 4 => ("RouteEngineModel", "open", "[I", true)
  | 5 => ("RouteEngineModel", "depth", "I", false)
  | 6 => ("RouteEngineModel", "error", "I", false)
  | 7 => ("RouteEngineModel", "clauses", "I", false)
  | 8 => ("RouteEngineModel", "cNumber", "[I", true)
  | 9 => ("RouteEngineModel", "cMost", "[I", true)
  | 10 => ("RouteEngineModel", "cDelay", "[I", true)
  | 11 => ("RouteEngineModel", "cHandled", "[Z", true)
  | 12 => ("RouteEngineModel", "cOriginal", "[Z", true)
  | 13 => ("RouteEngineModel", "failures", "[I", true)
  | 14 => ("RouteEngineModel", "thrown", "[I", true)
  | 15 => ("RouteEngineModel", "got", "[I", true)
  | 16 => ("RouteEngineModel", "gotBody", "[I", true)
  | 17 => ("RouteEngineModel", "gotKey", "[I", true)
  | 18 => ("RouteEngineModel", "queued", "I", false)
  | 19 => ("RouteEngineModel", "qRoute", "[I", true)
  | 20 => ("RouteEngineModel", "qBody", "[I", true)
  | 21 => ("RouteEngineModel", "qKey", "[I", true)
  | 22 => ("RouteEngineModel", "groups", "I", false)
  | 23 => ("RouteEngineModel", "gStep", "[I", true)
  | 24 => ("RouteEngineModel", "gKey", "[I", true)
  | 25 => ("RouteEngineModel", "gSum", "[I", true)
  | 26 => ("RouteEngineModel", "gMany", "[I", true)
  | 27 => ("RouteEngineModel", "gDue", "[I", true)
  | 28 => ("RouteEngineModel", "gBehind", "[I", true)
  | 29 => ("RouteEngineModel", "held", "I", false)
  | 30 => ("RouteEngineModel", "hStep", "[I", true)
  | 31 => ("RouteEngineModel", "hBody", "[I", true)
  | 32 => ("RouteEngineModel", "hKey", "[I", true)
  | 33 => ("RouteEngineModel", "kept", "[I", true)
  | 34 => ("RouteEngineModel", "keeps", "[I", true)
  | 35 => ("RouteEngineModel", "next", "I", false)
  | 36 => ("RouteEngineModel", "readies", "I", false)
  | 37 => ("RouteEngineModel", "rPlace", "[I", true)
  | 38 => ("RouteEngineModel", "rBody", "[I", true)
  | 39 => ("RouteEngineModel", "rKey", "[I", true)
  | 40 => ("RouteEngineModel", "level", "I", false)
  | 41 => ("RouteEngineModel", "body", "[I", true)
  | 42 => ("RouteEngineModel", "key", "[I", true)
  | 43 => ("RouteEngineModel", "first", "[I", true)
  | 44 => ("RouteEngineModel", "top", "I", false)
  | 45 => ("RouteEngineModel", "fKind", "[I", true)
  | 46 => ("RouteEngineModel", "fRoute", "[I", true)
  | 47 => ("RouteEngineModel", "fAt", "[I", true)
  | 48 => ("RouteEngineModel", "fList", "[I", true)
  | 49 => ("RouteEngineModel", "fParts", "[I", true)
  | 50 => ("RouteEngineModel", "fPart", "[I", true)
  | 51 => ("RouteEngineModel", "fSum", "[I", true)
  | 52 => ("RouteEngineModel", "fBody", "[I", true)
  | 53 => ("RouteEngineModel", "route", "I", false)
  | 54 => ("RouteEngineModel", "at", "I", false)
  | 55 => ("RouteEngineModel", "after", "I", false)
  | 56 => ("RouteEngineModel", "ended", "I", false)
  | 57 => ("RouteEngineModel", "attempts", "I", false)
  | 58 => ("RouteEngineModel", "time", "I", false)
  | 59 => ("RouteEngineModel", "redeliveries", "I", false)
  | _ => ("RouteEngineModel", "counts", "[I", true)
def cy_M : Nat → FieldType := fun k => match k with
  | 0 => (.array .char)
  | 1 => (.array .int)
  | 2 => (.array .char)
  | 3 => (.array .int)
  | 4 => (.array .int)
  | 5 => .int
  | 6 => .int
  | 7 => .int
  | 8 => (.array .int)
  | 9 => (.array .int)
  | 10 => (.array .int)
  | 11 => (.array .boolean)
  | 12 => (.array .boolean)
  | 13 => (.array .int)
  | 14 => (.array .int)
  | 15 => (.array .int)
  | 16 => (.array .int)
  | 17 => (.array .int)
  | 18 => .int
  | 19 => (.array .int)
  | 20 => (.array .int)
  | 21 => (.array .int)
  | 22 => .int
  | 23 => (.array .int)
  | 24 => (.array .int)
  | 25 => (.array .int)
  | 26 => (.array .int)
  | 27 => (.array .int)
  | 28 => (.array .int)
  | 29 => .int
  | 30 => (.array .int)
  | 31 => (.array .int)
  | 32 => (.array .int)
  | 33 => (.array .int)
  | 34 => (.array .int)
  | 35 => .int
  | 36 => .int
  | 37 => (.array .int)
  | 38 => (.array .int)
  | 39 => (.array .int)
  | 40 => .int
  | 41 => (.array .int)
  | 42 => (.array .int)
  | 43 => (.array .int)
  | 44 => .int
  | 45 => (.array .int)
  | 46 => (.array .int)
  | 47 => (.array .int)
  | 48 => (.array .int)
  | 49 => (.array .int)
  | 50 => (.array .int)
  | 51 => (.array .int)
  | 52 => (.array .int)
  | 53 => .int
  | 54 => .int
  | 55 => .int
  | 56 => .int
  | 57 => .int
  | 58 => .int
  | 59 => .int
  | _ => (.array .int)
theorem ce_M : ∀ a, a < 61 → ∀ b, b < 61 → a ≠ b → (ct_M a).2.1 ≠ (ct_M b).2.1 := by decide +kernel
theorem co_M : ∀ k, k < 61 → parseFieldDescriptor (ct_M k).2.2.1 = some (cy_M k) := by decide +kernel
set_option maxRecDepth 100000 in
theorem ci_M : ∀ w ∈ u_ws cn_M ct_M 61, w ∈ ze_tbl := by
  have h : u_ws cn_M ct_M 61 = ([792, 794, 796, 798, 800, 802, 804, 806, 808, 810, 812, 814, 816, 818, 820, 822, 824, 826, 828, 830, 832, 834, 836, 838, 840, 842, 844, 846, 848, 850, 852, 854, 856, 858, 860, 862, 864, 866, 868, 870, 872, 874, 876, 878, 880, 882, 884, 886, 888, 890, 892, 894, 896, 898, 900, 902, 904, 906, 908, 910, 912] : List Nat).filterMap (fun i => lw_tbl[i]?) := by decide +kernel
  have g : (u_ws cn_M ct_M 61).all goodWord = true := by decide +kernel
  intro w hw
  have g1 := List.all_eq_true.mp g w hw
  rw [h] at hw
  obtain ⟨i, -, hi⟩ := List.mem_filterMap.mp hw
  exact ze_mem (List.mem_of_getElem? hi) g1
abbrev ze_cl : List vw_C := [(cn_E, ct_E, 16), (cn_P, ct_P, 6), (cn_R, ct_R, 4), (cn_C, ct_C, 6), (cn_N, ct_N, 5), (cn_L, ct_L, 6), (cn_G, ct_G, 6), (cn_K, ct_K, 3), (cn_H, ct_H, 4), (cn_M, ct_M, 61)]
abbrev bc_E_init : ByteArray := prog_1_method_1_code
def my_E_init : MethodName := ⟨cn_E, "<init>", "()V"⟩
abbrev bc_E_put : ByteArray := prog_1_method_2_code
def my_E_put : MethodName := ⟨cn_E, "put", "(IC)Z"⟩
abbrev bc_E_clear : ByteArray := prog_1_method_3_code
def my_E_clear : MethodName := ⟨cn_E, "clear", "(I)Z"⟩
abbrev bc_E_read : ByteArray := prog_1_method_4_code
def my_E_read : MethodName := ⟨cn_E, "read", "()I"⟩
abbrev bc_E_clause : ByteArray := prog_1_method_5_code
def my_E_clause : MethodName := ⟨cn_E, "clause", "(IIIZZ)Z"⟩
abbrev bc_E_forget : ByteArray := prog_1_method_6_code
def my_E_forget : MethodName := ⟨cn_E, "forget", "()V"⟩
abbrev bc_E_fail : ByteArray := prog_1_method_7_code
def my_E_fail : MethodName := ⟨cn_E, "fail", "(III)Z"⟩
abbrev bc_E_send : ByteArray := prog_1_method_8_code
def my_E_send : MethodName := ⟨cn_E, "send", "(III)I"⟩
abbrev bc_E_work : ByteArray := prog_1_method_9_code
def my_E_work : MethodName := ⟨cn_E, "work", "()I"⟩
abbrev bc_E_pass : ByteArray := prog_1_method_10_code
def my_E_pass : MethodName := ⟨cn_E, "pass", "(I)I"⟩
abbrev bc_E_delivered : ByteArray := prog_1_method_11_code
def my_E_delivered : MethodName := ⟨cn_E, "delivered", "(I)I"⟩
abbrev bc_E_body : ByteArray := prog_1_method_12_code
def my_E_body : MethodName := ⟨cn_E, "body", "(II)I"⟩
abbrev bc_E_key : ByteArray := prog_1_method_13_code
def my_E_key : MethodName := ⟨cn_E, "key", "(II)I"⟩
abbrev bc_E_group : ByteArray := prog_1_method_14_code
def my_E_group : MethodName := ⟨cn_E, "group", "(II)I"⟩
abbrev bc_E_count : ByteArray := prog_1_method_15_code
def my_E_count : MethodName := ⟨cn_E, "count", "(I)I"⟩
abbrev bc_E_isRoute : ByteArray := prog_1_method_16_code
def my_E_isRoute : MethodName := ⟨cn_E, "isRoute", "(I)Z"⟩
abbrev bc_E_isThrown : ByteArray := prog_1_method_17_code
def my_E_isThrown : MethodName := ⟨cn_E, "isThrown", "(I)Z"⟩
abbrev bc_E_isDelivery : ByteArray := prog_1_method_18_code
def my_E_isDelivery : MethodName := ⟨cn_E, "isDelivery", "(II)Z"⟩
abbrev bc_E_begin : ByteArray := prog_1_method_19_code
def my_E_begin : MethodName := ⟨cn_E, "begin", "(LRouteEngine$Exchange;II)V"⟩
abbrev bc_E_end : ByteArray := prog_1_method_20_code
def my_E_end : MethodName := ⟨cn_E, "end", "(LRouteEngine$Exchange;I)V"⟩
abbrev bc_E_runReady : ByteArray := prog_1_method_21_code
def my_E_runReady : MethodName := ⟨cn_E, "runReady", "()I"⟩
abbrev bc_E_runList : ByteArray := prog_1_method_22_code
def my_E_runList : MethodName := ⟨cn_E, "runList", "(LRouteEngine$Exchange;II)V"⟩
abbrev bc_E_runStep : ByteArray := prog_1_method_23_code
def my_E_runStep : MethodName := ⟨cn_E, "runStep", "(LRouteEngine$Exchange;II)V"⟩
abbrev bc_E_attempt : ByteArray := prog_1_method_24_code
def my_E_attempt : MethodName := ⟨cn_E, "attempt", "(LRouteEngine$Exchange;II)I"⟩
abbrev bc_E_isRedelivered : ByteArray := prog_1_method_25_code
def my_E_isRedelivered : MethodName := ⟨cn_E, "isRedelivered", "(LRouteEngine$Exchange;II)Z"⟩
abbrev bc_E_runParts : ByteArray := prog_1_method_26_code
def my_E_runParts : MethodName := ⟨cn_E, "runParts", "(LRouteEngine$Exchange;II)V"⟩
abbrev bc_E_filter : ByteArray := prog_1_method_27_code
def my_E_filter : MethodName := ⟨cn_E, "filter", "(LRouteEngine$Exchange;I)V"⟩
abbrev bc_E_endIfDuplicate : ByteArray := prog_1_method_28_code
def my_E_endIfDuplicate : MethodName := ⟨cn_E, "endIfDuplicate", "(LRouteEngine$Exchange;I)V"⟩
abbrev bc_E_hold : ByteArray := prog_1_method_29_code
def my_E_hold : MethodName := ⟨cn_E, "hold", "(LRouteEngine$Exchange;I)V"⟩
abbrev bc_E_gather : ByteArray := prog_1_method_30_code
def my_E_gather : MethodName := ⟨cn_E, "gather", "(LRouteEngine$Exchange;I)I"⟩
abbrev bc_E_release : ByteArray := prog_1_method_31_code
def my_E_release : MethodName := ⟨cn_E, "release", "(I)V"⟩
abbrev bc_E_copyToQueue : ByteArray := prog_1_method_32_code
def my_E_copyToQueue : MethodName := ⟨cn_E, "copyToQueue", "(LRouteEngine$Exchange;I)I"⟩
abbrev bc_E_deliver : ByteArray := prog_1_method_33_code
def my_E_deliver : MethodName := ⟨cn_E, "deliver", "(LRouteEngine$Exchange;I)I"⟩
abbrev bc_P_init : ByteArray := prog_8_method_1_code
def my_P_init : MethodName := ⟨cn_P, "<init>", "()V"⟩
abbrev bc_P_at : ByteArray := prog_8_method_2_code
def my_P_at : MethodName := ⟨cn_P, "at", "(I)C"⟩
abbrev bc_P_isStep : ByteArray := prog_8_method_3_code
def my_P_isStep : MethodName := ⟨cn_P, "isStep", "(I)Z"⟩
abbrev bc_P_holds : ByteArray := prog_8_method_4_code
def my_P_holds : MethodName := ⟨cn_P, "holds", "(LRouteEngine$Exchange;I)Z"⟩
abbrev bc_P_listFor : ByteArray := prog_8_method_5_code
def my_P_listFor : MethodName := ⟨cn_P, "listFor", "(LRouteEngine$Exchange;I)I"⟩
abbrev bc_P_copyFrom : ByteArray := prog_8_method_6_code
def my_P_copyFrom : MethodName := ⟨cn_P, "copyFrom", "(LRouteEngine$Program;)V"⟩
abbrev bc_R_init : ByteArray := prog_9_method_1_code
def my_R_init : MethodName := ⟨cn_R, "<init>", "(LRouteEngine$Program;)V"⟩
abbrev bc_R_firstError : ByteArray := prog_9_method_2_code
def my_R_firstError : MethodName := ⟨cn_R, "firstError", "(I)I"⟩
abbrev bc_R_readList : ByteArray := prog_9_method_3_code
def my_R_readList : MethodName := ⟨cn_R, "readList", "(I)V"⟩
abbrev bc_R_readStep : ByteArray := prog_9_method_4_code
def my_R_readStep : MethodName := ⟨cn_R, "readStep", "(CI)V"⟩
abbrev bc_R_readNumber : ByteArray := prog_9_method_5_code
def my_R_readNumber : MethodName := ⟨cn_R, "readNumber", "([IIII)V"⟩
abbrev bc_R_readOneOf : ByteArray := prog_9_method_6_code
def my_R_readOneOf : MethodName := ⟨cn_R, "readOneOf", "(Ljava/lang/String;)V"⟩
abbrev bc_R_readTest : ByteArray := prog_9_method_7_code
def my_R_readTest : MethodName := ⟨cn_R, "readTest", "(I)V"⟩
abbrev bc_R_readInner : ByteArray := prog_9_method_8_code
def my_R_readInner : MethodName := ⟨cn_R, "readInner", "(I)I"⟩
abbrev bc_R_readChoice : ByteArray := prog_9_method_9_code
def my_R_readChoice : MethodName := ⟨cn_R, "readChoice", "(II)V"⟩
abbrev bc_R_readSplit : ByteArray := prog_9_method_10_code
def my_R_readSplit : MethodName := ⟨cn_R, "readSplit", "(II)V"⟩
abbrev bc_R_readGathering : ByteArray := prog_9_method_11_code
def my_R_readGathering : MethodName := ⟨cn_R, "readGathering", "(II)V"⟩
abbrev bc_R_readOrdering : ByteArray := prog_9_method_12_code
def my_R_readOrdering : MethodName := ⟨cn_R, "readOrdering", "(II)V"⟩
abbrev bc_R_refuseInner : ByteArray := prog_9_method_13_code
def my_R_refuseInner : MethodName := ⟨cn_R, "refuseInner", "(II)V"⟩
abbrev bc_C_init : ByteArray := prog_2_method_1_code
def my_C_init : MethodName := ⟨cn_C, "<init>", "()V"⟩
abbrev bc_C_add : ByteArray := prog_2_method_2_code
def my_C_add : MethodName := ⟨cn_C, "add", "(IIIZZ)Z"⟩
abbrev bc_C_firstFor : ByteArray := prog_2_method_3_code
def my_C_firstFor : MethodName := ⟨cn_C, "firstFor", "(I)I"⟩
abbrev bc_N_init : ByteArray := prog_3_method_1_code
def my_N_init : MethodName := ⟨cn_N, "<init>", "()V"⟩
abbrev bc_N_accept : ByteArray := prog_3_method_2_code
def my_N_accept : MethodName := ⟨cn_N, "accept", "(II)V"⟩
abbrev bc_N_slotBefore : ByteArray := prog_3_method_3_code
def my_N_slotBefore : MethodName := ⟨cn_N, "slotBefore", "(I)I"⟩
abbrev bc_L_init : ByteArray := prog_7_method_1_code
def my_L_init : MethodName := ⟨cn_L, "<init>", "(I)V"⟩
abbrev bc_L_add : ByteArray := prog_7_method_2_code
def my_L_add : MethodName := ⟨cn_L, "add", "(III)Z"⟩
abbrev bc_L_dropFirst : ByteArray := prog_7_method_3_code
def my_L_dropFirst : MethodName := ⟨cn_L, "dropFirst", "()V"⟩
abbrev bc_L_empty : ByteArray := prog_7_method_4_code
def my_L_empty : MethodName := ⟨cn_L, "empty", "()V"⟩
abbrev bc_G_init : ByteArray := prog_5_method_1_code
def my_G_init : MethodName := ⟨cn_G, "<init>", "()V"⟩
abbrev bc_G_find : ByteArray := prog_5_method_2_code
def my_G_find : MethodName := ⟨cn_G, "find", "(II)I"⟩
abbrev bc_G_firstDue : ByteArray := prog_5_method_3_code
def my_G_firstDue : MethodName := ⟨cn_G, "firstDue", "(I)I"⟩
abbrev bc_G_open : ByteArray := prog_5_method_4_code
def my_G_open : MethodName := ⟨cn_G, "open", "(III)I"⟩
abbrev bc_G_openOf : ByteArray := prog_5_method_5_code
def my_G_openOf : MethodName := ⟨cn_G, "openOf", "(I)I"⟩
abbrev bc_G_remove : ByteArray := prog_5_method_6_code
def my_G_remove : MethodName := ⟨cn_G, "remove", "(I)V"⟩
abbrev bc_K_init : ByteArray := prog_6_method_1_code
def my_K_init : MethodName := ⟨cn_K, "<init>", "()V"⟩
abbrev bc_K_empty : ByteArray := prog_6_method_2_code
def my_K_empty : MethodName := ⟨cn_K, "empty", "()V"⟩
abbrev bc_K_has : ByteArray := prog_6_method_3_code
def my_K_has : MethodName := ⟨cn_K, "has", "(II)Z"⟩
abbrev bc_K_addLatest : ByteArray := prog_6_method_4_code
def my_K_addLatest : MethodName := ⟨cn_K, "addLatest", "(II)V"⟩
abbrev bc_K_addInOrder : ByteArray := prog_6_method_5_code
def my_K_addInOrder : MethodName := ⟨cn_K, "addInOrder", "(III)V"⟩
abbrev bc_H_init : ByteArray := prog_4_method_1_code
def my_H_init : MethodName := ⟨cn_H, "<init>", "()V"⟩
abbrev bc_M_init : ByteArray := prog_11_method_1_code
def my_M_init : MethodName := ⟨cn_M, "<init>", "()V"⟩
abbrev bc_M_outside : ByteArray := prog_11_method_2_code
def my_M_outside : MethodName := ⟨cn_M, "outside", "(III)Z"⟩
abbrev bc_M_put : ByteArray := prog_11_method_3_code
def my_M_put : MethodName := ⟨cn_M, "put", "(IC)Z"⟩
abbrev bc_M_clear : ByteArray := prog_11_method_4_code
def my_M_clear : MethodName := ⟨cn_M, "clear", "(I)Z"⟩
abbrev bc_M_digit : ByteArray := prog_11_method_5_code
def my_M_digit : MethodName := ⟨cn_M, "digit", "(C)Z"⟩
abbrev bc_M_look : ByteArray := prog_11_method_6_code
def my_M_look : MethodName := ⟨cn_M, "look", "(II)C"⟩
abbrev bc_M_must : ByteArray := prog_11_method_7_code
def my_M_must : MethodName := ⟨cn_M, "must", "(IIZ)Z"⟩
abbrev bc_M_number : ByteArray := prog_11_method_8_code
def my_M_number : MethodName := ⟨cn_M, "number", "(IIII)I"⟩
abbrev bc_M_test : ByteArray := prog_11_method_9_code
def my_M_test : MethodName := ⟨cn_M, "test", "(II)I"⟩
abbrev bc_M_enter : ByteArray := prog_11_method_10_code
def my_M_enter : MethodName := ⟨cn_M, "enter", "(III)I"⟩
abbrev bc_M_leave : ByteArray := prog_11_method_11_code
def my_M_leave : MethodName := ⟨cn_M, "leave", "(II)I"⟩
abbrev bc_M_stepAt : ByteArray := prog_11_method_12_code
def my_M_stepAt : MethodName := ⟨cn_M, "stepAt", "(II)I"⟩
abbrev bc_M_errorOf : ByteArray := prog_11_method_13_code
def my_M_errorOf : MethodName := ⟨cn_M, "errorOf", "(I)I"⟩
abbrev bc_M_read : ByteArray := prog_11_method_14_code
def my_M_read : MethodName := ⟨cn_M, "read", "()I"⟩
abbrev bc_M_clause : ByteArray := prog_11_method_15_code
def my_M_clause : MethodName := ⟨cn_M, "clause", "(IIIZZ)Z"⟩
abbrev bc_M_forget : ByteArray := prog_11_method_16_code
def my_M_forget : MethodName := ⟨cn_M, "forget", "()V"⟩
abbrev bc_M_fail : ByteArray := prog_11_method_17_code
def my_M_fail : MethodName := ⟨cn_M, "fail", "(III)Z"⟩
abbrev bc_M_clauseFor : ByteArray := prog_11_method_18_code
def my_M_clauseFor : MethodName := ⟨cn_M, "clauseFor", "(I)I"⟩
abbrev bc_M_here : ByteArray := prog_11_method_19_code
def my_M_here : MethodName := ⟨cn_M, "here", "(I)C"⟩
abbrev bc_M_value : ByteArray := prog_11_method_20_code
def my_M_value : MethodName := ⟨cn_M, "value", "(I)I"⟩
abbrev bc_M_holds : ByteArray := prog_11_method_21_code
def my_M_holds : MethodName := ⟨cn_M, "holds", "(I)Z"⟩
abbrev bc_M_behind : ByteArray := prog_11_method_22_code
def my_M_behind : MethodName := ⟨cn_M, "behind", "(I)I"⟩
abbrev bc_M_down : ByteArray := prog_11_method_23_code
def my_M_down : MethodName := ⟨cn_M, "down", "(II)I"⟩
abbrev bc_M_begin : ByteArray := prog_11_method_24_code
def my_M_begin : MethodName := ⟨cn_M, "begin", "(II)V"⟩
abbrev bc_M_push : ByteArray := prog_11_method_25_code
def my_M_push : MethodName := ⟨cn_M, "push", "(II)V"⟩
abbrev bc_M_part : ByteArray := prog_11_method_26_code
def my_M_part : MethodName := ⟨cn_M, "part", "()V"⟩
abbrev bc_M_finish : ByteArray := prog_11_method_27_code
def my_M_finish : MethodName := ⟨cn_M, "finish", "(I)I"⟩
abbrev bc_M_close : ByteArray := prog_11_method_28_code
def my_M_close : MethodName := ⟨cn_M, "close", "()I"⟩
abbrev bc_M_run : ByteArray := prog_11_method_29_code
def my_M_run : MethodName := ⟨cn_M, "run", "(IIII)I"⟩
abbrev bc_M_step : ByteArray := prog_11_method_30_code
def my_M_step : MethodName := ⟨cn_M, "step", "()I"⟩
abbrev bc_M_act : ByteArray := prog_11_method_31_code
def my_M_act : MethodName := ⟨cn_M, "act", "(C)I"⟩
abbrev bc_M_change : ByteArray := prog_11_method_32_code
def my_M_change : MethodName := ⟨cn_M, "change", "(CI)V"⟩
abbrev bc_M_choose : ByteArray := prog_11_method_33_code
def my_M_choose : MethodName := ⟨cn_M, "choose", "(Z)V"⟩
abbrev bc_M_split : ByteArray := prog_11_method_34_code
def my_M_split : MethodName := ⟨cn_M, "split", "(I)V"⟩
abbrev bc_M_visit : ByteArray := prog_11_method_35_code
def my_M_visit : MethodName := ⟨cn_M, "visit", "(I)V"⟩
abbrev bc_M_copy : ByteArray := prog_11_method_36_code
def my_M_copy : MethodName := ⟨cn_M, "copy", "(I)I"⟩
abbrev bc_M_deliver : ByteArray := prog_11_method_37_code
def my_M_deliver : MethodName := ⟨cn_M, "deliver", "(III)V"⟩
abbrev bc_M_to : ByteArray := prog_11_method_38_code
def my_M_to : MethodName := ⟨cn_M, "to", "(I)I"⟩
abbrev bc_M_one : ByteArray := prog_11_method_39_code
def my_M_one : MethodName := ⟨cn_M, "one", "(I)I"⟩
abbrev bc_M_several : ByteArray := prog_11_method_40_code
def my_M_several : MethodName := ⟨cn_M, "several", "()I"⟩
abbrev bc_M_once : ByteArray := prog_11_method_41_code
def my_M_once : MethodName := ⟨cn_M, "once", "(I)V"⟩
abbrev bc_M_makeReady : ByteArray := prog_11_method_42_code
def my_M_makeReady : MethodName := ⟨cn_M, "makeReady", "(III)V"⟩
abbrev bc_M_release : ByteArray := prog_11_method_43_code
def my_M_release : MethodName := ⟨cn_M, "release", "(I)V"⟩
abbrev bc_M_gather : ByteArray := prog_11_method_44_code
def my_M_gather : MethodName := ⟨cn_M, "gather", "(I)I"⟩
abbrev bc_M_order : ByteArray := prog_11_method_45_code
def my_M_order : MethodName := ⟨cn_M, "order", "(I)V"⟩
abbrev bc_M_takeLeast : ByteArray := prog_11_method_46_code
def my_M_takeLeast : MethodName := ⟨cn_M, "takeLeast", "(II)V"⟩
abbrev bc_M_runReady : ByteArray := prog_11_method_47_code
def my_M_runReady : MethodName := ⟨cn_M, "runReady", "()V"⟩
abbrev bc_M_send : ByteArray := prog_11_method_48_code
def my_M_send : MethodName := ⟨cn_M, "send", "(III)I"⟩
abbrev bc_M_work : ByteArray := prog_11_method_49_code
def my_M_work : MethodName := ⟨cn_M, "work", "()I"⟩
abbrev bc_M_dueGroup : ByteArray := prog_11_method_50_code
def my_M_dueGroup : MethodName := ⟨cn_M, "dueGroup", "()I"⟩
abbrev bc_M_pass : ByteArray := prog_11_method_51_code
def my_M_pass : MethodName := ⟨cn_M, "pass", "(I)I"⟩
abbrev bc_M_delivered : ByteArray := prog_11_method_52_code
def my_M_delivered : MethodName := ⟨cn_M, "delivered", "(I)I"⟩
abbrev bc_M_slot : ByteArray := prog_11_method_53_code
def my_M_slot : MethodName := ⟨cn_M, "slot", "(II)I"⟩
abbrev bc_M_body : ByteArray := prog_11_method_54_code
def my_M_body : MethodName := ⟨cn_M, "body", "(II)I"⟩
abbrev bc_M_key : ByteArray := prog_11_method_55_code
def my_M_key : MethodName := ⟨cn_M, "key", "(II)I"⟩
abbrev bc_M_group : ByteArray := prog_11_method_56_code
def my_M_group : MethodName := ⟨cn_M, "group", "(II)I"⟩
abbrev bc_M_count : ByteArray := prog_11_method_57_code
def my_M_count : MethodName := ⟨cn_M, "count", "(I)I"⟩
abbrev bc_JM_floorMod : ByteArray := prog_13_method_50_code
def my_JM_floorMod : MethodName := ⟨cn_JM, "floorMod", "(II)I"⟩
abbrev bc_JM_floorDiv : ByteArray := prog_13_method_47_code
def my_JM_floorDiv : MethodName := ⟨cn_JM, "floorDiv", "(II)I"⟩
abbrev bc_JA_fill : ByteArray := prog_18_method_103_code
def my_JA_fill : MethodName := ⟨cn_JA, "fill", "([II)V"⟩
abbrev bc_JS_indexOf0 : ByteArray := prog_14_method_79_code
def my_JS_indexOf0 : MethodName := ⟨cn_JS, "indexOf", "(I)I"⟩
abbrev bc_JS_indexOf1 : ByteArray := prog_14_method_80_code
def my_JS_indexOf1 : MethodName := ⟨cn_JS, "indexOf", "(II)I"⟩
abbrev bc_JS_isLatin1 : ByteArray := prog_14_method_154_code
def my_JS_isLatin1 : MethodName := ⟨cn_JS, "isLatin1", "()Z"⟩
abbrev bc_JS_length : ByteArray := prog_14_method_54_code
def my_JS_length : MethodName := ⟨cn_JS, "length", "()I"⟩
abbrev bc_JS_coder : ByteArray := prog_14_method_152_code
def my_JS_coder : MethodName := ⟨cn_JS, "coder", "()B"⟩
abbrev bc_JL_indexOf : ByteArray := prog_15_method_22_code
def my_JL_indexOf : MethodName := ⟨cn_JL, "indexOf", "([BIII)I"⟩
abbrev bc_JL_canEncode : ByteArray := prog_15_method_4_code
def my_JL_canEncode : MethodName := ⟨cn_JL, "canEncode", "(I)Z"⟩
abbrev bc_JL_indexOfChar : ByteArray := prog_15_method_23_code
def my_JL_indexOfChar : MethodName := ⟨cn_JL, "indexOfChar", "([BIII)I"⟩
