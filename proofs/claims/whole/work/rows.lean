section
-- ===== PART A: goes FIRST, ahead of the names: the tables' words, and 'selects' of the private methods out of them =====
/-- a private method of a class that the tables say can be made, by its rows of tables_1 -/
def lw_okq (q : MethodName × Nat) : Prop := (q.1.cls ≠ "java/lang/invoke/MethodHandle" ∧ q.1.cls ≠ "java/lang/invoke/VarHandle") ∧ Cond.instantiable q.1.cls q.2 ∈ tables_1 ∧ Cond.privateMethod q.1 ∈ tables_1 ∧ Cond.instanceMethod q.1 ∈ tables_1
theorem lw_p0 : lw_okq (⟨"LoadYard", "foundWays", "()LLoadYard$Ways;"⟩, 9) := ⟨⟨by decide +kernel, by decide +kernel⟩, List.mem_of_getElem? (i := 14) (by decide +kernel), List.mem_of_getElem? (i := 319) (by decide +kernel), List.mem_of_getElem? (i := 320) (by decide +kernel)⟩
theorem lw_p1 : lw_okq (⟨"LoadYard$Ways", "findOf", "(LLoadYard$Net;I)V"⟩, 8) := ⟨⟨by decide +kernel, by decide +kernel⟩, List.mem_of_getElem? (i := 131) (by decide +kernel), List.mem_of_getElem? (i := 327) (by decide +kernel), List.mem_of_getElem? (i := 328) (by decide +kernel)⟩
theorem lw_p2 : lw_okq (⟨"LoadYard$Distances", "shorten", "(III)Z"⟩, 1) := ⟨⟨by decide +kernel, by decide +kernel⟩, List.mem_of_getElem? (i := 137) (by decide +kernel), List.mem_of_getElem? (i := 337) (by decide +kernel), List.mem_of_getElem? (i := 338) (by decide +kernel)⟩
theorem lw_p3 : lw_okq (⟨"LoadYard$Ways", "note", "(II)V"⟩, 8) := ⟨⟨by decide +kernel, by decide +kernel⟩, List.mem_of_getElem? (i := 131) (by decide +kernel), List.mem_of_getElem? (i := 344) (by decide +kernel), List.mem_of_getElem? (i := 345) (by decide +kernel)⟩
theorem lw_p4 : lw_okq (⟨"LoadYard", "refusalOfWay", "(II)I"⟩, 9) := ⟨⟨by decide +kernel, by decide +kernel⟩, List.mem_of_getElem? (i := 14) (by decide +kernel), List.mem_of_getElem? (i := 430) (by decide +kernel), List.mem_of_getElem? (i := 431) (by decide +kernel)⟩
theorem lw_p5 : lw_okq (⟨"LoadYard$Sending", "missing", "(LLoadYard$Net;I)I"⟩, 2) := ⟨⟨by decide +kernel, by decide +kernel⟩, List.mem_of_getElem? (i := 114) (by decide +kernel), List.mem_of_getElem? (i := 478) (by decide +kernel), List.mem_of_getElem? (i := 479) (by decide +kernel)⟩
theorem lw_p6 : lw_okq (⟨"LoadYard$Sending", "addFree", "(LLoadYard$Net;LLoadYard$Ways;II)I"⟩, 2) := ⟨⟨by decide +kernel, by decide +kernel⟩, List.mem_of_getElem? (i := 114) (by decide +kernel), List.mem_of_getElem? (i := 483) (by decide +kernel), List.mem_of_getElem? (i := 484) (by decide +kernel)⟩
theorem lw_p7 : lw_okq (⟨"LoadYard$Sending", "freeOn", "(LLoadYard$Net;LLoadYard$Ways;I)I"⟩, 2) := ⟨⟨by decide +kernel, by decide +kernel⟩, List.mem_of_getElem? (i := 114) (by decide +kernel), List.mem_of_getElem? (i := 487) (by decide +kernel), List.mem_of_getElem? (i := 488) (by decide +kernel)⟩
theorem lw_p8 : lw_okq (⟨"LoadYard$Sending", "isSentAsItMust", "(LLoadYard$Net;I)Z"⟩, 2) := ⟨⟨by decide +kernel, by decide +kernel⟩, List.mem_of_getElem? (i := 114) (by decide +kernel), List.mem_of_getElem? (i := 537) (by decide +kernel), List.mem_of_getElem? (i := 538) (by decide +kernel)⟩
theorem lw_p9 : lw_okq (⟨"LoadYard$Choice", "weigh", "(LLoadYard$Net;LLoadYard$Ways;)V"⟩, 8) := ⟨⟨by decide +kernel, by decide +kernel⟩, List.mem_of_getElem? (i := 184) (by decide +kernel), List.mem_of_getElem? (i := 570) (by decide +kernel), List.mem_of_getElem? (i := 571) (by decide +kernel)⟩
theorem lw_p10 : lw_okq (⟨"LoadYard$Choice", "hasRoom", "(LLoadYard$Ways;II)Z"⟩, 8) := ⟨⟨by decide +kernel, by decide +kernel⟩, List.mem_of_getElem? (i := 184) (by decide +kernel), List.mem_of_getElem? (i := 580) (by decide +kernel), List.mem_of_getElem? (i := 581) (by decide +kernel)⟩
theorem lw_p11 : lw_okq (⟨"LoadYard$Choice", "take", "(LLoadYard$Ways;II)V"⟩, 8) := ⟨⟨by decide +kernel, by decide +kernel⟩, List.mem_of_getElem? (i := 184) (by decide +kernel), List.mem_of_getElem? (i := 585) (by decide +kernel), List.mem_of_getElem? (i := 586) (by decide +kernel)⟩
theorem lw_p12 : lw_okq (⟨"LoadYard$Shares", "nextHeight", "(LLoadYard$Net;)I"⟩, 3) := ⟨⟨by decide +kernel, by decide +kernel⟩, List.mem_of_getElem? (i := 218) (by decide +kernel), List.mem_of_getElem? (i := 651) (by decide +kernel), List.mem_of_getElem? (i := 652) (by decide +kernel)⟩
theorem lw_p13 : lw_okq (⟨"LoadYard$Shares", "risingOn", "(LLoadYard$Net;I)I"⟩, 3) := ⟨⟨by decide +kernel, by decide +kernel⟩, List.mem_of_getElem? (i := 218) (by decide +kernel), List.mem_of_getElem? (i := 656) (by decide +kernel), List.mem_of_getElem? (i := 657) (by decide +kernel)⟩
theorem lw_p14 : lw_okq (⟨"LoadYard$Shares", "goesOver", "(II)Z"⟩, 3) := ⟨⟨by decide +kernel, by decide +kernel⟩, List.mem_of_getElem? (i := 218) (by decide +kernel), List.mem_of_getElem? (i := 660) (by decide +kernel), List.mem_of_getElem? (i := 661) (by decide +kernel)⟩
theorem lw_p15 : lw_okq (⟨"LoadYard$Shares", "stoppedOn", "(LLoadYard$Net;I)I"⟩, 3) := ⟨⟨by decide +kernel, by decide +kernel⟩, List.mem_of_getElem? (i := 218) (by decide +kernel), List.mem_of_getElem? (i := 664) (by decide +kernel), List.mem_of_getElem? (i := 665) (by decide +kernel)⟩
def lw_privs_1 : List (MethodName × Nat) := [(⟨"LoadYard", "foundWays", "()LLoadYard$Ways;"⟩, 9), (⟨"LoadYard$Ways", "findOf", "(LLoadYard$Net;I)V"⟩, 8), (⟨"LoadYard$Distances", "shorten", "(III)Z"⟩, 1), (⟨"LoadYard$Ways", "note", "(II)V"⟩, 8), (⟨"LoadYard", "refusalOfWay", "(II)I"⟩, 9), (⟨"LoadYard$Sending", "missing", "(LLoadYard$Net;I)I"⟩, 2), (⟨"LoadYard$Sending", "addFree", "(LLoadYard$Net;LLoadYard$Ways;II)I"⟩, 2), (⟨"LoadYard$Sending", "freeOn", "(LLoadYard$Net;LLoadYard$Ways;I)I"⟩, 2), (⟨"LoadYard$Sending", "isSentAsItMust", "(LLoadYard$Net;I)Z"⟩, 2), (⟨"LoadYard$Choice", "weigh", "(LLoadYard$Net;LLoadYard$Ways;)V"⟩, 8), (⟨"LoadYard$Choice", "hasRoom", "(LLoadYard$Ways;II)Z"⟩, 8), (⟨"LoadYard$Choice", "take", "(LLoadYard$Ways;II)V"⟩, 8), (⟨"LoadYard$Shares", "nextHeight", "(LLoadYard$Net;)I"⟩, 3), (⟨"LoadYard$Shares", "risingOn", "(LLoadYard$Net;I)I"⟩, 3), (⟨"LoadYard$Shares", "goesOver", "(II)Z"⟩, 3), (⟨"LoadYard$Shares", "stoppedOn", "(LLoadYard$Net;I)I"⟩, 3)]
theorem lw_r1 : ∀ q ∈ lw_privs_1, lw_okq q := List.forall_mem_cons.mpr ⟨lw_p0, List.forall_mem_cons.mpr ⟨lw_p1, List.forall_mem_cons.mpr ⟨lw_p2, List.forall_mem_cons.mpr ⟨lw_p3, List.forall_mem_cons.mpr ⟨lw_p4, List.forall_mem_cons.mpr ⟨lw_p5, List.forall_mem_cons.mpr ⟨lw_p6, List.forall_mem_cons.mpr ⟨lw_p7, List.forall_mem_cons.mpr ⟨lw_p8, List.forall_mem_cons.mpr ⟨lw_p9, List.forall_mem_cons.mpr ⟨lw_p10, List.forall_mem_cons.mpr ⟨lw_p11, List.forall_mem_cons.mpr ⟨lw_p12, List.forall_mem_cons.mpr ⟨lw_p13, List.forall_mem_cons.mpr ⟨lw_p14, List.forall_mem_cons.mpr ⟨lw_p15, fun _ h => absurd h List.not_mem_nil⟩⟩⟩⟩⟩⟩⟩⟩⟩⟩⟩⟩⟩⟩⟩⟩
theorem lw_p16 : lw_okq (⟨"LoadYard$Shares", "lift", "(LLoadYard$Net;I)V"⟩, 3) := ⟨⟨by decide +kernel, by decide +kernel⟩, List.mem_of_getElem? (i := 218) (by decide +kernel), List.mem_of_getElem? (i := 668) (by decide +kernel), List.mem_of_getElem? (i := 669) (by decide +kernel)⟩
theorem lw_p17 : lw_okq (⟨"LoadYard$Shares", "stop", "(LLoadYard$Net;)V"⟩, 3) := ⟨⟨by decide +kernel, by decide +kernel⟩, List.mem_of_getElem? (i := 218) (by decide +kernel), List.mem_of_getElem? (i := 672) (by decide +kernel), List.mem_of_getElem? (i := 673) (by decide +kernel)⟩
theorem lw_p18 : lw_okq (⟨"LoadYard$Shares", "isFull", "(LLoadYard$Net;I)Z"⟩, 3) := ⟨⟨by decide +kernel, by decide +kernel⟩, List.mem_of_getElem? (i := 218) (by decide +kernel), List.mem_of_getElem? (i := 676) (by decide +kernel), List.mem_of_getElem? (i := 677) (by decide +kernel)⟩
theorem lw_p19 : lw_okq (⟨"LoadYard$Shares", "stopOn", "(LLoadYard$Net;I)V"⟩, 3) := ⟨⟨by decide +kernel, by decide +kernel⟩, List.mem_of_getElem? (i := 218) (by decide +kernel), List.mem_of_getElem? (i := 680) (by decide +kernel), List.mem_of_getElem? (i := 681) (by decide +kernel)⟩
theorem lw_p20 : lw_okq (⟨"LoadYardModel", "isPost", "(I)Z"⟩, 33) := ⟨⟨by decide +kernel, by decide +kernel⟩, List.mem_of_getElem? (i := 723) (by decide +kernel), List.mem_of_getElem? (i := 841) (by decide +kernel), List.mem_of_getElem? (i := 842) (by decide +kernel)⟩
theorem lw_p21 : lw_okq (⟨"LoadYardModel", "findWays", "()V"⟩, 33) := ⟨⟨by decide +kernel, by decide +kernel⟩, List.mem_of_getElem? (i := 723) (by decide +kernel), List.mem_of_getElem? (i := 845) (by decide +kernel), List.mem_of_getElem? (i := 846) (by decide +kernel)⟩
theorem lw_p22 : lw_okq (⟨"LoadYardModel", "findWaysOf", "(II)V"⟩, 33) := ⟨⟨by decide +kernel, by decide +kernel⟩, List.mem_of_getElem? (i := 723) (by decide +kernel), List.mem_of_getElem? (i := 849) (by decide +kernel), List.mem_of_getElem? (i := 850) (by decide +kernel)⟩
theorem lw_p23 : lw_okq (⟨"LoadYardModel", "beyond", "(II)I"⟩, 33) := ⟨⟨by decide +kernel, by decide +kernel⟩, List.mem_of_getElem? (i := 723) (by decide +kernel), List.mem_of_getElem? (i := 853) (by decide +kernel), List.mem_of_getElem? (i := 854) (by decide +kernel)⟩
theorem lw_p24 : lw_okq (⟨"LoadYardModel", "isNew", "(II)Z"⟩, 33) := ⟨⟨by decide +kernel, by decide +kernel⟩, List.mem_of_getElem? (i := 723) (by decide +kernel), List.mem_of_getElem? (i := 857) (by decide +kernel), List.mem_of_getElem? (i := 858) (by decide +kernel)⟩
theorem lw_p25 : lw_okq (⟨"LoadYardModel", "keepWay", "(II)V"⟩, 33) := ⟨⟨by decide +kernel, by decide +kernel⟩, List.mem_of_getElem? (i := 723) (by decide +kernel), List.mem_of_getElem? (i := 861) (by decide +kernel), List.mem_of_getElem? (i := 862) (by decide +kernel)⟩
theorem lw_p26 : lw_okq (⟨"LoadYardModel", "isRoad", "(I)Z"⟩, 33) := ⟨⟨by decide +kernel, by decide +kernel⟩, List.mem_of_getElem? (i := 723) (by decide +kernel), List.mem_of_getElem? (i := 869) (by decide +kernel), List.mem_of_getElem? (i := 870) (by decide +kernel)⟩
theorem lw_p27 : lw_okq (⟨"LoadYardModel", "used", "(I)I"⟩, 33) := ⟨⟨by decide +kernel, by decide +kernel⟩, List.mem_of_getElem? (i := 723) (by decide +kernel), List.mem_of_getElem? (i := 877) (by decide +kernel), List.mem_of_getElem? (i := 878) (by decide +kernel)⟩
theorem lw_p28 : lw_okq (⟨"LoadYardModel", "has", "(III)Z"⟩, 33) := ⟨⟨by decide +kernel, by decide +kernel⟩, List.mem_of_getElem? (i := 723) (by decide +kernel), List.mem_of_getElem? (i := 881) (by decide +kernel), List.mem_of_getElem? (i := 882) (by decide +kernel)⟩
theorem lw_p29 : lw_okq (⟨"LoadYardModel", "overOf", "(I)I"⟩, 33) := ⟨⟨by decide +kernel, by decide +kernel⟩, List.mem_of_getElem? (i := 723) (by decide +kernel), List.mem_of_getElem? (i := 885) (by decide +kernel), List.mem_of_getElem? (i := 886) (by decide +kernel)⟩
theorem lw_p30 : lw_okq (⟨"LoadYardModel", "isLoad", "(I)Z"⟩, 33) := ⟨⟨by decide +kernel, by decide +kernel⟩, List.mem_of_getElem? (i := 723) (by decide +kernel), List.mem_of_getElem? (i := 897) (by decide +kernel), List.mem_of_getElem? (i := 898) (by decide +kernel)⟩
theorem lw_p31 : lw_okq (⟨"LoadYardModel", "isWay", "(II)Z"⟩, 33) := ⟨⟨by decide +kernel, by decide +kernel⟩, List.mem_of_getElem? (i := 723) (by decide +kernel), List.mem_of_getElem? (i := 905) (by decide +kernel), List.mem_of_getElem? (i := 906) (by decide +kernel)⟩
def lw_privs_2 : List (MethodName × Nat) := [(⟨"LoadYard$Shares", "lift", "(LLoadYard$Net;I)V"⟩, 3), (⟨"LoadYard$Shares", "stop", "(LLoadYard$Net;)V"⟩, 3), (⟨"LoadYard$Shares", "isFull", "(LLoadYard$Net;I)Z"⟩, 3), (⟨"LoadYard$Shares", "stopOn", "(LLoadYard$Net;I)V"⟩, 3), (⟨"LoadYardModel", "isPost", "(I)Z"⟩, 33), (⟨"LoadYardModel", "findWays", "()V"⟩, 33), (⟨"LoadYardModel", "findWaysOf", "(II)V"⟩, 33), (⟨"LoadYardModel", "beyond", "(II)I"⟩, 33), (⟨"LoadYardModel", "isNew", "(II)Z"⟩, 33), (⟨"LoadYardModel", "keepWay", "(II)V"⟩, 33), (⟨"LoadYardModel", "isRoad", "(I)Z"⟩, 33), (⟨"LoadYardModel", "used", "(I)I"⟩, 33), (⟨"LoadYardModel", "has", "(III)Z"⟩, 33), (⟨"LoadYardModel", "overOf", "(I)I"⟩, 33), (⟨"LoadYardModel", "isLoad", "(I)Z"⟩, 33), (⟨"LoadYardModel", "isWay", "(II)Z"⟩, 33)]
theorem lw_r2 : ∀ q ∈ lw_privs_2, lw_okq q := List.forall_mem_cons.mpr ⟨lw_p16, List.forall_mem_cons.mpr ⟨lw_p17, List.forall_mem_cons.mpr ⟨lw_p18, List.forall_mem_cons.mpr ⟨lw_p19, List.forall_mem_cons.mpr ⟨lw_p20, List.forall_mem_cons.mpr ⟨lw_p21, List.forall_mem_cons.mpr ⟨lw_p22, List.forall_mem_cons.mpr ⟨lw_p23, List.forall_mem_cons.mpr ⟨lw_p24, List.forall_mem_cons.mpr ⟨lw_p25, List.forall_mem_cons.mpr ⟨lw_p26, List.forall_mem_cons.mpr ⟨lw_p27, List.forall_mem_cons.mpr ⟨lw_p28, List.forall_mem_cons.mpr ⟨lw_p29, List.forall_mem_cons.mpr ⟨lw_p30, List.forall_mem_cons.mpr ⟨lw_p31, fun _ h => absurd h List.not_mem_nil⟩⟩⟩⟩⟩⟩⟩⟩⟩⟩⟩⟩⟩⟩⟩⟩
theorem lw_p32 : lw_okq (⟨"LoadYardModel", "sentOf", "(I)I"⟩, 33) := ⟨⟨by decide +kernel, by decide +kernel⟩, List.mem_of_getElem? (i := 723) (by decide +kernel), List.mem_of_getElem? (i := 913) (by decide +kernel), List.mem_of_getElem? (i := 914) (by decide +kernel)⟩
theorem lw_p33 : lw_okq (⟨"LoadYardModel", "mostAt", "(I)I"⟩, 33) := ⟨⟨by decide +kernel, by decide +kernel⟩, List.mem_of_getElem? (i := 723) (by decide +kernel), List.mem_of_getElem? (i := 917) (by decide +kernel), List.mem_of_getElem? (i := 918) (by decide +kernel)⟩
theorem lw_p34 : lw_okq (⟨"LoadYardModel", "isCut", "(I)Z"⟩, 33) := ⟨⟨by decide +kernel, by decide +kernel⟩, List.mem_of_getElem? (i := 723) (by decide +kernel), List.mem_of_getElem? (i := 921) (by decide +kernel), List.mem_of_getElem? (i := 922) (by decide +kernel)⟩
theorem lw_p35 : lw_okq (⟨"LoadYardModel", "wallOf", "(I)I"⟩, 33) := ⟨⟨by decide +kernel, by decide +kernel⟩, List.mem_of_getElem? (i := 723) (by decide +kernel), List.mem_of_getElem? (i := 925) (by decide +kernel), List.mem_of_getElem? (i := 926) (by decide +kernel)⟩
theorem lw_p36 : lw_okq (⟨"LoadYardModel", "farOf", "(I)I"⟩, 33) := ⟨⟨by decide +kernel, by decide +kernel⟩, List.mem_of_getElem? (i := 723) (by decide +kernel), List.mem_of_getElem? (i := 932) (by decide +kernel), List.mem_of_getElem? (i := 933) (by decide +kernel)⟩
theorem lw_p37 : lw_okq (⟨"LoadYardModel", "amountMany", "(I)I"⟩, 33) := ⟨⟨by decide +kernel, by decide +kernel⟩, List.mem_of_getElem? (i := 723) (by decide +kernel), List.mem_of_getElem? (i := 937) (by decide +kernel), List.mem_of_getElem? (i := 938) (by decide +kernel)⟩
theorem lw_p38 : lw_okq (⟨"LoadYardModel", "priceOf", "(II)I"⟩, 33) := ⟨⟨by decide +kernel, by decide +kernel⟩, List.mem_of_getElem? (i := 723) (by decide +kernel), List.mem_of_getElem? (i := 957) (by decide +kernel), List.mem_of_getElem? (i := 958) (by decide +kernel)⟩
theorem lw_p39 : lw_okq (⟨"LoadYardModel", "free", "(II)I"⟩, 33) := ⟨⟨by decide +kernel, by decide +kernel⟩, List.mem_of_getElem? (i := 723) (by decide +kernel), List.mem_of_getElem? (i := 977) (by decide +kernel), List.mem_of_getElem? (i := 978) (by decide +kernel)⟩
theorem lw_p40 : lw_okq (⟨"LoadYardModel", "add", "(III)I"⟩, 33) := ⟨⟨by decide +kernel, by decide +kernel⟩, List.mem_of_getElem? (i := 723) (by decide +kernel), List.mem_of_getElem? (i := 981) (by decide +kernel), List.mem_of_getElem? (i := 982) (by decide +kernel)⟩
theorem lw_p41 : lw_okq (⟨"LoadYardModel", "overMany", "()I"⟩, 33) := ⟨⟨by decide +kernel, by decide +kernel⟩, List.mem_of_getElem? (i := 723) (by decide +kernel), List.mem_of_getElem? (i := 993) (by decide +kernel), List.mem_of_getElem? (i := 994) (by decide +kernel)⟩
theorem lw_p42 : lw_okq (⟨"LoadYardModel", "overAll", "()I"⟩, 33) := ⟨⟨by decide +kernel, by decide +kernel⟩, List.mem_of_getElem? (i := 723) (by decide +kernel), List.mem_of_getElem? (i := 997) (by decide +kernel), List.mem_of_getElem? (i := 998) (by decide +kernel)⟩
theorem lw_p43 : lw_okq (⟨"LoadYardModel", "cost", "()I"⟩, 33) := ⟨⟨by decide +kernel, by decide +kernel⟩, List.mem_of_getElem? (i := 723) (by decide +kernel), List.mem_of_getElem? (i := 1001) (by decide +kernel), List.mem_of_getElem? (i := 1002) (by decide +kernel)⟩
theorem lw_p44 : lw_okq (⟨"LoadYardModel", "fits", "()Z"⟩, 33) := ⟨⟨by decide +kernel, by decide +kernel⟩, List.mem_of_getElem? (i := 723) (by decide +kernel), List.mem_of_getElem? (i := 1005) (by decide +kernel), List.mem_of_getElem? (i := 1006) (by decide +kernel)⟩
theorem lw_p45 : lw_okq (⟨"LoadYardModel", "sentAll", "()I"⟩, 33) := ⟨⟨by decide +kernel, by decide +kernel⟩, List.mem_of_getElem? (i := 723) (by decide +kernel), List.mem_of_getElem? (i := 1009) (by decide +kernel), List.mem_of_getElem? (i := 1010) (by decide +kernel)⟩
theorem lw_p46 : lw_okq (⟨"LoadYardModel", "sizeAll", "()I"⟩, 33) := ⟨⟨by decide +kernel, by decide +kernel⟩, List.mem_of_getElem? (i := 723) (by decide +kernel), List.mem_of_getElem? (i := 1013) (by decide +kernel), List.mem_of_getElem? (i := 1014) (by decide +kernel)⟩
theorem lw_p47 : lw_okq (⟨"LoadYardModel", "costOfChoice", "()I"⟩, 33) := ⟨⟨by decide +kernel, by decide +kernel⟩, List.mem_of_getElem? (i := 723) (by decide +kernel), List.mem_of_getElem? (i := 1025) (by decide +kernel), List.mem_of_getElem? (i := 1026) (by decide +kernel)⟩
def lw_privs_3 : List (MethodName × Nat) := [(⟨"LoadYardModel", "sentOf", "(I)I"⟩, 33), (⟨"LoadYardModel", "mostAt", "(I)I"⟩, 33), (⟨"LoadYardModel", "isCut", "(I)Z"⟩, 33), (⟨"LoadYardModel", "wallOf", "(I)I"⟩, 33), (⟨"LoadYardModel", "farOf", "(I)I"⟩, 33), (⟨"LoadYardModel", "amountMany", "(I)I"⟩, 33), (⟨"LoadYardModel", "priceOf", "(II)I"⟩, 33), (⟨"LoadYardModel", "free", "(II)I"⟩, 33), (⟨"LoadYardModel", "add", "(III)I"⟩, 33), (⟨"LoadYardModel", "overMany", "()I"⟩, 33), (⟨"LoadYardModel", "overAll", "()I"⟩, 33), (⟨"LoadYardModel", "cost", "()I"⟩, 33), (⟨"LoadYardModel", "fits", "()Z"⟩, 33), (⟨"LoadYardModel", "sentAll", "()I"⟩, 33), (⟨"LoadYardModel", "sizeAll", "()I"⟩, 33), (⟨"LoadYardModel", "costOfChoice", "()I"⟩, 33)]
theorem lw_r3 : ∀ q ∈ lw_privs_3, lw_okq q := List.forall_mem_cons.mpr ⟨lw_p32, List.forall_mem_cons.mpr ⟨lw_p33, List.forall_mem_cons.mpr ⟨lw_p34, List.forall_mem_cons.mpr ⟨lw_p35, List.forall_mem_cons.mpr ⟨lw_p36, List.forall_mem_cons.mpr ⟨lw_p37, List.forall_mem_cons.mpr ⟨lw_p38, List.forall_mem_cons.mpr ⟨lw_p39, List.forall_mem_cons.mpr ⟨lw_p40, List.forall_mem_cons.mpr ⟨lw_p41, List.forall_mem_cons.mpr ⟨lw_p42, List.forall_mem_cons.mpr ⟨lw_p43, List.forall_mem_cons.mpr ⟨lw_p44, List.forall_mem_cons.mpr ⟨lw_p45, List.forall_mem_cons.mpr ⟨lw_p46, List.forall_mem_cons.mpr ⟨lw_p47, fun _ h => absurd h List.not_mem_nil⟩⟩⟩⟩⟩⟩⟩⟩⟩⟩⟩⟩⟩⟩⟩⟩
theorem lw_p48 : lw_okq (⟨"LoadYardModel", "nextChoice", "()Z"⟩, 33) := ⟨⟨by decide +kernel, by decide +kernel⟩, List.mem_of_getElem? (i := 723) (by decide +kernel), List.mem_of_getElem? (i := 1029) (by decide +kernel), List.mem_of_getElem? (i := 1030) (by decide +kernel)⟩
theorem lw_p49 : lw_okq (⟨"LoadYardModel", "callOf", "(I)I"⟩, 33) := ⟨⟨by decide +kernel, by decide +kernel⟩, List.mem_of_getElem? (i := 723) (by decide +kernel), List.mem_of_getElem? (i := 1042) (by decide +kernel), List.mem_of_getElem? (i := 1043) (by decide +kernel)⟩
theorem lw_p50 : lw_okq (⟨"LoadYardModel", "barringCut", "()I"⟩, 33) := ⟨⟨by decide +kernel, by decide +kernel⟩, List.mem_of_getElem? (i := 723) (by decide +kernel), List.mem_of_getElem? (i := 1050) (by decide +kernel), List.mem_of_getElem? (i := 1051) (by decide +kernel)⟩
theorem lw_p51 : lw_okq (⟨"LoadYardModel", "findShares", "()V"⟩, 33) := ⟨⟨by decide +kernel, by decide +kernel⟩, List.mem_of_getElem? (i := 723) (by decide +kernel), List.mem_of_getElem? (i := 1074) (by decide +kernel), List.mem_of_getElem? (i := 1075) (by decide +kernel)⟩
theorem lw_p52 : lw_okq (⟨"LoadYardModel", "choose", "(I)I"⟩, 33) := ⟨⟨by decide +kernel, by decide +kernel⟩, List.mem_of_getElem? (i := 723) (by decide +kernel), List.mem_of_getElem? (i := 1078) (by decide +kernel), List.mem_of_getElem? (i := 1079) (by decide +kernel)⟩
theorem lw_p53 : lw_okq (⟨"LoadYardModel", "rise", "()I"⟩, 33) := ⟨⟨by decide +kernel, by decide +kernel⟩, List.mem_of_getElem? (i := 723) (by decide +kernel), List.mem_of_getElem? (i := 1082) (by decide +kernel), List.mem_of_getElem? (i := 1083) (by decide +kernel)⟩
theorem lw_p54 : lw_okq (⟨"LoadYardModel", "leaves", "(I)Z"⟩, 33) := ⟨⟨by decide +kernel, by decide +kernel⟩, List.mem_of_getElem? (i := 723) (by decide +kernel), List.mem_of_getElem? (i := 1087) (by decide +kernel), List.mem_of_getElem? (i := 1088) (by decide +kernel)⟩
def lw_privs_4 : List (MethodName × Nat) := [(⟨"LoadYardModel", "nextChoice", "()Z"⟩, 33), (⟨"LoadYardModel", "callOf", "(I)I"⟩, 33), (⟨"LoadYardModel", "barringCut", "()I"⟩, 33), (⟨"LoadYardModel", "findShares", "()V"⟩, 33), (⟨"LoadYardModel", "choose", "(I)I"⟩, 33), (⟨"LoadYardModel", "rise", "()I"⟩, 33), (⟨"LoadYardModel", "leaves", "(I)Z"⟩, 33)]
theorem lw_r4 : ∀ q ∈ lw_privs_4, lw_okq q := List.forall_mem_cons.mpr ⟨lw_p48, List.forall_mem_cons.mpr ⟨lw_p49, List.forall_mem_cons.mpr ⟨lw_p50, List.forall_mem_cons.mpr ⟨lw_p51, List.forall_mem_cons.mpr ⟨lw_p52, List.forall_mem_cons.mpr ⟨lw_p53, List.forall_mem_cons.mpr ⟨lw_p54, fun _ h => absurd h List.not_mem_nil⟩⟩⟩⟩⟩⟩⟩
def lw_privs : List (MethodName × Nat) := lw_privs_1 ++ (lw_privs_2 ++ (lw_privs_3 ++ (lw_privs_4)))
def lw_tbl : List Cond := k2_sels lw_privs ++ tables_1
theorem lw_privs_ok : ∀ q ∈ lw_privs, lw_okq q := by
  show ∀ q ∈ lw_privs_1 ++ (lw_privs_2 ++ (lw_privs_3 ++ (lw_privs_4))), lw_okq q
  exact List.forall_mem_append.mpr ⟨lw_r1, List.forall_mem_append.mpr ⟨lw_r2, List.forall_mem_append.mpr ⟨lw_r3, lw_r4⟩⟩⟩

/-! class tables -/
def RX0 : String := "LoadYard$Choice"
def TX0 : u_T := fun k => match k with
  | 0 => ("LoadYard$Choice", "bestCost", "I", false)
  | 1 => ("LoadYard$Choice", "best", "[I", true)
  | 2 => ("LoadYard$Choice", "chosen", "[I", true)
  | 3 => ("LoadYard$Choice", "first", "[I", true)
  | 4 => ("LoadYard$Choice", "last", "[I", true)
  | 5 => ("LoadYard$Choice", "cost", "[I", true)
  | 6 => ("LoadYard$Choice", "leastFrom", "[I", true)
  | _ => ("LoadYard$Choice", "left", "[I", true)
def tyX0 : Nat → FieldType := fun k => match k with
  | 0 => .int
  | 1 => .array .int
  | 2 => .array .int
  | 3 => .array .int
  | 4 => .array .int
  | 5 => .array .int
  | 6 => .array .int
  | _ => .array .int
theorem nmX0 : ∀ a, a < 8 → ∀ b, b < 8 → a ≠ b → (TX0 a).2.1 ≠ (TX0 b).2.1 := by decide +kernel
theorem tyX0_ok : ∀ k, k < 8 → parseFieldDescriptor (TX0 k).2.2.1 = some (tyX0 k) := by decide +kernel
def RX1 : String := "LoadYard$Cuts"
def TX1 : u_T := fun k => match k with
  | _ => ("", "", "", false)
def tyX1 : Nat → FieldType := fun k => match k with
  | _ => .int
theorem nmX1 : ∀ a, a < 0 → ∀ b, b < 0 → a ≠ b → (TX1 a).2.1 ≠ (TX1 b).2.1 := by decide +kernel
theorem tyX1_ok : ∀ k, k < 0 → parseFieldDescriptor (TX1 k).2.2.1 = some (tyX1 k) := by decide +kernel
def RX2 : String := "LoadYard$Distances"
def TX2 : u_T := fun k => match k with
  | _ => ("LoadYard$Distances", "to", "[I", true)
def tyX2 : Nat → FieldType := fun k => match k with
  | _ => .array .int
theorem nmX2 : ∀ a, a < 1 → ∀ b, b < 1 → a ≠ b → (TX2 a).2.1 ≠ (TX2 b).2.1 := by decide +kernel
theorem tyX2_ok : ∀ k, k < 1 → parseFieldDescriptor (TX2 k).2.2.1 = some (tyX2 k) := by decide +kernel
def RX3 : String := "LoadYard$Net"
def TX3 : u_T := fun k => match k with
  | 0 => ("LoadYard$Net", "posts", "I", false)
  | 1 => ("LoadYard$Net", "roadCount", "I", false)
  | 2 => ("LoadYard$Net", "loadCount", "I", false)
  | 3 => ("LoadYard$Net", "lesser", "[I", true)
  | 4 => ("LoadYard$Net", "greater", "[I", true)
  | 5 => ("LoadYard$Net", "room", "[I", true)
  | 6 => ("LoadYard$Net", "price", "[I", true)
  | 7 => ("LoadYard$Net", "length", "[I", true)
  | 8 => ("LoadYard$Net", "kind", "[I", true)
  | 9 => ("LoadYard$Net", "from", "[I", true)
  | 10 => ("LoadYard$Net", "to", "[I", true)
  | _ => ("LoadYard$Net", "size", "[I", true)
def tyX3 : Nat → FieldType := fun k => match k with
  | 0 => .int
  | 1 => .int
  | 2 => .int
  | 3 => .array .int
  | 4 => .array .int
  | 5 => .array .int
  | 6 => .array .int
  | 7 => .array .int
  | 8 => .array .int
  | 9 => .array .int
  | 10 => .array .int
  | _ => .array .int
theorem nmX3 : ∀ a, a < 12 → ∀ b, b < 12 → a ≠ b → (TX3 a).2.1 ≠ (TX3 b).2.1 := by decide +kernel
theorem tyX3_ok : ∀ k, k < 12 → parseFieldDescriptor (TX3 k).2.2.1 = some (tyX3 k) := by decide +kernel
def RX4 : String := "LoadYard$Sending"
def TX4 : u_T := fun k => match k with
  | 0 => ("LoadYard$Sending", "amount", "[I", true)
  | _ => ("LoadYard$Sending", "held", "[I", true)
def tyX4 : Nat → FieldType := fun k => match k with
  | 0 => .array .int
  | _ => .array .int
theorem nmX4 : ∀ a, a < 2 → ∀ b, b < 2 → a ≠ b → (TX4 a).2.1 ≠ (TX4 b).2.1 := by decide +kernel
theorem tyX4_ok : ∀ k, k < 2 → parseFieldDescriptor (TX4 k).2.2.1 = some (tyX4 k) := by decide +kernel
def RX5 : String := "LoadYard$Shares"
def TX5 : u_T := fun k => match k with
  | 0 => ("LoadYard$Shares", "share", "[I", true)
  | 1 => ("LoadYard$Shares", "mask", "[I", true)
  | _ => ("LoadYard$Shares", "rises", "[Z", true)
def tyX5 : Nat → FieldType := fun k => match k with
  | 0 => .array .int
  | 1 => .array .int
  | _ => .array .boolean
theorem nmX5 : ∀ a, a < 3 → ∀ b, b < 3 → a ≠ b → (TX5 a).2.1 ≠ (TX5 b).2.1 := by decide +kernel
theorem tyX5_ok : ∀ k, k < 3 → parseFieldDescriptor (TX5 k).2.2.1 = some (tyX5 k) := by decide +kernel
def RX6 : String := "LoadYard$Ways"
def TX6 : u_T := fun k => match k with
  | 0 => ("LoadYard$Ways", "count", "[I", true)
  | 1 => ("LoadYard$Ways", "steps", "[I", true)
  | 2 => ("LoadYard$Ways", "mask", "[I", true)
  | 3 => ("LoadYard$Ways", "road", "[I", true)
  | 4 => ("LoadYard$Ways", "found", "[Z", true)
  | 5 => ("LoadYard$Ways", "left", "LLoadYard$Distances;", true)
  | 6 => ("LoadYard$Ways", "oneEach", "[I", true)
  | _ => ("LoadYard$Ways", "trail", "[I", true)
def tyX6 : Nat → FieldType := fun k => match k with
  | 0 => .array .int
  | 1 => .array .int
  | 2 => .array .int
  | 3 => .array .int
  | 4 => .array .boolean
  | 5 => .object "LoadYard$Distances"
  | 6 => .array .int
  | _ => .array .int
theorem nmX6 : ∀ a, a < 8 → ∀ b, b < 8 → a ≠ b → (TX6 a).2.1 ≠ (TX6 b).2.1 := by decide +kernel
theorem tyX6_ok : ∀ k, k < 8 → parseFieldDescriptor (TX6 k).2.2.1 = some (tyX6 k) := by decide +kernel
def RX7 : String := "LoadYard"
def TX7 : u_T := fun k => match k with
  | 0 => ("LoadYard", "now", "LLoadYard$Net;", true)
  | 1 => ("LoadYard", "keptNet", "LLoadYard$Net;", true)
  | 2 => ("LoadYard", "sending", "LLoadYard$Sending;", true)
  | 3 => ("LoadYard", "keptSending", "LLoadYard$Sending;", true)
  | 4 => ("LoadYard", "ways", "LLoadYard$Ways;", true)
  | 5 => ("LoadYard", "distances", "LLoadYard$Distances;", true)
  | 6 => ("LoadYard", "choice", "LLoadYard$Choice;", true)
  | 7 => ("LoadYard", "shares", "LLoadYard$Shares;", true)
  | _ => ("LoadYard", "anythingKept", "Z", false)
def tyX7 : Nat → FieldType := fun k => match k with
  | 0 => .object "LoadYard$Net"
  | 1 => .object "LoadYard$Net"
  | 2 => .object "LoadYard$Sending"
  | 3 => .object "LoadYard$Sending"
  | 4 => .object "LoadYard$Ways"
  | 5 => .object "LoadYard$Distances"
  | 6 => .object "LoadYard$Choice"
  | 7 => .object "LoadYard$Shares"
  | _ => .boolean
theorem nmX7 : ∀ a, a < 9 → ∀ b, b < 9 → a ≠ b → (TX7 a).2.1 ≠ (TX7 b).2.1 := by decide +kernel
theorem tyX7_ok : ∀ k, k < 9 → parseFieldDescriptor (TX7 k).2.2.1 = some (tyX7 k) := by decide +kernel
def RX8 : String := "LoadYardModel"
def TX8 : u_T := fun k => match k with
  | 0 => ("LoadYardModel", "posts", "I", false)
  | 1 => ("LoadYardModel", "roads", "I", false)
  | 2 => ("LoadYardModel", "ends", "[I", true)
  | 3 => ("LoadYardModel", "rooms", "[I", true)
  | 4 => ("LoadYardModel", "prices", "[I", true)
  | 5 => ("LoadYardModel", "lengths", "[I", true)
  | 6 => ("LoadYardModel", "loads", "I", false)
  | 7 => ("LoadYardModel", "kinds", "[I", true)
  | 8 => ("LoadYardModel", "from", "[I", true)
  | 9 => ("LoadYardModel", "to", "[I", true)
  | 10 => ("LoadYardModel", "sizes", "[I", true)
  | 11 => ("LoadYardModel", "held", "[I", true)
  | 12 => ("LoadYardModel", "amounts", "[I", true)
  | 13 => ("LoadYardModel", "wayMany", "[I", true)
  | 14 => ("LoadYardModel", "wayLength", "[I", true)
  | 15 => ("LoadYardModel", "wayRoads", "[I", true)
  | 16 => ("LoadYardModel", "isKept", "Z", false)
  | 17 => ("LoadYardModel", "keptNumbers", "[I", true)
  | 18 => ("LoadYardModel", "keptRoads", "[I", true)
  | 19 => ("LoadYardModel", "keptLoads", "[I", true)
  | 20 => ("LoadYardModel", "keptAmounts", "[I", true)
  | 21 => ("LoadYardModel", "row", "[I", true)
  | 22 => ("LoadYardModel", "at", "[I", true)
  | 23 => ("LoadYardModel", "choice", "[I", true)
  | 24 => ("LoadYardModel", "best", "[I", true)
  | 25 => ("LoadYardModel", "laden", "[I", true)
  | 26 => ("LoadYardModel", "distance", "[I", true)
  | 27 => ("LoadYardModel", "rises", "[Z", true)
  | 28 => ("LoadYardModel", "along", "[I", true)
  | 29 => ("LoadYardModel", "tops", "[J", true)
  | 30 => ("LoadYardModel", "lows", "[J", true)
  | 31 => ("LoadYardModel", "top", "J", false)
  | _ => ("LoadYardModel", "low", "J", false)
def tyX8 : Nat → FieldType := fun k => match k with
  | 0 => .int
  | 1 => .int
  | 2 => .array .int
  | 3 => .array .int
  | 4 => .array .int
  | 5 => .array .int
  | 6 => .int
  | 7 => .array .int
  | 8 => .array .int
  | 9 => .array .int
  | 10 => .array .int
  | 11 => .array .int
  | 12 => .array .int
  | 13 => .array .int
  | 14 => .array .int
  | 15 => .array .int
  | 16 => .boolean
  | 17 => .array .int
  | 18 => .array .int
  | 19 => .array .int
  | 20 => .array .int
  | 21 => .array .int
  | 22 => .array .int
  | 23 => .array .int
  | 24 => .array .int
  | 25 => .array .int
  | 26 => .array .int
  | 27 => .array .boolean
  | 28 => .array .int
  | 29 => .array .long
  | 30 => .array .long
  | 31 => .long
  | _ => .long
theorem nmX8 : ∀ a, a < 33 → ∀ b, b < 33 → a ≠ b → (TX8 a).2.1 ≠ (TX8 b).2.1 := by decide +kernel
theorem tyX8_ok : ∀ k, k < 33 → parseFieldDescriptor (TX8 k).2.2.1 = some (tyX8 k) := by decide +kernel
def RL : String := "LoadYardLaw"
abbrev vwCl : List vw_C := [(RX0, TX0, 8), (RX2, TX2, 1), (RX3, TX3, 12), (RX4, TX4, 2), (RX5, TX5, 3), (RX6, TX6, 8), (RX7, TX7, 9), (RX8, TX8, 33)]
def gtab : List Cond := lw_tbl.filter goodWord
def isNest : Cond → Bool
  | .methodLinkNest .. => true
  | _ => false
def nestW : List Cond := lw_tbl.filter isNest
end
section
/-! a small machine over the kit's: places for addresses, whole numbers for ints -/
abbrev MV : Type := Int ⊕ (Int ⊕ Nat)
abbrev vi (z : Int) : MV := Sum.inl z
abbrev vl (z : Int) : MV := Sum.inr (Sum.inl z)
abbrev vr (k : Nat) : MV := Sum.inr (Sum.inr k)
abbrev Mem : Type := Nat → Int → Int
abbrev Mth : Type := MethodName × ByteArray × Nat × Option FieldType
abbrev Ent : Type := (Nat × List (Nat × Nat)) ⊕ (Nat × Nat)
abbrev Gt : Type := Launch × va_G × (Nat → Nat) × (Nat → ClassId)
def rv (ad : Nat → Nat) (v : MV) : Value := match v with
  | .inl z => .int (Int32.ofInt z)
  | .inr (.inl z) => .long (Int64.ofInt z)
  | .inr (.inr k) => .ref (ad k)
def fset (f : Int → Int) (i v : Int) : Int → Int := fun j => if j = i then v else f j
def mset (M : Mem) (k : Nat) (f : Int → Int) : Mem := fun k' => if k' = k then f else M k'
theorem fset_s (f : Int → Int) (i v : Int) : fset f i v i = v := by simp [fset]
theorem fset_n {f : Int → Int} {i j v : Int} (h : j ≠ i) : fset f i v j = f j := by simp [fset, h]
theorem mset_s (M : Mem) (k : Nat) (f : Int → Int) : mset M k f k = f := by simp [mset]
theorem mset_n {M : Mem} {k j : Nat} {f : Int → Int} (h : j ≠ k) : mset M k f j = M j := by simp [mset, h]
theorem mset_eq {M : Mem} {k : Nat} {f : Int → Int} (h : M k = f) : mset M k f = M := by
  funext j
  by_cases hj : j = k
  · subst hj; rw [mset_s, h]
  · rw [mset_n hj]
theorem mset_mset (M : Mem) (k : Nat) (f h : Int → Int) : mset (mset M k f) k h = mset M k h := by
  funext j
  by_cases hj : j = k
  · subst hj; rw [mset_s, mset_s]
  · rw [mset_n hj, mset_n hj, mset_n hj]
theorem fset_fset (f : Int → Int) (i v w : Int) : fset (fset f i v) i w = fset f i w := by
  funext j
  by_cases hj : j = i
  · subst hj; rw [fset_s, fset_s]
  · rw [fset_n hj, fset_n hj, fset_n hj]
def e_f (g : Gt) (M : Mem) (k : Nat) (i : Nat) (f : Nat × Nat) : Value :=
  if f.1 = 3 then .ref (g.2.2.1 f.2) else if f.1 = 2 then .long (Int64.ofInt (M k i)) else .int (Int32.ofInt (M k i))
def e_a (M : Mem) (k : Nat) (t n : Nat) : vp_A :=
  (n, if t = 2 then .inr (.inl (fun j => Int64.ofInt (M k j))) else .inl (fun j => Int32.ofInt (M k j)))
def e_c (g : Gt) (M : Mem) (k : Nat) (e : Ent) : va_E := match e with
  | .inl q => .inr (q.1, q.2.mapIdx (fun i f => e_f g M k i f))
  | .inr q => .inl (g.2.2.2 q.1, e_a M k q.1 q.2)
def wsOf (Ly : List Ent) (g : Gt) (M : Mem) : va_W := Ly.mapIdx (fun k e => (g.2.2.1 k, e_c g M k e))
theorem wsOf_at {Ly : List Ent} {g : Gt} {M : Mem} {k : Nat} {e : Ent} (h : Ly[k]? = some e) : (wsOf Ly g M)[k]? = some (g.2.2.1 k, e_c g M k e) := by
  simp [wsOf, List.getElem?_mapIdx, h]
theorem wsOf_inv {Ly : List Ent} {g : Gt} {M : Mem} {k : Nat} {q : Nat × va_E} (h : (wsOf Ly g M)[k]? = some q) : ∃ e, Ly[k]? = some e ∧ q = (g.2.2.1 k, e_c g M k e) := by
  simp only [wsOf, List.getElem?_mapIdx, Option.map_eq_some_iff] at h
  obtain ⟨e, h1, h2⟩ := h
  exact ⟨e, h1, h2.symm⟩
def tysOf (g : Gt) : List (ClassId × FieldType) := [(g.2.2.2 0, .int), (g.2.2.2 1, .boolean), (g.2.2.2 2, .long)]
def ads (Ly : List Ent) (g : Gt) : Nat → Prop := fun q => ∃ k, k < Ly.length ∧ q = g.2.2.1 k
def smallL (Ly : List Ent) : Prop := ∀ (k t n : Nat), Ly[k]? = some (Sum.inr (t, n)) → n < 2147483648 ∧ t < 3
def injA (Ly : List Ent) (g : Gt) : Prop := (∀ i j, i < Ly.length → j < Ly.length → g.2.2.1 i = g.2.2.1 j → i = j) ∧ smallL Ly
def K0 (g : Gt) (U : State) : Prop := va_K g.2.1 vwCl (tysOf g) U ∧ ∀ w ∈ nestW, va_Nw w U
def Wd (Ly : List Ent) (g : Gt) (M : Mem) (U : State) : Prop := va_P g.2.1 vwCl (wsOf Ly g M) U.heap ∧ K0 g U
def Qo (Ly : List Ent) (g : Gt) (Post : Option MV → Mem → Prop) : Array Value → State → Outcome → State → Prop := fun _ st oc t => ∃ (r : Option MV) (M' : Mem), oc = .returned (r.map (rv g.2.2.1)) ∧ Post r M' ∧ Wd Ly g M' t ∧ va_F (ads Ly g) st t
def rmD (d : Nat) : Room := { frames := d, cells := 0, slots := 0, locals := 40 * d }
def wsy (y : Mth) : List Cond := Cond.code y.1 y.2.1 y.2.2.1 y.2.2.2 :: gtab
def Ex (Ly : List Ent) (g : Gt) (d : Nat) (y : Mth) (as : List MV) (M : Mem) (Post : Option MV → Mem → Prop) : Prop :=
  injA Ly g → Met g.1 y.1 (wsy y) (rmD d) (va_Pc (as.map (rv g.2.2.1)) (fun U => Wd Ly g M U)) (Qo Ly g Post) 0 0 (ads Ly g)
def lvO (ad : Nat → Nat) (nL : Nat) (lv : List (Option MV)) (ls : Array Slot) : Prop := ls.size = nL ∧ lv_wf ls ∧ ∀ (j : Nat) (w : MV), lv[j]? = some (some w) → ls[j]? = some (Slot.val (rv ad w))
def Cx (Ly : List Ent) (g : Gt) (y : Mth) (p : Program) (s : State) (m : MethodId) (args : Array Value) (meth : Method) (c : Code) : Prop :=
  p.tables.exec = Jvm.exec ∧ c.code = y.2.1 ∧ meth.sig.returnType = y.2.2.2 ∧ c.maxLocals = y.2.2.1 ∧ s.vm.findClass y.1.cls = some m.cls ∧ (∀ w ∈ gtab, w.before args s = true) ∧ meth.locks = false ∧ K0 g s ∧ injA Ly g
/-- from this place of the method, with these locals, operands and memory, it comes to its end with Post -/
def R (Ly : List Ent) (g : Gt) (y : Mth) (d pc : Nat) (lv : List (Option MV)) (st : List MV) (M : Mem) (Post : Option MV → Mem → Prop) : Prop :=
  ∀ (p : Program) (e : Env) (s : State) (m : MethodId) (args : Array Value) (below : List Frame) (meth : Method) (c : Code) (H : Heap) (locs : List Loc) (ls : Array Slot),
    Cx Ly g y p s m args meth c → lvO g.2.2.1 y.2.2.1 lv ls → va_P g.2.1 vwCl (wsOf Ly g M) H → va_S (ads Ly g) s.heap H locs →
    W p g.1 e (rmD d) s m args below meth c H locs 0 0 (MQ below (Qo Ly g Post) args s 0 0 (ads Ly g)) (F0 m pc ls (st.map (rv g.2.2.1)))
/-- the instruction at a place, and where the next one begins -/
def At (y : Mth) (pc nx len : Nat) (i : Instr) : Prop := decode y.2.1 pc = .ok (i, len) ∧ nx = pc + len
def Jt (y : Mth) (pc nx tgt : Nat) (i : Int → Instr) : Prop := ∃ off : Int, decode y.2.1 pc = .ok (i off, 3) ∧ nx = pc + 3 ∧ (pc : Int) + off = (tgt : Int)
/-! the world's parts -/
theorem ads_at {Ly : List Ent} {g : Gt} {k : Nat} {e : Ent} (h : Ly[k]? = some e) : ads Ly g (g.2.2.1 k) := ⟨k, (List.getElem?_eq_some_iff.mp h).1, rfl⟩
theorem wsD {Ly : List Ent} {g : Gt} {M : Mem} (hi : injA Ly g) : va_D (ads Ly g) (wsOf Ly g M) := by
  refine ⟨fun i j a b h1 h2 h3 => ?_, fun k q h => ?_⟩
  · obtain ⟨e1, a1, rfl⟩ := wsOf_inv h1
    obtain ⟨e2, a2, rfl⟩ := wsOf_inv h2
    exact hi.1 i j (List.getElem?_eq_some_iff.mp a1).1 (List.getElem?_eq_some_iff.mp a2).1 h3
  · obtain ⟨e1, a1, rfl⟩ := wsOf_inv h
    exact ads_at a1
theorem e_c_same {g : Gt} {M M' : Mem} {k : Nat} (h : M' k = M k) (e : Ent) : e_c g M' k e = e_c g M k e := by
  cases e with
  | inl q => simp only [e_c, e_f, h]
  | inr q => simp only [e_c, e_a, h]
theorem P_upd {Ly : List Ent} {g : Gt} {M M' : Mem} {k : Nat} {e : Ent} {e' : va_E} {D : va_G} {cl : List vw_C} {H : Heap} (hP : va_P D cl ((wsOf Ly g M).set k (g.2.2.1 k, e')) H) (hk : Ly[k]? = some e) (he : va_P D cl ((wsOf Ly g M).set k (g.2.2.1 k, e')) H → va_at D cl (g.2.2.1 k, e') H → va_at D cl (g.2.2.1 k, e_c g M' k e) H) (ho : ∀ j, j ≠ k → M' j = M j) : va_P D cl (wsOf Ly g M') H := by
  intro j q hj
  obtain ⟨e2, a2, rfl⟩ := wsOf_inv hj
  by_cases hjk : j = k
  · subst hjk
    rw [hk] at a2; cases a2
    refine he hP (hP j _ ?_)
    rw [List.getElem?_set_self]
    simp only [wsOf, List.length_mapIdx]
    exact (List.getElem?_eq_some_iff.mp hk).1
  · rw [e_c_same (ho j hjk)]
    refine hP j _ ?_
    rw [List.getElem?_set_ne (Ne.symm hjk)]
    exact wsOf_at a2
theorem K0.moved {g : Gt} {u U : State} (hW : u.WarmedH U.vm) (h : K0 g u) : K0 g U := by
  refine ⟨va_K.moved hW.alike h.1, fun w hw => ?_⟩
  have h1 := h.2 w hw
  have h2 := (List.mem_filter.mp hw).2
  cases w <;> first | exact va_Nw.warmM hW h1 | (simp [isNest] at h2; done)
theorem K0.same {g : Gt} {u U : State} (hv : u.vm = U.vm) (h : K0 g u) : K0 g U := by
  refine ⟨va_K.moved (by rw [hv]; exact Vm.Alike.refl _) h.1, fun w hw => ?_⟩
  have h1 := h.2 w hw
  have h2 := (List.mem_filter.mp hw).2
  cases w <;> first | exact va_Nw.same rfl hv h1 | (simp [isNest] at h2; done)
theorem good_in {y y' : Mth} (h : Cond.code y'.1 y'.2.1 y'.2.2.1 y'.2.2.2 ∈ gtab) : GoodIn (wsy y) (wsy y') := by
  intro w hw
  have h1 : w ∈ gtab := by
    rcases List.mem_cons.mp hw with rfl | h2
    · exact h
    · exact h2
  exact ⟨List.mem_cons_of_mem _ h1, good_of_word (List.mem_filter.mp h1).2⟩
/-! numbers -/
theorem cI_rng {z : Int} (h : -2147483648 ≤ z ∧ z ≤ 2147483647) : (Int32.ofInt z).toInt = z := by
  rw [Int32.toInt_ofInt]
  exact Int.bmod_eq_of_le (by simp [Int32.size]; omega) (by simp [Int32.size]; omega)
theorem cI_lt {x y : Int} (hx : -2147483648 ≤ x ∧ x ≤ 2147483647) (hy : -2147483648 ≤ y ∧ y ≤ 2147483647) : Int32.ofInt x < Int32.ofInt y ↔ x < y := by
  rw [Int32.lt_iff_toInt_lt, cI_rng hx, cI_rng hy]
theorem cI_le {x y : Int} (hx : -2147483648 ≤ x ∧ x ≤ 2147483647) (hy : -2147483648 ≤ y ∧ y ≤ 2147483647) : Int32.ofInt x ≤ Int32.ofInt y ↔ x ≤ y := by
  rw [Int32.le_iff_toInt_le, cI_rng hx, cI_rng hy]
theorem cI_eq {x y : Int} (hx : -2147483648 ≤ x ∧ x ≤ 2147483647) (hy : -2147483648 ≤ y ∧ y ≤ 2147483647) : Int32.ofInt x = Int32.ofInt y ↔ x = y := by
  rw [← Int32.toInt_inj, cI_rng hx, cI_rng hy]
theorem cI_0 : (0 : Int32) = Int32.ofInt 0 := by decide
theorem cI_nat {z : Int} (h0 : 0 ≤ z) : Int32.ofInt z = nI z.toNat := by
  obtain ⟨n, rfl⟩ : ∃ n : Nat, z = n := ⟨z.toNat, by omega⟩
  simp [nI, Int32.ofInt_eq_ofNat]
theorem cI_ix {z : Int} {n : Nat} (h : 0 ≤ z ∧ z < n) (hn : n < 2147483648) : vp_in (Int32.ofInt z) n ∧ (Int32.ofInt z).toNatClampNeg = z.toNat := by
  have hr : (Int32.ofInt z).toInt = z := cI_rng (by omega)
  refine ⟨vp_in_iff.mpr (by rw [hr]; exact h), ?_⟩
  show (Int32.ofInt z).toInt.toNat = z.toNat
  rw [hr]
theorem cL_rng {z : Int} (h : -9223372036854775808 ≤ z ∧ z ≤ 9223372036854775807) : (Int64.ofInt z).toInt = z := by
  rw [Int64.toInt_ofInt]
  exact Int.bmod_eq_of_le (by simp [Int64.size]; omega) (by simp [Int64.size]; omega)
theorem cL_nat {z : Int} (h0 : 0 ≤ z) : Int64.ofInt z = lN z.toNat := by
  obtain ⟨n, rfl⟩ : ∃ n : Nat, z = n := ⟨z.toNat, by omega⟩
  simp [lN, Int64.ofInt_eq_ofNat]
end
section
/-! a row an instruction -/
section RW1
variable {Ly : List Ent} {g : Gt} {y : Mth} {d pc nx : Nat} {lv : List (Option MV)} {st : List MV} {M : Mem} {Post : Option MV → Mem → Prop}
theorem Ex.of {as : List MV} {lv0 : List (Option MV)} (hy : plainName y.1.cls = true) (h0 : R Ly g y d 0 lv0 [] M Post)
    (hl : ∀ ad : Nat → Nat, (lg_sl (as.map (rv ad))).length ≤ y.2.2.1 ∧ ∀ (j : Nat) (w : MV), lv0[j]? = some (some w) → (j, rv ad w) ∈ lv_args 0 (as.map (rv ad))) : Ex Ly g d y as M Post := by
  intro hi
  refine Met.ofW (cc := y.2.1) (maxL := y.2.2.1) (ret := y.2.2.2) hy rfl ?_
  intro p e s m args below meth c s₁ B hml hv
  obtain ⟨rfl, hP, hK⟩ := hv
  have hts := atoms_spec (ws := wsy y) B.pre
  have hown : s.vm.findClass y.1.cls = some m.cls := findClass_of_methodNamed B.named
  have hE := lv_entry (as.map (rv g.2.2.1)) (hl g.2.2.1).1
  rw [lg_entry_eq]
  refine h0 p e s m _ below meth c s.heap [] _ ⟨B.exec, B.bytes, B.returns, hml, hown, fun w h => hts w (List.mem_cons_of_mem _ h), B.notSynchronized, hK, hi⟩ ⟨hE.1, hE.2.1, fun j w hj => hE.2.2 _ ((hl g.2.2.1).2 j w hj)⟩ hP va_S.rf
theorem r_con {n : Int} (hd : At y pc nx 1 (.iconst n)) (k : R Ly g y d nx lv (vi n :: st) M Post) : R Ly g y d pc lv st M Post := by
  intro p e s m args below meth c H locs ls C hl hP hS
  obtain ⟨hd, rfl⟩ := hd
  exact lv_iconst C.1 C.2.1 hd rfl (k p e s m args below meth c H locs ls C hl hP hS)
theorem r_bip {n : Int} (hd : At y pc nx 2 (.bipush n)) (hn : -128 ≤ n ∧ n ≤ 127) (k : R Ly g y d nx lv (vi n :: st) M Post) : R Ly g y d pc lv st M Post := by
  intro p e s m args below meth c H locs ls C hl hP hS
  obtain ⟨hd, rfl⟩ := hd
  refine lv_bipush C.1 C.2.1 hd ?_ (k p e s m args below meth c H locs ls C hl hP hS)
  rw [← Int32.toInt_inj, cI_rng (by omega), Int8.toInt_toInt32, Int8.toInt_ofInt]
  exact Int.bmod_eq_of_le (by simp [Int8.size]; omega) (by simp [Int8.size]; omega)
theorem r_sip {n : Int} (hd : At y pc nx 3 (.sipush n)) (hn : -32768 ≤ n ∧ n ≤ 32767) (k : R Ly g y d nx lv (vi n :: st) M Post) : R Ly g y d pc lv st M Post := by
  intro p e s m args below meth c H locs ls C hl hP hS
  obtain ⟨hd, rfl⟩ := hd
  refine lv_sipush C.1 C.2.1 hd ?_ (k p e s m args below meth c H locs ls C hl hP hS)
  rw [← Int32.toInt_inj, cI_rng (by omega), Int16.toInt_toInt32, Int16.toInt_ofInt]
  exact Int.bmod_eq_of_le (by simp [Int16.size]; omega) (by simp [Int16.size]; omega)
theorem r_lcon {n : Fin 2} {z : Int} (hd : At y pc nx 1 (.lconst n)) (hz : ((n : Nat) : Int) = z) (k : R Ly g y d nx lv (vl z :: st) M Post) : R Ly g y d pc lv st M Post := by
  intro p e s m args below meth c H locs ls C hl hP hS
  obtain ⟨hd, rfl⟩ := hd
  subst hz
  exact lv_lconst C.1 C.2.1 hd (by rw [Int64.ofInt_eq_ofNat]) (k p e s m args below meth c H locs ls C hl hP hS)
theorem r_ldc {i : Nat} {n : Int} {v : Int32} (hd : At y pc nx 2 (.ldc i)) (hw : Cond.constant y.1.cls i v ∈ gtab) (hv : v = Int32.ofInt n) (k : R Ly g y d nx lv (vi n :: st) M Post) : R Ly g y d pc lv st M Post := by
  intro p e s m args below meth c H locs ls C hl hP hS
  obtain ⟨hd, rfl⟩ := hd
  subst hv
  exact lv_ldc C.1 C.2.1 C.2.2.2.2.1 (C.2.2.2.2.2.1 _ hw) hd (k p e s m args below meth c H locs ls C hl hP hS)
theorem r_ldc2 {i : Nat} {n : Int} {v : Int64} (hd : At y pc nx 3 (.ldc2_w i)) (hw : Cond.constantLong y.1.cls i v ∈ gtab) (hv : v = Int64.ofInt n) (k : R Ly g y d nx lv (vl n :: st) M Post) : R Ly g y d pc lv st M Post := by
  intro p e s m args below meth c H locs ls C hl hP hS
  obtain ⟨hd, rfl⟩ := hd
  subst hv
  exact lv_ldc2 C.1 C.2.1 C.2.2.2.2.1 (C.2.2.2.2.2.1 _ hw) hd (k p e s m args below meth c H locs ls C hl hP hS)
theorem r_ldn {i : Fin 4} {z : Int} (hd : At y pc nx 1 (.iload_n i)) (hv : lv[(i : Nat)]? = some (some (vi z))) (k : R Ly g y d nx lv (vi z :: st) M Post) : R Ly g y d pc lv st M Post := by
  intro p e s m args below meth c H locs ls C hl hP hS
  obtain ⟨hd, rfl⟩ := hd
  exact lv_iload_n C.1 C.2.1 hd rfl (hl.2.2 _ _ hv) (k p e s m args below meth c H locs ls C hl hP hS)
theorem r_ld {i : Nat} {z : Int} (hd : At y pc nx 2 (.iload i)) (hv : lv[i]? = some (some (vi z))) (k : R Ly g y d nx lv (vi z :: st) M Post) : R Ly g y d pc lv st M Post := by
  intro p e s m args below meth c H locs ls C hl hP hS
  obtain ⟨hd, rfl⟩ := hd
  exact lv_iload C.1 C.2.1 hd (hl.2.2 _ _ hv) (k p e s m args below meth c H locs ls C hl hP hS)
theorem r_lldn {i : Fin 4} {z : Int} (hd : At y pc nx 1 (.lload_n i)) (hv : lv[(i : Nat)]? = some (some (vl z))) (k : R Ly g y d nx lv (vl z :: st) M Post) : R Ly g y d pc lv st M Post := by
  intro p e s m args below meth c H locs ls C hl hP hS
  obtain ⟨hd, rfl⟩ := hd
  exact lv_lload_n C.1 C.2.1 hd rfl (hl.2.2 _ _ hv) (k p e s m args below meth c H locs ls C hl hP hS)
theorem r_lld {i : Nat} {z : Int} (hd : At y pc nx 2 (.lload i)) (hv : lv[i]? = some (some (vl z))) (k : R Ly g y d nx lv (vl z :: st) M Post) : R Ly g y d pc lv st M Post := by
  intro p e s m args below meth c H locs ls C hl hP hS
  obtain ⟨hd, rfl⟩ := hd
  exact lv_lload C.1 C.2.1 hd (hl.2.2 _ _ hv) (k p e s m args below meth c H locs ls C hl hP hS)
theorem r_aldn {i : Fin 4} {z : Nat} (hd : At y pc nx 1 (.aload_n i)) (hv : lv[(i : Nat)]? = some (some (vr z))) (k : R Ly g y d nx lv (vr z :: st) M Post) : R Ly g y d pc lv st M Post := by
  intro p e s m args below meth c H locs ls C hl hP hS
  obtain ⟨hd, rfl⟩ := hd
  exact lv_aload_n C.1 C.2.1 hd rfl (hl.2.2 _ _ hv) (k p e s m args below meth c H locs ls C hl hP hS)
/-! stores into locals -/
def okS (lv : List (Option MV)) (i : Nat) : Bool := match i with
  | 0 => true
  | i + 1 => match lv[i]? with
    | some (some (.inr (.inl _))) => false
    | _ => true
def toL (ad : Nat → Nat) (lv : List (Option MV)) : List (Nat × Value) := lv.zipIdx.filterMap (fun q => q.1.map (fun w => (q.2, rv ad w)))
theorem toL_mem {ad : Nat → Nat} {lv : List (Option MV)} {j : Nat} {w : MV} (h : lv[j]? = some (some w)) : (j, rv ad w) ∈ toL ad lv := by
  refine List.mem_filterMap.mpr ⟨(some w, j), ?_, rfl⟩
  rw [List.mem_zipIdx_iff_getElem?]
  exact h
theorem lvO.has {ad : Nat → Nat} {nL : Nat} {lv : List (Option MV)} {ls : Array Slot} (h : lvO ad nL lv ls) : lv_has ls nL (toL ad lv) := by
  refine ⟨h.1, h.2.1, fun q hq => ?_⟩
  obtain ⟨⟨o, j⟩, h1, h2⟩ := List.mem_filterMap.mp hq
  rw [List.mem_zipIdx_iff_getElem?] at h1
  cases o with
  | none => cases h2
  | some w => cases h2; exact h.2.2 j w h1
theorem lvO.set1 {ad : Nat → Nat} {nL i : Nat} {lv : List (Option MV)} {ls : Array Slot} {w : MV} (ho : okS lv i = true) (h : lv_has ls nL ((i, rv ad w) :: (toL ad lv).filter (fun q => !(q.1 == i) && !(q.1 + 1 == i && q.2.category == 2)))) : lvO ad nL (lv.set i (some w)) ls := by
  refine ⟨h.1, h.2.1, fun j u hj => ?_⟩
  by_cases hji : j = i
  · subst hji
    have hlt := (List.getElem?_eq_some_iff.mp hj).1
    rw [List.length_set] at hlt
    rw [List.getElem?_set_self hlt] at hj
    cases hj
    exact h.2.2 _ List.mem_cons_self
  · rw [List.getElem?_set_ne (Ne.symm hji)] at hj
    refine h.2.2 (j, rv ad u) (List.mem_cons_of_mem _ (List.mem_filter.mpr ⟨toL_mem hj, ?_⟩))
    simp only [Bool.and_eq_true, Bool.not_eq_true', beq_eq_false_iff_ne, ne_eq, Bool.and_eq_false_iff]
    refine ⟨hji, ?_⟩
    by_cases hj1 : j + 1 = i
    · refine Or.inr ?_
      subst hj1
      simp only [okS, hj] at ho
      rcases u with z | z | z
      · simp [rv, Value.category]
      · simp at ho
      · simp [rv, Value.category]
    · exact Or.inl hj1
theorem lvO.set2 {ad : Nat → Nat} {nL i : Nat} {lv : List (Option MV)} {ls : Array Slot} {w : MV} (ho : okS lv i = true) (h : lv_has ls nL ((i, rv ad w) :: (toL ad lv).filter (fun q => !(q.1 == i) && (!(q.1 == i + 1) && !(q.1 + 1 == i && q.2.category == 2))))) : lvO ad nL ((lv.set i (some w)).set (i + 1) none) ls := by
  refine ⟨h.1, h.2.1, fun j u hj => ?_⟩
  by_cases hj2 : j = i + 1
  · subst hj2
    have hlt := (List.getElem?_eq_some_iff.mp hj).1
    rw [List.length_set] at hlt
    rw [List.getElem?_set_self hlt] at hj
    cases hj
  rw [List.getElem?_set_ne (Ne.symm hj2)] at hj
  by_cases hji : j = i
  · subst hji
    have hlt := (List.getElem?_eq_some_iff.mp hj).1
    rw [List.length_set] at hlt
    rw [List.getElem?_set_self hlt] at hj
    cases hj
    exact h.2.2 _ List.mem_cons_self
  · rw [List.getElem?_set_ne (Ne.symm hji)] at hj
    refine h.2.2 (j, rv ad u) (List.mem_cons_of_mem _ (List.mem_filter.mpr ⟨toL_mem hj, ?_⟩))
    simp only [Bool.and_eq_true, Bool.not_eq_true', beq_eq_false_iff_ne, ne_eq, Bool.and_eq_false_iff]
    refine ⟨hji, hj2, ?_⟩
    by_cases hj1 : j + 1 = i
    · refine Or.inr ?_
      subst hj1
      simp only [okS, hj] at ho
      rcases u with z | z | z
      · simp [rv, Value.category]
      · simp at ho
      · simp [rv, Value.category]
    · exact Or.inl hj1
theorem r_stn {i : Fin 4} {z : Int} (hd : At y pc nx 1 (.istore_n i)) (hi : (i : Nat) < y.2.2.1) (ho : okS lv i = true) (k : R Ly g y d nx (lv.set i (some (vi z))) st M Post) : R Ly g y d pc lv (vi z :: st) M Post := by
  intro p e s m args below meth c H locs ls C hl hP hS
  obtain ⟨hd, rfl⟩ := hd
  exact lv_istore_n C.1 C.2.1 hd rfl hl.has hi rfl (fun ls' hl' => k p e s m args below meth c H locs ls' C (lvO.set1 ho hl') hP hS)
theorem r_st {i : Nat} {z : Int} (hd : At y pc nx 2 (.istore i)) (hi : i < y.2.2.1) (ho : okS lv i = true) (k : R Ly g y d nx (lv.set i (some (vi z))) st M Post) : R Ly g y d pc lv (vi z :: st) M Post := by
  intro p e s m args below meth c H locs ls C hl hP hS
  obtain ⟨hd, rfl⟩ := hd
  exact lv_istore C.1 C.2.1 hd hl.has hi rfl (fun ls' hl' => k p e s m args below meth c H locs ls' C (lvO.set1 ho hl') hP hS)
theorem r_astn {i : Fin 4} {z : Nat} (hd : At y pc nx 1 (.astore_n i)) (hi : (i : Nat) < y.2.2.1) (ho : okS lv i = true) (k : R Ly g y d nx (lv.set i (some (vr z))) st M Post) : R Ly g y d pc lv (vr z :: st) M Post := by
  intro p e s m args below meth c H locs ls C hl hP hS
  obtain ⟨hd, rfl⟩ := hd
  exact lv_astore_n C.1 C.2.1 hd rfl hl.has hi rfl (fun ls' hl' => k p e s m args below meth c H locs ls' C (lvO.set1 ho hl') hP hS)
theorem r_lstn {i : Fin 4} {z : Int} (hd : At y pc nx 1 (.lstore_n i)) (hi : (i : Nat) + 1 < y.2.2.1) (ho : okS lv i = true) (k : R Ly g y d nx ((lv.set i (some (vl z))).set (i + 1) none) st M Post) : R Ly g y d pc lv (vl z :: st) M Post := by
  intro p e s m args below meth c H locs ls C hl hP hS
  obtain ⟨hd, rfl⟩ := hd
  exact lv_lstore_n C.1 C.2.1 hd rfl hl.has hi rfl (fun ls' hl' => k p e s m args below meth c H locs ls' C (lvO.set2 ho hl') hP hS)
theorem r_lst {i : Nat} {z : Int} (hd : At y pc nx 2 (.lstore i)) (hi : i + 1 < y.2.2.1) (ho : okS lv i = true) (k : R Ly g y d nx ((lv.set i (some (vl z))).set (i + 1) none) st M Post) : R Ly g y d pc lv (vl z :: st) M Post := by
  intro p e s m args below meth c H locs ls C hl hP hS
  obtain ⟨hd, rfl⟩ := hd
  exact lv_lstore C.1 C.2.1 hd hl.has hi rfl (fun ls' hl' => k p e s m args below meth c H locs ls' C (lvO.set2 ho hl') hP hS)
theorem r_inc {i : Nat} {n z : Int} (hd : At y pc nx 3 (.iinc i n)) (hv : lv[i]? = some (some (vi z))) (hi : i < y.2.2.1) (ho : okS lv i = true) (k : R Ly g y d nx (lv.set i (some (vi (z + n)))) st M Post) : R Ly g y d pc lv st M Post := by
  intro p e s m args below meth c H locs ls C hl hP hS
  obtain ⟨hd, rfl⟩ := hd
  obtain ⟨q, hq⟩ := List.getElem?_of_mem (toL_mem (ad := g.2.2.1) hv)
  exact lv_iinc C.1 C.2.1 hd hl.has hq (v := Int32.ofInt (z + n)) (by rw [Int32.ofInt_add]) hi rfl (fun ls' hl' => k p e s m args below meth c H locs ls' C (lvO.set1 (w := vi (z + n)) ho hl') hP hS)
/-! arithmetic -/
theorem r_add {a b : Int} (hd : At y pc nx 1 .iadd) (k : R Ly g y d nx lv (vi (a + b) :: st) M Post) : R Ly g y d pc lv (vi b :: vi a :: st) M Post := by
  intro p e s m args below meth c H locs ls C hl hP hS
  obtain ⟨hd, rfl⟩ := hd
  refine lv_iadd C.1 C.2.1 hd ?_
  rw [← Int32.ofInt_add]
  exact k p e s m args below meth c H locs ls C hl hP hS
theorem r_sub {a b : Int} (hd : At y pc nx 1 .isub) (k : R Ly g y d nx lv (vi (a - b) :: st) M Post) : R Ly g y d pc lv (vi b :: vi a :: st) M Post := by
  intro p e s m args below meth c H locs ls C hl hP hS
  obtain ⟨hd, rfl⟩ := hd
  refine lv_isub C.1 C.2.1 hd ?_
  rw [← Int32.ofInt_sub]
  exact k p e s m args below meth c H locs ls C hl hP hS
theorem r_mul {a b : Int} (hd : At y pc nx 1 .imul) (k : R Ly g y d nx lv (vi (a * b) :: st) M Post) : R Ly g y d pc lv (vi b :: vi a :: st) M Post := by
  intro p e s m args below meth c H locs ls C hl hP hS
  obtain ⟨hd, rfl⟩ := hd
  refine lv_imul C.1 C.2.1 hd ?_
  rw [← Int32.ofInt_mul]
  exact k p e s m args below meth c H locs ls C hl hP hS
theorem r_neg {a : Int} (hd : At y pc nx 1 .ineg) (k : R Ly g y d nx lv (vi (-a) :: st) M Post) : R Ly g y d pc lv (vi a :: st) M Post := by
  intro p e s m args below meth c H locs ls C hl hP hS
  obtain ⟨hd, rfl⟩ := hd
  refine lv_ineg C.1 C.2.1 hd ?_
  rw [← Int32.ofInt_neg]
  exact k p e s m args below meth c H locs ls C hl hP hS
theorem r_div {a b : Int} (hd : At y pc nx 1 .idiv) (ha : 0 ≤ a ∧ a ≤ 2147483647) (hb : 0 < b ∧ b ≤ 2147483647) (k : R Ly g y d nx lv (vi (a / b) :: st) M Post) : R Ly g y d pc lv (vi b :: vi a :: st) M Post := by
  intro p e s m args below meth c H locs ls C hl hP hS
  obtain ⟨hd, rfl⟩ := hd
  have e1 : Int32.ofInt a / Int32.ofInt b = Int32.ofInt (a / b) := by
    obtain ⟨n, rfl⟩ : ∃ n : Nat, a = n := ⟨a.toNat, by omega⟩
    obtain ⟨q, rfl⟩ : ∃ q : Nat, b = q := ⟨b.toNat, by omega⟩
    rw [← Int.natCast_ediv, cI_nat (Int.natCast_nonneg n), cI_nat (Int.natCast_nonneg q), cI_nat (Int.natCast_nonneg _)]
    exact pk_div (a := n) (d := q) (by omega) (by omega) (by omega)
  refine lv_idiv C.1 C.2.1 hd ?_ ?_
  · rw [cI_0, cI_eq (by omega) (by omega)]; omega
  · rw [e1]
    exact k p e s m args below meth c H locs ls C hl hP hS
theorem r_rem {a b : Int} (hd : At y pc nx 1 .irem) (ha : 0 ≤ a ∧ a ≤ 2147483647) (hb : 0 < b ∧ b ≤ 2147483647) (k : R Ly g y d nx lv (vi (a % b) :: st) M Post) : R Ly g y d pc lv (vi b :: vi a :: st) M Post := by
  intro p e s m args below meth c H locs ls C hl hP hS
  obtain ⟨hd, rfl⟩ := hd
  have e1 : Int32.ofInt a - Int32.ofInt a / Int32.ofInt b * Int32.ofInt b = Int32.ofInt (a % b) := by
    obtain ⟨n, rfl⟩ : ∃ n : Nat, a = n := ⟨a.toNat, by omega⟩
    obtain ⟨q, rfl⟩ : ∃ q : Nat, b = q := ⟨b.toNat, by omega⟩
    rw [← Int.natCast_emod, cI_nat (Int.natCast_nonneg n), cI_nat (Int.natCast_nonneg q), cI_nat (Int.natCast_nonneg _)]
    exact pk_rem (a := n) (d := q) (by omega) (by omega) (by omega)
  refine lv_irem C.1 C.2.1 hd ?_ ?_
  · rw [cI_0, cI_eq (by omega) (by omega)]; omega
  · rw [e1]
    exact k p e s m args below meth c H locs ls C hl hP hS
theorem c_shl1 : ∀ n, n < 31 → (1 : Int32) <<< (Int32.ofInt ((n : Nat) : Int) &&& 31) = Int32.ofInt (((2 ^ n : Nat)) : Int) := by decide +kernel
theorem c_sh : ∀ n, n < 32 → ((Int32.ofInt ((n : Nat) : Int) &&& 31).toBitVec.smod 32).toNat = n := by decide +kernel
theorem r_shl {b : Int} (hd : At y pc nx 1 .ishl) (hb : 0 ≤ b ∧ b ≤ 30) (k : R Ly g y d nx lv (vi (2 ^ b.toNat) :: st) M Post) : R Ly g y d pc lv (vi b :: vi 1 :: st) M Post := by
  intro p e s m args below meth c H locs ls C hl hP hS
  obtain ⟨hd, rfl⟩ := hd
  refine lv_ishl C.1 C.2.1 hd ?_
  obtain ⟨n, rfl⟩ : ∃ n : Nat, b = n := ⟨b.toNat, by omega⟩
  have e1 := c_shl1 n (by omega)
  rw [show (Int32.ofInt 1) = 1 by decide, e1]
  have e2 : (((2 ^ n : Nat)) : Int) = 2 ^ (n : Int).toNat := by simp
  rw [e2]
  exact k p e s m args below meth c H locs ls C hl hP hS
theorem r_shr {a b : Int} (hd : At y pc nx 1 .ishr) (ha : 0 ≤ a ∧ a ≤ 2147483647) (hb : 0 ≤ b ∧ b ≤ 31) (k : R Ly g y d nx lv (vi (a / 2 ^ b.toNat) :: st) M Post) : R Ly g y d pc lv (vi b :: vi a :: st) M Post := by
  intro p e s m args below meth c H locs ls C hl hP hS
  obtain ⟨hd, rfl⟩ := hd
  refine lv_ishr C.1 C.2.1 hd ?_
  obtain ⟨n, rfl⟩ : ∃ n : Nat, b = n := ⟨b.toNat, by omega⟩
  obtain ⟨x, rfl⟩ : ∃ x : Nat, a = x := ⟨a.toNat, by omega⟩
  have e1 := pk_shrN (n := x) (by omega) _ n (c_sh n (by omega))
  rw [cI_nat (z := (x : Int)) (by omega), Int.toNat_natCast, e1]
  have e2 : nI (x / 2 ^ n) = Int32.ofInt ((x : Int) / 2 ^ (n : Int).toNat) := by
    have : ((x : Int) / 2 ^ (n : Int).toNat) = ((x / 2 ^ n : Nat) : Int) := by simp
    rw [this, cI_nat (Int.natCast_nonneg _), Int.toNat_natCast]
  rw [e2]
  exact k p e s m args below meth c H locs ls C hl hP hS
theorem r_and1 {a : Int} (hd : At y pc nx 1 .iand) (ha : 0 ≤ a ∧ a ≤ 2147483647) (k : R Ly g y d nx lv (vi (a % 2) :: st) M Post) : R Ly g y d pc lv (vi 1 :: vi a :: st) M Post := by
  intro p e s m args below meth c H locs ls C hl hP hS
  obtain ⟨hd, rfl⟩ := hd
  refine lv_iand C.1 C.2.1 hd ?_
  obtain ⟨x, rfl⟩ : ∃ x : Nat, a = x := ⟨a.toNat, by omega⟩
  have e1 := pk_andN (n := x) (m := 1) (by omega) 1 (by decide)
  rw [cI_nat (z := (x : Int)) (by omega), Int.toNat_natCast, show (Int32.ofInt 1) = 1 by decide, e1]
  have e2 : nI (x % 2 ^ 1) = Int32.ofInt ((x : Int) % 2) := by
    have : ((x : Int) % 2) = ((x % 2 ^ 1 : Nat) : Int) := by simp
    rw [this, cI_nat (Int.natCast_nonneg _), Int.toNat_natCast]
  rw [e2]
  exact k p e s m args below meth c H locs ls C hl hP hS
theorem c_or (a b : Nat) : nI a ||| nI b = nI (a ||| b) := by
  apply Int32.toBitVec_inj.mp
  simp only [Int32.toBitVec_or, nI, Int32.toBitVec_ofNat']
  apply BitVec.eq_of_toNat_eq
  simp [Nat.or_mod_two_pow]
theorem r_or {a b : Int} (hd : At y pc nx 1 .ior) (ha : 0 ≤ a) (hb : 0 ≤ b) (k : R Ly g y d nx lv (vi ((a.toNat ||| b.toNat : Nat) : Int) :: st) M Post) : R Ly g y d pc lv (vi b :: vi a :: st) M Post := by
  intro p e s m args below meth c H locs ls C hl hP hS
  obtain ⟨hd, rfl⟩ := hd
  refine lv_ior C.1 C.2.1 hd ?_
  rw [cI_nat ha, cI_nat hb, c_or]
  have e2 : nI (a.toNat ||| b.toNat) = Int32.ofInt ((a.toNat ||| b.toNat : Nat) : Int) := by
    rw [cI_nat (by omega), Int.toNat_natCast]
  rw [e2]
  exact k p e s m args below meth c H locs ls C hl hP hS
end RW1
end
section
/-! branches, fields, arrays, calls, ends -/
section RW2
variable {Ly : List Ent} {g : Gt} {y : Mth} {d pc nx : Nat} {lv : List (Option MV)} {st : List MV} {M : Mem} {Post : Option MV → Mem → Prop}
theorem r_goto {tgt : Nat} (hd : Jt y pc nx tgt .goto) (k : R Ly g y d tgt lv st M Post) : R Ly g y d pc lv st M Post := by
  intro p e s m args below meth c H locs ls C hl hP hS
  obtain ⟨off, hd, -, ht⟩ := hd
  exact lv_goto C.1 C.2.1 hd ht (k p e s m args below meth c H locs ls C hl hP hS)
theorem r_ifeq {tgt : Nat} {a : Int} (hd : Jt y pc nx tgt (.ifCond .eq)) (ha : -2147483648 ≤ a ∧ a ≤ 2147483647) (k1 : a = 0 → R Ly g y d tgt lv st M Post) (k2 : a ≠ 0 → R Ly g y d nx lv st M Post) : R Ly g y d pc lv (vi a :: st) M Post := by
  intro p e s m args below meth c H locs ls C hl hP hS
  obtain ⟨off, hd, rfl, ht⟩ := hd
  have h0 : Int32.ofInt a = 0 ↔ a = 0 := by rw [cI_0, cI_eq ha (by omega)]
  exact lv_if_eq C.1 C.2.1 hd ht (fun h => k1 (h0.mp h) p e s m args below meth c H locs ls C hl hP hS) (fun h => k2 (fun q => h (h0.mpr q)) p e s m args below meth c H locs ls C hl hP hS)
theorem r_ifne {tgt : Nat} {a : Int} (hd : Jt y pc nx tgt (.ifCond .ne)) (ha : -2147483648 ≤ a ∧ a ≤ 2147483647) (k1 : a ≠ 0 → R Ly g y d tgt lv st M Post) (k2 : a = 0 → R Ly g y d nx lv st M Post) : R Ly g y d pc lv (vi a :: st) M Post := by
  intro p e s m args below meth c H locs ls C hl hP hS
  obtain ⟨off, hd, rfl, ht⟩ := hd
  have h0 : Int32.ofInt a = 0 ↔ a = 0 := by rw [cI_0, cI_eq ha (by omega)]
  exact lv_if_ne C.1 C.2.1 hd ht (fun h => k1 (fun q => h (h0.mpr q)) p e s m args below meth c H locs ls C hl hP hS) (fun h => k2 (h0.mp h) p e s m args below meth c H locs ls C hl hP hS)
theorem r_iflt {tgt : Nat} {a : Int} (hd : Jt y pc nx tgt (.ifCond .lt)) (ha : -2147483648 ≤ a ∧ a ≤ 2147483647) (k1 : a < 0 → R Ly g y d tgt lv st M Post) (k2 : 0 ≤ a → R Ly g y d nx lv st M Post) : R Ly g y d pc lv (vi a :: st) M Post := by
  intro p e s m args below meth c H locs ls C hl hP hS
  obtain ⟨off, hd, rfl, ht⟩ := hd
  have h0 : Int32.ofInt a < 0 ↔ a < 0 := by rw [cI_0, cI_lt ha (by omega)]
  exact lv_if_lt C.1 C.2.1 hd ht (fun h => k1 (h0.mp h) p e s m args below meth c H locs ls C hl hP hS) (fun h => k2 (Int.not_lt.mp (fun q => h (h0.mpr q))) p e s m args below meth c H locs ls C hl hP hS)
theorem r_ifge {tgt : Nat} {a : Int} (hd : Jt y pc nx tgt (.ifCond .ge)) (ha : -2147483648 ≤ a ∧ a ≤ 2147483647) (k1 : 0 ≤ a → R Ly g y d tgt lv st M Post) (k2 : a < 0 → R Ly g y d nx lv st M Post) : R Ly g y d pc lv (vi a :: st) M Post := by
  intro p e s m args below meth c H locs ls C hl hP hS
  obtain ⟨off, hd, rfl, ht⟩ := hd
  have h0 : (0 : Int32) ≤ Int32.ofInt a ↔ 0 ≤ a := by rw [cI_0, cI_le (by omega) ha]
  exact lv_if_ge C.1 C.2.1 hd ht (fun h => k1 (h0.mp h) p e s m args below meth c H locs ls C hl hP hS) (fun h => k2 (Int.not_le.mp (fun q => h (h0.mpr q))) p e s m args below meth c H locs ls C hl hP hS)
theorem r_ifgt {tgt : Nat} {a : Int} (hd : Jt y pc nx tgt (.ifCond .gt)) (ha : -2147483648 ≤ a ∧ a ≤ 2147483647) (k1 : 0 < a → R Ly g y d tgt lv st M Post) (k2 : a ≤ 0 → R Ly g y d nx lv st M Post) : R Ly g y d pc lv (vi a :: st) M Post := by
  intro p e s m args below meth c H locs ls C hl hP hS
  obtain ⟨off, hd, rfl, ht⟩ := hd
  have h0 : (0 : Int32) < Int32.ofInt a ↔ 0 < a := by rw [cI_0, cI_lt (by omega) ha]
  exact lv_if_gt C.1 C.2.1 hd ht (fun h => k1 (h0.mp h) p e s m args below meth c H locs ls C hl hP hS) (fun h => k2 (Int.not_lt.mp (fun q => h (h0.mpr q))) p e s m args below meth c H locs ls C hl hP hS)
theorem r_ifle {tgt : Nat} {a : Int} (hd : Jt y pc nx tgt (.ifCond .le)) (ha : -2147483648 ≤ a ∧ a ≤ 2147483647) (k1 : a ≤ 0 → R Ly g y d tgt lv st M Post) (k2 : 0 < a → R Ly g y d nx lv st M Post) : R Ly g y d pc lv (vi a :: st) M Post := by
  intro p e s m args below meth c H locs ls C hl hP hS
  obtain ⟨off, hd, rfl, ht⟩ := hd
  have h0 : Int32.ofInt a ≤ 0 ↔ a ≤ 0 := by rw [cI_0, cI_le ha (by omega)]
  exact lv_if_le C.1 C.2.1 hd ht (fun h => k1 (h0.mp h) p e s m args below meth c H locs ls C hl hP hS) (fun h => k2 (Int.not_le.mp (fun q => h (h0.mpr q))) p e s m args below meth c H locs ls C hl hP hS)
theorem r_ceq {tgt : Nat} {a b : Int} (hd : Jt y pc nx tgt (.if_icmp .eq)) (ha : (-2147483648 ≤ a ∧ a ≤ 2147483647) ∧ (-2147483648 ≤ b ∧ b ≤ 2147483647)) (k1 : a = b → R Ly g y d tgt lv st M Post) (k2 : a ≠ b → R Ly g y d nx lv st M Post) : R Ly g y d pc lv (vi b :: vi a :: st) M Post := by
  intro p e s m args below meth c H locs ls C hl hP hS
  obtain ⟨off, hd, rfl, ht⟩ := hd
  have h0 := cI_eq ha.1 ha.2
  exact lv_icmp_eq C.1 C.2.1 hd ht (fun h => k1 (h0.mp h) p e s m args below meth c H locs ls C hl hP hS) (fun h => k2 (fun q => h (h0.mpr q)) p e s m args below meth c H locs ls C hl hP hS)
theorem r_cne {tgt : Nat} {a b : Int} (hd : Jt y pc nx tgt (.if_icmp .ne)) (ha : (-2147483648 ≤ a ∧ a ≤ 2147483647) ∧ (-2147483648 ≤ b ∧ b ≤ 2147483647)) (k1 : a ≠ b → R Ly g y d tgt lv st M Post) (k2 : a = b → R Ly g y d nx lv st M Post) : R Ly g y d pc lv (vi b :: vi a :: st) M Post := by
  intro p e s m args below meth c H locs ls C hl hP hS
  obtain ⟨off, hd, rfl, ht⟩ := hd
  have h0 := cI_eq ha.1 ha.2
  exact lv_icmp_ne C.1 C.2.1 hd ht (fun h => k1 (fun q => h (h0.mpr q)) p e s m args below meth c H locs ls C hl hP hS) (fun h => k2 (h0.mp h) p e s m args below meth c H locs ls C hl hP hS)
theorem r_clt {tgt : Nat} {a b : Int} (hd : Jt y pc nx tgt (.if_icmp .lt)) (ha : (-2147483648 ≤ a ∧ a ≤ 2147483647) ∧ (-2147483648 ≤ b ∧ b ≤ 2147483647)) (k1 : a < b → R Ly g y d tgt lv st M Post) (k2 : b ≤ a → R Ly g y d nx lv st M Post) : R Ly g y d pc lv (vi b :: vi a :: st) M Post := by
  intro p e s m args below meth c H locs ls C hl hP hS
  obtain ⟨off, hd, rfl, ht⟩ := hd
  have h0 := cI_lt ha.1 ha.2
  exact lv_icmp_lt C.1 C.2.1 hd ht (fun h => k1 (h0.mp h) p e s m args below meth c H locs ls C hl hP hS) (fun h => k2 (Int.not_lt.mp (fun q => h (h0.mpr q))) p e s m args below meth c H locs ls C hl hP hS)
theorem r_cge {tgt : Nat} {a b : Int} (hd : Jt y pc nx tgt (.if_icmp .ge)) (ha : (-2147483648 ≤ a ∧ a ≤ 2147483647) ∧ (-2147483648 ≤ b ∧ b ≤ 2147483647)) (k1 : b ≤ a → R Ly g y d tgt lv st M Post) (k2 : a < b → R Ly g y d nx lv st M Post) : R Ly g y d pc lv (vi b :: vi a :: st) M Post := by
  intro p e s m args below meth c H locs ls C hl hP hS
  obtain ⟨off, hd, rfl, ht⟩ := hd
  have h0 := cI_le ha.2 ha.1
  exact lv_icmp_ge C.1 C.2.1 hd ht (fun h => k1 (h0.mp h) p e s m args below meth c H locs ls C hl hP hS) (fun h => k2 (Int.not_le.mp (fun q => h (h0.mpr q))) p e s m args below meth c H locs ls C hl hP hS)
theorem r_cgt {tgt : Nat} {a b : Int} (hd : Jt y pc nx tgt (.if_icmp .gt)) (ha : (-2147483648 ≤ a ∧ a ≤ 2147483647) ∧ (-2147483648 ≤ b ∧ b ≤ 2147483647)) (k1 : b < a → R Ly g y d tgt lv st M Post) (k2 : a ≤ b → R Ly g y d nx lv st M Post) : R Ly g y d pc lv (vi b :: vi a :: st) M Post := by
  intro p e s m args below meth c H locs ls C hl hP hS
  obtain ⟨off, hd, rfl, ht⟩ := hd
  have h0 := cI_lt ha.2 ha.1
  exact lv_icmp_gt C.1 C.2.1 hd ht (fun h => k1 (h0.mp h) p e s m args below meth c H locs ls C hl hP hS) (fun h => k2 (Int.not_lt.mp (fun q => h (h0.mpr q))) p e s m args below meth c H locs ls C hl hP hS)
theorem r_cle {tgt : Nat} {a b : Int} (hd : Jt y pc nx tgt (.if_icmp .le)) (ha : (-2147483648 ≤ a ∧ a ≤ 2147483647) ∧ (-2147483648 ≤ b ∧ b ≤ 2147483647)) (k1 : a ≤ b → R Ly g y d tgt lv st M Post) (k2 : b < a → R Ly g y d nx lv st M Post) : R Ly g y d pc lv (vi b :: vi a :: st) M Post := by
  intro p e s m args below meth c H locs ls C hl hP hS
  obtain ⟨off, hd, rfl, ht⟩ := hd
  have h0 := cI_le ha.1 ha.2
  exact lv_icmp_le C.1 C.2.1 hd ht (fun h => k1 (h0.mp h) p e s m args below meth c H locs ls C hl hP hS) (fun h => k2 (Int.not_le.mp (fun q => h (h0.mpr q))) p e s m args below meth c H locs ls C hl hP hS)
theorem r_tabIn {dflt lo hi off : Int} {offs : Array Int} {len tgt : Nat} {a : Int} (hd : At y pc nx len (.tableswitch dflt lo hi offs)) (ha : -2147483648 ≤ a ∧ a ≤ 2147483647) (h1 : ¬ a < lo) (h2 : ¬ hi < a) (ho : offs[(a - lo).toNat]? = some off) (ht : (pc : Int) + off = (tgt : Int)) (k : R Ly g y d tgt lv st M Post) : R Ly g y d pc lv (vi a :: st) M Post := by
  intro p e s m args below meth c H locs ls C hl hP hS
  obtain ⟨hd, -⟩ := hd
  have h0 := cI_rng ha
  exact lv_tableIn C.1 C.2.1 hd (by rw [h0]; exact h1) (by rw [h0]; exact h2) (by rw [h0]; exact ho) ht (k p e s m args below meth c H locs ls C hl hP hS)
theorem r_tabOut {dflt lo hi : Int} {offs : Array Int} {len tgt : Nat} {a : Int} (hd : At y pc nx len (.tableswitch dflt lo hi offs)) (ha : -2147483648 ≤ a ∧ a ≤ 2147483647) (h1 : a < lo ∨ hi < a) (ht : (pc : Int) + dflt = (tgt : Int)) (k : R Ly g y d tgt lv st M Post) : R Ly g y d pc lv (vi a :: st) M Post := by
  intro p e s m args below meth c H locs ls C hl hP hS
  obtain ⟨hd, -⟩ := hd
  have h0 := cI_rng ha
  exact lv_tableOut C.1 C.2.1 hd (by rw [h0]; exact h1) ht (k p e s m args below meth c H locs ls C hl hP hS)
theorem r_look {dflt off : Int} {ps : Array (Int × Int)} {len tgt : Nat} {a : Int} (hd : At y pc nx len (.lookupswitch dflt ps)) (ha : -2147483648 ≤ a ∧ a ≤ 2147483647) (hp : (ps.toList.zip (ps.toList.drop 1)).all (fun (a, next) => a.1 < next.1) = true) (ho : Op.lookupswitch.offset ps.toList dflt a = off) (ht : (pc : Int) + off = (tgt : Int)) (k : R Ly g y d tgt lv st M Post) : R Ly g y d pc lv (vi a :: st) M Post := by
  intro p e s m args below meth c H locs ls C hl hP hS
  obtain ⟨hd, -⟩ := hd
  have h0 := cI_rng ha
  exact lv_lookup C.1 C.2.1 hd hp (by rw [h0]; exact ho) ht (k p e s m args below meth c H locs ls C hl hP hS)
/-! the operand stack -/
def cat1 (v : MV) : Bool := match v with
  | .inr (.inl _) => false
  | _ => true
theorem cat1_ok {ad : Nat → Nat} {v : MV} (h : cat1 v = true) : (rv ad v).category = 1 := by
  rcases v with z | z | z
  · rfl
  · cases h
  · rfl
theorem r_dup {v : MV} (hd : At y pc nx 1 .dup) (hv : cat1 v = true) (k : R Ly g y d nx lv (v :: v :: st) M Post) : R Ly g y d pc lv (v :: st) M Post := by
  intro p e s m args below meth c H locs ls C hl hP hS
  obtain ⟨hd, rfl⟩ := hd
  exact lv_dup C.1 C.2.1 hd (cat1_ok hv) (k p e s m args below meth c H locs ls C hl hP hS)
theorem r_dup2 {v w : MV} (hd : At y pc nx 1 .dup2) (hv : cat1 v = true) (hw : cat1 w = true) (k : R Ly g y d nx lv (v :: w :: v :: w :: st) M Post) : R Ly g y d pc lv (v :: w :: st) M Post := by
  intro p e s m args below meth c H locs ls C hl hP hS
  obtain ⟨hd, rfl⟩ := hd
  exact lv_dup2_11 C.1 C.2.1 hd (cat1_ok hv) (cat1_ok hw) (k p e s m args below meth c H locs ls C hl hP hS)
/-! longs -/
theorem r_i2l {a : Int} (hd : At y pc nx 1 .i2l) (ha : -2147483648 ≤ a ∧ a ≤ 2147483647) (k : R Ly g y d nx lv (vl a :: st) M Post) : R Ly g y d pc lv (vi a :: st) M Post := by
  intro p e s m args below meth c H locs ls C hl hP hS
  obtain ⟨hd, rfl⟩ := hd
  refine lv_i2l C.1 C.2.1 hd ?_ (k p e s m args below meth c H locs ls C hl hP hS)
  rw [← Int64.toInt_inj, Int32.toInt_toInt64, cI_rng ha, cL_rng (by omega)]
theorem r_l2i {a : Int} (hd : At y pc nx 1 .l2i) (ha : -2147483648 ≤ a ∧ a ≤ 2147483647) (k : R Ly g y d nx lv (vi a :: st) M Post) : R Ly g y d pc lv (vl a :: st) M Post := by
  intro p e s m args below meth c H locs ls C hl hP hS
  obtain ⟨hd, rfl⟩ := hd
  refine lv_l2i C.1 C.2.1 hd ?_ (k p e s m args below meth c H locs ls C hl hP hS)
  rw [← Int32.toInt_inj, Int64.toInt_toInt32, cI_rng ha, cL_rng (by omega)]
  exact Int.bmod_eq_of_le (by omega) (by omega)
theorem r_lsub {a b : Int} (hd : At y pc nx 1 .lsub) (k : R Ly g y d nx lv (vl (a - b) :: st) M Post) : R Ly g y d pc lv (vl b :: vl a :: st) M Post := by
  intro p e s m args below meth c H locs ls C hl hP hS
  obtain ⟨hd, rfl⟩ := hd
  refine lv_lsub C.1 C.2.1 hd ?_
  rw [← Int64.ofInt_sub]
  exact k p e s m args below meth c H locs ls C hl hP hS
theorem r_lmul {a b : Int} (hd : At y pc nx 1 .lmul) (k : R Ly g y d nx lv (vl (a * b) :: st) M Post) : R Ly g y d pc lv (vl b :: vl a :: st) M Post := by
  intro p e s m args below meth c H locs ls C hl hP hS
  obtain ⟨hd, rfl⟩ := hd
  refine lv_lmul C.1 C.2.1 hd ?_
  rw [← Int64.ofInt_mul]
  exact k p e s m args below meth c H locs ls C hl hP hS
theorem r_lneg {a : Int} (hd : At y pc nx 1 .lneg) (k : R Ly g y d nx lv (vl (-a) :: st) M Post) : R Ly g y d pc lv (vl a :: st) M Post := by
  intro p e s m args below meth c H locs ls C hl hP hS
  obtain ⟨hd, rfl⟩ := hd
  refine lv_lneg C.1 C.2.1 hd ?_
  rw [← Int64.ofInt_neg]
  exact k p e s m args below meth c H locs ls C hl hP hS
theorem cL_eq {x y : Int} (hx : -9223372036854775808 ≤ x ∧ x ≤ 9223372036854775807) (hy : -9223372036854775808 ≤ y ∧ y ≤ 9223372036854775807) : Int64.ofInt x = Int64.ofInt y ↔ x = y := by
  rw [← Int64.toInt_inj, cL_rng hx, cL_rng hy]
theorem cL_0 : (0 : Int64) = Int64.ofInt 0 := by decide
theorem r_ldiv {a b : Int} (hd : At y pc nx 1 .ldiv) (ha : 0 ≤ a ∧ a ≤ 9223372036854775807) (hb : 0 < b ∧ b ≤ 9223372036854775807) (k : R Ly g y d nx lv (vl (a / b) :: st) M Post) : R Ly g y d pc lv (vl b :: vl a :: st) M Post := by
  intro p e s m args below meth c H locs ls C hl hP hS
  obtain ⟨hd, rfl⟩ := hd
  have e1 : Int64.ofInt a / Int64.ofInt b = Int64.ofInt (a / b) := by
    obtain ⟨n, rfl⟩ : ∃ n : Nat, a = n := ⟨a.toNat, by omega⟩
    obtain ⟨q, rfl⟩ : ∃ q : Nat, b = q := ⟨b.toNat, by omega⟩
    rw [← Int.natCast_ediv, cL_nat (Int.natCast_nonneg n), cL_nat (Int.natCast_nonneg q), cL_nat (Int.natCast_nonneg _)]
    exact pk_lDiv (a := n) (b := q) (by omega) (by omega) (by omega)
  refine lv_ldiv C.1 C.2.1 hd ?_ ?_
  · rw [cL_0, cL_eq (by omega) (by omega)]; omega
  · rw [e1]
    exact k p e s m args below meth c H locs ls C hl hP hS
theorem r_lrem {a b : Int} (hd : At y pc nx 1 .lrem) (ha : 0 ≤ a ∧ a ≤ 9223372036854775807) (hb : 0 < b ∧ b ≤ 9223372036854775807) (k : R Ly g y d nx lv (vl (a % b) :: st) M Post) : R Ly g y d pc lv (vl b :: vl a :: st) M Post := by
  intro p e s m args below meth c H locs ls C hl hP hS
  obtain ⟨hd, rfl⟩ := hd
  have e1 : Int64.ofInt a - Int64.ofInt a / Int64.ofInt b * Int64.ofInt b = Int64.ofInt (a % b) := by
    obtain ⟨n, rfl⟩ : ∃ n : Nat, a = n := ⟨a.toNat, by omega⟩
    obtain ⟨q, rfl⟩ : ∃ q : Nat, b = q := ⟨b.toNat, by omega⟩
    rw [← Int.natCast_emod, cL_nat (Int.natCast_nonneg n), cL_nat (Int.natCast_nonneg q), cL_nat (Int.natCast_nonneg _)]
    exact pk_lRem (a := n) (b := q) (by omega) (by omega) (by omega)
  refine lv_lrem C.1 C.2.1 hd ?_ ?_
  · rw [cL_0, cL_eq (by omega) (by omega)]; omega
  · rw [e1]
    exact k p e s m args below meth c H locs ls C hl hP hS
theorem r_lcmp {a b : Int} (hd : At y pc nx 1 .lcmp) (ha : (-9223372036854775808 ≤ a ∧ a ≤ 9223372036854775807) ∧ (-9223372036854775808 ≤ b ∧ b ≤ 9223372036854775807)) (k : R Ly g y d nx lv (vi (if b < a then 1 else if a = b then 0 else -1) :: st) M Post) : R Ly g y d pc lv (vl b :: vl a :: st) M Post := by
  intro p e s m args below meth c H locs ls C hl hP hS
  obtain ⟨hd, rfl⟩ := hd
  have h1 : Int64.ofInt a > Int64.ofInt b ↔ b < a := by
    show Int64.ofInt b < Int64.ofInt a ↔ _
    rw [Int64.lt_iff_toInt_lt, cL_rng ha.1, cL_rng ha.2]
  have h2 := cL_eq ha.1 ha.2
  refine W.lcmp C.1 C.2.1 hd ?_
  have e1 : lg_cmp (Int64.ofInt a) (Int64.ofInt b) = Int32.ofInt (if b < a then 1 else if a = b then 0 else -1) := by
    unfold lg_cmp
    by_cases q1 : b < a
    · rw [if_pos (h1.mpr q1), if_pos q1]; decide
    · rw [if_neg (fun h => q1 (h1.mp h)), if_neg q1]
      by_cases q2 : a = b
      · rw [if_pos (h2.mpr q2), if_pos q2]; decide
      · rw [if_neg (fun h => q2 (h2.mp h)), if_neg q2]; decide
  rw [e1]
  exact k p e s m args below meth c H locs ls C hl hP hS
/-! ends -/
theorem r_iret {a : Int} (hd : At y pc nx 1 .ireturn) (hr : y.2.2.2 = some .int) (hp : Post (some (vi a)) M) : R Ly g y d pc lv [vi a] M Post := by
  intro p e s m args below meth c H locs ls C hl hP hS
  obtain ⟨hx, hb, hr', hml, hown, hts, hlocks, hK, hi⟩ := C
  exact W.iret (v := Int32.ofInt a) hx hb (hr'.trans hr) (fun t ht hW => ⟨some (vi a), M, rfl, hp, ⟨by rw [ht]; exact hP, hK.moved hW⟩, hS.F ht⟩) hS.2.2 hd.1 hlocks
theorem r_zret {a : Int} (hd : At y pc nx 1 .ireturn) (hr : y.2.2.2 = some .boolean) (ha : a = 0 ∨ a = 1) (hp : Post (some (vi a)) M) : R Ly g y d pc lv [vi a] M Post := by
  intro p e s m args below meth c H locs ls C hl hP hS
  obtain ⟨hx, hb, hr', hml, hown, hts, hlocks, hK, hi⟩ := C
  refine W.zret (v := Int32.ofInt a) hx hb (hr'.trans hr) ?_ (fun t ht hW => ⟨some (vi a), M, rfl, hp, ⟨by rw [ht]; exact hP, hK.moved hW⟩, hS.F ht⟩) hS.2.2 hd.1 hlocks
  rcases ha with rfl | rfl <;> decide
theorem r_vret (hd : At y pc nx 1 .return_) (hr : y.2.2.2 = none) (hp : Post none M) : R Ly g y d pc lv [] M Post := by
  intro p e s m args below meth c H locs ls C hl hP hS
  obtain ⟨hx, hb, hr', hml, hown, hts, hlocks, hK, hi⟩ := C
  exact W.vret hx hb (hr'.trans hr) (fun t ht hW => ⟨none, M, rfl, hp, ⟨by rw [ht]; exact hP, hK.moved hW⟩, hS.F ht⟩) hS.2.2 hd.1 hlocks
theorem r_lret {a : Int} (hd : At y pc nx 1 .lreturn) (hr : y.2.2.2 = some .long) (hp : Post (some (vl a)) M) : R Ly g y d pc lv [vl a] M Post := by
  intro p e s m args below meth c H locs ls C hl hP hS
  obtain ⟨hx, hb, hr', hml, hown, hts, hlocks, hK, hi⟩ := C
  exact W.lret (v := Int64.ofInt a) hx hb (hr'.trans hr) (fun t ht hW => ⟨some (vl a), M, rfl, hp, ⟨by rw [ht]; exact hP, hK.moved hW⟩, hS.F ht⟩) hS.2.2 hd.1 hlocks
theorem r_aret {a : Nat} {n : String} (hd : At y pc nx 1 .areturn) (hr : y.2.2.2 = some (.object n)) (hp : Post (some (vr a)) M) : R Ly g y d pc lv [vr a] M Post := by
  intro p e s m args below meth c H locs ls C hl hP hS
  obtain ⟨hx, hb, hr', hml, hown, hts, hlocks, hK, hi⟩ := C
  exact W.aret (v := .ref (g.2.2.1 a)) hx hb (hr'.trans hr) (Or.inl ⟨n, rfl⟩) (Or.inr ⟨_, rfl⟩) (fun t ht hW => ⟨some (vr a), M, rfl, hp, ⟨by rw [ht]; exact hP, hK.moved hW⟩, hS.F ht⟩) hS.2.2 hd.1 hlocks
end RW2
end
section
/-! fields and arrays -/
def FL (own : String) (idx ci k : Nat) : Prop := ∃ (C : String) (T : u_T) (N : Nat), vwCl[ci]? = some (C, T, N) ∧ k < N ∧ (∀ w ∈ u_ws C T N, w ∈ gtab) ∧ Cond.fieldLink own idx (T k).1 (T k).2.1 (T k).2.2.1 ∈ gtab
def FP (own : String) (idx ci k : Nat) (ty : FieldType) : Prop := ∃ (C : String) (T : u_T) (N : Nat) (tys : Nat → FieldType), vwCl[ci]? = some (C, T, N) ∧ k < N ∧ (∀ w ∈ u_ws C T N, w ∈ gtab) ∧ Cond.fieldLink own idx (T k).1 (T k).2.1 (T k).2.2.1 ∈ gtab ∧
  (∀ k, k < N → parseFieldDescriptor (T k).2.2.1 = some (tys k)) ∧ (∀ a, a < N → ∀ b, b < N → a ≠ b → (T a).2.1 ≠ (T b).2.1) ∧ (T k).2.2.2 = false ∧ parseFieldDescriptor (T k).2.2.1 = some ty
section RW3
variable {Ly : List Ent} {g : Gt} {y : Mth} {d pc nx : Nat} {lv : List (Option MV)} {st : List MV} {M : Mem} {Post : Option MV → Mem → Prop}
theorem get_v {idx q ci k : Nat} {fs : List (Nat × Nat)} {f : Nat × Nat} {v : MV} (hd : At y pc nx 3 (.getfield idx)) (hf : FL y.1.cls idx ci k) (hq : Ly[q]? = some (.inl (ci, fs))) (hk : fs[k]? = some f) (hv : e_f g M q k f = rv g.2.2.1 v) (kk : R Ly g y d nx lv (v :: st) M Post) : R Ly g y d pc lv (vr q :: st) M Post := by
  intro p e s m args below meth c H locs ls C hl hP hS
  obtain ⟨hd, rfl⟩ := hd
  obtain ⟨hx, hb, hr', hml, hown, hts, hlocks, hK, hi⟩ := id C
  obtain ⟨Cn, T, N, h1, h2, h3, h4⟩ := hf
  refine va_get (D := g.2.1) (ci := ci) (v := rv g.2.2.1 v) (C := Cn) (T := T) (N := N) hx hb hts h3 hown hK.1 hP q (wsOf_at hq) h1 k h2 (hts _ h4) (fun _ h => h) ?_ hd (kk p e s m args below meth c H locs ls C hl hP hS)
  rw [List.getElem?_mapIdx, hk]
  simp [hv]
theorem r_geti {idx q ci k t : Nat} {fs : List (Nat × Nat)} (hd : At y pc nx 3 (.getfield idx)) (hf : FL y.1.cls idx ci k) (hq : Ly[q]? = some (.inl (ci, fs))) (hk : fs[k]? = some (t, 0)) (ht : Nat.blt t 2 = true) (kk : R Ly g y d nx lv (vi (M q k) :: st) M Post) : R Ly g y d pc lv (vr q :: st) M Post := by
  have ht' : t < 2 := by simpa using ht
  refine get_v hd hf hq hk ?_ kk
  simp only [e_f, rv]
  rw [if_neg (by omega), if_neg (by omega)]
theorem r_getl {idx q ci k : Nat} {fs : List (Nat × Nat)} (hd : At y pc nx 3 (.getfield idx)) (hf : FL y.1.cls idx ci k) (hq : Ly[q]? = some (.inl (ci, fs))) (hk : fs[k]? = some (2, 0)) (kk : R Ly g y d nx lv (vl (M q k) :: st) M Post) : R Ly g y d pc lv (vr q :: st) M Post := by
  refine get_v hd hf hq hk ?_ kk
  simp [e_f, rv]
theorem r_getr {idx q ci k j : Nat} {fs : List (Nat × Nat)} (hd : At y pc nx 3 (.getfield idx)) (hf : FL y.1.cls idx ci k) (hq : Ly[q]? = some (.inl (ci, fs))) (hk : fs[k]? = some (3, j)) (kk : R Ly g y d nx lv (vr j :: st) M Post) : R Ly g y d pc lv (vr q :: st) M Post := by
  refine get_v hd hf hq hk ?_ kk
  simp [e_f, rv]
theorem put_v {idx q ci k : Nat} {fs : List (Nat × Nat)} {f : Nat × Nat} {ty : FieldType} {v : MV} {M' : Mem} (hd : At y pc nx 3 (.putfield idx)) (hf : FP y.1.cls idx ci k ty) (hq : Ly[q]? = some (.inl (ci, fs))) (hk : fs[k]? = some f) (hn : narrow ty (rv g.2.2.1 v) = rv g.2.2.1 v) (hfit : fits ty (rv g.2.2.1 v) = true)
    (hv : e_f g M' q k f = rv g.2.2.1 v) (ho : ∀ j, j ≠ q → M' j = M j) (hs : ∀ i : Int, i ≠ k → M' q i = M q i) (kk : R Ly g y d nx lv st M' Post) : R Ly g y d pc lv (v :: vr q :: st) M Post := by
  intro p e s m args below meth c H locs ls C hl hP hS
  obtain ⟨hd, rfl⟩ := hd
  obtain ⟨hx, hb, hr', hml, hown, hts, hlocks, hK, hi⟩ := id C
  obtain ⟨Cn, T, N, tys, h1, h2, h3, h4, h5, h6, h7, h8⟩ := hf
  have hl2 : k < (fs.mapIdx (fun i f => e_f g M q i f)).length := by
    rw [List.length_mapIdx]
    exact (List.getElem?_eq_some_iff.mp hk).1
  refine va_put (D := g.2.1) (ci := ci) (v := rv g.2.2.1 v) (ty := ty) (C := Cn) (T := T) (N := N) hx hb hts h3 tys h5 h6 hown hK.1 hP (wsD hi) hS q (wsOf_at hq) h1 k h2 (hts _ h4) (fun _ h => h) h7 h8 hn hfit hl2 hd (fun H1 locs1 hP1 hD1 hS1 => ?_)
  refine kk p e s m args below meth c H1 locs1 ls C hl (P_upd (M' := M') hP1 hq (fun _ h => ?_) ho) hS1
  have e1 : (fs.mapIdx (fun i f => e_f g M q i f)).set k (rv g.2.2.1 v) = fs.mapIdx (fun i f => e_f g M' q i f) := by
    apply List.ext_getElem?
    intro i
    by_cases hik : i = k
    · subst hik
      rw [List.getElem?_set_self hl2, List.getElem?_mapIdx, hk]
      simp [hv]
    · rw [List.getElem?_set_ne (Ne.symm hik), List.getElem?_mapIdx, List.getElem?_mapIdx]
      have h9 : M' q (i : Int) = M q (i : Int) := hs i (by omega)
      simp only [e_f, h9]
  rw [e1] at h
  exact h
theorem r_puti {idx q ci k : Nat} {fs : List (Nat × Nat)} {z : Int} (hd : At y pc nx 3 (.putfield idx)) (hf : FP y.1.cls idx ci k .int) (hq : Ly[q]? = some (.inl (ci, fs))) (hk : fs[k]? = some (0, 0)) (kk : R Ly g y d nx lv st (mset M q (fset (M q) k z)) Post) : R Ly g y d pc lv (vi z :: vr q :: st) M Post := by
  refine put_v hd hf hq hk rfl rfl ?_ (fun j h => mset_n h) (fun i h => ?_) kk
  · simp [e_f, rv, mset_s, fset_s]
  · rw [mset_s, fset_n h]
theorem r_putz {idx q ci k : Nat} {fs : List (Nat × Nat)} {z : Int} (hd : At y pc nx 3 (.putfield idx)) (hf : FP y.1.cls idx ci k .boolean) (hq : Ly[q]? = some (.inl (ci, fs))) (hk : fs[k]? = some (1, 0)) (hz : z = 0 ∨ z = 1) (kk : R Ly g y d nx lv st (mset M q (fset (M q) k z)) Post) : R Ly g y d pc lv (vi z :: vr q :: st) M Post := by
  refine put_v hd hf hq hk (by rcases hz with rfl | rfl <;> rfl) (by rcases hz with rfl | rfl <;> (simp only [rv]; decide)) ?_ (fun j h => mset_n h) (fun i h => ?_) kk
  · simp [e_f, rv, mset_s, fset_s]
  · rw [mset_s, fset_n h]
theorem r_putl {idx q ci k : Nat} {fs : List (Nat × Nat)} {z : Int} (hd : At y pc nx 3 (.putfield idx)) (hf : FP y.1.cls idx ci k .long) (hq : Ly[q]? = some (.inl (ci, fs))) (hk : fs[k]? = some (2, 0)) (kk : R Ly g y d nx lv st (mset M q (fset (M q) k z)) Post) : R Ly g y d pc lv (vl z :: vr q :: st) M Post := by
  refine put_v hd hf hq hk rfl rfl ?_ (fun j h => mset_n h) (fun i h => ?_) kk
  · simp [e_f, rv, mset_s, fset_s]
  · rw [mset_s, fset_n h]
theorem ix_nat {i : Int} (h : 0 ≤ i) : ((i.toNat : Nat) : Int) = i := by omega
theorem r_ial {q n : Nat} {i : Int} (hd : At y pc nx 1 .iaload) (hq : Ly[q]? = some (.inr (0, n))) (hi : 0 ≤ i ∧ i < n) (kk : R Ly g y d nx lv (vi (M q i) :: st) M Post) : R Ly g y d pc lv (vi i :: vr q :: st) M Post := by
  intro p e s m args below meth c H locs ls C hl hP hS
  obtain ⟨hd, rfl⟩ := hd
  obtain ⟨hx, hb, hr', hml, hown, hts, hlocks, hK, hj⟩ := id C
  obtain ⟨h1, h2⟩ := cI_ix hi (hj.2 q 0 n hq).1
  refine va_iald hx hb hK.1 hP q 0 (cA := g.2.2.2 0) (n := n) (f := fun j => Int32.ofInt (M q j)) (wsOf_at hq) rfl h1 hd ?_
  rw [h2, ix_nat hi.1]
  exact kk p e s m args below meth c H locs ls C hl hP hS
theorem r_zal {q n : Nat} {i : Int} (hd : At y pc nx 1 .baload) (hq : Ly[q]? = some (.inr (1, n))) (hi : 0 ≤ i ∧ i < n) (kk : R Ly g y d nx lv (vi (M q i) :: st) M Post) : R Ly g y d pc lv (vi i :: vr q :: st) M Post := by
  intro p e s m args below meth c H locs ls C hl hP hS
  obtain ⟨hd, rfl⟩ := hd
  obtain ⟨hx, hb, hr', hml, hown, hts, hlocks, hK, hj⟩ := id C
  obtain ⟨h1, h2⟩ := cI_ix hi (hj.2 q 1 n hq).1
  refine va_zald hx hb hK.1 hP q 1 (cA := g.2.2.2 1) (n := n) (f := fun j => Int32.ofInt (M q j)) (wsOf_at hq) rfl h1 hd ?_
  rw [h2, ix_nat hi.1]
  exact kk p e s m args below meth c H locs ls C hl hP hS
theorem r_lal {q n : Nat} {i : Int} (hd : At y pc nx 1 .laload) (hq : Ly[q]? = some (.inr (2, n))) (hi : 0 ≤ i ∧ i < n) (kk : R Ly g y d nx lv (vl (M q i) :: st) M Post) : R Ly g y d pc lv (vi i :: vr q :: st) M Post := by
  intro p e s m args below meth c H locs ls C hl hP hS
  obtain ⟨hd, rfl⟩ := hd
  obtain ⟨hx, hb, hr', hml, hown, hts, hlocks, hK, hj⟩ := id C
  obtain ⟨h1, h2⟩ := cI_ix hi (hj.2 q 2 n hq).1
  refine va_lald hx hb hK.1 hP q 2 (cA := g.2.2.2 2) (n := n) (f := fun j => Int64.ofInt (M q j)) (wsOf_at hq) rfl h1 hd ?_
  rw [h2, ix_nat hi.1]
  exact kk p e s m args below meth c H locs ls C hl hP hS
theorem arr_at {H : Heap} {q t n : Nat} {M' : Mem} {x : vp_A} (h : va_at g.2.1 vwCl (g.2.2.1 q, .inl (g.2.2.2 t, x)) H) (hx : vp_cell (g.2.2.2 t) x = vp_cell (g.2.2.2 t) (e_a M' q t n)) : va_at g.2.1 vwCl (g.2.2.1 q, e_c g M' q (.inr (t, n))) H := by
  show H[g.2.2.1 q]? = some (vp_cell _ _)
  rw [show e_a M' q (t, n).1 (t, n).2 = e_a M' q t n from rfl, ← hx]
  exact h
theorem upd_m {M : Mem} {q : Nat} {i z : Int} (hi : 0 ≤ i) : upd (fun j : Nat => Int32.ofInt (M q j)) i.toNat (Int32.ofInt z) = fun j : Nat => Int32.ofInt (mset M q (fset (M q) i z) q j) := by
  funext j
  rw [mset_s]
  by_cases hj : j = i.toNat
  · subst hj
    rw [ix_nat hi, fset_s]
    simp [upd]
  · rw [fset_n (by omega)]
    simp [upd, hj]
theorem r_ias {q n : Nat} {i z : Int} (hd : At y pc nx 1 .iastore) (hq : Ly[q]? = some (.inr (0, n))) (hi : 0 ≤ i ∧ i < n) (kk : R Ly g y d nx lv st (mset M q (fset (M q) i z)) Post) : R Ly g y d pc lv (vi z :: vi i :: vr q :: st) M Post := by
  intro p e s m args below meth c H locs ls C hl hP hS
  obtain ⟨hd, rfl⟩ := hd
  obtain ⟨hx, hb, hr', hml, hown, hts, hlocks, hK, hj⟩ := id C
  obtain ⟨h1, h2⟩ := cI_ix hi (hj.2 q 0 n hq).1
  refine va_iast hx hb hK.1 hP (wsD hj) hS q 0 (cA := g.2.2.2 0) (n := n) (f := fun j => Int32.ofInt (M q j)) (wsOf_at hq) rfl h1 hd (fun H1 locs1 hP1 hD1 hS1 => ?_)
  refine kk p e s m args below meth c H1 locs1 ls C hl (P_upd hP1 hq (fun _ h => arr_at h ?_) (fun j h => mset_n h)) hS1
  rw [h2]
  simp only [e_a]
  rw [if_neg (by decide), upd_m hi.1]
theorem r_zas {q n : Nat} {i z : Int} (hd : At y pc nx 1 .bastore) (hq : Ly[q]? = some (.inr (1, n))) (hi : 0 ≤ i ∧ i < n) (hz : z = 0 ∨ z = 1) (kk : R Ly g y d nx lv st (mset M q (fset (M q) i z)) Post) : R Ly g y d pc lv (vi z :: vi i :: vr q :: st) M Post := by
  intro p e s m args below meth c H locs ls C hl hP hS
  obtain ⟨hd, rfl⟩ := hd
  obtain ⟨hx, hb, hr', hml, hown, hts, hlocks, hK, hj⟩ := id C
  obtain ⟨h1, h2⟩ := cI_ix hi (hj.2 q 1 n hq).1
  refine va_zast hx hb hK.1 hP (wsD hj) hS q 1 (cA := g.2.2.2 1) (n := n) (f := fun j => Int32.ofInt (M q j)) (wsOf_at hq) rfl h1 hd (fun H1 locs1 hP1 hD1 hS1 => ?_)
  have e1 : vp_nar .boolean (Int32.ofInt z) = Int32.ofInt z := by rcases hz with rfl | rfl <;> decide
  refine kk p e s m args below meth c H1 locs1 ls C hl (P_upd hP1 hq (fun _ h => arr_at h ?_) (fun j h => mset_n h)) hS1
  rw [h2, e1]
  simp only [e_a]
  rw [if_neg (by decide), upd_m hi.1]
theorem updL_m {M : Mem} {q : Nat} {i z : Int} (hi : 0 ≤ i) : vp_updL (fun j : Nat => Int64.ofInt (M q j)) i.toNat (Int64.ofInt z) = fun j : Nat => Int64.ofInt (mset M q (fset (M q) i z) q j) := by
  funext j
  rw [mset_s]
  by_cases hj : j = i.toNat
  · subst hj
    rw [ix_nat hi, fset_s]
    simp [vp_updL]
  · rw [fset_n (by omega)]
    simp [vp_updL, hj]
theorem r_las {q n : Nat} {i z : Int} (hd : At y pc nx 1 .lastore) (hq : Ly[q]? = some (.inr (2, n))) (hi : 0 ≤ i ∧ i < n) (kk : R Ly g y d nx lv st (mset M q (fset (M q) i z)) Post) : R Ly g y d pc lv (vl z :: vi i :: vr q :: st) M Post := by
  intro p e s m args below meth c H locs ls C hl hP hS
  obtain ⟨hd, rfl⟩ := hd
  obtain ⟨hx, hb, hr', hml, hown, hts, hlocks, hK, hj⟩ := id C
  obtain ⟨h1, h2⟩ := cI_ix hi (hj.2 q 2 n hq).1
  refine va_last hx hb hK.1 hP (wsD hj) hS q 2 (cA := g.2.2.2 2) (n := n) (f := fun j => Int64.ofInt (M q j)) (wsOf_at hq) rfl h1 hd (fun H1 locs1 hP1 hD1 hS1 => ?_)
  refine kk p e s m args below meth c H1 locs1 ls C hl (P_upd hP1 hq (fun _ h => arr_at h ?_) (fun j h => mset_n h)) hS1
  rw [h2]
  simp only [e_a]
  rw [if_pos trivial, updL_m hi.1]
theorem r_alen {q n : Nat} (hd : At y pc nx 1 .arraylength) (hq : Ly[q]? = some (.inr (0, n))) (kk : R Ly g y d nx lv (vi (n : Int) :: st) M Post) : R Ly g y d pc lv (vr q :: st) M Post := by
  intro p e s m args below meth c H locs ls C hl hP hS
  obtain ⟨hd, rfl⟩ := hd
  obtain ⟨hx, hb, hr', hml, hown, hts, hlocks, hK, hj⟩ := id C
  exact va_alen hx hb hK.1 hP q 0 (cA := g.2.2.2 0) (x := e_a M q 0 n) (wsOf_at hq) (ty := .int) rfl (v := Int32.ofInt (n : Int)) (by rw [Int32.ofInt_eq_ofNat]; rfl) hd (kk p e s m args below meth c H locs ls C hl hP hS)
end RW3
end
section
/-! calls -/
def Pn (y : Mth) (n : Nat) : Prop := y.1.cls ≠ "java/lang/invoke/MethodHandle" ∧ y.1.cls ≠ "java/lang/invoke/VarHandle" ∧ (parseMethodDescriptor y.1.desc).map (fun d => d.parameters.length) = some n ∧ y.2.2.1 ≤ 21
/-- a method of the tables -/
def My (y : Mth) (n : Nat) : Prop := Cond.code y.1 y.2.1 y.2.2.1 y.2.2.2 ∈ gtab ∧ Cond.initialized y.1.cls ∈ gtab ∧ Pn y n
def VL (own : String) (idx : Nat) (y : Mth) : Prop := Cond.methodLink own idx y.1 ∈ gtab ∧ Cond.instanceMethod y.1 ∈ gtab ∧ Cond.selects y.1.cls y.1 y.1 ∈ gtab
def SL (own : String) (idx : Nat) (y : Mth) : Prop := Cond.methodLink own idx y.1 ∈ gtab ∧ Cond.static y.1 ∈ gtab
def SN (own : String) (idx : Nat) (y : Mth) : Prop := ∃ host, Cond.methodLinkNest own idx y.1 host ∈ nestW ∧ Cond.static y.1 ∈ gtab
def catS (st : List MV) : Nat := (st.map (fun v => if cat1 v then 1 else 2)).sum
theorem catS_ok {ad : Nat → Nat} (st : List MV) : ((st.map (rv ad)).map fun v => v.category).sum = catS st := by
  induction st with
  | nil => rfl
  | cons v t ih =>
    simp only [catS, List.map_cons, List.sum_cons] at ih ⊢
    rw [ih]
    rcases v with z | z | z <;> rfl
section RW4
variable {Ly : List Ent} {g : Gt} {y : Mth} {d pc nx : Nat} {lv : List (Option MV)} {st : List MV} {M : Mem} {Post : Option MV → Mem → Prop}
theorem call_w {p : Program} {e : Env} {s : State} {m : MethodId} {args : Array Value} {below : List Frame} {meth : Method} {c : Code} {H : Heap} {locs : List Loc} {ls : Array Slot} {st0 : List Value} {rest : List MV} {a : Array Value} {P2 : Option MV → Mem → Prop}
    (hr : va_Run p g.1 e (rmD d) s m args below meth c H locs 0 0 0 0 (F0 m pc ls st0) (rest.map (rv g.2.2.1)) (Qo Ly g P2 a) (ads Ly g)) (C : Cx Ly g y p s m args meth c) (hl : lvO g.2.2.1 y.2.2.1 lv ls) (hS : va_S (ads Ly g) s.heap H locs)
    (kk : ∀ (r : Option MV) (M' : Mem), P2 r M' → R Ly g y d (pc + 3) lv (r.toList ++ rest) M' Post) :
    W p g.1 e (rmD d) s m args below meth c H locs 0 0 (MQ below (Qo Ly g Post) args s 0 0 (ads Ly g)) (F0 m pc ls st0) := by
  intro T hT X
  obtain ⟨v, st₀, t, T', L, h0, X', hL, e1, e2, ⟨r, M', hv, hp, hw, hz, hk⟩, stp⟩ := hr T hT X
  cases hv
  rw [h0] at hz hk
  have hP' : va_P g.2.1 vwCl (wsOf Ly g M') T'.heap := by rw [e1]; exact hw.1
  have hS' : va_S (ads Ly g) s.heap T'.heap (locs ++ L) := ⟨Nat.le_trans hS.1 (by rw [e1]; exact hz), fun q h1 h2 => by rw [e1, hk q (Nat.lt_of_lt_of_le h1 hS.1) h2]; exact hS.2.1 q h1 h2, fun q hq => by
      rcases List.mem_append.mp hq with h | h
      · exact hS.2.2 q h
      · exact hL q h⟩
  obtain ⟨t2, a1, b1⟩ := kk r M' hp p e s m args below meth c T'.heap (locs ++ L) ls C hl hP' hS' T' rfl X'
  refine ⟨t2, stp t2 ?_, b1⟩
  have e3 : (r.toList ++ rest).map (rv g.2.2.1) = (r.map (rv g.2.2.1)).toList ++ rest.map (rv g.2.2.1) := by cases r <;> simp
  rw [e3] at a1
  exact a1
theorem blind {as : List MV} : FrameBlind (va_Pc (as.map (rv g.2.2.1)) (fun U => Wd Ly g M U)) := fun a U gf mk h => ⟨h.1, h.2.1, K0.same (u := U) (U := U.calling gf mk a) rfl h.2.2⟩
theorem call_V {y' : Mth} {idx b ci n : Nat} {As rest : List MV} {fs : List (Nat × Nat)} {C0 : vw_C} {P2 : Option MV → Mem → Prop} (hd : At y pc nx 3 (.invokevirtual idx)) (hv : VL y.1.cls idx y') (hm : My y' n) (hn : As.length = n) (hq : Ly[b]? = some (.inl (ci, fs))) (hc : vwCl[ci]? = some C0) (hc2 : C0.1 = y'.1.cls) (hrest : Nat.ble (catS rest) 8 = true)
    (hE : Ex Ly g d y' (vr b :: As) M P2) (kk : ∀ (r : Option MV) (M' : Mem), P2 r M' → R Ly g y (d + 1) nx lv (r.toList ++ rest) M' Post) : R Ly g y (d + 1) pc lv (As.reverse ++ vr b :: rest) M Post := by
  intro p e s m args below meth c H locs ls C hl hP hS
  obtain ⟨hd, rfl⟩ := hd
  obtain ⟨hx, hb, hr', hml, hown, hts, hlocks, hK, hj⟩ := id C
  obtain ⟨m1, m2, m3, m4, m5, m6⟩ := hm
  obtain ⟨v1, v2, v3⟩ := hv
  have hr8 : catS rest ≤ 8 := Nat.le_of_ble_eq_true hrest
  have hT : GoodIn gtab (wsy y') := fun w h => by
    have := good_in (y := y) m1 w h
    rcases List.mem_cons.mp h with rfl | h2
    · exact ⟨m1, this.2⟩
    · exact ⟨h2, this.2⟩
  have cb : CallB (rmD (d + 1)) s args y.1.cls idx y'.1 y'.2.1 y'.2.2.1 y'.2.2.2 (wsy y') (rmD d) 0 0 n :=
    callB_of n hts hT rfl rfl rfl (hts _ m2) (hts _ v1) ⟨m3, m4, m5⟩ ⟨Nat.le_refl _, by simp only [rmD]; omega⟩
  refine call_w (va_runV (C := y'.1.cls) (b := g.2.2.1 b) (As := As.map (rv g.2.2.1)) (rest := rest.map (rv g.2.2.1)) ⟨hx, hb, hml, hown, hts⟩ (hE hj) ⟨cb, hts _ v2, hts _ v3⟩ ⟨blind, ?_, fun U hU hW => ⟨by simp [rv], by rw [hU]; exact hP, hK.moved hW⟩⟩ rfl (by rw [List.length_map]; exact hn) hl.1 (by simp [rv]) (lv_room (by rw [catS_ok]; exact hr8)) hd ⟨Nat.le_refl _, Nat.le_refl _⟩) C hl hS kk
  have := va_recv (q := C0) hK.1 hP hc (wsOf_at hq)
  rw [hc2] at this
  exact this
theorem call_S {y' : Mth} {idx n : Nat} {As rest : List MV} {P2 : Option MV → Mem → Prop} (hd : At y pc nx 3 (.invokestatic idx)) (hv : SL y.1.cls idx y') (hm : My y' n) (hn : As.length = n) (hrest : Nat.ble (catS rest) 8 = true)
    (hE : Ex Ly g d y' As M P2) (kk : ∀ (r : Option MV) (M' : Mem), P2 r M' → R Ly g y (d + 1) nx lv (r.toList ++ rest) M' Post) : R Ly g y (d + 1) pc lv (As.reverse ++ rest) M Post := by
  intro p e s m args below meth c H locs ls C hl hP hS
  obtain ⟨hd, rfl⟩ := hd
  obtain ⟨hx, hb, hr', hml, hown, hts, hlocks, hK, hj⟩ := id C
  obtain ⟨m1, m2, m3, m4, m5, m6⟩ := hm
  obtain ⟨v1, v2⟩ := hv
  have hr8 : catS rest ≤ 8 := Nat.le_of_ble_eq_true hrest
  have hT : GoodIn gtab (wsy y') := fun w h => by
    have := good_in (y := y) m1 w h
    rcases List.mem_cons.mp h with rfl | h2
    · exact ⟨m1, this.2⟩
    · exact ⟨h2, this.2⟩
  have cb : CallB (rmD (d + 1)) s args y.1.cls idx y'.1 y'.2.1 y'.2.2.1 y'.2.2.2 (wsy y') (rmD d) 0 0 n :=
    callB_of n hts hT rfl rfl rfl (hts _ m2) (hts _ v1) ⟨m3, m4, m5⟩ ⟨Nat.le_refl _, by simp only [rmD]; omega⟩
  exact call_w (va_runS (As := As.map (rv g.2.2.1)) (rest := rest.map (rv g.2.2.1)) ⟨hx, hb, hml, hown, hts⟩ (hE hj) ⟨cb, hts _ v2⟩ ⟨blind, fun U hU hW => ⟨rfl, by rw [hU]; exact hP, hK.moved hW⟩⟩ rfl (by rw [List.length_map]; exact hn) hl.1 (by simp) (lv_room (by rw [catS_ok]; exact hr8)) hd ⟨Nat.le_refl _, Nat.le_refl _⟩) C hl hS kk
theorem call_N {y' : Mth} {idx n : Nat} {As rest : List MV} {P2 : Option MV → Mem → Prop} (hd : At y pc nx 3 (.invokestatic idx)) (hv : SN y.1.cls idx y') (hm : My y' n) (hn : As.length = n) (hrest : Nat.ble (catS rest) 8 = true)
    (hE : Ex Ly g d y' As M P2) (kk : ∀ (r : Option MV) (M' : Mem), P2 r M' → R Ly g y (d + 1) nx lv (r.toList ++ rest) M' Post) : R Ly g y (d + 1) pc lv (As.reverse ++ rest) M Post := by
  intro p e s m args below meth c H locs ls C hl hP hS
  obtain ⟨hd, rfl⟩ := hd
  obtain ⟨hx, hb, hr', hml, hown, hts, hlocks, hK, hj⟩ := id C
  obtain ⟨m1, m2, m3, m4, m5, m6⟩ := hm
  obtain ⟨host, v1, v2⟩ := hv
  have hr8 : catS rest ≤ 8 := Nat.le_of_ble_eq_true hrest
  have hT : GoodIn gtab (wsy y') := fun w h => by
    have := good_in (y := y) m1 w h
    rcases List.mem_cons.mp h with rfl | h2
    · exact ⟨m1, this.2⟩
    · exact ⟨h2, this.2⟩
  have cb : va_CN (rmD (d + 1)) s args y.1.cls idx y'.1 host y'.2.1 y'.2.2.1 y'.2.2.2 (wsy y') (rmD d) 0 0 n :=
    va_cnB n hts hT rfl rfl rfl (hK.2 _ v1) (hts _ m2) ⟨m3, m4, m5⟩ ⟨Nat.le_refl _, by simp only [rmD]; omega⟩
  exact call_w (va_runSN (As := As.map (rv g.2.2.1)) (rest := rest.map (rv g.2.2.1)) ⟨hx, hb, hml, hown, hts⟩ (hE hj) ⟨cb, hts _ v2, trivial⟩ ⟨blind, fun U hU hW => ⟨rfl, by rw [hU]; exact hP, hK.moved hW⟩⟩ rfl (by rw [List.length_map]; exact hn) hl.1 (by simp) (lv_room (by rw [catS_ok]; exact hr8)) hd ⟨Nat.le_refl _, Nat.le_refl _⟩) C hl hS kk
/-! Math.max, Math.min, System.arraycopy -/
def MxL (own : String) (idx : Nat) : Prop := Cond.methodLink own idx Lib.Math.max.name ∈ gtab ∧ Cond.static Lib.Math.max.name ∈ gtab ∧ Cond.initialized "java/lang/Math" ∈ gtab ∧ Cond.code Lib.Math.max.name Lib.Math.max.code 2 (some .int) ∈ gtab
def MnL (own : String) (idx : Nat) : Prop := Cond.methodLink own idx Lib.Math.min.name ∈ gtab ∧ Cond.static Lib.Math.min.name ∈ gtab ∧ Cond.initialized "java/lang/Math" ∈ gtab ∧ Cond.code Lib.Math.min.name Lib.Math.min.code 2 (some .int) ∈ gtab
theorem r_max {idx : Nat} {a b : Int} (hd : At y pc nx 3 (.invokestatic idx)) (hv : MxL y.1.cls idx) (hrest : Nat.ble (catS st) 8 = true) (ha : (-2147483648 ≤ a ∧ a ≤ 2147483647) ∧ (-2147483648 ≤ b ∧ b ≤ 2147483647)) (k : R Ly g y (d + 1) nx lv (vi (if a < b then b else a) :: st) M Post) : R Ly g y (d + 1) pc lv (vi b :: vi a :: st) M Post := by
  intro p e s m args below meth c H locs ls C hl hP hS
  obtain ⟨hd, rfl⟩ := hd
  obtain ⟨hx, hb, hr', hml, hown, hts, hlocks, hK, hj⟩ := id C
  have hr8 : catS st ≤ 8 := Nat.le_of_ble_eq_true hrest
  refine va_mmax hx hb (hml.trans hl.1.symm) hown (hts _ hv.1) (hts _ hv.2.1) (hts _ hv.2.2.1) (hts _ hv.2.2.2) (by simp only [rmD]; omega) (by rw [catS_ok]; simp only [rmD]; omega) (Nat.le_refl _) (Nat.le_refl _) hd ?_
  have e1 : (if Int32.ofInt a < Int32.ofInt b then Int32.ofInt b else Int32.ofInt a) = Int32.ofInt (if a < b then b else a) := by
    by_cases q : a < b
    · rw [if_pos ((cI_lt ha.1 ha.2).mpr q), if_pos q]
    · rw [if_neg (fun h => q ((cI_lt ha.1 ha.2).mp h)), if_neg q]
  rw [e1]
  exact k p e s m args below meth c H locs ls C hl hP hS
theorem r_min {idx : Nat} {a b : Int} (hd : At y pc nx 3 (.invokestatic idx)) (hv : MnL y.1.cls idx) (hrest : Nat.ble (catS st) 8 = true) (ha : (-2147483648 ≤ a ∧ a ≤ 2147483647) ∧ (-2147483648 ≤ b ∧ b ≤ 2147483647)) (k : R Ly g y (d + 1) nx lv (vi (if b < a then b else a) :: st) M Post) : R Ly g y (d + 1) pc lv (vi b :: vi a :: st) M Post := by
  intro p e s m args below meth c H locs ls C hl hP hS
  obtain ⟨hd, rfl⟩ := hd
  obtain ⟨hx, hb, hr', hml, hown, hts, hlocks, hK, hj⟩ := id C
  have hr8 : catS st ≤ 8 := Nat.le_of_ble_eq_true hrest
  refine va_mmin hx hb (hml.trans hl.1.symm) hown (hts _ hv.1) (hts _ hv.2.1) (hts _ hv.2.2.1) (hts _ hv.2.2.2) (by simp only [rmD]; omega) (by rw [catS_ok]; simp only [rmD]; omega) (Nat.le_refl _) (Nat.le_refl _) hd ?_
  have e1 : (if Int32.ofInt b < Int32.ofInt a then Int32.ofInt b else Int32.ofInt a) = Int32.ofInt (if b < a then b else a) := by
    by_cases q : b < a
    · rw [if_pos ((cI_lt ha.2 ha.1).mpr q), if_pos q]
    · rw [if_neg (fun h => q ((cI_lt ha.2 ha.1).mp h)), if_neg q]
  rw [e1]
  exact k p e s m args below meth c H locs ls C hl hP hS
def CpL (own : String) (idx : Nat) : Prop := Cond.methodLink own idx arraycopyName ∈ gtab ∧ Cond.native arraycopyName ∈ gtab ∧ Cond.static arraycopyName ∈ gtab ∧ Cond.initialized "java/lang/System" ∈ gtab
theorem nfw : nativeFrameWords "java/lang/System" "arraycopy" 5 + 11 ≤ 32 := by decide +kernel
theorem arrV_congr {cI : ClassId} {N : Nat} {f h : Nat → Value} (e : ∀ j, j < N → f j = h j) : arrV cI N f = arrV cI N h := by
  have e2 : (Array.ofFn (n := N) fun j => f j.val) = Array.ofFn (n := N) fun j => h j.val := by
    congr 1
    funext j
    exact e j.val j.isLt
  simp only [arrV, e2]
/-- a whole array of n ints over another one of n ints -/
theorem r_copy {idx q0 q1 n : Nat} (hd : At y pc nx 3 (.invokestatic idx)) (hv : CpL y.1.cls idx) (hrest : Nat.ble (catS st) 8 = true) (h0 : Ly[q0]? = some (.inr (0, n))) (h1 : Ly[q1]? = some (.inr (0, n))) (k : R Ly g y (d + 1) nx lv st (mset M q1 (M q0)) Post) : R Ly g y (d + 1) pc lv (vi (n : Int) :: vi 0 :: vr q1 :: vi 0 :: vr q0 :: st) M Post := by
  intro p e s m args below meth c H locs ls C hl hP hS
  obtain ⟨hd, rfl⟩ := hd
  obtain ⟨hx, hb, hr', hml, hown, hts, hlocks, hK, hj⟩ := id C
  have hr8 : catS st ≤ 8 := Nat.le_of_ble_eq_true hrest
  have hn := (hj.2 q0 0 n h0).1
  have en : (Int32.ofInt (n : Int)).toNatClampNeg = n := by
    show (Int32.ofInt (n : Int)).toInt.toNat = n
    rw [cI_rng (by omega)]; omega
  have e0 : (Int32.ofInt 0).toNatClampNeg = 0 := by decide
  have z0 : ¬ Int32.ofInt 0 < 0 := by decide
  have zn : ¬ Int32.ofInt (n : Int) < 0 := by rw [cI_0, cI_lt (by omega) (by omega)]; omega
  refine va_copyi hx hb (hml.trans hl.1.symm) hown (hts _ hv.1) (hts _ hv.2.1) (hts _ hv.2.2.1) (hts _ hv.2.2.2) hK.1 hP (wsD hj) hS q0 q1 0 0 (c0 := g.2.2.2 0) (c1 := g.2.2.2 0) (n0 := n) (n1 := n) (f := fun j => Int32.ofInt (M q0 j)) (g := fun j => Int32.ofInt (M q1 j)) (ty := .int) (wsOf_at h0) (wsOf_at h1) rfl rfl rfl z0 z0 zn (by rw [en, e0]; omega) (by rw [en, e0]; omega) (fun _ _ => rfl) (by simp only [rmD]; omega) (by rw [catS_ok]; have := nfw; simp only [rmD]; omega) hd (fun H1 locs1 hP1 hD1 hS1 => ?_)
  refine k p e s m args below meth c H1 locs1 ls C hl (P_upd hP1 h1 (fun _ h => ?_) (fun j h => mset_n h)) hS1
  refine arr_at h ?_
  rw [en, e0]
  simp only [e_a]
  rw [if_neg (by decide)]
  rw [vp_cell_i, vp_cell_i, mset_s]
  apply arrV_congr
  intro j hj2
  simp only [va_cpy]
  rw [if_pos (by omega)]
  simp
end RW4
end
