section
-- ===== PART A: goes FIRST, ahead of the names: the tables' words, and 'selects' of the private methods out of them =====
/-- a private method of a class that the tables say can be made, by its rows of tables_1 -/
def lw_okq (q : MethodName × Nat) : Prop := (q.1.cls ≠ "java/lang/invoke/MethodHandle" ∧ q.1.cls ≠ "java/lang/invoke/VarHandle") ∧ Cond.instantiable q.1.cls q.2 ∈ tables_1 ∧ Cond.privateMethod q.1 ∈ tables_1 ∧ Cond.instanceMethod q.1 ∈ tables_1
theorem lw_p0 : lw_okq (⟨"TrustTin", "tell", "(I)I"⟩, 8) := ⟨⟨by decide +kernel, by decide +kernel⟩, List.mem_of_getElem? (i := 17) (by decide +kernel), List.mem_of_getElem? (i := 247) (by decide +kernel), List.mem_of_getElem? (i := 248) (by decide +kernel)⟩
theorem lw_p1 : lw_okq (⟨"TrustTin", "isDrinker", "(I)Z"⟩, 8) := ⟨⟨by decide +kernel, by decide +kernel⟩, List.mem_of_getElem? (i := 17) (by decide +kernel), List.mem_of_getElem? (i := 267) (by decide +kernel), List.mem_of_getElem? (i := 268) (by decide +kernel)⟩
theorem lw_p2 : lw_okq (⟨"TrustTin", "changePrice", "(I)I"⟩, 8) := ⟨⟨by decide +kernel, by decide +kernel⟩, List.mem_of_getElem? (i := 17) (by decide +kernel), List.mem_of_getElem? (i := 290) (by decide +kernel), List.mem_of_getElem? (i := 291) (by decide +kernel)⟩
theorem lw_p3 : lw_okq (⟨"TrustTin", "changePot", "(I)I"⟩, 8) := ⟨⟨by decide +kernel, by decide +kernel⟩, List.mem_of_getElem? (i := 17) (by decide +kernel), List.mem_of_getElem? (i := 294) (by decide +kernel), List.mem_of_getElem? (i := 295) (by decide +kernel)⟩
theorem lw_p4 : lw_okq (⟨"TrustTin", "changeSign", "(I)I"⟩, 8) := ⟨⟨by decide +kernel, by decide +kernel⟩, List.mem_of_getElem? (i := 17) (by decide +kernel), List.mem_of_getElem? (i := 302) (by decide +kernel), List.mem_of_getElem? (i := 303) (by decide +kernel)⟩
theorem lw_p5 : lw_okq (⟨"TrustTin", "isTooLate", "(I)Z"⟩, 8) := ⟨⟨by decide +kernel, by decide +kernel⟩, List.mem_of_getElem? (i := 17) (by decide +kernel), List.mem_of_getElem? (i := 337) (by decide +kernel), List.mem_of_getElem? (i := 338) (by decide +kernel)⟩
theorem lw_p6 : lw_okq (⟨"TrustTin$Room", "goDay", "()V"⟩, 14) := ⟨⟨by decide +kernel, by decide +kernel⟩, List.mem_of_getElem? (i := 25) (by decide +kernel), List.mem_of_getElem? (i := 345) (by decide +kernel), List.mem_of_getElem? (i := 346) (by decide +kernel)⟩
theorem lw_p7 : lw_okq (⟨"TrustTin$Room", "serve", "(LTrustTin$Drinker;)V"⟩, 14) := ⟨⟨by decide +kernel, by decide +kernel⟩, List.mem_of_getElem? (i := 25) (by decide +kernel), List.mem_of_getElem? (i := 349) (by decide +kernel), List.mem_of_getElem? (i := 350) (by decide +kernel)⟩
theorem lw_p8 : lw_okq (⟨"TrustTin$Room", "isPotMade", "(LTrustTin$Drinker;)Z"⟩, 14) := ⟨⟨by decide +kernel, by decide +kernel⟩, List.mem_of_getElem? (i := 25) (by decide +kernel), List.mem_of_getElem? (i := 353) (by decide +kernel), List.mem_of_getElem? (i := 354) (by decide +kernel)⟩
theorem lw_p9 : lw_okq (⟨"TrustTin$Room", "payCup", "(LTrustTin$Drinker;I)V"⟩, 14) := ⟨⟨by decide +kernel, by decide +kernel⟩, List.mem_of_getElem? (i := 25) (by decide +kernel), List.mem_of_getElem? (i := 362) (by decide +kernel), List.mem_of_getElem? (i := 363) (by decide +kernel)⟩
theorem lw_p10 : lw_okq (⟨"TrustTin$Room", "isForgotten", "()Z"⟩, 14) := ⟨⟨by decide +kernel, by decide +kernel⟩, List.mem_of_getElem? (i := 25) (by decide +kernel), List.mem_of_getElem? (i := 366) (by decide +kernel), List.mem_of_getElem? (i := 367) (by decide +kernel)⟩
theorem lw_p11 : lw_okq (⟨"TrustTin$Room", "pay", "(LTrustTin$Drinker;I)I"⟩, 14) := ⟨⟨by decide +kernel, by decide +kernel⟩, List.mem_of_getElem? (i := 25) (by decide +kernel), List.mem_of_getElem? (i := 370) (by decide +kernel), List.mem_of_getElem? (i := 371) (by decide +kernel)⟩
theorem lw_p12 : lw_okq (⟨"TrustTin$Room", "endWeek", "()V"⟩, 14) := ⟨⟨by decide +kernel, by decide +kernel⟩, List.mem_of_getElem? (i := 25) (by decide +kernel), List.mem_of_getElem? (i := 374) (by decide +kernel), List.mem_of_getElem? (i := 375) (by decide +kernel)⟩
theorem lw_p13 : lw_okq (⟨"TrustTin$Room", "beginWeek", "()V"⟩, 14) := ⟨⟨by decide +kernel, by decide +kernel⟩, List.mem_of_getElem? (i := 25) (by decide +kernel), List.mem_of_getElem? (i := 387) (by decide +kernel), List.mem_of_getElem? (i := 388) (by decide +kernel)⟩
theorem lw_p14 : lw_okq (⟨"TrustTin", "lastBehindWeeks", "(II)I"⟩, 8) := ⟨⟨by decide +kernel, by decide +kernel⟩, List.mem_of_getElem? (i := 17) (by decide +kernel), List.mem_of_getElem? (i := 457) (by decide +kernel), List.mem_of_getElem? (i := 458) (by decide +kernel)⟩
theorem lw_p15 : lw_okq (⟨"TrustTin", "coinsByWay", "(LTrustTin$Drinker;II)I"⟩, 8) := ⟨⟨by decide +kernel, by decide +kernel⟩, List.mem_of_getElem? (i := 17) (by decide +kernel), List.mem_of_getElem? (i := 499) (by decide +kernel), List.mem_of_getElem? (i := 500) (by decide +kernel)⟩
def lw_privs_1 : List (MethodName × Nat) := [(⟨"TrustTin", "tell", "(I)I"⟩, 8), (⟨"TrustTin", "isDrinker", "(I)Z"⟩, 8), (⟨"TrustTin", "changePrice", "(I)I"⟩, 8), (⟨"TrustTin", "changePot", "(I)I"⟩, 8), (⟨"TrustTin", "changeSign", "(I)I"⟩, 8), (⟨"TrustTin", "isTooLate", "(I)Z"⟩, 8), (⟨"TrustTin$Room", "goDay", "()V"⟩, 14), (⟨"TrustTin$Room", "serve", "(LTrustTin$Drinker;)V"⟩, 14), (⟨"TrustTin$Room", "isPotMade", "(LTrustTin$Drinker;)Z"⟩, 14), (⟨"TrustTin$Room", "payCup", "(LTrustTin$Drinker;I)V"⟩, 14), (⟨"TrustTin$Room", "isForgotten", "()Z"⟩, 14), (⟨"TrustTin$Room", "pay", "(LTrustTin$Drinker;I)I"⟩, 14), (⟨"TrustTin$Room", "endWeek", "()V"⟩, 14), (⟨"TrustTin$Room", "beginWeek", "()V"⟩, 14), (⟨"TrustTin", "lastBehindWeeks", "(II)I"⟩, 8), (⟨"TrustTin", "coinsByWay", "(LTrustTin$Drinker;II)I"⟩, 8)]
theorem lw_r1 : ∀ q ∈ lw_privs_1, lw_okq q := List.forall_mem_cons.mpr ⟨lw_p0, List.forall_mem_cons.mpr ⟨lw_p1, List.forall_mem_cons.mpr ⟨lw_p2, List.forall_mem_cons.mpr ⟨lw_p3, List.forall_mem_cons.mpr ⟨lw_p4, List.forall_mem_cons.mpr ⟨lw_p5, List.forall_mem_cons.mpr ⟨lw_p6, List.forall_mem_cons.mpr ⟨lw_p7, List.forall_mem_cons.mpr ⟨lw_p8, List.forall_mem_cons.mpr ⟨lw_p9, List.forall_mem_cons.mpr ⟨lw_p10, List.forall_mem_cons.mpr ⟨lw_p11, List.forall_mem_cons.mpr ⟨lw_p12, List.forall_mem_cons.mpr ⟨lw_p13, List.forall_mem_cons.mpr ⟨lw_p14, List.forall_mem_cons.mpr ⟨lw_p15, fun _ h => absurd h List.not_mem_nil⟩⟩⟩⟩⟩⟩⟩⟩⟩⟩⟩⟩⟩⟩⟩⟩
theorem lw_p16 : lw_okq (⟨"TrustTin$TextReader", "advance", "()V"⟩, 6) := ⟨⟨by decide +kernel, by decide +kernel⟩, List.mem_of_getElem? (i := 170) (by decide +kernel), List.mem_of_getElem? (i := 548) (by decide +kernel), List.mem_of_getElem? (i := 549) (by decide +kernel)⟩
theorem lw_p17 : lw_okq (⟨"TrustTin$TextReader", "byteAt", "(I)I"⟩, 6) := ⟨⟨by decide +kernel, by decide +kernel⟩, List.mem_of_getElem? (i := 170) (by decide +kernel), List.mem_of_getElem? (i := 552) (by decide +kernel), List.mem_of_getElem? (i := 553) (by decide +kernel)⟩
theorem lw_p18 : lw_okq (⟨"TrustTin$TextReader", "passLetters", "()V"⟩, 6) := ⟨⟨by decide +kernel, by decide +kernel⟩, List.mem_of_getElem? (i := 170) (by decide +kernel), List.mem_of_getElem? (i := 559) (by decide +kernel), List.mem_of_getElem? (i := 560) (by decide +kernel)⟩
theorem lw_p19 : lw_okq (⟨"TrustTin$TextReader", "passDigits", "()V"⟩, 6) := ⟨⟨by decide +kernel, by decide +kernel⟩, List.mem_of_getElem? (i := 170) (by decide +kernel), List.mem_of_getElem? (i := 566) (by decide +kernel), List.mem_of_getElem? (i := 567) (by decide +kernel)⟩
theorem lw_p20 : lw_okq (⟨"TrustTin$TextReader", "readItem", "(LTrustTin$Room;)Z"⟩, 6) := ⟨⟨by decide +kernel, by decide +kernel⟩, List.mem_of_getElem? (i := 170) (by decide +kernel), List.mem_of_getElem? (i := 571) (by decide +kernel), List.mem_of_getElem? (i := 572) (by decide +kernel)⟩
theorem lw_p21 : lw_okq (⟨"TrustTin$TextReader", "kindOfWord", "()I"⟩, 6) := ⟨⟨by decide +kernel, by decide +kernel⟩, List.mem_of_getElem? (i := 170) (by decide +kernel), List.mem_of_getElem? (i := 575) (by decide +kernel), List.mem_of_getElem? (i := 576) (by decide +kernel)⟩
theorem lw_p22 : lw_okq (⟨"TrustTin$TextReader", "isWord", "(Ljava/lang/String;)Z"⟩, 6) := ⟨⟨by decide +kernel, by decide +kernel⟩, List.mem_of_getElem? (i := 170) (by decide +kernel), List.mem_of_getElem? (i := 589) (by decide +kernel), List.mem_of_getElem? (i := 590) (by decide +kernel)⟩
theorem lw_p23 : lw_okq (⟨"TrustTin$TextReader", "readDrinker", "(LTrustTin$Room;I)Z"⟩, 6) := ⟨⟨by decide +kernel, by decide +kernel⟩, List.mem_of_getElem? (i := 170) (by decide +kernel), List.mem_of_getElem? (i := 641) (by decide +kernel), List.mem_of_getElem? (i := 642) (by decide +kernel)⟩
theorem lw_p24 : lw_okq (⟨"TrustTin$TextReader", "takeNumber", "(II)Z"⟩, 6) := ⟨⟨by decide +kernel, by decide +kernel⟩, List.mem_of_getElem? (i := 170) (by decide +kernel), List.mem_of_getElem? (i := 645) (by decide +kernel), List.mem_of_getElem? (i := 646) (by decide +kernel)⟩
theorem lw_p25 : lw_okq (⟨"TrustTin$TextReader", "takeWord", "(Ljava/lang/String;)Z"⟩, 6) := ⟨⟨by decide +kernel, by decide +kernel⟩, List.mem_of_getElem? (i := 170) (by decide +kernel), List.mem_of_getElem? (i := 652) (by decide +kernel), List.mem_of_getElem? (i := 653) (by decide +kernel)⟩
theorem lw_p26 : lw_okq (⟨"TrustTin$TextReader", "readPrice", "(LTrustTin$Room;)Z"⟩, 6) := ⟨⟨by decide +kernel, by decide +kernel⟩, List.mem_of_getElem? (i := 170) (by decide +kernel), List.mem_of_getElem? (i := 658) (by decide +kernel), List.mem_of_getElem? (i := 659) (by decide +kernel)⟩
theorem lw_p27 : lw_okq (⟨"TrustTin$TextReader", "readPot", "(LTrustTin$Room;)Z"⟩, 6) := ⟨⟨by decide +kernel, by decide +kernel⟩, List.mem_of_getElem? (i := 170) (by decide +kernel), List.mem_of_getElem? (i := 663) (by decide +kernel), List.mem_of_getElem? (i := 664) (by decide +kernel)⟩
theorem lw_p28 : lw_okq (⟨"TrustTin$TextReader", "readSign", "(LTrustTin$Room;)Z"⟩, 6) := ⟨⟨by decide +kernel, by decide +kernel⟩, List.mem_of_getElem? (i := 170) (by decide +kernel), List.mem_of_getElem? (i := 669) (by decide +kernel), List.mem_of_getElem? (i := 670) (by decide +kernel)⟩
theorem lw_p29 : lw_okq (⟨"TrustTinModel", "finds", "(I)I"⟩, 22) := ⟨⟨by decide +kernel, by decide +kernel⟩, List.mem_of_getElem? (i := 767) (by decide +kernel), List.mem_of_getElem? (i := 849) (by decide +kernel), List.mem_of_getElem? (i := 850) (by decide +kernel)⟩
theorem lw_p30 : lw_okq (⟨"TrustTinModel", "comes", "(IIII)I"⟩, 22) := ⟨⟨by decide +kernel, by decide +kernel⟩, List.mem_of_getElem? (i := 767) (by decide +kernel), List.mem_of_getElem? (i := 854) (by decide +kernel), List.mem_of_getElem? (i := 855) (by decide +kernel)⟩
theorem lw_p31 : lw_okq (⟨"TrustTinModel", "becomes", "(III)V"⟩, 22) := ⟨⟨by decide +kernel, by decide +kernel⟩, List.mem_of_getElem? (i := 767) (by decide +kernel), List.mem_of_getElem? (i := 858) (by decide +kernel), List.mem_of_getElem? (i := 859) (by decide +kernel)⟩
def lw_privs_2 : List (MethodName × Nat) := [(⟨"TrustTin$TextReader", "advance", "()V"⟩, 6), (⟨"TrustTin$TextReader", "byteAt", "(I)I"⟩, 6), (⟨"TrustTin$TextReader", "passLetters", "()V"⟩, 6), (⟨"TrustTin$TextReader", "passDigits", "()V"⟩, 6), (⟨"TrustTin$TextReader", "readItem", "(LTrustTin$Room;)Z"⟩, 6), (⟨"TrustTin$TextReader", "kindOfWord", "()I"⟩, 6), (⟨"TrustTin$TextReader", "isWord", "(Ljava/lang/String;)Z"⟩, 6), (⟨"TrustTin$TextReader", "readDrinker", "(LTrustTin$Room;I)Z"⟩, 6), (⟨"TrustTin$TextReader", "takeNumber", "(II)Z"⟩, 6), (⟨"TrustTin$TextReader", "takeWord", "(Ljava/lang/String;)Z"⟩, 6), (⟨"TrustTin$TextReader", "readPrice", "(LTrustTin$Room;)Z"⟩, 6), (⟨"TrustTin$TextReader", "readPot", "(LTrustTin$Room;)Z"⟩, 6), (⟨"TrustTin$TextReader", "readSign", "(LTrustTin$Room;)Z"⟩, 6), (⟨"TrustTinModel", "finds", "(I)I"⟩, 22), (⟨"TrustTinModel", "comes", "(IIII)I"⟩, 22), (⟨"TrustTinModel", "becomes", "(III)V"⟩, 22)]
theorem lw_r2 : ∀ q ∈ lw_privs_2, lw_okq q := List.forall_mem_cons.mpr ⟨lw_p16, List.forall_mem_cons.mpr ⟨lw_p17, List.forall_mem_cons.mpr ⟨lw_p18, List.forall_mem_cons.mpr ⟨lw_p19, List.forall_mem_cons.mpr ⟨lw_p20, List.forall_mem_cons.mpr ⟨lw_p21, List.forall_mem_cons.mpr ⟨lw_p22, List.forall_mem_cons.mpr ⟨lw_p23, List.forall_mem_cons.mpr ⟨lw_p24, List.forall_mem_cons.mpr ⟨lw_p25, List.forall_mem_cons.mpr ⟨lw_p26, List.forall_mem_cons.mpr ⟨lw_p27, List.forall_mem_cons.mpr ⟨lw_p28, List.forall_mem_cons.mpr ⟨lw_p29, List.forall_mem_cons.mpr ⟨lw_p30, List.forall_mem_cons.mpr ⟨lw_p31, fun _ h => absurd h List.not_mem_nil⟩⟩⟩⟩⟩⟩⟩⟩⟩⟩⟩⟩⟩⟩⟩⟩
theorem lw_p32 : lw_okq (⟨"TrustTinModel", "isDrinker", "(I)Z"⟩, 22) := ⟨⟨by decide +kernel, by decide +kernel⟩, List.mem_of_getElem? (i := 767) (by decide +kernel), List.mem_of_getElem? (i := 866) (by decide +kernel), List.mem_of_getElem? (i := 867) (by decide +kernel)⟩
theorem lw_p33 : lw_okq (⟨"TrustTinModel", "its", "(II)I"⟩, 22) := ⟨⟨by decide +kernel, by decide +kernel⟩, List.mem_of_getElem? (i := 767) (by decide +kernel), List.mem_of_getElem? (i := 870) (by decide +kernel), List.mem_of_getElem? (i := 871) (by decide +kernel)⟩
theorem lw_p34 : lw_okq (⟨"TrustTinModel", "sumOf", "(I)I"⟩, 22) := ⟨⟨by decide +kernel, by decide +kernel⟩, List.mem_of_getElem? (i := 767) (by decide +kernel), List.mem_of_getElem? (i := 905) (by decide +kernel), List.mem_of_getElem? (i := 906) (by decide +kernel)⟩
theorem lw_p35 : lw_okq (⟨"TrustTinModel", "isFar", "(I)Z"⟩, 22) := ⟨⟨by decide +kernel, by decide +kernel⟩, List.mem_of_getElem? (i := 767) (by decide +kernel), List.mem_of_getElem? (i := 914) (by decide +kernel), List.mem_of_getElem? (i := 915) (by decide +kernel)⟩
theorem lw_p36 : lw_okq (⟨"TrustTinModel", "goesOn", "(I)I"⟩, 22) := ⟨⟨by decide +kernel, by decide +kernel⟩, List.mem_of_getElem? (i := 767) (by decide +kernel), List.mem_of_getElem? (i := 918) (by decide +kernel), List.mem_of_getElem? (i := 919) (by decide +kernel)⟩
theorem lw_p37 : lw_okq (⟨"TrustTinModel", "goesBy", "()V"⟩, 22) := ⟨⟨by decide +kernel, by decide +kernel⟩, List.mem_of_getElem? (i := 767) (by decide +kernel), List.mem_of_getElem? (i := 922) (by decide +kernel), List.mem_of_getElem? (i := 923) (by decide +kernel)⟩
theorem lw_p38 : lw_okq (⟨"TrustTinModel", "drinks", "(I)V"⟩, 22) := ⟨⟨by decide +kernel, by decide +kernel⟩, List.mem_of_getElem? (i := 767) (by decide +kernel), List.mem_of_getElem? (i := 926) (by decide +kernel), List.mem_of_getElem? (i := 927) (by decide +kernel)⟩
theorem lw_p39 : lw_okq (⟨"TrustTinModel", "hasCup", "(I)Z"⟩, 22) := ⟨⟨by decide +kernel, by decide +kernel⟩, List.mem_of_getElem? (i := 767) (by decide +kernel), List.mem_of_getElem? (i := 930) (by decide +kernel), List.mem_of_getElem? (i := 931) (by decide +kernel)⟩
theorem lw_p40 : lw_okq (⟨"TrustTinModel", "drawn", "()I"⟩, 22) := ⟨⟨by decide +kernel, by decide +kernel⟩, List.mem_of_getElem? (i := 767) (by decide +kernel), List.mem_of_getElem? (i := 934) (by decide +kernel), List.mem_of_getElem? (i := 935) (by decide +kernel)⟩
theorem lw_p41 : lw_okq (⟨"TrustTinModel", "paysFor", "(IZ)V"⟩, 22) := ⟨⟨by decide +kernel, by decide +kernel⟩, List.mem_of_getElem? (i := 767) (by decide +kernel), List.mem_of_getElem? (i := 939) (by decide +kernel), List.mem_of_getElem? (i := 940) (by decide +kernel)⟩
theorem lw_p42 : lw_okq (⟨"TrustTinModel", "forgets", "(I)V"⟩, 22) := ⟨⟨by decide +kernel, by decide +kernel⟩, List.mem_of_getElem? (i := 767) (by decide +kernel), List.mem_of_getElem? (i := 943) (by decide +kernel), List.mem_of_getElem? (i := 944) (by decide +kernel)⟩
theorem lw_p43 : lw_okq (⟨"TrustTinModel", "pays", "(II)V"⟩, 22) := ⟨⟨by decide +kernel, by decide +kernel⟩, List.mem_of_getElem? (i := 767) (by decide +kernel), List.mem_of_getElem? (i := 947) (by decide +kernel), List.mem_of_getElem? (i := 948) (by decide +kernel)⟩
theorem lw_p44 : lw_okq (⟨"TrustTinModel", "settles", "()V"⟩, 22) := ⟨⟨by decide +kernel, by decide +kernel⟩, List.mem_of_getElem? (i := 767) (by decide +kernel), List.mem_of_getElem? (i := 951) (by decide +kernel), List.mem_of_getElem? (i := 952) (by decide +kernel)⟩
theorem lw_p45 : lw_okq (⟨"TrustTinModel", "findSets", "(I)V"⟩, 22) := ⟨⟨by decide +kernel, by decide +kernel⟩, List.mem_of_getElem? (i := 767) (by decide +kernel), List.mem_of_getElem? (i := 971) (by decide +kernel), List.mem_of_getElem? (i := 972) (by decide +kernel)⟩
theorem lw_p46 : lw_okq (⟨"TrustTinModel", "isSum", "(II)Z"⟩, 22) := ⟨⟨by decide +kernel, by decide +kernel⟩, List.mem_of_getElem? (i := 767) (by decide +kernel), List.mem_of_getElem? (i := 975) (by decide +kernel), List.mem_of_getElem? (i := 976) (by decide +kernel)⟩
theorem lw_p47 : lw_okq (⟨"TrustTinModel", "why", "(ZI)I"⟩, 22) := ⟨⟨by decide +kernel, by decide +kernel⟩, List.mem_of_getElem? (i := 767) (by decide +kernel), List.mem_of_getElem? (i := 995) (by decide +kernel), List.mem_of_getElem? (i := 996) (by decide +kernel)⟩
def lw_privs_3 : List (MethodName × Nat) := [(⟨"TrustTinModel", "isDrinker", "(I)Z"⟩, 22), (⟨"TrustTinModel", "its", "(II)I"⟩, 22), (⟨"TrustTinModel", "sumOf", "(I)I"⟩, 22), (⟨"TrustTinModel", "isFar", "(I)Z"⟩, 22), (⟨"TrustTinModel", "goesOn", "(I)I"⟩, 22), (⟨"TrustTinModel", "goesBy", "()V"⟩, 22), (⟨"TrustTinModel", "drinks", "(I)V"⟩, 22), (⟨"TrustTinModel", "hasCup", "(I)Z"⟩, 22), (⟨"TrustTinModel", "drawn", "()I"⟩, 22), (⟨"TrustTinModel", "paysFor", "(IZ)V"⟩, 22), (⟨"TrustTinModel", "forgets", "(I)V"⟩, 22), (⟨"TrustTinModel", "pays", "(II)V"⟩, 22), (⟨"TrustTinModel", "settles", "()V"⟩, 22), (⟨"TrustTinModel", "findSets", "(I)V"⟩, 22), (⟨"TrustTinModel", "isSum", "(II)Z"⟩, 22), (⟨"TrustTinModel", "why", "(ZI)I"⟩, 22)]
theorem lw_r3 : ∀ q ∈ lw_privs_3, lw_okq q := List.forall_mem_cons.mpr ⟨lw_p32, List.forall_mem_cons.mpr ⟨lw_p33, List.forall_mem_cons.mpr ⟨lw_p34, List.forall_mem_cons.mpr ⟨lw_p35, List.forall_mem_cons.mpr ⟨lw_p36, List.forall_mem_cons.mpr ⟨lw_p37, List.forall_mem_cons.mpr ⟨lw_p38, List.forall_mem_cons.mpr ⟨lw_p39, List.forall_mem_cons.mpr ⟨lw_p40, List.forall_mem_cons.mpr ⟨lw_p41, List.forall_mem_cons.mpr ⟨lw_p42, List.forall_mem_cons.mpr ⟨lw_p43, List.forall_mem_cons.mpr ⟨lw_p44, List.forall_mem_cons.mpr ⟨lw_p45, List.forall_mem_cons.mpr ⟨lw_p46, List.forall_mem_cons.mpr ⟨lw_p47, fun _ h => absurd h List.not_mem_nil⟩⟩⟩⟩⟩⟩⟩⟩⟩⟩⟩⟩⟩⟩⟩⟩
theorem lw_p48 : lw_okq (⟨"TrustTinModel", "begins", "()V"⟩, 22) := ⟨⟨by decide +kernel, by decide +kernel⟩, List.mem_of_getElem? (i := 767) (by decide +kernel), List.mem_of_getElem? (i := 999) (by decide +kernel), List.mem_of_getElem? (i := 1000) (by decide +kernel)⟩
theorem lw_p49 : lw_okq (⟨"TrustTinModel", "ends", "()V"⟩, 22) := ⟨⟨by decide +kernel, by decide +kernel⟩, List.mem_of_getElem? (i := 767) (by decide +kernel), List.mem_of_getElem? (i := 1006) (by decide +kernel), List.mem_of_getElem? (i := 1007) (by decide +kernel)⟩
theorem lw_p50 : lw_okq (⟨"TrustTinModel", "monday", "(I)V"⟩, 22) := ⟨⟨by decide +kernel, by decide +kernel⟩, List.mem_of_getElem? (i := 767) (by decide +kernel), List.mem_of_getElem? (i := 1014) (by decide +kernel), List.mem_of_getElem? (i := 1015) (by decide +kernel)⟩
theorem lw_p51 : lw_okq (⟨"TrustTinModel", "bestOf", "(III)I"⟩, 22) := ⟨⟨by decide +kernel, by decide +kernel⟩, List.mem_of_getElem? (i := 767) (by decide +kernel), List.mem_of_getElem? (i := 1028) (by decide +kernel), List.mem_of_getElem? (i := 1029) (by decide +kernel)⟩
theorem lw_p52 : lw_okq (⟨"TrustTinModel", "comesWith", "(III)I"⟩, 22) := ⟨⟨by decide +kernel, by decide +kernel⟩, List.mem_of_getElem? (i := 767) (by decide +kernel), List.mem_of_getElem? (i := 1032) (by decide +kernel), List.mem_of_getElem? (i := 1033) (by decide +kernel)⟩
theorem lw_p53 : lw_okq (⟨"TrustTinModel", "drinking", "()I"⟩, 22) := ⟨⟨by decide +kernel, by decide +kernel⟩, List.mem_of_getElem? (i := 767) (by decide +kernel), List.mem_of_getElem? (i := 1056) (by decide +kernel), List.mem_of_getElem? (i := 1057) (by decide +kernel)⟩
theorem lw_p54 : lw_okq (⟨"TrustTinModel", "items", "()I"⟩, 22) := ⟨⟨by decide +kernel, by decide +kernel⟩, List.mem_of_getElem? (i := 767) (by decide +kernel), List.mem_of_getElem? (i := 1093) (by decide +kernel), List.mem_of_getElem? (i := 1094) (by decide +kernel)⟩
theorem lw_p55 : lw_okq (⟨"TrustTinModel", "next", "()V"⟩, 22) := ⟨⟨by decide +kernel, by decide +kernel⟩, List.mem_of_getElem? (i := 767) (by decide +kernel), List.mem_of_getElem? (i := 1097) (by decide +kernel), List.mem_of_getElem? (i := 1098) (by decide +kernel)⟩
theorem lw_p56 : lw_okq (⟨"TrustTinModel", "byteAt", "(I)I"⟩, 22) := ⟨⟨by decide +kernel, by decide +kernel⟩, List.mem_of_getElem? (i := 767) (by decide +kernel), List.mem_of_getElem? (i := 1101) (by decide +kernel), List.mem_of_getElem? (i := 1102) (by decide +kernel)⟩
theorem lw_p57 : lw_okq (⟨"TrustTinModel", "item", "()V"⟩, 22) := ⟨⟨by decide +kernel, by decide +kernel⟩, List.mem_of_getElem? (i := 767) (by decide +kernel), List.mem_of_getElem? (i := 1114) (by decide +kernel), List.mem_of_getElem? (i := 1115) (by decide +kernel)⟩
theorem lw_p58 : lw_okq (⟨"TrustTinModel", "kindHere", "()I"⟩, 22) := ⟨⟨by decide +kernel, by decide +kernel⟩, List.mem_of_getElem? (i := 767) (by decide +kernel), List.mem_of_getElem? (i := 1118) (by decide +kernel), List.mem_of_getElem? (i := 1119) (by decide +kernel)⟩
theorem lw_p59 : lw_okq (⟨"TrustTinModel", "isWord", "(J)Z"⟩, 22) := ⟨⟨by decide +kernel, by decide +kernel⟩, List.mem_of_getElem? (i := 767) (by decide +kernel), List.mem_of_getElem? (i := 1124) (by decide +kernel), List.mem_of_getElem? (i := 1125) (by decide +kernel)⟩
theorem lw_p60 : lw_okq (⟨"TrustTinModel", "drinkerHere", "(I)V"⟩, 22) := ⟨⟨by decide +kernel, by decide +kernel⟩, List.mem_of_getElem? (i := 767) (by decide +kernel), List.mem_of_getElem? (i := 1140) (by decide +kernel), List.mem_of_getElem? (i := 1141) (by decide +kernel)⟩
theorem lw_p61 : lw_okq (⟨"TrustTinModel", "wrongHere", "()V"⟩, 22) := ⟨⟨by decide +kernel, by decide +kernel⟩, List.mem_of_getElem? (i := 767) (by decide +kernel), List.mem_of_getElem? (i := 1144) (by decide +kernel), List.mem_of_getElem? (i := 1145) (by decide +kernel)⟩
theorem lw_p62 : lw_okq (⟨"TrustTinModel", "number", "(II)I"⟩, 22) := ⟨⟨by decide +kernel, by decide +kernel⟩, List.mem_of_getElem? (i := 767) (by decide +kernel), List.mem_of_getElem? (i := 1148) (by decide +kernel), List.mem_of_getElem? (i := 1149) (by decide +kernel)⟩
theorem lw_p63 : lw_okq (⟨"TrustTinModel", "signHere", "()V"⟩, 22) := ⟨⟨by decide +kernel, by decide +kernel⟩, List.mem_of_getElem? (i := 767) (by decide +kernel), List.mem_of_getElem? (i := 1162) (by decide +kernel), List.mem_of_getElem? (i := 1163) (by decide +kernel)⟩
def lw_privs_4 : List (MethodName × Nat) := [(⟨"TrustTinModel", "begins", "()V"⟩, 22), (⟨"TrustTinModel", "ends", "()V"⟩, 22), (⟨"TrustTinModel", "monday", "(I)V"⟩, 22), (⟨"TrustTinModel", "bestOf", "(III)I"⟩, 22), (⟨"TrustTinModel", "comesWith", "(III)I"⟩, 22), (⟨"TrustTinModel", "drinking", "()I"⟩, 22), (⟨"TrustTinModel", "items", "()I"⟩, 22), (⟨"TrustTinModel", "next", "()V"⟩, 22), (⟨"TrustTinModel", "byteAt", "(I)I"⟩, 22), (⟨"TrustTinModel", "item", "()V"⟩, 22), (⟨"TrustTinModel", "kindHere", "()I"⟩, 22), (⟨"TrustTinModel", "isWord", "(J)Z"⟩, 22), (⟨"TrustTinModel", "drinkerHere", "(I)V"⟩, 22), (⟨"TrustTinModel", "wrongHere", "()V"⟩, 22), (⟨"TrustTinModel", "number", "(II)I"⟩, 22), (⟨"TrustTinModel", "signHere", "()V"⟩, 22)]
theorem lw_r4 : ∀ q ∈ lw_privs_4, lw_okq q := List.forall_mem_cons.mpr ⟨lw_p48, List.forall_mem_cons.mpr ⟨lw_p49, List.forall_mem_cons.mpr ⟨lw_p50, List.forall_mem_cons.mpr ⟨lw_p51, List.forall_mem_cons.mpr ⟨lw_p52, List.forall_mem_cons.mpr ⟨lw_p53, List.forall_mem_cons.mpr ⟨lw_p54, List.forall_mem_cons.mpr ⟨lw_p55, List.forall_mem_cons.mpr ⟨lw_p56, List.forall_mem_cons.mpr ⟨lw_p57, List.forall_mem_cons.mpr ⟨lw_p58, List.forall_mem_cons.mpr ⟨lw_p59, List.forall_mem_cons.mpr ⟨lw_p60, List.forall_mem_cons.mpr ⟨lw_p61, List.forall_mem_cons.mpr ⟨lw_p62, List.forall_mem_cons.mpr ⟨lw_p63, fun _ h => absurd h List.not_mem_nil⟩⟩⟩⟩⟩⟩⟩⟩⟩⟩⟩⟩⟩⟩⟩⟩
theorem lw_p64 : lw_okq (⟨"TrustTinModel", "whyNot", "(I)I"⟩, 22) := ⟨⟨by decide +kernel, by decide +kernel⟩, List.mem_of_getElem? (i := 767) (by decide +kernel), List.mem_of_getElem? (i := 1203) (by decide +kernel), List.mem_of_getElem? (i := 1204) (by decide +kernel)⟩
theorem lw_p65 : lw_okq (⟨"TrustTinModel", "held", "()I"⟩, 22) := ⟨⟨by decide +kernel, by decide +kernel⟩, List.mem_of_getElem? (i := 767) (by decide +kernel), List.mem_of_getElem? (i := 1227) (by decide +kernel), List.mem_of_getElem? (i := 1228) (by decide +kernel)⟩
def lw_privs_5 : List (MethodName × Nat) := [(⟨"TrustTinModel", "whyNot", "(I)I"⟩, 22), (⟨"TrustTinModel", "held", "()I"⟩, 22)]
theorem lw_r5 : ∀ q ∈ lw_privs_5, lw_okq q := List.forall_mem_cons.mpr ⟨lw_p64, List.forall_mem_cons.mpr ⟨lw_p65, fun _ h => absurd h List.not_mem_nil⟩⟩
def lw_privs : List (MethodName × Nat) := lw_privs_1 ++ (lw_privs_2 ++ (lw_privs_3 ++ (lw_privs_4 ++ (lw_privs_5))))
def lw_tbl : List Cond := k2_sels lw_privs ++ tables_1
theorem lw_privs_ok : ∀ q ∈ lw_privs, lw_okq q := by
  show ∀ q ∈ lw_privs_1 ++ (lw_privs_2 ++ (lw_privs_3 ++ (lw_privs_4 ++ (lw_privs_5)))), lw_okq q
  exact List.forall_mem_append.mpr ⟨lw_r1, List.forall_mem_append.mpr ⟨lw_r2, List.forall_mem_append.mpr ⟨lw_r3, List.forall_mem_append.mpr ⟨lw_r4, lw_r5⟩⟩⟩⟩
end
section
def RX0 : String := "TrustTin$Books"
def TX0 : u_T := fun k => match k with
  | 0 => ("TrustTin$Books", "cups", "[I", true)
  | 1 => ("TrustTin$Books", "coins", "[I", true)
  | _ => ("TrustTin$Books", "size", "I", false)
def tyX0 : Nat → FieldType := fun k => match k with
  | 0 => .array .int
  | 1 => .array .int
  | _ => .int
abbrev wsX00 : List Cond := u_ws RX0 TX0 3
theorem nmX0 : ∀ a, a < 3 → ∀ b, b < 3 → a ≠ b → (TX0 a).2.1 ≠ (TX0 b).2.1 := by decide +kernel
theorem tyX0_ok : ∀ k, k < 3 → parseFieldDescriptor (TX0 k).2.2.1 = some (tyX0 k) := by decide +kernel
abbrev cX0_init : ByteArray := prog_2_method_1_code
def yX0_init : MethodName := ⟨RX0, "<init>", "()V"⟩
abbrev cX0_put : ByteArray := prog_2_method_2_code
def yX0_put : MethodName := ⟨RX0, "put", "(II)V"⟩
abbrev cX0_take : ByteArray := prog_2_method_3_code
def yX0_take : MethodName := ⟨RX0, "take", "(LTrustTin$Books;)V"⟩
abbrev cX0_allCups : ByteArray := prog_2_method_4_code
def yX0_allCups : MethodName := ⟨RX0, "allCups", "()I"⟩
abbrev cX0_allCoins : ByteArray := prog_2_method_5_code
def yX0_allCoins : MethodName := ⟨RX0, "allCoins", "()I"⟩
abbrev cX0_sumOfFirst : ByteArray := prog_2_method_6_code
def yX0_sumOfFirst : MethodName := ⟨RX0, "sumOfFirst", "([II)I"⟩
def RX1 : String := "TrustTin$Drinker"
def TX1 : u_T := fun k => match k with
  | 0 => ("TrustTin$Drinker", "kind", "I", false)
  | 1 => ("TrustTin$Drinker", "cups", "I", false)
  | 2 => ("TrustTin$Drinker", "purse", "I", false)
  | 3 => ("TrustTin$Drinker", "limit", "I", false)
  | 4 => ("TrustTin$Drinker", "debt", "I", false)
  | 5 => ("TrustTin$Drinker", "drunk", "I", false)
  | _ => ("TrustTin$Drinker", "paid", "I", false)
def tyX1 : Nat → FieldType := fun k => match k with
  | 0 => .int
  | 1 => .int
  | 2 => .int
  | 3 => .int
  | 4 => .int
  | 5 => .int
  | _ => .int
abbrev wsX10 : List Cond := u_ws RX1 TX1 7
theorem nmX1 : ∀ a, a < 7 → ∀ b, b < 7 → a ≠ b → (TX1 a).2.1 ≠ (TX1 b).2.1 := by decide +kernel
theorem tyX1_ok : ∀ k, k < 7 → parseFieldDescriptor (TX1 k).2.2.1 = some (tyX1 k) := by decide +kernel
abbrev cX1_init : ByteArray := prog_3_method_1_code
def yX1_init : MethodName := ⟨RX1, "<init>", "()V"⟩
abbrev cX1_begin : ByteArray := prog_3_method_2_code
def yX1_begin : MethodName := ⟨RX1, "begin", "(II)V"⟩
abbrev cX1_take : ByteArray := prog_3_method_3_code
def yX1_take : MethodName := ⟨RX1, "take", "(LTrustTin$Drinker;)V"⟩
abbrev cX1_get : ByteArray := prog_3_method_4_code
def yX1_get : MethodName := ⟨RX1, "get", "(I)I"⟩
abbrev cX1_set : ByteArray := prog_3_method_5_code
def yX1_set : MethodName := ⟨RX1, "set", "(II)V"⟩
def RX2 : String := "TrustTin$Room"
def TX2 : u_T := fun k => match k with
  | 0 => ("TrustTin$Room", "drinkers", "[LTrustTin$Drinker;", true)
  | 1 => ("TrustTin$Room", "size", "I", false)
  | 2 => ("TrustTin$Room", "price", "I", false)
  | 3 => ("TrustTin$Room", "pot", "I", false)
  | 4 => ("TrustTin$Room", "left", "I", false)
  | 5 => ("TrustTin$Room", "tin", "I", false)
  | 6 => ("TrustTin$Room", "sign", "I", false)
  | 7 => ("TrustTin$Room", "last", "I", false)
  | 8 => ("TrustTin$Room", "day", "I", false)
  | 9 => ("TrustTin$Room", "missed", "I", false)
  | 10 => ("TrustTin$Room", "served", "I", false)
  | 11 => ("TrustTin$Room", "z", "I", false)
  | 12 => ("TrustTin$Room", "books", "LTrustTin$Books;", true)
  | _ => ("TrustTin$Room", "spots", "[I", true)
def tyX2 : Nat → FieldType := fun k => match k with
  | 0 => .array (.object "TrustTin$Drinker")
  | 1 => .int
  | 2 => .int
  | 3 => .int
  | 4 => .int
  | 5 => .int
  | 6 => .int
  | 7 => .int
  | 8 => .int
  | 9 => .int
  | 10 => .int
  | 11 => .int
  | 12 => .object "TrustTin$Books"
  | _ => .array .int
abbrev wsX20 : List Cond := u_ws RX2 TX2 14
theorem nmX2 : ∀ a, a < 14 → ∀ b, b < 14 → a ≠ b → (TX2 a).2.1 ≠ (TX2 b).2.1 := by decide +kernel
theorem tyX2_ok : ∀ k, k < 14 → parseFieldDescriptor (TX2 k).2.2.1 = some (tyX2 k) := by decide +kernel
abbrev cX2_init : ByteArray := prog_4_method_1_code
def yX2_init : MethodName := ⟨RX2, "<init>", "()V"⟩
abbrev cX2_takeRoom : ByteArray := prog_4_method_2_code
def yX2_takeRoom : MethodName := ⟨RX2, "takeRoom", "(LTrustTin$Room;)V"⟩
abbrev cX2_takeAll : ByteArray := prog_4_method_3_code
def yX2_takeAll : MethodName := ⟨RX2, "takeAll", "(LTrustTin$Room;)V"⟩
abbrev cX2_addDrinker : ByteArray := prog_4_method_4_code
def yX2_addDrinker : MethodName := ⟨RX2, "addDrinker", "(II)LTrustTin$Drinker;"⟩
abbrev cX2_setPot : ByteArray := prog_4_method_5_code
def yX2_setPot : MethodName := ⟨RX2, "setPot", "(I)V"⟩
abbrev cX2_beginMonday : ByteArray := prog_4_method_6_code
def yX2_beginMonday : MethodName := ⟨RX2, "beginMonday", "()V"⟩
abbrev cX2_draw : ByteArray := prog_4_method_7_code
def yX2_draw : MethodName := ⟨RX2, "draw", "()I"⟩
abbrev cX2_sumOf : ByteArray := prog_4_method_8_code
def yX2_sumOf : MethodName := ⟨RX2, "sumOf", "(I)I"⟩
abbrev cX2_due : ByteArray := prog_4_method_9_code
def yX2_due : MethodName := ⟨RX2, "due", "()I"⟩
abbrev cX2_dueOf : ByteArray := prog_4_method_10_code
def yX2_dueOf : MethodName := ⟨RX2, "dueOf", "(I)I"⟩
abbrev cX2_owedBy : ByteArray := prog_4_method_11_code
def yX2_owedBy : MethodName := ⟨RX2, "owedBy", "(I)I"⟩
abbrev cX2_drinkersWhoDrank : ByteArray := prog_4_method_12_code
def yX2_drinkersWhoDrank : MethodName := ⟨RX2, "drinkersWhoDrank", "()I"⟩
abbrev cX2_heldSpots : ByteArray := prog_4_method_13_code
def yX2_heldSpots : MethodName := ⟨RX2, "heldSpots", "()I"⟩
abbrev cX2_goDays : ByteArray := prog_4_method_14_code
def yX2_goDays : MethodName := ⟨RX2, "goDays", "(I)I"⟩
abbrev cX2_goDay : ByteArray := prog_4_method_15_code
def yX2_goDay : MethodName := ⟨RX2, "goDay", "()V"⟩
abbrev cX2_serve : ByteArray := prog_4_method_16_code
def yX2_serve : MethodName := ⟨RX2, "serve", "(LTrustTin$Drinker;)V"⟩
abbrev cX2_isPotMade : ByteArray := prog_4_method_17_code
def yX2_isPotMade : MethodName := ⟨RX2, "isPotMade", "(LTrustTin$Drinker;)Z"⟩
abbrev cX2_payCup : ByteArray := prog_4_method_18_code
def yX2_payCup : MethodName := ⟨RX2, "payCup", "(LTrustTin$Drinker;I)V"⟩
abbrev cX2_isForgotten : ByteArray := prog_4_method_19_code
def yX2_isForgotten : MethodName := ⟨RX2, "isForgotten", "()Z"⟩
abbrev cX2_pay : ByteArray := prog_4_method_20_code
def yX2_pay : MethodName := ⟨RX2, "pay", "(LTrustTin$Drinker;I)I"⟩
abbrev cX2_endWeek : ByteArray := prog_4_method_21_code
def yX2_endWeek : MethodName := ⟨RX2, "endWeek", "()V"⟩
abbrev cX2_beginWeek : ByteArray := prog_4_method_22_code
def yX2_beginWeek : MethodName := ⟨RX2, "beginWeek", "()V"⟩
def RX3 : String := "TrustTin$Sheet"
def TX3 : u_T := fun k => match k with
  | 0 => ("TrustTin$Sheet", "numbers", "[I", true)
  | 1 => ("TrustTin$Sheet", "bits", "I", false)
  | _ => ("TrustTin$Sheet", "size", "I", false)
def tyX3 : Nat → FieldType := fun k => match k with
  | 0 => .array .int
  | 1 => .int
  | _ => .int
abbrev wsX30 : List Cond := u_ws RX3 TX3 3
theorem nmX3 : ∀ a, a < 3 → ∀ b, b < 3 → a ≠ b → (TX3 a).2.1 ≠ (TX3 b).2.1 := by decide +kernel
theorem tyX3_ok : ∀ k, k < 3 → parseFieldDescriptor (TX3 k).2.2.1 = some (tyX3 k) := by decide +kernel
abbrev cX3_init : ByteArray := prog_5_method_1_code
def yX3_init : MethodName := ⟨RX3, "<init>", "()V"⟩
abbrev cX3_isMissing : ByteArray := prog_5_method_2_code
def yX3_isMissing : MethodName := ⟨RX3, "isMissing", "()Z"⟩
abbrev cX3_begin : ByteArray := prog_5_method_3_code
def yX3_begin : MethodName := ⟨RX3, "begin", "(II)V"⟩
abbrev cX3_put : ByteArray := prog_5_method_4_code
def yX3_put : MethodName := ⟨RX3, "put", "(II)V"⟩
abbrev cX3_has : ByteArray := prog_5_method_5_code
def yX3_has : MethodName := ⟨RX3, "has", "(II)Z"⟩
def RX4 : String := "TrustTin$Tape"
def TX4 : u_T := fun k => match k with
  | 0 => ("TrustTin$Tape", "bytes", "[I", true)
  | _ => ("TrustTin$Tape", "size", "I", false)
def tyX4 : Nat → FieldType := fun k => match k with
  | 0 => .array .int
  | _ => .int
abbrev wsX40 : List Cond := u_ws RX4 TX4 2
theorem nmX4 : ∀ a, a < 2 → ∀ b, b < 2 → a ≠ b → (TX4 a).2.1 ≠ (TX4 b).2.1 := by decide +kernel
theorem tyX4_ok : ∀ k, k < 2 → parseFieldDescriptor (TX4 k).2.2.1 = some (tyX4 k) := by decide +kernel
abbrev cX4_init : ByteArray := prog_6_method_1_code
def yX4_init : MethodName := ⟨RX4, "<init>", "()V"⟩
abbrev cX4_put : ByteArray := prog_6_method_2_code
def yX4_put : MethodName := ⟨RX4, "put", "(I)V"⟩
def RX5 : String := "TrustTin$TextReader"
def TX5 : u_T := fun k => match k with
  | 0 => ("TrustTin$TextReader", "tape", "LTrustTin$Tape;", true)
  | 1 => ("TrustTin$TextReader", "token", "I", false)
  | 2 => ("TrustTin$TextReader", "start", "I", false)
  | 3 => ("TrustTin$TextReader", "end", "I", false)
  | 4 => ("TrustTin$TextReader", "number", "I", false)
  | _ => ("TrustTin$TextReader", "tookNumber", "I", false)
def tyX5 : Nat → FieldType := fun k => match k with
  | 0 => .object "TrustTin$Tape"
  | 1 => .int
  | 2 => .int
  | 3 => .int
  | 4 => .int
  | _ => .int
abbrev wsX50 : List Cond := u_ws RX5 TX5 6
theorem nmX5 : ∀ a, a < 6 → ∀ b, b < 6 → a ≠ b → (TX5 a).2.1 ≠ (TX5 b).2.1 := by decide +kernel
theorem tyX5_ok : ∀ k, k < 6 → parseFieldDescriptor (TX5 k).2.2.1 = some (tyX5 k) := by decide +kernel
abbrev cX5_init : ByteArray := prog_7_method_1_code
def yX5_init : MethodName := ⟨RX5, "<init>", "(LTrustTin$Tape;)V"⟩
abbrev cX5_read : ByteArray := prog_7_method_2_code
def yX5_read : MethodName := ⟨RX5, "read", "(LTrustTin$Room;)I"⟩
abbrev cX5_readItem : ByteArray := prog_7_method_3_code
def yX5_readItem : MethodName := ⟨RX5, "readItem", "(LTrustTin$Room;)Z"⟩
abbrev cX5_readDrinker : ByteArray := prog_7_method_4_code
def yX5_readDrinker : MethodName := ⟨RX5, "readDrinker", "(LTrustTin$Room;I)Z"⟩
abbrev cX5_readPrice : ByteArray := prog_7_method_5_code
def yX5_readPrice : MethodName := ⟨RX5, "readPrice", "(LTrustTin$Room;)Z"⟩
abbrev cX5_readPot : ByteArray := prog_7_method_6_code
def yX5_readPot : MethodName := ⟨RX5, "readPot", "(LTrustTin$Room;)Z"⟩
abbrev cX5_readSign : ByteArray := prog_7_method_7_code
def yX5_readSign : MethodName := ⟨RX5, "readSign", "(LTrustTin$Room;)Z"⟩
abbrev cX5_kindOfWord : ByteArray := prog_7_method_8_code
def yX5_kindOfWord : MethodName := ⟨RX5, "kindOfWord", "()I"⟩
abbrev cX5_takeNumber : ByteArray := prog_7_method_9_code
def yX5_takeNumber : MethodName := ⟨RX5, "takeNumber", "(II)Z"⟩
abbrev cX5_takeWord : ByteArray := prog_7_method_10_code
def yX5_takeWord : MethodName := ⟨RX5, "takeWord", "(Ljava/lang/String;)Z"⟩
abbrev cX5_isWord : ByteArray := prog_7_method_11_code
def yX5_isWord : MethodName := ⟨RX5, "isWord", "(Ljava/lang/String;)Z"⟩
abbrev cX5_advance : ByteArray := prog_7_method_12_code
def yX5_advance : MethodName := ⟨RX5, "advance", "()V"⟩
abbrev cX5_passLetters : ByteArray := prog_7_method_13_code
def yX5_passLetters : MethodName := ⟨RX5, "passLetters", "()V"⟩
abbrev cX5_passDigits : ByteArray := prog_7_method_14_code
def yX5_passDigits : MethodName := ⟨RX5, "passDigits", "()V"⟩
abbrev cX5_byteAt : ByteArray := prog_7_method_15_code
def yX5_byteAt : MethodName := ⟨RX5, "byteAt", "(I)I"⟩
abbrev cX5_isLetter : ByteArray := prog_7_method_16_code
def yX5_isLetter : MethodName := ⟨RX5, "isLetter", "(I)Z"⟩
abbrev cX5_isDigit : ByteArray := prog_7_method_17_code
def yX5_isDigit : MethodName := ⟨RX5, "isDigit", "(I)Z"⟩
abbrev cX5_wordOfKind : ByteArray := prog_7_method_18_code
def yX5_wordOfKind : MethodName := ⟨RX5, "wordOfKind", "(I)Ljava/lang/String;"⟩
abbrev cX5_wordOfSign : ByteArray := prog_7_method_19_code
def yX5_wordOfSign : MethodName := ⟨RX5, "wordOfSign", "(I)Ljava/lang/String;"⟩
def RX6 : String := "TrustTin"
def TX6 : u_T := fun k => match k with
  | 0 => ("TrustTin", "real", "LTrustTin$Room;", true)
  | 1 => ("TrustTin", "kept", "LTrustTin$Room;", true)
  | 2 => ("TrustTin", "trial", "LTrustTin$Room;", true)
  | 3 => ("TrustTin", "isKept", "Z", false)
  | 4 => ("TrustTin", "tape", "LTrustTin$Tape;", true)
  | 5 => ("TrustTin", "reader", "LTrustTin$TextReader;", true)
  | 6 => ("TrustTin", "sheets", "[LTrustTin$Sheet;", true)
  | _ => ("TrustTin", "findings", "[I", true)
def tyX6 : Nat → FieldType := fun k => match k with
  | 0 => .object "TrustTin$Room"
  | 1 => .object "TrustTin$Room"
  | 2 => .object "TrustTin$Room"
  | 3 => .boolean
  | 4 => .object "TrustTin$Tape"
  | 5 => .object "TrustTin$TextReader"
  | 6 => .array (.object "TrustTin$Sheet")
  | _ => .array .int
abbrev wsX60 : List Cond := u_ws RX6 TX6 8
theorem nmX6 : ∀ a, a < 8 → ∀ b, b < 8 → a ≠ b → (TX6 a).2.1 ≠ (TX6 b).2.1 := by decide +kernel
theorem tyX6_ok : ∀ k, k < 8 → parseFieldDescriptor (TX6 k).2.2.1 = some (tyX6 k) := by decide +kernel
abbrev cX6_init : ByteArray := prog_1_method_1_code
def yX6_init : MethodName := ⟨RX6, "<init>", "()V"⟩
abbrev cX6_drinker : ByteArray := prog_1_method_2_code
def yX6_drinker : MethodName := ⟨RX6, "drinker", "(II)I"⟩
abbrev cX6_of : ByteArray := prog_1_method_3_code
def yX6_of : MethodName := ⟨RX6, "of", "(II)I"⟩
abbrev cX6_change : ByteArray := prog_1_method_4_code
def yX6_change : MethodName := ⟨RX6, "change", "(III)I"⟩
abbrev cX6_room : ByteArray := prog_1_method_5_code
def yX6_room : MethodName := ⟨RX6, "room", "(II)I"⟩
abbrev cX6_empty : ByteArray := prog_1_method_6_code
def yX6_empty : MethodName := ⟨RX6, "empty", "()I"⟩
abbrev cX6_taken : ByteArray := prog_1_method_7_code
def yX6_taken : MethodName := ⟨RX6, "taken", "(I)I"⟩
abbrev cX6_forgive : ByteArray := prog_1_method_8_code
def yX6_forgive : MethodName := ⟨RX6, "forgive", "(I)I"⟩
abbrev cX6_now : ByteArray := prog_1_method_9_code
def yX6_now : MethodName := ⟨RX6, "now", "(I)I"⟩
abbrev cX6_days : ByteArray := prog_1_method_10_code
def yX6_days : MethodName := ⟨RX6, "days", "(I)I"⟩
abbrev cX6_week : ByteArray := prog_1_method_11_code
def yX6_week : MethodName := ⟨RX6, "week", "(II)I"⟩
abbrev cX6_each : ByteArray := prog_1_method_12_code
def yX6_each : MethodName := ⟨RX6, "each", "(I)I"⟩
abbrev cX6_many : ByteArray := prog_1_method_13_code
def yX6_many : MethodName := ⟨RX6, "many", "(I)I"⟩
abbrev cX6_who : ByteArray := prog_1_method_14_code
def yX6_who : MethodName := ⟨RX6, "who", "(II)I"⟩
abbrev cX6_fewest : ByteArray := prog_1_method_15_code
def yX6_fewest : MethodName := ⟨RX6, "fewest", "(I)I"⟩
abbrev cX6_ahead : ByteArray := prog_1_method_16_code
def yX6_ahead : MethodName := ⟨RX6, "ahead", "(II)I"⟩
abbrev cX6_rests : ByteArray := prog_1_method_17_code
def yX6_rests : MethodName := ⟨RX6, "rests", "()I"⟩
abbrev cX6_tips : ByteArray := prog_1_method_18_code
def yX6_tips : MethodName := ⟨RX6, "tips", "(II)I"⟩
abbrev cX6_best : ByteArray := prog_1_method_19_code
def yX6_best : MethodName := ⟨RX6, "best", "(I)I"⟩
abbrev cX6_sign : ByteArray := prog_1_method_20_code
def yX6_sign : MethodName := ⟨RX6, "sign", "(I)I"⟩
abbrev cX6_potFor : ByteArray := prog_1_method_21_code
def yX6_potFor : MethodName := ⟨RX6, "potFor", "(I)I"⟩
abbrev cX6_kindFor : ByteArray := prog_1_method_22_code
def yX6_kindFor : MethodName := ⟨RX6, "kindFor", "(II)I"⟩
abbrev cX6_told : ByteArray := prog_1_method_23_code
def yX6_told : MethodName := ⟨RX6, "told", "(II)I"⟩
abbrev cX6_uneven : ByteArray := prog_1_method_24_code
def yX6_uneven : MethodName := ⟨RX6, "uneven", "(I)I"⟩
abbrev cX6_strokes : ByteArray := prog_1_method_25_code
def yX6_strokes : MethodName := ⟨RX6, "strokes", "()I"⟩
abbrev cX6_lacks : ByteArray := prog_1_method_26_code
def yX6_lacks : MethodName := ⟨RX6, "lacks", "()I"⟩
abbrev cX6_owes : ByteArray := prog_1_method_27_code
def yX6_owes : MethodName := ⟨RX6, "owes", "()I"⟩
abbrev cX6_odds : ByteArray := prog_1_method_28_code
def yX6_odds : MethodName := ⟨RX6, "odds", "(II)I"⟩
abbrev cX6_seed : ByteArray := prog_1_method_29_code
def yX6_seed : MethodName := ⟨RX6, "seed", "(I)I"⟩
abbrev cX6_feed : ByteArray := prog_1_method_30_code
def yX6_feed : MethodName := ⟨RX6, "feed", "(II)I"⟩
abbrev cX6_wipe : ByteArray := prog_1_method_31_code
def yX6_wipe : MethodName := ⟨RX6, "wipe", "()I"⟩
abbrev cX6_text : ByteArray := prog_1_method_32_code
def yX6_text : MethodName := ⟨RX6, "text", "()I"⟩
abbrev cX6_hold : ByteArray := prog_1_method_33_code
def yX6_hold : MethodName := ⟨RX6, "hold", "(II)I"⟩
abbrev cX6_as : ByteArray := prog_1_method_34_code
def yX6_as : MethodName := ⟨RX6, "as", "(II)I"⟩
abbrev cX6_sheet : ByteArray := prog_1_method_35_code
def yX6_sheet : MethodName := ⟨RX6, "sheet", "(III)I"⟩
abbrev cX6_write : ByteArray := prog_1_method_36_code
def yX6_write : MethodName := ⟨RX6, "write", "(III)I"⟩
abbrev cX6_copy : ByteArray := prog_1_method_37_code
def yX6_copy : MethodName := ⟨RX6, "copy", "(IIIII)I"⟩
abbrev cX6_load : ByteArray := prog_1_method_38_code
def yX6_load : MethodName := ⟨RX6, "load", "(I)I"⟩
abbrev cX6_judge : ByteArray := prog_1_method_39_code
def yX6_judge : MethodName := ⟨RX6, "judge", "(I)I"⟩
abbrev cX6_image : ByteArray := prog_1_method_40_code
def yX6_image : MethodName := ⟨RX6, "image", "()I"⟩
abbrev cX6_undo : ByteArray := prog_1_method_41_code
def yX6_undo : MethodName := ⟨RX6, "undo", "()I"⟩
abbrev cX6_tear : ByteArray := prog_1_method_42_code
def yX6_tear : MethodName := ⟨RX6, "tear", "()I"⟩
abbrev cX6_count : ByteArray := prog_1_method_43_code
def yX6_count : MethodName := ⟨RX6, "count", "(I)I"⟩
abbrev cX6_status : ByteArray := prog_1_method_44_code
def yX6_status : MethodName := ⟨RX6, "status", "(I)I"⟩
abbrev cX6_tell : ByteArray := prog_1_method_45_code
def yX6_tell : MethodName := ⟨RX6, "tell", "(I)I"⟩
abbrev cX6_isDrinker : ByteArray := prog_1_method_46_code
def yX6_isDrinker : MethodName := ⟨RX6, "isDrinker", "(I)Z"⟩
abbrev cX6_isTooLate : ByteArray := prog_1_method_47_code
def yX6_isTooLate : MethodName := ⟨RX6, "isTooLate", "(I)Z"⟩
abbrev cX6_changePrice : ByteArray := prog_1_method_48_code
def yX6_changePrice : MethodName := ⟨RX6, "changePrice", "(I)I"⟩
abbrev cX6_changePot : ByteArray := prog_1_method_49_code
def yX6_changePot : MethodName := ⟨RX6, "changePot", "(I)I"⟩
abbrev cX6_changeSign : ByteArray := prog_1_method_50_code
def yX6_changeSign : MethodName := ⟨RX6, "changeSign", "(I)I"⟩
abbrev cX6_lastBehindWeeks : ByteArray := prog_1_method_51_code
def yX6_lastBehindWeeks : MethodName := ⟨RX6, "lastBehindWeeks", "(II)I"⟩
abbrev cX6_coinsByWay : ByteArray := prog_1_method_52_code
def yX6_coinsByWay : MethodName := ⟨RX6, "coinsByWay", "(LTrustTin$Drinker;II)I"⟩
abbrev cX6_within : ByteArray := prog_1_method_53_code
def yX6_within : MethodName := ⟨RX6, "within", "(III)Z"⟩
abbrev cX6_isSheet : ByteArray := prog_1_method_54_code
def yX6_isSheet : MethodName := ⟨RX6, "isSheet", "(I)Z"⟩
abbrev cX6_canBecome : ByteArray := prog_1_method_55_code
def yX6_canBecome : MethodName := ⟨RX6, "canBecome", "(II)Z"⟩
abbrev cX6_isUnder : ByteArray := prog_1_method_56_code
def yX6_isUnder : MethodName := ⟨RX6, "isUnder", "(II)Z"⟩
abbrev cX6_commonDivisor : ByteArray := prog_1_method_57_code
def yX6_commonDivisor : MethodName := ⟨RX6, "commonDivisor", "(II)I"⟩
def RX7 : String := "TrustTinModel"
def TX7 : u_T := fun k => match k with
  | 0 => ("TrustTinModel", "d", "[I", true)
  | 1 => ("TrustTinModel", "e", "[I", true)
  | 2 => ("TrustTinModel", "kept", "[I", true)
  | 3 => ("TrustTinModel", "isKept", "Z", false)
  | 4 => ("TrustTinModel", "found", "[I", true)
  | 5 => ("TrustTinModel", "tape", "[B", true)
  | 6 => ("TrustTinModel", "taped", "I", false)
  | 7 => ("TrustTinModel", "coins", "I", false)
  | 8 => ("TrustTinModel", "cups", "I", false)
  | 9 => ("TrustTinModel", "can", "I", false)
  | 10 => ("TrustTinModel", "inAll", "I", false)
  | 11 => ("TrustTinModel", "inAny", "I", false)
  | 12 => ("TrustTinModel", "smallest", "I", false)
  | 13 => ("TrustTinModel", "at", "I", false)
  | 14 => ("TrustTinModel", "sort", "I", false)
  | 15 => ("TrustTinModel", "from", "I", false)
  | 16 => ("TrustTinModel", "value", "J", false)
  | 17 => ("TrustTinModel", "fault", "I", false)
  | 18 => ("TrustTinModel", "bitsOf", "[I", true)
  | 19 => ("TrustTinModel", "sizeOf", "[I", true)
  | 20 => ("TrustTinModel", "number", "[I", true)
  | _ => ("TrustTinModel", "passing", "[I", true)
def tyX7 : Nat → FieldType := fun k => match k with
  | 0 => .array .int
  | 1 => .array .int
  | 2 => .array .int
  | 3 => .boolean
  | 4 => .array .int
  | 5 => .array .byte
  | 6 => .int
  | 7 => .int
  | 8 => .int
  | 9 => .int
  | 10 => .int
  | 11 => .int
  | 12 => .int
  | 13 => .int
  | 14 => .int
  | 15 => .int
  | 16 => .long
  | 17 => .int
  | 18 => .array .int
  | 19 => .array .int
  | 20 => .array .int
  | _ => .array .int
abbrev wsX70 : List Cond := u_ws RX7 TX7 22
theorem nmX7 : ∀ a, a < 22 → ∀ b, b < 22 → a ≠ b → (TX7 a).2.1 ≠ (TX7 b).2.1 := by decide +kernel
theorem tyX7_ok : ∀ k, k < 22 → parseFieldDescriptor (TX7 k).2.2.1 = some (tyX7 k) := by decide +kernel
abbrev cX7_init : ByteArray := prog_9_method_1_code
def yX7_init : MethodName := ⟨RX7, "<init>", "()V"⟩
abbrev cX7_finds : ByteArray := prog_9_method_3_code
def yX7_finds : MethodName := ⟨RX7, "finds", "(I)I"⟩
abbrev cX7_in : ByteArray := prog_9_method_4_code
def yX7_in : MethodName := ⟨RX7, "in", "(JJJ)Z"⟩
abbrev cX7_least : ByteArray := prog_9_method_5_code
def yX7_least : MethodName := ⟨RX7, "least", "(II)I"⟩
abbrev cX7_copies : ByteArray := prog_9_method_6_code
def yX7_copies : MethodName := ⟨RX7, "copies", "([I[I)V"⟩
abbrev cX7_isDrinker : ByteArray := prog_9_method_7_code
def yX7_isDrinker : MethodName := ⟨RX7, "isDrinker", "(I)Z"⟩
abbrev cX7_its : ByteArray := prog_9_method_8_code
def yX7_its : MethodName := ⟨RX7, "its", "(II)I"⟩
abbrev cX7_becomes : ByteArray := prog_9_method_9_code
def yX7_becomes : MethodName := ⟨RX7, "becomes", "(III)V"⟩
abbrev cX7_comes : ByteArray := prog_9_method_10_code
def yX7_comes : MethodName := ⟨RX7, "comes", "(IIII)I"⟩
abbrev cX7_drinker : ByteArray := prog_9_method_11_code
def yX7_drinker : MethodName := ⟨RX7, "drinker", "(II)I"⟩
abbrev cX7_of : ByteArray := prog_9_method_12_code
def yX7_of : MethodName := ⟨RX7, "of", "(II)I"⟩
abbrev cX7_change : ByteArray := prog_9_method_13_code
def yX7_change : MethodName := ⟨RX7, "change", "(III)I"⟩
abbrev cX7_room : ByteArray := prog_9_method_14_code
def yX7_room : MethodName := ⟨RX7, "room", "(II)I"⟩
abbrev cX7_empty : ByteArray := prog_9_method_15_code
def yX7_empty : MethodName := ⟨RX7, "empty", "()I"⟩
abbrev cX7_taken : ByteArray := prog_9_method_16_code
def yX7_taken : MethodName := ⟨RX7, "taken", "(I)I"⟩
abbrev cX7_forgive : ByteArray := prog_9_method_17_code
def yX7_forgive : MethodName := ⟨RX7, "forgive", "(I)I"⟩
abbrev cX7_sumOf : ByteArray := prog_9_method_18_code
def yX7_sumOf : MethodName := ⟨RX7, "sumOf", "(I)I"⟩
abbrev cX7_now : ByteArray := prog_9_method_19_code
def yX7_now : MethodName := ⟨RX7, "now", "(I)I"⟩
abbrev cX7_drawn : ByteArray := prog_9_method_20_code
def yX7_drawn : MethodName := ⟨RX7, "drawn", "()I"⟩
abbrev cX7_pays : ByteArray := prog_9_method_21_code
def yX7_pays : MethodName := ⟨RX7, "pays", "(II)V"⟩
abbrev cX7_forgets : ByteArray := prog_9_method_22_code
def yX7_forgets : MethodName := ⟨RX7, "forgets", "(I)V"⟩
abbrev cX7_paysFor : ByteArray := prog_9_method_23_code
def yX7_paysFor : MethodName := ⟨RX7, "paysFor", "(IZ)V"⟩
abbrev cX7_hasCup : ByteArray := prog_9_method_24_code
def yX7_hasCup : MethodName := ⟨RX7, "hasCup", "(I)Z"⟩
abbrev cX7_drinks : ByteArray := prog_9_method_25_code
def yX7_drinks : MethodName := ⟨RX7, "drinks", "(I)V"⟩
abbrev cX7_settles : ByteArray := prog_9_method_26_code
def yX7_settles : MethodName := ⟨RX7, "settles", "()V"⟩
abbrev cX7_goesBy : ByteArray := prog_9_method_27_code
def yX7_goesBy : MethodName := ⟨RX7, "goesBy", "()V"⟩
abbrev cX7_goesOn : ByteArray := prog_9_method_28_code
def yX7_goesOn : MethodName := ⟨RX7, "goesOn", "(I)I"⟩
abbrev cX7_isFar : ByteArray := prog_9_method_29_code
def yX7_isFar : MethodName := ⟨RX7, "isFar", "(I)Z"⟩
abbrev cX7_days : ByteArray := prog_9_method_30_code
def yX7_days : MethodName := ⟨RX7, "days", "(I)I"⟩
abbrev cX7_week : ByteArray := prog_9_method_31_code
def yX7_week : MethodName := ⟨RX7, "week", "(II)I"⟩
abbrev cX7_common : ByteArray := prog_9_method_32_code
def yX7_common : MethodName := ⟨RX7, "common", "(II)I"⟩
abbrev cX7_each : ByteArray := prog_9_method_33_code
def yX7_each : MethodName := ⟨RX7, "each", "(I)I"⟩
abbrev cX7_isSum : ByteArray := prog_9_method_34_code
def yX7_isSum : MethodName := ⟨RX7, "isSum", "(II)Z"⟩
abbrev cX7_ones : ByteArray := prog_9_method_35_code
def yX7_ones : MethodName := ⟨RX7, "ones", "(I)I"⟩
abbrev cX7_findSets : ByteArray := prog_9_method_36_code
def yX7_findSets : MethodName := ⟨RX7, "findSets", "(I)V"⟩
abbrev cX7_many : ByteArray := prog_9_method_37_code
def yX7_many : MethodName := ⟨RX7, "many", "(I)I"⟩
abbrev cX7_who : ByteArray := prog_9_method_38_code
def yX7_who : MethodName := ⟨RX7, "who", "(II)I"⟩
abbrev cX7_fewest : ByteArray := prog_9_method_39_code
def yX7_fewest : MethodName := ⟨RX7, "fewest", "(I)I"⟩
abbrev cX7_begins : ByteArray := prog_9_method_40_code
def yX7_begins : MethodName := ⟨RX7, "begins", "()V"⟩
abbrev cX7_ends : ByteArray := prog_9_method_41_code
def yX7_ends : MethodName := ⟨RX7, "ends", "()V"⟩
abbrev cX7_why : ByteArray := prog_9_method_42_code
def yX7_why : MethodName := ⟨RX7, "why", "(ZI)I"⟩
abbrev cX7_ahead : ByteArray := prog_9_method_43_code
def yX7_ahead : MethodName := ⟨RX7, "ahead", "(II)I"⟩
abbrev cX7_monday : ByteArray := prog_9_method_44_code
def yX7_monday : MethodName := ⟨RX7, "monday", "(I)V"⟩
abbrev cX7_rests : ByteArray := prog_9_method_45_code
def yX7_rests : MethodName := ⟨RX7, "rests", "()I"⟩
abbrev cX7_tips : ByteArray := prog_9_method_46_code
def yX7_tips : MethodName := ⟨RX7, "tips", "(II)I"⟩
abbrev cX7_comesWith : ByteArray := prog_9_method_47_code
def yX7_comesWith : MethodName := ⟨RX7, "comesWith", "(III)I"⟩
abbrev cX7_bestOf : ByteArray := prog_9_method_48_code
def yX7_bestOf : MethodName := ⟨RX7, "bestOf", "(III)I"⟩
abbrev cX7_best : ByteArray := prog_9_method_49_code
def yX7_best : MethodName := ⟨RX7, "best", "(I)I"⟩
abbrev cX7_sign : ByteArray := prog_9_method_50_code
def yX7_sign : MethodName := ⟨RX7, "sign", "(I)I"⟩
abbrev cX7_potFor : ByteArray := prog_9_method_51_code
def yX7_potFor : MethodName := ⟨RX7, "potFor", "(I)I"⟩
abbrev cX7_kindFor : ByteArray := prog_9_method_52_code
def yX7_kindFor : MethodName := ⟨RX7, "kindFor", "(II)I"⟩
abbrev cX7_told : ByteArray := prog_9_method_53_code
def yX7_told : MethodName := ⟨RX7, "told", "(II)I"⟩
abbrev cX7_drinking : ByteArray := prog_9_method_54_code
def yX7_drinking : MethodName := ⟨RX7, "drinking", "()I"⟩
abbrev cX7_uneven : ByteArray := prog_9_method_55_code
def yX7_uneven : MethodName := ⟨RX7, "uneven", "(I)I"⟩
abbrev cX7_strokes : ByteArray := prog_9_method_56_code
def yX7_strokes : MethodName := ⟨RX7, "strokes", "()I"⟩
abbrev cX7_lacks : ByteArray := prog_9_method_57_code
def yX7_lacks : MethodName := ⟨RX7, "lacks", "()I"⟩
abbrev cX7_owes : ByteArray := prog_9_method_58_code
def yX7_owes : MethodName := ⟨RX7, "owes", "()I"⟩
abbrev cX7_odds : ByteArray := prog_9_method_59_code
def yX7_odds : MethodName := ⟨RX7, "odds", "(II)I"⟩
abbrev cX7_seed : ByteArray := prog_9_method_60_code
def yX7_seed : MethodName := ⟨RX7, "seed", "(I)I"⟩
abbrev cX7_feed : ByteArray := prog_9_method_61_code
def yX7_feed : MethodName := ⟨RX7, "feed", "(II)I"⟩
abbrev cX7_wipe : ByteArray := prog_9_method_62_code
def yX7_wipe : MethodName := ⟨RX7, "wipe", "()I"⟩
abbrev cX7_letter : ByteArray := prog_9_method_63_code
def yX7_letter : MethodName := ⟨RX7, "letter", "(I)I"⟩
abbrev cX7_isDigit : ByteArray := prog_9_method_64_code
def yX7_isDigit : MethodName := ⟨RX7, "isDigit", "(I)Z"⟩
abbrev cX7_byteAt : ByteArray := prog_9_method_65_code
def yX7_byteAt : MethodName := ⟨RX7, "byteAt", "(I)I"⟩
abbrev cX7_next : ByteArray := prog_9_method_66_code
def yX7_next : MethodName := ⟨RX7, "next", "()V"⟩
abbrev cX7_wrongHere : ByteArray := prog_9_method_67_code
def yX7_wrongHere : MethodName := ⟨RX7, "wrongHere", "()V"⟩
abbrev cX7_isWord : ByteArray := prog_9_method_69_code
def yX7_isWord : MethodName := ⟨RX7, "isWord", "(J)Z"⟩
abbrev cX7_kindHere : ByteArray := prog_9_method_70_code
def yX7_kindHere : MethodName := ⟨RX7, "kindHere", "()I"⟩
abbrev cX7_number : ByteArray := prog_9_method_71_code
def yX7_number : MethodName := ⟨RX7, "number", "(II)I"⟩
abbrev cX7_drinkerHere : ByteArray := prog_9_method_72_code
def yX7_drinkerHere : MethodName := ⟨RX7, "drinkerHere", "(I)V"⟩
abbrev cX7_signHere : ByteArray := prog_9_method_73_code
def yX7_signHere : MethodName := ⟨RX7, "signHere", "()V"⟩
abbrev cX7_item : ByteArray := prog_9_method_74_code
def yX7_item : MethodName := ⟨RX7, "item", "()V"⟩
abbrev cX7_items : ByteArray := prog_9_method_75_code
def yX7_items : MethodName := ⟨RX7, "items", "()I"⟩
abbrev cX7_text : ByteArray := prog_9_method_76_code
def yX7_text : MethodName := ⟨RX7, "text", "()I"⟩
abbrev cX7_hold : ByteArray := prog_9_method_77_code
def yX7_hold : MethodName := ⟨RX7, "hold", "(II)I"⟩
abbrev cX7_isOf : ByteArray := prog_9_method_78_code
def yX7_isOf : MethodName := ⟨RX7, "isOf", "(II)Z"⟩
abbrev cX7_as : ByteArray := prog_9_method_79_code
def yX7_as : MethodName := ⟨RX7, "as", "(II)I"⟩
abbrev cX7_isSheet : ByteArray := prog_9_method_80_code
def yX7_isSheet : MethodName := ⟨RX7, "isSheet", "(I)Z"⟩
abbrev cX7_sheet : ByteArray := prog_9_method_81_code
def yX7_sheet : MethodName := ⟨RX7, "sheet", "(III)I"⟩
abbrev cX7_write : ByteArray := prog_9_method_82_code
def yX7_write : MethodName := ⟨RX7, "write", "(III)I"⟩
abbrev cX7_copy : ByteArray := prog_9_method_83_code
def yX7_copy : MethodName := ⟨RX7, "copy", "(IIIII)I"⟩
abbrev cX7_whyNot : ByteArray := prog_9_method_84_code
def yX7_whyNot : MethodName := ⟨RX7, "whyNot", "(I)I"⟩
abbrev cX7_load : ByteArray := prog_9_method_85_code
def yX7_load : MethodName := ⟨RX7, "load", "(I)I"⟩
abbrev cX7_judge : ByteArray := prog_9_method_86_code
def yX7_judge : MethodName := ⟨RX7, "judge", "(I)I"⟩
abbrev cX7_image : ByteArray := prog_9_method_87_code
def yX7_image : MethodName := ⟨RX7, "image", "()I"⟩
abbrev cX7_undo : ByteArray := prog_9_method_88_code
def yX7_undo : MethodName := ⟨RX7, "undo", "()I"⟩
abbrev cX7_tear : ByteArray := prog_9_method_89_code
def yX7_tear : MethodName := ⟨RX7, "tear", "()I"⟩
abbrev cX7_held : ByteArray := prog_9_method_90_code
def yX7_held : MethodName := ⟨RX7, "held", "()I"⟩
abbrev cX7_count : ByteArray := prog_9_method_91_code
def yX7_count : MethodName := ⟨RX7, "count", "(I)I"⟩
abbrev cX7_status : ByteArray := prog_9_method_92_code
def yX7_status : MethodName := ⟨RX7, "status", "(I)I"⟩
def RJ6 : String := "java/lang/Integer"
def TJ6 : u_T := fun k => match k with
  | _ => ("", "", "", false)
def tyJ6 : Nat → FieldType := fun k => match k with
  | _ => .int
abbrev wsJ60 : List Cond := u_ws RJ6 TJ6 0
theorem nmJ6 : ∀ a, a < 0 → ∀ b, b < 0 → a ≠ b → (TJ6 a).2.1 ≠ (TJ6 b).2.1 := by decide +kernel
theorem tyJ6_ok : ∀ k, k < 0 → parseFieldDescriptor (TJ6 k).2.2.1 = some (tyJ6 k) := by decide +kernel
abbrev cJ6_bitCount_0f7a4 : ByteArray := prog_10_method_49_code
def yJ6_bitCount_0f7a4 : MethodName := ⟨RJ6, "bitCount", "(I)I"⟩
def RJ9 : String := "java/lang/Math"
def TJ9 : u_T := fun k => match k with
  | _ => ("", "", "", false)
def tyJ9 : Nat → FieldType := fun k => match k with
  | _ => .int
abbrev wsJ90 : List Cond := u_ws RJ9 TJ9 0
theorem nmJ9 : ∀ a, a < 0 → ∀ b, b < 0 → a ≠ b → (TJ9 a).2.1 ≠ (TJ9 b).2.1 := by decide +kernel
theorem tyJ9_ok : ∀ k, k < 0 → parseFieldDescriptor (TJ9 k).2.2.1 = some (tyJ9 k) := by decide +kernel
abbrev cJ9_abs_0f7a4 : ByteArray := prog_11_method_59_code
def yJ9_abs_0f7a4 : MethodName := ⟨RJ9, "abs", "(I)I"⟩
abbrev cJ9_max_7cf53 : ByteArray := prog_11_method_65_code
def yJ9_max_7cf53 : MethodName := ⟨RJ9, "max", "(II)I"⟩
abbrev cJ9_min_7cf53 : ByteArray := prog_11_method_69_code
def yJ9_min_7cf53 : MethodName := ⟨RJ9, "min", "(II)I"⟩
def RJ0 : String := "java/lang/String"
def TJ0 : u_T := fun k => match k with
  | _ => ("", "", "", false)
def tyJ0 : Nat → FieldType := fun k => match k with
  | _ => .int
abbrev wsJ00 : List Cond := u_ws RJ0 TJ0 0
theorem nmJ0 : ∀ a, a < 0 → ∀ b, b < 0 → a ≠ b → (TJ0 a).2.1 ≠ (TJ0 b).2.1 := by decide +kernel
theorem tyJ0_ok : ∀ k, k < 0 → parseFieldDescriptor (TJ0 k).2.2.1 = some (tyJ0 k) := by decide +kernel
abbrev cJ0_length_8abf5 : ByteArray := prog_12_method_54_code
def yJ0_length_8abf5 : MethodName := ⟨RJ0, "length", "()I"⟩
abbrev cJ0_charAt_5068e : ByteArray := prog_12_method_56_code
def yJ0_charAt_5068e : MethodName := ⟨RJ0, "charAt", "(I)C"⟩
abbrev cJ0_coder_7d493 : ByteArray := prog_12_method_152_code
def yJ0_coder_7d493 : MethodName := ⟨RJ0, "coder", "()B"⟩
abbrev cJ0_isLatin1_aae02 : ByteArray := prog_12_method_154_code
def yJ0_isLatin1_aae02 : MethodName := ⟨RJ0, "isLatin1", "()Z"⟩
abbrev cJ0_checkIndex_df160 : ByteArray := prog_12_method_155_code
def yJ0_checkIndex_df160 : MethodName := ⟨RJ0, "checkIndex", "(II)V"⟩
def RJ1 : String := "java/lang/StringLatin1"
def TJ1 : u_T := fun k => match k with
  | _ => ("", "", "", false)
def tyJ1 : Nat → FieldType := fun k => match k with
  | _ => .int
abbrev wsJ10 : List Cond := u_ws RJ1 TJ1 0
theorem nmJ1 : ∀ a, a < 0 → ∀ b, b < 0 → a ≠ b → (TJ1 a).2.1 ≠ (TJ1 b).2.1 := by decide +kernel
theorem tyJ1_ok : ∀ k, k < 0 → parseFieldDescriptor (TJ1 k).2.2.1 = some (tyJ1 k) := by decide +kernel
abbrev cJ1_charAt_3b067 : ByteArray := prog_13_method_2_code
def yJ1_charAt_3b067 : MethodName := ⟨RJ1, "charAt", "([BI)C"⟩
def RJ2 : String := "java/lang/StringUTF16"
def TJ2 : u_T := fun k => match k with
  | _ => ("", "", "", false)
def tyJ2 : Nat → FieldType := fun k => match k with
  | _ => .int
abbrev wsJ20 : List Cond := u_ws RJ2 TJ2 0
theorem nmJ2 : ∀ a, a < 0 → ∀ b, b < 0 → a ≠ b → (TJ2 a).2.1 ≠ (TJ2 b).2.1 := by decide +kernel
theorem tyJ2_ok : ∀ k, k < 0 → parseFieldDescriptor (TJ2 k).2.2.1 = some (tyJ2 k) := by decide +kernel
abbrev cJ2_getChar_3b067 : ByteArray := prog_14_method_5_code
def yJ2_getChar_3b067 : MethodName := ⟨RJ2, "getChar", "([BI)C"⟩
abbrev cJ2_length_9d52b : ByteArray := prog_14_method_6_code
def yJ2_length_9d52b : MethodName := ⟨RJ2, "length", "([B)I"⟩
abbrev cJ2_charAt_3b067 : ByteArray := prog_14_method_83_code
def yJ2_charAt_3b067 : MethodName := ⟨RJ2, "charAt", "([BI)C"⟩
abbrev cJ2_checkIndex_2214a : ByteArray := prog_14_method_91_code
def yJ2_checkIndex_2214a : MethodName := ⟨RJ2, "checkIndex", "(I[B)V"⟩
def RJ10 : String := "java/lang/System"
def TJ10 : u_T := fun k => match k with
  | _ => ("", "", "", false)
def tyJ10 : Nat → FieldType := fun k => match k with
  | _ => .int
theorem nmJ10 : ∀ a, a < 0 → ∀ b, b < 0 → a ≠ b → (TJ10 a).2.1 ≠ (TJ10 b).2.1 := by decide +kernel
theorem tyJ10_ok : ∀ k, k < 0 → parseFieldDescriptor (TJ10 k).2.2.1 = some (tyJ10 k) := by decide +kernel
def RJ3 : String := "jdk/internal/util/Preconditions"
def TJ3 : u_T := fun k => match k with
  | _ => ("", "", "", false)
def tyJ3 : Nat → FieldType := fun k => match k with
  | _ => .int
abbrev wsJ30 : List Cond := u_ws RJ3 TJ3 0
theorem nmJ3 : ∀ a, a < 0 → ∀ b, b < 0 → a ≠ b → (TJ3 a).2.1 ≠ (TJ3 b).2.1 := by decide +kernel
theorem tyJ3_ok : ∀ k, k < 0 → parseFieldDescriptor (TJ3 k).2.2.1 = some (tyJ3 k) := by decide +kernel
abbrev cJ3_checkIndex_8e157 : ByteArray := prog_16_method_11_code
def yJ3_checkIndex_8e157 : MethodName := ⟨RJ3, "checkIndex", "(IILjava/util/function/BiFunction;)I"⟩
def RL : String := "TrustTinLaw"
abbrev cL_law : ByteArray := code
def yL_law : MethodName := ⟨RL, "law", "([I)Z"⟩
abbrev vwCl : List vw_C := [(RX0, TX0, 3), (RX1, TX1, 7), (RX2, TX2, 14), (RX3, TX3, 3), (RX4, TX4, 2), (RX5, TX5, 6), (RX6, TX6, 8), (RX7, TX7, 22)]
def tt_T : List Cond := lw_tbl.filter goodWord
theorem tt_m {w : Cond} (i : Nat) (h : lw_tbl[i]? = some w) (hg : goodWord w = true) : w ∈ tt_T := List.mem_filter.mpr ⟨List.mem_of_getElem? h, hg⟩
theorem tt_good : ∀ w ∈ tt_T, w ∈ lw_tbl ∧ ((w.onTables && w.keeps) = true ∨ ∃ ty, w = .arrayClass ty) := fun w h => ⟨(List.mem_filter.mp h).1, good_of_word (List.mem_filter.mp h).2⟩
end
section
theorem dX0_init_0 : decode cX0_init 0 = .ok (.aload_n 0, 1) := by decide +kernel
theorem dX0_init_1 : decode cX0_init 1 = .ok (.invokespecial 3, 3) := by decide +kernel
theorem dX0_init_4 : decode cX0_init 4 = .ok (.aload_n 0, 1) := by decide +kernel
theorem dX0_init_5 : decode cX0_init 5 = .ok (.bipush 20, 2) := by decide +kernel
theorem dX0_init_7 : decode cX0_init 7 = .ok (.newarray .int, 2) := by decide +kernel
theorem dX0_init_9 : decode cX0_init 9 = .ok (.putfield 9, 3) := by decide +kernel
theorem dX0_init_12 : decode cX0_init 12 = .ok (.aload_n 0, 1) := by decide +kernel
theorem dX0_init_13 : decode cX0_init 13 = .ok (.bipush 20, 2) := by decide +kernel
theorem dX0_init_15 : decode cX0_init 15 = .ok (.newarray .int, 2) := by decide +kernel
theorem dX0_init_17 : decode cX0_init 17 = .ok (.putfield 15, 3) := by decide +kernel
theorem dX0_init_20 : decode cX0_init 20 = .ok (.aload_n 0, 1) := by decide +kernel
theorem dX0_init_21 : decode cX0_init 21 = .ok (.iconst 0, 1) := by decide +kernel
theorem dX0_init_22 : decode cX0_init 22 = .ok (.putfield 18, 3) := by decide +kernel
theorem dX0_init_25 : decode cX0_init 25 = .ok (.return_, 1) := by decide +kernel
theorem dX0_put_0 : decode cX0_put 0 = .ok (.aload_n 0, 1) := by decide +kernel
theorem dX0_put_1 : decode cX0_put 1 = .ok (.getfield 9, 3) := by decide +kernel
theorem dX0_put_4 : decode cX0_put 4 = .ok (.iconst 0, 1) := by decide +kernel
theorem dX0_put_5 : decode cX0_put 5 = .ok (.aload_n 0, 1) := by decide +kernel
theorem dX0_put_6 : decode cX0_put 6 = .ok (.getfield 9, 3) := by decide +kernel
theorem dX0_put_9 : decode cX0_put 9 = .ok (.iconst 1, 1) := by decide +kernel
theorem dX0_put_10 : decode cX0_put 10 = .ok (.bipush 19, 2) := by decide +kernel
theorem dX0_put_12 : decode cX0_put 12 = .ok (.invokestatic 22, 3) := by decide +kernel
theorem dX0_put_15 : decode cX0_put 15 = .ok (.aload_n 0, 1) := by decide +kernel
theorem dX0_put_16 : decode cX0_put 16 = .ok (.getfield 15, 3) := by decide +kernel
theorem dX0_put_19 : decode cX0_put 19 = .ok (.iconst 0, 1) := by decide +kernel
theorem dX0_put_20 : decode cX0_put 20 = .ok (.aload_n 0, 1) := by decide +kernel
theorem dX0_put_21 : decode cX0_put 21 = .ok (.getfield 15, 3) := by decide +kernel
theorem dX0_put_24 : decode cX0_put 24 = .ok (.iconst 1, 1) := by decide +kernel
theorem dX0_put_25 : decode cX0_put 25 = .ok (.bipush 19, 2) := by decide +kernel
theorem dX0_put_27 : decode cX0_put 27 = .ok (.invokestatic 22, 3) := by decide +kernel
theorem dX0_put_30 : decode cX0_put 30 = .ok (.aload_n 0, 1) := by decide +kernel
theorem dX0_put_31 : decode cX0_put 31 = .ok (.getfield 9, 3) := by decide +kernel
theorem dX0_put_34 : decode cX0_put 34 = .ok (.iconst 0, 1) := by decide +kernel
theorem dX0_put_35 : decode cX0_put 35 = .ok (.iload_n 1, 1) := by decide +kernel
theorem dX0_put_36 : decode cX0_put 36 = .ok (.iastore, 1) := by decide +kernel
theorem dX0_put_37 : decode cX0_put 37 = .ok (.aload_n 0, 1) := by decide +kernel
theorem dX0_put_38 : decode cX0_put 38 = .ok (.getfield 15, 3) := by decide +kernel
theorem dX0_put_41 : decode cX0_put 41 = .ok (.iconst 0, 1) := by decide +kernel
theorem dX0_put_42 : decode cX0_put 42 = .ok (.iload_n 2, 1) := by decide +kernel
theorem dX0_put_43 : decode cX0_put 43 = .ok (.iastore, 1) := by decide +kernel
theorem dX0_put_44 : decode cX0_put 44 = .ok (.aload_n 0, 1) := by decide +kernel
theorem dX0_put_45 : decode cX0_put 45 = .ok (.aload_n 0, 1) := by decide +kernel
theorem dX0_put_46 : decode cX0_put 46 = .ok (.getfield 18, 3) := by decide +kernel
theorem dX0_put_49 : decode cX0_put 49 = .ok (.iconst 1, 1) := by decide +kernel
theorem dX0_put_50 : decode cX0_put 50 = .ok (.iadd, 1) := by decide +kernel
theorem dX0_put_51 : decode cX0_put 51 = .ok (.bipush 20, 2) := by decide +kernel
theorem dX0_put_53 : decode cX0_put 53 = .ok (.invokestatic 28, 3) := by decide +kernel
theorem dX0_put_56 : decode cX0_put 56 = .ok (.putfield 18, 3) := by decide +kernel
theorem dX0_put_59 : decode cX0_put 59 = .ok (.return_, 1) := by decide +kernel
theorem dX0_take_0 : decode cX0_take 0 = .ok (.aload_n 1, 1) := by decide +kernel
theorem dX0_take_1 : decode cX0_take 1 = .ok (.getfield 9, 3) := by decide +kernel
theorem dX0_take_4 : decode cX0_take 4 = .ok (.iconst 0, 1) := by decide +kernel
theorem dX0_take_5 : decode cX0_take 5 = .ok (.aload_n 0, 1) := by decide +kernel
theorem dX0_take_6 : decode cX0_take 6 = .ok (.getfield 9, 3) := by decide +kernel
theorem dX0_take_9 : decode cX0_take 9 = .ok (.iconst 0, 1) := by decide +kernel
theorem dX0_take_10 : decode cX0_take 10 = .ok (.bipush 20, 2) := by decide +kernel
theorem dX0_take_12 : decode cX0_take 12 = .ok (.invokestatic 22, 3) := by decide +kernel
theorem dX0_take_15 : decode cX0_take 15 = .ok (.aload_n 1, 1) := by decide +kernel
theorem dX0_take_16 : decode cX0_take 16 = .ok (.getfield 15, 3) := by decide +kernel
theorem dX0_take_19 : decode cX0_take 19 = .ok (.iconst 0, 1) := by decide +kernel
theorem dX0_take_20 : decode cX0_take 20 = .ok (.aload_n 0, 1) := by decide +kernel
theorem dX0_take_21 : decode cX0_take 21 = .ok (.getfield 15, 3) := by decide +kernel
theorem dX0_take_24 : decode cX0_take 24 = .ok (.iconst 0, 1) := by decide +kernel
theorem dX0_take_25 : decode cX0_take 25 = .ok (.bipush 20, 2) := by decide +kernel
theorem dX0_take_27 : decode cX0_take 27 = .ok (.invokestatic 22, 3) := by decide +kernel
theorem dX0_take_30 : decode cX0_take 30 = .ok (.aload_n 0, 1) := by decide +kernel
theorem dX0_take_31 : decode cX0_take 31 = .ok (.aload_n 1, 1) := by decide +kernel
theorem dX0_take_32 : decode cX0_take 32 = .ok (.getfield 18, 3) := by decide +kernel
theorem dX0_take_35 : decode cX0_take 35 = .ok (.putfield 18, 3) := by decide +kernel
theorem dX0_take_38 : decode cX0_take 38 = .ok (.return_, 1) := by decide +kernel
theorem dX0_allCups_0 : decode cX0_allCups 0 = .ok (.aload_n 0, 1) := by decide +kernel
theorem dX0_allCups_1 : decode cX0_allCups 1 = .ok (.getfield 9, 3) := by decide +kernel
theorem dX0_allCups_4 : decode cX0_allCups 4 = .ok (.aload_n 0, 1) := by decide +kernel
theorem dX0_allCups_5 : decode cX0_allCups 5 = .ok (.getfield 18, 3) := by decide +kernel
theorem dX0_allCups_8 : decode cX0_allCups 8 = .ok (.invokestatic 34, 3) := by decide +kernel
theorem dX0_allCups_11 : decode cX0_allCups 11 = .ok (.ireturn, 1) := by decide +kernel
theorem dX0_allCoins_0 : decode cX0_allCoins 0 = .ok (.aload_n 0, 1) := by decide +kernel
theorem dX0_allCoins_1 : decode cX0_allCoins 1 = .ok (.getfield 15, 3) := by decide +kernel
theorem dX0_allCoins_4 : decode cX0_allCoins 4 = .ok (.aload_n 0, 1) := by decide +kernel
theorem dX0_allCoins_5 : decode cX0_allCoins 5 = .ok (.getfield 18, 3) := by decide +kernel
theorem dX0_allCoins_8 : decode cX0_allCoins 8 = .ok (.invokestatic 34, 3) := by decide +kernel
theorem dX0_allCoins_11 : decode cX0_allCoins 11 = .ok (.ireturn, 1) := by decide +kernel
theorem dX0_sumOfFirst_0 : decode cX0_sumOfFirst 0 = .ok (.iconst 0, 1) := by decide +kernel
theorem dX0_sumOfFirst_1 : decode cX0_sumOfFirst 1 = .ok (.istore_n 2, 1) := by decide +kernel
theorem dX0_sumOfFirst_2 : decode cX0_sumOfFirst 2 = .ok (.iconst 0, 1) := by decide +kernel
theorem dX0_sumOfFirst_3 : decode cX0_sumOfFirst 3 = .ok (.istore_n 3, 1) := by decide +kernel
theorem dX0_sumOfFirst_4 : decode cX0_sumOfFirst 4 = .ok (.iload_n 3, 1) := by decide +kernel
theorem dX0_sumOfFirst_5 : decode cX0_sumOfFirst 5 = .ok (.iload_n 1, 1) := by decide +kernel
theorem dX0_sumOfFirst_6 : decode cX0_sumOfFirst 6 = .ok (.if_icmp .ge 21, 3) := by decide +kernel
theorem dX0_sumOfFirst_9 : decode cX0_sumOfFirst 9 = .ok (.iload_n 3, 1) := by decide +kernel
theorem dX0_sumOfFirst_10 : decode cX0_sumOfFirst 10 = .ok (.aload_n 0, 1) := by decide +kernel
theorem dX0_sumOfFirst_11 : decode cX0_sumOfFirst 11 = .ok (.arraylength, 1) := by decide +kernel
theorem dX0_sumOfFirst_12 : decode cX0_sumOfFirst 12 = .ok (.if_icmp .ge 15, 3) := by decide +kernel
theorem dX0_sumOfFirst_15 : decode cX0_sumOfFirst 15 = .ok (.iload_n 2, 1) := by decide +kernel
theorem dX0_sumOfFirst_16 : decode cX0_sumOfFirst 16 = .ok (.aload_n 0, 1) := by decide +kernel
theorem dX0_sumOfFirst_17 : decode cX0_sumOfFirst 17 = .ok (.iload_n 3, 1) := by decide +kernel
theorem dX0_sumOfFirst_18 : decode cX0_sumOfFirst 18 = .ok (.iaload, 1) := by decide +kernel
theorem dX0_sumOfFirst_19 : decode cX0_sumOfFirst 19 = .ok (.iadd, 1) := by decide +kernel
theorem dX0_sumOfFirst_20 : decode cX0_sumOfFirst 20 = .ok (.istore_n 2, 1) := by decide +kernel
theorem dX0_sumOfFirst_21 : decode cX0_sumOfFirst 21 = .ok (.iinc 3 1, 3) := by decide +kernel
theorem dX0_sumOfFirst_24 : decode cX0_sumOfFirst 24 = .ok (.goto (-20), 3) := by decide +kernel
theorem dX0_sumOfFirst_27 : decode cX0_sumOfFirst 27 = .ok (.iload_n 2, 1) := by decide +kernel
theorem dX0_sumOfFirst_28 : decode cX0_sumOfFirst 28 = .ok (.ireturn, 1) := by decide +kernel
theorem dX1_init_0 : decode cX1_init 0 = .ok (.aload_n 0, 1) := by decide +kernel
theorem dX1_init_1 : decode cX1_init 1 = .ok (.invokespecial 3, 3) := by decide +kernel
theorem dX1_init_4 : decode cX1_init 4 = .ok (.return_, 1) := by decide +kernel
theorem dX1_begin_0 : decode cX1_begin 0 = .ok (.aload_n 0, 1) := by decide +kernel
theorem dX1_begin_1 : decode cX1_begin 1 = .ok (.iload_n 1, 1) := by decide +kernel
theorem dX1_begin_2 : decode cX1_begin 2 = .ok (.putfield 9, 3) := by decide +kernel
theorem dX1_begin_5 : decode cX1_begin 5 = .ok (.aload_n 0, 1) := by decide +kernel
theorem dX1_begin_6 : decode cX1_begin 6 = .ok (.iload_n 2, 1) := by decide +kernel
theorem dX1_begin_7 : decode cX1_begin 7 = .ok (.putfield 15, 3) := by decide +kernel
theorem dX1_begin_10 : decode cX1_begin 10 = .ok (.aload_n 0, 1) := by decide +kernel
theorem dX1_begin_11 : decode cX1_begin 11 = .ok (.sipush 200, 3) := by decide +kernel
theorem dX1_begin_14 : decode cX1_begin 14 = .ok (.putfield 18, 3) := by decide +kernel
theorem dX1_begin_17 : decode cX1_begin 17 = .ok (.aload_n 0, 1) := by decide +kernel
theorem dX1_begin_18 : decode cX1_begin 18 = .ok (.bipush 20, 2) := by decide +kernel
theorem dX1_begin_20 : decode cX1_begin 20 = .ok (.putfield 21, 3) := by decide +kernel
theorem dX1_begin_23 : decode cX1_begin 23 = .ok (.aload_n 0, 1) := by decide +kernel
theorem dX1_begin_24 : decode cX1_begin 24 = .ok (.iconst 0, 1) := by decide +kernel
theorem dX1_begin_25 : decode cX1_begin 25 = .ok (.putfield 24, 3) := by decide +kernel
theorem dX1_begin_28 : decode cX1_begin 28 = .ok (.aload_n 0, 1) := by decide +kernel
theorem dX1_begin_29 : decode cX1_begin 29 = .ok (.iconst 0, 1) := by decide +kernel
theorem dX1_begin_30 : decode cX1_begin 30 = .ok (.putfield 27, 3) := by decide +kernel
theorem dX1_begin_33 : decode cX1_begin 33 = .ok (.aload_n 0, 1) := by decide +kernel
theorem dX1_begin_34 : decode cX1_begin 34 = .ok (.iconst 0, 1) := by decide +kernel
theorem dX1_begin_35 : decode cX1_begin 35 = .ok (.putfield 30, 3) := by decide +kernel
theorem dX1_begin_38 : decode cX1_begin 38 = .ok (.return_, 1) := by decide +kernel
theorem dX1_take_0 : decode cX1_take 0 = .ok (.aload_n 0, 1) := by decide +kernel
theorem dX1_take_1 : decode cX1_take 1 = .ok (.aload_n 1, 1) := by decide +kernel
theorem dX1_take_2 : decode cX1_take 2 = .ok (.getfield 9, 3) := by decide +kernel
theorem dX1_take_5 : decode cX1_take 5 = .ok (.putfield 9, 3) := by decide +kernel
theorem dX1_take_8 : decode cX1_take 8 = .ok (.aload_n 0, 1) := by decide +kernel
theorem dX1_take_9 : decode cX1_take 9 = .ok (.aload_n 1, 1) := by decide +kernel
theorem dX1_take_10 : decode cX1_take 10 = .ok (.getfield 15, 3) := by decide +kernel
theorem dX1_take_13 : decode cX1_take 13 = .ok (.putfield 15, 3) := by decide +kernel
theorem dX1_take_16 : decode cX1_take 16 = .ok (.aload_n 0, 1) := by decide +kernel
theorem dX1_take_17 : decode cX1_take 17 = .ok (.aload_n 1, 1) := by decide +kernel
theorem dX1_take_18 : decode cX1_take 18 = .ok (.getfield 18, 3) := by decide +kernel
theorem dX1_take_21 : decode cX1_take 21 = .ok (.putfield 18, 3) := by decide +kernel
theorem dX1_take_24 : decode cX1_take 24 = .ok (.aload_n 0, 1) := by decide +kernel
theorem dX1_take_25 : decode cX1_take 25 = .ok (.aload_n 1, 1) := by decide +kernel
theorem dX1_take_26 : decode cX1_take 26 = .ok (.getfield 21, 3) := by decide +kernel
theorem dX1_take_29 : decode cX1_take 29 = .ok (.putfield 21, 3) := by decide +kernel
theorem dX1_take_32 : decode cX1_take 32 = .ok (.aload_n 0, 1) := by decide +kernel
theorem dX1_take_33 : decode cX1_take 33 = .ok (.aload_n 1, 1) := by decide +kernel
theorem dX1_take_34 : decode cX1_take 34 = .ok (.getfield 24, 3) := by decide +kernel
theorem dX1_take_37 : decode cX1_take 37 = .ok (.putfield 24, 3) := by decide +kernel
theorem dX1_take_40 : decode cX1_take 40 = .ok (.aload_n 0, 1) := by decide +kernel
theorem dX1_take_41 : decode cX1_take 41 = .ok (.aload_n 1, 1) := by decide +kernel
theorem dX1_take_42 : decode cX1_take 42 = .ok (.getfield 27, 3) := by decide +kernel
theorem dX1_take_45 : decode cX1_take 45 = .ok (.putfield 27, 3) := by decide +kernel
theorem dX1_take_48 : decode cX1_take 48 = .ok (.aload_n 0, 1) := by decide +kernel
theorem dX1_take_49 : decode cX1_take 49 = .ok (.aload_n 1, 1) := by decide +kernel
theorem dX1_take_50 : decode cX1_take 50 = .ok (.getfield 30, 3) := by decide +kernel
theorem dX1_take_53 : decode cX1_take 53 = .ok (.putfield 30, 3) := by decide +kernel
theorem dX1_take_56 : decode cX1_take 56 = .ok (.return_, 1) := by decide +kernel
theorem dX1_get_0 : decode cX1_get 0 = .ok (.iload_n 1, 1) := by decide +kernel
theorem dX1_get_1 : decode cX1_get 1 = .ok (.tableswitch 69 0 5 #[39, 44, 49, 54, 59, 64], 39) := by decide +kernel
theorem dX1_get_40 : decode cX1_get 40 = .ok (.aload_n 0, 1) := by decide +kernel
theorem dX1_get_41 : decode cX1_get 41 = .ok (.getfield 9, 3) := by decide +kernel
theorem dX1_get_44 : decode cX1_get 44 = .ok (.ireturn, 1) := by decide +kernel
theorem dX1_get_45 : decode cX1_get 45 = .ok (.aload_n 0, 1) := by decide +kernel
theorem dX1_get_46 : decode cX1_get 46 = .ok (.getfield 15, 3) := by decide +kernel
theorem dX1_get_49 : decode cX1_get 49 = .ok (.ireturn, 1) := by decide +kernel
theorem dX1_get_50 : decode cX1_get 50 = .ok (.aload_n 0, 1) := by decide +kernel
theorem dX1_get_51 : decode cX1_get 51 = .ok (.getfield 18, 3) := by decide +kernel
theorem dX1_get_54 : decode cX1_get 54 = .ok (.ireturn, 1) := by decide +kernel
theorem dX1_get_55 : decode cX1_get 55 = .ok (.aload_n 0, 1) := by decide +kernel
theorem dX1_get_56 : decode cX1_get 56 = .ok (.getfield 21, 3) := by decide +kernel
theorem dX1_get_59 : decode cX1_get 59 = .ok (.ireturn, 1) := by decide +kernel
theorem dX1_get_60 : decode cX1_get 60 = .ok (.aload_n 0, 1) := by decide +kernel
theorem dX1_get_61 : decode cX1_get 61 = .ok (.getfield 24, 3) := by decide +kernel
theorem dX1_get_64 : decode cX1_get 64 = .ok (.ireturn, 1) := by decide +kernel
theorem dX1_get_65 : decode cX1_get 65 = .ok (.aload_n 0, 1) := by decide +kernel
theorem dX1_get_66 : decode cX1_get 66 = .ok (.getfield 27, 3) := by decide +kernel
theorem dX1_get_69 : decode cX1_get 69 = .ok (.ireturn, 1) := by decide +kernel
theorem dX1_get_70 : decode cX1_get 70 = .ok (.aload_n 0, 1) := by decide +kernel
theorem dX1_get_71 : decode cX1_get 71 = .ok (.getfield 30, 3) := by decide +kernel
theorem dX1_get_74 : decode cX1_get 74 = .ok (.ireturn, 1) := by decide +kernel
theorem dX1_set_0 : decode cX1_set 0 = .ok (.iload_n 1, 1) := by decide +kernel
theorem dX1_set_1 : decode cX1_set 1 = .ok (.tableswitch 51 0 2 #[27, 35, 43], 27) := by decide +kernel
theorem dX1_set_28 : decode cX1_set 28 = .ok (.aload_n 0, 1) := by decide +kernel
theorem dX1_set_29 : decode cX1_set 29 = .ok (.iload_n 2, 1) := by decide +kernel
theorem dX1_set_30 : decode cX1_set 30 = .ok (.putfield 9, 3) := by decide +kernel
theorem dX1_set_33 : decode cX1_set 33 = .ok (.goto 24, 3) := by decide +kernel
theorem dX1_set_36 : decode cX1_set 36 = .ok (.aload_n 0, 1) := by decide +kernel
theorem dX1_set_37 : decode cX1_set 37 = .ok (.iload_n 2, 1) := by decide +kernel
theorem dX1_set_38 : decode cX1_set 38 = .ok (.putfield 15, 3) := by decide +kernel
theorem dX1_set_41 : decode cX1_set 41 = .ok (.goto 16, 3) := by decide +kernel
theorem dX1_set_44 : decode cX1_set 44 = .ok (.aload_n 0, 1) := by decide +kernel
theorem dX1_set_45 : decode cX1_set 45 = .ok (.iload_n 2, 1) := by decide +kernel
theorem dX1_set_46 : decode cX1_set 46 = .ok (.putfield 18, 3) := by decide +kernel
theorem dX1_set_49 : decode cX1_set 49 = .ok (.goto 8, 3) := by decide +kernel
theorem dX1_set_52 : decode cX1_set 52 = .ok (.aload_n 0, 1) := by decide +kernel
theorem dX1_set_53 : decode cX1_set 53 = .ok (.iload_n 2, 1) := by decide +kernel
theorem dX1_set_54 : decode cX1_set 54 = .ok (.putfield 21, 3) := by decide +kernel
theorem dX1_set_57 : decode cX1_set 57 = .ok (.return_, 1) := by decide +kernel
theorem dX2_init_0 : decode cX2_init 0 = .ok (.aload_n 0, 1) := by decide +kernel
theorem dX2_init_1 : decode cX2_init 1 = .ok (.invokespecial 3, 3) := by decide +kernel
theorem dX2_init_4 : decode cX2_init 4 = .ok (.aload_n 0, 1) := by decide +kernel
theorem dX2_init_5 : decode cX2_init 5 = .ok (.bipush 10, 2) := by decide +kernel
theorem dX2_init_7 : decode cX2_init 7 = .ok (.anewarray 9, 3) := by decide +kernel
theorem dX2_init_10 : decode cX2_init 10 = .ok (.putfield 11, 3) := by decide +kernel
theorem dX2_init_13 : decode cX2_init 13 = .ok (.aload_n 0, 1) := by decide +kernel
theorem dX2_init_14 : decode cX2_init 14 = .ok (.iconst 0, 1) := by decide +kernel
theorem dX2_init_15 : decode cX2_init 15 = .ok (.putfield 17, 3) := by decide +kernel
theorem dX2_init_18 : decode cX2_init 18 = .ok (.aload_n 0, 1) := by decide +kernel
theorem dX2_init_19 : decode cX2_init 19 = .ok (.iconst 5, 1) := by decide +kernel
theorem dX2_init_20 : decode cX2_init 20 = .ok (.putfield 21, 3) := by decide +kernel
theorem dX2_init_23 : decode cX2_init 23 = .ok (.aload_n 0, 1) := by decide +kernel
theorem dX2_init_24 : decode cX2_init 24 = .ok (.bipush 12, 2) := by decide +kernel
theorem dX2_init_26 : decode cX2_init 26 = .ok (.putfield 24, 3) := by decide +kernel
theorem dX2_init_29 : decode cX2_init 29 = .ok (.aload_n 0, 1) := by decide +kernel
theorem dX2_init_30 : decode cX2_init 30 = .ok (.bipush 12, 2) := by decide +kernel
theorem dX2_init_32 : decode cX2_init 32 = .ok (.putfield 27, 3) := by decide +kernel
theorem dX2_init_35 : decode cX2_init 35 = .ok (.aload_n 0, 1) := by decide +kernel
theorem dX2_init_36 : decode cX2_init 36 = .ok (.iconst 0, 1) := by decide +kernel
theorem dX2_init_37 : decode cX2_init 37 = .ok (.putfield 30, 3) := by decide +kernel
theorem dX2_init_40 : decode cX2_init 40 = .ok (.aload_n 0, 1) := by decide +kernel
theorem dX2_init_41 : decode cX2_init 41 = .ok (.iconst 0, 1) := by decide +kernel
theorem dX2_init_42 : decode cX2_init 42 = .ok (.putfield 33, 3) := by decide +kernel
theorem dX2_init_45 : decode cX2_init 45 = .ok (.aload_n 0, 1) := by decide +kernel
theorem dX2_init_46 : decode cX2_init 46 = .ok (.bipush 100, 2) := by decide +kernel
theorem dX2_init_48 : decode cX2_init 48 = .ok (.putfield 36, 3) := by decide +kernel
theorem dX2_init_51 : decode cX2_init 51 = .ok (.aload_n 0, 1) := by decide +kernel
theorem dX2_init_52 : decode cX2_init 52 = .ok (.iconst 0, 1) := by decide +kernel
theorem dX2_init_53 : decode cX2_init 53 = .ok (.putfield 39, 3) := by decide +kernel
theorem dX2_init_56 : decode cX2_init 56 = .ok (.aload_n 0, 1) := by decide +kernel
theorem dX2_init_57 : decode cX2_init 57 = .ok (.iconst 0, 1) := by decide +kernel
theorem dX2_init_58 : decode cX2_init 58 = .ok (.putfield 42, 3) := by decide +kernel
theorem dX2_init_61 : decode cX2_init 61 = .ok (.aload_n 0, 1) := by decide +kernel
theorem dX2_init_62 : decode cX2_init 62 = .ok (.iconst 0, 1) := by decide +kernel
theorem dX2_init_63 : decode cX2_init 63 = .ok (.putfield 45, 3) := by decide +kernel
theorem dX2_init_66 : decode cX2_init 66 = .ok (.aload_n 0, 1) := by decide +kernel
theorem dX2_init_67 : decode cX2_init 67 = .ok (.iconst 1, 1) := by decide +kernel
theorem dX2_init_68 : decode cX2_init 68 = .ok (.putfield 48, 3) := by decide +kernel
theorem dX2_init_71 : decode cX2_init 71 = .ok (.aload_n 0, 1) := by decide +kernel
theorem dX2_init_72 : decode cX2_init 72 = .ok (.new 51, 3) := by decide +kernel
theorem dX2_init_75 : decode cX2_init 75 = .ok (.dup, 1) := by decide +kernel
theorem dX2_init_76 : decode cX2_init 76 = .ok (.invokespecial 53, 3) := by decide +kernel
theorem dX2_init_79 : decode cX2_init 79 = .ok (.putfield 54, 3) := by decide +kernel
theorem dX2_init_82 : decode cX2_init 82 = .ok (.aload_n 0, 1) := by decide +kernel
theorem dX2_init_83 : decode cX2_init 83 = .ok (.bipush 10, 2) := by decide +kernel
theorem dX2_init_85 : decode cX2_init 85 = .ok (.newarray .int, 2) := by decide +kernel
theorem dX2_init_87 : decode cX2_init 87 = .ok (.putfield 58, 3) := by decide +kernel
theorem dX2_init_90 : decode cX2_init 90 = .ok (.iconst 0, 1) := by decide +kernel
theorem dX2_init_91 : decode cX2_init 91 = .ok (.istore_n 1, 1) := by decide +kernel
theorem dX2_init_92 : decode cX2_init 92 = .ok (.iload_n 1, 1) := by decide +kernel
theorem dX2_init_93 : decode cX2_init 93 = .ok (.bipush 10, 2) := by decide +kernel
theorem dX2_init_95 : decode cX2_init 95 = .ok (.if_icmp .ge 22, 3) := by decide +kernel
theorem dX2_init_98 : decode cX2_init 98 = .ok (.aload_n 0, 1) := by decide +kernel
theorem dX2_init_99 : decode cX2_init 99 = .ok (.getfield 11, 3) := by decide +kernel
theorem dX2_init_102 : decode cX2_init 102 = .ok (.iload_n 1, 1) := by decide +kernel
theorem dX2_init_103 : decode cX2_init 103 = .ok (.new 9, 3) := by decide +kernel
theorem dX2_init_106 : decode cX2_init 106 = .ok (.dup, 1) := by decide +kernel
theorem dX2_init_107 : decode cX2_init 107 = .ok (.invokespecial 62, 3) := by decide +kernel
theorem dX2_init_110 : decode cX2_init 110 = .ok (.aastore, 1) := by decide +kernel
theorem dX2_init_111 : decode cX2_init 111 = .ok (.iinc 1 1, 3) := by decide +kernel
theorem dX2_init_114 : decode cX2_init 114 = .ok (.goto (-22), 3) := by decide +kernel
theorem dX2_init_117 : decode cX2_init 117 = .ok (.iconst 0, 1) := by decide +kernel
theorem dX2_init_118 : decode cX2_init 118 = .ok (.istore_n 1, 1) := by decide +kernel
theorem dX2_init_119 : decode cX2_init 119 = .ok (.iload_n 1, 1) := by decide +kernel
theorem dX2_init_120 : decode cX2_init 120 = .ok (.bipush 10, 2) := by decide +kernel
theorem dX2_init_122 : decode cX2_init 122 = .ok (.if_icmp .ge 16, 3) := by decide +kernel
theorem dX2_init_125 : decode cX2_init 125 = .ok (.aload_n 0, 1) := by decide +kernel
theorem dX2_init_126 : decode cX2_init 126 = .ok (.getfield 58, 3) := by decide +kernel
theorem dX2_init_129 : decode cX2_init 129 = .ok (.iload_n 1, 1) := by decide +kernel
theorem dX2_init_130 : decode cX2_init 130 = .ok (.iconst (-1), 1) := by decide +kernel
theorem dX2_init_131 : decode cX2_init 131 = .ok (.iastore, 1) := by decide +kernel
theorem dX2_init_132 : decode cX2_init 132 = .ok (.iinc 1 1, 3) := by decide +kernel
theorem dX2_init_135 : decode cX2_init 135 = .ok (.goto (-16), 3) := by decide +kernel
theorem dX2_init_138 : decode cX2_init 138 = .ok (.return_, 1) := by decide +kernel
theorem dX2_takeRoom_0 : decode cX2_takeRoom 0 = .ok (.iconst 0, 1) := by decide +kernel
theorem dX2_takeRoom_1 : decode cX2_takeRoom 1 = .ok (.istore_n 2, 1) := by decide +kernel
theorem dX2_takeRoom_2 : decode cX2_takeRoom 2 = .ok (.iload_n 2, 1) := by decide +kernel
theorem dX2_takeRoom_3 : decode cX2_takeRoom 3 = .ok (.aload_n 1, 1) := by decide +kernel
theorem dX2_takeRoom_4 : decode cX2_takeRoom 4 = .ok (.getfield 17, 3) := by decide +kernel
theorem dX2_takeRoom_7 : decode cX2_takeRoom 7 = .ok (.if_icmp .ge 24, 3) := by decide +kernel
theorem dX2_takeRoom_10 : decode cX2_takeRoom 10 = .ok (.aload_n 0, 1) := by decide +kernel
theorem dX2_takeRoom_11 : decode cX2_takeRoom 11 = .ok (.getfield 11, 3) := by decide +kernel
theorem dX2_takeRoom_14 : decode cX2_takeRoom 14 = .ok (.iload_n 2, 1) := by decide +kernel
theorem dX2_takeRoom_15 : decode cX2_takeRoom 15 = .ok (.aaload, 1) := by decide +kernel
theorem dX2_takeRoom_16 : decode cX2_takeRoom 16 = .ok (.aload_n 1, 1) := by decide +kernel
theorem dX2_takeRoom_17 : decode cX2_takeRoom 17 = .ok (.getfield 11, 3) := by decide +kernel
theorem dX2_takeRoom_20 : decode cX2_takeRoom 20 = .ok (.iload_n 2, 1) := by decide +kernel
theorem dX2_takeRoom_21 : decode cX2_takeRoom 21 = .ok (.aaload, 1) := by decide +kernel
theorem dX2_takeRoom_22 : decode cX2_takeRoom 22 = .ok (.invokevirtual 63, 3) := by decide +kernel
theorem dX2_takeRoom_25 : decode cX2_takeRoom 25 = .ok (.iinc 2 1, 3) := by decide +kernel
theorem dX2_takeRoom_28 : decode cX2_takeRoom 28 = .ok (.goto (-26), 3) := by decide +kernel
theorem dX2_takeRoom_31 : decode cX2_takeRoom 31 = .ok (.aload_n 0, 1) := by decide +kernel
theorem dX2_takeRoom_32 : decode cX2_takeRoom 32 = .ok (.aload_n 1, 1) := by decide +kernel
theorem dX2_takeRoom_33 : decode cX2_takeRoom 33 = .ok (.getfield 17, 3) := by decide +kernel
theorem dX2_takeRoom_36 : decode cX2_takeRoom 36 = .ok (.putfield 17, 3) := by decide +kernel
theorem dX2_takeRoom_39 : decode cX2_takeRoom 39 = .ok (.aload_n 0, 1) := by decide +kernel
theorem dX2_takeRoom_40 : decode cX2_takeRoom 40 = .ok (.aload_n 1, 1) := by decide +kernel
theorem dX2_takeRoom_41 : decode cX2_takeRoom 41 = .ok (.getfield 21, 3) := by decide +kernel
theorem dX2_takeRoom_44 : decode cX2_takeRoom 44 = .ok (.putfield 21, 3) := by decide +kernel
theorem dX2_takeRoom_47 : decode cX2_takeRoom 47 = .ok (.aload_n 0, 1) := by decide +kernel
theorem dX2_takeRoom_48 : decode cX2_takeRoom 48 = .ok (.aload_n 1, 1) := by decide +kernel
theorem dX2_takeRoom_49 : decode cX2_takeRoom 49 = .ok (.getfield 24, 3) := by decide +kernel
theorem dX2_takeRoom_52 : decode cX2_takeRoom 52 = .ok (.putfield 24, 3) := by decide +kernel
theorem dX2_takeRoom_55 : decode cX2_takeRoom 55 = .ok (.aload_n 0, 1) := by decide +kernel
theorem dX2_takeRoom_56 : decode cX2_takeRoom 56 = .ok (.aload_n 1, 1) := by decide +kernel
theorem dX2_takeRoom_57 : decode cX2_takeRoom 57 = .ok (.getfield 27, 3) := by decide +kernel
theorem dX2_takeRoom_60 : decode cX2_takeRoom 60 = .ok (.putfield 27, 3) := by decide +kernel
theorem dX2_takeRoom_63 : decode cX2_takeRoom 63 = .ok (.aload_n 0, 1) := by decide +kernel
theorem dX2_takeRoom_64 : decode cX2_takeRoom 64 = .ok (.aload_n 1, 1) := by decide +kernel
theorem dX2_takeRoom_65 : decode cX2_takeRoom 65 = .ok (.getfield 30, 3) := by decide +kernel
theorem dX2_takeRoom_68 : decode cX2_takeRoom 68 = .ok (.putfield 30, 3) := by decide +kernel
theorem dX2_takeRoom_71 : decode cX2_takeRoom 71 = .ok (.aload_n 0, 1) := by decide +kernel
theorem dX2_takeRoom_72 : decode cX2_takeRoom 72 = .ok (.aload_n 1, 1) := by decide +kernel
theorem dX2_takeRoom_73 : decode cX2_takeRoom 73 = .ok (.getfield 33, 3) := by decide +kernel
theorem dX2_takeRoom_76 : decode cX2_takeRoom 76 = .ok (.putfield 33, 3) := by decide +kernel
theorem dX2_takeRoom_79 : decode cX2_takeRoom 79 = .ok (.aload_n 0, 1) := by decide +kernel
theorem dX2_takeRoom_80 : decode cX2_takeRoom 80 = .ok (.aload_n 1, 1) := by decide +kernel
theorem dX2_takeRoom_81 : decode cX2_takeRoom 81 = .ok (.getfield 36, 3) := by decide +kernel
theorem dX2_takeRoom_84 : decode cX2_takeRoom 84 = .ok (.putfield 36, 3) := by decide +kernel
theorem dX2_takeRoom_87 : decode cX2_takeRoom 87 = .ok (.aload_n 0, 1) := by decide +kernel
theorem dX2_takeRoom_88 : decode cX2_takeRoom 88 = .ok (.aload_n 1, 1) := by decide +kernel
theorem dX2_takeRoom_89 : decode cX2_takeRoom 89 = .ok (.getfield 39, 3) := by decide +kernel
theorem dX2_takeRoom_92 : decode cX2_takeRoom 92 = .ok (.putfield 39, 3) := by decide +kernel
theorem dX2_takeRoom_95 : decode cX2_takeRoom 95 = .ok (.aload_n 0, 1) := by decide +kernel
theorem dX2_takeRoom_96 : decode cX2_takeRoom 96 = .ok (.aload_n 1, 1) := by decide +kernel
theorem dX2_takeRoom_97 : decode cX2_takeRoom 97 = .ok (.getfield 42, 3) := by decide +kernel
theorem dX2_takeRoom_100 : decode cX2_takeRoom 100 = .ok (.putfield 42, 3) := by decide +kernel
theorem dX2_takeRoom_103 : decode cX2_takeRoom 103 = .ok (.aload_n 0, 1) := by decide +kernel
theorem dX2_takeRoom_104 : decode cX2_takeRoom 104 = .ok (.aload_n 1, 1) := by decide +kernel
theorem dX2_takeRoom_105 : decode cX2_takeRoom 105 = .ok (.getfield 45, 3) := by decide +kernel
theorem dX2_takeRoom_108 : decode cX2_takeRoom 108 = .ok (.putfield 45, 3) := by decide +kernel
theorem dX2_takeRoom_111 : decode cX2_takeRoom 111 = .ok (.aload_n 0, 1) := by decide +kernel
theorem dX2_takeRoom_112 : decode cX2_takeRoom 112 = .ok (.aload_n 1, 1) := by decide +kernel
theorem dX2_takeRoom_113 : decode cX2_takeRoom 113 = .ok (.getfield 48, 3) := by decide +kernel
theorem dX2_takeRoom_116 : decode cX2_takeRoom 116 = .ok (.putfield 48, 3) := by decide +kernel
theorem dX2_takeRoom_119 : decode cX2_takeRoom 119 = .ok (.return_, 1) := by decide +kernel
theorem dX2_takeAll_0 : decode cX2_takeAll 0 = .ok (.aload_n 0, 1) := by decide +kernel
theorem dX2_takeAll_1 : decode cX2_takeAll 1 = .ok (.aload_n 1, 1) := by decide +kernel
theorem dX2_takeAll_2 : decode cX2_takeAll 2 = .ok (.invokevirtual 67, 3) := by decide +kernel
theorem dX2_takeAll_5 : decode cX2_takeAll 5 = .ok (.aload_n 0, 1) := by decide +kernel
theorem dX2_takeAll_6 : decode cX2_takeAll 6 = .ok (.getfield 54, 3) := by decide +kernel
theorem dX2_takeAll_9 : decode cX2_takeAll 9 = .ok (.aload_n 1, 1) := by decide +kernel
theorem dX2_takeAll_10 : decode cX2_takeAll 10 = .ok (.getfield 54, 3) := by decide +kernel
theorem dX2_takeAll_13 : decode cX2_takeAll 13 = .ok (.invokevirtual 71, 3) := by decide +kernel
theorem dX2_takeAll_16 : decode cX2_takeAll 16 = .ok (.aload_n 1, 1) := by decide +kernel
theorem dX2_takeAll_17 : decode cX2_takeAll 17 = .ok (.getfield 58, 3) := by decide +kernel
theorem dX2_takeAll_20 : decode cX2_takeAll 20 = .ok (.iconst 0, 1) := by decide +kernel
theorem dX2_takeAll_21 : decode cX2_takeAll 21 = .ok (.aload_n 0, 1) := by decide +kernel
theorem dX2_takeAll_22 : decode cX2_takeAll 22 = .ok (.getfield 58, 3) := by decide +kernel
theorem dX2_takeAll_25 : decode cX2_takeAll 25 = .ok (.iconst 0, 1) := by decide +kernel
theorem dX2_takeAll_26 : decode cX2_takeAll 26 = .ok (.bipush 10, 2) := by decide +kernel
theorem dX2_takeAll_28 : decode cX2_takeAll 28 = .ok (.invokestatic 74, 3) := by decide +kernel
theorem dX2_takeAll_31 : decode cX2_takeAll 31 = .ok (.return_, 1) := by decide +kernel
theorem dX2_addDrinker_0 : decode cX2_addDrinker 0 = .ok (.aload_n 0, 1) := by decide +kernel
theorem dX2_addDrinker_1 : decode cX2_addDrinker 1 = .ok (.getfield 11, 3) := by decide +kernel
theorem dX2_addDrinker_4 : decode cX2_addDrinker 4 = .ok (.aload_n 0, 1) := by decide +kernel
theorem dX2_addDrinker_5 : decode cX2_addDrinker 5 = .ok (.getfield 17, 3) := by decide +kernel
theorem dX2_addDrinker_8 : decode cX2_addDrinker 8 = .ok (.bipush 9, 2) := by decide +kernel
theorem dX2_addDrinker_10 : decode cX2_addDrinker 10 = .ok (.invokestatic 80, 3) := by decide +kernel
theorem dX2_addDrinker_13 : decode cX2_addDrinker 13 = .ok (.aaload, 1) := by decide +kernel
theorem dX2_addDrinker_14 : decode cX2_addDrinker 14 = .ok (.astore_n 3, 1) := by decide +kernel
theorem dX2_addDrinker_15 : decode cX2_addDrinker 15 = .ok (.aload_n 3, 1) := by decide +kernel
theorem dX2_addDrinker_16 : decode cX2_addDrinker 16 = .ok (.iload_n 1, 1) := by decide +kernel
theorem dX2_addDrinker_17 : decode cX2_addDrinker 17 = .ok (.iload_n 2, 1) := by decide +kernel
theorem dX2_addDrinker_18 : decode cX2_addDrinker 18 = .ok (.invokevirtual 86, 3) := by decide +kernel
theorem dX2_addDrinker_21 : decode cX2_addDrinker 21 = .ok (.aload_n 0, 1) := by decide +kernel
theorem dX2_addDrinker_22 : decode cX2_addDrinker 22 = .ok (.aload_n 0, 1) := by decide +kernel
theorem dX2_addDrinker_23 : decode cX2_addDrinker 23 = .ok (.getfield 17, 3) := by decide +kernel
theorem dX2_addDrinker_26 : decode cX2_addDrinker 26 = .ok (.iconst 1, 1) := by decide +kernel
theorem dX2_addDrinker_27 : decode cX2_addDrinker 27 = .ok (.iadd, 1) := by decide +kernel
theorem dX2_addDrinker_28 : decode cX2_addDrinker 28 = .ok (.bipush 10, 2) := by decide +kernel
theorem dX2_addDrinker_30 : decode cX2_addDrinker 30 = .ok (.invokestatic 80, 3) := by decide +kernel
theorem dX2_addDrinker_33 : decode cX2_addDrinker 33 = .ok (.putfield 17, 3) := by decide +kernel
theorem dX2_addDrinker_36 : decode cX2_addDrinker 36 = .ok (.aload_n 3, 1) := by decide +kernel
theorem dX2_addDrinker_37 : decode cX2_addDrinker 37 = .ok (.areturn, 1) := by decide +kernel
theorem dX2_setPot_0 : decode cX2_setPot 0 = .ok (.aload_n 0, 1) := by decide +kernel
theorem dX2_setPot_1 : decode cX2_setPot 1 = .ok (.iload_n 1, 1) := by decide +kernel
theorem dX2_setPot_2 : decode cX2_setPot 2 = .ok (.putfield 24, 3) := by decide +kernel
theorem dX2_setPot_5 : decode cX2_setPot 5 = .ok (.aload_n 0, 1) := by decide +kernel
theorem dX2_setPot_6 : decode cX2_setPot 6 = .ok (.iload_n 1, 1) := by decide +kernel
theorem dX2_setPot_7 : decode cX2_setPot 7 = .ok (.putfield 27, 3) := by decide +kernel
theorem dX2_setPot_10 : decode cX2_setPot 10 = .ok (.return_, 1) := by decide +kernel
theorem dX2_beginMonday_0 : decode cX2_beginMonday 0 = .ok (.aload_n 0, 1) := by decide +kernel
theorem dX2_beginMonday_1 : decode cX2_beginMonday 1 = .ok (.iconst 0, 1) := by decide +kernel
theorem dX2_beginMonday_2 : decode cX2_beginMonday 2 = .ok (.putfield 39, 3) := by decide +kernel
theorem dX2_beginMonday_5 : decode cX2_beginMonday 5 = .ok (.aload_n 0, 1) := by decide +kernel
theorem dX2_beginMonday_6 : decode cX2_beginMonday 6 = .ok (.invokevirtual 90, 3) := by decide +kernel
theorem dX2_beginMonday_9 : decode cX2_beginMonday 9 = .ok (.return_, 1) := by decide +kernel
theorem dX2_draw_0 : decode cX2_draw 0 = .ok (.aload_n 0, 1) := by decide +kernel
theorem dX2_draw_1 : decode cX2_draw 1 = .ok (.aload_n 0, 1) := by decide +kernel
theorem dX2_draw_2 : decode cX2_draw 2 = .ok (.getfield 48, 3) := by decide +kernel
theorem dX2_draw_5 : decode cX2_draw 5 = .ok (.ldc 93, 2) := by decide +kernel
theorem dX2_draw_7 : decode cX2_draw 7 = .ok (.imul, 1) := by decide +kernel
theorem dX2_draw_8 : decode cX2_draw 8 = .ok (.sipush 12345, 3) := by decide +kernel
theorem dX2_draw_11 : decode cX2_draw 11 = .ok (.iadd, 1) := by decide +kernel
theorem dX2_draw_12 : decode cX2_draw 12 = .ok (.putfield 48, 3) := by decide +kernel
theorem dX2_draw_15 : decode cX2_draw 15 = .ok (.aload_n 0, 1) := by decide +kernel
theorem dX2_draw_16 : decode cX2_draw 16 = .ok (.getfield 48, 3) := by decide +kernel
theorem dX2_draw_19 : decode cX2_draw 19 = .ok (.bipush 8, 2) := by decide +kernel
theorem dX2_draw_21 : decode cX2_draw 21 = .ok (.iushr, 1) := by decide +kernel
theorem dX2_draw_22 : decode cX2_draw 22 = .ok (.ireturn, 1) := by decide +kernel
theorem dX2_sumOf_0 : decode cX2_sumOf 0 = .ok (.iconst 0, 1) := by decide +kernel
theorem dX2_sumOf_1 : decode cX2_sumOf 1 = .ok (.istore_n 2, 1) := by decide +kernel
theorem dX2_sumOf_2 : decode cX2_sumOf 2 = .ok (.iconst 0, 1) := by decide +kernel
theorem dX2_sumOf_3 : decode cX2_sumOf 3 = .ok (.istore_n 3, 1) := by decide +kernel
theorem dX2_sumOf_4 : decode cX2_sumOf 4 = .ok (.iload_n 3, 1) := by decide +kernel
theorem dX2_sumOf_5 : decode cX2_sumOf 5 = .ok (.aload_n 0, 1) := by decide +kernel
theorem dX2_sumOf_6 : decode cX2_sumOf 6 = .ok (.getfield 17, 3) := by decide +kernel
theorem dX2_sumOf_9 : decode cX2_sumOf 9 = .ok (.if_icmp .ge 22, 3) := by decide +kernel
theorem dX2_sumOf_12 : decode cX2_sumOf 12 = .ok (.iload_n 2, 1) := by decide +kernel
theorem dX2_sumOf_13 : decode cX2_sumOf 13 = .ok (.aload_n 0, 1) := by decide +kernel
theorem dX2_sumOf_14 : decode cX2_sumOf 14 = .ok (.getfield 11, 3) := by decide +kernel
theorem dX2_sumOf_17 : decode cX2_sumOf 17 = .ok (.iload_n 3, 1) := by decide +kernel
theorem dX2_sumOf_18 : decode cX2_sumOf 18 = .ok (.aaload, 1) := by decide +kernel
theorem dX2_sumOf_19 : decode cX2_sumOf 19 = .ok (.iload_n 1, 1) := by decide +kernel
theorem dX2_sumOf_20 : decode cX2_sumOf 20 = .ok (.invokevirtual 94, 3) := by decide +kernel
theorem dX2_sumOf_23 : decode cX2_sumOf 23 = .ok (.iadd, 1) := by decide +kernel
theorem dX2_sumOf_24 : decode cX2_sumOf 24 = .ok (.istore_n 2, 1) := by decide +kernel
theorem dX2_sumOf_25 : decode cX2_sumOf 25 = .ok (.iinc 3 1, 3) := by decide +kernel
theorem dX2_sumOf_28 : decode cX2_sumOf 28 = .ok (.goto (-24), 3) := by decide +kernel
theorem dX2_sumOf_31 : decode cX2_sumOf 31 = .ok (.iload_n 2, 1) := by decide +kernel
theorem dX2_sumOf_32 : decode cX2_sumOf 32 = .ok (.ireturn, 1) := by decide +kernel
theorem dX2_due_0 : decode cX2_due 0 = .ok (.aload_n 0, 1) := by decide +kernel
theorem dX2_due_1 : decode cX2_due 1 = .ok (.getfield 21, 3) := by decide +kernel
theorem dX2_due_4 : decode cX2_due 4 = .ok (.aload_n 0, 1) := by decide +kernel
theorem dX2_due_5 : decode cX2_due 5 = .ok (.iconst 5, 1) := by decide +kernel
theorem dX2_due_6 : decode cX2_due 6 = .ok (.invokevirtual 98, 3) := by decide +kernel
theorem dX2_due_9 : decode cX2_due 9 = .ok (.imul, 1) := by decide +kernel
theorem dX2_due_10 : decode cX2_due 10 = .ok (.ireturn, 1) := by decide +kernel
theorem dX2_dueOf_0 : decode cX2_dueOf 0 = .ok (.iconst 0, 1) := by decide +kernel
theorem dX2_dueOf_1 : decode cX2_dueOf 1 = .ok (.istore_n 2, 1) := by decide +kernel
theorem dX2_dueOf_2 : decode cX2_dueOf 2 = .ok (.iconst 0, 1) := by decide +kernel
theorem dX2_dueOf_3 : decode cX2_dueOf 3 = .ok (.istore_n 3, 1) := by decide +kernel
theorem dX2_dueOf_4 : decode cX2_dueOf 4 = .ok (.iload_n 3, 1) := by decide +kernel
theorem dX2_dueOf_5 : decode cX2_dueOf 5 = .ok (.aload_n 0, 1) := by decide +kernel
theorem dX2_dueOf_6 : decode cX2_dueOf 6 = .ok (.getfield 17, 3) := by decide +kernel
theorem dX2_dueOf_9 : decode cX2_dueOf 9 = .ok (.if_icmp .ge 30, 3) := by decide +kernel
theorem dX2_dueOf_12 : decode cX2_dueOf 12 = .ok (.iload_n 1, 1) := by decide +kernel
theorem dX2_dueOf_13 : decode cX2_dueOf 13 = .ok (.iload_n 3, 1) := by decide +kernel
theorem dX2_dueOf_14 : decode cX2_dueOf 14 = .ok (.ishr, 1) := by decide +kernel
theorem dX2_dueOf_15 : decode cX2_dueOf 15 = .ok (.iconst 1, 1) := by decide +kernel
theorem dX2_dueOf_16 : decode cX2_dueOf 16 = .ok (.iand, 1) := by decide +kernel
theorem dX2_dueOf_17 : decode cX2_dueOf 17 = .ok (.iconst 1, 1) := by decide +kernel
theorem dX2_dueOf_18 : decode cX2_dueOf 18 = .ok (.if_icmp .ne 15, 3) := by decide +kernel
theorem dX2_dueOf_21 : decode cX2_dueOf 21 = .ok (.iload_n 2, 1) := by decide +kernel
theorem dX2_dueOf_22 : decode cX2_dueOf 22 = .ok (.aload_n 0, 1) := by decide +kernel
theorem dX2_dueOf_23 : decode cX2_dueOf 23 = .ok (.getfield 11, 3) := by decide +kernel
theorem dX2_dueOf_26 : decode cX2_dueOf 26 = .ok (.iload_n 3, 1) := by decide +kernel
theorem dX2_dueOf_27 : decode cX2_dueOf 27 = .ok (.aaload, 1) := by decide +kernel
theorem dX2_dueOf_28 : decode cX2_dueOf 28 = .ok (.getfield 101, 3) := by decide +kernel
theorem dX2_dueOf_31 : decode cX2_dueOf 31 = .ok (.iadd, 1) := by decide +kernel
theorem dX2_dueOf_32 : decode cX2_dueOf 32 = .ok (.istore_n 2, 1) := by decide +kernel
theorem dX2_dueOf_33 : decode cX2_dueOf 33 = .ok (.iinc 3 1, 3) := by decide +kernel
theorem dX2_dueOf_36 : decode cX2_dueOf 36 = .ok (.goto (-32), 3) := by decide +kernel
theorem dX2_dueOf_39 : decode cX2_dueOf 39 = .ok (.aload_n 0, 1) := by decide +kernel
theorem dX2_dueOf_40 : decode cX2_dueOf 40 = .ok (.getfield 21, 3) := by decide +kernel
theorem dX2_dueOf_43 : decode cX2_dueOf 43 = .ok (.iload_n 2, 1) := by decide +kernel
theorem dX2_dueOf_44 : decode cX2_dueOf 44 = .ok (.imul, 1) := by decide +kernel
theorem dX2_dueOf_45 : decode cX2_dueOf 45 = .ok (.ireturn, 1) := by decide +kernel
theorem dX2_owedBy_0 : decode cX2_owedBy 0 = .ok (.aload_n 0, 1) := by decide +kernel
theorem dX2_owedBy_1 : decode cX2_owedBy 1 = .ok (.getfield 21, 3) := by decide +kernel
theorem dX2_owedBy_4 : decode cX2_owedBy 4 = .ok (.aload_n 0, 1) := by decide +kernel
theorem dX2_owedBy_5 : decode cX2_owedBy 5 = .ok (.getfield 11, 3) := by decide +kernel
theorem dX2_owedBy_8 : decode cX2_owedBy 8 = .ok (.iload_n 1, 1) := by decide +kernel
theorem dX2_owedBy_9 : decode cX2_owedBy 9 = .ok (.aaload, 1) := by decide +kernel
theorem dX2_owedBy_10 : decode cX2_owedBy 10 = .ok (.getfield 101, 3) := by decide +kernel
theorem dX2_owedBy_13 : decode cX2_owedBy 13 = .ok (.imul, 1) := by decide +kernel
theorem dX2_owedBy_14 : decode cX2_owedBy 14 = .ok (.aload_n 0, 1) := by decide +kernel
theorem dX2_owedBy_15 : decode cX2_owedBy 15 = .ok (.getfield 11, 3) := by decide +kernel
theorem dX2_owedBy_18 : decode cX2_owedBy 18 = .ok (.iload_n 1, 1) := by decide +kernel
theorem dX2_owedBy_19 : decode cX2_owedBy 19 = .ok (.aaload, 1) := by decide +kernel
theorem dX2_owedBy_20 : decode cX2_owedBy 20 = .ok (.getfield 104, 3) := by decide +kernel
theorem dX2_owedBy_23 : decode cX2_owedBy 23 = .ok (.isub, 1) := by decide +kernel
theorem dX2_owedBy_24 : decode cX2_owedBy 24 = .ok (.ireturn, 1) := by decide +kernel
theorem dX2_drinkersWhoDrank_0 : decode cX2_drinkersWhoDrank 0 = .ok (.iconst 0, 1) := by decide +kernel
theorem dX2_drinkersWhoDrank_1 : decode cX2_drinkersWhoDrank 1 = .ok (.istore_n 1, 1) := by decide +kernel
theorem dX2_drinkersWhoDrank_2 : decode cX2_drinkersWhoDrank 2 = .ok (.iconst 0, 1) := by decide +kernel
theorem dX2_drinkersWhoDrank_3 : decode cX2_drinkersWhoDrank 3 = .ok (.istore_n 2, 1) := by decide +kernel
theorem dX2_drinkersWhoDrank_4 : decode cX2_drinkersWhoDrank 4 = .ok (.iload_n 2, 1) := by decide +kernel
theorem dX2_drinkersWhoDrank_5 : decode cX2_drinkersWhoDrank 5 = .ok (.aload_n 0, 1) := by decide +kernel
theorem dX2_drinkersWhoDrank_6 : decode cX2_drinkersWhoDrank 6 = .ok (.getfield 17, 3) := by decide +kernel
theorem dX2_drinkersWhoDrank_9 : decode cX2_drinkersWhoDrank 9 = .ok (.if_icmp .ge 24, 3) := by decide +kernel
theorem dX2_drinkersWhoDrank_12 : decode cX2_drinkersWhoDrank 12 = .ok (.aload_n 0, 1) := by decide +kernel
theorem dX2_drinkersWhoDrank_13 : decode cX2_drinkersWhoDrank 13 = .ok (.getfield 11, 3) := by decide +kernel
theorem dX2_drinkersWhoDrank_16 : decode cX2_drinkersWhoDrank 16 = .ok (.iload_n 2, 1) := by decide +kernel
theorem dX2_drinkersWhoDrank_17 : decode cX2_drinkersWhoDrank 17 = .ok (.aaload, 1) := by decide +kernel
theorem dX2_drinkersWhoDrank_18 : decode cX2_drinkersWhoDrank 18 = .ok (.getfield 101, 3) := by decide +kernel
theorem dX2_drinkersWhoDrank_21 : decode cX2_drinkersWhoDrank 21 = .ok (.ifCond .le 6, 3) := by decide +kernel
theorem dX2_drinkersWhoDrank_24 : decode cX2_drinkersWhoDrank 24 = .ok (.iinc 1 1, 3) := by decide +kernel
theorem dX2_drinkersWhoDrank_27 : decode cX2_drinkersWhoDrank 27 = .ok (.iinc 2 1, 3) := by decide +kernel
theorem dX2_drinkersWhoDrank_30 : decode cX2_drinkersWhoDrank 30 = .ok (.goto (-26), 3) := by decide +kernel
theorem dX2_drinkersWhoDrank_33 : decode cX2_drinkersWhoDrank 33 = .ok (.iload_n 1, 1) := by decide +kernel
theorem dX2_drinkersWhoDrank_34 : decode cX2_drinkersWhoDrank 34 = .ok (.ireturn, 1) := by decide +kernel
theorem dX2_heldSpots_0 : decode cX2_heldSpots 0 = .ok (.iconst 0, 1) := by decide +kernel
theorem dX2_heldSpots_1 : decode cX2_heldSpots 1 = .ok (.istore_n 1, 1) := by decide +kernel
theorem dX2_heldSpots_2 : decode cX2_heldSpots 2 = .ok (.iconst 0, 1) := by decide +kernel
theorem dX2_heldSpots_3 : decode cX2_heldSpots 3 = .ok (.istore_n 2, 1) := by decide +kernel
theorem dX2_heldSpots_4 : decode cX2_heldSpots 4 = .ok (.iload_n 2, 1) := by decide +kernel
theorem dX2_heldSpots_5 : decode cX2_heldSpots 5 = .ok (.bipush 10, 2) := by decide +kernel
theorem dX2_heldSpots_7 : decode cX2_heldSpots 7 = .ok (.if_icmp .ge 22, 3) := by decide +kernel
theorem dX2_heldSpots_10 : decode cX2_heldSpots 10 = .ok (.aload_n 0, 1) := by decide +kernel
theorem dX2_heldSpots_11 : decode cX2_heldSpots 11 = .ok (.getfield 58, 3) := by decide +kernel
theorem dX2_heldSpots_14 : decode cX2_heldSpots 14 = .ok (.iload_n 2, 1) := by decide +kernel
theorem dX2_heldSpots_15 : decode cX2_heldSpots 15 = .ok (.iaload, 1) := by decide +kernel
theorem dX2_heldSpots_16 : decode cX2_heldSpots 16 = .ok (.iconst (-1), 1) := by decide +kernel
theorem dX2_heldSpots_17 : decode cX2_heldSpots 17 = .ok (.if_icmp .eq 6, 3) := by decide +kernel
theorem dX2_heldSpots_20 : decode cX2_heldSpots 20 = .ok (.iinc 1 1, 3) := by decide +kernel
theorem dX2_heldSpots_23 : decode cX2_heldSpots 23 = .ok (.iinc 2 1, 3) := by decide +kernel
theorem dX2_heldSpots_26 : decode cX2_heldSpots 26 = .ok (.goto (-22), 3) := by decide +kernel
theorem dX2_heldSpots_29 : decode cX2_heldSpots 29 = .ok (.iload_n 1, 1) := by decide +kernel
theorem dX2_heldSpots_30 : decode cX2_heldSpots 30 = .ok (.ireturn, 1) := by decide +kernel
theorem dX2_goDays_0 : decode cX2_goDays 0 = .ok (.aload_n 0, 1) := by decide +kernel
theorem dX2_goDays_1 : decode cX2_goDays 1 = .ok (.getfield 30, 3) := by decide +kernel
theorem dX2_goDays_4 : decode cX2_goDays 4 = .ok (.istore_n 2, 1) := by decide +kernel
theorem dX2_goDays_5 : decode cX2_goDays 5 = .ok (.iconst 0, 1) := by decide +kernel
theorem dX2_goDays_6 : decode cX2_goDays 6 = .ok (.istore_n 3, 1) := by decide +kernel
theorem dX2_goDays_7 : decode cX2_goDays 7 = .ok (.iload_n 3, 1) := by decide +kernel
theorem dX2_goDays_8 : decode cX2_goDays 8 = .ok (.iload_n 1, 1) := by decide +kernel
theorem dX2_goDays_9 : decode cX2_goDays 9 = .ok (.if_icmp .ge 13, 3) := by decide +kernel
theorem dX2_goDays_12 : decode cX2_goDays 12 = .ok (.aload_n 0, 1) := by decide +kernel
theorem dX2_goDays_13 : decode cX2_goDays 13 = .ok (.invokevirtual 107, 3) := by decide +kernel
theorem dX2_goDays_16 : decode cX2_goDays 16 = .ok (.iinc 3 1, 3) := by decide +kernel
theorem dX2_goDays_19 : decode cX2_goDays 19 = .ok (.goto (-12), 3) := by decide +kernel
theorem dX2_goDays_22 : decode cX2_goDays 22 = .ok (.aload_n 0, 1) := by decide +kernel
theorem dX2_goDays_23 : decode cX2_goDays 23 = .ok (.getfield 30, 3) := by decide +kernel
theorem dX2_goDays_26 : decode cX2_goDays 26 = .ok (.iload_n 2, 1) := by decide +kernel
theorem dX2_goDays_27 : decode cX2_goDays 27 = .ok (.isub, 1) := by decide +kernel
theorem dX2_goDays_28 : decode cX2_goDays 28 = .ok (.ireturn, 1) := by decide +kernel
theorem dX2_goDay_0 : decode cX2_goDay 0 = .ok (.iconst 0, 1) := by decide +kernel
theorem dX2_goDay_1 : decode cX2_goDay 1 = .ok (.istore_n 1, 1) := by decide +kernel
theorem dX2_goDay_2 : decode cX2_goDay 2 = .ok (.iload_n 1, 1) := by decide +kernel
theorem dX2_goDay_3 : decode cX2_goDay 3 = .ok (.aload_n 0, 1) := by decide +kernel
theorem dX2_goDay_4 : decode cX2_goDay 4 = .ok (.getfield 17, 3) := by decide +kernel
theorem dX2_goDay_7 : decode cX2_goDay 7 = .ok (.if_icmp .ge 35, 3) := by decide +kernel
theorem dX2_goDay_10 : decode cX2_goDay 10 = .ok (.aload_n 0, 1) := by decide +kernel
theorem dX2_goDay_11 : decode cX2_goDay 11 = .ok (.getfield 11, 3) := by decide +kernel
theorem dX2_goDay_14 : decode cX2_goDay 14 = .ok (.iload_n 1, 1) := by decide +kernel
theorem dX2_goDay_15 : decode cX2_goDay 15 = .ok (.aaload, 1) := by decide +kernel
theorem dX2_goDay_16 : decode cX2_goDay 16 = .ok (.getfield 110, 3) := by decide +kernel
theorem dX2_goDay_19 : decode cX2_goDay 19 = .ok (.aload_n 0, 1) := by decide +kernel
theorem dX2_goDay_20 : decode cX2_goDay 20 = .ok (.getfield 21, 3) := by decide +kernel
theorem dX2_goDay_23 : decode cX2_goDay 23 = .ok (.if_icmp .lt 13, 3) := by decide +kernel
theorem dX2_goDay_26 : decode cX2_goDay 26 = .ok (.aload_n 0, 1) := by decide +kernel
theorem dX2_goDay_27 : decode cX2_goDay 27 = .ok (.aload_n 0, 1) := by decide +kernel
theorem dX2_goDay_28 : decode cX2_goDay 28 = .ok (.getfield 11, 3) := by decide +kernel
theorem dX2_goDay_31 : decode cX2_goDay 31 = .ok (.iload_n 1, 1) := by decide +kernel
theorem dX2_goDay_32 : decode cX2_goDay 32 = .ok (.aaload, 1) := by decide +kernel
theorem dX2_goDay_33 : decode cX2_goDay 33 = .ok (.invokevirtual 113, 3) := by decide +kernel
theorem dX2_goDay_36 : decode cX2_goDay 36 = .ok (.iinc 1 1, 3) := by decide +kernel
theorem dX2_goDay_39 : decode cX2_goDay 39 = .ok (.goto (-37), 3) := by decide +kernel
theorem dX2_goDay_42 : decode cX2_goDay 42 = .ok (.aload_n 0, 1) := by decide +kernel
theorem dX2_goDay_43 : decode cX2_goDay 43 = .ok (.aload_n 0, 1) := by decide +kernel
theorem dX2_goDay_44 : decode cX2_goDay 44 = .ok (.getfield 24, 3) := by decide +kernel
theorem dX2_goDay_47 : decode cX2_goDay 47 = .ok (.putfield 27, 3) := by decide +kernel
theorem dX2_goDay_50 : decode cX2_goDay 50 = .ok (.aload_n 0, 1) := by decide +kernel
theorem dX2_goDay_51 : decode cX2_goDay 51 = .ok (.getfield 39, 3) := by decide +kernel
theorem dX2_goDay_54 : decode cX2_goDay 54 = .ok (.iconst 5, 1) := by decide +kernel
theorem dX2_goDay_55 : decode cX2_goDay 55 = .ok (.irem, 1) := by decide +kernel
theorem dX2_goDay_56 : decode cX2_goDay 56 = .ok (.iconst 4, 1) := by decide +kernel
theorem dX2_goDay_57 : decode cX2_goDay 57 = .ok (.if_icmp .ne 7, 3) := by decide +kernel
theorem dX2_goDay_60 : decode cX2_goDay 60 = .ok (.aload_n 0, 1) := by decide +kernel
theorem dX2_goDay_61 : decode cX2_goDay 61 = .ok (.invokevirtual 116, 3) := by decide +kernel
theorem dX2_goDay_64 : decode cX2_goDay 64 = .ok (.aload_n 0, 1) := by decide +kernel
theorem dX2_goDay_65 : decode cX2_goDay 65 = .ok (.dup, 1) := by decide +kernel
theorem dX2_goDay_66 : decode cX2_goDay 66 = .ok (.getfield 39, 3) := by decide +kernel
theorem dX2_goDay_69 : decode cX2_goDay 69 = .ok (.iconst 1, 1) := by decide +kernel
theorem dX2_goDay_70 : decode cX2_goDay 70 = .ok (.iadd, 1) := by decide +kernel
theorem dX2_goDay_71 : decode cX2_goDay 71 = .ok (.putfield 39, 3) := by decide +kernel
theorem dX2_goDay_74 : decode cX2_goDay 74 = .ok (.return_, 1) := by decide +kernel
theorem dX2_serve_0 : decode cX2_serve 0 = .ok (.iconst 0, 1) := by decide +kernel
theorem dX2_serve_1 : decode cX2_serve 1 = .ok (.istore_n 2, 1) := by decide +kernel
theorem dX2_serve_2 : decode cX2_serve 2 = .ok (.iload_n 2, 1) := by decide +kernel
theorem dX2_serve_3 : decode cX2_serve 3 = .ok (.aload_n 1, 1) := by decide +kernel
theorem dX2_serve_4 : decode cX2_serve 4 = .ok (.getfield 119, 3) := by decide +kernel
theorem dX2_serve_7 : decode cX2_serve 7 = .ok (.if_icmp .ge 71, 3) := by decide +kernel
theorem dX2_serve_10 : decode cX2_serve 10 = .ok (.aload_n 0, 1) := by decide +kernel
theorem dX2_serve_11 : decode cX2_serve 11 = .ok (.getfield 27, 3) := by decide +kernel
theorem dX2_serve_14 : decode cX2_serve 14 = .ok (.ifCond .ne 22, 3) := by decide +kernel
theorem dX2_serve_17 : decode cX2_serve 17 = .ok (.aload_n 0, 1) := by decide +kernel
theorem dX2_serve_18 : decode cX2_serve 18 = .ok (.aload_n 1, 1) := by decide +kernel
theorem dX2_serve_19 : decode cX2_serve 19 = .ok (.invokevirtual 122, 3) := by decide +kernel
theorem dX2_serve_22 : decode cX2_serve 22 = .ok (.ifCond .ne 14, 3) := by decide +kernel
theorem dX2_serve_25 : decode cX2_serve 25 = .ok (.aload_n 0, 1) := by decide +kernel
theorem dX2_serve_26 : decode cX2_serve 26 = .ok (.dup, 1) := by decide +kernel
theorem dX2_serve_27 : decode cX2_serve 27 = .ok (.getfield 42, 3) := by decide +kernel
theorem dX2_serve_30 : decode cX2_serve 30 = .ok (.iconst 1, 1) := by decide +kernel
theorem dX2_serve_31 : decode cX2_serve 31 = .ok (.iadd, 1) := by decide +kernel
theorem dX2_serve_32 : decode cX2_serve 32 = .ok (.putfield 42, 3) := by decide +kernel
theorem dX2_serve_35 : decode cX2_serve 35 = .ok (.return_, 1) := by decide +kernel
theorem dX2_serve_36 : decode cX2_serve 36 = .ok (.aload_n 0, 1) := by decide +kernel
theorem dX2_serve_37 : decode cX2_serve 37 = .ok (.dup, 1) := by decide +kernel
theorem dX2_serve_38 : decode cX2_serve 38 = .ok (.getfield 27, 3) := by decide +kernel
theorem dX2_serve_41 : decode cX2_serve 41 = .ok (.iconst 1, 1) := by decide +kernel
theorem dX2_serve_42 : decode cX2_serve 42 = .ok (.isub, 1) := by decide +kernel
theorem dX2_serve_43 : decode cX2_serve 43 = .ok (.putfield 27, 3) := by decide +kernel
theorem dX2_serve_46 : decode cX2_serve 46 = .ok (.aload_n 0, 1) := by decide +kernel
theorem dX2_serve_47 : decode cX2_serve 47 = .ok (.dup, 1) := by decide +kernel
theorem dX2_serve_48 : decode cX2_serve 48 = .ok (.getfield 45, 3) := by decide +kernel
theorem dX2_serve_51 : decode cX2_serve 51 = .ok (.iconst 1, 1) := by decide +kernel
theorem dX2_serve_52 : decode cX2_serve 52 = .ok (.iadd, 1) := by decide +kernel
theorem dX2_serve_53 : decode cX2_serve 53 = .ok (.putfield 45, 3) := by decide +kernel
theorem dX2_serve_56 : decode cX2_serve 56 = .ok (.aload_n 1, 1) := by decide +kernel
theorem dX2_serve_57 : decode cX2_serve 57 = .ok (.dup, 1) := by decide +kernel
theorem dX2_serve_58 : decode cX2_serve 58 = .ok (.getfield 101, 3) := by decide +kernel
theorem dX2_serve_61 : decode cX2_serve 61 = .ok (.iconst 1, 1) := by decide +kernel
theorem dX2_serve_62 : decode cX2_serve 62 = .ok (.iadd, 1) := by decide +kernel
theorem dX2_serve_63 : decode cX2_serve 63 = .ok (.putfield 101, 3) := by decide +kernel
theorem dX2_serve_66 : decode cX2_serve 66 = .ok (.aload_n 0, 1) := by decide +kernel
theorem dX2_serve_67 : decode cX2_serve 67 = .ok (.aload_n 1, 1) := by decide +kernel
theorem dX2_serve_68 : decode cX2_serve 68 = .ok (.iload_n 2, 1) := by decide +kernel
theorem dX2_serve_69 : decode cX2_serve 69 = .ok (.invokevirtual 126, 3) := by decide +kernel
theorem dX2_serve_72 : decode cX2_serve 72 = .ok (.iinc 2 1, 3) := by decide +kernel
theorem dX2_serve_75 : decode cX2_serve 75 = .ok (.goto (-73), 3) := by decide +kernel
theorem dX2_serve_78 : decode cX2_serve 78 = .ok (.return_, 1) := by decide +kernel
theorem dX2_isPotMade_0 : decode cX2_isPotMade 0 = .ok (.aload_n 1, 1) := by decide +kernel
theorem dX2_isPotMade_1 : decode cX2_isPotMade 1 = .ok (.getfield 130, 3) := by decide +kernel
theorem dX2_isPotMade_4 : decode cX2_isPotMade 4 = .ok (.bipush 6, 2) := by decide +kernel
theorem dX2_isPotMade_6 : decode cX2_isPotMade 6 = .ok (.if_icmp .eq 16, 3) := by decide +kernel
theorem dX2_isPotMade_9 : decode cX2_isPotMade 9 = .ok (.aload_n 0, 1) := by decide +kernel
theorem dX2_isPotMade_10 : decode cX2_isPotMade 10 = .ok (.invokevirtual 133, 3) := by decide +kernel
theorem dX2_isPotMade_13 : decode cX2_isPotMade 13 = .ok (.bipush 10, 2) := by decide +kernel
theorem dX2_isPotMade_15 : decode cX2_isPotMade 15 = .ok (.irem, 1) := by decide +kernel
theorem dX2_isPotMade_16 : decode cX2_isPotMade 16 = .ok (.iconst 3, 1) := by decide +kernel
theorem dX2_isPotMade_17 : decode cX2_isPotMade 17 = .ok (.if_icmp .lt 5, 3) := by decide +kernel
theorem dX2_isPotMade_20 : decode cX2_isPotMade 20 = .ok (.iconst 0, 1) := by decide +kernel
theorem dX2_isPotMade_21 : decode cX2_isPotMade 21 = .ok (.ireturn, 1) := by decide +kernel
theorem dX2_isPotMade_22 : decode cX2_isPotMade 22 = .ok (.aload_n 0, 1) := by decide +kernel
theorem dX2_isPotMade_23 : decode cX2_isPotMade 23 = .ok (.aload_n 0, 1) := by decide +kernel
theorem dX2_isPotMade_24 : decode cX2_isPotMade 24 = .ok (.getfield 24, 3) := by decide +kernel
theorem dX2_isPotMade_27 : decode cX2_isPotMade 27 = .ok (.putfield 27, 3) := by decide +kernel
theorem dX2_isPotMade_30 : decode cX2_isPotMade 30 = .ok (.iconst 1, 1) := by decide +kernel
theorem dX2_isPotMade_31 : decode cX2_isPotMade 31 = .ok (.ireturn, 1) := by decide +kernel
theorem dX2_payCup_0 : decode cX2_payCup 0 = .ok (.aload_n 0, 1) := by decide +kernel
theorem dX2_payCup_1 : decode cX2_payCup 1 = .ok (.getfield 21, 3) := by decide +kernel
theorem dX2_payCup_4 : decode cX2_payCup 4 = .ok (.istore_n 3, 1) := by decide +kernel
theorem dX2_payCup_5 : decode cX2_payCup 5 = .ok (.aload_n 1, 1) := by decide +kernel
theorem dX2_payCup_6 : decode cX2_payCup 6 = .ok (.getfield 130, 3) := by decide +kernel
theorem dX2_payCup_9 : decode cX2_payCup 9 = .ok (.tableswitch 158 1 6 #[39, 101, 77, 120, 148, 57], 39) := by decide +kernel
theorem dX2_payCup_48 : decode cX2_payCup 48 = .ok (.aload_n 1, 1) := by decide +kernel
theorem dX2_payCup_49 : decode cX2_payCup 49 = .ok (.dup, 1) := by decide +kernel
theorem dX2_payCup_50 : decode cX2_payCup 50 = .ok (.getfield 137, 3) := by decide +kernel
theorem dX2_payCup_53 : decode cX2_payCup 53 = .ok (.aload_n 0, 1) := by decide +kernel
theorem dX2_payCup_54 : decode cX2_payCup 54 = .ok (.getfield 21, 3) := by decide +kernel
theorem dX2_payCup_57 : decode cX2_payCup 57 = .ok (.iadd, 1) := by decide +kernel
theorem dX2_payCup_58 : decode cX2_payCup 58 = .ok (.putfield 137, 3) := by decide +kernel
theorem dX2_payCup_61 : decode cX2_payCup 61 = .ok (.iconst 0, 1) := by decide +kernel
theorem dX2_payCup_62 : decode cX2_payCup 62 = .ok (.istore_n 3, 1) := by decide +kernel
theorem dX2_payCup_63 : decode cX2_payCup 63 = .ok (.goto 104, 3) := by decide +kernel
theorem dX2_payCup_66 : decode cX2_payCup 66 = .ok (.aload_n 1, 1) := by decide +kernel
theorem dX2_payCup_67 : decode cX2_payCup 67 = .ok (.dup, 1) := by decide +kernel
theorem dX2_payCup_68 : decode cX2_payCup 68 = .ok (.getfield 137, 3) := by decide +kernel
theorem dX2_payCup_71 : decode cX2_payCup 71 = .ok (.aload_n 0, 1) := by decide +kernel
theorem dX2_payCup_72 : decode cX2_payCup 72 = .ok (.getfield 21, 3) := by decide +kernel
theorem dX2_payCup_75 : decode cX2_payCup 75 = .ok (.iconst 2, 1) := by decide +kernel
theorem dX2_payCup_76 : decode cX2_payCup 76 = .ok (.idiv, 1) := by decide +kernel
theorem dX2_payCup_77 : decode cX2_payCup 77 = .ok (.iadd, 1) := by decide +kernel
theorem dX2_payCup_78 : decode cX2_payCup 78 = .ok (.putfield 137, 3) := by decide +kernel
theorem dX2_payCup_81 : decode cX2_payCup 81 = .ok (.iconst 0, 1) := by decide +kernel
theorem dX2_payCup_82 : decode cX2_payCup 82 = .ok (.istore_n 3, 1) := by decide +kernel
theorem dX2_payCup_83 : decode cX2_payCup 83 = .ok (.goto 84, 3) := by decide +kernel
theorem dX2_payCup_86 : decode cX2_payCup 86 = .ok (.aload_n 0, 1) := by decide +kernel
theorem dX2_payCup_87 : decode cX2_payCup 87 = .ok (.getfield 33, 3) := by decide +kernel
theorem dX2_payCup_90 : decode cX2_payCup 90 = .ok (.iconst 2, 1) := by decide +kernel
theorem dX2_payCup_91 : decode cX2_payCup 91 = .ok (.if_icmp .ne 14, 3) := by decide +kernel
theorem dX2_payCup_94 : decode cX2_payCup 94 = .ok (.iload_n 2, 1) := by decide +kernel
theorem dX2_payCup_95 : decode cX2_payCup 95 = .ok (.ifCond .ne 10, 3) := by decide +kernel
theorem dX2_payCup_98 : decode cX2_payCup 98 = .ok (.aload_n 0, 1) := by decide +kernel
theorem dX2_payCup_99 : decode cX2_payCup 99 = .ok (.getfield 21, 3) := by decide +kernel
theorem dX2_payCup_102 : decode cX2_payCup 102 = .ok (.goto 4, 3) := by decide +kernel
theorem dX2_payCup_105 : decode cX2_payCup 105 = .ok (.iconst 0, 1) := by decide +kernel
theorem dX2_payCup_106 : decode cX2_payCup 106 = .ok (.istore_n 3, 1) := by decide +kernel
theorem dX2_payCup_107 : decode cX2_payCup 107 = .ok (.goto 60, 3) := by decide +kernel
theorem dX2_payCup_110 : decode cX2_payCup 110 = .ok (.aload_n 0, 1) := by decide +kernel
theorem dX2_payCup_111 : decode cX2_payCup 111 = .ok (.invokevirtual 140, 3) := by decide +kernel
theorem dX2_payCup_114 : decode cX2_payCup 114 = .ok (.ifCond .eq 7, 3) := by decide +kernel
theorem dX2_payCup_117 : decode cX2_payCup 117 = .ok (.iconst 0, 1) := by decide +kernel
theorem dX2_payCup_118 : decode cX2_payCup 118 = .ok (.goto 7, 3) := by decide +kernel
theorem dX2_payCup_121 : decode cX2_payCup 121 = .ok (.aload_n 0, 1) := by decide +kernel
theorem dX2_payCup_122 : decode cX2_payCup 122 = .ok (.getfield 21, 3) := by decide +kernel
theorem dX2_payCup_125 : decode cX2_payCup 125 = .ok (.istore_n 3, 1) := by decide +kernel
theorem dX2_payCup_126 : decode cX2_payCup 126 = .ok (.goto 41, 3) := by decide +kernel
theorem dX2_payCup_129 : decode cX2_payCup 129 = .ok (.aload_n 0, 1) := by decide +kernel
theorem dX2_payCup_130 : decode cX2_payCup 130 = .ok (.getfield 36, 3) := by decide +kernel
theorem dX2_payCup_133 : decode cX2_payCup 133 = .ok (.bipush 50, 2) := by decide +kernel
theorem dX2_payCup_135 : decode cX2_payCup 135 = .ok (.if_icmp .lt 10, 3) := by decide +kernel
theorem dX2_payCup_138 : decode cX2_payCup 138 = .ok (.aload_n 0, 1) := by decide +kernel
theorem dX2_payCup_139 : decode cX2_payCup 139 = .ok (.invokevirtual 140, 3) := by decide +kernel
theorem dX2_payCup_142 : decode cX2_payCup 142 = .ok (.ifCond .eq 7, 3) := by decide +kernel
theorem dX2_payCup_145 : decode cX2_payCup 145 = .ok (.iconst 0, 1) := by decide +kernel
theorem dX2_payCup_146 : decode cX2_payCup 146 = .ok (.goto 7, 3) := by decide +kernel
theorem dX2_payCup_149 : decode cX2_payCup 149 = .ok (.aload_n 0, 1) := by decide +kernel
theorem dX2_payCup_150 : decode cX2_payCup 150 = .ok (.getfield 21, 3) := by decide +kernel
theorem dX2_payCup_153 : decode cX2_payCup 153 = .ok (.istore_n 3, 1) := by decide +kernel
theorem dX2_payCup_154 : decode cX2_payCup 154 = .ok (.goto 13, 3) := by decide +kernel
theorem dX2_payCup_157 : decode cX2_payCup 157 = .ok (.iconst 2, 1) := by decide +kernel
theorem dX2_payCup_158 : decode cX2_payCup 158 = .ok (.aload_n 0, 1) := by decide +kernel
theorem dX2_payCup_159 : decode cX2_payCup 159 = .ok (.getfield 21, 3) := by decide +kernel
theorem dX2_payCup_162 : decode cX2_payCup 162 = .ok (.imul, 1) := by decide +kernel
theorem dX2_payCup_163 : decode cX2_payCup 163 = .ok (.istore_n 3, 1) := by decide +kernel
theorem dX2_payCup_164 : decode cX2_payCup 164 = .ok (.goto 3, 3) := by decide +kernel
theorem dX2_payCup_167 : decode cX2_payCup 167 = .ok (.aload_n 0, 1) := by decide +kernel
theorem dX2_payCup_168 : decode cX2_payCup 168 = .ok (.aload_n 1, 1) := by decide +kernel
theorem dX2_payCup_169 : decode cX2_payCup 169 = .ok (.iload_n 3, 1) := by decide +kernel
theorem dX2_payCup_170 : decode cX2_payCup 170 = .ok (.invokevirtual 144, 3) := by decide +kernel
theorem dX2_payCup_173 : decode cX2_payCup 173 = .ok (.pop, 1) := by decide +kernel
theorem dX2_payCup_174 : decode cX2_payCup 174 = .ok (.return_, 1) := by decide +kernel
theorem dX2_isForgotten_0 : decode cX2_isForgotten 0 = .ok (.aload_n 0, 1) := by decide +kernel
theorem dX2_isForgotten_1 : decode cX2_isForgotten 1 = .ok (.invokevirtual 133, 3) := by decide +kernel
theorem dX2_isForgotten_4 : decode cX2_isForgotten 4 = .ok (.bipush 10, 2) := by decide +kernel
theorem dX2_isForgotten_6 : decode cX2_isForgotten 6 = .ok (.irem, 1) := by decide +kernel
theorem dX2_isForgotten_7 : decode cX2_isForgotten 7 = .ok (.iconst 4, 1) := by decide +kernel
theorem dX2_isForgotten_8 : decode cX2_isForgotten 8 = .ok (.iconst 2, 1) := by decide +kernel
theorem dX2_isForgotten_9 : decode cX2_isForgotten 9 = .ok (.aload_n 0, 1) := by decide +kernel
theorem dX2_isForgotten_10 : decode cX2_isForgotten 10 = .ok (.getfield 33, 3) := by decide +kernel
theorem dX2_isForgotten_13 : decode cX2_isForgotten 13 = .ok (.imul, 1) := by decide +kernel
theorem dX2_isForgotten_14 : decode cX2_isForgotten 14 = .ok (.isub, 1) := by decide +kernel
theorem dX2_isForgotten_15 : decode cX2_isForgotten 15 = .ok (.if_icmp .ge 7, 3) := by decide +kernel
theorem dX2_isForgotten_18 : decode cX2_isForgotten 18 = .ok (.iconst 1, 1) := by decide +kernel
theorem dX2_isForgotten_19 : decode cX2_isForgotten 19 = .ok (.goto 4, 3) := by decide +kernel
theorem dX2_isForgotten_22 : decode cX2_isForgotten 22 = .ok (.iconst 0, 1) := by decide +kernel
theorem dX2_isForgotten_23 : decode cX2_isForgotten 23 = .ok (.ireturn, 1) := by decide +kernel
theorem dX2_pay_0 : decode cX2_pay 0 = .ok (.iload_n 2, 1) := by decide +kernel
theorem dX2_pay_1 : decode cX2_pay 1 = .ok (.aload_n 1, 1) := by decide +kernel
theorem dX2_pay_2 : decode cX2_pay 2 = .ok (.getfield 148, 3) := by decide +kernel
theorem dX2_pay_5 : decode cX2_pay 5 = .ok (.invokestatic 80, 3) := by decide +kernel
theorem dX2_pay_8 : decode cX2_pay 8 = .ok (.istore_n 3, 1) := by decide +kernel
theorem dX2_pay_9 : decode cX2_pay 9 = .ok (.aload_n 1, 1) := by decide +kernel
theorem dX2_pay_10 : decode cX2_pay 10 = .ok (.dup, 1) := by decide +kernel
theorem dX2_pay_11 : decode cX2_pay 11 = .ok (.getfield 148, 3) := by decide +kernel
theorem dX2_pay_14 : decode cX2_pay 14 = .ok (.iload_n 3, 1) := by decide +kernel
theorem dX2_pay_15 : decode cX2_pay 15 = .ok (.isub, 1) := by decide +kernel
theorem dX2_pay_16 : decode cX2_pay 16 = .ok (.putfield 148, 3) := by decide +kernel
theorem dX2_pay_19 : decode cX2_pay 19 = .ok (.aload_n 1, 1) := by decide +kernel
theorem dX2_pay_20 : decode cX2_pay 20 = .ok (.dup, 1) := by decide +kernel
theorem dX2_pay_21 : decode cX2_pay 21 = .ok (.getfield 104, 3) := by decide +kernel
theorem dX2_pay_24 : decode cX2_pay 24 = .ok (.iload_n 3, 1) := by decide +kernel
theorem dX2_pay_25 : decode cX2_pay 25 = .ok (.iadd, 1) := by decide +kernel
theorem dX2_pay_26 : decode cX2_pay 26 = .ok (.putfield 104, 3) := by decide +kernel
theorem dX2_pay_29 : decode cX2_pay 29 = .ok (.aload_n 0, 1) := by decide +kernel
theorem dX2_pay_30 : decode cX2_pay 30 = .ok (.dup, 1) := by decide +kernel
theorem dX2_pay_31 : decode cX2_pay 31 = .ok (.getfield 30, 3) := by decide +kernel
theorem dX2_pay_34 : decode cX2_pay 34 = .ok (.iload_n 3, 1) := by decide +kernel
theorem dX2_pay_35 : decode cX2_pay 35 = .ok (.iadd, 1) := by decide +kernel
theorem dX2_pay_36 : decode cX2_pay 36 = .ok (.putfield 30, 3) := by decide +kernel
theorem dX2_pay_39 : decode cX2_pay 39 = .ok (.iload_n 3, 1) := by decide +kernel
theorem dX2_pay_40 : decode cX2_pay 40 = .ok (.ireturn, 1) := by decide +kernel
theorem dX2_endWeek_0 : decode cX2_endWeek 0 = .ok (.iconst 0, 1) := by decide +kernel
theorem dX2_endWeek_1 : decode cX2_endWeek 1 = .ok (.istore_n 1, 1) := by decide +kernel
theorem dX2_endWeek_2 : decode cX2_endWeek 2 = .ok (.iload_n 1, 1) := by decide +kernel
theorem dX2_endWeek_3 : decode cX2_endWeek 3 = .ok (.aload_n 0, 1) := by decide +kernel
theorem dX2_endWeek_4 : decode cX2_endWeek 4 = .ok (.getfield 17, 3) := by decide +kernel
theorem dX2_endWeek_7 : decode cX2_endWeek 7 = .ok (.if_icmp .ge 51, 3) := by decide +kernel
theorem dX2_endWeek_10 : decode cX2_endWeek 10 = .ok (.aload_n 0, 1) := by decide +kernel
theorem dX2_endWeek_11 : decode cX2_endWeek 11 = .ok (.getfield 11, 3) := by decide +kernel
theorem dX2_endWeek_14 : decode cX2_endWeek 14 = .ok (.iload_n 1, 1) := by decide +kernel
theorem dX2_endWeek_15 : decode cX2_endWeek 15 = .ok (.aaload, 1) := by decide +kernel
theorem dX2_endWeek_16 : decode cX2_endWeek 16 = .ok (.astore_n 2, 1) := by decide +kernel
theorem dX2_endWeek_17 : decode cX2_endWeek 17 = .ok (.aload_n 2, 1) := by decide +kernel
theorem dX2_endWeek_18 : decode cX2_endWeek 18 = .ok (.getfield 130, 3) := by decide +kernel
theorem dX2_endWeek_21 : decode cX2_endWeek 21 = .ok (.iconst 1, 1) := by decide +kernel
theorem dX2_endWeek_22 : decode cX2_endWeek 22 = .ok (.if_icmp .eq 12, 3) := by decide +kernel
theorem dX2_endWeek_25 : decode cX2_endWeek 25 = .ok (.aload_n 2, 1) := by decide +kernel
theorem dX2_endWeek_26 : decode cX2_endWeek 26 = .ok (.getfield 130, 3) := by decide +kernel
theorem dX2_endWeek_29 : decode cX2_endWeek 29 = .ok (.bipush 6, 2) := by decide +kernel
theorem dX2_endWeek_31 : decode cX2_endWeek 31 = .ok (.if_icmp .ne 21, 3) := by decide +kernel
theorem dX2_endWeek_34 : decode cX2_endWeek 34 = .ok (.aload_n 2, 1) := by decide +kernel
theorem dX2_endWeek_35 : decode cX2_endWeek 35 = .ok (.dup, 1) := by decide +kernel
theorem dX2_endWeek_36 : decode cX2_endWeek 36 = .ok (.getfield 137, 3) := by decide +kernel
theorem dX2_endWeek_39 : decode cX2_endWeek 39 = .ok (.aload_n 0, 1) := by decide +kernel
theorem dX2_endWeek_40 : decode cX2_endWeek 40 = .ok (.aload_n 2, 1) := by decide +kernel
theorem dX2_endWeek_41 : decode cX2_endWeek 41 = .ok (.aload_n 2, 1) := by decide +kernel
theorem dX2_endWeek_42 : decode cX2_endWeek 42 = .ok (.getfield 137, 3) := by decide +kernel
theorem dX2_endWeek_45 : decode cX2_endWeek 45 = .ok (.invokevirtual 144, 3) := by decide +kernel
theorem dX2_endWeek_48 : decode cX2_endWeek 48 = .ok (.isub, 1) := by decide +kernel
theorem dX2_endWeek_49 : decode cX2_endWeek 49 = .ok (.putfield 137, 3) := by decide +kernel
theorem dX2_endWeek_52 : decode cX2_endWeek 52 = .ok (.iinc 1 1, 3) := by decide +kernel
theorem dX2_endWeek_55 : decode cX2_endWeek 55 = .ok (.goto (-53), 3) := by decide +kernel
theorem dX2_endWeek_58 : decode cX2_endWeek 58 = .ok (.aload_n 0, 1) := by decide +kernel
theorem dX2_endWeek_59 : decode cX2_endWeek 59 = .ok (.bipush 6, 2) := by decide +kernel
theorem dX2_endWeek_61 : decode cX2_endWeek 61 = .ok (.invokevirtual 98, 3) := by decide +kernel
theorem dX2_endWeek_64 : decode cX2_endWeek 64 = .ok (.istore_n 1, 1) := by decide +kernel
theorem dX2_endWeek_65 : decode cX2_endWeek 65 = .ok (.aload_n 0, 1) := by decide +kernel
theorem dX2_endWeek_66 : decode cX2_endWeek 66 = .ok (.getfield 54, 3) := by decide +kernel
theorem dX2_endWeek_69 : decode cX2_endWeek 69 = .ok (.aload_n 0, 1) := by decide +kernel
theorem dX2_endWeek_70 : decode cX2_endWeek 70 = .ok (.iconst 5, 1) := by decide +kernel
theorem dX2_endWeek_71 : decode cX2_endWeek 71 = .ok (.invokevirtual 98, 3) := by decide +kernel
theorem dX2_endWeek_74 : decode cX2_endWeek 74 = .ok (.iload_n 1, 1) := by decide +kernel
theorem dX2_endWeek_75 : decode cX2_endWeek 75 = .ok (.invokevirtual 151, 3) := by decide +kernel
theorem dX2_endWeek_78 : decode cX2_endWeek 78 = .ok (.aload_n 0, 1) := by decide +kernel
theorem dX2_endWeek_79 : decode cX2_endWeek 79 = .ok (.invokevirtual 154, 3) := by decide +kernel
theorem dX2_endWeek_82 : decode cX2_endWeek 82 = .ok (.istore_n 2, 1) := by decide +kernel
theorem dX2_endWeek_83 : decode cX2_endWeek 83 = .ok (.aload_n 0, 1) := by decide +kernel
theorem dX2_endWeek_84 : decode cX2_endWeek 84 = .ok (.iload_n 2, 1) := by decide +kernel
theorem dX2_endWeek_85 : decode cX2_endWeek 85 = .ok (.ifCond .le 18, 3) := by decide +kernel
theorem dX2_endWeek_88 : decode cX2_endWeek 88 = .ok (.iload_n 1, 1) := by decide +kernel
theorem dX2_endWeek_89 : decode cX2_endWeek 89 = .ok (.bipush 100, 2) := by decide +kernel
theorem dX2_endWeek_91 : decode cX2_endWeek 91 = .ok (.imul, 1) := by decide +kernel
theorem dX2_endWeek_92 : decode cX2_endWeek 92 = .ok (.iload_n 2, 1) := by decide +kernel
theorem dX2_endWeek_93 : decode cX2_endWeek 93 = .ok (.idiv, 1) := by decide +kernel
theorem dX2_endWeek_94 : decode cX2_endWeek 94 = .ok (.sipush 999, 3) := by decide +kernel
theorem dX2_endWeek_97 : decode cX2_endWeek 97 = .ok (.invokestatic 80, 3) := by decide +kernel
theorem dX2_endWeek_100 : decode cX2_endWeek 100 = .ok (.goto 5, 3) := by decide +kernel
theorem dX2_endWeek_103 : decode cX2_endWeek 103 = .ok (.bipush 100, 2) := by decide +kernel
theorem dX2_endWeek_105 : decode cX2_endWeek 105 = .ok (.putfield 36, 3) := by decide +kernel
theorem dX2_endWeek_108 : decode cX2_endWeek 108 = .ok (.aload_n 0, 1) := by decide +kernel
theorem dX2_endWeek_109 : decode cX2_endWeek 109 = .ok (.invokevirtual 90, 3) := by decide +kernel
theorem dX2_endWeek_112 : decode cX2_endWeek 112 = .ok (.return_, 1) := by decide +kernel
theorem dX2_beginWeek_0 : decode cX2_beginWeek 0 = .ok (.iconst 0, 1) := by decide +kernel
theorem dX2_beginWeek_1 : decode cX2_beginWeek 1 = .ok (.istore_n 1, 1) := by decide +kernel
theorem dX2_beginWeek_2 : decode cX2_beginWeek 2 = .ok (.iload_n 1, 1) := by decide +kernel
theorem dX2_beginWeek_3 : decode cX2_beginWeek 3 = .ok (.aload_n 0, 1) := by decide +kernel
theorem dX2_beginWeek_4 : decode cX2_beginWeek 4 = .ok (.getfield 17, 3) := by decide +kernel
theorem dX2_beginWeek_7 : decode cX2_beginWeek 7 = .ok (.if_icmp .ge 29, 3) := by decide +kernel
theorem dX2_beginWeek_10 : decode cX2_beginWeek 10 = .ok (.aload_n 0, 1) := by decide +kernel
theorem dX2_beginWeek_11 : decode cX2_beginWeek 11 = .ok (.getfield 11, 3) := by decide +kernel
theorem dX2_beginWeek_14 : decode cX2_beginWeek 14 = .ok (.iload_n 1, 1) := by decide +kernel
theorem dX2_beginWeek_15 : decode cX2_beginWeek 15 = .ok (.aaload, 1) := by decide +kernel
theorem dX2_beginWeek_16 : decode cX2_beginWeek 16 = .ok (.iconst 0, 1) := by decide +kernel
theorem dX2_beginWeek_17 : decode cX2_beginWeek 17 = .ok (.putfield 101, 3) := by decide +kernel
theorem dX2_beginWeek_20 : decode cX2_beginWeek 20 = .ok (.aload_n 0, 1) := by decide +kernel
theorem dX2_beginWeek_21 : decode cX2_beginWeek 21 = .ok (.getfield 11, 3) := by decide +kernel
theorem dX2_beginWeek_24 : decode cX2_beginWeek 24 = .ok (.iload_n 1, 1) := by decide +kernel
theorem dX2_beginWeek_25 : decode cX2_beginWeek 25 = .ok (.aaload, 1) := by decide +kernel
theorem dX2_beginWeek_26 : decode cX2_beginWeek 26 = .ok (.iconst 0, 1) := by decide +kernel
theorem dX2_beginWeek_27 : decode cX2_beginWeek 27 = .ok (.putfield 104, 3) := by decide +kernel
theorem dX2_beginWeek_30 : decode cX2_beginWeek 30 = .ok (.iinc 1 1, 3) := by decide +kernel
theorem dX2_beginWeek_33 : decode cX2_beginWeek 33 = .ok (.goto (-31), 3) := by decide +kernel
theorem dX2_beginWeek_36 : decode cX2_beginWeek 36 = .ok (.return_, 1) := by decide +kernel
theorem dX3_init_0 : decode cX3_init 0 = .ok (.aload_n 0, 1) := by decide +kernel
theorem dX3_init_1 : decode cX3_init 1 = .ok (.invokespecial 3, 3) := by decide +kernel
theorem dX3_init_4 : decode cX3_init 4 = .ok (.aload_n 0, 1) := by decide +kernel
theorem dX3_init_5 : decode cX3_init 5 = .ok (.bipush 40, 2) := by decide +kernel
theorem dX3_init_7 : decode cX3_init 7 = .ok (.newarray .int, 2) := by decide +kernel
theorem dX3_init_9 : decode cX3_init 9 = .ok (.putfield 9, 3) := by decide +kernel
theorem dX3_init_12 : decode cX3_init 12 = .ok (.aload_n 0, 1) := by decide +kernel
theorem dX3_init_13 : decode cX3_init 13 = .ok (.iconst 0, 1) := by decide +kernel
theorem dX3_init_14 : decode cX3_init 14 = .ok (.putfield 15, 3) := by decide +kernel
theorem dX3_init_17 : decode cX3_init 17 = .ok (.aload_n 0, 1) := by decide +kernel
theorem dX3_init_18 : decode cX3_init 18 = .ok (.iconst 0, 1) := by decide +kernel
theorem dX3_init_19 : decode cX3_init 19 = .ok (.putfield 19, 3) := by decide +kernel
theorem dX3_init_22 : decode cX3_init 22 = .ok (.return_, 1) := by decide +kernel
theorem dX3_isMissing_0 : decode cX3_isMissing 0 = .ok (.aload_n 0, 1) := by decide +kernel
theorem dX3_isMissing_1 : decode cX3_isMissing 1 = .ok (.getfield 15, 3) := by decide +kernel
theorem dX3_isMissing_4 : decode cX3_isMissing 4 = .ok (.ifCond .ne 7, 3) := by decide +kernel
theorem dX3_isMissing_7 : decode cX3_isMissing 7 = .ok (.iconst 1, 1) := by decide +kernel
theorem dX3_isMissing_8 : decode cX3_isMissing 8 = .ok (.goto 4, 3) := by decide +kernel
theorem dX3_isMissing_11 : decode cX3_isMissing 11 = .ok (.iconst 0, 1) := by decide +kernel
theorem dX3_isMissing_12 : decode cX3_isMissing 12 = .ok (.ireturn, 1) := by decide +kernel
theorem dX3_begin_0 : decode cX3_begin 0 = .ok (.aload_n 0, 1) := by decide +kernel
theorem dX3_begin_1 : decode cX3_begin 1 = .ok (.iload_n 1, 1) := by decide +kernel
theorem dX3_begin_2 : decode cX3_begin 2 = .ok (.putfield 15, 3) := by decide +kernel
theorem dX3_begin_5 : decode cX3_begin 5 = .ok (.aload_n 0, 1) := by decide +kernel
theorem dX3_begin_6 : decode cX3_begin 6 = .ok (.iload_n 2, 1) := by decide +kernel
theorem dX3_begin_7 : decode cX3_begin 7 = .ok (.putfield 19, 3) := by decide +kernel
theorem dX3_begin_10 : decode cX3_begin 10 = .ok (.iconst 0, 1) := by decide +kernel
theorem dX3_begin_11 : decode cX3_begin 11 = .ok (.istore_n 3, 1) := by decide +kernel
theorem dX3_begin_12 : decode cX3_begin 12 = .ok (.iload_n 3, 1) := by decide +kernel
theorem dX3_begin_13 : decode cX3_begin 13 = .ok (.bipush 40, 2) := by decide +kernel
theorem dX3_begin_15 : decode cX3_begin 15 = .ok (.if_icmp .ge 16, 3) := by decide +kernel
theorem dX3_begin_18 : decode cX3_begin 18 = .ok (.aload_n 0, 1) := by decide +kernel
theorem dX3_begin_19 : decode cX3_begin 19 = .ok (.getfield 9, 3) := by decide +kernel
theorem dX3_begin_22 : decode cX3_begin 22 = .ok (.iload_n 3, 1) := by decide +kernel
theorem dX3_begin_23 : decode cX3_begin 23 = .ok (.iconst 0, 1) := by decide +kernel
theorem dX3_begin_24 : decode cX3_begin 24 = .ok (.iastore, 1) := by decide +kernel
theorem dX3_begin_25 : decode cX3_begin 25 = .ok (.iinc 3 1, 3) := by decide +kernel
theorem dX3_begin_28 : decode cX3_begin 28 = .ok (.goto (-16), 3) := by decide +kernel
theorem dX3_begin_31 : decode cX3_begin 31 = .ok (.return_, 1) := by decide +kernel
theorem dX3_put_0 : decode cX3_put 0 = .ok (.bipush 32, 2) := by decide +kernel
theorem dX3_put_2 : decode cX3_put 2 = .ok (.aload_n 0, 1) := by decide +kernel
theorem dX3_put_3 : decode cX3_put 3 = .ok (.getfield 15, 3) := by decide +kernel
theorem dX3_put_6 : decode cX3_put 6 = .ok (.isub, 1) := by decide +kernel
theorem dX3_put_7 : decode cX3_put 7 = .ok (.istore_n 3, 1) := by decide +kernel
theorem dX3_put_8 : decode cX3_put 8 = .ok (.aload_n 0, 1) := by decide +kernel
theorem dX3_put_9 : decode cX3_put 9 = .ok (.getfield 9, 3) := by decide +kernel
theorem dX3_put_12 : decode cX3_put 12 = .ok (.iload_n 1, 1) := by decide +kernel
theorem dX3_put_13 : decode cX3_put 13 = .ok (.iload_n 2, 1) := by decide +kernel
theorem dX3_put_14 : decode cX3_put 14 = .ok (.iload_n 3, 1) := by decide +kernel
theorem dX3_put_15 : decode cX3_put 15 = .ok (.ishl, 1) := by decide +kernel
theorem dX3_put_16 : decode cX3_put 16 = .ok (.iload_n 3, 1) := by decide +kernel
theorem dX3_put_17 : decode cX3_put 17 = .ok (.ishr, 1) := by decide +kernel
theorem dX3_put_18 : decode cX3_put 18 = .ok (.iastore, 1) := by decide +kernel
theorem dX3_put_19 : decode cX3_put 19 = .ok (.return_, 1) := by decide +kernel
theorem dX3_has_0 : decode cX3_has 0 = .ok (.iload_n 1, 1) := by decide +kernel
theorem dX3_has_1 : decode cX3_has 1 = .ok (.ifCond .lt 29, 3) := by decide +kernel
theorem dX3_has_4 : decode cX3_has 4 = .ok (.iload_n 2, 1) := by decide +kernel
theorem dX3_has_5 : decode cX3_has 5 = .ok (.ifCond .lt 25, 3) := by decide +kernel
theorem dX3_has_8 : decode cX3_has 8 = .ok (.iload_n 1, 1) := by decide +kernel
theorem dX3_has_9 : decode cX3_has 9 = .ok (.aload_n 0, 1) := by decide +kernel
theorem dX3_has_10 : decode cX3_has 10 = .ok (.getfield 19, 3) := by decide +kernel
theorem dX3_has_13 : decode cX3_has 13 = .ok (.if_icmp .gt 17, 3) := by decide +kernel
theorem dX3_has_16 : decode cX3_has 16 = .ok (.iload_n 2, 1) := by decide +kernel
theorem dX3_has_17 : decode cX3_has 17 = .ok (.aload_n 0, 1) := by decide +kernel
theorem dX3_has_18 : decode cX3_has 18 = .ok (.getfield 19, 3) := by decide +kernel
theorem dX3_has_21 : decode cX3_has 21 = .ok (.iload_n 1, 1) := by decide +kernel
theorem dX3_has_22 : decode cX3_has 22 = .ok (.isub, 1) := by decide +kernel
theorem dX3_has_23 : decode cX3_has 23 = .ok (.if_icmp .gt 7, 3) := by decide +kernel
theorem dX3_has_26 : decode cX3_has 26 = .ok (.iconst 1, 1) := by decide +kernel
theorem dX3_has_27 : decode cX3_has 27 = .ok (.goto 4, 3) := by decide +kernel
theorem dX3_has_30 : decode cX3_has 30 = .ok (.iconst 0, 1) := by decide +kernel
theorem dX3_has_31 : decode cX3_has 31 = .ok (.ireturn, 1) := by decide +kernel
theorem dX4_init_0 : decode cX4_init 0 = .ok (.aload_n 0, 1) := by decide +kernel
theorem dX4_init_1 : decode cX4_init 1 = .ok (.invokespecial 3, 3) := by decide +kernel
theorem dX4_init_4 : decode cX4_init 4 = .ok (.aload_n 0, 1) := by decide +kernel
theorem dX4_init_5 : decode cX4_init 5 = .ok (.bipush 120, 2) := by decide +kernel
theorem dX4_init_7 : decode cX4_init 7 = .ok (.newarray .int, 2) := by decide +kernel
theorem dX4_init_9 : decode cX4_init 9 = .ok (.putfield 9, 3) := by decide +kernel
theorem dX4_init_12 : decode cX4_init 12 = .ok (.aload_n 0, 1) := by decide +kernel
theorem dX4_init_13 : decode cX4_init 13 = .ok (.iconst 0, 1) := by decide +kernel
theorem dX4_init_14 : decode cX4_init 14 = .ok (.putfield 15, 3) := by decide +kernel
theorem dX4_init_17 : decode cX4_init 17 = .ok (.return_, 1) := by decide +kernel
theorem dX4_put_0 : decode cX4_put 0 = .ok (.aload_n 0, 1) := by decide +kernel
theorem dX4_put_1 : decode cX4_put 1 = .ok (.getfield 15, 3) := by decide +kernel
theorem dX4_put_4 : decode cX4_put 4 = .ok (.bipush 120, 2) := by decide +kernel
theorem dX4_put_6 : decode cX4_put 6 = .ok (.if_icmp .ge 23, 3) := by decide +kernel
theorem dX4_put_9 : decode cX4_put 9 = .ok (.aload_n 0, 1) := by decide +kernel
theorem dX4_put_10 : decode cX4_put 10 = .ok (.getfield 9, 3) := by decide +kernel
theorem dX4_put_13 : decode cX4_put 13 = .ok (.aload_n 0, 1) := by decide +kernel
theorem dX4_put_14 : decode cX4_put 14 = .ok (.getfield 15, 3) := by decide +kernel
theorem dX4_put_17 : decode cX4_put 17 = .ok (.iload_n 1, 1) := by decide +kernel
theorem dX4_put_18 : decode cX4_put 18 = .ok (.iastore, 1) := by decide +kernel
theorem dX4_put_19 : decode cX4_put 19 = .ok (.aload_n 0, 1) := by decide +kernel
theorem dX4_put_20 : decode cX4_put 20 = .ok (.dup, 1) := by decide +kernel
theorem dX4_put_21 : decode cX4_put 21 = .ok (.getfield 15, 3) := by decide +kernel
theorem dX4_put_24 : decode cX4_put 24 = .ok (.iconst 1, 1) := by decide +kernel
theorem dX4_put_25 : decode cX4_put 25 = .ok (.iadd, 1) := by decide +kernel
theorem dX4_put_26 : decode cX4_put 26 = .ok (.putfield 15, 3) := by decide +kernel
theorem dX4_put_29 : decode cX4_put 29 = .ok (.return_, 1) := by decide +kernel
theorem dX5_init_0 : decode cX5_init 0 = .ok (.aload_n 0, 1) := by decide +kernel
theorem dX5_init_1 : decode cX5_init 1 = .ok (.invokespecial 3, 3) := by decide +kernel
theorem dX5_init_4 : decode cX5_init 4 = .ok (.aload_n 0, 1) := by decide +kernel
theorem dX5_init_5 : decode cX5_init 5 = .ok (.iconst 0, 1) := by decide +kernel
theorem dX5_init_6 : decode cX5_init 6 = .ok (.putfield 11, 3) := by decide +kernel
theorem dX5_init_9 : decode cX5_init 9 = .ok (.aload_n 0, 1) := by decide +kernel
theorem dX5_init_10 : decode cX5_init 10 = .ok (.iconst 0, 1) := by decide +kernel
theorem dX5_init_11 : decode cX5_init 11 = .ok (.putfield 15, 3) := by decide +kernel
theorem dX5_init_14 : decode cX5_init 14 = .ok (.aload_n 0, 1) := by decide +kernel
theorem dX5_init_15 : decode cX5_init 15 = .ok (.iconst 0, 1) := by decide +kernel
theorem dX5_init_16 : decode cX5_init 16 = .ok (.putfield 18, 3) := by decide +kernel
theorem dX5_init_19 : decode cX5_init 19 = .ok (.aload_n 0, 1) := by decide +kernel
theorem dX5_init_20 : decode cX5_init 20 = .ok (.iconst 0, 1) := by decide +kernel
theorem dX5_init_21 : decode cX5_init 21 = .ok (.putfield 21, 3) := by decide +kernel
theorem dX5_init_24 : decode cX5_init 24 = .ok (.aload_n 0, 1) := by decide +kernel
theorem dX5_init_25 : decode cX5_init 25 = .ok (.iconst 0, 1) := by decide +kernel
theorem dX5_init_26 : decode cX5_init 26 = .ok (.putfield 24, 3) := by decide +kernel
theorem dX5_init_29 : decode cX5_init 29 = .ok (.aload_n 0, 1) := by decide +kernel
theorem dX5_init_30 : decode cX5_init 30 = .ok (.aload_n 1, 1) := by decide +kernel
theorem dX5_init_31 : decode cX5_init 31 = .ok (.putfield 27, 3) := by decide +kernel
theorem dX5_init_34 : decode cX5_init 34 = .ok (.return_, 1) := by decide +kernel
theorem dX5_read_0 : decode cX5_read 0 = .ok (.aload_n 0, 1) := by decide +kernel
theorem dX5_read_1 : decode cX5_read 1 = .ok (.iconst 0, 1) := by decide +kernel
theorem dX5_read_2 : decode cX5_read 2 = .ok (.putfield 18, 3) := by decide +kernel
theorem dX5_read_5 : decode cX5_read 5 = .ok (.iconst 1, 1) := by decide +kernel
theorem dX5_read_6 : decode cX5_read 6 = .ok (.istore_n 2, 1) := by decide +kernel
theorem dX5_read_7 : decode cX5_read 7 = .ok (.iload_n 2, 1) := by decide +kernel
theorem dX5_read_8 : decode cX5_read 8 = .ok (.bipush 120, 2) := by decide +kernel
theorem dX5_read_10 : decode cX5_read 10 = .ok (.if_icmp .gt 52, 3) := by decide +kernel
theorem dX5_read_13 : decode cX5_read 13 = .ok (.aload_n 0, 1) := by decide +kernel
theorem dX5_read_14 : decode cX5_read 14 = .ok (.invokevirtual 31, 3) := by decide +kernel
theorem dX5_read_17 : decode cX5_read 17 = .ok (.aload_n 0, 1) := by decide +kernel
theorem dX5_read_18 : decode cX5_read 18 = .ok (.aload_n 1, 1) := by decide +kernel
theorem dX5_read_19 : decode cX5_read 19 = .ok (.invokevirtual 34, 3) := by decide +kernel
theorem dX5_read_22 : decode cX5_read 22 = .ok (.ifCond .ne 10, 3) := by decide +kernel
theorem dX5_read_25 : decode cX5_read 25 = .ok (.iconst (-1), 1) := by decide +kernel
theorem dX5_read_26 : decode cX5_read 26 = .ok (.aload_n 0, 1) := by decide +kernel
theorem dX5_read_27 : decode cX5_read 27 = .ok (.getfield 15, 3) := by decide +kernel
theorem dX5_read_30 : decode cX5_read 30 = .ok (.isub, 1) := by decide +kernel
theorem dX5_read_31 : decode cX5_read 31 = .ok (.ireturn, 1) := by decide +kernel
theorem dX5_read_32 : decode cX5_read 32 = .ok (.aload_n 0, 1) := by decide +kernel
theorem dX5_read_33 : decode cX5_read 33 = .ok (.getfield 11, 3) := by decide +kernel
theorem dX5_read_36 : decode cX5_read 36 = .ok (.ifCond .ne 5, 3) := by decide +kernel
theorem dX5_read_39 : decode cX5_read 39 = .ok (.iload_n 2, 1) := by decide +kernel
theorem dX5_read_40 : decode cX5_read 40 = .ok (.ireturn, 1) := by decide +kernel
theorem dX5_read_41 : decode cX5_read 41 = .ok (.aload_n 0, 1) := by decide +kernel
theorem dX5_read_42 : decode cX5_read 42 = .ok (.getfield 11, 3) := by decide +kernel
theorem dX5_read_45 : decode cX5_read 45 = .ok (.iconst 3, 1) := by decide +kernel
theorem dX5_read_46 : decode cX5_read 46 = .ok (.if_icmp .eq 10, 3) := by decide +kernel
theorem dX5_read_49 : decode cX5_read 49 = .ok (.iconst (-1), 1) := by decide +kernel
theorem dX5_read_50 : decode cX5_read 50 = .ok (.aload_n 0, 1) := by decide +kernel
theorem dX5_read_51 : decode cX5_read 51 = .ok (.getfield 15, 3) := by decide +kernel
theorem dX5_read_54 : decode cX5_read 54 = .ok (.isub, 1) := by decide +kernel
theorem dX5_read_55 : decode cX5_read 55 = .ok (.ireturn, 1) := by decide +kernel
theorem dX5_read_56 : decode cX5_read 56 = .ok (.iinc 2 1, 3) := by decide +kernel
theorem dX5_read_59 : decode cX5_read 59 = .ok (.goto (-52), 3) := by decide +kernel
theorem dX5_read_62 : decode cX5_read 62 = .ok (.iconst (-1), 1) := by decide +kernel
theorem dX5_read_63 : decode cX5_read 63 = .ok (.aload_n 0, 1) := by decide +kernel
theorem dX5_read_64 : decode cX5_read 64 = .ok (.getfield 15, 3) := by decide +kernel
theorem dX5_read_67 : decode cX5_read 67 = .ok (.isub, 1) := by decide +kernel
theorem dX5_read_68 : decode cX5_read 68 = .ok (.ireturn, 1) := by decide +kernel
theorem dX5_readItem_0 : decode cX5_readItem 0 = .ok (.aload_n 0, 1) := by decide +kernel
theorem dX5_readItem_1 : decode cX5_readItem 1 = .ok (.invokevirtual 38, 3) := by decide +kernel
theorem dX5_readItem_4 : decode cX5_readItem 4 = .ok (.istore_n 2, 1) := by decide +kernel
theorem dX5_readItem_5 : decode cX5_readItem 5 = .ok (.iload_n 2, 1) := by decide +kernel
theorem dX5_readItem_6 : decode cX5_readItem 6 = .ok (.ifCond .lt 27, 3) := by decide +kernel
theorem dX5_readItem_9 : decode cX5_readItem 9 = .ok (.aload_n 1, 1) := by decide +kernel
theorem dX5_readItem_10 : decode cX5_readItem 10 = .ok (.getfield 42, 3) := by decide +kernel
theorem dX5_readItem_13 : decode cX5_readItem 13 = .ok (.bipush 10, 2) := by decide +kernel
theorem dX5_readItem_15 : decode cX5_readItem 15 = .ok (.if_icmp .ge 16, 3) := by decide +kernel
theorem dX5_readItem_18 : decode cX5_readItem 18 = .ok (.aload_n 0, 1) := by decide +kernel
theorem dX5_readItem_19 : decode cX5_readItem 19 = .ok (.aload_n 1, 1) := by decide +kernel
theorem dX5_readItem_20 : decode cX5_readItem 20 = .ok (.iload_n 2, 1) := by decide +kernel
theorem dX5_readItem_21 : decode cX5_readItem 21 = .ok (.invokevirtual 47, 3) := by decide +kernel
theorem dX5_readItem_24 : decode cX5_readItem 24 = .ok (.ifCond .eq 7, 3) := by decide +kernel
theorem dX5_readItem_27 : decode cX5_readItem 27 = .ok (.iconst 1, 1) := by decide +kernel
theorem dX5_readItem_28 : decode cX5_readItem 28 = .ok (.goto 4, 3) := by decide +kernel
theorem dX5_readItem_31 : decode cX5_readItem 31 = .ok (.iconst 0, 1) := by decide +kernel
theorem dX5_readItem_32 : decode cX5_readItem 32 = .ok (.ireturn, 1) := by decide +kernel
theorem dX5_readItem_33 : decode cX5_readItem 33 = .ok (.aload_n 0, 1) := by decide +kernel
theorem dX5_readItem_34 : decode cX5_readItem 34 = .ok (.ldc 51, 2) := by decide +kernel
theorem dX5_readItem_36 : decode cX5_readItem 36 = .ok (.invokevirtual 53, 3) := by decide +kernel
theorem dX5_readItem_39 : decode cX5_readItem 39 = .ok (.ifCond .eq 9, 3) := by decide +kernel
theorem dX5_readItem_42 : decode cX5_readItem 42 = .ok (.aload_n 0, 1) := by decide +kernel
theorem dX5_readItem_43 : decode cX5_readItem 43 = .ok (.aload_n 1, 1) := by decide +kernel
theorem dX5_readItem_44 : decode cX5_readItem 44 = .ok (.invokevirtual 57, 3) := by decide +kernel
theorem dX5_readItem_47 : decode cX5_readItem 47 = .ok (.ireturn, 1) := by decide +kernel
theorem dX5_readItem_48 : decode cX5_readItem 48 = .ok (.aload_n 0, 1) := by decide +kernel
theorem dX5_readItem_49 : decode cX5_readItem 49 = .ok (.ldc 60, 2) := by decide +kernel
theorem dX5_readItem_51 : decode cX5_readItem 51 = .ok (.invokevirtual 53, 3) := by decide +kernel
theorem dX5_readItem_54 : decode cX5_readItem 54 = .ok (.ifCond .eq 9, 3) := by decide +kernel
theorem dX5_readItem_57 : decode cX5_readItem 57 = .ok (.aload_n 0, 1) := by decide +kernel
theorem dX5_readItem_58 : decode cX5_readItem 58 = .ok (.aload_n 1, 1) := by decide +kernel
theorem dX5_readItem_59 : decode cX5_readItem 59 = .ok (.invokevirtual 62, 3) := by decide +kernel
theorem dX5_readItem_62 : decode cX5_readItem 62 = .ok (.ireturn, 1) := by decide +kernel
theorem dX5_readItem_63 : decode cX5_readItem 63 = .ok (.aload_n 0, 1) := by decide +kernel
theorem dX5_readItem_64 : decode cX5_readItem 64 = .ok (.ldc 65, 2) := by decide +kernel
theorem dX5_readItem_66 : decode cX5_readItem 66 = .ok (.invokevirtual 53, 3) := by decide +kernel
theorem dX5_readItem_69 : decode cX5_readItem 69 = .ok (.ifCond .eq 15, 3) := by decide +kernel
theorem dX5_readItem_72 : decode cX5_readItem 72 = .ok (.aload_n 0, 1) := by decide +kernel
theorem dX5_readItem_73 : decode cX5_readItem 73 = .ok (.aload_n 1, 1) := by decide +kernel
theorem dX5_readItem_74 : decode cX5_readItem 74 = .ok (.invokevirtual 67, 3) := by decide +kernel
theorem dX5_readItem_77 : decode cX5_readItem 77 = .ok (.ifCond .eq 7, 3) := by decide +kernel
theorem dX5_readItem_80 : decode cX5_readItem 80 = .ok (.iconst 1, 1) := by decide +kernel
theorem dX5_readItem_81 : decode cX5_readItem 81 = .ok (.goto 4, 3) := by decide +kernel
theorem dX5_readItem_84 : decode cX5_readItem 84 = .ok (.iconst 0, 1) := by decide +kernel
theorem dX5_readItem_85 : decode cX5_readItem 85 = .ok (.ireturn, 1) := by decide +kernel
theorem dX5_readDrinker_0 : decode cX5_readDrinker 0 = .ok (.aload_n 0, 1) := by decide +kernel
theorem dX5_readDrinker_1 : decode cX5_readDrinker 1 = .ok (.invokevirtual 31, 3) := by decide +kernel
theorem dX5_readDrinker_4 : decode cX5_readDrinker 4 = .ok (.aload_n 0, 1) := by decide +kernel
theorem dX5_readDrinker_5 : decode cX5_readDrinker 5 = .ok (.iconst 1, 1) := by decide +kernel
theorem dX5_readDrinker_6 : decode cX5_readDrinker 6 = .ok (.bipush 9, 2) := by decide +kernel
theorem dX5_readDrinker_8 : decode cX5_readDrinker 8 = .ok (.invokevirtual 70, 3) := by decide +kernel
theorem dX5_readDrinker_11 : decode cX5_readDrinker 11 = .ok (.ifCond .ne 5, 3) := by decide +kernel
theorem dX5_readDrinker_14 : decode cX5_readDrinker 14 = .ok (.iconst 0, 1) := by decide +kernel
theorem dX5_readDrinker_15 : decode cX5_readDrinker 15 = .ok (.ireturn, 1) := by decide +kernel
theorem dX5_readDrinker_16 : decode cX5_readDrinker 16 = .ok (.aload_n 1, 1) := by decide +kernel
theorem dX5_readDrinker_17 : decode cX5_readDrinker 17 = .ok (.iload_n 2, 1) := by decide +kernel
theorem dX5_readDrinker_18 : decode cX5_readDrinker 18 = .ok (.aload_n 0, 1) := by decide +kernel
theorem dX5_readDrinker_19 : decode cX5_readDrinker 19 = .ok (.getfield 24, 3) := by decide +kernel
theorem dX5_readDrinker_22 : decode cX5_readDrinker 22 = .ok (.invokevirtual 74, 3) := by decide +kernel
theorem dX5_readDrinker_25 : decode cX5_readDrinker 25 = .ok (.astore_n 3, 1) := by decide +kernel
theorem dX5_readDrinker_26 : decode cX5_readDrinker 26 = .ok (.aload_n 0, 1) := by decide +kernel
theorem dX5_readDrinker_27 : decode cX5_readDrinker 27 = .ok (.ldc 78, 2) := by decide +kernel
theorem dX5_readDrinker_29 : decode cX5_readDrinker 29 = .ok (.invokevirtual 53, 3) := by decide +kernel
theorem dX5_readDrinker_32 : decode cX5_readDrinker 32 = .ok (.ifCond .eq 24, 3) := by decide +kernel
theorem dX5_readDrinker_35 : decode cX5_readDrinker 35 = .ok (.aload_n 0, 1) := by decide +kernel
theorem dX5_readDrinker_36 : decode cX5_readDrinker 36 = .ok (.iconst 0, 1) := by decide +kernel
theorem dX5_readDrinker_37 : decode cX5_readDrinker 37 = .ok (.sipush 9999, 3) := by decide +kernel
theorem dX5_readDrinker_40 : decode cX5_readDrinker 40 = .ok (.invokevirtual 70, 3) := by decide +kernel
theorem dX5_readDrinker_43 : decode cX5_readDrinker 43 = .ok (.ifCond .ne 5, 3) := by decide +kernel
theorem dX5_readDrinker_46 : decode cX5_readDrinker 46 = .ok (.iconst 0, 1) := by decide +kernel
theorem dX5_readDrinker_47 : decode cX5_readDrinker 47 = .ok (.ireturn, 1) := by decide +kernel
theorem dX5_readDrinker_48 : decode cX5_readDrinker 48 = .ok (.aload_n 3, 1) := by decide +kernel
theorem dX5_readDrinker_49 : decode cX5_readDrinker 49 = .ok (.aload_n 0, 1) := by decide +kernel
theorem dX5_readDrinker_50 : decode cX5_readDrinker 50 = .ok (.getfield 24, 3) := by decide +kernel
theorem dX5_readDrinker_53 : decode cX5_readDrinker 53 = .ok (.putfield 80, 3) := by decide +kernel
theorem dX5_readDrinker_56 : decode cX5_readDrinker 56 = .ok (.aload_n 0, 1) := by decide +kernel
theorem dX5_readDrinker_57 : decode cX5_readDrinker 57 = .ok (.ldc 84, 2) := by decide +kernel
theorem dX5_readDrinker_59 : decode cX5_readDrinker 59 = .ok (.invokevirtual 53, 3) := by decide +kernel
theorem dX5_readDrinker_62 : decode cX5_readDrinker 62 = .ok (.ifCond .eq 23, 3) := by decide +kernel
theorem dX5_readDrinker_65 : decode cX5_readDrinker 65 = .ok (.aload_n 0, 1) := by decide +kernel
theorem dX5_readDrinker_66 : decode cX5_readDrinker 66 = .ok (.iconst 0, 1) := by decide +kernel
theorem dX5_readDrinker_67 : decode cX5_readDrinker 67 = .ok (.bipush 99, 2) := by decide +kernel
theorem dX5_readDrinker_69 : decode cX5_readDrinker 69 = .ok (.invokevirtual 70, 3) := by decide +kernel
theorem dX5_readDrinker_72 : decode cX5_readDrinker 72 = .ok (.ifCond .ne 5, 3) := by decide +kernel
theorem dX5_readDrinker_75 : decode cX5_readDrinker 75 = .ok (.iconst 0, 1) := by decide +kernel
theorem dX5_readDrinker_76 : decode cX5_readDrinker 76 = .ok (.ireturn, 1) := by decide +kernel
theorem dX5_readDrinker_77 : decode cX5_readDrinker 77 = .ok (.aload_n 3, 1) := by decide +kernel
theorem dX5_readDrinker_78 : decode cX5_readDrinker 78 = .ok (.aload_n 0, 1) := by decide +kernel
theorem dX5_readDrinker_79 : decode cX5_readDrinker 79 = .ok (.getfield 24, 3) := by decide +kernel
theorem dX5_readDrinker_82 : decode cX5_readDrinker 82 = .ok (.putfield 86, 3) := by decide +kernel
theorem dX5_readDrinker_85 : decode cX5_readDrinker 85 = .ok (.iconst 1, 1) := by decide +kernel
theorem dX5_readDrinker_86 : decode cX5_readDrinker 86 = .ok (.ireturn, 1) := by decide +kernel
theorem dX5_readPrice_0 : decode cX5_readPrice 0 = .ok (.aload_n 0, 1) := by decide +kernel
theorem dX5_readPrice_1 : decode cX5_readPrice 1 = .ok (.iconst 0, 1) := by decide +kernel
theorem dX5_readPrice_2 : decode cX5_readPrice 2 = .ok (.bipush 99, 2) := by decide +kernel
theorem dX5_readPrice_4 : decode cX5_readPrice 4 = .ok (.invokevirtual 70, 3) := by decide +kernel
theorem dX5_readPrice_7 : decode cX5_readPrice 7 = .ok (.ifCond .ne 5, 3) := by decide +kernel
theorem dX5_readPrice_10 : decode cX5_readPrice 10 = .ok (.iconst 0, 1) := by decide +kernel
theorem dX5_readPrice_11 : decode cX5_readPrice 11 = .ok (.ireturn, 1) := by decide +kernel
theorem dX5_readPrice_12 : decode cX5_readPrice 12 = .ok (.aload_n 1, 1) := by decide +kernel
theorem dX5_readPrice_13 : decode cX5_readPrice 13 = .ok (.aload_n 0, 1) := by decide +kernel
theorem dX5_readPrice_14 : decode cX5_readPrice 14 = .ok (.getfield 24, 3) := by decide +kernel
theorem dX5_readPrice_17 : decode cX5_readPrice 17 = .ok (.putfield 88, 3) := by decide +kernel
theorem dX5_readPrice_20 : decode cX5_readPrice 20 = .ok (.iconst 1, 1) := by decide +kernel
theorem dX5_readPrice_21 : decode cX5_readPrice 21 = .ok (.ireturn, 1) := by decide +kernel
theorem dX5_readPot_0 : decode cX5_readPot 0 = .ok (.aload_n 0, 1) := by decide +kernel
theorem dX5_readPot_1 : decode cX5_readPot 1 = .ok (.iconst 1, 1) := by decide +kernel
theorem dX5_readPot_2 : decode cX5_readPot 2 = .ok (.bipush 99, 2) := by decide +kernel
theorem dX5_readPot_4 : decode cX5_readPot 4 = .ok (.invokevirtual 70, 3) := by decide +kernel
theorem dX5_readPot_7 : decode cX5_readPot 7 = .ok (.ifCond .ne 5, 3) := by decide +kernel
theorem dX5_readPot_10 : decode cX5_readPot 10 = .ok (.iconst 0, 1) := by decide +kernel
theorem dX5_readPot_11 : decode cX5_readPot 11 = .ok (.ireturn, 1) := by decide +kernel
theorem dX5_readPot_12 : decode cX5_readPot 12 = .ok (.aload_n 1, 1) := by decide +kernel
theorem dX5_readPot_13 : decode cX5_readPot 13 = .ok (.aload_n 0, 1) := by decide +kernel
theorem dX5_readPot_14 : decode cX5_readPot 14 = .ok (.getfield 24, 3) := by decide +kernel
theorem dX5_readPot_17 : decode cX5_readPot 17 = .ok (.invokevirtual 90, 3) := by decide +kernel
theorem dX5_readPot_20 : decode cX5_readPot 20 = .ok (.iconst 1, 1) := by decide +kernel
theorem dX5_readPot_21 : decode cX5_readPot 21 = .ok (.ireturn, 1) := by decide +kernel
theorem dX5_readSign_0 : decode cX5_readSign 0 = .ok (.iconst 0, 1) := by decide +kernel
theorem dX5_readSign_1 : decode cX5_readSign 1 = .ok (.istore_n 2, 1) := by decide +kernel
theorem dX5_readSign_2 : decode cX5_readSign 2 = .ok (.iload_n 2, 1) := by decide +kernel
theorem dX5_readSign_3 : decode cX5_readSign 3 = .ok (.iconst 2, 1) := by decide +kernel
theorem dX5_readSign_4 : decode cX5_readSign 4 = .ok (.if_icmp .gt 27, 3) := by decide +kernel
theorem dX5_readSign_7 : decode cX5_readSign 7 = .ok (.aload_n 0, 1) := by decide +kernel
theorem dX5_readSign_8 : decode cX5_readSign 8 = .ok (.iload_n 2, 1) := by decide +kernel
theorem dX5_readSign_9 : decode cX5_readSign 9 = .ok (.invokestatic 94, 3) := by decide +kernel
theorem dX5_readSign_12 : decode cX5_readSign 12 = .ok (.invokevirtual 53, 3) := by decide +kernel
theorem dX5_readSign_15 : decode cX5_readSign 15 = .ok (.ifCond .eq 10, 3) := by decide +kernel
theorem dX5_readSign_18 : decode cX5_readSign 18 = .ok (.aload_n 1, 1) := by decide +kernel
theorem dX5_readSign_19 : decode cX5_readSign 19 = .ok (.iload_n 2, 1) := by decide +kernel
theorem dX5_readSign_20 : decode cX5_readSign 20 = .ok (.putfield 98, 3) := by decide +kernel
theorem dX5_readSign_23 : decode cX5_readSign 23 = .ok (.iconst 1, 1) := by decide +kernel
theorem dX5_readSign_24 : decode cX5_readSign 24 = .ok (.ireturn, 1) := by decide +kernel
theorem dX5_readSign_25 : decode cX5_readSign 25 = .ok (.iinc 2 1, 3) := by decide +kernel
theorem dX5_readSign_28 : decode cX5_readSign 28 = .ok (.goto (-26), 3) := by decide +kernel
theorem dX5_readSign_31 : decode cX5_readSign 31 = .ok (.iconst 0, 1) := by decide +kernel
theorem dX5_readSign_32 : decode cX5_readSign 32 = .ok (.ireturn, 1) := by decide +kernel
theorem dX5_kindOfWord_0 : decode cX5_kindOfWord 0 = .ok (.iconst 0, 1) := by decide +kernel
theorem dX5_kindOfWord_1 : decode cX5_kindOfWord 1 = .ok (.istore_n 1, 1) := by decide +kernel
theorem dX5_kindOfWord_2 : decode cX5_kindOfWord 2 = .ok (.iload_n 1, 1) := by decide +kernel
theorem dX5_kindOfWord_3 : decode cX5_kindOfWord 3 = .ok (.bipush 7, 2) := by decide +kernel
theorem dX5_kindOfWord_5 : decode cX5_kindOfWord 5 = .ok (.if_icmp .ge 22, 3) := by decide +kernel
theorem dX5_kindOfWord_8 : decode cX5_kindOfWord 8 = .ok (.aload_n 0, 1) := by decide +kernel
theorem dX5_kindOfWord_9 : decode cX5_kindOfWord 9 = .ok (.iload_n 1, 1) := by decide +kernel
theorem dX5_kindOfWord_10 : decode cX5_kindOfWord 10 = .ok (.invokestatic 100, 3) := by decide +kernel
theorem dX5_kindOfWord_13 : decode cX5_kindOfWord 13 = .ok (.invokevirtual 103, 3) := by decide +kernel
theorem dX5_kindOfWord_16 : decode cX5_kindOfWord 16 = .ok (.ifCond .eq 5, 3) := by decide +kernel
theorem dX5_kindOfWord_19 : decode cX5_kindOfWord 19 = .ok (.iload_n 1, 1) := by decide +kernel
theorem dX5_kindOfWord_20 : decode cX5_kindOfWord 20 = .ok (.ireturn, 1) := by decide +kernel
theorem dX5_kindOfWord_21 : decode cX5_kindOfWord 21 = .ok (.iinc 1 1, 3) := by decide +kernel
theorem dX5_kindOfWord_24 : decode cX5_kindOfWord 24 = .ok (.goto (-22), 3) := by decide +kernel
theorem dX5_kindOfWord_27 : decode cX5_kindOfWord 27 = .ok (.iconst (-1), 1) := by decide +kernel
theorem dX5_kindOfWord_28 : decode cX5_kindOfWord 28 = .ok (.ireturn, 1) := by decide +kernel
theorem dX5_takeNumber_0 : decode cX5_takeNumber 0 = .ok (.aload_n 0, 1) := by decide +kernel
theorem dX5_takeNumber_1 : decode cX5_takeNumber 1 = .ok (.getfield 11, 3) := by decide +kernel
theorem dX5_takeNumber_4 : decode cX5_takeNumber 4 = .ok (.iconst 2, 1) := by decide +kernel
theorem dX5_takeNumber_5 : decode cX5_takeNumber 5 = .ok (.if_icmp .ne 15, 3) := by decide +kernel
theorem dX5_takeNumber_8 : decode cX5_takeNumber 8 = .ok (.aload_n 0, 1) := by decide +kernel
theorem dX5_takeNumber_9 : decode cX5_takeNumber 9 = .ok (.getfield 21, 3) := by decide +kernel
theorem dX5_takeNumber_12 : decode cX5_takeNumber 12 = .ok (.iload_n 1, 1) := by decide +kernel
theorem dX5_takeNumber_13 : decode cX5_takeNumber 13 = .ok (.iload_n 2, 1) := by decide +kernel
theorem dX5_takeNumber_14 : decode cX5_takeNumber 14 = .ok (.invokestatic 106, 3) := by decide +kernel
theorem dX5_takeNumber_17 : decode cX5_takeNumber 17 = .ok (.ifCond .ne 5, 3) := by decide +kernel
theorem dX5_takeNumber_20 : decode cX5_takeNumber 20 = .ok (.iconst 0, 1) := by decide +kernel
theorem dX5_takeNumber_21 : decode cX5_takeNumber 21 = .ok (.ireturn, 1) := by decide +kernel
theorem dX5_takeNumber_22 : decode cX5_takeNumber 22 = .ok (.aload_n 0, 1) := by decide +kernel
theorem dX5_takeNumber_23 : decode cX5_takeNumber 23 = .ok (.aload_n 0, 1) := by decide +kernel
theorem dX5_takeNumber_24 : decode cX5_takeNumber 24 = .ok (.getfield 21, 3) := by decide +kernel
theorem dX5_takeNumber_27 : decode cX5_takeNumber 27 = .ok (.putfield 24, 3) := by decide +kernel
theorem dX5_takeNumber_30 : decode cX5_takeNumber 30 = .ok (.aload_n 0, 1) := by decide +kernel
theorem dX5_takeNumber_31 : decode cX5_takeNumber 31 = .ok (.invokevirtual 31, 3) := by decide +kernel
theorem dX5_takeNumber_34 : decode cX5_takeNumber 34 = .ok (.iconst 1, 1) := by decide +kernel
theorem dX5_takeNumber_35 : decode cX5_takeNumber 35 = .ok (.ireturn, 1) := by decide +kernel
theorem dX5_takeWord_0 : decode cX5_takeWord 0 = .ok (.aload_n 0, 1) := by decide +kernel
theorem dX5_takeWord_1 : decode cX5_takeWord 1 = .ok (.aload_n 1, 1) := by decide +kernel
theorem dX5_takeWord_2 : decode cX5_takeWord 2 = .ok (.invokevirtual 103, 3) := by decide +kernel
theorem dX5_takeWord_5 : decode cX5_takeWord 5 = .ok (.ifCond .ne 5, 3) := by decide +kernel
theorem dX5_takeWord_8 : decode cX5_takeWord 8 = .ok (.iconst 0, 1) := by decide +kernel
theorem dX5_takeWord_9 : decode cX5_takeWord 9 = .ok (.ireturn, 1) := by decide +kernel
theorem dX5_takeWord_10 : decode cX5_takeWord 10 = .ok (.aload_n 0, 1) := by decide +kernel
theorem dX5_takeWord_11 : decode cX5_takeWord 11 = .ok (.invokevirtual 31, 3) := by decide +kernel
theorem dX5_takeWord_14 : decode cX5_takeWord 14 = .ok (.iconst 1, 1) := by decide +kernel
theorem dX5_takeWord_15 : decode cX5_takeWord 15 = .ok (.ireturn, 1) := by decide +kernel
theorem dX5_isWord_0 : decode cX5_isWord 0 = .ok (.aload_n 0, 1) := by decide +kernel
theorem dX5_isWord_1 : decode cX5_isWord 1 = .ok (.getfield 11, 3) := by decide +kernel
theorem dX5_isWord_4 : decode cX5_isWord 4 = .ok (.iconst 1, 1) := by decide +kernel
theorem dX5_isWord_5 : decode cX5_isWord 5 = .ok (.if_icmp .ne 19, 3) := by decide +kernel
theorem dX5_isWord_8 : decode cX5_isWord 8 = .ok (.aload_n 0, 1) := by decide +kernel
theorem dX5_isWord_9 : decode cX5_isWord 9 = .ok (.getfield 18, 3) := by decide +kernel
theorem dX5_isWord_12 : decode cX5_isWord 12 = .ok (.aload_n 0, 1) := by decide +kernel
theorem dX5_isWord_13 : decode cX5_isWord 13 = .ok (.getfield 15, 3) := by decide +kernel
theorem dX5_isWord_16 : decode cX5_isWord 16 = .ok (.isub, 1) := by decide +kernel
theorem dX5_isWord_17 : decode cX5_isWord 17 = .ok (.aload_n 1, 1) := by decide +kernel
theorem dX5_isWord_18 : decode cX5_isWord 18 = .ok (.invokevirtual 110, 3) := by decide +kernel
theorem dX5_isWord_21 : decode cX5_isWord 21 = .ok (.if_icmp .eq 5, 3) := by decide +kernel
theorem dX5_isWord_24 : decode cX5_isWord 24 = .ok (.iconst 0, 1) := by decide +kernel
theorem dX5_isWord_25 : decode cX5_isWord 25 = .ok (.ireturn, 1) := by decide +kernel
theorem dX5_isWord_26 : decode cX5_isWord 26 = .ok (.iconst 0, 1) := by decide +kernel
theorem dX5_isWord_27 : decode cX5_isWord 27 = .ok (.istore_n 2, 1) := by decide +kernel
theorem dX5_isWord_28 : decode cX5_isWord 28 = .ok (.iload_n 2, 1) := by decide +kernel
theorem dX5_isWord_29 : decode cX5_isWord 29 = .ok (.aload_n 1, 1) := by decide +kernel
theorem dX5_isWord_30 : decode cX5_isWord 30 = .ok (.invokevirtual 110, 3) := by decide +kernel
theorem dX5_isWord_33 : decode cX5_isWord 33 = .ok (.if_icmp .ge 29, 3) := by decide +kernel
theorem dX5_isWord_36 : decode cX5_isWord 36 = .ok (.aload_n 0, 1) := by decide +kernel
theorem dX5_isWord_37 : decode cX5_isWord 37 = .ok (.aload_n 0, 1) := by decide +kernel
theorem dX5_isWord_38 : decode cX5_isWord 38 = .ok (.getfield 15, 3) := by decide +kernel
theorem dX5_isWord_41 : decode cX5_isWord 41 = .ok (.iload_n 2, 1) := by decide +kernel
theorem dX5_isWord_42 : decode cX5_isWord 42 = .ok (.iadd, 1) := by decide +kernel
theorem dX5_isWord_43 : decode cX5_isWord 43 = .ok (.invokevirtual 115, 3) := by decide +kernel
theorem dX5_isWord_46 : decode cX5_isWord 46 = .ok (.aload_n 1, 1) := by decide +kernel
theorem dX5_isWord_47 : decode cX5_isWord 47 = .ok (.iload_n 2, 1) := by decide +kernel
theorem dX5_isWord_48 : decode cX5_isWord 48 = .ok (.invokevirtual 119, 3) := by decide +kernel
theorem dX5_isWord_51 : decode cX5_isWord 51 = .ok (.if_icmp .eq 5, 3) := by decide +kernel
theorem dX5_isWord_54 : decode cX5_isWord 54 = .ok (.iconst 0, 1) := by decide +kernel
theorem dX5_isWord_55 : decode cX5_isWord 55 = .ok (.ireturn, 1) := by decide +kernel
theorem dX5_isWord_56 : decode cX5_isWord 56 = .ok (.iinc 2 1, 3) := by decide +kernel
theorem dX5_isWord_59 : decode cX5_isWord 59 = .ok (.goto (-31), 3) := by decide +kernel
theorem dX5_isWord_62 : decode cX5_isWord 62 = .ok (.iconst 1, 1) := by decide +kernel
theorem dX5_isWord_63 : decode cX5_isWord 63 = .ok (.ireturn, 1) := by decide +kernel
theorem dX5_advance_0 : decode cX5_advance 0 = .ok (.aload_n 0, 1) := by decide +kernel
theorem dX5_advance_1 : decode cX5_advance 1 = .ok (.aload_n 0, 1) := by decide +kernel
theorem dX5_advance_2 : decode cX5_advance 2 = .ok (.getfield 18, 3) := by decide +kernel
theorem dX5_advance_5 : decode cX5_advance 5 = .ok (.putfield 15, 3) := by decide +kernel
theorem dX5_advance_8 : decode cX5_advance 8 = .ok (.aload_n 0, 1) := by decide +kernel
theorem dX5_advance_9 : decode cX5_advance 9 = .ok (.getfield 15, 3) := by decide +kernel
theorem dX5_advance_12 : decode cX5_advance 12 = .ok (.aload_n 0, 1) := by decide +kernel
theorem dX5_advance_13 : decode cX5_advance 13 = .ok (.getfield 27, 3) := by decide +kernel
theorem dX5_advance_16 : decode cX5_advance 16 = .ok (.getfield 123, 3) := by decide +kernel
theorem dX5_advance_19 : decode cX5_advance 19 = .ok (.if_icmp .ge 29, 3) := by decide +kernel
theorem dX5_advance_22 : decode cX5_advance 22 = .ok (.aload_n 0, 1) := by decide +kernel
theorem dX5_advance_23 : decode cX5_advance 23 = .ok (.aload_n 0, 1) := by decide +kernel
theorem dX5_advance_24 : decode cX5_advance 24 = .ok (.getfield 15, 3) := by decide +kernel
theorem dX5_advance_27 : decode cX5_advance 27 = .ok (.invokevirtual 115, 3) := by decide +kernel
theorem dX5_advance_30 : decode cX5_advance 30 = .ok (.bipush 32, 2) := by decide +kernel
theorem dX5_advance_32 : decode cX5_advance 32 = .ok (.if_icmp .ne 16, 3) := by decide +kernel
theorem dX5_advance_35 : decode cX5_advance 35 = .ok (.aload_n 0, 1) := by decide +kernel
theorem dX5_advance_36 : decode cX5_advance 36 = .ok (.dup, 1) := by decide +kernel
theorem dX5_advance_37 : decode cX5_advance 37 = .ok (.getfield 15, 3) := by decide +kernel
theorem dX5_advance_40 : decode cX5_advance 40 = .ok (.iconst 1, 1) := by decide +kernel
theorem dX5_advance_41 : decode cX5_advance 41 = .ok (.iadd, 1) := by decide +kernel
theorem dX5_advance_42 : decode cX5_advance 42 = .ok (.putfield 15, 3) := by decide +kernel
theorem dX5_advance_45 : decode cX5_advance 45 = .ok (.goto (-37), 3) := by decide +kernel
theorem dX5_advance_48 : decode cX5_advance 48 = .ok (.aload_n 0, 1) := by decide +kernel
theorem dX5_advance_49 : decode cX5_advance 49 = .ok (.aload_n 0, 1) := by decide +kernel
theorem dX5_advance_50 : decode cX5_advance 50 = .ok (.getfield 15, 3) := by decide +kernel
theorem dX5_advance_53 : decode cX5_advance 53 = .ok (.putfield 18, 3) := by decide +kernel
theorem dX5_advance_56 : decode cX5_advance 56 = .ok (.aload_n 0, 1) := by decide +kernel
theorem dX5_advance_57 : decode cX5_advance 57 = .ok (.aload_n 0, 1) := by decide +kernel
theorem dX5_advance_58 : decode cX5_advance 58 = .ok (.getfield 15, 3) := by decide +kernel
theorem dX5_advance_61 : decode cX5_advance 61 = .ok (.invokevirtual 115, 3) := by decide +kernel
theorem dX5_advance_64 : decode cX5_advance 64 = .ok (.istore_n 1, 1) := by decide +kernel
theorem dX5_advance_65 : decode cX5_advance 65 = .ok (.iload_n 1, 1) := by decide +kernel
theorem dX5_advance_66 : decode cX5_advance 66 = .ok (.ifCond .ge 11, 3) := by decide +kernel
theorem dX5_advance_69 : decode cX5_advance 69 = .ok (.aload_n 0, 1) := by decide +kernel
theorem dX5_advance_70 : decode cX5_advance 70 = .ok (.iconst 0, 1) := by decide +kernel
theorem dX5_advance_71 : decode cX5_advance 71 = .ok (.putfield 11, 3) := by decide +kernel
theorem dX5_advance_74 : decode cX5_advance 74 = .ok (.goto 66, 3) := by decide +kernel
theorem dX5_advance_77 : decode cX5_advance 77 = .ok (.iload_n 1, 1) := by decide +kernel
theorem dX5_advance_78 : decode cX5_advance 78 = .ok (.invokestatic 126, 3) := by decide +kernel
theorem dX5_advance_81 : decode cX5_advance 81 = .ok (.ifCond .eq 15, 3) := by decide +kernel
theorem dX5_advance_84 : decode cX5_advance 84 = .ok (.aload_n 0, 1) := by decide +kernel
theorem dX5_advance_85 : decode cX5_advance 85 = .ok (.iconst 1, 1) := by decide +kernel
theorem dX5_advance_86 : decode cX5_advance 86 = .ok (.putfield 11, 3) := by decide +kernel
theorem dX5_advance_89 : decode cX5_advance 89 = .ok (.aload_n 0, 1) := by decide +kernel
theorem dX5_advance_90 : decode cX5_advance 90 = .ok (.invokevirtual 130, 3) := by decide +kernel
theorem dX5_advance_93 : decode cX5_advance 93 = .ok (.goto 47, 3) := by decide +kernel
theorem dX5_advance_96 : decode cX5_advance 96 = .ok (.iload_n 1, 1) := by decide +kernel
theorem dX5_advance_97 : decode cX5_advance 97 = .ok (.invokestatic 133, 3) := by decide +kernel
theorem dX5_advance_100 : decode cX5_advance 100 = .ok (.ifCond .eq 15, 3) := by decide +kernel
theorem dX5_advance_103 : decode cX5_advance 103 = .ok (.aload_n 0, 1) := by decide +kernel
theorem dX5_advance_104 : decode cX5_advance 104 = .ok (.iconst 2, 1) := by decide +kernel
theorem dX5_advance_105 : decode cX5_advance 105 = .ok (.putfield 11, 3) := by decide +kernel
theorem dX5_advance_108 : decode cX5_advance 108 = .ok (.aload_n 0, 1) := by decide +kernel
theorem dX5_advance_109 : decode cX5_advance 109 = .ok (.invokevirtual 136, 3) := by decide +kernel
theorem dX5_advance_112 : decode cX5_advance 112 = .ok (.goto 28, 3) := by decide +kernel
theorem dX5_advance_115 : decode cX5_advance 115 = .ok (.aload_n 0, 1) := by decide +kernel
theorem dX5_advance_116 : decode cX5_advance 116 = .ok (.iload_n 1, 1) := by decide +kernel
theorem dX5_advance_117 : decode cX5_advance 117 = .ok (.bipush 59, 2) := by decide +kernel
theorem dX5_advance_119 : decode cX5_advance 119 = .ok (.if_icmp .ne 7, 3) := by decide +kernel
theorem dX5_advance_122 : decode cX5_advance 122 = .ok (.iconst 3, 1) := by decide +kernel
theorem dX5_advance_123 : decode cX5_advance 123 = .ok (.goto 4, 3) := by decide +kernel
theorem dX5_advance_126 : decode cX5_advance 126 = .ok (.iconst 4, 1) := by decide +kernel
theorem dX5_advance_127 : decode cX5_advance 127 = .ok (.putfield 11, 3) := by decide +kernel
theorem dX5_advance_130 : decode cX5_advance 130 = .ok (.aload_n 0, 1) := by decide +kernel
theorem dX5_advance_131 : decode cX5_advance 131 = .ok (.aload_n 0, 1) := by decide +kernel
theorem dX5_advance_132 : decode cX5_advance 132 = .ok (.getfield 15, 3) := by decide +kernel
theorem dX5_advance_135 : decode cX5_advance 135 = .ok (.iconst 1, 1) := by decide +kernel
theorem dX5_advance_136 : decode cX5_advance 136 = .ok (.iadd, 1) := by decide +kernel
theorem dX5_advance_137 : decode cX5_advance 137 = .ok (.putfield 18, 3) := by decide +kernel
theorem dX5_advance_140 : decode cX5_advance 140 = .ok (.return_, 1) := by decide +kernel
theorem dX5_passLetters_0 : decode cX5_passLetters 0 = .ok (.aload_n 0, 1) := by decide +kernel
theorem dX5_passLetters_1 : decode cX5_passLetters 1 = .ok (.getfield 18, 3) := by decide +kernel
theorem dX5_passLetters_4 : decode cX5_passLetters 4 = .ok (.aload_n 0, 1) := by decide +kernel
theorem dX5_passLetters_5 : decode cX5_passLetters 5 = .ok (.getfield 27, 3) := by decide +kernel
theorem dX5_passLetters_8 : decode cX5_passLetters 8 = .ok (.getfield 123, 3) := by decide +kernel
theorem dX5_passLetters_11 : decode cX5_passLetters 11 = .ok (.if_icmp .ge 30, 3) := by decide +kernel
theorem dX5_passLetters_14 : decode cX5_passLetters 14 = .ok (.aload_n 0, 1) := by decide +kernel
theorem dX5_passLetters_15 : decode cX5_passLetters 15 = .ok (.aload_n 0, 1) := by decide +kernel
theorem dX5_passLetters_16 : decode cX5_passLetters 16 = .ok (.getfield 18, 3) := by decide +kernel
theorem dX5_passLetters_19 : decode cX5_passLetters 19 = .ok (.invokevirtual 115, 3) := by decide +kernel
theorem dX5_passLetters_22 : decode cX5_passLetters 22 = .ok (.invokestatic 126, 3) := by decide +kernel
theorem dX5_passLetters_25 : decode cX5_passLetters 25 = .ok (.ifCond .eq 16, 3) := by decide +kernel
theorem dX5_passLetters_28 : decode cX5_passLetters 28 = .ok (.aload_n 0, 1) := by decide +kernel
theorem dX5_passLetters_29 : decode cX5_passLetters 29 = .ok (.dup, 1) := by decide +kernel
theorem dX5_passLetters_30 : decode cX5_passLetters 30 = .ok (.getfield 18, 3) := by decide +kernel
theorem dX5_passLetters_33 : decode cX5_passLetters 33 = .ok (.iconst 1, 1) := by decide +kernel
theorem dX5_passLetters_34 : decode cX5_passLetters 34 = .ok (.iadd, 1) := by decide +kernel
theorem dX5_passLetters_35 : decode cX5_passLetters 35 = .ok (.putfield 18, 3) := by decide +kernel
theorem dX5_passLetters_38 : decode cX5_passLetters 38 = .ok (.goto (-38), 3) := by decide +kernel
theorem dX5_passLetters_41 : decode cX5_passLetters 41 = .ok (.return_, 1) := by decide +kernel
theorem dX5_passDigits_0 : decode cX5_passDigits 0 = .ok (.aload_n 0, 1) := by decide +kernel
theorem dX5_passDigits_1 : decode cX5_passDigits 1 = .ok (.iconst 0, 1) := by decide +kernel
end
section
theorem dX5_passDigits_2 : decode cX5_passDigits 2 = .ok (.putfield 21, 3) := by decide +kernel
theorem dX5_passDigits_5 : decode cX5_passDigits 5 = .ok (.aload_n 0, 1) := by decide +kernel
theorem dX5_passDigits_6 : decode cX5_passDigits 6 = .ok (.getfield 18, 3) := by decide +kernel
theorem dX5_passDigits_9 : decode cX5_passDigits 9 = .ok (.aload_n 0, 1) := by decide +kernel
theorem dX5_passDigits_10 : decode cX5_passDigits 10 = .ok (.getfield 27, 3) := by decide +kernel
theorem dX5_passDigits_13 : decode cX5_passDigits 13 = .ok (.getfield 123, 3) := by decide +kernel
theorem dX5_passDigits_16 : decode cX5_passDigits 16 = .ok (.if_icmp .ge 59, 3) := by decide +kernel
theorem dX5_passDigits_19 : decode cX5_passDigits 19 = .ok (.aload_n 0, 1) := by decide +kernel
theorem dX5_passDigits_20 : decode cX5_passDigits 20 = .ok (.aload_n 0, 1) := by decide +kernel
theorem dX5_passDigits_21 : decode cX5_passDigits 21 = .ok (.getfield 18, 3) := by decide +kernel
theorem dX5_passDigits_24 : decode cX5_passDigits 24 = .ok (.invokevirtual 115, 3) := by decide +kernel
theorem dX5_passDigits_27 : decode cX5_passDigits 27 = .ok (.invokestatic 133, 3) := by decide +kernel
theorem dX5_passDigits_30 : decode cX5_passDigits 30 = .ok (.ifCond .eq 45, 3) := by decide +kernel
theorem dX5_passDigits_33 : decode cX5_passDigits 33 = .ok (.aload_n 0, 1) := by decide +kernel
theorem dX5_passDigits_34 : decode cX5_passDigits 34 = .ok (.aload_n 0, 1) := by decide +kernel
theorem dX5_passDigits_35 : decode cX5_passDigits 35 = .ok (.getfield 21, 3) := by decide +kernel
theorem dX5_passDigits_38 : decode cX5_passDigits 38 = .ok (.bipush 10, 2) := by decide +kernel
theorem dX5_passDigits_40 : decode cX5_passDigits 40 = .ok (.imul, 1) := by decide +kernel
theorem dX5_passDigits_41 : decode cX5_passDigits 41 = .ok (.aload_n 0, 1) := by decide +kernel
theorem dX5_passDigits_42 : decode cX5_passDigits 42 = .ok (.aload_n 0, 1) := by decide +kernel
theorem dX5_passDigits_43 : decode cX5_passDigits 43 = .ok (.getfield 18, 3) := by decide +kernel
theorem dX5_passDigits_46 : decode cX5_passDigits 46 = .ok (.invokevirtual 115, 3) := by decide +kernel
theorem dX5_passDigits_49 : decode cX5_passDigits 49 = .ok (.iadd, 1) := by decide +kernel
theorem dX5_passDigits_50 : decode cX5_passDigits 50 = .ok (.bipush 48, 2) := by decide +kernel
theorem dX5_passDigits_52 : decode cX5_passDigits 52 = .ok (.isub, 1) := by decide +kernel
theorem dX5_passDigits_53 : decode cX5_passDigits 53 = .ok (.sipush 10000, 3) := by decide +kernel
theorem dX5_passDigits_56 : decode cX5_passDigits 56 = .ok (.invokestatic 139, 3) := by decide +kernel
theorem dX5_passDigits_59 : decode cX5_passDigits 59 = .ok (.putfield 21, 3) := by decide +kernel
theorem dX5_passDigits_62 : decode cX5_passDigits 62 = .ok (.aload_n 0, 1) := by decide +kernel
theorem dX5_passDigits_63 : decode cX5_passDigits 63 = .ok (.dup, 1) := by decide +kernel
theorem dX5_passDigits_64 : decode cX5_passDigits 64 = .ok (.getfield 18, 3) := by decide +kernel
theorem dX5_passDigits_67 : decode cX5_passDigits 67 = .ok (.iconst 1, 1) := by decide +kernel
theorem dX5_passDigits_68 : decode cX5_passDigits 68 = .ok (.iadd, 1) := by decide +kernel
theorem dX5_passDigits_69 : decode cX5_passDigits 69 = .ok (.putfield 18, 3) := by decide +kernel
theorem dX5_passDigits_72 : decode cX5_passDigits 72 = .ok (.goto (-67), 3) := by decide +kernel
theorem dX5_passDigits_75 : decode cX5_passDigits 75 = .ok (.return_, 1) := by decide +kernel
theorem dX5_byteAt_0 : decode cX5_byteAt 0 = .ok (.iload_n 1, 1) := by decide +kernel
theorem dX5_byteAt_1 : decode cX5_byteAt 1 = .ok (.ifCond .lt 26, 3) := by decide +kernel
theorem dX5_byteAt_4 : decode cX5_byteAt 4 = .ok (.iload_n 1, 1) := by decide +kernel
theorem dX5_byteAt_5 : decode cX5_byteAt 5 = .ok (.aload_n 0, 1) := by decide +kernel
theorem dX5_byteAt_6 : decode cX5_byteAt 6 = .ok (.getfield 27, 3) := by decide +kernel
theorem dX5_byteAt_9 : decode cX5_byteAt 9 = .ok (.getfield 123, 3) := by decide +kernel
theorem dX5_byteAt_12 : decode cX5_byteAt 12 = .ok (.if_icmp .ge 15, 3) := by decide +kernel
theorem dX5_byteAt_15 : decode cX5_byteAt 15 = .ok (.aload_n 0, 1) := by decide +kernel
theorem dX5_byteAt_16 : decode cX5_byteAt 16 = .ok (.getfield 27, 3) := by decide +kernel
theorem dX5_byteAt_19 : decode cX5_byteAt 19 = .ok (.getfield 145, 3) := by decide +kernel
theorem dX5_byteAt_22 : decode cX5_byteAt 22 = .ok (.iload_n 1, 1) := by decide +kernel
theorem dX5_byteAt_23 : decode cX5_byteAt 23 = .ok (.iaload, 1) := by decide +kernel
theorem dX5_byteAt_24 : decode cX5_byteAt 24 = .ok (.goto 4, 3) := by decide +kernel
theorem dX5_byteAt_27 : decode cX5_byteAt 27 = .ok (.iconst (-1), 1) := by decide +kernel
theorem dX5_byteAt_28 : decode cX5_byteAt 28 = .ok (.ireturn, 1) := by decide +kernel
theorem dX5_isLetter_0 : decode cX5_isLetter 0 = .ok (.iload_n 0, 1) := by decide +kernel
theorem dX5_isLetter_1 : decode cX5_isLetter 1 = .ok (.bipush 97, 2) := by decide +kernel
theorem dX5_isLetter_3 : decode cX5_isLetter 3 = .ok (.if_icmp .lt 13, 3) := by decide +kernel
theorem dX5_isLetter_6 : decode cX5_isLetter 6 = .ok (.iload_n 0, 1) := by decide +kernel
theorem dX5_isLetter_7 : decode cX5_isLetter 7 = .ok (.bipush 122, 2) := by decide +kernel
theorem dX5_isLetter_9 : decode cX5_isLetter 9 = .ok (.if_icmp .gt 7, 3) := by decide +kernel
theorem dX5_isLetter_12 : decode cX5_isLetter 12 = .ok (.iconst 1, 1) := by decide +kernel
theorem dX5_isLetter_13 : decode cX5_isLetter 13 = .ok (.goto 4, 3) := by decide +kernel
theorem dX5_isLetter_16 : decode cX5_isLetter 16 = .ok (.iconst 0, 1) := by decide +kernel
theorem dX5_isLetter_17 : decode cX5_isLetter 17 = .ok (.ireturn, 1) := by decide +kernel
theorem dX5_isDigit_0 : decode cX5_isDigit 0 = .ok (.iload_n 0, 1) := by decide +kernel
theorem dX5_isDigit_1 : decode cX5_isDigit 1 = .ok (.bipush 48, 2) := by decide +kernel
theorem dX5_isDigit_3 : decode cX5_isDigit 3 = .ok (.if_icmp .lt 13, 3) := by decide +kernel
theorem dX5_isDigit_6 : decode cX5_isDigit 6 = .ok (.iload_n 0, 1) := by decide +kernel
theorem dX5_isDigit_7 : decode cX5_isDigit 7 = .ok (.bipush 57, 2) := by decide +kernel
theorem dX5_isDigit_9 : decode cX5_isDigit 9 = .ok (.if_icmp .gt 7, 3) := by decide +kernel
theorem dX5_isDigit_12 : decode cX5_isDigit 12 = .ok (.iconst 1, 1) := by decide +kernel
theorem dX5_isDigit_13 : decode cX5_isDigit 13 = .ok (.goto 4, 3) := by decide +kernel
theorem dX5_isDigit_16 : decode cX5_isDigit 16 = .ok (.iconst 0, 1) := by decide +kernel
theorem dX5_isDigit_17 : decode cX5_isDigit 17 = .ok (.ireturn, 1) := by decide +kernel
theorem dX5_wordOfKind_0 : decode cX5_wordOfKind 0 = .ok (.iload_n 0, 1) := by decide +kernel
theorem dX5_wordOfKind_1 : decode cX5_wordOfKind 1 = .ok (.tableswitch 57 0 5 #[39, 42, 45, 48, 51, 54], 39) := by decide +kernel
theorem dX5_wordOfKind_40 : decode cX5_wordOfKind 40 = .ok (.ldc 149, 2) := by decide +kernel
theorem dX5_wordOfKind_42 : decode cX5_wordOfKind 42 = .ok (.areturn, 1) := by decide +kernel
theorem dX5_wordOfKind_43 : decode cX5_wordOfKind 43 = .ok (.ldc 151, 2) := by decide +kernel
theorem dX5_wordOfKind_45 : decode cX5_wordOfKind 45 = .ok (.areturn, 1) := by decide +kernel
theorem dX5_wordOfKind_46 : decode cX5_wordOfKind 46 = .ok (.ldc 153, 2) := by decide +kernel
theorem dX5_wordOfKind_48 : decode cX5_wordOfKind 48 = .ok (.areturn, 1) := by decide +kernel
theorem dX5_wordOfKind_49 : decode cX5_wordOfKind 49 = .ok (.ldc 155, 2) := by decide +kernel
theorem dX5_wordOfKind_51 : decode cX5_wordOfKind 51 = .ok (.areturn, 1) := by decide +kernel
theorem dX5_wordOfKind_52 : decode cX5_wordOfKind 52 = .ok (.ldc 157, 2) := by decide +kernel
theorem dX5_wordOfKind_54 : decode cX5_wordOfKind 54 = .ok (.areturn, 1) := by decide +kernel
theorem dX5_wordOfKind_55 : decode cX5_wordOfKind 55 = .ok (.ldc 159, 2) := by decide +kernel
theorem dX5_wordOfKind_57 : decode cX5_wordOfKind 57 = .ok (.areturn, 1) := by decide +kernel
theorem dX5_wordOfKind_58 : decode cX5_wordOfKind 58 = .ok (.ldc 161, 2) := by decide +kernel
theorem dX5_wordOfKind_60 : decode cX5_wordOfKind 60 = .ok (.areturn, 1) := by decide +kernel
theorem dX5_wordOfSign_0 : decode cX5_wordOfSign 0 = .ok (.iload_n 0, 1) := by decide +kernel
theorem dX5_wordOfSign_1 : decode cX5_wordOfSign 1 = .ok (.lookupswitch 33 #[(0, 27), (1, 30)], 27) := by decide +kernel
theorem dX5_wordOfSign_28 : decode cX5_wordOfSign 28 = .ok (.ldc 163, 2) := by decide +kernel
theorem dX5_wordOfSign_30 : decode cX5_wordOfSign 30 = .ok (.areturn, 1) := by decide +kernel
theorem dX5_wordOfSign_31 : decode cX5_wordOfSign 31 = .ok (.ldc 165, 2) := by decide +kernel
theorem dX5_wordOfSign_33 : decode cX5_wordOfSign 33 = .ok (.areturn, 1) := by decide +kernel
theorem dX5_wordOfSign_34 : decode cX5_wordOfSign 34 = .ok (.ldc 167, 2) := by decide +kernel
theorem dX5_wordOfSign_36 : decode cX5_wordOfSign 36 = .ok (.areturn, 1) := by decide +kernel
theorem dX6_init_0 : decode cX6_init 0 = .ok (.aload_n 0, 1) := by decide +kernel
theorem dX6_init_1 : decode cX6_init 1 = .ok (.invokespecial 1, 3) := by decide +kernel
theorem dX6_init_4 : decode cX6_init 4 = .ok (.aload_n 0, 1) := by decide +kernel
theorem dX6_init_5 : decode cX6_init 5 = .ok (.new 7, 3) := by decide +kernel
theorem dX6_init_8 : decode cX6_init 8 = .ok (.dup, 1) := by decide +kernel
theorem dX6_init_9 : decode cX6_init 9 = .ok (.invokespecial 9, 3) := by decide +kernel
theorem dX6_init_12 : decode cX6_init 12 = .ok (.putfield 10, 3) := by decide +kernel
theorem dX6_init_15 : decode cX6_init 15 = .ok (.aload_n 0, 1) := by decide +kernel
theorem dX6_init_16 : decode cX6_init 16 = .ok (.new 7, 3) := by decide +kernel
theorem dX6_init_19 : decode cX6_init 19 = .ok (.dup, 1) := by decide +kernel
theorem dX6_init_20 : decode cX6_init 20 = .ok (.invokespecial 9, 3) := by decide +kernel
theorem dX6_init_23 : decode cX6_init 23 = .ok (.putfield 16, 3) := by decide +kernel
theorem dX6_init_26 : decode cX6_init 26 = .ok (.aload_n 0, 1) := by decide +kernel
theorem dX6_init_27 : decode cX6_init 27 = .ok (.new 7, 3) := by decide +kernel
theorem dX6_init_30 : decode cX6_init 30 = .ok (.dup, 1) := by decide +kernel
theorem dX6_init_31 : decode cX6_init 31 = .ok (.invokespecial 9, 3) := by decide +kernel
theorem dX6_init_34 : decode cX6_init 34 = .ok (.putfield 19, 3) := by decide +kernel
theorem dX6_init_37 : decode cX6_init 37 = .ok (.aload_n 0, 1) := by decide +kernel
theorem dX6_init_38 : decode cX6_init 38 = .ok (.iconst 0, 1) := by decide +kernel
theorem dX6_init_39 : decode cX6_init 39 = .ok (.putfield 22, 3) := by decide +kernel
theorem dX6_init_42 : decode cX6_init 42 = .ok (.aload_n 0, 1) := by decide +kernel
theorem dX6_init_43 : decode cX6_init 43 = .ok (.new 26, 3) := by decide +kernel
theorem dX6_init_46 : decode cX6_init 46 = .ok (.dup, 1) := by decide +kernel
theorem dX6_init_47 : decode cX6_init 47 = .ok (.invokespecial 28, 3) := by decide +kernel
theorem dX6_init_50 : decode cX6_init 50 = .ok (.putfield 29, 3) := by decide +kernel
theorem dX6_init_53 : decode cX6_init 53 = .ok (.aload_n 0, 1) := by decide +kernel
theorem dX6_init_54 : decode cX6_init 54 = .ok (.new 33, 3) := by decide +kernel
theorem dX6_init_57 : decode cX6_init 57 = .ok (.dup, 1) := by decide +kernel
theorem dX6_init_58 : decode cX6_init 58 = .ok (.aload_n 0, 1) := by decide +kernel
theorem dX6_init_59 : decode cX6_init 59 = .ok (.getfield 29, 3) := by decide +kernel
theorem dX6_init_62 : decode cX6_init 62 = .ok (.invokespecial 35, 3) := by decide +kernel
theorem dX6_init_65 : decode cX6_init 65 = .ok (.putfield 38, 3) := by decide +kernel
theorem dX6_init_68 : decode cX6_init 68 = .ok (.aload_n 0, 1) := by decide +kernel
theorem dX6_init_69 : decode cX6_init 69 = .ok (.iconst 4, 1) := by decide +kernel
theorem dX6_init_70 : decode cX6_init 70 = .ok (.anewarray 42, 3) := by decide +kernel
theorem dX6_init_73 : decode cX6_init 73 = .ok (.putfield 44, 3) := by decide +kernel
theorem dX6_init_76 : decode cX6_init 76 = .ok (.aload_n 0, 1) := by decide +kernel
theorem dX6_init_77 : decode cX6_init 77 = .ok (.bipush 7, 2) := by decide +kernel
theorem dX6_init_79 : decode cX6_init 79 = .ok (.newarray .int, 2) := by decide +kernel
theorem dX6_init_81 : decode cX6_init 81 = .ok (.putfield 48, 3) := by decide +kernel
theorem dX6_init_84 : decode cX6_init 84 = .ok (.iconst 0, 1) := by decide +kernel
theorem dX6_init_85 : decode cX6_init 85 = .ok (.istore_n 1, 1) := by decide +kernel
theorem dX6_init_86 : decode cX6_init 86 = .ok (.iload_n 1, 1) := by decide +kernel
theorem dX6_init_87 : decode cX6_init 87 = .ok (.iconst 4, 1) := by decide +kernel
theorem dX6_init_88 : decode cX6_init 88 = .ok (.if_icmp .ge 22, 3) := by decide +kernel
theorem dX6_init_91 : decode cX6_init 91 = .ok (.aload_n 0, 1) := by decide +kernel
theorem dX6_init_92 : decode cX6_init 92 = .ok (.getfield 44, 3) := by decide +kernel
theorem dX6_init_95 : decode cX6_init 95 = .ok (.iload_n 1, 1) := by decide +kernel
theorem dX6_init_96 : decode cX6_init 96 = .ok (.new 42, 3) := by decide +kernel
theorem dX6_init_99 : decode cX6_init 99 = .ok (.dup, 1) := by decide +kernel
theorem dX6_init_100 : decode cX6_init 100 = .ok (.invokespecial 52, 3) := by decide +kernel
theorem dX6_init_103 : decode cX6_init 103 = .ok (.aastore, 1) := by decide +kernel
theorem dX6_init_104 : decode cX6_init 104 = .ok (.iinc 1 1, 3) := by decide +kernel
theorem dX6_init_107 : decode cX6_init 107 = .ok (.goto (-21), 3) := by decide +kernel
theorem dX6_init_110 : decode cX6_init 110 = .ok (.return_, 1) := by decide +kernel
theorem dX6_drinker_0 : decode cX6_drinker 0 = .ok (.iload_n 1, 1) := by decide +kernel
theorem dX6_drinker_1 : decode cX6_drinker 1 = .ok (.iconst 0, 1) := by decide +kernel
theorem dX6_drinker_2 : decode cX6_drinker 2 = .ok (.bipush 6, 2) := by decide +kernel
theorem dX6_drinker_4 : decode cX6_drinker 4 = .ok (.invokestatic 53, 3) := by decide +kernel
theorem dX6_drinker_7 : decode cX6_drinker 7 = .ok (.ifCond .eq 13, 3) := by decide +kernel
theorem dX6_drinker_10 : decode cX6_drinker 10 = .ok (.iload_n 2, 1) := by decide +kernel
theorem dX6_drinker_11 : decode cX6_drinker 11 = .ok (.iconst 1, 1) := by decide +kernel
theorem dX6_drinker_12 : decode cX6_drinker 12 = .ok (.bipush 9, 2) := by decide +kernel
theorem dX6_drinker_14 : decode cX6_drinker 14 = .ok (.invokestatic 53, 3) := by decide +kernel
theorem dX6_drinker_17 : decode cX6_drinker 17 = .ok (.ifCond .ne 9, 3) := by decide +kernel
theorem dX6_drinker_20 : decode cX6_drinker 20 = .ok (.aload_n 0, 1) := by decide +kernel
theorem dX6_drinker_21 : decode cX6_drinker 21 = .ok (.iconst 0, 1) := by decide +kernel
theorem dX6_drinker_22 : decode cX6_drinker 22 = .ok (.invokevirtual 57, 3) := by decide +kernel
theorem dX6_drinker_25 : decode cX6_drinker 25 = .ok (.ireturn, 1) := by decide +kernel
theorem dX6_drinker_26 : decode cX6_drinker 26 = .ok (.aload_n 0, 1) := by decide +kernel
theorem dX6_drinker_27 : decode cX6_drinker 27 = .ok (.getfield 10, 3) := by decide +kernel
theorem dX6_drinker_30 : decode cX6_drinker 30 = .ok (.getfield 61, 3) := by decide +kernel
theorem dX6_drinker_33 : decode cX6_drinker 33 = .ok (.bipush 10, 2) := by decide +kernel
theorem dX6_drinker_35 : decode cX6_drinker 35 = .ok (.if_icmp .lt 9, 3) := by decide +kernel
theorem dX6_drinker_38 : decode cX6_drinker 38 = .ok (.aload_n 0, 1) := by decide +kernel
theorem dX6_drinker_39 : decode cX6_drinker 39 = .ok (.iconst 1, 1) := by decide +kernel
theorem dX6_drinker_40 : decode cX6_drinker 40 = .ok (.invokevirtual 57, 3) := by decide +kernel
theorem dX6_drinker_43 : decode cX6_drinker 43 = .ok (.ireturn, 1) := by decide +kernel
theorem dX6_drinker_44 : decode cX6_drinker 44 = .ok (.aload_n 0, 1) := by decide +kernel
theorem dX6_drinker_45 : decode cX6_drinker 45 = .ok (.getfield 10, 3) := by decide +kernel
theorem dX6_drinker_48 : decode cX6_drinker 48 = .ok (.iload_n 1, 1) := by decide +kernel
theorem dX6_drinker_49 : decode cX6_drinker 49 = .ok (.iload_n 2, 1) := by decide +kernel
theorem dX6_drinker_50 : decode cX6_drinker 50 = .ok (.invokevirtual 65, 3) := by decide +kernel
theorem dX6_drinker_53 : decode cX6_drinker 53 = .ok (.pop, 1) := by decide +kernel
theorem dX6_drinker_54 : decode cX6_drinker 54 = .ok (.aload_n 0, 1) := by decide +kernel
theorem dX6_drinker_55 : decode cX6_drinker 55 = .ok (.getfield 10, 3) := by decide +kernel
theorem dX6_drinker_58 : decode cX6_drinker 58 = .ok (.getfield 61, 3) := by decide +kernel
theorem dX6_drinker_61 : decode cX6_drinker 61 = .ok (.iconst 1, 1) := by decide +kernel
theorem dX6_drinker_62 : decode cX6_drinker 62 = .ok (.isub, 1) := by decide +kernel
theorem dX6_drinker_63 : decode cX6_drinker 63 = .ok (.ireturn, 1) := by decide +kernel
theorem dX6_of_0 : decode cX6_of 0 = .ok (.aload_n 0, 1) := by decide +kernel
theorem dX6_of_1 : decode cX6_of 1 = .ok (.iload_n 1, 1) := by decide +kernel
theorem dX6_of_2 : decode cX6_of 2 = .ok (.invokevirtual 69, 3) := by decide +kernel
theorem dX6_of_5 : decode cX6_of 5 = .ok (.ifCond .eq 13, 3) := by decide +kernel
theorem dX6_of_8 : decode cX6_of 8 = .ok (.iload_n 2, 1) := by decide +kernel
theorem dX6_of_9 : decode cX6_of 9 = .ok (.iconst 0, 1) := by decide +kernel
theorem dX6_of_10 : decode cX6_of 10 = .ok (.bipush 6, 2) := by decide +kernel
theorem dX6_of_12 : decode cX6_of 12 = .ok (.invokestatic 53, 3) := by decide +kernel
theorem dX6_of_15 : decode cX6_of 15 = .ok (.ifCond .ne 9, 3) := by decide +kernel
theorem dX6_of_18 : decode cX6_of 18 = .ok (.aload_n 0, 1) := by decide +kernel
theorem dX6_of_19 : decode cX6_of 19 = .ok (.iconst 0, 1) := by decide +kernel
theorem dX6_of_20 : decode cX6_of 20 = .ok (.invokevirtual 57, 3) := by decide +kernel
theorem dX6_of_23 : decode cX6_of 23 = .ok (.ireturn, 1) := by decide +kernel
theorem dX6_of_24 : decode cX6_of 24 = .ok (.aload_n 0, 1) := by decide +kernel
theorem dX6_of_25 : decode cX6_of 25 = .ok (.getfield 10, 3) := by decide +kernel
theorem dX6_of_28 : decode cX6_of 28 = .ok (.getfield 73, 3) := by decide +kernel
theorem dX6_of_31 : decode cX6_of 31 = .ok (.iload_n 1, 1) := by decide +kernel
theorem dX6_of_32 : decode cX6_of 32 = .ok (.aaload, 1) := by decide +kernel
theorem dX6_of_33 : decode cX6_of 33 = .ok (.iload_n 2, 1) := by decide +kernel
theorem dX6_of_34 : decode cX6_of 34 = .ok (.invokevirtual 77, 3) := by decide +kernel
theorem dX6_of_37 : decode cX6_of 37 = .ok (.ireturn, 1) := by decide +kernel
theorem dX6_change_0 : decode cX6_change 0 = .ok (.aload_n 0, 1) := by decide +kernel
theorem dX6_change_1 : decode cX6_change 1 = .ok (.iload_n 1, 1) := by decide +kernel
theorem dX6_change_2 : decode cX6_change 2 = .ok (.invokevirtual 69, 3) := by decide +kernel
theorem dX6_change_5 : decode cX6_change 5 = .ok (.ifCond .eq 11, 3) := by decide +kernel
theorem dX6_change_8 : decode cX6_change 8 = .ok (.iload_n 2, 1) := by decide +kernel
theorem dX6_change_9 : decode cX6_change 9 = .ok (.iload_n 3, 1) := by decide +kernel
theorem dX6_change_10 : decode cX6_change 10 = .ok (.invokestatic 82, 3) := by decide +kernel
theorem dX6_change_13 : decode cX6_change 13 = .ok (.ifCond .ne 9, 3) := by decide +kernel
theorem dX6_change_16 : decode cX6_change 16 = .ok (.aload_n 0, 1) := by decide +kernel
theorem dX6_change_17 : decode cX6_change 17 = .ok (.iconst 0, 1) := by decide +kernel
theorem dX6_change_18 : decode cX6_change 18 = .ok (.invokevirtual 57, 3) := by decide +kernel
theorem dX6_change_21 : decode cX6_change 21 = .ok (.ireturn, 1) := by decide +kernel
theorem dX6_change_22 : decode cX6_change 22 = .ok (.aload_n 0, 1) := by decide +kernel
theorem dX6_change_23 : decode cX6_change 23 = .ok (.getfield 10, 3) := by decide +kernel
theorem dX6_change_26 : decode cX6_change 26 = .ok (.getfield 73, 3) := by decide +kernel
theorem dX6_change_29 : decode cX6_change 29 = .ok (.iload_n 1, 1) := by decide +kernel
theorem dX6_change_30 : decode cX6_change 30 = .ok (.aaload, 1) := by decide +kernel
theorem dX6_change_31 : decode cX6_change 31 = .ok (.iload_n 2, 1) := by decide +kernel
theorem dX6_change_32 : decode cX6_change 32 = .ok (.invokevirtual 77, 3) := by decide +kernel
theorem dX6_change_35 : decode cX6_change 35 = .ok (.istore 4, 2) := by decide +kernel
theorem dX6_change_37 : decode cX6_change 37 = .ok (.aload_n 0, 1) := by decide +kernel
theorem dX6_change_38 : decode cX6_change 38 = .ok (.getfield 10, 3) := by decide +kernel
theorem dX6_change_41 : decode cX6_change 41 = .ok (.getfield 73, 3) := by decide +kernel
theorem dX6_change_44 : decode cX6_change 44 = .ok (.iload_n 1, 1) := by decide +kernel
theorem dX6_change_45 : decode cX6_change 45 = .ok (.aaload, 1) := by decide +kernel
theorem dX6_change_46 : decode cX6_change 46 = .ok (.iload_n 2, 1) := by decide +kernel
theorem dX6_change_47 : decode cX6_change 47 = .ok (.iload_n 3, 1) := by decide +kernel
theorem dX6_change_48 : decode cX6_change 48 = .ok (.invokevirtual 86, 3) := by decide +kernel
theorem dX6_change_51 : decode cX6_change 51 = .ok (.iload 4, 2) := by decide +kernel
theorem dX6_change_53 : decode cX6_change 53 = .ok (.ireturn, 1) := by decide +kernel
theorem dX6_room_0 : decode cX6_room 0 = .ok (.iload_n 1, 1) := by decide +kernel
theorem dX6_room_1 : decode cX6_room 1 = .ok (.tableswitch 45 0 2 #[27, 33, 39], 27) := by decide +kernel
theorem dX6_room_28 : decode cX6_room 28 = .ok (.aload_n 0, 1) := by decide +kernel
theorem dX6_room_29 : decode cX6_room 29 = .ok (.iload_n 2, 1) := by decide +kernel
theorem dX6_room_30 : decode cX6_room 30 = .ok (.invokevirtual 90, 3) := by decide +kernel
theorem dX6_room_33 : decode cX6_room 33 = .ok (.ireturn, 1) := by decide +kernel
theorem dX6_room_34 : decode cX6_room 34 = .ok (.aload_n 0, 1) := by decide +kernel
theorem dX6_room_35 : decode cX6_room 35 = .ok (.iload_n 2, 1) := by decide +kernel
theorem dX6_room_36 : decode cX6_room 36 = .ok (.invokevirtual 93, 3) := by decide +kernel
theorem dX6_room_39 : decode cX6_room 39 = .ok (.ireturn, 1) := by decide +kernel
theorem dX6_room_40 : decode cX6_room 40 = .ok (.aload_n 0, 1) := by decide +kernel
theorem dX6_room_41 : decode cX6_room 41 = .ok (.iload_n 2, 1) := by decide +kernel
theorem dX6_room_42 : decode cX6_room 42 = .ok (.invokevirtual 96, 3) := by decide +kernel
theorem dX6_room_45 : decode cX6_room 45 = .ok (.ireturn, 1) := by decide +kernel
theorem dX6_room_46 : decode cX6_room 46 = .ok (.aload_n 0, 1) := by decide +kernel
theorem dX6_room_47 : decode cX6_room 47 = .ok (.iconst 0, 1) := by decide +kernel
theorem dX6_room_48 : decode cX6_room 48 = .ok (.invokevirtual 57, 3) := by decide +kernel
theorem dX6_room_51 : decode cX6_room 51 = .ok (.ireturn, 1) := by decide +kernel
theorem dX6_empty_0 : decode cX6_empty 0 = .ok (.aload_n 0, 1) := by decide +kernel
theorem dX6_empty_1 : decode cX6_empty 1 = .ok (.getfield 10, 3) := by decide +kernel
theorem dX6_empty_4 : decode cX6_empty 4 = .ok (.getfield 99, 3) := by decide +kernel
theorem dX6_empty_7 : decode cX6_empty 7 = .ok (.istore_n 1, 1) := by decide +kernel
theorem dX6_empty_8 : decode cX6_empty 8 = .ok (.aload_n 0, 1) := by decide +kernel
theorem dX6_empty_9 : decode cX6_empty 9 = .ok (.getfield 10, 3) := by decide +kernel
theorem dX6_empty_12 : decode cX6_empty 12 = .ok (.iconst 0, 1) := by decide +kernel
theorem dX6_empty_13 : decode cX6_empty 13 = .ok (.putfield 99, 3) := by decide +kernel
theorem dX6_empty_16 : decode cX6_empty 16 = .ok (.iload_n 1, 1) := by decide +kernel
theorem dX6_empty_17 : decode cX6_empty 17 = .ok (.ireturn, 1) := by decide +kernel
theorem dX6_taken_0 : decode cX6_taken 0 = .ok (.iload_n 1, 1) := by decide +kernel
theorem dX6_taken_1 : decode cX6_taken 1 = .ok (.iconst 1, 1) := by decide +kernel
theorem dX6_taken_2 : decode cX6_taken 2 = .ok (.sipush 999, 3) := by decide +kernel
theorem dX6_taken_5 : decode cX6_taken 5 = .ok (.invokestatic 53, 3) := by decide +kernel
theorem dX6_taken_8 : decode cX6_taken 8 = .ok (.ifCond .ne 9, 3) := by decide +kernel
theorem dX6_taken_11 : decode cX6_taken 11 = .ok (.aload_n 0, 1) := by decide +kernel
theorem dX6_taken_12 : decode cX6_taken 12 = .ok (.iconst 0, 1) := by decide +kernel
theorem dX6_taken_13 : decode cX6_taken 13 = .ok (.invokevirtual 57, 3) := by decide +kernel
theorem dX6_taken_16 : decode cX6_taken 16 = .ok (.ireturn, 1) := by decide +kernel
theorem dX6_taken_17 : decode cX6_taken 17 = .ok (.iload_n 1, 1) := by decide +kernel
theorem dX6_taken_18 : decode cX6_taken 18 = .ok (.aload_n 0, 1) := by decide +kernel
theorem dX6_taken_19 : decode cX6_taken 19 = .ok (.getfield 10, 3) := by decide +kernel
theorem dX6_taken_22 : decode cX6_taken 22 = .ok (.getfield 99, 3) := by decide +kernel
theorem dX6_taken_25 : decode cX6_taken 25 = .ok (.invokestatic 102, 3) := by decide +kernel
theorem dX6_taken_28 : decode cX6_taken 28 = .ok (.istore_n 2, 1) := by decide +kernel
theorem dX6_taken_29 : decode cX6_taken 29 = .ok (.aload_n 0, 1) := by decide +kernel
theorem dX6_taken_30 : decode cX6_taken 30 = .ok (.getfield 10, 3) := by decide +kernel
theorem dX6_taken_33 : decode cX6_taken 33 = .ok (.dup, 1) := by decide +kernel
theorem dX6_taken_34 : decode cX6_taken 34 = .ok (.getfield 99, 3) := by decide +kernel
theorem dX6_taken_37 : decode cX6_taken 37 = .ok (.iload_n 2, 1) := by decide +kernel
theorem dX6_taken_38 : decode cX6_taken 38 = .ok (.isub, 1) := by decide +kernel
theorem dX6_taken_39 : decode cX6_taken 39 = .ok (.putfield 99, 3) := by decide +kernel
theorem dX6_taken_42 : decode cX6_taken 42 = .ok (.iload_n 2, 1) := by decide +kernel
theorem dX6_taken_43 : decode cX6_taken 43 = .ok (.ireturn, 1) := by decide +kernel
theorem dX6_forgive_0 : decode cX6_forgive 0 = .ok (.aload_n 0, 1) := by decide +kernel
theorem dX6_forgive_1 : decode cX6_forgive 1 = .ok (.iload_n 1, 1) := by decide +kernel
theorem dX6_forgive_2 : decode cX6_forgive 2 = .ok (.invokevirtual 69, 3) := by decide +kernel
theorem dX6_forgive_5 : decode cX6_forgive 5 = .ok (.ifCond .ne 9, 3) := by decide +kernel
theorem dX6_forgive_8 : decode cX6_forgive 8 = .ok (.aload_n 0, 1) := by decide +kernel
theorem dX6_forgive_9 : decode cX6_forgive 9 = .ok (.iconst 0, 1) := by decide +kernel
theorem dX6_forgive_10 : decode cX6_forgive 10 = .ok (.invokevirtual 57, 3) := by decide +kernel
theorem dX6_forgive_13 : decode cX6_forgive 13 = .ok (.ireturn, 1) := by decide +kernel
theorem dX6_forgive_14 : decode cX6_forgive 14 = .ok (.aload_n 0, 1) := by decide +kernel
theorem dX6_forgive_15 : decode cX6_forgive 15 = .ok (.getfield 10, 3) := by decide +kernel
theorem dX6_forgive_18 : decode cX6_forgive 18 = .ok (.getfield 73, 3) := by decide +kernel
theorem dX6_forgive_21 : decode cX6_forgive 21 = .ok (.iload_n 1, 1) := by decide +kernel
theorem dX6_forgive_22 : decode cX6_forgive 22 = .ok (.aaload, 1) := by decide +kernel
theorem dX6_forgive_23 : decode cX6_forgive 23 = .ok (.getfield 108, 3) := by decide +kernel
theorem dX6_forgive_26 : decode cX6_forgive 26 = .ok (.istore_n 2, 1) := by decide +kernel
theorem dX6_forgive_27 : decode cX6_forgive 27 = .ok (.aload_n 0, 1) := by decide +kernel
theorem dX6_forgive_28 : decode cX6_forgive 28 = .ok (.getfield 10, 3) := by decide +kernel
theorem dX6_forgive_31 : decode cX6_forgive 31 = .ok (.getfield 73, 3) := by decide +kernel
theorem dX6_forgive_34 : decode cX6_forgive 34 = .ok (.iload_n 1, 1) := by decide +kernel
theorem dX6_forgive_35 : decode cX6_forgive 35 = .ok (.aaload, 1) := by decide +kernel
theorem dX6_forgive_36 : decode cX6_forgive 36 = .ok (.iconst 0, 1) := by decide +kernel
theorem dX6_forgive_37 : decode cX6_forgive 37 = .ok (.putfield 108, 3) := by decide +kernel
theorem dX6_forgive_40 : decode cX6_forgive 40 = .ok (.iload_n 2, 1) := by decide +kernel
theorem dX6_forgive_41 : decode cX6_forgive 41 = .ok (.ireturn, 1) := by decide +kernel
theorem dX6_now_0 : decode cX6_now 0 = .ok (.iload_n 1, 1) := by decide +kernel
theorem dX6_now_1 : decode cX6_now 1 = .ok (.tableswitch 140 0 9 #[55, 63, 71, 79, 87, 95, 103, 112, 121, 130], 55) := by decide +kernel
theorem dX6_now_56 : decode cX6_now 56 = .ok (.aload_n 0, 1) := by decide +kernel
theorem dX6_now_57 : decode cX6_now 57 = .ok (.getfield 10, 3) := by decide +kernel
theorem dX6_now_60 : decode cX6_now 60 = .ok (.getfield 111, 3) := by decide +kernel
theorem dX6_now_63 : decode cX6_now 63 = .ok (.ireturn, 1) := by decide +kernel
theorem dX6_now_64 : decode cX6_now 64 = .ok (.aload_n 0, 1) := by decide +kernel
theorem dX6_now_65 : decode cX6_now 65 = .ok (.getfield 10, 3) := by decide +kernel
theorem dX6_now_68 : decode cX6_now 68 = .ok (.getfield 99, 3) := by decide +kernel
theorem dX6_now_71 : decode cX6_now 71 = .ok (.ireturn, 1) := by decide +kernel
theorem dX6_now_72 : decode cX6_now 72 = .ok (.aload_n 0, 1) := by decide +kernel
theorem dX6_now_73 : decode cX6_now 73 = .ok (.getfield 10, 3) := by decide +kernel
theorem dX6_now_76 : decode cX6_now 76 = .ok (.getfield 114, 3) := by decide +kernel
theorem dX6_now_79 : decode cX6_now 79 = .ok (.ireturn, 1) := by decide +kernel
theorem dX6_now_80 : decode cX6_now 80 = .ok (.aload_n 0, 1) := by decide +kernel
theorem dX6_now_81 : decode cX6_now 81 = .ok (.getfield 10, 3) := by decide +kernel
theorem dX6_now_84 : decode cX6_now 84 = .ok (.getfield 117, 3) := by decide +kernel
theorem dX6_now_87 : decode cX6_now 87 = .ok (.ireturn, 1) := by decide +kernel
theorem dX6_now_88 : decode cX6_now 88 = .ok (.aload_n 0, 1) := by decide +kernel
theorem dX6_now_89 : decode cX6_now 89 = .ok (.getfield 10, 3) := by decide +kernel
theorem dX6_now_92 : decode cX6_now 92 = .ok (.invokevirtual 120, 3) := by decide +kernel
theorem dX6_now_95 : decode cX6_now 95 = .ok (.ireturn, 1) := by decide +kernel
theorem dX6_now_96 : decode cX6_now 96 = .ok (.aload_n 0, 1) := by decide +kernel
theorem dX6_now_97 : decode cX6_now 97 = .ok (.getfield 10, 3) := by decide +kernel
theorem dX6_now_100 : decode cX6_now 100 = .ok (.getfield 124, 3) := by decide +kernel
theorem dX6_now_103 : decode cX6_now 103 = .ok (.ireturn, 1) := by decide +kernel
theorem dX6_now_104 : decode cX6_now 104 = .ok (.aload_n 0, 1) := by decide +kernel
theorem dX6_now_105 : decode cX6_now 105 = .ok (.getfield 10, 3) := by decide +kernel
theorem dX6_now_108 : decode cX6_now 108 = .ok (.iconst 4, 1) := by decide +kernel
theorem dX6_now_109 : decode cX6_now 109 = .ok (.invokevirtual 127, 3) := by decide +kernel
theorem dX6_now_112 : decode cX6_now 112 = .ok (.ireturn, 1) := by decide +kernel
theorem dX6_now_113 : decode cX6_now 113 = .ok (.aload_n 0, 1) := by decide +kernel
theorem dX6_now_114 : decode cX6_now 114 = .ok (.getfield 10, 3) := by decide +kernel
theorem dX6_now_117 : decode cX6_now 117 = .ok (.iconst 2, 1) := by decide +kernel
theorem dX6_now_118 : decode cX6_now 118 = .ok (.invokevirtual 127, 3) := by decide +kernel
theorem dX6_now_121 : decode cX6_now 121 = .ok (.ireturn, 1) := by decide +kernel
theorem dX6_now_122 : decode cX6_now 122 = .ok (.aload_n 0, 1) := by decide +kernel
theorem dX6_now_123 : decode cX6_now 123 = .ok (.getfield 10, 3) := by decide +kernel
theorem dX6_now_126 : decode cX6_now 126 = .ok (.iconst 5, 1) := by decide +kernel
theorem dX6_now_127 : decode cX6_now 127 = .ok (.invokevirtual 127, 3) := by decide +kernel
theorem dX6_now_130 : decode cX6_now 130 = .ok (.ireturn, 1) := by decide +kernel
theorem dX6_now_131 : decode cX6_now 131 = .ok (.aload_n 0, 1) := by decide +kernel
theorem dX6_now_132 : decode cX6_now 132 = .ok (.getfield 10, 3) := by decide +kernel
theorem dX6_now_135 : decode cX6_now 135 = .ok (.bipush 6, 2) := by decide +kernel
theorem dX6_now_137 : decode cX6_now 137 = .ok (.invokevirtual 127, 3) := by decide +kernel
theorem dX6_now_140 : decode cX6_now 140 = .ok (.ireturn, 1) := by decide +kernel
theorem dX6_now_141 : decode cX6_now 141 = .ok (.aload_n 0, 1) := by decide +kernel
theorem dX6_now_142 : decode cX6_now 142 = .ok (.iconst 0, 1) := by decide +kernel
theorem dX6_now_143 : decode cX6_now 143 = .ok (.invokevirtual 57, 3) := by decide +kernel
theorem dX6_now_146 : decode cX6_now 146 = .ok (.ireturn, 1) := by decide +kernel
theorem dX6_days_0 : decode cX6_days 0 = .ok (.iload_n 1, 1) := by decide +kernel
theorem dX6_days_1 : decode cX6_days 1 = .ok (.iconst 1, 1) := by decide +kernel
theorem dX6_days_2 : decode cX6_days 2 = .ok (.bipush 50, 2) := by decide +kernel
theorem dX6_days_4 : decode cX6_days 4 = .ok (.invokestatic 53, 3) := by decide +kernel
theorem dX6_days_7 : decode cX6_days 7 = .ok (.ifCond .ne 9, 3) := by decide +kernel
theorem dX6_days_10 : decode cX6_days 10 = .ok (.aload_n 0, 1) := by decide +kernel
theorem dX6_days_11 : decode cX6_days 11 = .ok (.iconst 0, 1) := by decide +kernel
theorem dX6_days_12 : decode cX6_days 12 = .ok (.invokevirtual 57, 3) := by decide +kernel
theorem dX6_days_15 : decode cX6_days 15 = .ok (.ireturn, 1) := by decide +kernel
theorem dX6_days_16 : decode cX6_days 16 = .ok (.aload_n 0, 1) := by decide +kernel
theorem dX6_days_17 : decode cX6_days 17 = .ok (.iload_n 1, 1) := by decide +kernel
theorem dX6_days_18 : decode cX6_days 18 = .ok (.invokevirtual 130, 3) := by decide +kernel
theorem dX6_days_21 : decode cX6_days 21 = .ok (.ifCond .eq 9, 3) := by decide +kernel
theorem dX6_days_24 : decode cX6_days 24 = .ok (.aload_n 0, 1) := by decide +kernel
theorem dX6_days_25 : decode cX6_days 25 = .ok (.iconst 4, 1) := by decide +kernel
theorem dX6_days_26 : decode cX6_days 26 = .ok (.invokevirtual 57, 3) := by decide +kernel
theorem dX6_days_29 : decode cX6_days 29 = .ok (.ireturn, 1) := by decide +kernel
theorem dX6_days_30 : decode cX6_days 30 = .ok (.aload_n 0, 1) := by decide +kernel
theorem dX6_days_31 : decode cX6_days 31 = .ok (.getfield 10, 3) := by decide +kernel
theorem dX6_days_34 : decode cX6_days 34 = .ok (.iload_n 1, 1) := by decide +kernel
theorem dX6_days_35 : decode cX6_days 35 = .ok (.invokevirtual 133, 3) := by decide +kernel
theorem dX6_days_38 : decode cX6_days 38 = .ok (.ireturn, 1) := by decide +kernel
theorem dX6_week_0 : decode cX6_week 0 = .ok (.iload_n 1, 1) := by decide +kernel
theorem dX6_week_1 : decode cX6_week 1 = .ok (.ifCond .lt 12, 3) := by decide +kernel
theorem dX6_week_4 : decode cX6_week 4 = .ok (.iload_n 2, 1) := by decide +kernel
theorem dX6_week_5 : decode cX6_week 5 = .ok (.iconst 0, 1) := by decide +kernel
theorem dX6_week_6 : decode cX6_week 6 = .ok (.iconst 1, 1) := by decide +kernel
theorem dX6_week_7 : decode cX6_week 7 = .ok (.invokestatic 53, 3) := by decide +kernel
theorem dX6_week_10 : decode cX6_week 10 = .ok (.ifCond .ne 9, 3) := by decide +kernel
theorem dX6_week_13 : decode cX6_week 13 = .ok (.aload_n 0, 1) := by decide +kernel
theorem dX6_week_14 : decode cX6_week 14 = .ok (.iconst 0, 1) := by decide +kernel
theorem dX6_week_15 : decode cX6_week 15 = .ok (.invokevirtual 57, 3) := by decide +kernel
theorem dX6_week_18 : decode cX6_week 18 = .ok (.ireturn, 1) := by decide +kernel
theorem dX6_week_19 : decode cX6_week 19 = .ok (.iload_n 1, 1) := by decide +kernel
theorem dX6_week_20 : decode cX6_week 20 = .ok (.aload_n 0, 1) := by decide +kernel
theorem dX6_week_21 : decode cX6_week 21 = .ok (.getfield 10, 3) := by decide +kernel
theorem dX6_week_24 : decode cX6_week 24 = .ok (.getfield 136, 3) := by decide +kernel
theorem dX6_week_27 : decode cX6_week 27 = .ok (.getfield 140, 3) := by decide +kernel
theorem dX6_week_30 : decode cX6_week 30 = .ok (.if_icmp .lt 9, 3) := by decide +kernel
theorem dX6_week_33 : decode cX6_week 33 = .ok (.aload_n 0, 1) := by decide +kernel
theorem dX6_week_34 : decode cX6_week 34 = .ok (.iconst 3, 1) := by decide +kernel
theorem dX6_week_35 : decode cX6_week 35 = .ok (.invokevirtual 57, 3) := by decide +kernel
theorem dX6_week_38 : decode cX6_week 38 = .ok (.ireturn, 1) := by decide +kernel
theorem dX6_week_39 : decode cX6_week 39 = .ok (.iload_n 2, 1) := by decide +kernel
theorem dX6_week_40 : decode cX6_week 40 = .ok (.ifCond .ne 18, 3) := by decide +kernel
theorem dX6_week_43 : decode cX6_week 43 = .ok (.aload_n 0, 1) := by decide +kernel
theorem dX6_week_44 : decode cX6_week 44 = .ok (.getfield 10, 3) := by decide +kernel
theorem dX6_week_47 : decode cX6_week 47 = .ok (.getfield 136, 3) := by decide +kernel
theorem dX6_week_50 : decode cX6_week 50 = .ok (.getfield 143, 3) := by decide +kernel
theorem dX6_week_53 : decode cX6_week 53 = .ok (.iload_n 1, 1) := by decide +kernel
theorem dX6_week_54 : decode cX6_week 54 = .ok (.iaload, 1) := by decide +kernel
theorem dX6_week_55 : decode cX6_week 55 = .ok (.goto 15, 3) := by decide +kernel
theorem dX6_week_58 : decode cX6_week 58 = .ok (.aload_n 0, 1) := by decide +kernel
theorem dX6_week_59 : decode cX6_week 59 = .ok (.getfield 10, 3) := by decide +kernel
theorem dX6_week_62 : decode cX6_week 62 = .ok (.getfield 136, 3) := by decide +kernel
theorem dX6_week_65 : decode cX6_week 65 = .ok (.getfield 146, 3) := by decide +kernel
theorem dX6_week_68 : decode cX6_week 68 = .ok (.iload_n 1, 1) := by decide +kernel
theorem dX6_week_69 : decode cX6_week 69 = .ok (.iaload, 1) := by decide +kernel
theorem dX6_week_70 : decode cX6_week 70 = .ok (.ireturn, 1) := by decide +kernel
theorem dX6_each_0 : decode cX6_each 0 = .ok (.iload_n 1, 1) := by decide +kernel
theorem dX6_each_1 : decode cX6_each 1 = .ok (.iconst 0, 1) := by decide +kernel
theorem dX6_each_2 : decode cX6_each 2 = .ok (.iconst 1, 1) := by decide +kernel
theorem dX6_each_3 : decode cX6_each 3 = .ok (.invokestatic 53, 3) := by decide +kernel
theorem dX6_each_6 : decode cX6_each 6 = .ok (.ifCond .ne 9, 3) := by decide +kernel
theorem dX6_each_9 : decode cX6_each 9 = .ok (.aload_n 0, 1) := by decide +kernel
theorem dX6_each_10 : decode cX6_each 10 = .ok (.iconst 0, 1) := by decide +kernel
theorem dX6_each_11 : decode cX6_each 11 = .ok (.invokevirtual 57, 3) := by decide +kernel
theorem dX6_each_14 : decode cX6_each 14 = .ok (.ireturn, 1) := by decide +kernel
theorem dX6_each_15 : decode cX6_each 15 = .ok (.aload_n 0, 1) := by decide +kernel
theorem dX6_each_16 : decode cX6_each 16 = .ok (.getfield 10, 3) := by decide +kernel
theorem dX6_each_19 : decode cX6_each 19 = .ok (.getfield 136, 3) := by decide +kernel
theorem dX6_each_22 : decode cX6_each 22 = .ok (.invokevirtual 149, 3) := by decide +kernel
theorem dX6_each_25 : decode cX6_each 25 = .ok (.istore_n 2, 1) := by decide +kernel
theorem dX6_each_26 : decode cX6_each 26 = .ok (.iload_n 2, 1) := by decide +kernel
theorem dX6_each_27 : decode cX6_each 27 = .ok (.ifCond .ne 9, 3) := by decide +kernel
theorem dX6_each_30 : decode cX6_each 30 = .ok (.aload_n 0, 1) := by decide +kernel
theorem dX6_each_31 : decode cX6_each 31 = .ok (.iconst 3, 1) := by decide +kernel
theorem dX6_each_32 : decode cX6_each 32 = .ok (.invokevirtual 57, 3) := by decide +kernel
theorem dX6_each_35 : decode cX6_each 35 = .ok (.ireturn, 1) := by decide +kernel
theorem dX6_each_36 : decode cX6_each 36 = .ok (.aload_n 0, 1) := by decide +kernel
theorem dX6_each_37 : decode cX6_each 37 = .ok (.getfield 10, 3) := by decide +kernel
theorem dX6_each_40 : decode cX6_each 40 = .ok (.getfield 136, 3) := by decide +kernel
theorem dX6_each_43 : decode cX6_each 43 = .ok (.invokevirtual 152, 3) := by decide +kernel
theorem dX6_each_46 : decode cX6_each 46 = .ok (.istore_n 3, 1) := by decide +kernel
theorem dX6_each_47 : decode cX6_each 47 = .ok (.iload_n 3, 1) := by decide +kernel
theorem dX6_each_48 : decode cX6_each 48 = .ok (.iload_n 2, 1) := by decide +kernel
theorem dX6_each_49 : decode cX6_each 49 = .ok (.invokestatic 155, 3) := by decide +kernel
theorem dX6_each_52 : decode cX6_each 52 = .ok (.istore 4, 2) := by decide +kernel
theorem dX6_each_54 : decode cX6_each 54 = .ok (.iload_n 1, 1) := by decide +kernel
theorem dX6_each_55 : decode cX6_each 55 = .ok (.ifCond .ne 7, 3) := by decide +kernel
theorem dX6_each_58 : decode cX6_each 58 = .ok (.iload_n 3, 1) := by decide +kernel
theorem dX6_each_59 : decode cX6_each 59 = .ok (.goto 4, 3) := by decide +kernel
theorem dX6_each_62 : decode cX6_each 62 = .ok (.iload_n 2, 1) := by decide +kernel
theorem dX6_each_63 : decode cX6_each 63 = .ok (.iload 4, 2) := by decide +kernel
theorem dX6_each_65 : decode cX6_each 65 = .ok (.idiv, 1) := by decide +kernel
theorem dX6_each_66 : decode cX6_each 66 = .ok (.ireturn, 1) := by decide +kernel
theorem dX6_many_0 : decode cX6_many 0 = .ok (.iload_n 1, 1) := by decide +kernel
theorem dX6_many_1 : decode cX6_many 1 = .ok (.iconst 0, 1) := by decide +kernel
theorem dX6_many_2 : decode cX6_many 2 = .ok (.sipush 9999, 3) := by decide +kernel
theorem dX6_many_5 : decode cX6_many 5 = .ok (.invokestatic 53, 3) := by decide +kernel
theorem dX6_many_8 : decode cX6_many 8 = .ok (.ifCond .ne 9, 3) := by decide +kernel
theorem dX6_many_11 : decode cX6_many 11 = .ok (.aload_n 0, 1) := by decide +kernel
theorem dX6_many_12 : decode cX6_many 12 = .ok (.iconst 0, 1) := by decide +kernel
theorem dX6_many_13 : decode cX6_many 13 = .ok (.invokevirtual 57, 3) := by decide +kernel
theorem dX6_many_16 : decode cX6_many 16 = .ok (.ireturn, 1) := by decide +kernel
theorem dX6_many_17 : decode cX6_many 17 = .ok (.iconst 0, 1) := by decide +kernel
theorem dX6_many_18 : decode cX6_many 18 = .ok (.istore_n 2, 1) := by decide +kernel
theorem dX6_many_19 : decode cX6_many 19 = .ok (.iconst 1, 1) := by decide +kernel
theorem dX6_many_20 : decode cX6_many 20 = .ok (.istore_n 3, 1) := by decide +kernel
theorem dX6_many_21 : decode cX6_many 21 = .ok (.iload_n 3, 1) := by decide +kernel
theorem dX6_many_22 : decode cX6_many 22 = .ok (.iconst 1, 1) := by decide +kernel
theorem dX6_many_23 : decode cX6_many 23 = .ok (.aload_n 0, 1) := by decide +kernel
theorem dX6_many_24 : decode cX6_many 24 = .ok (.getfield 10, 3) := by decide +kernel
theorem dX6_many_27 : decode cX6_many 27 = .ok (.getfield 61, 3) := by decide +kernel
theorem dX6_many_30 : decode cX6_many 30 = .ok (.ishl, 1) := by decide +kernel
theorem dX6_many_31 : decode cX6_many 31 = .ok (.if_icmp .ge 24, 3) := by decide +kernel
theorem dX6_many_34 : decode cX6_many 34 = .ok (.aload_n 0, 1) := by decide +kernel
theorem dX6_many_35 : decode cX6_many 35 = .ok (.getfield 10, 3) := by decide +kernel
theorem dX6_many_38 : decode cX6_many 38 = .ok (.iload_n 3, 1) := by decide +kernel
theorem dX6_many_39 : decode cX6_many 39 = .ok (.invokevirtual 158, 3) := by decide +kernel
theorem dX6_many_42 : decode cX6_many 42 = .ok (.iload_n 1, 1) := by decide +kernel
theorem dX6_many_43 : decode cX6_many 43 = .ok (.if_icmp .ne 6, 3) := by decide +kernel
theorem dX6_many_46 : decode cX6_many 46 = .ok (.iinc 2 1, 3) := by decide +kernel
theorem dX6_many_49 : decode cX6_many 49 = .ok (.iinc 3 1, 3) := by decide +kernel
theorem dX6_many_52 : decode cX6_many 52 = .ok (.goto (-31), 3) := by decide +kernel
theorem dX6_many_55 : decode cX6_many 55 = .ok (.iload_n 2, 1) := by decide +kernel
theorem dX6_many_56 : decode cX6_many 56 = .ok (.ireturn, 1) := by decide +kernel
theorem dX6_who_0 : decode cX6_who 0 = .ok (.iload_n 1, 1) := by decide +kernel
theorem dX6_who_1 : decode cX6_who 1 = .ok (.iconst 0, 1) := by decide +kernel
theorem dX6_who_2 : decode cX6_who 2 = .ok (.sipush 9999, 3) := by decide +kernel
theorem dX6_who_5 : decode cX6_who 5 = .ok (.invokestatic 53, 3) := by decide +kernel
theorem dX6_who_8 : decode cX6_who 8 = .ok (.ifCond .eq 12, 3) := by decide +kernel
theorem dX6_who_11 : decode cX6_who 11 = .ok (.iload_n 2, 1) := by decide +kernel
theorem dX6_who_12 : decode cX6_who 12 = .ok (.iconst 0, 1) := by decide +kernel
theorem dX6_who_13 : decode cX6_who 13 = .ok (.iconst 1, 1) := by decide +kernel
theorem dX6_who_14 : decode cX6_who 14 = .ok (.invokestatic 53, 3) := by decide +kernel
theorem dX6_who_17 : decode cX6_who 17 = .ok (.ifCond .ne 9, 3) := by decide +kernel
theorem dX6_who_20 : decode cX6_who 20 = .ok (.aload_n 0, 1) := by decide +kernel
theorem dX6_who_21 : decode cX6_who 21 = .ok (.iconst 0, 1) := by decide +kernel
theorem dX6_who_22 : decode cX6_who 22 = .ok (.invokevirtual 57, 3) := by decide +kernel
theorem dX6_who_25 : decode cX6_who 25 = .ok (.ireturn, 1) := by decide +kernel
theorem dX6_who_26 : decode cX6_who 26 = .ok (.iconst (-1), 1) := by decide +kernel
theorem dX6_who_27 : decode cX6_who 27 = .ok (.istore_n 3, 1) := by decide +kernel
theorem dX6_who_28 : decode cX6_who 28 = .ok (.iconst 0, 1) := by decide +kernel
theorem dX6_who_29 : decode cX6_who 29 = .ok (.istore 4, 2) := by decide +kernel
theorem dX6_who_31 : decode cX6_who 31 = .ok (.iconst 1, 1) := by decide +kernel
theorem dX6_who_32 : decode cX6_who 32 = .ok (.istore 5, 2) := by decide +kernel
theorem dX6_who_34 : decode cX6_who 34 = .ok (.iload 5, 2) := by decide +kernel
theorem dX6_who_36 : decode cX6_who 36 = .ok (.iconst 1, 1) := by decide +kernel
theorem dX6_who_37 : decode cX6_who 37 = .ok (.aload_n 0, 1) := by decide +kernel
theorem dX6_who_38 : decode cX6_who 38 = .ok (.getfield 10, 3) := by decide +kernel
theorem dX6_who_41 : decode cX6_who 41 = .ok (.getfield 61, 3) := by decide +kernel
theorem dX6_who_44 : decode cX6_who 44 = .ok (.ishl, 1) := by decide +kernel
theorem dX6_who_45 : decode cX6_who 45 = .ok (.if_icmp .ge 34, 3) := by decide +kernel
theorem dX6_who_48 : decode cX6_who 48 = .ok (.aload_n 0, 1) := by decide +kernel
theorem dX6_who_49 : decode cX6_who 49 = .ok (.getfield 10, 3) := by decide +kernel
theorem dX6_who_52 : decode cX6_who 52 = .ok (.iload 5, 2) := by decide +kernel
theorem dX6_who_54 : decode cX6_who 54 = .ok (.invokevirtual 158, 3) := by decide +kernel
theorem dX6_who_57 : decode cX6_who 57 = .ok (.iload_n 1, 1) := by decide +kernel
theorem dX6_who_58 : decode cX6_who 58 = .ok (.if_icmp .ne 15, 3) := by decide +kernel
theorem dX6_who_61 : decode cX6_who 61 = .ok (.iload_n 3, 1) := by decide +kernel
theorem dX6_who_62 : decode cX6_who 62 = .ok (.iload 5, 2) := by decide +kernel
theorem dX6_who_64 : decode cX6_who 64 = .ok (.iand, 1) := by decide +kernel
theorem dX6_who_65 : decode cX6_who 65 = .ok (.istore_n 3, 1) := by decide +kernel
theorem dX6_who_66 : decode cX6_who 66 = .ok (.iload 4, 2) := by decide +kernel
theorem dX6_who_68 : decode cX6_who 68 = .ok (.iload 5, 2) := by decide +kernel
theorem dX6_who_70 : decode cX6_who 70 = .ok (.ior, 1) := by decide +kernel
theorem dX6_who_71 : decode cX6_who 71 = .ok (.istore 4, 2) := by decide +kernel
theorem dX6_who_73 : decode cX6_who 73 = .ok (.iinc 5 1, 3) := by decide +kernel
theorem dX6_who_76 : decode cX6_who 76 = .ok (.goto (-42), 3) := by decide +kernel
theorem dX6_who_79 : decode cX6_who 79 = .ok (.iload 4, 2) := by decide +kernel
theorem dX6_who_81 : decode cX6_who 81 = .ok (.ifCond .ne 9, 3) := by decide +kernel
theorem dX6_who_84 : decode cX6_who 84 = .ok (.aload_n 0, 1) := by decide +kernel
theorem dX6_who_85 : decode cX6_who 85 = .ok (.iconst 3, 1) := by decide +kernel
theorem dX6_who_86 : decode cX6_who 86 = .ok (.invokevirtual 57, 3) := by decide +kernel
theorem dX6_who_89 : decode cX6_who 89 = .ok (.ireturn, 1) := by decide +kernel
theorem dX6_who_90 : decode cX6_who 90 = .ok (.iload_n 2, 1) := by decide +kernel
theorem dX6_who_91 : decode cX6_who 91 = .ok (.ifCond .ne 7, 3) := by decide +kernel
theorem dX6_who_94 : decode cX6_who 94 = .ok (.iload_n 3, 1) := by decide +kernel
theorem dX6_who_95 : decode cX6_who 95 = .ok (.goto 5, 3) := by decide +kernel
theorem dX6_who_98 : decode cX6_who 98 = .ok (.iload 4, 2) := by decide +kernel
theorem dX6_who_100 : decode cX6_who 100 = .ok (.ireturn, 1) := by decide +kernel
theorem dX6_fewest_0 : decode cX6_fewest 0 = .ok (.iload_n 1, 1) := by decide +kernel
theorem dX6_fewest_1 : decode cX6_fewest 1 = .ok (.iconst 0, 1) := by decide +kernel
theorem dX6_fewest_2 : decode cX6_fewest 2 = .ok (.sipush 9999, 3) := by decide +kernel
theorem dX6_fewest_5 : decode cX6_fewest 5 = .ok (.invokestatic 53, 3) := by decide +kernel
theorem dX6_fewest_8 : decode cX6_fewest 8 = .ok (.ifCond .ne 9, 3) := by decide +kernel
theorem dX6_fewest_11 : decode cX6_fewest 11 = .ok (.aload_n 0, 1) := by decide +kernel
theorem dX6_fewest_12 : decode cX6_fewest 12 = .ok (.iconst 0, 1) := by decide +kernel
theorem dX6_fewest_13 : decode cX6_fewest 13 = .ok (.invokevirtual 57, 3) := by decide +kernel
theorem dX6_fewest_16 : decode cX6_fewest 16 = .ok (.ireturn, 1) := by decide +kernel
theorem dX6_fewest_17 : decode cX6_fewest 17 = .ok (.iconst 0, 1) := by decide +kernel
theorem dX6_fewest_18 : decode cX6_fewest 18 = .ok (.istore_n 2, 1) := by decide +kernel
theorem dX6_fewest_19 : decode cX6_fewest 19 = .ok (.iconst 1, 1) := by decide +kernel
theorem dX6_fewest_20 : decode cX6_fewest 20 = .ok (.istore_n 3, 1) := by decide +kernel
theorem dX6_fewest_21 : decode cX6_fewest 21 = .ok (.iload_n 3, 1) := by decide +kernel
theorem dX6_fewest_22 : decode cX6_fewest 22 = .ok (.iconst 1, 1) := by decide +kernel
theorem dX6_fewest_23 : decode cX6_fewest 23 = .ok (.aload_n 0, 1) := by decide +kernel
theorem dX6_fewest_24 : decode cX6_fewest 24 = .ok (.getfield 10, 3) := by decide +kernel
theorem dX6_fewest_27 : decode cX6_fewest 27 = .ok (.getfield 61, 3) := by decide +kernel
theorem dX6_fewest_30 : decode cX6_fewest 30 = .ok (.ishl, 1) := by decide +kernel
theorem dX6_fewest_31 : decode cX6_fewest 31 = .ok (.if_icmp .ge 50, 3) := by decide +kernel
theorem dX6_fewest_34 : decode cX6_fewest 34 = .ok (.iload_n 2, 1) := by decide +kernel
theorem dX6_fewest_35 : decode cX6_fewest 35 = .ok (.ifCond .eq 14, 3) := by decide +kernel
theorem dX6_fewest_38 : decode cX6_fewest 38 = .ok (.iload_n 3, 1) := by decide +kernel
theorem dX6_fewest_39 : decode cX6_fewest 39 = .ok (.invokestatic 161, 3) := by decide +kernel
theorem dX6_fewest_42 : decode cX6_fewest 42 = .ok (.iload_n 2, 1) := by decide +kernel
theorem dX6_fewest_43 : decode cX6_fewest 43 = .ok (.invokestatic 161, 3) := by decide +kernel
theorem dX6_fewest_46 : decode cX6_fewest 46 = .ok (.if_icmp .ge 7, 3) := by decide +kernel
theorem dX6_fewest_49 : decode cX6_fewest 49 = .ok (.iconst 1, 1) := by decide +kernel
theorem dX6_fewest_50 : decode cX6_fewest 50 = .ok (.goto 4, 3) := by decide +kernel
theorem dX6_fewest_53 : decode cX6_fewest 53 = .ok (.iconst 0, 1) := by decide +kernel
theorem dX6_fewest_54 : decode cX6_fewest 54 = .ok (.istore 4, 2) := by decide +kernel
theorem dX6_fewest_56 : decode cX6_fewest 56 = .ok (.iload 4, 2) := by decide +kernel
theorem dX6_fewest_58 : decode cX6_fewest 58 = .ok (.ifCond .eq 17, 3) := by decide +kernel
theorem dX6_fewest_61 : decode cX6_fewest 61 = .ok (.aload_n 0, 1) := by decide +kernel
theorem dX6_fewest_62 : decode cX6_fewest 62 = .ok (.getfield 10, 3) := by decide +kernel
theorem dX6_fewest_65 : decode cX6_fewest 65 = .ok (.iload_n 3, 1) := by decide +kernel
theorem dX6_fewest_66 : decode cX6_fewest 66 = .ok (.invokevirtual 158, 3) := by decide +kernel
theorem dX6_fewest_69 : decode cX6_fewest 69 = .ok (.iload_n 1, 1) := by decide +kernel
theorem dX6_fewest_70 : decode cX6_fewest 70 = .ok (.if_icmp .ne 5, 3) := by decide +kernel
theorem dX6_fewest_73 : decode cX6_fewest 73 = .ok (.iload_n 3, 1) := by decide +kernel
theorem dX6_fewest_74 : decode cX6_fewest 74 = .ok (.istore_n 2, 1) := by decide +kernel
theorem dX6_fewest_75 : decode cX6_fewest 75 = .ok (.iinc 3 1, 3) := by decide +kernel
theorem dX6_fewest_78 : decode cX6_fewest 78 = .ok (.goto (-57), 3) := by decide +kernel
theorem dX6_fewest_81 : decode cX6_fewest 81 = .ok (.iload_n 2, 1) := by decide +kernel
theorem dX6_fewest_82 : decode cX6_fewest 82 = .ok (.ifCond .ne 11, 3) := by decide +kernel
theorem dX6_fewest_85 : decode cX6_fewest 85 = .ok (.aload_n 0, 1) := by decide +kernel
theorem dX6_fewest_86 : decode cX6_fewest 86 = .ok (.iconst 3, 1) := by decide +kernel
theorem dX6_fewest_87 : decode cX6_fewest 87 = .ok (.invokevirtual 57, 3) := by decide +kernel
theorem dX6_fewest_90 : decode cX6_fewest 90 = .ok (.goto 4, 3) := by decide +kernel
theorem dX6_fewest_93 : decode cX6_fewest 93 = .ok (.iload_n 2, 1) := by decide +kernel
theorem dX6_fewest_94 : decode cX6_fewest 94 = .ok (.ireturn, 1) := by decide +kernel
theorem dX6_ahead_0 : decode cX6_ahead 0 = .ok (.iload_n 1, 1) := by decide +kernel
theorem dX6_ahead_1 : decode cX6_ahead 1 = .ok (.iconst 0, 1) := by decide +kernel
theorem dX6_ahead_2 : decode cX6_ahead 2 = .ok (.bipush 100, 2) := by decide +kernel
theorem dX6_ahead_4 : decode cX6_ahead 4 = .ok (.invokestatic 53, 3) := by decide +kernel
theorem dX6_ahead_7 : decode cX6_ahead 7 = .ok (.ifCond .eq 12, 3) := by decide +kernel
theorem dX6_ahead_10 : decode cX6_ahead 10 = .ok (.iload_n 2, 1) := by decide +kernel
theorem dX6_ahead_11 : decode cX6_ahead 11 = .ok (.iconst 0, 1) := by decide +kernel
theorem dX6_ahead_12 : decode cX6_ahead 12 = .ok (.iconst 5, 1) := by decide +kernel
theorem dX6_ahead_13 : decode cX6_ahead 13 = .ok (.invokestatic 53, 3) := by decide +kernel
theorem dX6_ahead_16 : decode cX6_ahead 16 = .ok (.ifCond .ne 9, 3) := by decide +kernel
theorem dX6_ahead_19 : decode cX6_ahead 19 = .ok (.aload_n 0, 1) := by decide +kernel
theorem dX6_ahead_20 : decode cX6_ahead 20 = .ok (.iconst 0, 1) := by decide +kernel
theorem dX6_ahead_21 : decode cX6_ahead 21 = .ok (.invokevirtual 57, 3) := by decide +kernel
theorem dX6_ahead_24 : decode cX6_ahead 24 = .ok (.ireturn, 1) := by decide +kernel
theorem dX6_ahead_25 : decode cX6_ahead 25 = .ok (.aload_n 0, 1) := by decide +kernel
theorem dX6_ahead_26 : decode cX6_ahead 26 = .ok (.iload_n 1, 1) := by decide +kernel
theorem dX6_ahead_27 : decode cX6_ahead 27 = .ok (.invokevirtual 130, 3) := by decide +kernel
theorem dX6_ahead_30 : decode cX6_ahead 30 = .ok (.ifCond .eq 9, 3) := by decide +kernel
theorem dX6_ahead_33 : decode cX6_ahead 33 = .ok (.aload_n 0, 1) := by decide +kernel
theorem dX6_ahead_34 : decode cX6_ahead 34 = .ok (.iconst 4, 1) := by decide +kernel
theorem dX6_ahead_35 : decode cX6_ahead 35 = .ok (.invokevirtual 57, 3) := by decide +kernel
theorem dX6_ahead_38 : decode cX6_ahead 38 = .ok (.ireturn, 1) := by decide +kernel
theorem dX6_ahead_39 : decode cX6_ahead 39 = .ok (.aload_n 0, 1) := by decide +kernel
theorem dX6_ahead_40 : decode cX6_ahead 40 = .ok (.getfield 19, 3) := by decide +kernel
theorem dX6_ahead_43 : decode cX6_ahead 43 = .ok (.aload_n 0, 1) := by decide +kernel
theorem dX6_ahead_44 : decode cX6_ahead 44 = .ok (.getfield 10, 3) := by decide +kernel
theorem dX6_ahead_47 : decode cX6_ahead 47 = .ok (.invokevirtual 166, 3) := by decide +kernel
theorem dX6_ahead_50 : decode cX6_ahead 50 = .ok (.aload_n 0, 1) := by decide +kernel
theorem dX6_ahead_51 : decode cX6_ahead 51 = .ok (.getfield 19, 3) := by decide +kernel
theorem dX6_ahead_54 : decode cX6_ahead 54 = .ok (.iload_n 1, 1) := by decide +kernel
theorem dX6_ahead_55 : decode cX6_ahead 55 = .ok (.invokevirtual 133, 3) := by decide +kernel
theorem dX6_ahead_58 : decode cX6_ahead 58 = .ok (.istore_n 3, 1) := by decide +kernel
theorem dX6_ahead_59 : decode cX6_ahead 59 = .ok (.iload_n 2, 1) := by decide +kernel
theorem dX6_ahead_60 : decode cX6_ahead 60 = .ok (.tableswitch 87 0 4 #[36, 44, 60, 69, 85], 36) := by decide +kernel
theorem dX6_ahead_96 : decode cX6_ahead 96 = .ok (.aload_n 0, 1) := by decide +kernel
theorem dX6_ahead_97 : decode cX6_ahead 97 = .ok (.getfield 19, 3) := by decide +kernel
theorem dX6_ahead_100 : decode cX6_ahead 100 = .ok (.getfield 99, 3) := by decide +kernel
theorem dX6_ahead_103 : decode cX6_ahead 103 = .ok (.ireturn, 1) := by decide +kernel
theorem dX6_ahead_104 : decode cX6_ahead 104 = .ok (.aload_n 0, 1) := by decide +kernel
theorem dX6_ahead_105 : decode cX6_ahead 105 = .ok (.getfield 19, 3) := by decide +kernel
theorem dX6_ahead_108 : decode cX6_ahead 108 = .ok (.getfield 170, 3) := by decide +kernel
theorem dX6_ahead_111 : decode cX6_ahead 111 = .ok (.aload_n 0, 1) := by decide +kernel
theorem dX6_ahead_112 : decode cX6_ahead 112 = .ok (.getfield 10, 3) := by decide +kernel
theorem dX6_ahead_115 : decode cX6_ahead 115 = .ok (.getfield 170, 3) := by decide +kernel
theorem dX6_ahead_118 : decode cX6_ahead 118 = .ok (.isub, 1) := by decide +kernel
theorem dX6_ahead_119 : decode cX6_ahead 119 = .ok (.ireturn, 1) := by decide +kernel
theorem dX6_ahead_120 : decode cX6_ahead 120 = .ok (.aload_n 0, 1) := by decide +kernel
theorem dX6_ahead_121 : decode cX6_ahead 121 = .ok (.getfield 19, 3) := by decide +kernel
theorem dX6_ahead_124 : decode cX6_ahead 124 = .ok (.iconst 4, 1) := by decide +kernel
theorem dX6_ahead_125 : decode cX6_ahead 125 = .ok (.invokevirtual 127, 3) := by decide +kernel
theorem dX6_ahead_128 : decode cX6_ahead 128 = .ok (.ireturn, 1) := by decide +kernel
theorem dX6_ahead_129 : decode cX6_ahead 129 = .ok (.aload_n 0, 1) := by decide +kernel
theorem dX6_ahead_130 : decode cX6_ahead 130 = .ok (.getfield 19, 3) := by decide +kernel
theorem dX6_ahead_133 : decode cX6_ahead 133 = .ok (.getfield 124, 3) := by decide +kernel
theorem dX6_ahead_136 : decode cX6_ahead 136 = .ok (.aload_n 0, 1) := by decide +kernel
theorem dX6_ahead_137 : decode cX6_ahead 137 = .ok (.getfield 10, 3) := by decide +kernel
theorem dX6_ahead_140 : decode cX6_ahead 140 = .ok (.getfield 124, 3) := by decide +kernel
theorem dX6_ahead_143 : decode cX6_ahead 143 = .ok (.isub, 1) := by decide +kernel
theorem dX6_ahead_144 : decode cX6_ahead 144 = .ok (.ireturn, 1) := by decide +kernel
theorem dX6_ahead_145 : decode cX6_ahead 145 = .ok (.iload_n 3, 1) := by decide +kernel
theorem dX6_ahead_146 : decode cX6_ahead 146 = .ok (.ireturn, 1) := by decide +kernel
theorem dX6_ahead_147 : decode cX6_ahead 147 = .ok (.aload_n 0, 1) := by decide +kernel
theorem dX6_ahead_148 : decode cX6_ahead 148 = .ok (.getfield 19, 3) := by decide +kernel
theorem dX6_ahead_151 : decode cX6_ahead 151 = .ok (.getfield 117, 3) := by decide +kernel
theorem dX6_ahead_154 : decode cX6_ahead 154 = .ok (.ireturn, 1) := by decide +kernel
theorem dX6_rests_0 : decode cX6_rests 0 = .ok (.aload_n 0, 1) := by decide +kernel
theorem dX6_rests_1 : decode cX6_rests 1 = .ok (.getfield 10, 3) := by decide +kernel
theorem dX6_rests_4 : decode cX6_rests 4 = .ok (.getfield 111, 3) := by decide +kernel
theorem dX6_rests_7 : decode cX6_rests 7 = .ok (.sipush 9990, 3) := by decide +kernel
theorem dX6_rests_10 : decode cX6_rests 10 = .ok (.if_icmp .le 9, 3) := by decide +kernel
theorem dX6_rests_13 : decode cX6_rests 13 = .ok (.aload_n 0, 1) := by decide +kernel
theorem dX6_rests_14 : decode cX6_rests 14 = .ok (.iconst 4, 1) := by decide +kernel
theorem dX6_rests_15 : decode cX6_rests 15 = .ok (.invokevirtual 57, 3) := by decide +kernel
theorem dX6_rests_18 : decode cX6_rests 18 = .ok (.ireturn, 1) := by decide +kernel
theorem dX6_rests_19 : decode cX6_rests 19 = .ok (.iconst 0, 1) := by decide +kernel
theorem dX6_rests_20 : decode cX6_rests 20 = .ok (.istore_n 1, 1) := by decide +kernel
theorem dX6_rests_21 : decode cX6_rests 21 = .ok (.iconst 0, 1) := by decide +kernel
theorem dX6_rests_22 : decode cX6_rests 22 = .ok (.istore_n 2, 1) := by decide +kernel
theorem dX6_rests_23 : decode cX6_rests 23 = .ok (.iload_n 2, 1) := by decide +kernel
theorem dX6_rests_24 : decode cX6_rests 24 = .ok (.bipush 10, 2) := by decide +kernel
theorem dX6_rests_26 : decode cX6_rests 26 = .ok (.if_icmp .gt 31, 3) := by decide +kernel
theorem dX6_rests_29 : decode cX6_rests 29 = .ok (.aload_n 0, 1) := by decide +kernel
theorem dX6_rests_30 : decode cX6_rests 30 = .ok (.bipush 10, 2) := by decide +kernel
theorem dX6_rests_32 : decode cX6_rests 32 = .ok (.iload_n 2, 1) := by decide +kernel
theorem dX6_rests_33 : decode cX6_rests 33 = .ok (.imul, 1) := by decide +kernel
theorem dX6_rests_34 : decode cX6_rests 34 = .ok (.iconst 1, 1) := by decide +kernel
theorem dX6_rests_35 : decode cX6_rests 35 = .ok (.invokevirtual 173, 3) := by decide +kernel
theorem dX6_rests_38 : decode cX6_rests 38 = .ok (.bipush 10, 2) := by decide +kernel
theorem dX6_rests_40 : decode cX6_rests 40 = .ok (.iload_n 2, 1) := by decide +kernel
theorem dX6_rests_41 : decode cX6_rests 41 = .ok (.imul, 1) := by decide +kernel
theorem dX6_rests_42 : decode cX6_rests 42 = .ok (.if_icmp .ne 9, 3) := by decide +kernel
theorem dX6_rests_45 : decode cX6_rests 45 = .ok (.iload_n 1, 1) := by decide +kernel
theorem dX6_rests_46 : decode cX6_rests 46 = .ok (.iconst 1, 1) := by decide +kernel
theorem dX6_rests_47 : decode cX6_rests 47 = .ok (.iload_n 2, 1) := by decide +kernel
theorem dX6_rests_48 : decode cX6_rests 48 = .ok (.ishl, 1) := by decide +kernel
theorem dX6_rests_49 : decode cX6_rests 49 = .ok (.ior, 1) := by decide +kernel
theorem dX6_rests_50 : decode cX6_rests 50 = .ok (.istore_n 1, 1) := by decide +kernel
theorem dX6_rests_51 : decode cX6_rests 51 = .ok (.iinc 2 1, 3) := by decide +kernel
theorem dX6_rests_54 : decode cX6_rests 54 = .ok (.goto (-31), 3) := by decide +kernel
theorem dX6_rests_57 : decode cX6_rests 57 = .ok (.iload_n 1, 1) := by decide +kernel
theorem dX6_rests_58 : decode cX6_rests 58 = .ok (.ireturn, 1) := by decide +kernel
theorem dX6_tips_0 : decode cX6_tips 0 = .ok (.iload_n 1, 1) := by decide +kernel
theorem dX6_tips_1 : decode cX6_tips 1 = .ok (.iconst 0, 1) := by decide +kernel
theorem dX6_tips_2 : decode cX6_tips 2 = .ok (.sipush 999, 3) := by decide +kernel
theorem dX6_tips_5 : decode cX6_tips 5 = .ok (.invokestatic 53, 3) := by decide +kernel
theorem dX6_tips_8 : decode cX6_tips 8 = .ok (.ifCond .eq 13, 3) := by decide +kernel
theorem dX6_tips_11 : decode cX6_tips 11 = .ok (.iload_n 2, 1) := by decide +kernel
theorem dX6_tips_12 : decode cX6_tips 12 = .ok (.iconst 1, 1) := by decide +kernel
theorem dX6_tips_13 : decode cX6_tips 13 = .ok (.bipush 10, 2) := by decide +kernel
theorem dX6_tips_15 : decode cX6_tips 15 = .ok (.invokestatic 53, 3) := by decide +kernel
theorem dX6_tips_18 : decode cX6_tips 18 = .ok (.ifCond .ne 9, 3) := by decide +kernel
theorem dX6_tips_21 : decode cX6_tips 21 = .ok (.aload_n 0, 1) := by decide +kernel
theorem dX6_tips_22 : decode cX6_tips 22 = .ok (.iconst 0, 1) := by decide +kernel
theorem dX6_tips_23 : decode cX6_tips 23 = .ok (.invokevirtual 57, 3) := by decide +kernel
theorem dX6_tips_26 : decode cX6_tips 26 = .ok (.ireturn, 1) := by decide +kernel
theorem dX6_tips_27 : decode cX6_tips 27 = .ok (.aload_n 0, 1) := by decide +kernel
theorem dX6_tips_28 : decode cX6_tips 28 = .ok (.getfield 10, 3) := by decide +kernel
theorem dX6_tips_31 : decode cX6_tips 31 = .ok (.getfield 111, 3) := by decide +kernel
theorem dX6_tips_34 : decode cX6_tips 34 = .ok (.sipush 9940, 3) := by decide +kernel
theorem dX6_tips_37 : decode cX6_tips 37 = .ok (.if_icmp .le 9, 3) := by decide +kernel
theorem dX6_tips_40 : decode cX6_tips 40 = .ok (.aload_n 0, 1) := by decide +kernel
theorem dX6_tips_41 : decode cX6_tips 41 = .ok (.iconst 4, 1) := by decide +kernel
theorem dX6_tips_42 : decode cX6_tips 42 = .ok (.invokevirtual 57, 3) := by decide +kernel
theorem dX6_tips_45 : decode cX6_tips 45 = .ok (.ireturn, 1) := by decide +kernel
theorem dX6_tips_46 : decode cX6_tips 46 = .ok (.aload_n 0, 1) := by decide +kernel
theorem dX6_tips_47 : decode cX6_tips 47 = .ok (.iload_n 1, 1) := by decide +kernel
theorem dX6_tips_48 : decode cX6_tips 48 = .ok (.iload_n 2, 1) := by decide +kernel
theorem dX6_tips_49 : decode cX6_tips 49 = .ok (.invokevirtual 173, 3) := by decide +kernel
theorem dX6_tips_52 : decode cX6_tips 52 = .ok (.ireturn, 1) := by decide +kernel
theorem dX6_best_0 : decode cX6_best 0 = .ok (.iload_n 1, 1) := by decide +kernel
theorem dX6_best_1 : decode cX6_best 1 = .ok (.iconst 1, 1) := by decide +kernel
theorem dX6_best_2 : decode cX6_best 2 = .ok (.bipush 20, 2) := by decide +kernel
theorem dX6_best_4 : decode cX6_best 4 = .ok (.invokestatic 53, 3) := by decide +kernel
theorem dX6_best_7 : decode cX6_best 7 = .ok (.ifCond .ne 9, 3) := by decide +kernel
theorem dX6_best_10 : decode cX6_best 10 = .ok (.aload_n 0, 1) := by decide +kernel
theorem dX6_best_11 : decode cX6_best 11 = .ok (.iconst 0, 1) := by decide +kernel
theorem dX6_best_12 : decode cX6_best 12 = .ok (.invokevirtual 57, 3) := by decide +kernel
theorem dX6_best_15 : decode cX6_best 15 = .ok (.ireturn, 1) := by decide +kernel
theorem dX6_best_16 : decode cX6_best 16 = .ok (.aload_n 0, 1) := by decide +kernel
theorem dX6_best_17 : decode cX6_best 17 = .ok (.iload_n 1, 1) := by decide +kernel
theorem dX6_best_18 : decode cX6_best 18 = .ok (.invokevirtual 130, 3) := by decide +kernel
theorem dX6_best_21 : decode cX6_best 21 = .ok (.ifCond .eq 9, 3) := by decide +kernel
theorem dX6_best_24 : decode cX6_best 24 = .ok (.aload_n 0, 1) := by decide +kernel
theorem dX6_best_25 : decode cX6_best 25 = .ok (.iconst 4, 1) := by decide +kernel
theorem dX6_best_26 : decode cX6_best 26 = .ok (.invokevirtual 57, 3) := by decide +kernel
theorem dX6_best_29 : decode cX6_best 29 = .ok (.ireturn, 1) := by decide +kernel
theorem dX6_best_30 : decode cX6_best 30 = .ok (.iconst 0, 1) := by decide +kernel
theorem dX6_best_31 : decode cX6_best 31 = .ok (.istore_n 2, 1) := by decide +kernel
theorem dX6_best_32 : decode cX6_best 32 = .ok (.iconst (-1), 1) := by decide +kernel
theorem dX6_best_33 : decode cX6_best 33 = .ok (.istore_n 3, 1) := by decide +kernel
theorem dX6_best_34 : decode cX6_best 34 = .ok (.iconst 0, 1) := by decide +kernel
theorem dX6_best_35 : decode cX6_best 35 = .ok (.istore 4, 2) := by decide +kernel
theorem dX6_best_37 : decode cX6_best 37 = .ok (.iload 4, 2) := by decide +kernel
theorem dX6_best_39 : decode cX6_best 39 = .ok (.bipush 99, 2) := by decide +kernel
theorem dX6_best_41 : decode cX6_best 41 = .ok (.if_icmp .gt 51, 3) := by decide +kernel
theorem dX6_best_44 : decode cX6_best 44 = .ok (.aload_n 0, 1) := by decide +kernel
theorem dX6_best_45 : decode cX6_best 45 = .ok (.getfield 19, 3) := by decide +kernel
theorem dX6_best_48 : decode cX6_best 48 = .ok (.aload_n 0, 1) := by decide +kernel
theorem dX6_best_49 : decode cX6_best 49 = .ok (.getfield 10, 3) := by decide +kernel
theorem dX6_best_52 : decode cX6_best 52 = .ok (.invokevirtual 166, 3) := by decide +kernel
theorem dX6_best_55 : decode cX6_best 55 = .ok (.aload_n 0, 1) := by decide +kernel
theorem dX6_best_56 : decode cX6_best 56 = .ok (.getfield 19, 3) := by decide +kernel
theorem dX6_best_59 : decode cX6_best 59 = .ok (.iload 4, 2) := by decide +kernel
theorem dX6_best_61 : decode cX6_best 61 = .ok (.putfield 176, 3) := by decide +kernel
theorem dX6_best_64 : decode cX6_best 64 = .ok (.aload_n 0, 1) := by decide +kernel
theorem dX6_best_65 : decode cX6_best 65 = .ok (.getfield 19, 3) := by decide +kernel
theorem dX6_best_68 : decode cX6_best 68 = .ok (.iload_n 1, 1) := by decide +kernel
theorem dX6_best_69 : decode cX6_best 69 = .ok (.invokevirtual 133, 3) := by decide +kernel
theorem dX6_best_72 : decode cX6_best 72 = .ok (.istore 5, 2) := by decide +kernel
theorem dX6_best_74 : decode cX6_best 74 = .ok (.iload 5, 2) := by decide +kernel
theorem dX6_best_76 : decode cX6_best 76 = .ok (.iload_n 3, 1) := by decide +kernel
theorem dX6_best_77 : decode cX6_best 77 = .ok (.if_icmp .le 9, 3) := by decide +kernel
theorem dX6_best_80 : decode cX6_best 80 = .ok (.iload 5, 2) := by decide +kernel
theorem dX6_best_82 : decode cX6_best 82 = .ok (.istore_n 3, 1) := by decide +kernel
theorem dX6_best_83 : decode cX6_best 83 = .ok (.iload 4, 2) := by decide +kernel
theorem dX6_best_85 : decode cX6_best 85 = .ok (.istore_n 2, 1) := by decide +kernel
theorem dX6_best_86 : decode cX6_best 86 = .ok (.iinc 4 1, 3) := by decide +kernel
theorem dX6_best_89 : decode cX6_best 89 = .ok (.goto (-52), 3) := by decide +kernel
theorem dX6_best_92 : decode cX6_best 92 = .ok (.iload_n 2, 1) := by decide +kernel
theorem dX6_best_93 : decode cX6_best 93 = .ok (.ireturn, 1) := by decide +kernel
theorem dX6_sign_0 : decode cX6_sign 0 = .ok (.iload_n 1, 1) := by decide +kernel
theorem dX6_sign_1 : decode cX6_sign 1 = .ok (.iconst 1, 1) := by decide +kernel
theorem dX6_sign_2 : decode cX6_sign 2 = .ok (.bipush 50, 2) := by decide +kernel
theorem dX6_sign_4 : decode cX6_sign 4 = .ok (.invokestatic 53, 3) := by decide +kernel
theorem dX6_sign_7 : decode cX6_sign 7 = .ok (.ifCond .ne 9, 3) := by decide +kernel
theorem dX6_sign_10 : decode cX6_sign 10 = .ok (.aload_n 0, 1) := by decide +kernel
theorem dX6_sign_11 : decode cX6_sign 11 = .ok (.iconst 0, 1) := by decide +kernel
theorem dX6_sign_12 : decode cX6_sign 12 = .ok (.invokevirtual 57, 3) := by decide +kernel
theorem dX6_sign_15 : decode cX6_sign 15 = .ok (.ireturn, 1) := by decide +kernel
theorem dX6_sign_16 : decode cX6_sign 16 = .ok (.aload_n 0, 1) := by decide +kernel
theorem dX6_sign_17 : decode cX6_sign 17 = .ok (.iload_n 1, 1) := by decide +kernel
theorem dX6_sign_18 : decode cX6_sign 18 = .ok (.invokevirtual 130, 3) := by decide +kernel
theorem dX6_sign_21 : decode cX6_sign 21 = .ok (.ifCond .eq 9, 3) := by decide +kernel
theorem dX6_sign_24 : decode cX6_sign 24 = .ok (.aload_n 0, 1) := by decide +kernel
theorem dX6_sign_25 : decode cX6_sign 25 = .ok (.iconst 4, 1) := by decide +kernel
theorem dX6_sign_26 : decode cX6_sign 26 = .ok (.invokevirtual 57, 3) := by decide +kernel
theorem dX6_sign_29 : decode cX6_sign 29 = .ok (.ireturn, 1) := by decide +kernel
theorem dX6_sign_30 : decode cX6_sign 30 = .ok (.iconst 0, 1) := by decide +kernel
theorem dX6_sign_31 : decode cX6_sign 31 = .ok (.istore_n 2, 1) := by decide +kernel
theorem dX6_sign_32 : decode cX6_sign 32 = .ok (.iconst (-1), 1) := by decide +kernel
theorem dX6_sign_33 : decode cX6_sign 33 = .ok (.istore_n 3, 1) := by decide +kernel
theorem dX6_sign_34 : decode cX6_sign 34 = .ok (.iconst 0, 1) := by decide +kernel
theorem dX6_sign_35 : decode cX6_sign 35 = .ok (.istore 4, 2) := by decide +kernel
theorem dX6_sign_37 : decode cX6_sign 37 = .ok (.iload 4, 2) := by decide +kernel
theorem dX6_sign_39 : decode cX6_sign 39 = .ok (.iconst 2, 1) := by decide +kernel
theorem dX6_sign_40 : decode cX6_sign 40 = .ok (.if_icmp .gt 51, 3) := by decide +kernel
theorem dX6_sign_43 : decode cX6_sign 43 = .ok (.aload_n 0, 1) := by decide +kernel
theorem dX6_sign_44 : decode cX6_sign 44 = .ok (.getfield 19, 3) := by decide +kernel
theorem dX6_sign_47 : decode cX6_sign 47 = .ok (.aload_n 0, 1) := by decide +kernel
theorem dX6_sign_48 : decode cX6_sign 48 = .ok (.getfield 10, 3) := by decide +kernel
theorem dX6_sign_51 : decode cX6_sign 51 = .ok (.invokevirtual 166, 3) := by decide +kernel
theorem dX6_sign_54 : decode cX6_sign 54 = .ok (.aload_n 0, 1) := by decide +kernel
theorem dX6_sign_55 : decode cX6_sign 55 = .ok (.getfield 19, 3) := by decide +kernel
theorem dX6_sign_58 : decode cX6_sign 58 = .ok (.iload 4, 2) := by decide +kernel
theorem dX6_sign_60 : decode cX6_sign 60 = .ok (.putfield 179, 3) := by decide +kernel
theorem dX6_sign_63 : decode cX6_sign 63 = .ok (.aload_n 0, 1) := by decide +kernel
theorem dX6_sign_64 : decode cX6_sign 64 = .ok (.getfield 19, 3) := by decide +kernel
theorem dX6_sign_67 : decode cX6_sign 67 = .ok (.iload_n 1, 1) := by decide +kernel
theorem dX6_sign_68 : decode cX6_sign 68 = .ok (.invokevirtual 133, 3) := by decide +kernel
theorem dX6_sign_71 : decode cX6_sign 71 = .ok (.istore 5, 2) := by decide +kernel
theorem dX6_sign_73 : decode cX6_sign 73 = .ok (.iload 5, 2) := by decide +kernel
theorem dX6_sign_75 : decode cX6_sign 75 = .ok (.iload_n 3, 1) := by decide +kernel
theorem dX6_sign_76 : decode cX6_sign 76 = .ok (.if_icmp .le 9, 3) := by decide +kernel
theorem dX6_sign_79 : decode cX6_sign 79 = .ok (.iload 5, 2) := by decide +kernel
theorem dX6_sign_81 : decode cX6_sign 81 = .ok (.istore_n 3, 1) := by decide +kernel
theorem dX6_sign_82 : decode cX6_sign 82 = .ok (.iload 4, 2) := by decide +kernel
theorem dX6_sign_84 : decode cX6_sign 84 = .ok (.istore_n 2, 1) := by decide +kernel
theorem dX6_sign_85 : decode cX6_sign 85 = .ok (.iinc 4 1, 3) := by decide +kernel
theorem dX6_sign_88 : decode cX6_sign 88 = .ok (.goto (-51), 3) := by decide +kernel
theorem dX6_sign_91 : decode cX6_sign 91 = .ok (.iload_n 2, 1) := by decide +kernel
theorem dX6_sign_92 : decode cX6_sign 92 = .ok (.ireturn, 1) := by decide +kernel
theorem dX6_potFor_0 : decode cX6_potFor 0 = .ok (.iload_n 1, 1) := by decide +kernel
theorem dX6_potFor_1 : decode cX6_potFor 1 = .ok (.iconst 1, 1) := by decide +kernel
theorem dX6_potFor_2 : decode cX6_potFor 2 = .ok (.bipush 20, 2) := by decide +kernel
theorem dX6_potFor_4 : decode cX6_potFor 4 = .ok (.invokestatic 53, 3) := by decide +kernel
theorem dX6_potFor_7 : decode cX6_potFor 7 = .ok (.ifCond .ne 9, 3) := by decide +kernel
theorem dX6_potFor_10 : decode cX6_potFor 10 = .ok (.aload_n 0, 1) := by decide +kernel
theorem dX6_potFor_11 : decode cX6_potFor 11 = .ok (.iconst 0, 1) := by decide +kernel
theorem dX6_potFor_12 : decode cX6_potFor 12 = .ok (.invokevirtual 57, 3) := by decide +kernel
theorem dX6_potFor_15 : decode cX6_potFor 15 = .ok (.ireturn, 1) := by decide +kernel
theorem dX6_potFor_16 : decode cX6_potFor 16 = .ok (.aload_n 0, 1) := by decide +kernel
theorem dX6_potFor_17 : decode cX6_potFor 17 = .ok (.iload_n 1, 1) := by decide +kernel
theorem dX6_potFor_18 : decode cX6_potFor 18 = .ok (.invokevirtual 130, 3) := by decide +kernel
theorem dX6_potFor_21 : decode cX6_potFor 21 = .ok (.ifCond .eq 9, 3) := by decide +kernel
theorem dX6_potFor_24 : decode cX6_potFor 24 = .ok (.aload_n 0, 1) := by decide +kernel
theorem dX6_potFor_25 : decode cX6_potFor 25 = .ok (.iconst 4, 1) := by decide +kernel
theorem dX6_potFor_26 : decode cX6_potFor 26 = .ok (.invokevirtual 57, 3) := by decide +kernel
theorem dX6_potFor_29 : decode cX6_potFor 29 = .ok (.ireturn, 1) := by decide +kernel
theorem dX6_potFor_30 : decode cX6_potFor 30 = .ok (.iconst 1, 1) := by decide +kernel
theorem dX6_potFor_31 : decode cX6_potFor 31 = .ok (.istore_n 2, 1) := by decide +kernel
theorem dX6_potFor_32 : decode cX6_potFor 32 = .ok (.iload_n 2, 1) := by decide +kernel
theorem dX6_potFor_33 : decode cX6_potFor 33 = .ok (.bipush 99, 2) := by decide +kernel
theorem dX6_potFor_35 : decode cX6_potFor 35 = .ok (.if_icmp .gt 56, 3) := by decide +kernel
theorem dX6_potFor_38 : decode cX6_potFor 38 = .ok (.aload_n 0, 1) := by decide +kernel
theorem dX6_potFor_39 : decode cX6_potFor 39 = .ok (.getfield 19, 3) := by decide +kernel
theorem dX6_potFor_42 : decode cX6_potFor 42 = .ok (.aload_n 0, 1) := by decide +kernel
theorem dX6_potFor_43 : decode cX6_potFor 43 = .ok (.getfield 10, 3) := by decide +kernel
theorem dX6_potFor_46 : decode cX6_potFor 46 = .ok (.invokevirtual 166, 3) := by decide +kernel
theorem dX6_potFor_49 : decode cX6_potFor 49 = .ok (.aload_n 0, 1) := by decide +kernel
theorem dX6_potFor_50 : decode cX6_potFor 50 = .ok (.getfield 19, 3) := by decide +kernel
theorem dX6_potFor_53 : decode cX6_potFor 53 = .ok (.iload_n 2, 1) := by decide +kernel
theorem dX6_potFor_54 : decode cX6_potFor 54 = .ok (.invokevirtual 182, 3) := by decide +kernel
theorem dX6_potFor_57 : decode cX6_potFor 57 = .ok (.aload_n 0, 1) := by decide +kernel
theorem dX6_potFor_58 : decode cX6_potFor 58 = .ok (.getfield 19, 3) := by decide +kernel
theorem dX6_potFor_61 : decode cX6_potFor 61 = .ok (.iload_n 1, 1) := by decide +kernel
theorem dX6_potFor_62 : decode cX6_potFor 62 = .ok (.invokevirtual 133, 3) := by decide +kernel
theorem dX6_potFor_65 : decode cX6_potFor 65 = .ok (.pop, 1) := by decide +kernel
theorem dX6_potFor_66 : decode cX6_potFor 66 = .ok (.aload_n 0, 1) := by decide +kernel
theorem dX6_potFor_67 : decode cX6_potFor 67 = .ok (.getfield 19, 3) := by decide +kernel
theorem dX6_potFor_70 : decode cX6_potFor 70 = .ok (.getfield 124, 3) := by decide +kernel
theorem dX6_potFor_73 : decode cX6_potFor 73 = .ok (.aload_n 0, 1) := by decide +kernel
theorem dX6_potFor_74 : decode cX6_potFor 74 = .ok (.getfield 10, 3) := by decide +kernel
theorem dX6_potFor_77 : decode cX6_potFor 77 = .ok (.getfield 124, 3) := by decide +kernel
theorem dX6_potFor_80 : decode cX6_potFor 80 = .ok (.if_icmp .ne 5, 3) := by decide +kernel
theorem dX6_potFor_83 : decode cX6_potFor 83 = .ok (.iload_n 2, 1) := by decide +kernel
theorem dX6_potFor_84 : decode cX6_potFor 84 = .ok (.ireturn, 1) := by decide +kernel
theorem dX6_potFor_85 : decode cX6_potFor 85 = .ok (.iinc 2 1, 3) := by decide +kernel
theorem dX6_potFor_88 : decode cX6_potFor 88 = .ok (.goto (-56), 3) := by decide +kernel
theorem dX6_potFor_91 : decode cX6_potFor 91 = .ok (.aload_n 0, 1) := by decide +kernel
theorem dX6_potFor_92 : decode cX6_potFor 92 = .ok (.iconst 3, 1) := by decide +kernel
theorem dX6_potFor_93 : decode cX6_potFor 93 = .ok (.invokevirtual 57, 3) := by decide +kernel
theorem dX6_potFor_96 : decode cX6_potFor 96 = .ok (.ireturn, 1) := by decide +kernel
theorem dX6_kindFor_0 : decode cX6_kindFor 0 = .ok (.aload_n 0, 1) := by decide +kernel
theorem dX6_kindFor_1 : decode cX6_kindFor 1 = .ok (.iload_n 1, 1) := by decide +kernel
theorem dX6_kindFor_2 : decode cX6_kindFor 2 = .ok (.invokevirtual 69, 3) := by decide +kernel
theorem dX6_kindFor_5 : decode cX6_kindFor 5 = .ok (.ifCond .eq 13, 3) := by decide +kernel
theorem dX6_kindFor_8 : decode cX6_kindFor 8 = .ok (.iload_n 2, 1) := by decide +kernel
theorem dX6_kindFor_9 : decode cX6_kindFor 9 = .ok (.iconst 1, 1) := by decide +kernel
theorem dX6_kindFor_10 : decode cX6_kindFor 10 = .ok (.bipush 50, 2) := by decide +kernel
theorem dX6_kindFor_12 : decode cX6_kindFor 12 = .ok (.invokestatic 53, 3) := by decide +kernel
theorem dX6_kindFor_15 : decode cX6_kindFor 15 = .ok (.ifCond .ne 9, 3) := by decide +kernel
theorem dX6_kindFor_18 : decode cX6_kindFor 18 = .ok (.aload_n 0, 1) := by decide +kernel
theorem dX6_kindFor_19 : decode cX6_kindFor 19 = .ok (.iconst 0, 1) := by decide +kernel
theorem dX6_kindFor_20 : decode cX6_kindFor 20 = .ok (.invokevirtual 57, 3) := by decide +kernel
theorem dX6_kindFor_23 : decode cX6_kindFor 23 = .ok (.ireturn, 1) := by decide +kernel
theorem dX6_kindFor_24 : decode cX6_kindFor 24 = .ok (.aload_n 0, 1) := by decide +kernel
theorem dX6_kindFor_25 : decode cX6_kindFor 25 = .ok (.iload_n 2, 1) := by decide +kernel
theorem dX6_kindFor_26 : decode cX6_kindFor 26 = .ok (.invokevirtual 130, 3) := by decide +kernel
theorem dX6_kindFor_29 : decode cX6_kindFor 29 = .ok (.ifCond .eq 9, 3) := by decide +kernel
theorem dX6_kindFor_32 : decode cX6_kindFor 32 = .ok (.aload_n 0, 1) := by decide +kernel
theorem dX6_kindFor_33 : decode cX6_kindFor 33 = .ok (.iconst 4, 1) := by decide +kernel
theorem dX6_kindFor_34 : decode cX6_kindFor 34 = .ok (.invokevirtual 57, 3) := by decide +kernel
theorem dX6_kindFor_37 : decode cX6_kindFor 37 = .ok (.ireturn, 1) := by decide +kernel
theorem dX6_kindFor_38 : decode cX6_kindFor 38 = .ok (.iconst 0, 1) := by decide +kernel
theorem dX6_kindFor_39 : decode cX6_kindFor 39 = .ok (.istore_n 3, 1) := by decide +kernel
theorem dX6_kindFor_40 : decode cX6_kindFor 40 = .ok (.iconst 0, 1) := by decide +kernel
theorem dX6_kindFor_41 : decode cX6_kindFor 41 = .ok (.istore 4, 2) := by decide +kernel
theorem dX6_kindFor_43 : decode cX6_kindFor 43 = .ok (.iconst 0, 1) := by decide +kernel
theorem dX6_kindFor_44 : decode cX6_kindFor 44 = .ok (.istore 5, 2) := by decide +kernel
theorem dX6_kindFor_46 : decode cX6_kindFor 46 = .ok (.iload 5, 2) := by decide +kernel
theorem dX6_kindFor_48 : decode cX6_kindFor 48 = .ok (.bipush 7, 2) := by decide +kernel
theorem dX6_kindFor_50 : decode cX6_kindFor 50 = .ok (.if_icmp .ge 79, 3) := by decide +kernel
theorem dX6_kindFor_53 : decode cX6_kindFor 53 = .ok (.aload_n 0, 1) := by decide +kernel
theorem dX6_kindFor_54 : decode cX6_kindFor 54 = .ok (.getfield 19, 3) := by decide +kernel
theorem dX6_kindFor_57 : decode cX6_kindFor 57 = .ok (.aload_n 0, 1) := by decide +kernel
theorem dX6_kindFor_58 : decode cX6_kindFor 58 = .ok (.getfield 10, 3) := by decide +kernel
theorem dX6_kindFor_61 : decode cX6_kindFor 61 = .ok (.invokevirtual 166, 3) := by decide +kernel
theorem dX6_kindFor_64 : decode cX6_kindFor 64 = .ok (.aload_n 0, 1) := by decide +kernel
theorem dX6_kindFor_65 : decode cX6_kindFor 65 = .ok (.getfield 19, 3) := by decide +kernel
theorem dX6_kindFor_68 : decode cX6_kindFor 68 = .ok (.getfield 73, 3) := by decide +kernel
theorem dX6_kindFor_71 : decode cX6_kindFor 71 = .ok (.iload_n 1, 1) := by decide +kernel
theorem dX6_kindFor_72 : decode cX6_kindFor 72 = .ok (.aaload, 1) := by decide +kernel
theorem dX6_kindFor_73 : decode cX6_kindFor 73 = .ok (.astore 6, 2) := by decide +kernel
theorem dX6_kindFor_75 : decode cX6_kindFor 75 = .ok (.aload 6, 2) := by decide +kernel
theorem dX6_kindFor_77 : decode cX6_kindFor 77 = .ok (.iload 5, 2) := by decide +kernel
theorem dX6_kindFor_79 : decode cX6_kindFor 79 = .ok (.putfield 186, 3) := by decide +kernel
theorem dX6_kindFor_82 : decode cX6_kindFor 82 = .ok (.aload_n 0, 1) := by decide +kernel
theorem dX6_kindFor_83 : decode cX6_kindFor 83 = .ok (.getfield 19, 3) := by decide +kernel
theorem dX6_kindFor_86 : decode cX6_kindFor 86 = .ok (.iload_n 2, 1) := by decide +kernel
theorem dX6_kindFor_87 : decode cX6_kindFor 87 = .ok (.invokevirtual 133, 3) := by decide +kernel
theorem dX6_kindFor_90 : decode cX6_kindFor 90 = .ok (.pop, 1) := by decide +kernel
theorem dX6_kindFor_91 : decode cX6_kindFor 91 = .ok (.aload 6, 2) := by decide +kernel
theorem dX6_kindFor_93 : decode cX6_kindFor 93 = .ok (.getfield 189, 3) := by decide +kernel
theorem dX6_kindFor_96 : decode cX6_kindFor 96 = .ok (.aload 6, 2) := by decide +kernel
theorem dX6_kindFor_98 : decode cX6_kindFor 98 = .ok (.getfield 108, 3) := by decide +kernel
theorem dX6_kindFor_101 : decode cX6_kindFor 101 = .ok (.isub, 1) := by decide +kernel
theorem dX6_kindFor_102 : decode cX6_kindFor 102 = .ok (.istore 7, 2) := by decide +kernel
theorem dX6_kindFor_104 : decode cX6_kindFor 104 = .ok (.iload 5, 2) := by decide +kernel
theorem dX6_kindFor_106 : decode cX6_kindFor 106 = .ok (.ifCond .eq 10, 3) := by decide +kernel
theorem dX6_kindFor_109 : decode cX6_kindFor 109 = .ok (.iload 7, 2) := by decide +kernel
theorem dX6_kindFor_111 : decode cX6_kindFor 111 = .ok (.iload 4, 2) := by decide +kernel
theorem dX6_kindFor_113 : decode cX6_kindFor 113 = .ok (.if_icmp .le 10, 3) := by decide +kernel
theorem dX6_kindFor_116 : decode cX6_kindFor 116 = .ok (.iload 7, 2) := by decide +kernel
theorem dX6_kindFor_118 : decode cX6_kindFor 118 = .ok (.istore 4, 2) := by decide +kernel
theorem dX6_kindFor_120 : decode cX6_kindFor 120 = .ok (.iload 5, 2) := by decide +kernel
theorem dX6_kindFor_122 : decode cX6_kindFor 122 = .ok (.istore_n 3, 1) := by decide +kernel
theorem dX6_kindFor_123 : decode cX6_kindFor 123 = .ok (.iinc 5 1, 3) := by decide +kernel
theorem dX6_kindFor_126 : decode cX6_kindFor 126 = .ok (.goto (-80), 3) := by decide +kernel
theorem dX6_kindFor_129 : decode cX6_kindFor 129 = .ok (.iload_n 3, 1) := by decide +kernel
theorem dX6_kindFor_130 : decode cX6_kindFor 130 = .ok (.ireturn, 1) := by decide +kernel
theorem dX6_told_0 : decode cX6_told 0 = .ok (.aload_n 0, 1) := by decide +kernel
theorem dX6_told_1 : decode cX6_told 1 = .ok (.iload_n 1, 1) := by decide +kernel
theorem dX6_told_2 : decode cX6_told 2 = .ok (.invokevirtual 69, 3) := by decide +kernel
theorem dX6_told_5 : decode cX6_told 5 = .ok (.ifCond .eq 13, 3) := by decide +kernel
theorem dX6_told_8 : decode cX6_told 8 = .ok (.iload_n 2, 1) := by decide +kernel
theorem dX6_told_9 : decode cX6_told 9 = .ok (.iconst 1, 1) := by decide +kernel
theorem dX6_told_10 : decode cX6_told 10 = .ok (.bipush 50, 2) := by decide +kernel
theorem dX6_told_12 : decode cX6_told 12 = .ok (.invokestatic 53, 3) := by decide +kernel
theorem dX6_told_15 : decode cX6_told 15 = .ok (.ifCond .ne 9, 3) := by decide +kernel
theorem dX6_told_18 : decode cX6_told 18 = .ok (.aload_n 0, 1) := by decide +kernel
theorem dX6_told_19 : decode cX6_told 19 = .ok (.iconst 0, 1) := by decide +kernel
theorem dX6_told_20 : decode cX6_told 20 = .ok (.invokevirtual 57, 3) := by decide +kernel
theorem dX6_told_23 : decode cX6_told 23 = .ok (.ireturn, 1) := by decide +kernel
theorem dX6_told_24 : decode cX6_told 24 = .ok (.aload_n 0, 1) := by decide +kernel
theorem dX6_told_25 : decode cX6_told 25 = .ok (.iload_n 2, 1) := by decide +kernel
theorem dX6_told_26 : decode cX6_told 26 = .ok (.invokevirtual 130, 3) := by decide +kernel
theorem dX6_told_29 : decode cX6_told 29 = .ok (.ifCond .eq 9, 3) := by decide +kernel
theorem dX6_told_32 : decode cX6_told 32 = .ok (.aload_n 0, 1) := by decide +kernel
theorem dX6_told_33 : decode cX6_told 33 = .ok (.iconst 4, 1) := by decide +kernel
theorem dX6_told_34 : decode cX6_told 34 = .ok (.invokevirtual 57, 3) := by decide +kernel
theorem dX6_told_37 : decode cX6_told 37 = .ok (.ireturn, 1) := by decide +kernel
theorem dX6_told_38 : decode cX6_told 38 = .ok (.aload_n 0, 1) := by decide +kernel
theorem dX6_told_39 : decode cX6_told 39 = .ok (.getfield 19, 3) := by decide +kernel
theorem dX6_told_42 : decode cX6_told 42 = .ok (.aload_n 0, 1) := by decide +kernel
theorem dX6_told_43 : decode cX6_told 43 = .ok (.getfield 10, 3) := by decide +kernel
theorem dX6_told_46 : decode cX6_told 46 = .ok (.invokevirtual 166, 3) := by decide +kernel
theorem dX6_told_49 : decode cX6_told 49 = .ok (.aload_n 0, 1) := by decide +kernel
theorem dX6_told_50 : decode cX6_told 50 = .ok (.getfield 19, 3) := by decide +kernel
theorem dX6_told_53 : decode cX6_told 53 = .ok (.iload_n 2, 1) := by decide +kernel
theorem dX6_told_54 : decode cX6_told 54 = .ok (.invokevirtual 133, 3) := by decide +kernel
theorem dX6_told_57 : decode cX6_told 57 = .ok (.istore_n 3, 1) := by decide +kernel
theorem dX6_told_58 : decode cX6_told 58 = .ok (.aload_n 0, 1) := by decide +kernel
theorem dX6_told_59 : decode cX6_told 59 = .ok (.getfield 19, 3) := by decide +kernel
theorem dX6_told_62 : decode cX6_told 62 = .ok (.aload_n 0, 1) := by decide +kernel
theorem dX6_told_63 : decode cX6_told 63 = .ok (.getfield 10, 3) := by decide +kernel
theorem dX6_told_66 : decode cX6_told 66 = .ok (.invokevirtual 166, 3) := by decide +kernel
theorem dX6_told_69 : decode cX6_told 69 = .ok (.aload_n 0, 1) := by decide +kernel
theorem dX6_told_70 : decode cX6_told 70 = .ok (.getfield 19, 3) := by decide +kernel
theorem dX6_told_73 : decode cX6_told 73 = .ok (.getfield 73, 3) := by decide +kernel
theorem dX6_told_76 : decode cX6_told 76 = .ok (.iload_n 1, 1) := by decide +kernel
theorem dX6_told_77 : decode cX6_told 77 = .ok (.aaload, 1) := by decide +kernel
theorem dX6_told_78 : decode cX6_told 78 = .ok (.iconst 0, 1) := by decide +kernel
theorem dX6_told_79 : decode cX6_told 79 = .ok (.putfield 186, 3) := by decide +kernel
theorem dX6_told_82 : decode cX6_told 82 = .ok (.aload_n 0, 1) := by decide +kernel
theorem dX6_told_83 : decode cX6_told 83 = .ok (.getfield 19, 3) := by decide +kernel
theorem dX6_told_86 : decode cX6_told 86 = .ok (.iload_n 2, 1) := by decide +kernel
theorem dX6_told_87 : decode cX6_told 87 = .ok (.invokevirtual 133, 3) := by decide +kernel
theorem dX6_told_90 : decode cX6_told 90 = .ok (.iload_n 3, 1) := by decide +kernel
theorem dX6_told_91 : decode cX6_told 91 = .ok (.isub, 1) := by decide +kernel
theorem dX6_told_92 : decode cX6_told 92 = .ok (.ireturn, 1) := by decide +kernel
theorem dX6_uneven_0 : decode cX6_uneven 0 = .ok (.iload_n 1, 1) := by decide +kernel
theorem dX6_uneven_1 : decode cX6_uneven 1 = .ok (.iconst 0, 1) := by decide +kernel
theorem dX6_uneven_2 : decode cX6_uneven 2 = .ok (.iconst 2, 1) := by decide +kernel
theorem dX6_uneven_3 : decode cX6_uneven 3 = .ok (.invokestatic 53, 3) := by decide +kernel
theorem dX6_uneven_6 : decode cX6_uneven 6 = .ok (.ifCond .ne 9, 3) := by decide +kernel
theorem dX6_uneven_9 : decode cX6_uneven 9 = .ok (.aload_n 0, 1) := by decide +kernel
theorem dX6_uneven_10 : decode cX6_uneven 10 = .ok (.iconst 0, 1) := by decide +kernel
theorem dX6_uneven_11 : decode cX6_uneven 11 = .ok (.invokevirtual 57, 3) := by decide +kernel
theorem dX6_uneven_14 : decode cX6_uneven 14 = .ok (.ireturn, 1) := by decide +kernel
theorem dX6_uneven_15 : decode cX6_uneven 15 = .ok (.aload_n 0, 1) := by decide +kernel
theorem dX6_uneven_16 : decode cX6_uneven 16 = .ok (.getfield 10, 3) := by decide +kernel
theorem dX6_uneven_19 : decode cX6_uneven 19 = .ok (.invokevirtual 192, 3) := by decide +kernel
theorem dX6_uneven_22 : decode cX6_uneven 22 = .ok (.istore_n 2, 1) := by decide +kernel
theorem dX6_uneven_23 : decode cX6_uneven 23 = .ok (.iload_n 2, 1) := by decide +kernel
theorem dX6_uneven_24 : decode cX6_uneven 24 = .ok (.ifCond .ne 9, 3) := by decide +kernel
theorem dX6_uneven_27 : decode cX6_uneven 27 = .ok (.aload_n 0, 1) := by decide +kernel
theorem dX6_uneven_28 : decode cX6_uneven 28 = .ok (.iconst 3, 1) := by decide +kernel
theorem dX6_uneven_29 : decode cX6_uneven 29 = .ok (.invokevirtual 57, 3) := by decide +kernel
theorem dX6_uneven_32 : decode cX6_uneven 32 = .ok (.ireturn, 1) := by decide +kernel
theorem dX6_uneven_33 : decode cX6_uneven 33 = .ok (.aload_n 0, 1) := by decide +kernel
theorem dX6_uneven_34 : decode cX6_uneven 34 = .ok (.getfield 10, 3) := by decide +kernel
theorem dX6_uneven_37 : decode cX6_uneven 37 = .ok (.invokevirtual 120, 3) := by decide +kernel
theorem dX6_uneven_40 : decode cX6_uneven 40 = .ok (.iload_n 2, 1) := by decide +kernel
theorem dX6_uneven_41 : decode cX6_uneven 41 = .ok (.idiv, 1) := by decide +kernel
theorem dX6_uneven_42 : decode cX6_uneven 42 = .ok (.istore_n 3, 1) := by decide +kernel
theorem dX6_uneven_43 : decode cX6_uneven 43 = .ok (.ldc 195, 2) := by decide +kernel
theorem dX6_uneven_45 : decode cX6_uneven 45 = .ok (.istore 4, 2) := by decide +kernel
theorem dX6_uneven_47 : decode cX6_uneven 47 = .ok (.ldc 196, 2) := by decide +kernel
theorem dX6_uneven_49 : decode cX6_uneven 49 = .ok (.istore 5, 2) := by decide +kernel
theorem dX6_uneven_51 : decode cX6_uneven 51 = .ok (.iconst 0, 1) := by decide +kernel
theorem dX6_uneven_52 : decode cX6_uneven 52 = .ok (.istore 6, 2) := by decide +kernel
theorem dX6_uneven_54 : decode cX6_uneven 54 = .ok (.iload 6, 2) := by decide +kernel
theorem dX6_uneven_56 : decode cX6_uneven 56 = .ok (.aload_n 0, 1) := by decide +kernel
theorem dX6_uneven_57 : decode cX6_uneven 57 = .ok (.getfield 10, 3) := by decide +kernel
theorem dX6_uneven_60 : decode cX6_uneven 60 = .ok (.getfield 61, 3) := by decide +kernel
theorem dX6_uneven_63 : decode cX6_uneven 63 = .ok (.if_icmp .ge 66, 3) := by decide +kernel
theorem dX6_uneven_66 : decode cX6_uneven 66 = .ok (.aload_n 0, 1) := by decide +kernel
theorem dX6_uneven_67 : decode cX6_uneven 67 = .ok (.getfield 10, 3) := by decide +kernel
theorem dX6_uneven_70 : decode cX6_uneven 70 = .ok (.getfield 73, 3) := by decide +kernel
theorem dX6_uneven_73 : decode cX6_uneven 73 = .ok (.iload 6, 2) := by decide +kernel
theorem dX6_uneven_75 : decode cX6_uneven 75 = .ok (.aaload, 1) := by decide +kernel
theorem dX6_uneven_76 : decode cX6_uneven 76 = .ok (.astore 7, 2) := by decide +kernel
theorem dX6_uneven_78 : decode cX6_uneven 78 = .ok (.aload 7, 2) := by decide +kernel
theorem dX6_uneven_80 : decode cX6_uneven 80 = .ok (.getfield 197, 3) := by decide +kernel
theorem dX6_uneven_83 : decode cX6_uneven 83 = .ok (.ifCond .le 40, 3) := by decide +kernel
theorem dX6_uneven_86 : decode cX6_uneven 86 = .ok (.aload_n 0, 1) := by decide +kernel
theorem dX6_uneven_87 : decode cX6_uneven 87 = .ok (.aload 7, 2) := by decide +kernel
theorem dX6_uneven_89 : decode cX6_uneven 89 = .ok (.iload_n 1, 1) := by decide +kernel
theorem dX6_uneven_90 : decode cX6_uneven 90 = .ok (.iload_n 3, 1) := by decide +kernel
theorem dX6_uneven_91 : decode cX6_uneven 91 = .ok (.invokevirtual 200, 3) := by decide +kernel
theorem dX6_uneven_94 : decode cX6_uneven 94 = .ok (.bipush 100, 2) := by decide +kernel
theorem dX6_uneven_96 : decode cX6_uneven 96 = .ok (.imul, 1) := by decide +kernel
theorem dX6_uneven_97 : decode cX6_uneven 97 = .ok (.aload 7, 2) := by decide +kernel
theorem dX6_uneven_99 : decode cX6_uneven 99 = .ok (.getfield 197, 3) := by decide +kernel
theorem dX6_uneven_102 : decode cX6_uneven 102 = .ok (.idiv, 1) := by decide +kernel
theorem dX6_uneven_103 : decode cX6_uneven 103 = .ok (.istore 8, 2) := by decide +kernel
theorem dX6_uneven_105 : decode cX6_uneven 105 = .ok (.iload 4, 2) := by decide +kernel
theorem dX6_uneven_107 : decode cX6_uneven 107 = .ok (.iload 8, 2) := by decide +kernel
theorem dX6_uneven_109 : decode cX6_uneven 109 = .ok (.invokestatic 204, 3) := by decide +kernel
theorem dX6_uneven_112 : decode cX6_uneven 112 = .ok (.istore 4, 2) := by decide +kernel
theorem dX6_uneven_114 : decode cX6_uneven 114 = .ok (.iload 5, 2) := by decide +kernel
theorem dX6_uneven_116 : decode cX6_uneven 116 = .ok (.iload 8, 2) := by decide +kernel
theorem dX6_uneven_118 : decode cX6_uneven 118 = .ok (.invokestatic 102, 3) := by decide +kernel
theorem dX6_uneven_121 : decode cX6_uneven 121 = .ok (.istore 5, 2) := by decide +kernel
theorem dX6_uneven_123 : decode cX6_uneven 123 = .ok (.iinc 6 1, 3) := by decide +kernel
theorem dX6_uneven_126 : decode cX6_uneven 126 = .ok (.goto (-72), 3) := by decide +kernel
theorem dX6_uneven_129 : decode cX6_uneven 129 = .ok (.iload 4, 2) := by decide +kernel
theorem dX6_uneven_131 : decode cX6_uneven 131 = .ok (.iload 5, 2) := by decide +kernel
theorem dX6_uneven_133 : decode cX6_uneven 133 = .ok (.isub, 1) := by decide +kernel
theorem dX6_uneven_134 : decode cX6_uneven 134 = .ok (.ireturn, 1) := by decide +kernel
theorem dX6_strokes_0 : decode cX6_strokes 0 = .ok (.aload_n 0, 1) := by decide +kernel
theorem dX6_strokes_1 : decode cX6_strokes 1 = .ok (.getfield 10, 3) := by decide +kernel
theorem dX6_strokes_4 : decode cX6_strokes 4 = .ok (.iconst 5, 1) := by decide +kernel
theorem dX6_strokes_5 : decode cX6_strokes 5 = .ok (.invokevirtual 127, 3) := by decide +kernel
theorem dX6_strokes_8 : decode cX6_strokes 8 = .ok (.istore_n 1, 1) := by decide +kernel
theorem dX6_strokes_9 : decode cX6_strokes 9 = .ok (.iconst 0, 1) := by decide +kernel
theorem dX6_strokes_10 : decode cX6_strokes 10 = .ok (.istore_n 2, 1) := by decide +kernel
theorem dX6_strokes_11 : decode cX6_strokes 11 = .ok (.iconst 0, 1) := by decide +kernel
theorem dX6_strokes_12 : decode cX6_strokes 12 = .ok (.istore_n 3, 1) := by decide +kernel
theorem dX6_strokes_13 : decode cX6_strokes 13 = .ok (.iload_n 3, 1) := by decide +kernel
theorem dX6_strokes_14 : decode cX6_strokes 14 = .ok (.iload_n 1, 1) := by decide +kernel
theorem dX6_strokes_15 : decode cX6_strokes 15 = .ok (.if_icmp .ge 40, 3) := by decide +kernel
theorem dX6_strokes_18 : decode cX6_strokes 18 = .ok (.aload_n 0, 1) := by decide +kernel
theorem dX6_strokes_19 : decode cX6_strokes 19 = .ok (.getfield 10, 3) := by decide +kernel
theorem dX6_strokes_22 : decode cX6_strokes 22 = .ok (.invokevirtual 207, 3) := by decide +kernel
theorem dX6_strokes_25 : decode cX6_strokes 25 = .ok (.bipush 10, 2) := by decide +kernel
theorem dX6_strokes_27 : decode cX6_strokes 27 = .ok (.irem, 1) := by decide +kernel
theorem dX6_strokes_28 : decode cX6_strokes 28 = .ok (.istore 4, 2) := by decide +kernel
theorem dX6_strokes_30 : decode cX6_strokes 30 = .ok (.iload 4, 2) := by decide +kernel
theorem dX6_strokes_32 : decode cX6_strokes 32 = .ok (.ifCond .eq 17, 3) := by decide +kernel
theorem dX6_strokes_35 : decode cX6_strokes 35 = .ok (.iload_n 2, 1) := by decide +kernel
theorem dX6_strokes_36 : decode cX6_strokes 36 = .ok (.iload 4, 2) := by decide +kernel
theorem dX6_strokes_38 : decode cX6_strokes 38 = .ok (.iconst 1, 1) := by decide +kernel
theorem dX6_strokes_39 : decode cX6_strokes 39 = .ok (.if_icmp .ne 7, 3) := by decide +kernel
theorem dX6_strokes_42 : decode cX6_strokes 42 = .ok (.iconst 2, 1) := by decide +kernel
theorem dX6_strokes_43 : decode cX6_strokes 43 = .ok (.goto 4, 3) := by decide +kernel
theorem dX6_strokes_46 : decode cX6_strokes 46 = .ok (.iconst 1, 1) := by decide +kernel
theorem dX6_strokes_47 : decode cX6_strokes 47 = .ok (.iadd, 1) := by decide +kernel
theorem dX6_strokes_48 : decode cX6_strokes 48 = .ok (.istore_n 2, 1) := by decide +kernel
theorem dX6_strokes_49 : decode cX6_strokes 49 = .ok (.iinc 3 1, 3) := by decide +kernel
theorem dX6_strokes_52 : decode cX6_strokes 52 = .ok (.goto (-39), 3) := by decide +kernel
theorem dX6_strokes_55 : decode cX6_strokes 55 = .ok (.iload_n 2, 1) := by decide +kernel
theorem dX6_strokes_56 : decode cX6_strokes 56 = .ok (.ireturn, 1) := by decide +kernel
theorem dX6_lacks_0 : decode cX6_lacks 0 = .ok (.aload_n 0, 1) := by decide +kernel
theorem dX6_lacks_1 : decode cX6_lacks 1 = .ok (.getfield 10, 3) := by decide +kernel
theorem dX6_lacks_4 : decode cX6_lacks 4 = .ok (.invokevirtual 120, 3) := by decide +kernel
theorem dX6_lacks_7 : decode cX6_lacks 7 = .ok (.aload_n 0, 1) := by decide +kernel
theorem dX6_lacks_8 : decode cX6_lacks 8 = .ok (.getfield 10, 3) := by decide +kernel
theorem dX6_lacks_11 : decode cX6_lacks 11 = .ok (.bipush 6, 2) := by decide +kernel
theorem dX6_lacks_13 : decode cX6_lacks 13 = .ok (.invokevirtual 127, 3) := by decide +kernel
theorem dX6_lacks_16 : decode cX6_lacks 16 = .ok (.isub, 1) := by decide +kernel
theorem dX6_lacks_17 : decode cX6_lacks 17 = .ok (.aload_n 0, 1) := by decide +kernel
theorem dX6_lacks_18 : decode cX6_lacks 18 = .ok (.getfield 10, 3) := by decide +kernel
theorem dX6_lacks_21 : decode cX6_lacks 21 = .ok (.iconst 4, 1) := by decide +kernel
theorem dX6_lacks_22 : decode cX6_lacks 22 = .ok (.invokevirtual 127, 3) := by decide +kernel
theorem dX6_lacks_25 : decode cX6_lacks 25 = .ok (.isub, 1) := by decide +kernel
theorem dX6_lacks_26 : decode cX6_lacks 26 = .ok (.ireturn, 1) := by decide +kernel
theorem dX6_owes_0 : decode cX6_owes 0 = .ok (.aload_n 0, 1) := by decide +kernel
theorem dX6_owes_1 : decode cX6_owes 1 = .ok (.getfield 10, 3) := by decide +kernel
theorem dX6_owes_4 : decode cX6_owes 4 = .ok (.getfield 61, 3) := by decide +kernel
theorem dX6_owes_7 : decode cX6_owes 7 = .ok (.ifCond .ne 9, 3) := by decide +kernel
theorem dX6_owes_10 : decode cX6_owes 10 = .ok (.aload_n 0, 1) := by decide +kernel
theorem dX6_owes_11 : decode cX6_owes 11 = .ok (.iconst 3, 1) := by decide +kernel
theorem dX6_owes_12 : decode cX6_owes 12 = .ok (.invokevirtual 57, 3) := by decide +kernel
theorem dX6_owes_15 : decode cX6_owes 15 = .ok (.ireturn, 1) := by decide +kernel
theorem dX6_owes_16 : decode cX6_owes 16 = .ok (.iconst 0, 1) := by decide +kernel
theorem dX6_owes_17 : decode cX6_owes 17 = .ok (.istore_n 1, 1) := by decide +kernel
theorem dX6_owes_18 : decode cX6_owes 18 = .ok (.aload_n 0, 1) := by decide +kernel
theorem dX6_owes_19 : decode cX6_owes 19 = .ok (.getfield 10, 3) := by decide +kernel
theorem dX6_owes_22 : decode cX6_owes 22 = .ok (.iconst 0, 1) := by decide +kernel
theorem dX6_owes_23 : decode cX6_owes 23 = .ok (.invokevirtual 210, 3) := by decide +kernel
theorem dX6_owes_26 : decode cX6_owes 26 = .ok (.istore_n 2, 1) := by decide +kernel
theorem dX6_owes_27 : decode cX6_owes 27 = .ok (.iconst 1, 1) := by decide +kernel
theorem dX6_owes_28 : decode cX6_owes 28 = .ok (.istore_n 3, 1) := by decide +kernel
theorem dX6_owes_29 : decode cX6_owes 29 = .ok (.iload_n 3, 1) := by decide +kernel
theorem dX6_owes_30 : decode cX6_owes 30 = .ok (.aload_n 0, 1) := by decide +kernel
theorem dX6_owes_31 : decode cX6_owes 31 = .ok (.getfield 10, 3) := by decide +kernel
theorem dX6_owes_34 : decode cX6_owes 34 = .ok (.getfield 61, 3) := by decide +kernel
theorem dX6_owes_37 : decode cX6_owes 37 = .ok (.if_icmp .ge 30, 3) := by decide +kernel
theorem dX6_owes_40 : decode cX6_owes 40 = .ok (.aload_n 0, 1) := by decide +kernel
theorem dX6_owes_41 : decode cX6_owes 41 = .ok (.getfield 10, 3) := by decide +kernel
theorem dX6_owes_44 : decode cX6_owes 44 = .ok (.iload_n 3, 1) := by decide +kernel
theorem dX6_owes_45 : decode cX6_owes 45 = .ok (.invokevirtual 210, 3) := by decide +kernel
theorem dX6_owes_48 : decode cX6_owes 48 = .ok (.istore 4, 2) := by decide +kernel
theorem dX6_owes_50 : decode cX6_owes 50 = .ok (.iload 4, 2) := by decide +kernel
theorem dX6_owes_52 : decode cX6_owes 52 = .ok (.iload_n 2, 1) := by decide +kernel
theorem dX6_owes_53 : decode cX6_owes 53 = .ok (.if_icmp .le 8, 3) := by decide +kernel
theorem dX6_owes_56 : decode cX6_owes 56 = .ok (.iload 4, 2) := by decide +kernel
theorem dX6_owes_58 : decode cX6_owes 58 = .ok (.istore_n 2, 1) := by decide +kernel
theorem dX6_owes_59 : decode cX6_owes 59 = .ok (.iload_n 3, 1) := by decide +kernel
theorem dX6_owes_60 : decode cX6_owes 60 = .ok (.istore_n 1, 1) := by decide +kernel
theorem dX6_owes_61 : decode cX6_owes 61 = .ok (.iinc 3 1, 3) := by decide +kernel
theorem dX6_owes_64 : decode cX6_owes 64 = .ok (.goto (-35), 3) := by decide +kernel
theorem dX6_owes_67 : decode cX6_owes 67 = .ok (.iload_n 1, 1) := by decide +kernel
theorem dX6_owes_68 : decode cX6_owes 68 = .ok (.ireturn, 1) := by decide +kernel
theorem dX6_odds_0 : decode cX6_odds 0 = .ok (.iload_n 1, 1) := by decide +kernel
theorem dX6_odds_1 : decode cX6_odds 1 = .ok (.iconst 1, 1) := by decide +kernel
theorem dX6_odds_2 : decode cX6_odds 2 = .ok (.bipush 20, 2) := by decide +kernel
theorem dX6_odds_4 : decode cX6_odds 4 = .ok (.invokestatic 53, 3) := by decide +kernel
theorem dX6_odds_7 : decode cX6_odds 7 = .ok (.ifCond .eq 14, 3) := by decide +kernel
theorem dX6_odds_10 : decode cX6_odds 10 = .ok (.iload_n 2, 1) := by decide +kernel
theorem dX6_odds_11 : decode cX6_odds 11 = .ok (.iconst 0, 1) := by decide +kernel
theorem dX6_odds_12 : decode cX6_odds 12 = .ok (.sipush 9999, 3) := by decide +kernel
theorem dX6_odds_15 : decode cX6_odds 15 = .ok (.invokestatic 53, 3) := by decide +kernel
theorem dX6_odds_18 : decode cX6_odds 18 = .ok (.ifCond .ne 9, 3) := by decide +kernel
theorem dX6_odds_21 : decode cX6_odds 21 = .ok (.aload_n 0, 1) := by decide +kernel
theorem dX6_odds_22 : decode cX6_odds 22 = .ok (.iconst 0, 1) := by decide +kernel
theorem dX6_odds_23 : decode cX6_odds 23 = .ok (.invokevirtual 57, 3) := by decide +kernel
theorem dX6_odds_26 : decode cX6_odds 26 = .ok (.ireturn, 1) := by decide +kernel
theorem dX6_odds_27 : decode cX6_odds 27 = .ok (.aload_n 0, 1) := by decide +kernel
theorem dX6_odds_28 : decode cX6_odds 28 = .ok (.iconst 5, 1) := by decide +kernel
theorem dX6_odds_29 : decode cX6_odds 29 = .ok (.invokevirtual 130, 3) := by decide +kernel
theorem dX6_odds_32 : decode cX6_odds 32 = .ok (.ifCond .eq 9, 3) := by decide +kernel
theorem dX6_odds_35 : decode cX6_odds 35 = .ok (.aload_n 0, 1) := by decide +kernel
theorem dX6_odds_36 : decode cX6_odds 36 = .ok (.iconst 4, 1) := by decide +kernel
theorem dX6_odds_37 : decode cX6_odds 37 = .ok (.invokevirtual 57, 3) := by decide +kernel
theorem dX6_odds_40 : decode cX6_odds 40 = .ok (.ireturn, 1) := by decide +kernel
theorem dX6_odds_41 : decode cX6_odds 41 = .ok (.iconst 0, 1) := by decide +kernel
theorem dX6_odds_42 : decode cX6_odds 42 = .ok (.istore_n 3, 1) := by decide +kernel
theorem dX6_odds_43 : decode cX6_odds 43 = .ok (.iconst 0, 1) := by decide +kernel
theorem dX6_odds_44 : decode cX6_odds 44 = .ok (.istore 4, 2) := by decide +kernel
theorem dX6_odds_46 : decode cX6_odds 46 = .ok (.iload 4, 2) := by decide +kernel
theorem dX6_odds_48 : decode cX6_odds 48 = .ok (.iload_n 1, 1) := by decide +kernel
theorem dX6_odds_49 : decode cX6_odds 49 = .ok (.if_icmp .ge 49, 3) := by decide +kernel
theorem dX6_odds_52 : decode cX6_odds 52 = .ok (.aload_n 0, 1) := by decide +kernel
theorem dX6_odds_53 : decode cX6_odds 53 = .ok (.getfield 19, 3) := by decide +kernel
theorem dX6_odds_56 : decode cX6_odds 56 = .ok (.aload_n 0, 1) := by decide +kernel
theorem dX6_odds_57 : decode cX6_odds 57 = .ok (.getfield 10, 3) := by decide +kernel
theorem dX6_odds_60 : decode cX6_odds 60 = .ok (.invokevirtual 166, 3) := by decide +kernel
theorem dX6_odds_63 : decode cX6_odds 63 = .ok (.aload_n 0, 1) := by decide +kernel
theorem dX6_odds_64 : decode cX6_odds 64 = .ok (.getfield 19, 3) := by decide +kernel
theorem dX6_odds_67 : decode cX6_odds 67 = .ok (.iconst 5, 1) := by decide +kernel
theorem dX6_odds_68 : decode cX6_odds 68 = .ok (.invokevirtual 133, 3) := by decide +kernel
theorem dX6_odds_71 : decode cX6_odds 71 = .ok (.iload_n 2, 1) := by decide +kernel
theorem dX6_odds_72 : decode cX6_odds 72 = .ok (.if_icmp .lt 6, 3) := by decide +kernel
theorem dX6_odds_75 : decode cX6_odds 75 = .ok (.iinc 3 1, 3) := by decide +kernel
theorem dX6_odds_78 : decode cX6_odds 78 = .ok (.aload_n 0, 1) := by decide +kernel
theorem dX6_odds_79 : decode cX6_odds 79 = .ok (.getfield 10, 3) := by decide +kernel
theorem dX6_odds_82 : decode cX6_odds 82 = .ok (.aload_n 0, 1) := by decide +kernel
theorem dX6_odds_83 : decode cX6_odds 83 = .ok (.getfield 19, 3) := by decide +kernel
theorem dX6_odds_86 : decode cX6_odds 86 = .ok (.getfield 213, 3) := by decide +kernel
theorem dX6_odds_89 : decode cX6_odds 89 = .ok (.putfield 213, 3) := by decide +kernel
theorem dX6_odds_92 : decode cX6_odds 92 = .ok (.iinc 4 1, 3) := by decide +kernel
theorem dX6_odds_95 : decode cX6_odds 95 = .ok (.goto (-49), 3) := by decide +kernel
theorem dX6_odds_98 : decode cX6_odds 98 = .ok (.iload_n 3, 1) := by decide +kernel
theorem dX6_odds_99 : decode cX6_odds 99 = .ok (.ireturn, 1) := by decide +kernel
theorem dX6_seed_0 : decode cX6_seed 0 = .ok (.aload_n 0, 1) := by decide +kernel
theorem dX6_seed_1 : decode cX6_seed 1 = .ok (.getfield 10, 3) := by decide +kernel
theorem dX6_seed_4 : decode cX6_seed 4 = .ok (.getfield 213, 3) := by decide +kernel
theorem dX6_seed_7 : decode cX6_seed 7 = .ok (.istore_n 2, 1) := by decide +kernel
theorem dX6_seed_8 : decode cX6_seed 8 = .ok (.aload_n 0, 1) := by decide +kernel
theorem dX6_seed_9 : decode cX6_seed 9 = .ok (.getfield 10, 3) := by decide +kernel
theorem dX6_seed_12 : decode cX6_seed 12 = .ok (.iload_n 1, 1) := by decide +kernel
theorem dX6_seed_13 : decode cX6_seed 13 = .ok (.putfield 213, 3) := by decide +kernel
theorem dX6_seed_16 : decode cX6_seed 16 = .ok (.iload_n 2, 1) := by decide +kernel
theorem dX6_seed_17 : decode cX6_seed 17 = .ok (.ireturn, 1) := by decide +kernel
theorem dX6_feed_0 : decode cX6_feed 0 = .ok (.iload_n 2, 1) := by decide +kernel
theorem dX6_feed_1 : decode cX6_feed 1 = .ok (.iconst 1, 1) := by decide +kernel
theorem dX6_feed_2 : decode cX6_feed 2 = .ok (.iconst 4, 1) := by decide +kernel
theorem dX6_feed_3 : decode cX6_feed 3 = .ok (.invokestatic 53, 3) := by decide +kernel
theorem dX6_feed_6 : decode cX6_feed 6 = .ok (.ifCond .ne 9, 3) := by decide +kernel
theorem dX6_feed_9 : decode cX6_feed 9 = .ok (.aload_n 0, 1) := by decide +kernel
theorem dX6_feed_10 : decode cX6_feed 10 = .ok (.iconst 0, 1) := by decide +kernel
theorem dX6_feed_11 : decode cX6_feed 11 = .ok (.invokevirtual 57, 3) := by decide +kernel
theorem dX6_feed_14 : decode cX6_feed 14 = .ok (.ireturn, 1) := by decide +kernel
theorem dX6_feed_15 : decode cX6_feed 15 = .ok (.aload_n 0, 1) := by decide +kernel
theorem dX6_feed_16 : decode cX6_feed 16 = .ok (.getfield 29, 3) := by decide +kernel
theorem dX6_feed_19 : decode cX6_feed 19 = .ok (.getfield 216, 3) := by decide +kernel
theorem dX6_feed_22 : decode cX6_feed 22 = .ok (.iload_n 2, 1) := by decide +kernel
theorem dX6_feed_23 : decode cX6_feed 23 = .ok (.iadd, 1) := by decide +kernel
theorem dX6_feed_24 : decode cX6_feed 24 = .ok (.bipush 120, 2) := by decide +kernel
theorem dX6_feed_26 : decode cX6_feed 26 = .ok (.if_icmp .le 9, 3) := by decide +kernel
theorem dX6_feed_29 : decode cX6_feed 29 = .ok (.aload_n 0, 1) := by decide +kernel
theorem dX6_feed_30 : decode cX6_feed 30 = .ok (.iconst 1, 1) := by decide +kernel
theorem dX6_feed_31 : decode cX6_feed 31 = .ok (.invokevirtual 57, 3) := by decide +kernel
theorem dX6_feed_34 : decode cX6_feed 34 = .ok (.ireturn, 1) := by decide +kernel
theorem dX6_feed_35 : decode cX6_feed 35 = .ok (.iload_n 2, 1) := by decide +kernel
theorem dX6_feed_36 : decode cX6_feed 36 = .ok (.iconst 1, 1) := by decide +kernel
theorem dX6_feed_37 : decode cX6_feed 37 = .ok (.isub, 1) := by decide +kernel
theorem dX6_feed_38 : decode cX6_feed 38 = .ok (.istore_n 3, 1) := by decide +kernel
theorem dX6_feed_39 : decode cX6_feed 39 = .ok (.iload_n 3, 1) := by decide +kernel
theorem dX6_feed_40 : decode cX6_feed 40 = .ok (.ifCond .lt 26, 3) := by decide +kernel
theorem dX6_feed_43 : decode cX6_feed 43 = .ok (.aload_n 0, 1) := by decide +kernel
theorem dX6_feed_44 : decode cX6_feed 44 = .ok (.getfield 29, 3) := by decide +kernel
theorem dX6_feed_47 : decode cX6_feed 47 = .ok (.iload_n 1, 1) := by decide +kernel
theorem dX6_feed_48 : decode cX6_feed 48 = .ok (.bipush 8, 2) := by decide +kernel
theorem dX6_feed_50 : decode cX6_feed 50 = .ok (.iload_n 3, 1) := by decide +kernel
theorem dX6_feed_51 : decode cX6_feed 51 = .ok (.imul, 1) := by decide +kernel
theorem dX6_feed_52 : decode cX6_feed 52 = .ok (.iushr, 1) := by decide +kernel
theorem dX6_feed_53 : decode cX6_feed 53 = .ok (.sipush 255, 3) := by decide +kernel
theorem dX6_feed_56 : decode cX6_feed 56 = .ok (.iand, 1) := by decide +kernel
theorem dX6_feed_57 : decode cX6_feed 57 = .ok (.invokevirtual 217, 3) := by decide +kernel
theorem dX6_feed_60 : decode cX6_feed 60 = .ok (.iinc 3 (-1), 3) := by decide +kernel
theorem dX6_feed_63 : decode cX6_feed 63 = .ok (.goto (-24), 3) := by decide +kernel
theorem dX6_feed_66 : decode cX6_feed 66 = .ok (.aload_n 0, 1) := by decide +kernel
theorem dX6_feed_67 : decode cX6_feed 67 = .ok (.getfield 29, 3) := by decide +kernel
theorem dX6_feed_70 : decode cX6_feed 70 = .ok (.getfield 216, 3) := by decide +kernel
theorem dX6_feed_73 : decode cX6_feed 73 = .ok (.ireturn, 1) := by decide +kernel
theorem dX6_wipe_0 : decode cX6_wipe 0 = .ok (.aload_n 0, 1) := by decide +kernel
theorem dX6_wipe_1 : decode cX6_wipe 1 = .ok (.getfield 29, 3) := by decide +kernel
theorem dX6_wipe_4 : decode cX6_wipe 4 = .ok (.getfield 216, 3) := by decide +kernel
theorem dX6_wipe_7 : decode cX6_wipe 7 = .ok (.istore_n 1, 1) := by decide +kernel
theorem dX6_wipe_8 : decode cX6_wipe 8 = .ok (.aload_n 0, 1) := by decide +kernel
theorem dX6_wipe_9 : decode cX6_wipe 9 = .ok (.getfield 29, 3) := by decide +kernel
theorem dX6_wipe_12 : decode cX6_wipe 12 = .ok (.iconst 0, 1) := by decide +kernel
theorem dX6_wipe_13 : decode cX6_wipe 13 = .ok (.putfield 216, 3) := by decide +kernel
theorem dX6_wipe_16 : decode cX6_wipe 16 = .ok (.iload_n 1, 1) := by decide +kernel
theorem dX6_wipe_17 : decode cX6_wipe 17 = .ok (.ireturn, 1) := by decide +kernel
theorem dX6_text_0 : decode cX6_text 0 = .ok (.aload_n 0, 1) := by decide +kernel
theorem dX6_text_1 : decode cX6_text 1 = .ok (.getfield 19, 3) := by decide +kernel
theorem dX6_text_4 : decode cX6_text 4 = .ok (.aload_n 0, 1) := by decide +kernel
theorem dX6_text_5 : decode cX6_text 5 = .ok (.getfield 10, 3) := by decide +kernel
theorem dX6_text_8 : decode cX6_text 8 = .ok (.invokevirtual 166, 3) := by decide +kernel
theorem dX6_text_11 : decode cX6_text 11 = .ok (.aload_n 0, 1) := by decide +kernel
theorem dX6_text_12 : decode cX6_text 12 = .ok (.getfield 38, 3) := by decide +kernel
theorem dX6_text_15 : decode cX6_text 15 = .ok (.aload_n 0, 1) := by decide +kernel
theorem dX6_text_16 : decode cX6_text 16 = .ok (.getfield 19, 3) := by decide +kernel
theorem dX6_text_19 : decode cX6_text 19 = .ok (.invokevirtual 220, 3) := by decide +kernel
theorem dX6_text_22 : decode cX6_text 22 = .ok (.istore_n 1, 1) := by decide +kernel
theorem dX6_text_23 : decode cX6_text 23 = .ok (.iload_n 1, 1) := by decide +kernel
theorem dX6_text_24 : decode cX6_text 24 = .ok (.ifCond .lt 14, 3) := by decide +kernel
theorem dX6_text_27 : decode cX6_text 27 = .ok (.aload_n 0, 1) := by decide +kernel
theorem dX6_text_28 : decode cX6_text 28 = .ok (.getfield 10, 3) := by decide +kernel
theorem dX6_text_31 : decode cX6_text 31 = .ok (.aload_n 0, 1) := by decide +kernel
theorem dX6_text_32 : decode cX6_text 32 = .ok (.getfield 19, 3) := by decide +kernel
theorem dX6_text_35 : decode cX6_text 35 = .ok (.invokevirtual 166, 3) := by decide +kernel
theorem dX6_text_38 : decode cX6_text 38 = .ok (.aload_n 0, 1) := by decide +kernel
theorem dX6_text_39 : decode cX6_text 39 = .ok (.getfield 29, 3) := by decide +kernel
theorem dX6_text_42 : decode cX6_text 42 = .ok (.iconst 0, 1) := by decide +kernel
theorem dX6_text_43 : decode cX6_text 43 = .ok (.putfield 216, 3) := by decide +kernel
theorem dX6_text_46 : decode cX6_text 46 = .ok (.iload_n 1, 1) := by decide +kernel
theorem dX6_text_47 : decode cX6_text 47 = .ok (.ireturn, 1) := by decide +kernel
theorem dX6_hold_0 : decode cX6_hold 0 = .ok (.iload_n 1, 1) := by decide +kernel
theorem dX6_hold_1 : decode cX6_hold 1 = .ok (.iconst 0, 1) := by decide +kernel
theorem dX6_hold_2 : decode cX6_hold 2 = .ok (.bipush 9, 2) := by decide +kernel
theorem dX6_hold_4 : decode cX6_hold 4 = .ok (.invokestatic 53, 3) := by decide +kernel
theorem dX6_hold_7 : decode cX6_hold 7 = .ok (.ifCond .eq 16, 3) := by decide +kernel
theorem dX6_hold_10 : decode cX6_hold 10 = .ok (.iload_n 2, 1) := by decide +kernel
theorem dX6_hold_11 : decode cX6_hold 11 = .ok (.iconst (-1), 1) := by decide +kernel
theorem dX6_hold_12 : decode cX6_hold 12 = .ok (.if_icmp .eq 17, 3) := by decide +kernel
theorem dX6_hold_15 : decode cX6_hold 15 = .ok (.aload_n 0, 1) := by decide +kernel
theorem dX6_hold_16 : decode cX6_hold 16 = .ok (.iload_n 2, 1) := by decide +kernel
theorem dX6_hold_17 : decode cX6_hold 17 = .ok (.invokevirtual 69, 3) := by decide +kernel
theorem dX6_hold_20 : decode cX6_hold 20 = .ok (.ifCond .ne 9, 3) := by decide +kernel
theorem dX6_hold_23 : decode cX6_hold 23 = .ok (.aload_n 0, 1) := by decide +kernel
end
section
theorem dX6_hold_24 : decode cX6_hold 24 = .ok (.iconst 0, 1) := by decide +kernel
theorem dX6_hold_25 : decode cX6_hold 25 = .ok (.invokevirtual 57, 3) := by decide +kernel
theorem dX6_hold_28 : decode cX6_hold 28 = .ok (.ireturn, 1) := by decide +kernel
theorem dX6_hold_29 : decode cX6_hold 29 = .ok (.aload_n 0, 1) := by decide +kernel
theorem dX6_hold_30 : decode cX6_hold 30 = .ok (.getfield 10, 3) := by decide +kernel
theorem dX6_hold_33 : decode cX6_hold 33 = .ok (.getfield 224, 3) := by decide +kernel
theorem dX6_hold_36 : decode cX6_hold 36 = .ok (.iload_n 1, 1) := by decide +kernel
theorem dX6_hold_37 : decode cX6_hold 37 = .ok (.iload_n 2, 1) := by decide +kernel
theorem dX6_hold_38 : decode cX6_hold 38 = .ok (.iastore, 1) := by decide +kernel
theorem dX6_hold_39 : decode cX6_hold 39 = .ok (.iconst 1, 1) := by decide +kernel
theorem dX6_hold_40 : decode cX6_hold 40 = .ok (.ireturn, 1) := by decide +kernel
theorem dX6_as_0 : decode cX6_as 0 = .ok (.iload_n 1, 1) := by decide +kernel
theorem dX6_as_1 : decode cX6_as 1 = .ok (.iconst 0, 1) := by decide +kernel
theorem dX6_as_2 : decode cX6_as 2 = .ok (.bipush 9, 2) := by decide +kernel
theorem dX6_as_4 : decode cX6_as 4 = .ok (.invokestatic 53, 3) := by decide +kernel
theorem dX6_as_7 : decode cX6_as 7 = .ok (.ifCond .eq 13, 3) := by decide +kernel
theorem dX6_as_10 : decode cX6_as 10 = .ok (.iload_n 2, 1) := by decide +kernel
theorem dX6_as_11 : decode cX6_as 11 = .ok (.iconst 0, 1) := by decide +kernel
theorem dX6_as_12 : decode cX6_as 12 = .ok (.bipush 6, 2) := by decide +kernel
theorem dX6_as_14 : decode cX6_as 14 = .ok (.invokestatic 53, 3) := by decide +kernel
theorem dX6_as_17 : decode cX6_as 17 = .ok (.ifCond .ne 9, 3) := by decide +kernel
theorem dX6_as_20 : decode cX6_as 20 = .ok (.aload_n 0, 1) := by decide +kernel
theorem dX6_as_21 : decode cX6_as 21 = .ok (.iconst 0, 1) := by decide +kernel
theorem dX6_as_22 : decode cX6_as 22 = .ok (.invokevirtual 57, 3) := by decide +kernel
theorem dX6_as_25 : decode cX6_as 25 = .ok (.ireturn, 1) := by decide +kernel
theorem dX6_as_26 : decode cX6_as 26 = .ok (.aload_n 0, 1) := by decide +kernel
theorem dX6_as_27 : decode cX6_as 27 = .ok (.getfield 10, 3) := by decide +kernel
theorem dX6_as_30 : decode cX6_as 30 = .ok (.getfield 224, 3) := by decide +kernel
theorem dX6_as_33 : decode cX6_as 33 = .ok (.iload_n 1, 1) := by decide +kernel
theorem dX6_as_34 : decode cX6_as 34 = .ok (.iaload, 1) := by decide +kernel
theorem dX6_as_35 : decode cX6_as 35 = .ok (.istore_n 3, 1) := by decide +kernel
theorem dX6_as_36 : decode cX6_as 36 = .ok (.aload_n 0, 1) := by decide +kernel
theorem dX6_as_37 : decode cX6_as 37 = .ok (.iload_n 3, 1) := by decide +kernel
theorem dX6_as_38 : decode cX6_as 38 = .ok (.invokevirtual 69, 3) := by decide +kernel
theorem dX6_as_41 : decode cX6_as 41 = .ok (.ifCond .ne 9, 3) := by decide +kernel
theorem dX6_as_44 : decode cX6_as 44 = .ok (.aload_n 0, 1) := by decide +kernel
theorem dX6_as_45 : decode cX6_as 45 = .ok (.iconst 5, 1) := by decide +kernel
theorem dX6_as_46 : decode cX6_as 46 = .ok (.invokevirtual 57, 3) := by decide +kernel
theorem dX6_as_49 : decode cX6_as 49 = .ok (.ireturn, 1) := by decide +kernel
theorem dX6_as_50 : decode cX6_as 50 = .ok (.aload_n 0, 1) := by decide +kernel
theorem dX6_as_51 : decode cX6_as 51 = .ok (.getfield 10, 3) := by decide +kernel
theorem dX6_as_54 : decode cX6_as 54 = .ok (.getfield 73, 3) := by decide +kernel
theorem dX6_as_57 : decode cX6_as 57 = .ok (.iload_n 3, 1) := by decide +kernel
theorem dX6_as_58 : decode cX6_as 58 = .ok (.aaload, 1) := by decide +kernel
theorem dX6_as_59 : decode cX6_as 59 = .ok (.getfield 186, 3) := by decide +kernel
theorem dX6_as_62 : decode cX6_as 62 = .ok (.iload_n 2, 1) := by decide +kernel
theorem dX6_as_63 : decode cX6_as 63 = .ok (.invokestatic 227, 3) := by decide +kernel
theorem dX6_as_66 : decode cX6_as 66 = .ok (.ifCond .eq 7, 3) := by decide +kernel
theorem dX6_as_69 : decode cX6_as 69 = .ok (.iload_n 3, 1) := by decide +kernel
theorem dX6_as_70 : decode cX6_as 70 = .ok (.goto 8, 3) := by decide +kernel
theorem dX6_as_73 : decode cX6_as 73 = .ok (.aload_n 0, 1) := by decide +kernel
theorem dX6_as_74 : decode cX6_as 74 = .ok (.iconst 2, 1) := by decide +kernel
theorem dX6_as_75 : decode cX6_as 75 = .ok (.invokevirtual 57, 3) := by decide +kernel
theorem dX6_as_78 : decode cX6_as 78 = .ok (.ireturn, 1) := by decide +kernel
theorem dX6_sheet_0 : decode cX6_sheet 0 = .ok (.iload_n 1, 1) := by decide +kernel
theorem dX6_sheet_1 : decode cX6_sheet 1 = .ok (.invokestatic 230, 3) := by decide +kernel
theorem dX6_sheet_4 : decode cX6_sheet 4 = .ok (.ifCond .eq 25, 3) := by decide +kernel
theorem dX6_sheet_7 : decode cX6_sheet 7 = .ok (.iload_n 2, 1) := by decide +kernel
theorem dX6_sheet_8 : decode cX6_sheet 8 = .ok (.ifCond .eq 27, 3) := by decide +kernel
theorem dX6_sheet_11 : decode cX6_sheet 11 = .ok (.iload_n 2, 1) := by decide +kernel
theorem dX6_sheet_12 : decode cX6_sheet 12 = .ok (.bipush 8, 2) := by decide +kernel
theorem dX6_sheet_14 : decode cX6_sheet 14 = .ok (.if_icmp .eq 21, 3) := by decide +kernel
theorem dX6_sheet_17 : decode cX6_sheet 17 = .ok (.iload_n 2, 1) := by decide +kernel
theorem dX6_sheet_18 : decode cX6_sheet 18 = .ok (.bipush 16, 2) := by decide +kernel
theorem dX6_sheet_20 : decode cX6_sheet 20 = .ok (.if_icmp .eq 15, 3) := by decide +kernel
theorem dX6_sheet_23 : decode cX6_sheet 23 = .ok (.iload_n 2, 1) := by decide +kernel
theorem dX6_sheet_24 : decode cX6_sheet 24 = .ok (.bipush 32, 2) := by decide +kernel
theorem dX6_sheet_26 : decode cX6_sheet 26 = .ok (.if_icmp .eq 9, 3) := by decide +kernel
theorem dX6_sheet_29 : decode cX6_sheet 29 = .ok (.aload_n 0, 1) := by decide +kernel
theorem dX6_sheet_30 : decode cX6_sheet 30 = .ok (.iconst 0, 1) := by decide +kernel
theorem dX6_sheet_31 : decode cX6_sheet 31 = .ok (.invokevirtual 57, 3) := by decide +kernel
theorem dX6_sheet_34 : decode cX6_sheet 34 = .ok (.ireturn, 1) := by decide +kernel
theorem dX6_sheet_35 : decode cX6_sheet 35 = .ok (.iload_n 3, 1) := by decide +kernel
theorem dX6_sheet_36 : decode cX6_sheet 36 = .ok (.ifCond .ge 10, 3) := by decide +kernel
theorem dX6_sheet_39 : decode cX6_sheet 39 = .ok (.aload_n 0, 1) := by decide +kernel
theorem dX6_sheet_40 : decode cX6_sheet 40 = .ok (.bipush 6, 2) := by decide +kernel
theorem dX6_sheet_42 : decode cX6_sheet 42 = .ok (.invokevirtual 57, 3) := by decide +kernel
theorem dX6_sheet_45 : decode cX6_sheet 45 = .ok (.ireturn, 1) := by decide +kernel
theorem dX6_sheet_46 : decode cX6_sheet 46 = .ok (.iload_n 3, 1) := by decide +kernel
theorem dX6_sheet_47 : decode cX6_sheet 47 = .ok (.bipush 40, 2) := by decide +kernel
theorem dX6_sheet_49 : decode cX6_sheet 49 = .ok (.if_icmp .le 9, 3) := by decide +kernel
theorem dX6_sheet_52 : decode cX6_sheet 52 = .ok (.aload_n 0, 1) := by decide +kernel
theorem dX6_sheet_53 : decode cX6_sheet 53 = .ok (.iconst 0, 1) := by decide +kernel
theorem dX6_sheet_54 : decode cX6_sheet 54 = .ok (.invokevirtual 57, 3) := by decide +kernel
theorem dX6_sheet_57 : decode cX6_sheet 57 = .ok (.ireturn, 1) := by decide +kernel
theorem dX6_sheet_58 : decode cX6_sheet 58 = .ok (.aload_n 0, 1) := by decide +kernel
theorem dX6_sheet_59 : decode cX6_sheet 59 = .ok (.getfield 44, 3) := by decide +kernel
theorem dX6_sheet_62 : decode cX6_sheet 62 = .ok (.iload_n 1, 1) := by decide +kernel
theorem dX6_sheet_63 : decode cX6_sheet 63 = .ok (.aaload, 1) := by decide +kernel
theorem dX6_sheet_64 : decode cX6_sheet 64 = .ok (.iload_n 2, 1) := by decide +kernel
theorem dX6_sheet_65 : decode cX6_sheet 65 = .ok (.iload_n 2, 1) := by decide +kernel
theorem dX6_sheet_66 : decode cX6_sheet 66 = .ok (.ifCond .ne 7, 3) := by decide +kernel
theorem dX6_sheet_69 : decode cX6_sheet 69 = .ok (.iconst 0, 1) := by decide +kernel
theorem dX6_sheet_70 : decode cX6_sheet 70 = .ok (.goto 4, 3) := by decide +kernel
theorem dX6_sheet_73 : decode cX6_sheet 73 = .ok (.iload_n 3, 1) := by decide +kernel
theorem dX6_sheet_74 : decode cX6_sheet 74 = .ok (.invokevirtual 233, 3) := by decide +kernel
theorem dX6_sheet_77 : decode cX6_sheet 77 = .ok (.aload_n 0, 1) := by decide +kernel
theorem dX6_sheet_78 : decode cX6_sheet 78 = .ok (.getfield 44, 3) := by decide +kernel
theorem dX6_sheet_81 : decode cX6_sheet 81 = .ok (.iload_n 1, 1) := by decide +kernel
theorem dX6_sheet_82 : decode cX6_sheet 82 = .ok (.aaload, 1) := by decide +kernel
theorem dX6_sheet_83 : decode cX6_sheet 83 = .ok (.getfield 236, 3) := by decide +kernel
theorem dX6_sheet_86 : decode cX6_sheet 86 = .ok (.ireturn, 1) := by decide +kernel
theorem dX6_write_0 : decode cX6_write 0 = .ok (.iload_n 1, 1) := by decide +kernel
theorem dX6_write_1 : decode cX6_write 1 = .ok (.invokestatic 230, 3) := by decide +kernel
theorem dX6_write_4 : decode cX6_write 4 = .ok (.ifCond .ne 9, 3) := by decide +kernel
theorem dX6_write_7 : decode cX6_write 7 = .ok (.aload_n 0, 1) := by decide +kernel
theorem dX6_write_8 : decode cX6_write 8 = .ok (.iconst 0, 1) := by decide +kernel
theorem dX6_write_9 : decode cX6_write 9 = .ok (.invokevirtual 57, 3) := by decide +kernel
theorem dX6_write_12 : decode cX6_write 12 = .ok (.ireturn, 1) := by decide +kernel
theorem dX6_write_13 : decode cX6_write 13 = .ok (.aload_n 0, 1) := by decide +kernel
theorem dX6_write_14 : decode cX6_write 14 = .ok (.getfield 44, 3) := by decide +kernel
theorem dX6_write_17 : decode cX6_write 17 = .ok (.iload_n 1, 1) := by decide +kernel
theorem dX6_write_18 : decode cX6_write 18 = .ok (.aaload, 1) := by decide +kernel
theorem dX6_write_19 : decode cX6_write 19 = .ok (.invokevirtual 237, 3) := by decide +kernel
theorem dX6_write_22 : decode cX6_write 22 = .ok (.ifCond .eq 9, 3) := by decide +kernel
theorem dX6_write_25 : decode cX6_write 25 = .ok (.aload_n 0, 1) := by decide +kernel
theorem dX6_write_26 : decode cX6_write 26 = .ok (.iconst 5, 1) := by decide +kernel
theorem dX6_write_27 : decode cX6_write 27 = .ok (.invokevirtual 57, 3) := by decide +kernel
theorem dX6_write_30 : decode cX6_write 30 = .ok (.ireturn, 1) := by decide +kernel
theorem dX6_write_31 : decode cX6_write 31 = .ok (.iload_n 2, 1) := by decide +kernel
theorem dX6_write_32 : decode cX6_write 32 = .ok (.iconst 0, 1) := by decide +kernel
theorem dX6_write_33 : decode cX6_write 33 = .ok (.aload_n 0, 1) := by decide +kernel
theorem dX6_write_34 : decode cX6_write 34 = .ok (.getfield 44, 3) := by decide +kernel
theorem dX6_write_37 : decode cX6_write 37 = .ok (.iload_n 1, 1) := by decide +kernel
theorem dX6_write_38 : decode cX6_write 38 = .ok (.aaload, 1) := by decide +kernel
theorem dX6_write_39 : decode cX6_write 39 = .ok (.getfield 236, 3) := by decide +kernel
theorem dX6_write_42 : decode cX6_write 42 = .ok (.iconst 1, 1) := by decide +kernel
theorem dX6_write_43 : decode cX6_write 43 = .ok (.isub, 1) := by decide +kernel
theorem dX6_write_44 : decode cX6_write 44 = .ok (.invokestatic 53, 3) := by decide +kernel
theorem dX6_write_47 : decode cX6_write 47 = .ok (.ifCond .ne 9, 3) := by decide +kernel
theorem dX6_write_50 : decode cX6_write 50 = .ok (.aload_n 0, 1) := by decide +kernel
theorem dX6_write_51 : decode cX6_write 51 = .ok (.iconst 0, 1) := by decide +kernel
theorem dX6_write_52 : decode cX6_write 52 = .ok (.invokevirtual 57, 3) := by decide +kernel
theorem dX6_write_55 : decode cX6_write 55 = .ok (.ireturn, 1) := by decide +kernel
theorem dX6_write_56 : decode cX6_write 56 = .ok (.aload_n 0, 1) := by decide +kernel
theorem dX6_write_57 : decode cX6_write 57 = .ok (.getfield 44, 3) := by decide +kernel
theorem dX6_write_60 : decode cX6_write 60 = .ok (.iload_n 1, 1) := by decide +kernel
theorem dX6_write_61 : decode cX6_write 61 = .ok (.aaload, 1) := by decide +kernel
theorem dX6_write_62 : decode cX6_write 62 = .ok (.iload_n 2, 1) := by decide +kernel
theorem dX6_write_63 : decode cX6_write 63 = .ok (.iload_n 3, 1) := by decide +kernel
theorem dX6_write_64 : decode cX6_write 64 = .ok (.invokevirtual 241, 3) := by decide +kernel
theorem dX6_write_67 : decode cX6_write 67 = .ok (.iconst 1, 1) := by decide +kernel
theorem dX6_write_68 : decode cX6_write 68 = .ok (.ireturn, 1) := by decide +kernel
theorem dX6_copy_0 : decode cX6_copy 0 = .ok (.iload_n 1, 1) := by decide +kernel
theorem dX6_copy_1 : decode cX6_copy 1 = .ok (.invokestatic 230, 3) := by decide +kernel
theorem dX6_copy_4 : decode cX6_copy 4 = .ok (.ifCond .eq 10, 3) := by decide +kernel
theorem dX6_copy_7 : decode cX6_copy 7 = .ok (.iload_n 3, 1) := by decide +kernel
theorem dX6_copy_8 : decode cX6_copy 8 = .ok (.invokestatic 230, 3) := by decide +kernel
theorem dX6_copy_11 : decode cX6_copy 11 = .ok (.ifCond .ne 9, 3) := by decide +kernel
theorem dX6_copy_14 : decode cX6_copy 14 = .ok (.aload_n 0, 1) := by decide +kernel
theorem dX6_copy_15 : decode cX6_copy 15 = .ok (.iconst 0, 1) := by decide +kernel
theorem dX6_copy_16 : decode cX6_copy 16 = .ok (.invokevirtual 57, 3) := by decide +kernel
theorem dX6_copy_19 : decode cX6_copy 19 = .ok (.ireturn, 1) := by decide +kernel
theorem dX6_copy_20 : decode cX6_copy 20 = .ok (.aload_n 0, 1) := by decide +kernel
theorem dX6_copy_21 : decode cX6_copy 21 = .ok (.getfield 44, 3) := by decide +kernel
theorem dX6_copy_24 : decode cX6_copy 24 = .ok (.iload_n 1, 1) := by decide +kernel
theorem dX6_copy_25 : decode cX6_copy 25 = .ok (.aaload, 1) := by decide +kernel
theorem dX6_copy_26 : decode cX6_copy 26 = .ok (.astore 6, 2) := by decide +kernel
theorem dX6_copy_28 : decode cX6_copy 28 = .ok (.aload_n 0, 1) := by decide +kernel
theorem dX6_copy_29 : decode cX6_copy 29 = .ok (.getfield 44, 3) := by decide +kernel
theorem dX6_copy_32 : decode cX6_copy 32 = .ok (.iload_n 3, 1) := by decide +kernel
theorem dX6_copy_33 : decode cX6_copy 33 = .ok (.aaload, 1) := by decide +kernel
theorem dX6_copy_34 : decode cX6_copy 34 = .ok (.astore 7, 2) := by decide +kernel
theorem dX6_copy_36 : decode cX6_copy 36 = .ok (.aload 6, 2) := by decide +kernel
theorem dX6_copy_38 : decode cX6_copy 38 = .ok (.invokevirtual 237, 3) := by decide +kernel
theorem dX6_copy_41 : decode cX6_copy 41 = .ok (.ifCond .ne 11, 3) := by decide +kernel
theorem dX6_copy_44 : decode cX6_copy 44 = .ok (.aload 7, 2) := by decide +kernel
theorem dX6_copy_46 : decode cX6_copy 46 = .ok (.invokevirtual 237, 3) := by decide +kernel
theorem dX6_copy_49 : decode cX6_copy 49 = .ok (.ifCond .eq 9, 3) := by decide +kernel
theorem dX6_copy_52 : decode cX6_copy 52 = .ok (.aload_n 0, 1) := by decide +kernel
theorem dX6_copy_53 : decode cX6_copy 53 = .ok (.iconst 5, 1) := by decide +kernel
theorem dX6_copy_54 : decode cX6_copy 54 = .ok (.invokevirtual 57, 3) := by decide +kernel
theorem dX6_copy_57 : decode cX6_copy 57 = .ok (.ireturn, 1) := by decide +kernel
theorem dX6_copy_58 : decode cX6_copy 58 = .ok (.aload 6, 2) := by decide +kernel
theorem dX6_copy_60 : decode cX6_copy 60 = .ok (.getfield 243, 3) := by decide +kernel
theorem dX6_copy_63 : decode cX6_copy 63 = .ok (.aload 7, 2) := by decide +kernel
theorem dX6_copy_65 : decode cX6_copy 65 = .ok (.getfield 243, 3) := by decide +kernel
theorem dX6_copy_68 : decode cX6_copy 68 = .ok (.if_icmp .eq 9, 3) := by decide +kernel
theorem dX6_copy_71 : decode cX6_copy 71 = .ok (.aload_n 0, 1) := by decide +kernel
theorem dX6_copy_72 : decode cX6_copy 72 = .ok (.iconst 2, 1) := by decide +kernel
theorem dX6_copy_73 : decode cX6_copy 73 = .ok (.invokevirtual 57, 3) := by decide +kernel
theorem dX6_copy_76 : decode cX6_copy 76 = .ok (.ireturn, 1) := by decide +kernel
theorem dX6_copy_77 : decode cX6_copy 77 = .ok (.aload 6, 2) := by decide +kernel
theorem dX6_copy_79 : decode cX6_copy 79 = .ok (.iload_n 2, 1) := by decide +kernel
theorem dX6_copy_80 : decode cX6_copy 80 = .ok (.iload 5, 2) := by decide +kernel
theorem dX6_copy_82 : decode cX6_copy 82 = .ok (.invokevirtual 246, 3) := by decide +kernel
theorem dX6_copy_85 : decode cX6_copy 85 = .ok (.ifCond .eq 15, 3) := by decide +kernel
theorem dX6_copy_88 : decode cX6_copy 88 = .ok (.aload 7, 2) := by decide +kernel
theorem dX6_copy_90 : decode cX6_copy 90 = .ok (.iload 4, 2) := by decide +kernel
theorem dX6_copy_92 : decode cX6_copy 92 = .ok (.iload 5, 2) := by decide +kernel
theorem dX6_copy_94 : decode cX6_copy 94 = .ok (.invokevirtual 246, 3) := by decide +kernel
theorem dX6_copy_97 : decode cX6_copy 97 = .ok (.ifCond .ne 9, 3) := by decide +kernel
theorem dX6_copy_100 : decode cX6_copy 100 = .ok (.aload_n 0, 1) := by decide +kernel
theorem dX6_copy_101 : decode cX6_copy 101 = .ok (.iconst 0, 1) := by decide +kernel
theorem dX6_copy_102 : decode cX6_copy 102 = .ok (.invokevirtual 57, 3) := by decide +kernel
theorem dX6_copy_105 : decode cX6_copy 105 = .ok (.ireturn, 1) := by decide +kernel
theorem dX6_copy_106 : decode cX6_copy 106 = .ok (.aload 6, 2) := by decide +kernel
theorem dX6_copy_108 : decode cX6_copy 108 = .ok (.getfield 249, 3) := by decide +kernel
theorem dX6_copy_111 : decode cX6_copy 111 = .ok (.iload_n 2, 1) := by decide +kernel
theorem dX6_copy_112 : decode cX6_copy 112 = .ok (.aload 7, 2) := by decide +kernel
theorem dX6_copy_114 : decode cX6_copy 114 = .ok (.getfield 249, 3) := by decide +kernel
theorem dX6_copy_117 : decode cX6_copy 117 = .ok (.iload 4, 2) := by decide +kernel
theorem dX6_copy_119 : decode cX6_copy 119 = .ok (.iload 5, 2) := by decide +kernel
theorem dX6_copy_121 : decode cX6_copy 121 = .ok (.invokestatic 252, 3) := by decide +kernel
theorem dX6_copy_124 : decode cX6_copy 124 = .ok (.iload 5, 2) := by decide +kernel
theorem dX6_copy_126 : decode cX6_copy 126 = .ok (.ireturn, 1) := by decide +kernel
theorem dX6_load_0 : decode cX6_load 0 = .ok (.iload_n 1, 1) := by decide +kernel
theorem dX6_load_1 : decode cX6_load 1 = .ok (.invokestatic 230, 3) := by decide +kernel
theorem dX6_load_4 : decode cX6_load 4 = .ok (.ifCond .ne 9, 3) := by decide +kernel
theorem dX6_load_7 : decode cX6_load 7 = .ok (.aload_n 0, 1) := by decide +kernel
theorem dX6_load_8 : decode cX6_load 8 = .ok (.iconst 0, 1) := by decide +kernel
theorem dX6_load_9 : decode cX6_load 9 = .ok (.invokevirtual 57, 3) := by decide +kernel
theorem dX6_load_12 : decode cX6_load 12 = .ok (.ireturn, 1) := by decide +kernel
theorem dX6_load_13 : decode cX6_load 13 = .ok (.aload_n 0, 1) := by decide +kernel
theorem dX6_load_14 : decode cX6_load 14 = .ok (.getfield 44, 3) := by decide +kernel
theorem dX6_load_17 : decode cX6_load 17 = .ok (.iload_n 1, 1) := by decide +kernel
theorem dX6_load_18 : decode cX6_load 18 = .ok (.aaload, 1) := by decide +kernel
theorem dX6_load_19 : decode cX6_load 19 = .ok (.astore_n 2, 1) := by decide +kernel
theorem dX6_load_20 : decode cX6_load 20 = .ok (.aload_n 2, 1) := by decide +kernel
theorem dX6_load_21 : decode cX6_load 21 = .ok (.invokevirtual 237, 3) := by decide +kernel
theorem dX6_load_24 : decode cX6_load 24 = .ok (.ifCond .eq 9, 3) := by decide +kernel
theorem dX6_load_27 : decode cX6_load 27 = .ok (.aload_n 0, 1) := by decide +kernel
theorem dX6_load_28 : decode cX6_load 28 = .ok (.iconst 5, 1) := by decide +kernel
theorem dX6_load_29 : decode cX6_load 29 = .ok (.invokevirtual 57, 3) := by decide +kernel
theorem dX6_load_32 : decode cX6_load 32 = .ok (.ireturn, 1) := by decide +kernel
theorem dX6_load_33 : decode cX6_load 33 = .ok (.aload_n 2, 1) := by decide +kernel
theorem dX6_load_34 : decode cX6_load 34 = .ok (.getfield 236, 3) := by decide +kernel
theorem dX6_load_37 : decode cX6_load 37 = .ok (.aload_n 0, 1) := by decide +kernel
theorem dX6_load_38 : decode cX6_load 38 = .ok (.getfield 10, 3) := by decide +kernel
theorem dX6_load_41 : decode cX6_load 41 = .ok (.getfield 61, 3) := by decide +kernel
theorem dX6_load_44 : decode cX6_load 44 = .ok (.invokestatic 102, 3) := by decide +kernel
theorem dX6_load_47 : decode cX6_load 47 = .ok (.istore_n 3, 1) := by decide +kernel
theorem dX6_load_48 : decode cX6_load 48 = .ok (.iconst 0, 1) := by decide +kernel
theorem dX6_load_49 : decode cX6_load 49 = .ok (.istore 4, 2) := by decide +kernel
theorem dX6_load_51 : decode cX6_load 51 = .ok (.iload 4, 2) := by decide +kernel
theorem dX6_load_53 : decode cX6_load 53 = .ok (.iload_n 3, 1) := by decide +kernel
theorem dX6_load_54 : decode cX6_load 54 = .ok (.if_icmp .ge 46, 3) := by decide +kernel
theorem dX6_load_57 : decode cX6_load 57 = .ok (.aload_n 2, 1) := by decide +kernel
theorem dX6_load_58 : decode cX6_load 58 = .ok (.getfield 249, 3) := by decide +kernel
theorem dX6_load_61 : decode cX6_load 61 = .ok (.iload 4, 2) := by decide +kernel
theorem dX6_load_63 : decode cX6_load 63 = .ok (.iaload, 1) := by decide +kernel
theorem dX6_load_64 : decode cX6_load 64 = .ok (.iconst 0, 1) := by decide +kernel
theorem dX6_load_65 : decode cX6_load 65 = .ok (.sipush 9999, 3) := by decide +kernel
theorem dX6_load_68 : decode cX6_load 68 = .ok (.invokestatic 53, 3) := by decide +kernel
theorem dX6_load_71 : decode cX6_load 71 = .ok (.ifCond .eq 29, 3) := by decide +kernel
theorem dX6_load_74 : decode cX6_load 74 = .ok (.aload_n 0, 1) := by decide +kernel
theorem dX6_load_75 : decode cX6_load 75 = .ok (.getfield 10, 3) := by decide +kernel
theorem dX6_load_78 : decode cX6_load 78 = .ok (.getfield 73, 3) := by decide +kernel
theorem dX6_load_81 : decode cX6_load 81 = .ok (.iload 4, 2) := by decide +kernel
theorem dX6_load_83 : decode cX6_load 83 = .ok (.aaload, 1) := by decide +kernel
theorem dX6_load_84 : decode cX6_load 84 = .ok (.aload_n 2, 1) := by decide +kernel
theorem dX6_load_85 : decode cX6_load 85 = .ok (.getfield 249, 3) := by decide +kernel
theorem dX6_load_88 : decode cX6_load 88 = .ok (.iload 4, 2) := by decide +kernel
theorem dX6_load_90 : decode cX6_load 90 = .ok (.iaload, 1) := by decide +kernel
theorem dX6_load_91 : decode cX6_load 91 = .ok (.putfield 189, 3) := by decide +kernel
theorem dX6_load_94 : decode cX6_load 94 = .ok (.iinc 4 1, 3) := by decide +kernel
theorem dX6_load_97 : decode cX6_load 97 = .ok (.goto (-46), 3) := by decide +kernel
theorem dX6_load_100 : decode cX6_load 100 = .ok (.iload 4, 2) := by decide +kernel
theorem dX6_load_102 : decode cX6_load 102 = .ok (.ireturn, 1) := by decide +kernel
theorem dX6_judge_0 : decode cX6_judge 0 = .ok (.iload_n 1, 1) := by decide +kernel
theorem dX6_judge_1 : decode cX6_judge 1 = .ok (.invokestatic 230, 3) := by decide +kernel
theorem dX6_judge_4 : decode cX6_judge 4 = .ok (.ifCond .ne 9, 3) := by decide +kernel
theorem dX6_judge_7 : decode cX6_judge 7 = .ok (.aload_n 0, 1) := by decide +kernel
theorem dX6_judge_8 : decode cX6_judge 8 = .ok (.iconst 0, 1) := by decide +kernel
theorem dX6_judge_9 : decode cX6_judge 9 = .ok (.invokevirtual 57, 3) := by decide +kernel
theorem dX6_judge_12 : decode cX6_judge 12 = .ok (.ireturn, 1) := by decide +kernel
theorem dX6_judge_13 : decode cX6_judge 13 = .ok (.aload_n 0, 1) := by decide +kernel
theorem dX6_judge_14 : decode cX6_judge 14 = .ok (.getfield 44, 3) := by decide +kernel
theorem dX6_judge_17 : decode cX6_judge 17 = .ok (.iload_n 1, 1) := by decide +kernel
theorem dX6_judge_18 : decode cX6_judge 18 = .ok (.aaload, 1) := by decide +kernel
theorem dX6_judge_19 : decode cX6_judge 19 = .ok (.astore_n 2, 1) := by decide +kernel
theorem dX6_judge_20 : decode cX6_judge 20 = .ok (.aload_n 2, 1) := by decide +kernel
theorem dX6_judge_21 : decode cX6_judge 21 = .ok (.invokevirtual 237, 3) := by decide +kernel
theorem dX6_judge_24 : decode cX6_judge 24 = .ok (.ifCond .eq 9, 3) := by decide +kernel
theorem dX6_judge_27 : decode cX6_judge 27 = .ok (.aload_n 0, 1) := by decide +kernel
theorem dX6_judge_28 : decode cX6_judge 28 = .ok (.iconst 5, 1) := by decide +kernel
theorem dX6_judge_29 : decode cX6_judge 29 = .ok (.invokevirtual 57, 3) := by decide +kernel
theorem dX6_judge_32 : decode cX6_judge 32 = .ok (.ireturn, 1) := by decide +kernel
theorem dX6_judge_33 : decode cX6_judge 33 = .ok (.aload_n 0, 1) := by decide +kernel
theorem dX6_judge_34 : decode cX6_judge 34 = .ok (.aload_n 2, 1) := by decide +kernel
theorem dX6_judge_35 : decode cX6_judge 35 = .ok (.getfield 236, 3) := by decide +kernel
theorem dX6_judge_38 : decode cX6_judge 38 = .ok (.invokevirtual 130, 3) := by decide +kernel
theorem dX6_judge_41 : decode cX6_judge 41 = .ok (.ifCond .eq 9, 3) := by decide +kernel
theorem dX6_judge_44 : decode cX6_judge 44 = .ok (.aload_n 0, 1) := by decide +kernel
theorem dX6_judge_45 : decode cX6_judge 45 = .ok (.iconst 4, 1) := by decide +kernel
theorem dX6_judge_46 : decode cX6_judge 46 = .ok (.invokevirtual 57, 3) := by decide +kernel
theorem dX6_judge_49 : decode cX6_judge 49 = .ok (.ireturn, 1) := by decide +kernel
theorem dX6_judge_50 : decode cX6_judge 50 = .ok (.aload_n 0, 1) := by decide +kernel
theorem dX6_judge_51 : decode cX6_judge 51 = .ok (.getfield 19, 3) := by decide +kernel
theorem dX6_judge_54 : decode cX6_judge 54 = .ok (.aload_n 0, 1) := by decide +kernel
theorem dX6_judge_55 : decode cX6_judge 55 = .ok (.getfield 10, 3) := by decide +kernel
theorem dX6_judge_58 : decode cX6_judge 58 = .ok (.invokevirtual 166, 3) := by decide +kernel
theorem dX6_judge_61 : decode cX6_judge 61 = .ok (.iconst 0, 1) := by decide +kernel
theorem dX6_judge_62 : decode cX6_judge 62 = .ok (.istore_n 3, 1) := by decide +kernel
theorem dX6_judge_63 : decode cX6_judge 63 = .ok (.iload_n 3, 1) := by decide +kernel
theorem dX6_judge_64 : decode cX6_judge 64 = .ok (.aload_n 2, 1) := by decide +kernel
theorem dX6_judge_65 : decode cX6_judge 65 = .ok (.getfield 236, 3) := by decide +kernel
theorem dX6_judge_68 : decode cX6_judge 68 = .ok (.if_icmp .ge 30, 3) := by decide +kernel
theorem dX6_judge_71 : decode cX6_judge 71 = .ok (.aload_n 0, 1) := by decide +kernel
theorem dX6_judge_72 : decode cX6_judge 72 = .ok (.getfield 19, 3) := by decide +kernel
theorem dX6_judge_75 : decode cX6_judge 75 = .ok (.iconst 1, 1) := by decide +kernel
theorem dX6_judge_76 : decode cX6_judge 76 = .ok (.invokevirtual 133, 3) := by decide +kernel
theorem dX6_judge_79 : decode cX6_judge 79 = .ok (.aload_n 2, 1) := by decide +kernel
theorem dX6_judge_80 : decode cX6_judge 80 = .ok (.getfield 249, 3) := by decide +kernel
theorem dX6_judge_83 : decode cX6_judge 83 = .ok (.iload_n 3, 1) := by decide +kernel
theorem dX6_judge_84 : decode cX6_judge 84 = .ok (.iaload, 1) := by decide +kernel
theorem dX6_judge_85 : decode cX6_judge 85 = .ok (.if_icmp .eq 7, 3) := by decide +kernel
theorem dX6_judge_88 : decode cX6_judge 88 = .ok (.iconst 1, 1) := by decide +kernel
theorem dX6_judge_89 : decode cX6_judge 89 = .ok (.iload_n 3, 1) := by decide +kernel
theorem dX6_judge_90 : decode cX6_judge 90 = .ok (.iadd, 1) := by decide +kernel
theorem dX6_judge_91 : decode cX6_judge 91 = .ok (.ireturn, 1) := by decide +kernel
theorem dX6_judge_92 : decode cX6_judge 92 = .ok (.iinc 3 1, 3) := by decide +kernel
theorem dX6_judge_95 : decode cX6_judge 95 = .ok (.goto (-32), 3) := by decide +kernel
theorem dX6_judge_98 : decode cX6_judge 98 = .ok (.iconst 0, 1) := by decide +kernel
theorem dX6_judge_99 : decode cX6_judge 99 = .ok (.ireturn, 1) := by decide +kernel
theorem dX6_image_0 : decode cX6_image 0 = .ok (.aload_n 0, 1) := by decide +kernel
theorem dX6_image_1 : decode cX6_image 1 = .ok (.getfield 16, 3) := by decide +kernel
theorem dX6_image_4 : decode cX6_image 4 = .ok (.aload_n 0, 1) := by decide +kernel
theorem dX6_image_5 : decode cX6_image 5 = .ok (.getfield 10, 3) := by decide +kernel
theorem dX6_image_8 : decode cX6_image 8 = .ok (.invokevirtual 258, 3) := by decide +kernel
theorem dX6_image_11 : decode cX6_image 11 = .ok (.aload_n 0, 1) := by decide +kernel
theorem dX6_image_12 : decode cX6_image 12 = .ok (.iconst 1, 1) := by decide +kernel
theorem dX6_image_13 : decode cX6_image 13 = .ok (.putfield 22, 3) := by decide +kernel
theorem dX6_image_16 : decode cX6_image 16 = .ok (.iconst 1, 1) := by decide +kernel
theorem dX6_image_17 : decode cX6_image 17 = .ok (.ireturn, 1) := by decide +kernel
theorem dX6_undo_0 : decode cX6_undo 0 = .ok (.aload_n 0, 1) := by decide +kernel
theorem dX6_undo_1 : decode cX6_undo 1 = .ok (.getfield 22, 3) := by decide +kernel
theorem dX6_undo_4 : decode cX6_undo 4 = .ok (.ifCond .ne 9, 3) := by decide +kernel
theorem dX6_undo_7 : decode cX6_undo 7 = .ok (.aload_n 0, 1) := by decide +kernel
theorem dX6_undo_8 : decode cX6_undo 8 = .ok (.iconst 3, 1) := by decide +kernel
theorem dX6_undo_9 : decode cX6_undo 9 = .ok (.invokevirtual 57, 3) := by decide +kernel
theorem dX6_undo_12 : decode cX6_undo 12 = .ok (.ireturn, 1) := by decide +kernel
theorem dX6_undo_13 : decode cX6_undo 13 = .ok (.aload_n 0, 1) := by decide +kernel
theorem dX6_undo_14 : decode cX6_undo 14 = .ok (.getfield 10, 3) := by decide +kernel
theorem dX6_undo_17 : decode cX6_undo 17 = .ok (.aload_n 0, 1) := by decide +kernel
theorem dX6_undo_18 : decode cX6_undo 18 = .ok (.getfield 16, 3) := by decide +kernel
theorem dX6_undo_21 : decode cX6_undo 21 = .ok (.invokevirtual 258, 3) := by decide +kernel
theorem dX6_undo_24 : decode cX6_undo 24 = .ok (.aload_n 0, 1) := by decide +kernel
theorem dX6_undo_25 : decode cX6_undo 25 = .ok (.getfield 10, 3) := by decide +kernel
theorem dX6_undo_28 : decode cX6_undo 28 = .ok (.getfield 111, 3) := by decide +kernel
theorem dX6_undo_31 : decode cX6_undo 31 = .ok (.ireturn, 1) := by decide +kernel
theorem dX6_tear_0 : decode cX6_tear 0 = .ok (.aload_n 0, 1) := by decide +kernel
theorem dX6_tear_1 : decode cX6_tear 1 = .ok (.getfield 22, 3) := by decide +kernel
theorem dX6_tear_4 : decode cX6_tear 4 = .ok (.ifCond .eq 7, 3) := by decide +kernel
theorem dX6_tear_7 : decode cX6_tear 7 = .ok (.iconst 1, 1) := by decide +kernel
theorem dX6_tear_8 : decode cX6_tear 8 = .ok (.goto 4, 3) := by decide +kernel
theorem dX6_tear_11 : decode cX6_tear 11 = .ok (.iconst 0, 1) := by decide +kernel
theorem dX6_tear_12 : decode cX6_tear 12 = .ok (.istore_n 1, 1) := by decide +kernel
theorem dX6_tear_13 : decode cX6_tear 13 = .ok (.aload_n 0, 1) := by decide +kernel
theorem dX6_tear_14 : decode cX6_tear 14 = .ok (.iconst 0, 1) := by decide +kernel
theorem dX6_tear_15 : decode cX6_tear 15 = .ok (.putfield 22, 3) := by decide +kernel
theorem dX6_tear_18 : decode cX6_tear 18 = .ok (.iload_n 1, 1) := by decide +kernel
theorem dX6_tear_19 : decode cX6_tear 19 = .ok (.ireturn, 1) := by decide +kernel
theorem dX6_count_0 : decode cX6_count 0 = .ok (.iload_n 1, 1) := by decide +kernel
theorem dX6_count_1 : decode cX6_count 1 = .ok (.tableswitch 114 0 7 #[47, 55, 66, 74, 82, 90, 98, 106], 47) := by decide +kernel
theorem dX6_count_48 : decode cX6_count 48 = .ok (.aload_n 0, 1) := by decide +kernel
theorem dX6_count_49 : decode cX6_count 49 = .ok (.getfield 10, 3) := by decide +kernel
theorem dX6_count_52 : decode cX6_count 52 = .ok (.getfield 61, 3) := by decide +kernel
theorem dX6_count_55 : decode cX6_count 55 = .ok (.ireturn, 1) := by decide +kernel
theorem dX6_count_56 : decode cX6_count 56 = .ok (.aload_n 0, 1) := by decide +kernel
theorem dX6_count_57 : decode cX6_count 57 = .ok (.getfield 10, 3) := by decide +kernel
theorem dX6_count_60 : decode cX6_count 60 = .ok (.getfield 136, 3) := by decide +kernel
theorem dX6_count_63 : decode cX6_count 63 = .ok (.getfield 140, 3) := by decide +kernel
theorem dX6_count_66 : decode cX6_count 66 = .ok (.ireturn, 1) := by decide +kernel
theorem dX6_count_67 : decode cX6_count 67 = .ok (.aload_n 0, 1) := by decide +kernel
theorem dX6_count_68 : decode cX6_count 68 = .ok (.getfield 10, 3) := by decide +kernel
theorem dX6_count_71 : decode cX6_count 71 = .ok (.getfield 176, 3) := by decide +kernel
theorem dX6_count_74 : decode cX6_count 74 = .ok (.ireturn, 1) := by decide +kernel
theorem dX6_count_75 : decode cX6_count 75 = .ok (.aload_n 0, 1) := by decide +kernel
theorem dX6_count_76 : decode cX6_count 76 = .ok (.getfield 10, 3) := by decide +kernel
theorem dX6_count_79 : decode cX6_count 79 = .ok (.getfield 261, 3) := by decide +kernel
theorem dX6_count_82 : decode cX6_count 82 = .ok (.ireturn, 1) := by decide +kernel
theorem dX6_count_83 : decode cX6_count 83 = .ok (.aload_n 0, 1) := by decide +kernel
theorem dX6_count_84 : decode cX6_count 84 = .ok (.getfield 10, 3) := by decide +kernel
theorem dX6_count_87 : decode cX6_count 87 = .ok (.getfield 179, 3) := by decide +kernel
theorem dX6_count_90 : decode cX6_count 90 = .ok (.ireturn, 1) := by decide +kernel
theorem dX6_count_91 : decode cX6_count 91 = .ok (.aload_n 0, 1) := by decide +kernel
theorem dX6_count_92 : decode cX6_count 92 = .ok (.getfield 29, 3) := by decide +kernel
theorem dX6_count_95 : decode cX6_count 95 = .ok (.getfield 216, 3) := by decide +kernel
theorem dX6_count_98 : decode cX6_count 98 = .ok (.ireturn, 1) := by decide +kernel
theorem dX6_count_99 : decode cX6_count 99 = .ok (.aload_n 0, 1) := by decide +kernel
theorem dX6_count_100 : decode cX6_count 100 = .ok (.getfield 10, 3) := by decide +kernel
theorem dX6_count_103 : decode cX6_count 103 = .ok (.getfield 213, 3) := by decide +kernel
theorem dX6_count_106 : decode cX6_count 106 = .ok (.ireturn, 1) := by decide +kernel
theorem dX6_count_107 : decode cX6_count 107 = .ok (.aload_n 0, 1) := by decide +kernel
theorem dX6_count_108 : decode cX6_count 108 = .ok (.getfield 10, 3) := by decide +kernel
theorem dX6_count_111 : decode cX6_count 111 = .ok (.invokevirtual 264, 3) := by decide +kernel
theorem dX6_count_114 : decode cX6_count 114 = .ok (.ireturn, 1) := by decide +kernel
theorem dX6_count_115 : decode cX6_count 115 = .ok (.aload_n 0, 1) := by decide +kernel
theorem dX6_count_116 : decode cX6_count 116 = .ok (.iconst 0, 1) := by decide +kernel
theorem dX6_count_117 : decode cX6_count 117 = .ok (.invokevirtual 57, 3) := by decide +kernel
theorem dX6_count_120 : decode cX6_count 120 = .ok (.ireturn, 1) := by decide +kernel
theorem dX6_status_0 : decode cX6_status 0 = .ok (.iload_n 1, 1) := by decide +kernel
theorem dX6_status_1 : decode cX6_status 1 = .ok (.iconst (-1), 1) := by decide +kernel
theorem dX6_status_2 : decode cX6_status 2 = .ok (.bipush 6, 2) := by decide +kernel
theorem dX6_status_4 : decode cX6_status 4 = .ok (.invokestatic 53, 3) := by decide +kernel
theorem dX6_status_7 : decode cX6_status 7 = .ok (.ifCond .ne 9, 3) := by decide +kernel
theorem dX6_status_10 : decode cX6_status 10 = .ok (.aload_n 0, 1) := by decide +kernel
theorem dX6_status_11 : decode cX6_status 11 = .ok (.iconst 0, 1) := by decide +kernel
theorem dX6_status_12 : decode cX6_status 12 = .ok (.invokevirtual 57, 3) := by decide +kernel
theorem dX6_status_15 : decode cX6_status 15 = .ok (.ireturn, 1) := by decide +kernel
theorem dX6_status_16 : decode cX6_status 16 = .ok (.iload_n 1, 1) := by decide +kernel
theorem dX6_status_17 : decode cX6_status 17 = .ok (.ifCond .lt 10, 3) := by decide +kernel
theorem dX6_status_20 : decode cX6_status 20 = .ok (.aload_n 0, 1) := by decide +kernel
theorem dX6_status_21 : decode cX6_status 21 = .ok (.getfield 48, 3) := by decide +kernel
theorem dX6_status_24 : decode cX6_status 24 = .ok (.iload_n 1, 1) := by decide +kernel
theorem dX6_status_25 : decode cX6_status 25 = .ok (.iaload, 1) := by decide +kernel
theorem dX6_status_26 : decode cX6_status 26 = .ok (.ireturn, 1) := by decide +kernel
theorem dX6_status_27 : decode cX6_status 27 = .ok (.iconst 0, 1) := by decide +kernel
theorem dX6_status_28 : decode cX6_status 28 = .ok (.istore_n 2, 1) := by decide +kernel
theorem dX6_status_29 : decode cX6_status 29 = .ok (.iconst 0, 1) := by decide +kernel
theorem dX6_status_30 : decode cX6_status 30 = .ok (.istore_n 3, 1) := by decide +kernel
theorem dX6_status_31 : decode cX6_status 31 = .ok (.iload_n 3, 1) := by decide +kernel
theorem dX6_status_32 : decode cX6_status 32 = .ok (.bipush 7, 2) := by decide +kernel
theorem dX6_status_34 : decode cX6_status 34 = .ok (.if_icmp .ge 18, 3) := by decide +kernel
theorem dX6_status_37 : decode cX6_status 37 = .ok (.iload_n 2, 1) := by decide +kernel
theorem dX6_status_38 : decode cX6_status 38 = .ok (.aload_n 0, 1) := by decide +kernel
theorem dX6_status_39 : decode cX6_status 39 = .ok (.getfield 48, 3) := by decide +kernel
theorem dX6_status_42 : decode cX6_status 42 = .ok (.iload_n 3, 1) := by decide +kernel
theorem dX6_status_43 : decode cX6_status 43 = .ok (.iaload, 1) := by decide +kernel
theorem dX6_status_44 : decode cX6_status 44 = .ok (.iadd, 1) := by decide +kernel
theorem dX6_status_45 : decode cX6_status 45 = .ok (.istore_n 2, 1) := by decide +kernel
theorem dX6_status_46 : decode cX6_status 46 = .ok (.iinc 3 1, 3) := by decide +kernel
theorem dX6_status_49 : decode cX6_status 49 = .ok (.goto (-18), 3) := by decide +kernel
theorem dX6_status_52 : decode cX6_status 52 = .ok (.iload_n 2, 1) := by decide +kernel
theorem dX6_status_53 : decode cX6_status 53 = .ok (.ireturn, 1) := by decide +kernel
theorem dX6_tell_0 : decode cX6_tell 0 = .ok (.aload_n 0, 1) := by decide +kernel
theorem dX6_tell_1 : decode cX6_tell 1 = .ok (.getfield 48, 3) := by decide +kernel
theorem dX6_tell_4 : decode cX6_tell 4 = .ok (.iload_n 1, 1) := by decide +kernel
theorem dX6_tell_5 : decode cX6_tell 5 = .ok (.dup2, 1) := by decide +kernel
theorem dX6_tell_6 : decode cX6_tell 6 = .ok (.iaload, 1) := by decide +kernel
theorem dX6_tell_7 : decode cX6_tell 7 = .ok (.iconst 1, 1) := by decide +kernel
theorem dX6_tell_8 : decode cX6_tell 8 = .ok (.iadd, 1) := by decide +kernel
theorem dX6_tell_9 : decode cX6_tell 9 = .ok (.iastore, 1) := by decide +kernel
theorem dX6_tell_10 : decode cX6_tell 10 = .ok (.ldc_w 267, 3) := by decide +kernel
theorem dX6_tell_13 : decode cX6_tell 13 = .ok (.iload_n 1, 1) := by decide +kernel
theorem dX6_tell_14 : decode cX6_tell 14 = .ok (.isub, 1) := by decide +kernel
theorem dX6_tell_15 : decode cX6_tell 15 = .ok (.ireturn, 1) := by decide +kernel
theorem dX6_isDrinker_0 : decode cX6_isDrinker 0 = .ok (.iload_n 1, 1) := by decide +kernel
theorem dX6_isDrinker_1 : decode cX6_isDrinker 1 = .ok (.iconst 0, 1) := by decide +kernel
theorem dX6_isDrinker_2 : decode cX6_isDrinker 2 = .ok (.aload_n 0, 1) := by decide +kernel
theorem dX6_isDrinker_3 : decode cX6_isDrinker 3 = .ok (.getfield 10, 3) := by decide +kernel
theorem dX6_isDrinker_6 : decode cX6_isDrinker 6 = .ok (.getfield 61, 3) := by decide +kernel
theorem dX6_isDrinker_9 : decode cX6_isDrinker 9 = .ok (.iconst 1, 1) := by decide +kernel
theorem dX6_isDrinker_10 : decode cX6_isDrinker 10 = .ok (.isub, 1) := by decide +kernel
theorem dX6_isDrinker_11 : decode cX6_isDrinker 11 = .ok (.invokestatic 53, 3) := by decide +kernel
theorem dX6_isDrinker_14 : decode cX6_isDrinker 14 = .ok (.ireturn, 1) := by decide +kernel
theorem dX6_isTooLate_0 : decode cX6_isTooLate 0 = .ok (.aload_n 0, 1) := by decide +kernel
theorem dX6_isTooLate_1 : decode cX6_isTooLate 1 = .ok (.getfield 10, 3) := by decide +kernel
theorem dX6_isTooLate_4 : decode cX6_isTooLate 4 = .ok (.getfield 111, 3) := by decide +kernel
theorem dX6_isTooLate_7 : decode cX6_isTooLate 7 = .ok (.iload_n 1, 1) := by decide +kernel
theorem dX6_isTooLate_8 : decode cX6_isTooLate 8 = .ok (.iadd, 1) := by decide +kernel
theorem dX6_isTooLate_9 : decode cX6_isTooLate 9 = .ok (.sipush 9999, 3) := by decide +kernel
theorem dX6_isTooLate_12 : decode cX6_isTooLate 12 = .ok (.if_icmp .le 7, 3) := by decide +kernel
theorem dX6_isTooLate_15 : decode cX6_isTooLate 15 = .ok (.iconst 1, 1) := by decide +kernel
theorem dX6_isTooLate_16 : decode cX6_isTooLate 16 = .ok (.goto 4, 3) := by decide +kernel
theorem dX6_isTooLate_19 : decode cX6_isTooLate 19 = .ok (.iconst 0, 1) := by decide +kernel
theorem dX6_isTooLate_20 : decode cX6_isTooLate 20 = .ok (.ireturn, 1) := by decide +kernel
theorem dX6_changePrice_0 : decode cX6_changePrice 0 = .ok (.iload_n 1, 1) := by decide +kernel
theorem dX6_changePrice_1 : decode cX6_changePrice 1 = .ok (.iconst 0, 1) := by decide +kernel
theorem dX6_changePrice_2 : decode cX6_changePrice 2 = .ok (.bipush 99, 2) := by decide +kernel
theorem dX6_changePrice_4 : decode cX6_changePrice 4 = .ok (.invokestatic 53, 3) := by decide +kernel
theorem dX6_changePrice_7 : decode cX6_changePrice 7 = .ok (.ifCond .ne 9, 3) := by decide +kernel
theorem dX6_changePrice_10 : decode cX6_changePrice 10 = .ok (.aload_n 0, 1) := by decide +kernel
theorem dX6_changePrice_11 : decode cX6_changePrice 11 = .ok (.iconst 0, 1) := by decide +kernel
theorem dX6_changePrice_12 : decode cX6_changePrice 12 = .ok (.invokevirtual 57, 3) := by decide +kernel
theorem dX6_changePrice_15 : decode cX6_changePrice 15 = .ok (.ireturn, 1) := by decide +kernel
theorem dX6_changePrice_16 : decode cX6_changePrice 16 = .ok (.aload_n 0, 1) := by decide +kernel
theorem dX6_changePrice_17 : decode cX6_changePrice 17 = .ok (.getfield 10, 3) := by decide +kernel
theorem dX6_changePrice_20 : decode cX6_changePrice 20 = .ok (.getfield 176, 3) := by decide +kernel
theorem dX6_changePrice_23 : decode cX6_changePrice 23 = .ok (.istore_n 2, 1) := by decide +kernel
theorem dX6_changePrice_24 : decode cX6_changePrice 24 = .ok (.aload_n 0, 1) := by decide +kernel
theorem dX6_changePrice_25 : decode cX6_changePrice 25 = .ok (.getfield 10, 3) := by decide +kernel
theorem dX6_changePrice_28 : decode cX6_changePrice 28 = .ok (.iload_n 1, 1) := by decide +kernel
theorem dX6_changePrice_29 : decode cX6_changePrice 29 = .ok (.putfield 176, 3) := by decide +kernel
theorem dX6_changePrice_32 : decode cX6_changePrice 32 = .ok (.iload_n 2, 1) := by decide +kernel
theorem dX6_changePrice_33 : decode cX6_changePrice 33 = .ok (.ireturn, 1) := by decide +kernel
theorem dX6_changePot_0 : decode cX6_changePot 0 = .ok (.iload_n 1, 1) := by decide +kernel
theorem dX6_changePot_1 : decode cX6_changePot 1 = .ok (.iconst 1, 1) := by decide +kernel
theorem dX6_changePot_2 : decode cX6_changePot 2 = .ok (.bipush 99, 2) := by decide +kernel
theorem dX6_changePot_4 : decode cX6_changePot 4 = .ok (.invokestatic 53, 3) := by decide +kernel
theorem dX6_changePot_7 : decode cX6_changePot 7 = .ok (.ifCond .ne 9, 3) := by decide +kernel
theorem dX6_changePot_10 : decode cX6_changePot 10 = .ok (.aload_n 0, 1) := by decide +kernel
theorem dX6_changePot_11 : decode cX6_changePot 11 = .ok (.iconst 0, 1) := by decide +kernel
theorem dX6_changePot_12 : decode cX6_changePot 12 = .ok (.invokevirtual 57, 3) := by decide +kernel
theorem dX6_changePot_15 : decode cX6_changePot 15 = .ok (.ireturn, 1) := by decide +kernel
theorem dX6_changePot_16 : decode cX6_changePot 16 = .ok (.aload_n 0, 1) := by decide +kernel
theorem dX6_changePot_17 : decode cX6_changePot 17 = .ok (.getfield 10, 3) := by decide +kernel
theorem dX6_changePot_20 : decode cX6_changePot 20 = .ok (.getfield 261, 3) := by decide +kernel
theorem dX6_changePot_23 : decode cX6_changePot 23 = .ok (.istore_n 2, 1) := by decide +kernel
theorem dX6_changePot_24 : decode cX6_changePot 24 = .ok (.aload_n 0, 1) := by decide +kernel
theorem dX6_changePot_25 : decode cX6_changePot 25 = .ok (.getfield 10, 3) := by decide +kernel
theorem dX6_changePot_28 : decode cX6_changePot 28 = .ok (.iload_n 1, 1) := by decide +kernel
theorem dX6_changePot_29 : decode cX6_changePot 29 = .ok (.invokevirtual 182, 3) := by decide +kernel
theorem dX6_changePot_32 : decode cX6_changePot 32 = .ok (.iload_n 2, 1) := by decide +kernel
theorem dX6_changePot_33 : decode cX6_changePot 33 = .ok (.ireturn, 1) := by decide +kernel
theorem dX6_changeSign_0 : decode cX6_changeSign 0 = .ok (.iload_n 1, 1) := by decide +kernel
theorem dX6_changeSign_1 : decode cX6_changeSign 1 = .ok (.iconst 0, 1) := by decide +kernel
theorem dX6_changeSign_2 : decode cX6_changeSign 2 = .ok (.iconst 2, 1) := by decide +kernel
theorem dX6_changeSign_3 : decode cX6_changeSign 3 = .ok (.invokestatic 53, 3) := by decide +kernel
theorem dX6_changeSign_6 : decode cX6_changeSign 6 = .ok (.ifCond .ne 9, 3) := by decide +kernel
theorem dX6_changeSign_9 : decode cX6_changeSign 9 = .ok (.aload_n 0, 1) := by decide +kernel
theorem dX6_changeSign_10 : decode cX6_changeSign 10 = .ok (.iconst 0, 1) := by decide +kernel
theorem dX6_changeSign_11 : decode cX6_changeSign 11 = .ok (.invokevirtual 57, 3) := by decide +kernel
theorem dX6_changeSign_14 : decode cX6_changeSign 14 = .ok (.ireturn, 1) := by decide +kernel
theorem dX6_changeSign_15 : decode cX6_changeSign 15 = .ok (.aload_n 0, 1) := by decide +kernel
theorem dX6_changeSign_16 : decode cX6_changeSign 16 = .ok (.getfield 10, 3) := by decide +kernel
theorem dX6_changeSign_19 : decode cX6_changeSign 19 = .ok (.getfield 179, 3) := by decide +kernel
theorem dX6_changeSign_22 : decode cX6_changeSign 22 = .ok (.istore_n 2, 1) := by decide +kernel
theorem dX6_changeSign_23 : decode cX6_changeSign 23 = .ok (.aload_n 0, 1) := by decide +kernel
theorem dX6_changeSign_24 : decode cX6_changeSign 24 = .ok (.getfield 10, 3) := by decide +kernel
theorem dX6_changeSign_27 : decode cX6_changeSign 27 = .ok (.iload_n 1, 1) := by decide +kernel
theorem dX6_changeSign_28 : decode cX6_changeSign 28 = .ok (.putfield 179, 3) := by decide +kernel
theorem dX6_changeSign_31 : decode cX6_changeSign 31 = .ok (.iload_n 2, 1) := by decide +kernel
theorem dX6_changeSign_32 : decode cX6_changeSign 32 = .ok (.ireturn, 1) := by decide +kernel
theorem dX6_lastBehindWeeks_0 : decode cX6_lastBehindWeeks 0 = .ok (.aload_n 0, 1) := by decide +kernel
theorem dX6_lastBehindWeeks_1 : decode cX6_lastBehindWeeks 1 = .ok (.getfield 19, 3) := by decide +kernel
theorem dX6_lastBehindWeeks_4 : decode cX6_lastBehindWeeks 4 = .ok (.aload_n 0, 1) := by decide +kernel
theorem dX6_lastBehindWeeks_5 : decode cX6_lastBehindWeeks 5 = .ok (.getfield 10, 3) := by decide +kernel
theorem dX6_lastBehindWeeks_8 : decode cX6_lastBehindWeeks 8 = .ok (.invokevirtual 166, 3) := by decide +kernel
theorem dX6_lastBehindWeeks_11 : decode cX6_lastBehindWeeks 11 = .ok (.aload_n 0, 1) := by decide +kernel
theorem dX6_lastBehindWeeks_12 : decode cX6_lastBehindWeeks 12 = .ok (.getfield 19, 3) := by decide +kernel
theorem dX6_lastBehindWeeks_15 : decode cX6_lastBehindWeeks 15 = .ok (.invokevirtual 268, 3) := by decide +kernel
theorem dX6_lastBehindWeeks_18 : decode cX6_lastBehindWeeks 18 = .ok (.aload_n 0, 1) := by decide +kernel
theorem dX6_lastBehindWeeks_19 : decode cX6_lastBehindWeeks 19 = .ok (.getfield 19, 3) := by decide +kernel
theorem dX6_lastBehindWeeks_22 : decode cX6_lastBehindWeeks 22 = .ok (.iload_n 1, 1) := by decide +kernel
theorem dX6_lastBehindWeeks_23 : decode cX6_lastBehindWeeks 23 = .ok (.putfield 117, 3) := by decide +kernel
theorem dX6_lastBehindWeeks_26 : decode cX6_lastBehindWeeks 26 = .ok (.aload_n 0, 1) := by decide +kernel
theorem dX6_lastBehindWeeks_27 : decode cX6_lastBehindWeeks 27 = .ok (.getfield 19, 3) := by decide +kernel
theorem dX6_lastBehindWeeks_30 : decode cX6_lastBehindWeeks 30 = .ok (.iload_n 2, 1) := by decide +kernel
theorem dX6_lastBehindWeeks_31 : decode cX6_lastBehindWeeks 31 = .ok (.iconst 5, 1) := by decide +kernel
theorem dX6_lastBehindWeeks_32 : decode cX6_lastBehindWeeks 32 = .ok (.imul, 1) := by decide +kernel
theorem dX6_lastBehindWeeks_33 : decode cX6_lastBehindWeeks 33 = .ok (.invokevirtual 133, 3) := by decide +kernel
theorem dX6_lastBehindWeeks_36 : decode cX6_lastBehindWeeks 36 = .ok (.pop, 1) := by decide +kernel
theorem dX6_lastBehindWeeks_37 : decode cX6_lastBehindWeeks 37 = .ok (.aload_n 0, 1) := by decide +kernel
theorem dX6_lastBehindWeeks_38 : decode cX6_lastBehindWeeks 38 = .ok (.getfield 19, 3) := by decide +kernel
theorem dX6_lastBehindWeeks_41 : decode cX6_lastBehindWeeks 41 = .ok (.getfield 117, 3) := by decide +kernel
theorem dX6_lastBehindWeeks_44 : decode cX6_lastBehindWeeks 44 = .ok (.ireturn, 1) := by decide +kernel
theorem dX6_coinsByWay_0 : decode cX6_coinsByWay 0 = .ok (.iload_n 2, 1) := by decide +kernel
theorem dX6_coinsByWay_1 : decode cX6_coinsByWay 1 = .ok (.lookupswitch 45 #[(0, 27), (1, 32)], 27) := by decide +kernel
theorem dX6_coinsByWay_28 : decode cX6_coinsByWay 28 = .ok (.aload_n 1, 1) := by decide +kernel
theorem dX6_coinsByWay_29 : decode cX6_coinsByWay 29 = .ok (.getfield 271, 3) := by decide +kernel
theorem dX6_coinsByWay_32 : decode cX6_coinsByWay 32 = .ok (.ireturn, 1) := by decide +kernel
theorem dX6_coinsByWay_33 : decode cX6_coinsByWay 33 = .ok (.aload_n 0, 1) := by decide +kernel
theorem dX6_coinsByWay_34 : decode cX6_coinsByWay 34 = .ok (.getfield 10, 3) := by decide +kernel
theorem dX6_coinsByWay_37 : decode cX6_coinsByWay 37 = .ok (.getfield 176, 3) := by decide +kernel
theorem dX6_coinsByWay_40 : decode cX6_coinsByWay 40 = .ok (.aload_n 1, 1) := by decide +kernel
theorem dX6_coinsByWay_41 : decode cX6_coinsByWay 41 = .ok (.getfield 197, 3) := by decide +kernel
theorem dX6_coinsByWay_44 : decode cX6_coinsByWay 44 = .ok (.imul, 1) := by decide +kernel
theorem dX6_coinsByWay_45 : decode cX6_coinsByWay 45 = .ok (.ireturn, 1) := by decide +kernel
theorem dX6_coinsByWay_46 : decode cX6_coinsByWay 46 = .ok (.iload_n 3, 1) := by decide +kernel
theorem dX6_coinsByWay_47 : decode cX6_coinsByWay 47 = .ok (.ireturn, 1) := by decide +kernel
theorem dX6_within_0 : decode cX6_within 0 = .ok (.iload_n 0, 1) := by decide +kernel
theorem dX6_within_1 : decode cX6_within 1 = .ok (.iload_n 1, 1) := by decide +kernel
theorem dX6_within_2 : decode cX6_within 2 = .ok (.if_icmp .lt 12, 3) := by decide +kernel
theorem dX6_within_5 : decode cX6_within 5 = .ok (.iload_n 0, 1) := by decide +kernel
theorem dX6_within_6 : decode cX6_within 6 = .ok (.iload_n 2, 1) := by decide +kernel
theorem dX6_within_7 : decode cX6_within 7 = .ok (.if_icmp .gt 7, 3) := by decide +kernel
theorem dX6_within_10 : decode cX6_within 10 = .ok (.iconst 1, 1) := by decide +kernel
theorem dX6_within_11 : decode cX6_within 11 = .ok (.goto 4, 3) := by decide +kernel
theorem dX6_within_14 : decode cX6_within 14 = .ok (.iconst 0, 1) := by decide +kernel
theorem dX6_within_15 : decode cX6_within 15 = .ok (.ireturn, 1) := by decide +kernel
theorem dX6_isSheet_0 : decode cX6_isSheet 0 = .ok (.iload_n 0, 1) := by decide +kernel
theorem dX6_isSheet_1 : decode cX6_isSheet 1 = .ok (.iconst 0, 1) := by decide +kernel
theorem dX6_isSheet_2 : decode cX6_isSheet 2 = .ok (.iconst 3, 1) := by decide +kernel
theorem dX6_isSheet_3 : decode cX6_isSheet 3 = .ok (.invokestatic 53, 3) := by decide +kernel
theorem dX6_isSheet_6 : decode cX6_isSheet 6 = .ok (.ireturn, 1) := by decide +kernel
theorem dX6_canBecome_0 : decode cX6_canBecome 0 = .ok (.iload_n 0, 1) := by decide +kernel
theorem dX6_canBecome_1 : decode cX6_canBecome 1 = .ok (.tableswitch 64 0 3 #[31, 39, 47, 56], 31) := by decide +kernel
theorem dX6_canBecome_32 : decode cX6_canBecome 32 = .ok (.iload_n 1, 1) := by decide +kernel
theorem dX6_canBecome_33 : decode cX6_canBecome 33 = .ok (.iconst 0, 1) := by decide +kernel
theorem dX6_canBecome_34 : decode cX6_canBecome 34 = .ok (.bipush 6, 2) := by decide +kernel
theorem dX6_canBecome_36 : decode cX6_canBecome 36 = .ok (.invokestatic 53, 3) := by decide +kernel
theorem dX6_canBecome_39 : decode cX6_canBecome 39 = .ok (.ireturn, 1) := by decide +kernel
theorem dX6_canBecome_40 : decode cX6_canBecome 40 = .ok (.iload_n 1, 1) := by decide +kernel
theorem dX6_canBecome_41 : decode cX6_canBecome 41 = .ok (.iconst 1, 1) := by decide +kernel
theorem dX6_canBecome_42 : decode cX6_canBecome 42 = .ok (.bipush 9, 2) := by decide +kernel
theorem dX6_canBecome_44 : decode cX6_canBecome 44 = .ok (.invokestatic 53, 3) := by decide +kernel
theorem dX6_canBecome_47 : decode cX6_canBecome 47 = .ok (.ireturn, 1) := by decide +kernel
theorem dX6_canBecome_48 : decode cX6_canBecome 48 = .ok (.iload_n 1, 1) := by decide +kernel
theorem dX6_canBecome_49 : decode cX6_canBecome 49 = .ok (.iconst 0, 1) := by decide +kernel
theorem dX6_canBecome_50 : decode cX6_canBecome 50 = .ok (.sipush 9999, 3) := by decide +kernel
theorem dX6_canBecome_53 : decode cX6_canBecome 53 = .ok (.invokestatic 53, 3) := by decide +kernel
theorem dX6_canBecome_56 : decode cX6_canBecome 56 = .ok (.ireturn, 1) := by decide +kernel
theorem dX6_canBecome_57 : decode cX6_canBecome 57 = .ok (.iload_n 1, 1) := by decide +kernel
theorem dX6_canBecome_58 : decode cX6_canBecome 58 = .ok (.iconst 0, 1) := by decide +kernel
theorem dX6_canBecome_59 : decode cX6_canBecome 59 = .ok (.bipush 99, 2) := by decide +kernel
theorem dX6_canBecome_61 : decode cX6_canBecome 61 = .ok (.invokestatic 53, 3) := by decide +kernel
theorem dX6_canBecome_64 : decode cX6_canBecome 64 = .ok (.ireturn, 1) := by decide +kernel
theorem dX6_canBecome_65 : decode cX6_canBecome 65 = .ok (.iconst 0, 1) := by decide +kernel
theorem dX6_canBecome_66 : decode cX6_canBecome 66 = .ok (.ireturn, 1) := by decide +kernel
theorem dX6_isUnder_0 : decode cX6_isUnder 0 = .ok (.iload_n 0, 1) := by decide +kernel
theorem dX6_isUnder_1 : decode cX6_isUnder 1 = .ok (.istore_n 2, 1) := by decide +kernel
theorem dX6_isUnder_2 : decode cX6_isUnder 2 = .ok (.iconst 0, 1) := by decide +kernel
theorem dX6_isUnder_3 : decode cX6_isUnder 3 = .ok (.istore_n 3, 1) := by decide +kernel
theorem dX6_isUnder_4 : decode cX6_isUnder 4 = .ok (.iload_n 3, 1) := by decide +kernel
theorem dX6_isUnder_5 : decode cX6_isUnder 5 = .ok (.bipush 7, 2) := by decide +kernel
theorem dX6_isUnder_7 : decode cX6_isUnder 7 = .ok (.if_icmp .ge 32, 3) := by decide +kernel
theorem dX6_isUnder_10 : decode cX6_isUnder 10 = .ok (.iload_n 2, 1) := by decide +kernel
theorem dX6_isUnder_11 : decode cX6_isUnder 11 = .ok (.iconst 0, 1) := by decide +kernel
theorem dX6_isUnder_12 : decode cX6_isUnder 12 = .ok (.bipush 6, 2) := by decide +kernel
theorem dX6_isUnder_14 : decode cX6_isUnder 14 = .ok (.invokestatic 53, 3) := by decide +kernel
theorem dX6_isUnder_17 : decode cX6_isUnder 17 = .ok (.ifCond .eq 22, 3) := by decide +kernel
theorem dX6_isUnder_20 : decode cX6_isUnder 20 = .ok (.iload_n 2, 1) := by decide +kernel
theorem dX6_isUnder_21 : decode cX6_isUnder 21 = .ok (.iload_n 1, 1) := by decide +kernel
theorem dX6_isUnder_22 : decode cX6_isUnder 22 = .ok (.if_icmp .ne 5, 3) := by decide +kernel
theorem dX6_isUnder_25 : decode cX6_isUnder 25 = .ok (.iconst 1, 1) := by decide +kernel
theorem dX6_isUnder_26 : decode cX6_isUnder 26 = .ok (.ireturn, 1) := by decide +kernel
theorem dX6_isUnder_27 : decode cX6_isUnder 27 = .ok (.getstatic 274, 3) := by decide +kernel
theorem dX6_isUnder_30 : decode cX6_isUnder 30 = .ok (.iload_n 2, 1) := by decide +kernel
theorem dX6_isUnder_31 : decode cX6_isUnder 31 = .ok (.iaload, 1) := by decide +kernel
theorem dX6_isUnder_32 : decode cX6_isUnder 32 = .ok (.istore_n 2, 1) := by decide +kernel
theorem dX6_isUnder_33 : decode cX6_isUnder 33 = .ok (.iinc 3 1, 3) := by decide +kernel
theorem dX6_isUnder_36 : decode cX6_isUnder 36 = .ok (.goto (-32), 3) := by decide +kernel
theorem dX6_isUnder_39 : decode cX6_isUnder 39 = .ok (.iconst 0, 1) := by decide +kernel
theorem dX6_isUnder_40 : decode cX6_isUnder 40 = .ok (.ireturn, 1) := by decide +kernel
theorem dX6_commonDivisor_0 : decode cX6_commonDivisor 0 = .ok (.iload_n 0, 1) := by decide +kernel
theorem dX6_commonDivisor_1 : decode cX6_commonDivisor 1 = .ok (.invokestatic 277, 3) := by decide +kernel
theorem dX6_commonDivisor_4 : decode cX6_commonDivisor 4 = .ok (.istore_n 2, 1) := by decide +kernel
theorem dX6_commonDivisor_5 : decode cX6_commonDivisor 5 = .ok (.iload_n 1, 1) := by decide +kernel
theorem dX6_commonDivisor_6 : decode cX6_commonDivisor 6 = .ok (.invokestatic 277, 3) := by decide +kernel
theorem dX6_commonDivisor_9 : decode cX6_commonDivisor 9 = .ok (.istore_n 3, 1) := by decide +kernel
theorem dX6_commonDivisor_10 : decode cX6_commonDivisor 10 = .ok (.iconst 0, 1) := by decide +kernel
theorem dX6_commonDivisor_11 : decode cX6_commonDivisor 11 = .ok (.istore 4, 2) := by decide +kernel
theorem dX6_commonDivisor_13 : decode cX6_commonDivisor 13 = .ok (.iload 4, 2) := by decide +kernel
theorem dX6_commonDivisor_15 : decode cX6_commonDivisor 15 = .ok (.bipush 100, 2) := by decide +kernel
theorem dX6_commonDivisor_17 : decode cX6_commonDivisor 17 = .ok (.if_icmp .ge 23, 3) := by decide +kernel
theorem dX6_commonDivisor_20 : decode cX6_commonDivisor 20 = .ok (.iload_n 3, 1) := by decide +kernel
theorem dX6_commonDivisor_21 : decode cX6_commonDivisor 21 = .ok (.ifCond .le 19, 3) := by decide +kernel
theorem dX6_commonDivisor_24 : decode cX6_commonDivisor 24 = .ok (.iload_n 2, 1) := by decide +kernel
theorem dX6_commonDivisor_25 : decode cX6_commonDivisor 25 = .ok (.iload_n 3, 1) := by decide +kernel
theorem dX6_commonDivisor_26 : decode cX6_commonDivisor 26 = .ok (.irem, 1) := by decide +kernel
theorem dX6_commonDivisor_27 : decode cX6_commonDivisor 27 = .ok (.istore 5, 2) := by decide +kernel
theorem dX6_commonDivisor_29 : decode cX6_commonDivisor 29 = .ok (.iload_n 3, 1) := by decide +kernel
theorem dX6_commonDivisor_30 : decode cX6_commonDivisor 30 = .ok (.istore_n 2, 1) := by decide +kernel
theorem dX6_commonDivisor_31 : decode cX6_commonDivisor 31 = .ok (.iload 5, 2) := by decide +kernel
theorem dX6_commonDivisor_33 : decode cX6_commonDivisor 33 = .ok (.istore_n 3, 1) := by decide +kernel
theorem dX6_commonDivisor_34 : decode cX6_commonDivisor 34 = .ok (.iinc 4 1, 3) := by decide +kernel
theorem dX6_commonDivisor_37 : decode cX6_commonDivisor 37 = .ok (.goto (-24), 3) := by decide +kernel
theorem dX6_commonDivisor_40 : decode cX6_commonDivisor 40 = .ok (.iload_n 2, 1) := by decide +kernel
theorem dX6_commonDivisor_41 : decode cX6_commonDivisor 41 = .ok (.iconst 1, 1) := by decide +kernel
theorem dX6_commonDivisor_42 : decode cX6_commonDivisor 42 = .ok (.invokestatic 204, 3) := by decide +kernel
theorem dX6_commonDivisor_45 : decode cX6_commonDivisor 45 = .ok (.ireturn, 1) := by decide +kernel
theorem dX7_init_0 : decode cX7_init 0 = .ok (.aload_n 0, 1) := by decide +kernel
theorem dX7_init_1 : decode cX7_init 1 = .ok (.invokespecial 1, 3) := by decide +kernel
theorem dX7_init_4 : decode cX7_init 4 = .ok (.aload_n 0, 1) := by decide +kernel
theorem dX7_init_5 : decode cX7_init 5 = .ok (.sipush 132, 3) := by decide +kernel
theorem dX7_init_8 : decode cX7_init 8 = .ok (.newarray .int, 2) := by decide +kernel
theorem dX7_init_10 : decode cX7_init 10 = .ok (.putfield 7, 3) := by decide +kernel
theorem dX7_init_13 : decode cX7_init 13 = .ok (.aload_n 0, 1) := by decide +kernel
theorem dX7_init_14 : decode cX7_init 14 = .ok (.sipush 132, 3) := by decide +kernel
theorem dX7_init_17 : decode cX7_init 17 = .ok (.newarray .int, 2) := by decide +kernel
theorem dX7_init_19 : decode cX7_init 19 = .ok (.putfield 13, 3) := by decide +kernel
theorem dX7_init_22 : decode cX7_init 22 = .ok (.aload_n 0, 1) := by decide +kernel
theorem dX7_init_23 : decode cX7_init 23 = .ok (.sipush 132, 3) := by decide +kernel
theorem dX7_init_26 : decode cX7_init 26 = .ok (.newarray .int, 2) := by decide +kernel
theorem dX7_init_28 : decode cX7_init 28 = .ok (.putfield 16, 3) := by decide +kernel
theorem dX7_init_31 : decode cX7_init 31 = .ok (.aload_n 0, 1) := by decide +kernel
theorem dX7_init_32 : decode cX7_init 32 = .ok (.bipush 7, 2) := by decide +kernel
theorem dX7_init_34 : decode cX7_init 34 = .ok (.newarray .int, 2) := by decide +kernel
theorem dX7_init_36 : decode cX7_init 36 = .ok (.putfield 19, 3) := by decide +kernel
theorem dX7_init_39 : decode cX7_init 39 = .ok (.aload_n 0, 1) := by decide +kernel
theorem dX7_init_40 : decode cX7_init 40 = .ok (.bipush 120, 2) := by decide +kernel
theorem dX7_init_42 : decode cX7_init 42 = .ok (.newarray .byte, 2) := by decide +kernel
theorem dX7_init_44 : decode cX7_init 44 = .ok (.putfield 22, 3) := by decide +kernel
theorem dX7_init_47 : decode cX7_init 47 = .ok (.aload_n 0, 1) := by decide +kernel
theorem dX7_init_48 : decode cX7_init 48 = .ok (.iconst 4, 1) := by decide +kernel
theorem dX7_init_49 : decode cX7_init 49 = .ok (.newarray .int, 2) := by decide +kernel
theorem dX7_init_51 : decode cX7_init 51 = .ok (.putfield 26, 3) := by decide +kernel
theorem dX7_init_54 : decode cX7_init 54 = .ok (.aload_n 0, 1) := by decide +kernel
theorem dX7_init_55 : decode cX7_init 55 = .ok (.iconst 4, 1) := by decide +kernel
theorem dX7_init_56 : decode cX7_init 56 = .ok (.newarray .int, 2) := by decide +kernel
theorem dX7_init_58 : decode cX7_init 58 = .ok (.putfield 29, 3) := by decide +kernel
theorem dX7_init_61 : decode cX7_init 61 = .ok (.aload_n 0, 1) := by decide +kernel
theorem dX7_init_62 : decode cX7_init 62 = .ok (.sipush 160, 3) := by decide +kernel
theorem dX7_init_65 : decode cX7_init 65 = .ok (.newarray .int, 2) := by decide +kernel
theorem dX7_init_67 : decode cX7_init 67 = .ok (.putfield 32, 3) := by decide +kernel
theorem dX7_init_70 : decode cX7_init 70 = .ok (.aload_n 0, 1) := by decide +kernel
theorem dX7_init_71 : decode cX7_init 71 = .ok (.bipush 40, 2) := by decide +kernel
theorem dX7_init_73 : decode cX7_init 73 = .ok (.newarray .int, 2) := by decide +kernel
theorem dX7_init_75 : decode cX7_init 75 = .ok (.putfield 35, 3) := by decide +kernel
theorem dX7_init_78 : decode cX7_init 78 = .ok (.aload_n 0, 1) := by decide +kernel
theorem dX7_init_79 : decode cX7_init 79 = .ok (.getfield 7, 3) := by decide +kernel
theorem dX7_init_82 : decode cX7_init 82 = .ok (.iconst 1, 1) := by decide +kernel
theorem dX7_init_83 : decode cX7_init 83 = .ok (.iconst 5, 1) := by decide +kernel
theorem dX7_init_84 : decode cX7_init 84 = .ok (.iastore, 1) := by decide +kernel
theorem dX7_init_85 : decode cX7_init 85 = .ok (.aload_n 0, 1) := by decide +kernel
theorem dX7_init_86 : decode cX7_init 86 = .ok (.getfield 7, 3) := by decide +kernel
theorem dX7_init_89 : decode cX7_init 89 = .ok (.iconst 2, 1) := by decide +kernel
theorem dX7_init_90 : decode cX7_init 90 = .ok (.bipush 12, 2) := by decide +kernel
theorem dX7_init_92 : decode cX7_init 92 = .ok (.iastore, 1) := by decide +kernel
theorem dX7_init_93 : decode cX7_init 93 = .ok (.aload_n 0, 1) := by decide +kernel
theorem dX7_init_94 : decode cX7_init 94 = .ok (.getfield 7, 3) := by decide +kernel
theorem dX7_init_97 : decode cX7_init 97 = .ok (.iconst 3, 1) := by decide +kernel
theorem dX7_init_98 : decode cX7_init 98 = .ok (.bipush 12, 2) := by decide +kernel
theorem dX7_init_100 : decode cX7_init 100 = .ok (.iastore, 1) := by decide +kernel
theorem dX7_init_101 : decode cX7_init 101 = .ok (.aload_n 0, 1) := by decide +kernel
theorem dX7_init_102 : decode cX7_init 102 = .ok (.getfield 7, 3) := by decide +kernel
theorem dX7_init_105 : decode cX7_init 105 = .ok (.bipush 6, 2) := by decide +kernel
theorem dX7_init_107 : decode cX7_init 107 = .ok (.bipush 100, 2) := by decide +kernel
theorem dX7_init_109 : decode cX7_init 109 = .ok (.iastore, 1) := by decide +kernel
theorem dX7_init_110 : decode cX7_init 110 = .ok (.aload_n 0, 1) := by decide +kernel
theorem dX7_init_111 : decode cX7_init 111 = .ok (.getfield 7, 3) := by decide +kernel
theorem dX7_init_114 : decode cX7_init 114 = .ok (.bipush 10, 2) := by decide +kernel
theorem dX7_init_116 : decode cX7_init 116 = .ok (.iconst 1, 1) := by decide +kernel
theorem dX7_init_117 : decode cX7_init 117 = .ok (.iastore, 1) := by decide +kernel
theorem dX7_init_118 : decode cX7_init 118 = .ok (.iconst 0, 1) := by decide +kernel
theorem dX7_init_119 : decode cX7_init 119 = .ok (.istore_n 1, 1) := by decide +kernel
theorem dX7_init_120 : decode cX7_init 120 = .ok (.iload_n 1, 1) := by decide +kernel
theorem dX7_init_121 : decode cX7_init 121 = .ok (.bipush 10, 2) := by decide +kernel
theorem dX7_init_123 : decode cX7_init 123 = .ok (.if_icmp .ge 19, 3) := by decide +kernel
theorem dX7_init_126 : decode cX7_init 126 = .ok (.aload_n 0, 1) := by decide +kernel
theorem dX7_init_127 : decode cX7_init 127 = .ok (.getfield 7, 3) := by decide +kernel
theorem dX7_init_130 : decode cX7_init 130 = .ok (.bipush 122, 2) := by decide +kernel
theorem dX7_init_132 : decode cX7_init 132 = .ok (.iload_n 1, 1) := by decide +kernel
theorem dX7_init_133 : decode cX7_init 133 = .ok (.iadd, 1) := by decide +kernel
theorem dX7_init_134 : decode cX7_init 134 = .ok (.iconst (-1), 1) := by decide +kernel
theorem dX7_init_135 : decode cX7_init 135 = .ok (.iastore, 1) := by decide +kernel
theorem dX7_init_136 : decode cX7_init 136 = .ok (.iinc 1 1, 3) := by decide +kernel
theorem dX7_init_139 : decode cX7_init 139 = .ok (.goto (-19), 3) := by decide +kernel
theorem dX7_init_142 : decode cX7_init 142 = .ok (.return_, 1) := by decide +kernel
theorem dX7_finds_0 : decode cX7_finds 0 = .ok (.aload_n 0, 1) := by decide +kernel
theorem dX7_finds_1 : decode cX7_finds 1 = .ok (.getfield 19, 3) := by decide +kernel
theorem dX7_finds_4 : decode cX7_finds 4 = .ok (.iload_n 1, 1) := by decide +kernel
theorem dX7_finds_5 : decode cX7_finds 5 = .ok (.dup2, 1) := by decide +kernel
theorem dX7_finds_6 : decode cX7_finds 6 = .ok (.iaload, 1) := by decide +kernel
theorem dX7_finds_7 : decode cX7_finds 7 = .ok (.iconst 1, 1) := by decide +kernel
theorem dX7_finds_8 : decode cX7_finds 8 = .ok (.iadd, 1) := by decide +kernel
theorem dX7_finds_9 : decode cX7_finds 9 = .ok (.iastore, 1) := by decide +kernel
theorem dX7_finds_10 : decode cX7_finds 10 = .ok (.ldc 38, 2) := by decide +kernel
theorem dX7_finds_12 : decode cX7_finds 12 = .ok (.iload_n 1, 1) := by decide +kernel
theorem dX7_finds_13 : decode cX7_finds 13 = .ok (.isub, 1) := by decide +kernel
theorem dX7_finds_14 : decode cX7_finds 14 = .ok (.ireturn, 1) := by decide +kernel
theorem dX7_in_0 : decode cX7_in 0 = .ok (.lload_n 0, 1) := by decide +kernel
theorem dX7_in_1 : decode cX7_in 1 = .ok (.lload_n 2, 1) := by decide +kernel
theorem dX7_in_2 : decode cX7_in 2 = .ok (.lcmp, 1) := by decide +kernel
theorem dX7_in_3 : decode cX7_in 3 = .ok (.ifCond .lt 14, 3) := by decide +kernel
theorem dX7_in_6 : decode cX7_in 6 = .ok (.lload_n 0, 1) := by decide +kernel
theorem dX7_in_7 : decode cX7_in 7 = .ok (.lload 4, 2) := by decide +kernel
theorem dX7_in_9 : decode cX7_in 9 = .ok (.lcmp, 1) := by decide +kernel
theorem dX7_in_10 : decode cX7_in 10 = .ok (.ifCond .gt 7, 3) := by decide +kernel
theorem dX7_in_13 : decode cX7_in 13 = .ok (.iconst 1, 1) := by decide +kernel
theorem dX7_in_14 : decode cX7_in 14 = .ok (.goto 4, 3) := by decide +kernel
theorem dX7_in_17 : decode cX7_in 17 = .ok (.iconst 0, 1) := by decide +kernel
theorem dX7_in_18 : decode cX7_in 18 = .ok (.ireturn, 1) := by decide +kernel
theorem dX7_least_0 : decode cX7_least 0 = .ok (.iload_n 0, 1) := by decide +kernel
theorem dX7_least_1 : decode cX7_least 1 = .ok (.iload_n 1, 1) := by decide +kernel
theorem dX7_least_2 : decode cX7_least 2 = .ok (.if_icmp .ge 7, 3) := by decide +kernel
theorem dX7_least_5 : decode cX7_least 5 = .ok (.iload_n 0, 1) := by decide +kernel
theorem dX7_least_6 : decode cX7_least 6 = .ok (.goto 4, 3) := by decide +kernel
theorem dX7_least_9 : decode cX7_least 9 = .ok (.iload_n 1, 1) := by decide +kernel
theorem dX7_least_10 : decode cX7_least 10 = .ok (.ireturn, 1) := by decide +kernel
theorem dX7_copies_0 : decode cX7_copies 0 = .ok (.iconst 0, 1) := by decide +kernel
theorem dX7_copies_1 : decode cX7_copies 1 = .ok (.istore_n 2, 1) := by decide +kernel
theorem dX7_copies_2 : decode cX7_copies 2 = .ok (.iload_n 2, 1) := by decide +kernel
theorem dX7_copies_3 : decode cX7_copies 3 = .ok (.sipush 132, 3) := by decide +kernel
theorem dX7_copies_6 : decode cX7_copies 6 = .ok (.if_icmp .ge 15, 3) := by decide +kernel
theorem dX7_copies_9 : decode cX7_copies 9 = .ok (.aload_n 1, 1) := by decide +kernel
theorem dX7_copies_10 : decode cX7_copies 10 = .ok (.iload_n 2, 1) := by decide +kernel
theorem dX7_copies_11 : decode cX7_copies 11 = .ok (.aload_n 0, 1) := by decide +kernel
theorem dX7_copies_12 : decode cX7_copies 12 = .ok (.iload_n 2, 1) := by decide +kernel
theorem dX7_copies_13 : decode cX7_copies 13 = .ok (.iaload, 1) := by decide +kernel
theorem dX7_copies_14 : decode cX7_copies 14 = .ok (.iastore, 1) := by decide +kernel
theorem dX7_copies_15 : decode cX7_copies 15 = .ok (.iinc 2 1, 3) := by decide +kernel
theorem dX7_copies_18 : decode cX7_copies 18 = .ok (.goto (-16), 3) := by decide +kernel
theorem dX7_copies_21 : decode cX7_copies 21 = .ok (.return_, 1) := by decide +kernel
theorem dX7_isDrinker_0 : decode cX7_isDrinker 0 = .ok (.iload_n 1, 1) := by decide +kernel
theorem dX7_isDrinker_1 : decode cX7_isDrinker 1 = .ok (.i2l, 1) := by decide +kernel
theorem dX7_isDrinker_2 : decode cX7_isDrinker 2 = .ok (.lconst 0, 1) := by decide +kernel
theorem dX7_isDrinker_3 : decode cX7_isDrinker 3 = .ok (.aload_n 0, 1) := by decide +kernel
theorem dX7_isDrinker_4 : decode cX7_isDrinker 4 = .ok (.getfield 7, 3) := by decide +kernel
theorem dX7_isDrinker_7 : decode cX7_isDrinker 7 = .ok (.iconst 0, 1) := by decide +kernel
theorem dX7_isDrinker_8 : decode cX7_isDrinker 8 = .ok (.iaload, 1) := by decide +kernel
theorem dX7_isDrinker_9 : decode cX7_isDrinker 9 = .ok (.iconst 1, 1) := by decide +kernel
theorem dX7_isDrinker_10 : decode cX7_isDrinker 10 = .ok (.isub, 1) := by decide +kernel
theorem dX7_isDrinker_11 : decode cX7_isDrinker 11 = .ok (.i2l, 1) := by decide +kernel
theorem dX7_isDrinker_12 : decode cX7_isDrinker 12 = .ok (.invokestatic 39, 3) := by decide +kernel
theorem dX7_isDrinker_15 : decode cX7_isDrinker 15 = .ok (.ireturn, 1) := by decide +kernel
theorem dX7_its_0 : decode cX7_its 0 = .ok (.aload_n 0, 1) := by decide +kernel
theorem dX7_its_1 : decode cX7_its 1 = .ok (.getfield 7, 3) := by decide +kernel
theorem dX7_its_4 : decode cX7_its 4 = .ok (.bipush 12, 2) := by decide +kernel
theorem dX7_its_6 : decode cX7_its 6 = .ok (.bipush 7, 2) := by decide +kernel
theorem dX7_its_8 : decode cX7_its 8 = .ok (.iload_n 1, 1) := by decide +kernel
theorem dX7_its_9 : decode cX7_its 9 = .ok (.imul, 1) := by decide +kernel
theorem dX7_its_10 : decode cX7_its 10 = .ok (.iadd, 1) := by decide +kernel
theorem dX7_its_11 : decode cX7_its 11 = .ok (.iload_n 2, 1) := by decide +kernel
theorem dX7_its_12 : decode cX7_its 12 = .ok (.iadd, 1) := by decide +kernel
theorem dX7_its_13 : decode cX7_its 13 = .ok (.iaload, 1) := by decide +kernel
theorem dX7_its_14 : decode cX7_its 14 = .ok (.ireturn, 1) := by decide +kernel
theorem dX7_becomes_0 : decode cX7_becomes 0 = .ok (.aload_n 0, 1) := by decide +kernel
theorem dX7_becomes_1 : decode cX7_becomes 1 = .ok (.getfield 7, 3) := by decide +kernel
theorem dX7_becomes_4 : decode cX7_becomes 4 = .ok (.bipush 12, 2) := by decide +kernel
theorem dX7_becomes_6 : decode cX7_becomes 6 = .ok (.bipush 7, 2) := by decide +kernel
theorem dX7_becomes_8 : decode cX7_becomes 8 = .ok (.iload_n 1, 1) := by decide +kernel
theorem dX7_becomes_9 : decode cX7_becomes 9 = .ok (.imul, 1) := by decide +kernel
theorem dX7_becomes_10 : decode cX7_becomes 10 = .ok (.iadd, 1) := by decide +kernel
theorem dX7_becomes_11 : decode cX7_becomes 11 = .ok (.iload_n 2, 1) := by decide +kernel
theorem dX7_becomes_12 : decode cX7_becomes 12 = .ok (.iadd, 1) := by decide +kernel
theorem dX7_becomes_13 : decode cX7_becomes 13 = .ok (.iload_n 3, 1) := by decide +kernel
theorem dX7_becomes_14 : decode cX7_becomes 14 = .ok (.iastore, 1) := by decide +kernel
theorem dX7_becomes_15 : decode cX7_becomes 15 = .ok (.return_, 1) := by decide +kernel
theorem dX7_comes_0 : decode cX7_comes 0 = .ok (.aload_n 0, 1) := by decide +kernel
theorem dX7_comes_1 : decode cX7_comes 1 = .ok (.getfield 7, 3) := by decide +kernel
theorem dX7_comes_4 : decode cX7_comes 4 = .ok (.iconst 0, 1) := by decide +kernel
theorem dX7_comes_5 : decode cX7_comes 5 = .ok (.iaload, 1) := by decide +kernel
theorem dX7_comes_6 : decode cX7_comes 6 = .ok (.istore 5, 2) := by decide +kernel
theorem dX7_comes_8 : decode cX7_comes 8 = .ok (.aload_n 0, 1) := by decide +kernel
theorem dX7_comes_9 : decode cX7_comes 9 = .ok (.iload 5, 2) := by decide +kernel
theorem dX7_comes_11 : decode cX7_comes 11 = .ok (.iconst 0, 1) := by decide +kernel
theorem dX7_comes_12 : decode cX7_comes 12 = .ok (.iload_n 1, 1) := by decide +kernel
theorem dX7_comes_13 : decode cX7_comes 13 = .ok (.invokevirtual 43, 3) := by decide +kernel
theorem dX7_comes_16 : decode cX7_comes 16 = .ok (.aload_n 0, 1) := by decide +kernel
theorem dX7_comes_17 : decode cX7_comes 17 = .ok (.iload 5, 2) := by decide +kernel
theorem dX7_comes_19 : decode cX7_comes 19 = .ok (.iconst 1, 1) := by decide +kernel
theorem dX7_comes_20 : decode cX7_comes 20 = .ok (.iload_n 2, 1) := by decide +kernel
theorem dX7_comes_21 : decode cX7_comes 21 = .ok (.invokevirtual 43, 3) := by decide +kernel
theorem dX7_comes_24 : decode cX7_comes 24 = .ok (.aload_n 0, 1) := by decide +kernel
theorem dX7_comes_25 : decode cX7_comes 25 = .ok (.iload 5, 2) := by decide +kernel
theorem dX7_comes_27 : decode cX7_comes 27 = .ok (.iconst 2, 1) := by decide +kernel
theorem dX7_comes_28 : decode cX7_comes 28 = .ok (.iload_n 3, 1) := by decide +kernel
theorem dX7_comes_29 : decode cX7_comes 29 = .ok (.invokevirtual 43, 3) := by decide +kernel
theorem dX7_comes_32 : decode cX7_comes 32 = .ok (.aload_n 0, 1) := by decide +kernel
theorem dX7_comes_33 : decode cX7_comes 33 = .ok (.iload 5, 2) := by decide +kernel
theorem dX7_comes_35 : decode cX7_comes 35 = .ok (.iconst 3, 1) := by decide +kernel
theorem dX7_comes_36 : decode cX7_comes 36 = .ok (.iload 4, 2) := by decide +kernel
theorem dX7_comes_38 : decode cX7_comes 38 = .ok (.invokevirtual 43, 3) := by decide +kernel
theorem dX7_comes_41 : decode cX7_comes 41 = .ok (.aload_n 0, 1) := by decide +kernel
theorem dX7_comes_42 : decode cX7_comes 42 = .ok (.iload 5, 2) := by decide +kernel
theorem dX7_comes_44 : decode cX7_comes 44 = .ok (.iconst 4, 1) := by decide +kernel
theorem dX7_comes_45 : decode cX7_comes 45 = .ok (.iconst 0, 1) := by decide +kernel
theorem dX7_comes_46 : decode cX7_comes 46 = .ok (.invokevirtual 43, 3) := by decide +kernel
theorem dX7_comes_49 : decode cX7_comes 49 = .ok (.aload_n 0, 1) := by decide +kernel
theorem dX7_comes_50 : decode cX7_comes 50 = .ok (.iload 5, 2) := by decide +kernel
theorem dX7_comes_52 : decode cX7_comes 52 = .ok (.iconst 5, 1) := by decide +kernel
theorem dX7_comes_53 : decode cX7_comes 53 = .ok (.iconst 0, 1) := by decide +kernel
theorem dX7_comes_54 : decode cX7_comes 54 = .ok (.invokevirtual 43, 3) := by decide +kernel
theorem dX7_comes_57 : decode cX7_comes 57 = .ok (.aload_n 0, 1) := by decide +kernel
theorem dX7_comes_58 : decode cX7_comes 58 = .ok (.iload 5, 2) := by decide +kernel
theorem dX7_comes_60 : decode cX7_comes 60 = .ok (.bipush 6, 2) := by decide +kernel
theorem dX7_comes_62 : decode cX7_comes 62 = .ok (.iconst 0, 1) := by decide +kernel
theorem dX7_comes_63 : decode cX7_comes 63 = .ok (.invokevirtual 43, 3) := by decide +kernel
theorem dX7_comes_66 : decode cX7_comes 66 = .ok (.aload_n 0, 1) := by decide +kernel
theorem dX7_comes_67 : decode cX7_comes 67 = .ok (.getfield 7, 3) := by decide +kernel
theorem dX7_comes_70 : decode cX7_comes 70 = .ok (.iconst 0, 1) := by decide +kernel
theorem dX7_comes_71 : decode cX7_comes 71 = .ok (.dup2, 1) := by decide +kernel
theorem dX7_comes_72 : decode cX7_comes 72 = .ok (.iaload, 1) := by decide +kernel
theorem dX7_comes_73 : decode cX7_comes 73 = .ok (.iconst 1, 1) := by decide +kernel
theorem dX7_comes_74 : decode cX7_comes 74 = .ok (.iadd, 1) := by decide +kernel
theorem dX7_comes_75 : decode cX7_comes 75 = .ok (.iastore, 1) := by decide +kernel
theorem dX7_comes_76 : decode cX7_comes 76 = .ok (.iload 5, 2) := by decide +kernel
theorem dX7_comes_78 : decode cX7_comes 78 = .ok (.ireturn, 1) := by decide +kernel
theorem dX7_drinker_0 : decode cX7_drinker 0 = .ok (.iload_n 1, 1) := by decide +kernel
theorem dX7_drinker_1 : decode cX7_drinker 1 = .ok (.i2l, 1) := by decide +kernel
theorem dX7_drinker_2 : decode cX7_drinker 2 = .ok (.lconst 0, 1) := by decide +kernel
theorem dX7_drinker_3 : decode cX7_drinker 3 = .ok (.ldc2_w 47, 3) := by decide +kernel
theorem dX7_drinker_6 : decode cX7_drinker 6 = .ok (.invokestatic 39, 3) := by decide +kernel
theorem dX7_drinker_9 : decode cX7_drinker 9 = .ok (.ifCond .eq 15, 3) := by decide +kernel
theorem dX7_drinker_12 : decode cX7_drinker 12 = .ok (.iload_n 2, 1) := by decide +kernel
theorem dX7_drinker_13 : decode cX7_drinker 13 = .ok (.i2l, 1) := by decide +kernel
theorem dX7_drinker_14 : decode cX7_drinker 14 = .ok (.lconst 1, 1) := by decide +kernel
theorem dX7_drinker_15 : decode cX7_drinker 15 = .ok (.ldc2_w 49, 3) := by decide +kernel
theorem dX7_drinker_18 : decode cX7_drinker 18 = .ok (.invokestatic 39, 3) := by decide +kernel
theorem dX7_drinker_21 : decode cX7_drinker 21 = .ok (.ifCond .ne 9, 3) := by decide +kernel
theorem dX7_drinker_24 : decode cX7_drinker 24 = .ok (.aload_n 0, 1) := by decide +kernel
theorem dX7_drinker_25 : decode cX7_drinker 25 = .ok (.iconst 0, 1) := by decide +kernel
theorem dX7_drinker_26 : decode cX7_drinker 26 = .ok (.invokevirtual 51, 3) := by decide +kernel
theorem dX7_drinker_29 : decode cX7_drinker 29 = .ok (.ireturn, 1) := by decide +kernel
theorem dX7_drinker_30 : decode cX7_drinker 30 = .ok (.aload_n 0, 1) := by decide +kernel
theorem dX7_drinker_31 : decode cX7_drinker 31 = .ok (.getfield 7, 3) := by decide +kernel
theorem dX7_drinker_34 : decode cX7_drinker 34 = .ok (.iconst 0, 1) := by decide +kernel
theorem dX7_drinker_35 : decode cX7_drinker 35 = .ok (.iaload, 1) := by decide +kernel
theorem dX7_drinker_36 : decode cX7_drinker 36 = .ok (.bipush 10, 2) := by decide +kernel
theorem dX7_drinker_38 : decode cX7_drinker 38 = .ok (.if_icmp .ne 11, 3) := by decide +kernel
theorem dX7_drinker_41 : decode cX7_drinker 41 = .ok (.aload_n 0, 1) := by decide +kernel
theorem dX7_drinker_42 : decode cX7_drinker 42 = .ok (.iconst 1, 1) := by decide +kernel
theorem dX7_drinker_43 : decode cX7_drinker 43 = .ok (.invokevirtual 51, 3) := by decide +kernel
theorem dX7_drinker_46 : decode cX7_drinker 46 = .ok (.goto 14, 3) := by decide +kernel
theorem dX7_drinker_49 : decode cX7_drinker 49 = .ok (.aload_n 0, 1) := by decide +kernel
theorem dX7_drinker_50 : decode cX7_drinker 50 = .ok (.iload_n 1, 1) := by decide +kernel
theorem dX7_drinker_51 : decode cX7_drinker 51 = .ok (.iload_n 2, 1) := by decide +kernel
theorem dX7_drinker_52 : decode cX7_drinker 52 = .ok (.sipush 200, 3) := by decide +kernel
theorem dX7_drinker_55 : decode cX7_drinker 55 = .ok (.bipush 20, 2) := by decide +kernel
theorem dX7_drinker_57 : decode cX7_drinker 57 = .ok (.invokevirtual 55, 3) := by decide +kernel
theorem dX7_drinker_60 : decode cX7_drinker 60 = .ok (.ireturn, 1) := by decide +kernel
theorem dX7_of_0 : decode cX7_of 0 = .ok (.aload_n 0, 1) := by decide +kernel
theorem dX7_of_1 : decode cX7_of 1 = .ok (.iload_n 1, 1) := by decide +kernel
theorem dX7_of_2 : decode cX7_of 2 = .ok (.invokevirtual 59, 3) := by decide +kernel
theorem dX7_of_5 : decode cX7_of 5 = .ok (.ifCond .eq 24, 3) := by decide +kernel
theorem dX7_of_8 : decode cX7_of 8 = .ok (.iload_n 2, 1) := by decide +kernel
theorem dX7_of_9 : decode cX7_of 9 = .ok (.i2l, 1) := by decide +kernel
theorem dX7_of_10 : decode cX7_of 10 = .ok (.lconst 0, 1) := by decide +kernel
theorem dX7_of_11 : decode cX7_of 11 = .ok (.ldc2_w 47, 3) := by decide +kernel
theorem dX7_of_14 : decode cX7_of 14 = .ok (.invokestatic 39, 3) := by decide +kernel
theorem dX7_of_17 : decode cX7_of 17 = .ok (.ifCond .eq 12, 3) := by decide +kernel
theorem dX7_of_20 : decode cX7_of 20 = .ok (.aload_n 0, 1) := by decide +kernel
theorem dX7_of_21 : decode cX7_of 21 = .ok (.iload_n 1, 1) := by decide +kernel
theorem dX7_of_22 : decode cX7_of 22 = .ok (.iload_n 2, 1) := by decide +kernel
theorem dX7_of_23 : decode cX7_of 23 = .ok (.invokevirtual 63, 3) := by decide +kernel
theorem dX7_of_26 : decode cX7_of 26 = .ok (.goto 8, 3) := by decide +kernel
theorem dX7_of_29 : decode cX7_of 29 = .ok (.aload_n 0, 1) := by decide +kernel
theorem dX7_of_30 : decode cX7_of 30 = .ok (.iconst 0, 1) := by decide +kernel
theorem dX7_of_31 : decode cX7_of 31 = .ok (.invokevirtual 51, 3) := by decide +kernel
theorem dX7_of_34 : decode cX7_of 34 = .ok (.ireturn, 1) := by decide +kernel
theorem dX7_change_0 : decode cX7_change 0 = .ok (.iload_n 2, 1) := by decide +kernel
theorem dX7_change_1 : decode cX7_change 1 = .ok (.ifCond .ne 15, 3) := by decide +kernel
theorem dX7_change_4 : decode cX7_change 4 = .ok (.iload_n 3, 1) := by decide +kernel
theorem dX7_change_5 : decode cX7_change 5 = .ok (.i2l, 1) := by decide +kernel
theorem dX7_change_6 : decode cX7_change 6 = .ok (.lconst 0, 1) := by decide +kernel
theorem dX7_change_7 : decode cX7_change 7 = .ok (.ldc2_w 47, 3) := by decide +kernel
theorem dX7_change_10 : decode cX7_change 10 = .ok (.invokestatic 39, 3) := by decide +kernel
theorem dX7_change_13 : decode cX7_change 13 = .ok (.goto 59, 3) := by decide +kernel
theorem dX7_change_16 : decode cX7_change 16 = .ok (.iload_n 2, 1) := by decide +kernel
theorem dX7_change_17 : decode cX7_change 17 = .ok (.iconst 1, 1) := by decide +kernel
theorem dX7_change_18 : decode cX7_change 18 = .ok (.if_icmp .ne 15, 3) := by decide +kernel
theorem dX7_change_21 : decode cX7_change 21 = .ok (.iload_n 3, 1) := by decide +kernel
theorem dX7_change_22 : decode cX7_change 22 = .ok (.i2l, 1) := by decide +kernel
theorem dX7_change_23 : decode cX7_change 23 = .ok (.lconst 1, 1) := by decide +kernel
theorem dX7_change_24 : decode cX7_change 24 = .ok (.ldc2_w 49, 3) := by decide +kernel
theorem dX7_change_27 : decode cX7_change 27 = .ok (.invokestatic 39, 3) := by decide +kernel
theorem dX7_change_30 : decode cX7_change 30 = .ok (.goto 42, 3) := by decide +kernel
theorem dX7_change_33 : decode cX7_change 33 = .ok (.iload_n 2, 1) := by decide +kernel
theorem dX7_change_34 : decode cX7_change 34 = .ok (.iconst 2, 1) := by decide +kernel
theorem dX7_change_35 : decode cX7_change 35 = .ok (.if_icmp .ne 15, 3) := by decide +kernel
theorem dX7_change_38 : decode cX7_change 38 = .ok (.iload_n 3, 1) := by decide +kernel
theorem dX7_change_39 : decode cX7_change 39 = .ok (.i2l, 1) := by decide +kernel
theorem dX7_change_40 : decode cX7_change 40 = .ok (.lconst 0, 1) := by decide +kernel
theorem dX7_change_41 : decode cX7_change 41 = .ok (.ldc2_w 67, 3) := by decide +kernel
theorem dX7_change_44 : decode cX7_change 44 = .ok (.invokestatic 39, 3) := by decide +kernel
theorem dX7_change_47 : decode cX7_change 47 = .ok (.goto 25, 3) := by decide +kernel
theorem dX7_change_50 : decode cX7_change 50 = .ok (.iload_n 2, 1) := by decide +kernel
theorem dX7_change_51 : decode cX7_change 51 = .ok (.iconst 3, 1) := by decide +kernel
theorem dX7_change_52 : decode cX7_change 52 = .ok (.if_icmp .ne 19, 3) := by decide +kernel
theorem dX7_change_55 : decode cX7_change 55 = .ok (.iload_n 3, 1) := by decide +kernel
theorem dX7_change_56 : decode cX7_change 56 = .ok (.i2l, 1) := by decide +kernel
theorem dX7_change_57 : decode cX7_change 57 = .ok (.lconst 0, 1) := by decide +kernel
theorem dX7_change_58 : decode cX7_change 58 = .ok (.ldc2_w 69, 3) := by decide +kernel
theorem dX7_change_61 : decode cX7_change 61 = .ok (.invokestatic 39, 3) := by decide +kernel
theorem dX7_change_64 : decode cX7_change 64 = .ok (.ifCond .eq 7, 3) := by decide +kernel
theorem dX7_change_67 : decode cX7_change 67 = .ok (.iconst 1, 1) := by decide +kernel
theorem dX7_change_68 : decode cX7_change 68 = .ok (.goto 4, 3) := by decide +kernel
theorem dX7_change_71 : decode cX7_change 71 = .ok (.iconst 0, 1) := by decide +kernel
theorem dX7_change_72 : decode cX7_change 72 = .ok (.istore 4, 2) := by decide +kernel
theorem dX7_change_74 : decode cX7_change 74 = .ok (.aload_n 0, 1) := by decide +kernel
theorem dX7_change_75 : decode cX7_change 75 = .ok (.iload_n 1, 1) := by decide +kernel
theorem dX7_change_76 : decode cX7_change 76 = .ok (.invokevirtual 59, 3) := by decide +kernel
theorem dX7_change_79 : decode cX7_change 79 = .ok (.ifCond .eq 8, 3) := by decide +kernel
theorem dX7_change_82 : decode cX7_change 82 = .ok (.iload 4, 2) := by decide +kernel
theorem dX7_change_84 : decode cX7_change 84 = .ok (.ifCond .ne 9, 3) := by decide +kernel
theorem dX7_change_87 : decode cX7_change 87 = .ok (.aload_n 0, 1) := by decide +kernel
theorem dX7_change_88 : decode cX7_change 88 = .ok (.iconst 0, 1) := by decide +kernel
theorem dX7_change_89 : decode cX7_change 89 = .ok (.invokevirtual 51, 3) := by decide +kernel
theorem dX7_change_92 : decode cX7_change 92 = .ok (.ireturn, 1) := by decide +kernel
theorem dX7_change_93 : decode cX7_change 93 = .ok (.aload_n 0, 1) := by decide +kernel
theorem dX7_change_94 : decode cX7_change 94 = .ok (.iload_n 1, 1) := by decide +kernel
theorem dX7_change_95 : decode cX7_change 95 = .ok (.iload_n 2, 1) := by decide +kernel
theorem dX7_change_96 : decode cX7_change 96 = .ok (.invokevirtual 63, 3) := by decide +kernel
theorem dX7_change_99 : decode cX7_change 99 = .ok (.istore 5, 2) := by decide +kernel
theorem dX7_change_101 : decode cX7_change 101 = .ok (.aload_n 0, 1) := by decide +kernel
theorem dX7_change_102 : decode cX7_change 102 = .ok (.iload_n 1, 1) := by decide +kernel
theorem dX7_change_103 : decode cX7_change 103 = .ok (.iload_n 2, 1) := by decide +kernel
theorem dX7_change_104 : decode cX7_change 104 = .ok (.iload_n 3, 1) := by decide +kernel
theorem dX7_change_105 : decode cX7_change 105 = .ok (.invokevirtual 43, 3) := by decide +kernel
theorem dX7_change_108 : decode cX7_change 108 = .ok (.iload 5, 2) := by decide +kernel
theorem dX7_change_110 : decode cX7_change 110 = .ok (.ireturn, 1) := by decide +kernel
theorem dX7_room_0 : decode cX7_room 0 = .ok (.iload_n 1, 1) := by decide +kernel
theorem dX7_room_1 : decode cX7_room 1 = .ok (.ifCond .ne 15, 3) := by decide +kernel
theorem dX7_room_4 : decode cX7_room 4 = .ok (.iload_n 2, 1) := by decide +kernel
theorem dX7_room_5 : decode cX7_room 5 = .ok (.i2l, 1) := by decide +kernel
theorem dX7_room_6 : decode cX7_room 6 = .ok (.lconst 0, 1) := by decide +kernel
theorem dX7_room_7 : decode cX7_room 7 = .ok (.ldc2_w 69, 3) := by decide +kernel
theorem dX7_room_10 : decode cX7_room 10 = .ok (.invokestatic 39, 3) := by decide +kernel
theorem dX7_room_13 : decode cX7_room 13 = .ok (.goto 42, 3) := by decide +kernel
theorem dX7_room_16 : decode cX7_room 16 = .ok (.iload_n 1, 1) := by decide +kernel
theorem dX7_room_17 : decode cX7_room 17 = .ok (.iconst 1, 1) := by decide +kernel
theorem dX7_room_18 : decode cX7_room 18 = .ok (.if_icmp .ne 15, 3) := by decide +kernel
theorem dX7_room_21 : decode cX7_room 21 = .ok (.iload_n 2, 1) := by decide +kernel
theorem dX7_room_22 : decode cX7_room 22 = .ok (.i2l, 1) := by decide +kernel
theorem dX7_room_23 : decode cX7_room 23 = .ok (.lconst 1, 1) := by decide +kernel
theorem dX7_room_24 : decode cX7_room 24 = .ok (.ldc2_w 69, 3) := by decide +kernel
theorem dX7_room_27 : decode cX7_room 27 = .ok (.invokestatic 39, 3) := by decide +kernel
theorem dX7_room_30 : decode cX7_room 30 = .ok (.goto 25, 3) := by decide +kernel
theorem dX7_room_33 : decode cX7_room 33 = .ok (.iload_n 1, 1) := by decide +kernel
theorem dX7_room_34 : decode cX7_room 34 = .ok (.iconst 2, 1) := by decide +kernel
theorem dX7_room_35 : decode cX7_room 35 = .ok (.if_icmp .ne 19, 3) := by decide +kernel
theorem dX7_room_38 : decode cX7_room 38 = .ok (.iload_n 2, 1) := by decide +kernel
theorem dX7_room_39 : decode cX7_room 39 = .ok (.i2l, 1) := by decide +kernel
theorem dX7_room_40 : decode cX7_room 40 = .ok (.lconst 0, 1) := by decide +kernel
theorem dX7_room_41 : decode cX7_room 41 = .ok (.ldc2_w 71, 3) := by decide +kernel
theorem dX7_room_44 : decode cX7_room 44 = .ok (.invokestatic 39, 3) := by decide +kernel
theorem dX7_room_47 : decode cX7_room 47 = .ok (.ifCond .eq 7, 3) := by decide +kernel
theorem dX7_room_50 : decode cX7_room 50 = .ok (.iconst 1, 1) := by decide +kernel
theorem dX7_room_51 : decode cX7_room 51 = .ok (.goto 4, 3) := by decide +kernel
theorem dX7_room_54 : decode cX7_room 54 = .ok (.iconst 0, 1) := by decide +kernel
theorem dX7_room_55 : decode cX7_room 55 = .ok (.istore_n 3, 1) := by decide +kernel
theorem dX7_room_56 : decode cX7_room 56 = .ok (.iload_n 3, 1) := by decide +kernel
theorem dX7_room_57 : decode cX7_room 57 = .ok (.ifCond .ne 9, 3) := by decide +kernel
theorem dX7_room_60 : decode cX7_room 60 = .ok (.aload_n 0, 1) := by decide +kernel
theorem dX7_room_61 : decode cX7_room 61 = .ok (.iconst 0, 1) := by decide +kernel
theorem dX7_room_62 : decode cX7_room 62 = .ok (.invokevirtual 51, 3) := by decide +kernel
theorem dX7_room_65 : decode cX7_room 65 = .ok (.ireturn, 1) := by decide +kernel
theorem dX7_room_66 : decode cX7_room 66 = .ok (.iload_n 1, 1) := by decide +kernel
theorem dX7_room_67 : decode cX7_room 67 = .ok (.ifCond .ne 7, 3) := by decide +kernel
theorem dX7_room_70 : decode cX7_room 70 = .ok (.iconst 1, 1) := by decide +kernel
theorem dX7_room_71 : decode cX7_room 71 = .ok (.goto 13, 3) := by decide +kernel
theorem dX7_room_74 : decode cX7_room 74 = .ok (.iload_n 1, 1) := by decide +kernel
theorem dX7_room_75 : decode cX7_room 75 = .ok (.iconst 1, 1) := by decide +kernel
theorem dX7_room_76 : decode cX7_room 76 = .ok (.if_icmp .ne 7, 3) := by decide +kernel
theorem dX7_room_79 : decode cX7_room 79 = .ok (.iconst 2, 1) := by decide +kernel
theorem dX7_room_80 : decode cX7_room 80 = .ok (.goto 4, 3) := by decide +kernel
theorem dX7_room_83 : decode cX7_room 83 = .ok (.iconst 5, 1) := by decide +kernel
theorem dX7_room_84 : decode cX7_room 84 = .ok (.istore 4, 2) := by decide +kernel
theorem dX7_room_86 : decode cX7_room 86 = .ok (.aload_n 0, 1) := by decide +kernel
theorem dX7_room_87 : decode cX7_room 87 = .ok (.getfield 7, 3) := by decide +kernel
theorem dX7_room_90 : decode cX7_room 90 = .ok (.iload 4, 2) := by decide +kernel
theorem dX7_room_92 : decode cX7_room 92 = .ok (.iaload, 1) := by decide +kernel
theorem dX7_room_93 : decode cX7_room 93 = .ok (.istore 5, 2) := by decide +kernel
theorem dX7_room_95 : decode cX7_room 95 = .ok (.aload_n 0, 1) := by decide +kernel
theorem dX7_room_96 : decode cX7_room 96 = .ok (.getfield 7, 3) := by decide +kernel
theorem dX7_room_99 : decode cX7_room 99 = .ok (.iload 4, 2) := by decide +kernel
theorem dX7_room_101 : decode cX7_room 101 = .ok (.iload_n 2, 1) := by decide +kernel
theorem dX7_room_102 : decode cX7_room 102 = .ok (.iastore, 1) := by decide +kernel
theorem dX7_room_103 : decode cX7_room 103 = .ok (.aload_n 0, 1) := by decide +kernel
theorem dX7_room_104 : decode cX7_room 104 = .ok (.getfield 7, 3) := by decide +kernel
theorem dX7_room_107 : decode cX7_room 107 = .ok (.iconst 3, 1) := by decide +kernel
theorem dX7_room_108 : decode cX7_room 108 = .ok (.iload_n 1, 1) := by decide +kernel
theorem dX7_room_109 : decode cX7_room 109 = .ok (.iconst 1, 1) := by decide +kernel
theorem dX7_room_110 : decode cX7_room 110 = .ok (.if_icmp .ne 7, 3) := by decide +kernel
theorem dX7_room_113 : decode cX7_room 113 = .ok (.iload_n 2, 1) := by decide +kernel
theorem dX7_room_114 : decode cX7_room 114 = .ok (.goto 9, 3) := by decide +kernel
theorem dX7_room_117 : decode cX7_room 117 = .ok (.aload_n 0, 1) := by decide +kernel
theorem dX7_room_118 : decode cX7_room 118 = .ok (.getfield 7, 3) := by decide +kernel
theorem dX7_room_121 : decode cX7_room 121 = .ok (.iconst 3, 1) := by decide +kernel
theorem dX7_room_122 : decode cX7_room 122 = .ok (.iaload, 1) := by decide +kernel
theorem dX7_room_123 : decode cX7_room 123 = .ok (.iastore, 1) := by decide +kernel
theorem dX7_room_124 : decode cX7_room 124 = .ok (.iload 5, 2) := by decide +kernel
theorem dX7_room_126 : decode cX7_room 126 = .ok (.ireturn, 1) := by decide +kernel
theorem dX7_empty_0 : decode cX7_empty 0 = .ok (.aload_n 0, 1) := by decide +kernel
theorem dX7_empty_1 : decode cX7_empty 1 = .ok (.getfield 7, 3) := by decide +kernel
theorem dX7_empty_4 : decode cX7_empty 4 = .ok (.iconst 4, 1) := by decide +kernel
theorem dX7_empty_5 : decode cX7_empty 5 = .ok (.iaload, 1) := by decide +kernel
theorem dX7_empty_6 : decode cX7_empty 6 = .ok (.istore_n 1, 1) := by decide +kernel
theorem dX7_empty_7 : decode cX7_empty 7 = .ok (.aload_n 0, 1) := by decide +kernel
theorem dX7_empty_8 : decode cX7_empty 8 = .ok (.getfield 7, 3) := by decide +kernel
theorem dX7_empty_11 : decode cX7_empty 11 = .ok (.iconst 4, 1) := by decide +kernel
theorem dX7_empty_12 : decode cX7_empty 12 = .ok (.iconst 0, 1) := by decide +kernel
theorem dX7_empty_13 : decode cX7_empty 13 = .ok (.iastore, 1) := by decide +kernel
theorem dX7_empty_14 : decode cX7_empty 14 = .ok (.iload_n 1, 1) := by decide +kernel
theorem dX7_empty_15 : decode cX7_empty 15 = .ok (.ireturn, 1) := by decide +kernel
theorem dX7_taken_0 : decode cX7_taken 0 = .ok (.iload_n 1, 1) := by decide +kernel
theorem dX7_taken_1 : decode cX7_taken 1 = .ok (.i2l, 1) := by decide +kernel
theorem dX7_taken_2 : decode cX7_taken 2 = .ok (.lconst 1, 1) := by decide +kernel
theorem dX7_taken_3 : decode cX7_taken 3 = .ok (.ldc2_w 73, 3) := by decide +kernel
theorem dX7_taken_6 : decode cX7_taken 6 = .ok (.invokestatic 39, 3) := by decide +kernel
theorem dX7_taken_9 : decode cX7_taken 9 = .ok (.ifCond .ne 9, 3) := by decide +kernel
theorem dX7_taken_12 : decode cX7_taken 12 = .ok (.aload_n 0, 1) := by decide +kernel
theorem dX7_taken_13 : decode cX7_taken 13 = .ok (.iconst 0, 1) := by decide +kernel
theorem dX7_taken_14 : decode cX7_taken 14 = .ok (.invokevirtual 51, 3) := by decide +kernel
theorem dX7_taken_17 : decode cX7_taken 17 = .ok (.ireturn, 1) := by decide +kernel
theorem dX7_taken_18 : decode cX7_taken 18 = .ok (.iload_n 1, 1) := by decide +kernel
theorem dX7_taken_19 : decode cX7_taken 19 = .ok (.aload_n 0, 1) := by decide +kernel
theorem dX7_taken_20 : decode cX7_taken 20 = .ok (.getfield 7, 3) := by decide +kernel
theorem dX7_taken_23 : decode cX7_taken 23 = .ok (.iconst 4, 1) := by decide +kernel
theorem dX7_taken_24 : decode cX7_taken 24 = .ok (.iaload, 1) := by decide +kernel
theorem dX7_taken_25 : decode cX7_taken 25 = .ok (.invokestatic 75, 3) := by decide +kernel
theorem dX7_taken_28 : decode cX7_taken 28 = .ok (.istore_n 2, 1) := by decide +kernel
theorem dX7_taken_29 : decode cX7_taken 29 = .ok (.aload_n 0, 1) := by decide +kernel
theorem dX7_taken_30 : decode cX7_taken 30 = .ok (.getfield 7, 3) := by decide +kernel
theorem dX7_taken_33 : decode cX7_taken 33 = .ok (.iconst 4, 1) := by decide +kernel
theorem dX7_taken_34 : decode cX7_taken 34 = .ok (.dup2, 1) := by decide +kernel
theorem dX7_taken_35 : decode cX7_taken 35 = .ok (.iaload, 1) := by decide +kernel
theorem dX7_taken_36 : decode cX7_taken 36 = .ok (.iload_n 2, 1) := by decide +kernel
theorem dX7_taken_37 : decode cX7_taken 37 = .ok (.isub, 1) := by decide +kernel
theorem dX7_taken_38 : decode cX7_taken 38 = .ok (.iastore, 1) := by decide +kernel
theorem dX7_taken_39 : decode cX7_taken 39 = .ok (.iload_n 2, 1) := by decide +kernel
theorem dX7_taken_40 : decode cX7_taken 40 = .ok (.ireturn, 1) := by decide +kernel
theorem dX7_forgive_0 : decode cX7_forgive 0 = .ok (.aload_n 0, 1) := by decide +kernel
theorem dX7_forgive_1 : decode cX7_forgive 1 = .ok (.iload_n 1, 1) := by decide +kernel
theorem dX7_forgive_2 : decode cX7_forgive 2 = .ok (.invokevirtual 59, 3) := by decide +kernel
theorem dX7_forgive_5 : decode cX7_forgive 5 = .ok (.ifCond .ne 9, 3) := by decide +kernel
theorem dX7_forgive_8 : decode cX7_forgive 8 = .ok (.aload_n 0, 1) := by decide +kernel
theorem dX7_forgive_9 : decode cX7_forgive 9 = .ok (.iconst 0, 1) := by decide +kernel
theorem dX7_forgive_10 : decode cX7_forgive 10 = .ok (.invokevirtual 51, 3) := by decide +kernel
theorem dX7_forgive_13 : decode cX7_forgive 13 = .ok (.ireturn, 1) := by decide +kernel
theorem dX7_forgive_14 : decode cX7_forgive 14 = .ok (.aload_n 0, 1) := by decide +kernel
theorem dX7_forgive_15 : decode cX7_forgive 15 = .ok (.iload_n 1, 1) := by decide +kernel
theorem dX7_forgive_16 : decode cX7_forgive 16 = .ok (.iconst 4, 1) := by decide +kernel
theorem dX7_forgive_17 : decode cX7_forgive 17 = .ok (.invokevirtual 63, 3) := by decide +kernel
theorem dX7_forgive_20 : decode cX7_forgive 20 = .ok (.istore_n 2, 1) := by decide +kernel
theorem dX7_forgive_21 : decode cX7_forgive 21 = .ok (.aload_n 0, 1) := by decide +kernel
theorem dX7_forgive_22 : decode cX7_forgive 22 = .ok (.iload_n 1, 1) := by decide +kernel
theorem dX7_forgive_23 : decode cX7_forgive 23 = .ok (.iconst 4, 1) := by decide +kernel
theorem dX7_forgive_24 : decode cX7_forgive 24 = .ok (.iconst 0, 1) := by decide +kernel
theorem dX7_forgive_25 : decode cX7_forgive 25 = .ok (.invokevirtual 43, 3) := by decide +kernel
theorem dX7_forgive_28 : decode cX7_forgive 28 = .ok (.iload_n 2, 1) := by decide +kernel
theorem dX7_forgive_29 : decode cX7_forgive 29 = .ok (.ireturn, 1) := by decide +kernel
theorem dX7_sumOf_0 : decode cX7_sumOf 0 = .ok (.iconst 0, 1) := by decide +kernel
theorem dX7_sumOf_1 : decode cX7_sumOf 1 = .ok (.istore_n 2, 1) := by decide +kernel
theorem dX7_sumOf_2 : decode cX7_sumOf 2 = .ok (.iconst 0, 1) := by decide +kernel
theorem dX7_sumOf_3 : decode cX7_sumOf 3 = .ok (.istore_n 3, 1) := by decide +kernel
theorem dX7_sumOf_4 : decode cX7_sumOf 4 = .ok (.iload_n 3, 1) := by decide +kernel
theorem dX7_sumOf_5 : decode cX7_sumOf 5 = .ok (.aload_n 0, 1) := by decide +kernel
theorem dX7_sumOf_6 : decode cX7_sumOf 6 = .ok (.getfield 7, 3) := by decide +kernel
theorem dX7_sumOf_9 : decode cX7_sumOf 9 = .ok (.iconst 0, 1) := by decide +kernel
theorem dX7_sumOf_10 : decode cX7_sumOf 10 = .ok (.iaload, 1) := by decide +kernel
theorem dX7_sumOf_11 : decode cX7_sumOf 11 = .ok (.if_icmp .ge 18, 3) := by decide +kernel
theorem dX7_sumOf_14 : decode cX7_sumOf 14 = .ok (.iload_n 2, 1) := by decide +kernel
theorem dX7_sumOf_15 : decode cX7_sumOf 15 = .ok (.aload_n 0, 1) := by decide +kernel
theorem dX7_sumOf_16 : decode cX7_sumOf 16 = .ok (.iload_n 3, 1) := by decide +kernel
theorem dX7_sumOf_17 : decode cX7_sumOf 17 = .ok (.iload_n 1, 1) := by decide +kernel
theorem dX7_sumOf_18 : decode cX7_sumOf 18 = .ok (.invokevirtual 63, 3) := by decide +kernel
theorem dX7_sumOf_21 : decode cX7_sumOf 21 = .ok (.iadd, 1) := by decide +kernel
theorem dX7_sumOf_22 : decode cX7_sumOf 22 = .ok (.istore_n 2, 1) := by decide +kernel
theorem dX7_sumOf_23 : decode cX7_sumOf 23 = .ok (.iinc 3 1, 3) := by decide +kernel
theorem dX7_sumOf_26 : decode cX7_sumOf 26 = .ok (.goto (-22), 3) := by decide +kernel
theorem dX7_sumOf_29 : decode cX7_sumOf 29 = .ok (.iload_n 2, 1) := by decide +kernel
theorem dX7_sumOf_30 : decode cX7_sumOf 30 = .ok (.ireturn, 1) := by decide +kernel
theorem dX7_now_0 : decode cX7_now 0 = .ok (.iload_n 1, 1) := by decide +kernel
theorem dX7_now_1 : decode cX7_now 1 = .ok (.tableswitch 131 0 9 #[55, 63, 70, 77, 85, 98, 106, 112, 118, 124], 55) := by decide +kernel
theorem dX7_now_56 : decode cX7_now 56 = .ok (.aload_n 0, 1) := by decide +kernel
theorem dX7_now_57 : decode cX7_now 57 = .ok (.getfield 7, 3) := by decide +kernel
theorem dX7_now_60 : decode cX7_now 60 = .ok (.bipush 7, 2) := by decide +kernel
theorem dX7_now_62 : decode cX7_now 62 = .ok (.iaload, 1) := by decide +kernel
theorem dX7_now_63 : decode cX7_now 63 = .ok (.ireturn, 1) := by decide +kernel
theorem dX7_now_64 : decode cX7_now 64 = .ok (.aload_n 0, 1) := by decide +kernel
theorem dX7_now_65 : decode cX7_now 65 = .ok (.getfield 7, 3) := by decide +kernel
theorem dX7_now_68 : decode cX7_now 68 = .ok (.iconst 4, 1) := by decide +kernel
theorem dX7_now_69 : decode cX7_now 69 = .ok (.iaload, 1) := by decide +kernel
theorem dX7_now_70 : decode cX7_now 70 = .ok (.ireturn, 1) := by decide +kernel
theorem dX7_now_71 : decode cX7_now 71 = .ok (.aload_n 0, 1) := by decide +kernel
theorem dX7_now_72 : decode cX7_now 72 = .ok (.getfield 7, 3) := by decide +kernel
theorem dX7_now_75 : decode cX7_now 75 = .ok (.iconst 3, 1) := by decide +kernel
theorem dX7_now_76 : decode cX7_now 76 = .ok (.iaload, 1) := by decide +kernel
theorem dX7_now_77 : decode cX7_now 77 = .ok (.ireturn, 1) := by decide +kernel
theorem dX7_now_78 : decode cX7_now 78 = .ok (.aload_n 0, 1) := by decide +kernel
theorem dX7_now_79 : decode cX7_now 79 = .ok (.getfield 7, 3) := by decide +kernel
theorem dX7_now_82 : decode cX7_now 82 = .ok (.bipush 6, 2) := by decide +kernel
theorem dX7_now_84 : decode cX7_now 84 = .ok (.iaload, 1) := by decide +kernel
theorem dX7_now_85 : decode cX7_now 85 = .ok (.ireturn, 1) := by decide +kernel
theorem dX7_now_86 : decode cX7_now 86 = .ok (.aload_n 0, 1) := by decide +kernel
theorem dX7_now_87 : decode cX7_now 87 = .ok (.getfield 7, 3) := by decide +kernel
theorem dX7_now_90 : decode cX7_now 90 = .ok (.iconst 1, 1) := by decide +kernel
theorem dX7_now_91 : decode cX7_now 91 = .ok (.iaload, 1) := by decide +kernel
theorem dX7_now_92 : decode cX7_now 92 = .ok (.aload_n 0, 1) := by decide +kernel
theorem dX7_now_93 : decode cX7_now 93 = .ok (.iconst 5, 1) := by decide +kernel
theorem dX7_now_94 : decode cX7_now 94 = .ok (.invokevirtual 78, 3) := by decide +kernel
theorem dX7_now_97 : decode cX7_now 97 = .ok (.imul, 1) := by decide +kernel
theorem dX7_now_98 : decode cX7_now 98 = .ok (.ireturn, 1) := by decide +kernel
theorem dX7_now_99 : decode cX7_now 99 = .ok (.aload_n 0, 1) := by decide +kernel
theorem dX7_now_100 : decode cX7_now 100 = .ok (.getfield 7, 3) := by decide +kernel
theorem dX7_now_103 : decode cX7_now 103 = .ok (.bipush 8, 2) := by decide +kernel
theorem dX7_now_105 : decode cX7_now 105 = .ok (.iaload, 1) := by decide +kernel
theorem dX7_now_106 : decode cX7_now 106 = .ok (.ireturn, 1) := by decide +kernel
theorem dX7_now_107 : decode cX7_now 107 = .ok (.aload_n 0, 1) := by decide +kernel
theorem dX7_now_108 : decode cX7_now 108 = .ok (.iconst 4, 1) := by decide +kernel
theorem dX7_now_109 : decode cX7_now 109 = .ok (.invokevirtual 78, 3) := by decide +kernel
theorem dX7_now_112 : decode cX7_now 112 = .ok (.ireturn, 1) := by decide +kernel
theorem dX7_now_113 : decode cX7_now 113 = .ok (.aload_n 0, 1) := by decide +kernel
theorem dX7_now_114 : decode cX7_now 114 = .ok (.iconst 2, 1) := by decide +kernel
theorem dX7_now_115 : decode cX7_now 115 = .ok (.invokevirtual 78, 3) := by decide +kernel
theorem dX7_now_118 : decode cX7_now 118 = .ok (.ireturn, 1) := by decide +kernel
theorem dX7_now_119 : decode cX7_now 119 = .ok (.aload_n 0, 1) := by decide +kernel
theorem dX7_now_120 : decode cX7_now 120 = .ok (.iconst 5, 1) := by decide +kernel
theorem dX7_now_121 : decode cX7_now 121 = .ok (.invokevirtual 78, 3) := by decide +kernel
theorem dX7_now_124 : decode cX7_now 124 = .ok (.ireturn, 1) := by decide +kernel
theorem dX7_now_125 : decode cX7_now 125 = .ok (.aload_n 0, 1) := by decide +kernel
theorem dX7_now_126 : decode cX7_now 126 = .ok (.bipush 6, 2) := by decide +kernel
theorem dX7_now_128 : decode cX7_now 128 = .ok (.invokevirtual 78, 3) := by decide +kernel
theorem dX7_now_131 : decode cX7_now 131 = .ok (.ireturn, 1) := by decide +kernel
theorem dX7_now_132 : decode cX7_now 132 = .ok (.aload_n 0, 1) := by decide +kernel
theorem dX7_now_133 : decode cX7_now 133 = .ok (.iconst 0, 1) := by decide +kernel
theorem dX7_now_134 : decode cX7_now 134 = .ok (.invokevirtual 51, 3) := by decide +kernel
theorem dX7_now_137 : decode cX7_now 137 = .ok (.ireturn, 1) := by decide +kernel
theorem dX7_drawn_0 : decode cX7_drawn 0 = .ok (.aload_n 0, 1) := by decide +kernel
theorem dX7_drawn_1 : decode cX7_drawn 1 = .ok (.getfield 7, 3) := by decide +kernel
theorem dX7_drawn_4 : decode cX7_drawn 4 = .ok (.bipush 10, 2) := by decide +kernel
theorem dX7_drawn_6 : decode cX7_drawn 6 = .ok (.aload_n 0, 1) := by decide +kernel
theorem dX7_drawn_7 : decode cX7_drawn 7 = .ok (.getfield 7, 3) := by decide +kernel
theorem dX7_drawn_10 : decode cX7_drawn 10 = .ok (.bipush 10, 2) := by decide +kernel
theorem dX7_drawn_12 : decode cX7_drawn 12 = .ok (.iaload, 1) := by decide +kernel
theorem dX7_drawn_13 : decode cX7_drawn 13 = .ok (.ldc 81, 2) := by decide +kernel
theorem dX7_drawn_15 : decode cX7_drawn 15 = .ok (.imul, 1) := by decide +kernel
theorem dX7_drawn_16 : decode cX7_drawn 16 = .ok (.sipush 12345, 3) := by decide +kernel
theorem dX7_drawn_19 : decode cX7_drawn 19 = .ok (.iadd, 1) := by decide +kernel
theorem dX7_drawn_20 : decode cX7_drawn 20 = .ok (.iastore, 1) := by decide +kernel
theorem dX7_drawn_21 : decode cX7_drawn 21 = .ok (.aload_n 0, 1) := by decide +kernel
theorem dX7_drawn_22 : decode cX7_drawn 22 = .ok (.getfield 7, 3) := by decide +kernel
theorem dX7_drawn_25 : decode cX7_drawn 25 = .ok (.bipush 10, 2) := by decide +kernel
theorem dX7_drawn_27 : decode cX7_drawn 27 = .ok (.iaload, 1) := by decide +kernel
theorem dX7_drawn_28 : decode cX7_drawn 28 = .ok (.bipush 8, 2) := by decide +kernel
theorem dX7_drawn_30 : decode cX7_drawn 30 = .ok (.iushr, 1) := by decide +kernel
theorem dX7_drawn_31 : decode cX7_drawn 31 = .ok (.ireturn, 1) := by decide +kernel
theorem dX7_pays_0 : decode cX7_pays 0 = .ok (.iload_n 2, 1) := by decide +kernel
theorem dX7_pays_1 : decode cX7_pays 1 = .ok (.aload_n 0, 1) := by decide +kernel
theorem dX7_pays_2 : decode cX7_pays 2 = .ok (.iload_n 1, 1) := by decide +kernel
theorem dX7_pays_3 : decode cX7_pays 3 = .ok (.iconst 2, 1) := by decide +kernel
theorem dX7_pays_4 : decode cX7_pays 4 = .ok (.invokevirtual 63, 3) := by decide +kernel
theorem dX7_pays_7 : decode cX7_pays 7 = .ok (.invokestatic 75, 3) := by decide +kernel
theorem dX7_pays_10 : decode cX7_pays 10 = .ok (.istore_n 3, 1) := by decide +kernel
theorem dX7_pays_11 : decode cX7_pays 11 = .ok (.aload_n 0, 1) := by decide +kernel
theorem dX7_pays_12 : decode cX7_pays 12 = .ok (.iload_n 1, 1) := by decide +kernel
theorem dX7_pays_13 : decode cX7_pays 13 = .ok (.iconst 2, 1) := by decide +kernel
theorem dX7_pays_14 : decode cX7_pays 14 = .ok (.aload_n 0, 1) := by decide +kernel
theorem dX7_pays_15 : decode cX7_pays 15 = .ok (.iload_n 1, 1) := by decide +kernel
theorem dX7_pays_16 : decode cX7_pays 16 = .ok (.iconst 2, 1) := by decide +kernel
theorem dX7_pays_17 : decode cX7_pays 17 = .ok (.invokevirtual 63, 3) := by decide +kernel
theorem dX7_pays_20 : decode cX7_pays 20 = .ok (.iload_n 3, 1) := by decide +kernel
theorem dX7_pays_21 : decode cX7_pays 21 = .ok (.isub, 1) := by decide +kernel
theorem dX7_pays_22 : decode cX7_pays 22 = .ok (.invokevirtual 43, 3) := by decide +kernel
theorem dX7_pays_25 : decode cX7_pays 25 = .ok (.aload_n 0, 1) := by decide +kernel
theorem dX7_pays_26 : decode cX7_pays 26 = .ok (.iload_n 1, 1) := by decide +kernel
theorem dX7_pays_27 : decode cX7_pays 27 = .ok (.bipush 6, 2) := by decide +kernel
theorem dX7_pays_29 : decode cX7_pays 29 = .ok (.aload_n 0, 1) := by decide +kernel
theorem dX7_pays_30 : decode cX7_pays 30 = .ok (.iload_n 1, 1) := by decide +kernel
theorem dX7_pays_31 : decode cX7_pays 31 = .ok (.bipush 6, 2) := by decide +kernel
theorem dX7_pays_33 : decode cX7_pays 33 = .ok (.invokevirtual 63, 3) := by decide +kernel
theorem dX7_pays_36 : decode cX7_pays 36 = .ok (.iload_n 3, 1) := by decide +kernel
theorem dX7_pays_37 : decode cX7_pays 37 = .ok (.iadd, 1) := by decide +kernel
theorem dX7_pays_38 : decode cX7_pays 38 = .ok (.invokevirtual 43, 3) := by decide +kernel
theorem dX7_pays_41 : decode cX7_pays 41 = .ok (.aload_n 0, 1) := by decide +kernel
theorem dX7_pays_42 : decode cX7_pays 42 = .ok (.getfield 7, 3) := by decide +kernel
theorem dX7_pays_45 : decode cX7_pays 45 = .ok (.iconst 4, 1) := by decide +kernel
theorem dX7_pays_46 : decode cX7_pays 46 = .ok (.dup2, 1) := by decide +kernel
theorem dX7_pays_47 : decode cX7_pays 47 = .ok (.iaload, 1) := by decide +kernel
theorem dX7_pays_48 : decode cX7_pays 48 = .ok (.iload_n 3, 1) := by decide +kernel
theorem dX7_pays_49 : decode cX7_pays 49 = .ok (.iadd, 1) := by decide +kernel
theorem dX7_pays_50 : decode cX7_pays 50 = .ok (.iastore, 1) := by decide +kernel
theorem dX7_pays_51 : decode cX7_pays 51 = .ok (.aload_n 0, 1) := by decide +kernel
theorem dX7_pays_52 : decode cX7_pays 52 = .ok (.getfield 7, 3) := by decide +kernel
theorem dX7_pays_55 : decode cX7_pays 55 = .ok (.bipush 9, 2) := by decide +kernel
theorem dX7_pays_57 : decode cX7_pays 57 = .ok (.dup2, 1) := by decide +kernel
theorem dX7_pays_58 : decode cX7_pays 58 = .ok (.iaload, 1) := by decide +kernel
theorem dX7_pays_59 : decode cX7_pays 59 = .ok (.iload_n 3, 1) := by decide +kernel
theorem dX7_pays_60 : decode cX7_pays 60 = .ok (.iadd, 1) := by decide +kernel
theorem dX7_pays_61 : decode cX7_pays 61 = .ok (.iastore, 1) := by decide +kernel
theorem dX7_pays_62 : decode cX7_pays 62 = .ok (.aload_n 0, 1) := by decide +kernel
theorem dX7_pays_63 : decode cX7_pays 63 = .ok (.dup, 1) := by decide +kernel
theorem dX7_pays_64 : decode cX7_pays 64 = .ok (.getfield 82, 3) := by decide +kernel
theorem dX7_pays_67 : decode cX7_pays 67 = .ok (.iload_n 3, 1) := by decide +kernel
theorem dX7_pays_68 : decode cX7_pays 68 = .ok (.iadd, 1) := by decide +kernel
theorem dX7_pays_69 : decode cX7_pays 69 = .ok (.putfield 82, 3) := by decide +kernel
theorem dX7_pays_72 : decode cX7_pays 72 = .ok (.return_, 1) := by decide +kernel
theorem dX7_forgets_0 : decode cX7_forgets 0 = .ok (.aload_n 0, 1) := by decide +kernel
theorem dX7_forgets_1 : decode cX7_forgets 1 = .ok (.invokevirtual 86, 3) := by decide +kernel
theorem dX7_forgets_4 : decode cX7_forgets 4 = .ok (.bipush 10, 2) := by decide +kernel
theorem dX7_forgets_6 : decode cX7_forgets 6 = .ok (.irem, 1) := by decide +kernel
theorem dX7_forgets_7 : decode cX7_forgets 7 = .ok (.iconst 4, 1) := by decide +kernel
theorem dX7_forgets_8 : decode cX7_forgets 8 = .ok (.iconst 2, 1) := by decide +kernel
theorem dX7_forgets_9 : decode cX7_forgets 9 = .ok (.aload_n 0, 1) := by decide +kernel
theorem dX7_forgets_10 : decode cX7_forgets 10 = .ok (.getfield 7, 3) := by decide +kernel
theorem dX7_forgets_13 : decode cX7_forgets 13 = .ok (.iconst 5, 1) := by decide +kernel
theorem dX7_forgets_14 : decode cX7_forgets 14 = .ok (.iaload, 1) := by decide +kernel
theorem dX7_forgets_15 : decode cX7_forgets 15 = .ok (.imul, 1) := by decide +kernel
theorem dX7_forgets_16 : decode cX7_forgets 16 = .ok (.isub, 1) := by decide +kernel
theorem dX7_forgets_17 : decode cX7_forgets 17 = .ok (.if_icmp .lt 14, 3) := by decide +kernel
theorem dX7_forgets_20 : decode cX7_forgets 20 = .ok (.aload_n 0, 1) := by decide +kernel
theorem dX7_forgets_21 : decode cX7_forgets 21 = .ok (.iload_n 1, 1) := by decide +kernel
theorem dX7_forgets_22 : decode cX7_forgets 22 = .ok (.aload_n 0, 1) := by decide +kernel
theorem dX7_forgets_23 : decode cX7_forgets 23 = .ok (.getfield 7, 3) := by decide +kernel
theorem dX7_forgets_26 : decode cX7_forgets 26 = .ok (.iconst 1, 1) := by decide +kernel
theorem dX7_forgets_27 : decode cX7_forgets 27 = .ok (.iaload, 1) := by decide +kernel
theorem dX7_forgets_28 : decode cX7_forgets 28 = .ok (.invokevirtual 90, 3) := by decide +kernel
theorem dX7_forgets_31 : decode cX7_forgets 31 = .ok (.return_, 1) := by decide +kernel
theorem dX7_paysFor_0 : decode cX7_paysFor 0 = .ok (.aload_n 0, 1) := by decide +kernel
theorem dX7_paysFor_1 : decode cX7_paysFor 1 = .ok (.iload_n 1, 1) := by decide +kernel
theorem dX7_paysFor_2 : decode cX7_paysFor 2 = .ok (.iconst 0, 1) := by decide +kernel
theorem dX7_paysFor_3 : decode cX7_paysFor 3 = .ok (.invokevirtual 63, 3) := by decide +kernel
theorem dX7_paysFor_6 : decode cX7_paysFor 6 = .ok (.tableswitch 160 1 6 #[38, 60, 68, 100, 120, 136], 38) := by decide +kernel
theorem dX7_paysFor_44 : decode cX7_paysFor 44 = .ok (.aload_n 0, 1) := by decide +kernel
theorem dX7_paysFor_45 : decode cX7_paysFor 45 = .ok (.iload_n 1, 1) := by decide +kernel
theorem dX7_paysFor_46 : decode cX7_paysFor 46 = .ok (.iconst 4, 1) := by decide +kernel
theorem dX7_paysFor_47 : decode cX7_paysFor 47 = .ok (.aload_n 0, 1) := by decide +kernel
theorem dX7_paysFor_48 : decode cX7_paysFor 48 = .ok (.iload_n 1, 1) := by decide +kernel
theorem dX7_paysFor_49 : decode cX7_paysFor 49 = .ok (.iconst 4, 1) := by decide +kernel
theorem dX7_paysFor_50 : decode cX7_paysFor 50 = .ok (.invokevirtual 63, 3) := by decide +kernel
theorem dX7_paysFor_53 : decode cX7_paysFor 53 = .ok (.aload_n 0, 1) := by decide +kernel
theorem dX7_paysFor_54 : decode cX7_paysFor 54 = .ok (.getfield 7, 3) := by decide +kernel
theorem dX7_paysFor_57 : decode cX7_paysFor 57 = .ok (.iconst 1, 1) := by decide +kernel
theorem dX7_paysFor_58 : decode cX7_paysFor 58 = .ok (.iaload, 1) := by decide +kernel
theorem dX7_paysFor_59 : decode cX7_paysFor 59 = .ok (.iadd, 1) := by decide +kernel
theorem dX7_paysFor_60 : decode cX7_paysFor 60 = .ok (.invokevirtual 43, 3) := by decide +kernel
theorem dX7_paysFor_63 : decode cX7_paysFor 63 = .ok (.goto 114, 3) := by decide +kernel
theorem dX7_paysFor_66 : decode cX7_paysFor 66 = .ok (.aload_n 0, 1) := by decide +kernel
theorem dX7_paysFor_67 : decode cX7_paysFor 67 = .ok (.iload_n 1, 1) := by decide +kernel
theorem dX7_paysFor_68 : decode cX7_paysFor 68 = .ok (.invokevirtual 94, 3) := by decide +kernel
theorem dX7_paysFor_71 : decode cX7_paysFor 71 = .ok (.goto 106, 3) := by decide +kernel
theorem dX7_paysFor_74 : decode cX7_paysFor 74 = .ok (.aload_n 0, 1) := by decide +kernel
theorem dX7_paysFor_75 : decode cX7_paysFor 75 = .ok (.iload_n 1, 1) := by decide +kernel
theorem dX7_paysFor_76 : decode cX7_paysFor 76 = .ok (.aload_n 0, 1) := by decide +kernel
theorem dX7_paysFor_77 : decode cX7_paysFor 77 = .ok (.getfield 7, 3) := by decide +kernel
theorem dX7_paysFor_80 : decode cX7_paysFor 80 = .ok (.iconst 5, 1) := by decide +kernel
theorem dX7_paysFor_81 : decode cX7_paysFor 81 = .ok (.iaload, 1) := by decide +kernel
theorem dX7_paysFor_82 : decode cX7_paysFor 82 = .ok (.iconst 2, 1) := by decide +kernel
theorem dX7_paysFor_83 : decode cX7_paysFor 83 = .ok (.if_icmp .ne 16, 3) := by decide +kernel
theorem dX7_paysFor_86 : decode cX7_paysFor 86 = .ok (.iload_n 2, 1) := by decide +kernel
theorem dX7_paysFor_87 : decode cX7_paysFor 87 = .ok (.ifCond .eq 12, 3) := by decide +kernel
theorem dX7_paysFor_90 : decode cX7_paysFor 90 = .ok (.aload_n 0, 1) := by decide +kernel
theorem dX7_paysFor_91 : decode cX7_paysFor 91 = .ok (.getfield 7, 3) := by decide +kernel
theorem dX7_paysFor_94 : decode cX7_paysFor 94 = .ok (.iconst 1, 1) := by decide +kernel
theorem dX7_paysFor_95 : decode cX7_paysFor 95 = .ok (.iaload, 1) := by decide +kernel
theorem dX7_paysFor_96 : decode cX7_paysFor 96 = .ok (.goto 4, 3) := by decide +kernel
end
section
theorem dX7_paysFor_99 : decode cX7_paysFor 99 = .ok (.iconst 0, 1) := by decide +kernel
theorem dX7_paysFor_100 : decode cX7_paysFor 100 = .ok (.invokevirtual 90, 3) := by decide +kernel
theorem dX7_paysFor_103 : decode cX7_paysFor 103 = .ok (.goto 74, 3) := by decide +kernel
theorem dX7_paysFor_106 : decode cX7_paysFor 106 = .ok (.aload_n 0, 1) := by decide +kernel
theorem dX7_paysFor_107 : decode cX7_paysFor 107 = .ok (.getfield 7, 3) := by decide +kernel
theorem dX7_paysFor_110 : decode cX7_paysFor 110 = .ok (.bipush 6, 2) := by decide +kernel
theorem dX7_paysFor_112 : decode cX7_paysFor 112 = .ok (.iaload, 1) := by decide +kernel
theorem dX7_paysFor_113 : decode cX7_paysFor 113 = .ok (.bipush 50, 2) := by decide +kernel
theorem dX7_paysFor_115 : decode cX7_paysFor 115 = .ok (.if_icmp .lt 62, 3) := by decide +kernel
theorem dX7_paysFor_118 : decode cX7_paysFor 118 = .ok (.aload_n 0, 1) := by decide +kernel
theorem dX7_paysFor_119 : decode cX7_paysFor 119 = .ok (.iload_n 1, 1) := by decide +kernel
theorem dX7_paysFor_120 : decode cX7_paysFor 120 = .ok (.invokevirtual 94, 3) := by decide +kernel
theorem dX7_paysFor_123 : decode cX7_paysFor 123 = .ok (.goto 54, 3) := by decide +kernel
theorem dX7_paysFor_126 : decode cX7_paysFor 126 = .ok (.aload_n 0, 1) := by decide +kernel
theorem dX7_paysFor_127 : decode cX7_paysFor 127 = .ok (.iload_n 1, 1) := by decide +kernel
theorem dX7_paysFor_128 : decode cX7_paysFor 128 = .ok (.iconst 2, 1) := by decide +kernel
theorem dX7_paysFor_129 : decode cX7_paysFor 129 = .ok (.aload_n 0, 1) := by decide +kernel
theorem dX7_paysFor_130 : decode cX7_paysFor 130 = .ok (.getfield 7, 3) := by decide +kernel
theorem dX7_paysFor_133 : decode cX7_paysFor 133 = .ok (.iconst 1, 1) := by decide +kernel
theorem dX7_paysFor_134 : decode cX7_paysFor 134 = .ok (.iaload, 1) := by decide +kernel
theorem dX7_paysFor_135 : decode cX7_paysFor 135 = .ok (.imul, 1) := by decide +kernel
theorem dX7_paysFor_136 : decode cX7_paysFor 136 = .ok (.invokevirtual 90, 3) := by decide +kernel
theorem dX7_paysFor_139 : decode cX7_paysFor 139 = .ok (.goto 38, 3) := by decide +kernel
theorem dX7_paysFor_142 : decode cX7_paysFor 142 = .ok (.aload_n 0, 1) := by decide +kernel
theorem dX7_paysFor_143 : decode cX7_paysFor 143 = .ok (.iload_n 1, 1) := by decide +kernel
theorem dX7_paysFor_144 : decode cX7_paysFor 144 = .ok (.iconst 4, 1) := by decide +kernel
theorem dX7_paysFor_145 : decode cX7_paysFor 145 = .ok (.aload_n 0, 1) := by decide +kernel
theorem dX7_paysFor_146 : decode cX7_paysFor 146 = .ok (.iload_n 1, 1) := by decide +kernel
theorem dX7_paysFor_147 : decode cX7_paysFor 147 = .ok (.iconst 4, 1) := by decide +kernel
theorem dX7_paysFor_148 : decode cX7_paysFor 148 = .ok (.invokevirtual 63, 3) := by decide +kernel
theorem dX7_paysFor_151 : decode cX7_paysFor 151 = .ok (.aload_n 0, 1) := by decide +kernel
theorem dX7_paysFor_152 : decode cX7_paysFor 152 = .ok (.getfield 7, 3) := by decide +kernel
theorem dX7_paysFor_155 : decode cX7_paysFor 155 = .ok (.iconst 1, 1) := by decide +kernel
theorem dX7_paysFor_156 : decode cX7_paysFor 156 = .ok (.iaload, 1) := by decide +kernel
theorem dX7_paysFor_157 : decode cX7_paysFor 157 = .ok (.iconst 2, 1) := by decide +kernel
theorem dX7_paysFor_158 : decode cX7_paysFor 158 = .ok (.idiv, 1) := by decide +kernel
theorem dX7_paysFor_159 : decode cX7_paysFor 159 = .ok (.iadd, 1) := by decide +kernel
theorem dX7_paysFor_160 : decode cX7_paysFor 160 = .ok (.invokevirtual 43, 3) := by decide +kernel
theorem dX7_paysFor_163 : decode cX7_paysFor 163 = .ok (.goto 14, 3) := by decide +kernel
theorem dX7_paysFor_166 : decode cX7_paysFor 166 = .ok (.aload_n 0, 1) := by decide +kernel
theorem dX7_paysFor_167 : decode cX7_paysFor 167 = .ok (.iload_n 1, 1) := by decide +kernel
theorem dX7_paysFor_168 : decode cX7_paysFor 168 = .ok (.aload_n 0, 1) := by decide +kernel
theorem dX7_paysFor_169 : decode cX7_paysFor 169 = .ok (.getfield 7, 3) := by decide +kernel
theorem dX7_paysFor_172 : decode cX7_paysFor 172 = .ok (.iconst 1, 1) := by decide +kernel
theorem dX7_paysFor_173 : decode cX7_paysFor 173 = .ok (.iaload, 1) := by decide +kernel
theorem dX7_paysFor_174 : decode cX7_paysFor 174 = .ok (.invokevirtual 90, 3) := by decide +kernel
theorem dX7_paysFor_177 : decode cX7_paysFor 177 = .ok (.return_, 1) := by decide +kernel
theorem dX7_hasCup_0 : decode cX7_hasCup 0 = .ok (.aload_n 0, 1) := by decide +kernel
theorem dX7_hasCup_1 : decode cX7_hasCup 1 = .ok (.getfield 7, 3) := by decide +kernel
theorem dX7_hasCup_4 : decode cX7_hasCup 4 = .ok (.iconst 3, 1) := by decide +kernel
theorem dX7_hasCup_5 : decode cX7_hasCup 5 = .ok (.iaload, 1) := by decide +kernel
theorem dX7_hasCup_6 : decode cX7_hasCup 6 = .ok (.ifCond .le 5, 3) := by decide +kernel
theorem dX7_hasCup_9 : decode cX7_hasCup 9 = .ok (.iconst 1, 1) := by decide +kernel
theorem dX7_hasCup_10 : decode cX7_hasCup 10 = .ok (.ireturn, 1) := by decide +kernel
theorem dX7_hasCup_11 : decode cX7_hasCup 11 = .ok (.aload_n 0, 1) := by decide +kernel
theorem dX7_hasCup_12 : decode cX7_hasCup 12 = .ok (.iload_n 1, 1) := by decide +kernel
theorem dX7_hasCup_13 : decode cX7_hasCup 13 = .ok (.iconst 0, 1) := by decide +kernel
theorem dX7_hasCup_14 : decode cX7_hasCup 14 = .ok (.invokevirtual 63, 3) := by decide +kernel
theorem dX7_hasCup_17 : decode cX7_hasCup 17 = .ok (.bipush 6, 2) := by decide +kernel
theorem dX7_hasCup_19 : decode cX7_hasCup 19 = .ok (.if_icmp .eq 14, 3) := by decide +kernel
theorem dX7_hasCup_22 : decode cX7_hasCup 22 = .ok (.aload_n 0, 1) := by decide +kernel
theorem dX7_hasCup_23 : decode cX7_hasCup 23 = .ok (.invokevirtual 86, 3) := by decide +kernel
theorem dX7_hasCup_26 : decode cX7_hasCup 26 = .ok (.bipush 10, 2) := by decide +kernel
theorem dX7_hasCup_28 : decode cX7_hasCup 28 = .ok (.irem, 1) := by decide +kernel
theorem dX7_hasCup_29 : decode cX7_hasCup 29 = .ok (.iconst 3, 1) := by decide +kernel
theorem dX7_hasCup_30 : decode cX7_hasCup 30 = .ok (.if_icmp .ge 7, 3) := by decide +kernel
theorem dX7_hasCup_33 : decode cX7_hasCup 33 = .ok (.iconst 1, 1) := by decide +kernel
theorem dX7_hasCup_34 : decode cX7_hasCup 34 = .ok (.goto 4, 3) := by decide +kernel
theorem dX7_hasCup_37 : decode cX7_hasCup 37 = .ok (.iconst 0, 1) := by decide +kernel
theorem dX7_hasCup_38 : decode cX7_hasCup 38 = .ok (.istore_n 2, 1) := by decide +kernel
theorem dX7_hasCup_39 : decode cX7_hasCup 39 = .ok (.aload_n 0, 1) := by decide +kernel
theorem dX7_hasCup_40 : decode cX7_hasCup 40 = .ok (.getfield 7, 3) := by decide +kernel
theorem dX7_hasCup_43 : decode cX7_hasCup 43 = .ok (.iconst 3, 1) := by decide +kernel
theorem dX7_hasCup_44 : decode cX7_hasCup 44 = .ok (.iload_n 2, 1) := by decide +kernel
theorem dX7_hasCup_45 : decode cX7_hasCup 45 = .ok (.ifCond .eq 12, 3) := by decide +kernel
theorem dX7_hasCup_48 : decode cX7_hasCup 48 = .ok (.aload_n 0, 1) := by decide +kernel
theorem dX7_hasCup_49 : decode cX7_hasCup 49 = .ok (.getfield 7, 3) := by decide +kernel
theorem dX7_hasCup_52 : decode cX7_hasCup 52 = .ok (.iconst 2, 1) := by decide +kernel
theorem dX7_hasCup_53 : decode cX7_hasCup 53 = .ok (.iaload, 1) := by decide +kernel
theorem dX7_hasCup_54 : decode cX7_hasCup 54 = .ok (.goto 4, 3) := by decide +kernel
theorem dX7_hasCup_57 : decode cX7_hasCup 57 = .ok (.iconst 0, 1) := by decide +kernel
theorem dX7_hasCup_58 : decode cX7_hasCup 58 = .ok (.iastore, 1) := by decide +kernel
theorem dX7_hasCup_59 : decode cX7_hasCup 59 = .ok (.aload_n 0, 1) := by decide +kernel
theorem dX7_hasCup_60 : decode cX7_hasCup 60 = .ok (.getfield 7, 3) := by decide +kernel
theorem dX7_hasCup_63 : decode cX7_hasCup 63 = .ok (.bipush 8, 2) := by decide +kernel
theorem dX7_hasCup_65 : decode cX7_hasCup 65 = .ok (.dup2, 1) := by decide +kernel
theorem dX7_hasCup_66 : decode cX7_hasCup 66 = .ok (.iaload, 1) := by decide +kernel
theorem dX7_hasCup_67 : decode cX7_hasCup 67 = .ok (.iload_n 2, 1) := by decide +kernel
theorem dX7_hasCup_68 : decode cX7_hasCup 68 = .ok (.ifCond .eq 7, 3) := by decide +kernel
theorem dX7_hasCup_71 : decode cX7_hasCup 71 = .ok (.iconst 0, 1) := by decide +kernel
theorem dX7_hasCup_72 : decode cX7_hasCup 72 = .ok (.goto 4, 3) := by decide +kernel
theorem dX7_hasCup_75 : decode cX7_hasCup 75 = .ok (.iconst 1, 1) := by decide +kernel
theorem dX7_hasCup_76 : decode cX7_hasCup 76 = .ok (.iadd, 1) := by decide +kernel
theorem dX7_hasCup_77 : decode cX7_hasCup 77 = .ok (.iastore, 1) := by decide +kernel
theorem dX7_hasCup_78 : decode cX7_hasCup 78 = .ok (.iload_n 2, 1) := by decide +kernel
theorem dX7_hasCup_79 : decode cX7_hasCup 79 = .ok (.ireturn, 1) := by decide +kernel
theorem dX7_drinks_0 : decode cX7_drinks 0 = .ok (.aload_n 0, 1) := by decide +kernel
theorem dX7_drinks_1 : decode cX7_drinks 1 = .ok (.iload_n 1, 1) := by decide +kernel
theorem dX7_drinks_2 : decode cX7_drinks 2 = .ok (.iconst 3, 1) := by decide +kernel
theorem dX7_drinks_3 : decode cX7_drinks 3 = .ok (.invokevirtual 63, 3) := by decide +kernel
theorem dX7_drinks_6 : decode cX7_drinks 6 = .ok (.aload_n 0, 1) := by decide +kernel
theorem dX7_drinks_7 : decode cX7_drinks 7 = .ok (.getfield 7, 3) := by decide +kernel
theorem dX7_drinks_10 : decode cX7_drinks 10 = .ok (.iconst 1, 1) := by decide +kernel
theorem dX7_drinks_11 : decode cX7_drinks 11 = .ok (.iaload, 1) := by decide +kernel
theorem dX7_drinks_12 : decode cX7_drinks 12 = .ok (.if_icmp .ge 7, 3) := by decide +kernel
theorem dX7_drinks_15 : decode cX7_drinks 15 = .ok (.iconst 0, 1) := by decide +kernel
theorem dX7_drinks_16 : decode cX7_drinks 16 = .ok (.goto 9, 3) := by decide +kernel
theorem dX7_drinks_19 : decode cX7_drinks 19 = .ok (.aload_n 0, 1) := by decide +kernel
theorem dX7_drinks_20 : decode cX7_drinks 20 = .ok (.iload_n 1, 1) := by decide +kernel
theorem dX7_drinks_21 : decode cX7_drinks 21 = .ok (.iconst 1, 1) := by decide +kernel
theorem dX7_drinks_22 : decode cX7_drinks 22 = .ok (.invokevirtual 63, 3) := by decide +kernel
theorem dX7_drinks_25 : decode cX7_drinks 25 = .ok (.istore_n 2, 1) := by decide +kernel
theorem dX7_drinks_26 : decode cX7_drinks 26 = .ok (.iconst 0, 1) := by decide +kernel
theorem dX7_drinks_27 : decode cX7_drinks 27 = .ok (.istore_n 3, 1) := by decide +kernel
theorem dX7_drinks_28 : decode cX7_drinks 28 = .ok (.iload_n 3, 1) := by decide +kernel
theorem dX7_drinks_29 : decode cX7_drinks 29 = .ok (.iload_n 2, 1) := by decide +kernel
theorem dX7_drinks_30 : decode cX7_drinks 30 = .ok (.if_icmp .ge 66, 3) := by decide +kernel
theorem dX7_drinks_33 : decode cX7_drinks 33 = .ok (.aload_n 0, 1) := by decide +kernel
theorem dX7_drinks_34 : decode cX7_drinks 34 = .ok (.iload_n 1, 1) := by decide +kernel
theorem dX7_drinks_35 : decode cX7_drinks 35 = .ok (.invokevirtual 98, 3) := by decide +kernel
theorem dX7_drinks_38 : decode cX7_drinks 38 = .ok (.ifCond .ne 4, 3) := by decide +kernel
theorem dX7_drinks_41 : decode cX7_drinks 41 = .ok (.return_, 1) := by decide +kernel
theorem dX7_drinks_42 : decode cX7_drinks 42 = .ok (.aload_n 0, 1) := by decide +kernel
theorem dX7_drinks_43 : decode cX7_drinks 43 = .ok (.getfield 7, 3) := by decide +kernel
theorem dX7_drinks_46 : decode cX7_drinks 46 = .ok (.iconst 3, 1) := by decide +kernel
theorem dX7_drinks_47 : decode cX7_drinks 47 = .ok (.dup2, 1) := by decide +kernel
theorem dX7_drinks_48 : decode cX7_drinks 48 = .ok (.iaload, 1) := by decide +kernel
theorem dX7_drinks_49 : decode cX7_drinks 49 = .ok (.iconst 1, 1) := by decide +kernel
theorem dX7_drinks_50 : decode cX7_drinks 50 = .ok (.isub, 1) := by decide +kernel
theorem dX7_drinks_51 : decode cX7_drinks 51 = .ok (.iastore, 1) := by decide +kernel
theorem dX7_drinks_52 : decode cX7_drinks 52 = .ok (.aload_n 0, 1) := by decide +kernel
theorem dX7_drinks_53 : decode cX7_drinks 53 = .ok (.iload_n 1, 1) := by decide +kernel
theorem dX7_drinks_54 : decode cX7_drinks 54 = .ok (.iconst 5, 1) := by decide +kernel
theorem dX7_drinks_55 : decode cX7_drinks 55 = .ok (.aload_n 0, 1) := by decide +kernel
theorem dX7_drinks_56 : decode cX7_drinks 56 = .ok (.iload_n 1, 1) := by decide +kernel
theorem dX7_drinks_57 : decode cX7_drinks 57 = .ok (.iconst 5, 1) := by decide +kernel
theorem dX7_drinks_58 : decode cX7_drinks 58 = .ok (.invokevirtual 63, 3) := by decide +kernel
theorem dX7_drinks_61 : decode cX7_drinks 61 = .ok (.iconst 1, 1) := by decide +kernel
theorem dX7_drinks_62 : decode cX7_drinks 62 = .ok (.iadd, 1) := by decide +kernel
theorem dX7_drinks_63 : decode cX7_drinks 63 = .ok (.invokevirtual 43, 3) := by decide +kernel
theorem dX7_drinks_66 : decode cX7_drinks 66 = .ok (.aload_n 0, 1) := by decide +kernel
theorem dX7_drinks_67 : decode cX7_drinks 67 = .ok (.dup, 1) := by decide +kernel
theorem dX7_drinks_68 : decode cX7_drinks 68 = .ok (.getfield 101, 3) := by decide +kernel
theorem dX7_drinks_71 : decode cX7_drinks 71 = .ok (.iconst 1, 1) := by decide +kernel
theorem dX7_drinks_72 : decode cX7_drinks 72 = .ok (.iadd, 1) := by decide +kernel
theorem dX7_drinks_73 : decode cX7_drinks 73 = .ok (.putfield 101, 3) := by decide +kernel
theorem dX7_drinks_76 : decode cX7_drinks 76 = .ok (.aload_n 0, 1) := by decide +kernel
theorem dX7_drinks_77 : decode cX7_drinks 77 = .ok (.iload_n 1, 1) := by decide +kernel
theorem dX7_drinks_78 : decode cX7_drinks 78 = .ok (.iload_n 3, 1) := by decide +kernel
theorem dX7_drinks_79 : decode cX7_drinks 79 = .ok (.ifCond .ne 7, 3) := by decide +kernel
theorem dX7_drinks_82 : decode cX7_drinks 82 = .ok (.iconst 1, 1) := by decide +kernel
theorem dX7_drinks_83 : decode cX7_drinks 83 = .ok (.goto 4, 3) := by decide +kernel
theorem dX7_drinks_86 : decode cX7_drinks 86 = .ok (.iconst 0, 1) := by decide +kernel
theorem dX7_drinks_87 : decode cX7_drinks 87 = .ok (.invokevirtual 104, 3) := by decide +kernel
theorem dX7_drinks_90 : decode cX7_drinks 90 = .ok (.iinc 3 1, 3) := by decide +kernel
theorem dX7_drinks_93 : decode cX7_drinks 93 = .ok (.goto (-65), 3) := by decide +kernel
theorem dX7_drinks_96 : decode cX7_drinks 96 = .ok (.return_, 1) := by decide +kernel
theorem dX7_settles_0 : decode cX7_settles 0 = .ok (.iconst 0, 1) := by decide +kernel
theorem dX7_settles_1 : decode cX7_settles 1 = .ok (.istore_n 1, 1) := by decide +kernel
theorem dX7_settles_2 : decode cX7_settles 2 = .ok (.iload_n 1, 1) := by decide +kernel
theorem dX7_settles_3 : decode cX7_settles 3 = .ok (.aload_n 0, 1) := by decide +kernel
theorem dX7_settles_4 : decode cX7_settles 4 = .ok (.getfield 7, 3) := by decide +kernel
theorem dX7_settles_7 : decode cX7_settles 7 = .ok (.iconst 0, 1) := by decide +kernel
theorem dX7_settles_8 : decode cX7_settles 8 = .ok (.iaload, 1) := by decide +kernel
theorem dX7_settles_9 : decode cX7_settles 9 = .ok (.if_icmp .ge 66, 3) := by decide +kernel
theorem dX7_settles_12 : decode cX7_settles 12 = .ok (.aload_n 0, 1) := by decide +kernel
theorem dX7_settles_13 : decode cX7_settles 13 = .ok (.iload_n 1, 1) := by decide +kernel
theorem dX7_settles_14 : decode cX7_settles 14 = .ok (.iconst 0, 1) := by decide +kernel
theorem dX7_settles_15 : decode cX7_settles 15 = .ok (.invokevirtual 63, 3) := by decide +kernel
theorem dX7_settles_18 : decode cX7_settles 18 = .ok (.iconst 1, 1) := by decide +kernel
theorem dX7_settles_19 : decode cX7_settles 19 = .ok (.if_icmp .eq 14, 3) := by decide +kernel
theorem dX7_settles_22 : decode cX7_settles 22 = .ok (.aload_n 0, 1) := by decide +kernel
theorem dX7_settles_23 : decode cX7_settles 23 = .ok (.iload_n 1, 1) := by decide +kernel
theorem dX7_settles_24 : decode cX7_settles 24 = .ok (.iconst 0, 1) := by decide +kernel
theorem dX7_settles_25 : decode cX7_settles 25 = .ok (.invokevirtual 63, 3) := by decide +kernel
theorem dX7_settles_28 : decode cX7_settles 28 = .ok (.bipush 6, 2) := by decide +kernel
theorem dX7_settles_30 : decode cX7_settles 30 = .ok (.if_icmp .ne 39, 3) := by decide +kernel
theorem dX7_settles_33 : decode cX7_settles 33 = .ok (.aload_n 0, 1) := by decide +kernel
theorem dX7_settles_34 : decode cX7_settles 34 = .ok (.iload_n 1, 1) := by decide +kernel
theorem dX7_settles_35 : decode cX7_settles 35 = .ok (.iconst 4, 1) := by decide +kernel
theorem dX7_settles_36 : decode cX7_settles 36 = .ok (.invokevirtual 63, 3) := by decide +kernel
theorem dX7_settles_39 : decode cX7_settles 39 = .ok (.aload_n 0, 1) := by decide +kernel
theorem dX7_settles_40 : decode cX7_settles 40 = .ok (.iload_n 1, 1) := by decide +kernel
theorem dX7_settles_41 : decode cX7_settles 41 = .ok (.iconst 2, 1) := by decide +kernel
theorem dX7_settles_42 : decode cX7_settles 42 = .ok (.invokevirtual 63, 3) := by decide +kernel
theorem dX7_settles_45 : decode cX7_settles 45 = .ok (.invokestatic 75, 3) := by decide +kernel
theorem dX7_settles_48 : decode cX7_settles 48 = .ok (.istore_n 2, 1) := by decide +kernel
theorem dX7_settles_49 : decode cX7_settles 49 = .ok (.aload_n 0, 1) := by decide +kernel
theorem dX7_settles_50 : decode cX7_settles 50 = .ok (.iload_n 1, 1) := by decide +kernel
theorem dX7_settles_51 : decode cX7_settles 51 = .ok (.iload_n 2, 1) := by decide +kernel
theorem dX7_settles_52 : decode cX7_settles 52 = .ok (.invokevirtual 90, 3) := by decide +kernel
theorem dX7_settles_55 : decode cX7_settles 55 = .ok (.aload_n 0, 1) := by decide +kernel
theorem dX7_settles_56 : decode cX7_settles 56 = .ok (.iload_n 1, 1) := by decide +kernel
theorem dX7_settles_57 : decode cX7_settles 57 = .ok (.iconst 4, 1) := by decide +kernel
theorem dX7_settles_58 : decode cX7_settles 58 = .ok (.aload_n 0, 1) := by decide +kernel
theorem dX7_settles_59 : decode cX7_settles 59 = .ok (.iload_n 1, 1) := by decide +kernel
theorem dX7_settles_60 : decode cX7_settles 60 = .ok (.iconst 4, 1) := by decide +kernel
theorem dX7_settles_61 : decode cX7_settles 61 = .ok (.invokevirtual 63, 3) := by decide +kernel
theorem dX7_settles_64 : decode cX7_settles 64 = .ok (.iload_n 2, 1) := by decide +kernel
theorem dX7_settles_65 : decode cX7_settles 65 = .ok (.isub, 1) := by decide +kernel
theorem dX7_settles_66 : decode cX7_settles 66 = .ok (.invokevirtual 43, 3) := by decide +kernel
theorem dX7_settles_69 : decode cX7_settles 69 = .ok (.iinc 1 1, 3) := by decide +kernel
theorem dX7_settles_72 : decode cX7_settles 72 = .ok (.goto (-70), 3) := by decide +kernel
theorem dX7_settles_75 : decode cX7_settles 75 = .ok (.aload_n 0, 1) := by decide +kernel
theorem dX7_settles_76 : decode cX7_settles 76 = .ok (.iconst 5, 1) := by decide +kernel
theorem dX7_settles_77 : decode cX7_settles 77 = .ok (.invokevirtual 78, 3) := by decide +kernel
theorem dX7_settles_80 : decode cX7_settles 80 = .ok (.istore_n 1, 1) := by decide +kernel
theorem dX7_settles_81 : decode cX7_settles 81 = .ok (.bipush 19, 2) := by decide +kernel
theorem dX7_settles_83 : decode cX7_settles 83 = .ok (.istore_n 2, 1) := by decide +kernel
theorem dX7_settles_84 : decode cX7_settles 84 = .ok (.iload_n 2, 1) := by decide +kernel
theorem dX7_settles_85 : decode cX7_settles 85 = .ok (.ifCond .le 59, 3) := by decide +kernel
theorem dX7_settles_88 : decode cX7_settles 88 = .ok (.aload_n 0, 1) := by decide +kernel
theorem dX7_settles_89 : decode cX7_settles 89 = .ok (.getfield 7, 3) := by decide +kernel
theorem dX7_settles_92 : decode cX7_settles 92 = .ok (.bipush 82, 2) := by decide +kernel
theorem dX7_settles_94 : decode cX7_settles 94 = .ok (.iconst 2, 1) := by decide +kernel
theorem dX7_settles_95 : decode cX7_settles 95 = .ok (.iload_n 2, 1) := by decide +kernel
theorem dX7_settles_96 : decode cX7_settles 96 = .ok (.imul, 1) := by decide +kernel
theorem dX7_settles_97 : decode cX7_settles 97 = .ok (.iadd, 1) := by decide +kernel
theorem dX7_settles_98 : decode cX7_settles 98 = .ok (.aload_n 0, 1) := by decide +kernel
theorem dX7_settles_99 : decode cX7_settles 99 = .ok (.getfield 7, 3) := by decide +kernel
theorem dX7_settles_102 : decode cX7_settles 102 = .ok (.bipush 82, 2) := by decide +kernel
theorem dX7_settles_104 : decode cX7_settles 104 = .ok (.iconst 2, 1) := by decide +kernel
theorem dX7_settles_105 : decode cX7_settles 105 = .ok (.iload_n 2, 1) := by decide +kernel
theorem dX7_settles_106 : decode cX7_settles 106 = .ok (.imul, 1) := by decide +kernel
theorem dX7_settles_107 : decode cX7_settles 107 = .ok (.iadd, 1) := by decide +kernel
theorem dX7_settles_108 : decode cX7_settles 108 = .ok (.iconst 2, 1) := by decide +kernel
theorem dX7_settles_109 : decode cX7_settles 109 = .ok (.isub, 1) := by decide +kernel
theorem dX7_settles_110 : decode cX7_settles 110 = .ok (.iaload, 1) := by decide +kernel
theorem dX7_settles_111 : decode cX7_settles 111 = .ok (.iastore, 1) := by decide +kernel
theorem dX7_settles_112 : decode cX7_settles 112 = .ok (.aload_n 0, 1) := by decide +kernel
theorem dX7_settles_113 : decode cX7_settles 113 = .ok (.getfield 7, 3) := by decide +kernel
theorem dX7_settles_116 : decode cX7_settles 116 = .ok (.bipush 82, 2) := by decide +kernel
theorem dX7_settles_118 : decode cX7_settles 118 = .ok (.iconst 2, 1) := by decide +kernel
theorem dX7_settles_119 : decode cX7_settles 119 = .ok (.iload_n 2, 1) := by decide +kernel
theorem dX7_settles_120 : decode cX7_settles 120 = .ok (.imul, 1) := by decide +kernel
theorem dX7_settles_121 : decode cX7_settles 121 = .ok (.iadd, 1) := by decide +kernel
theorem dX7_settles_122 : decode cX7_settles 122 = .ok (.iconst 1, 1) := by decide +kernel
theorem dX7_settles_123 : decode cX7_settles 123 = .ok (.iadd, 1) := by decide +kernel
theorem dX7_settles_124 : decode cX7_settles 124 = .ok (.aload_n 0, 1) := by decide +kernel
theorem dX7_settles_125 : decode cX7_settles 125 = .ok (.getfield 7, 3) := by decide +kernel
theorem dX7_settles_128 : decode cX7_settles 128 = .ok (.bipush 82, 2) := by decide +kernel
theorem dX7_settles_130 : decode cX7_settles 130 = .ok (.iconst 2, 1) := by decide +kernel
theorem dX7_settles_131 : decode cX7_settles 131 = .ok (.iload_n 2, 1) := by decide +kernel
theorem dX7_settles_132 : decode cX7_settles 132 = .ok (.imul, 1) := by decide +kernel
theorem dX7_settles_133 : decode cX7_settles 133 = .ok (.iadd, 1) := by decide +kernel
theorem dX7_settles_134 : decode cX7_settles 134 = .ok (.iconst 1, 1) := by decide +kernel
theorem dX7_settles_135 : decode cX7_settles 135 = .ok (.isub, 1) := by decide +kernel
theorem dX7_settles_136 : decode cX7_settles 136 = .ok (.iaload, 1) := by decide +kernel
theorem dX7_settles_137 : decode cX7_settles 137 = .ok (.iastore, 1) := by decide +kernel
theorem dX7_settles_138 : decode cX7_settles 138 = .ok (.iinc 2 (-1), 3) := by decide +kernel
theorem dX7_settles_141 : decode cX7_settles 141 = .ok (.goto (-57), 3) := by decide +kernel
theorem dX7_settles_144 : decode cX7_settles 144 = .ok (.aload_n 0, 1) := by decide +kernel
theorem dX7_settles_145 : decode cX7_settles 145 = .ok (.getfield 7, 3) := by decide +kernel
theorem dX7_settles_148 : decode cX7_settles 148 = .ok (.bipush 82, 2) := by decide +kernel
theorem dX7_settles_150 : decode cX7_settles 150 = .ok (.iload_n 1, 1) := by decide +kernel
theorem dX7_settles_151 : decode cX7_settles 151 = .ok (.iastore, 1) := by decide +kernel
theorem dX7_settles_152 : decode cX7_settles 152 = .ok (.aload_n 0, 1) := by decide +kernel
theorem dX7_settles_153 : decode cX7_settles 153 = .ok (.getfield 7, 3) := by decide +kernel
theorem dX7_settles_156 : decode cX7_settles 156 = .ok (.bipush 83, 2) := by decide +kernel
theorem dX7_settles_158 : decode cX7_settles 158 = .ok (.aload_n 0, 1) := by decide +kernel
theorem dX7_settles_159 : decode cX7_settles 159 = .ok (.getfield 7, 3) := by decide +kernel
theorem dX7_settles_162 : decode cX7_settles 162 = .ok (.bipush 9, 2) := by decide +kernel
theorem dX7_settles_164 : decode cX7_settles 164 = .ok (.iaload, 1) := by decide +kernel
theorem dX7_settles_165 : decode cX7_settles 165 = .ok (.iastore, 1) := by decide +kernel
theorem dX7_settles_166 : decode cX7_settles 166 = .ok (.aload_n 0, 1) := by decide +kernel
theorem dX7_settles_167 : decode cX7_settles 167 = .ok (.getfield 7, 3) := by decide +kernel
theorem dX7_settles_170 : decode cX7_settles 170 = .ok (.bipush 11, 2) := by decide +kernel
theorem dX7_settles_172 : decode cX7_settles 172 = .ok (.bipush 20, 2) := by decide +kernel
theorem dX7_settles_174 : decode cX7_settles 174 = .ok (.aload_n 0, 1) := by decide +kernel
theorem dX7_settles_175 : decode cX7_settles 175 = .ok (.getfield 7, 3) := by decide +kernel
theorem dX7_settles_178 : decode cX7_settles 178 = .ok (.bipush 11, 2) := by decide +kernel
theorem dX7_settles_180 : decode cX7_settles 180 = .ok (.iaload, 1) := by decide +kernel
theorem dX7_settles_181 : decode cX7_settles 181 = .ok (.iconst 1, 1) := by decide +kernel
theorem dX7_settles_182 : decode cX7_settles 182 = .ok (.iadd, 1) := by decide +kernel
theorem dX7_settles_183 : decode cX7_settles 183 = .ok (.invokestatic 75, 3) := by decide +kernel
theorem dX7_settles_186 : decode cX7_settles 186 = .ok (.iastore, 1) := by decide +kernel
theorem dX7_settles_187 : decode cX7_settles 187 = .ok (.aload_n 0, 1) := by decide +kernel
theorem dX7_settles_188 : decode cX7_settles 188 = .ok (.getfield 7, 3) := by decide +kernel
theorem dX7_settles_191 : decode cX7_settles 191 = .ok (.iconst 1, 1) := by decide +kernel
theorem dX7_settles_192 : decode cX7_settles 192 = .ok (.iaload, 1) := by decide +kernel
theorem dX7_settles_193 : decode cX7_settles 193 = .ok (.iload_n 1, 1) := by decide +kernel
theorem dX7_settles_194 : decode cX7_settles 194 = .ok (.imul, 1) := by decide +kernel
theorem dX7_settles_195 : decode cX7_settles 195 = .ok (.istore_n 2, 1) := by decide +kernel
theorem dX7_settles_196 : decode cX7_settles 196 = .ok (.aload_n 0, 1) := by decide +kernel
theorem dX7_settles_197 : decode cX7_settles 197 = .ok (.getfield 7, 3) := by decide +kernel
theorem dX7_settles_200 : decode cX7_settles 200 = .ok (.bipush 6, 2) := by decide +kernel
theorem dX7_settles_202 : decode cX7_settles 202 = .ok (.iload_n 2, 1) := by decide +kernel
theorem dX7_settles_203 : decode cX7_settles 203 = .ok (.ifCond .ne 8, 3) := by decide +kernel
theorem dX7_settles_206 : decode cX7_settles 206 = .ok (.bipush 100, 2) := by decide +kernel
theorem dX7_settles_208 : decode cX7_settles 208 = .ok (.goto 47, 3) := by decide +kernel
theorem dX7_settles_211 : decode cX7_settles 211 = .ok (.aload_n 0, 1) := by decide +kernel
theorem dX7_settles_212 : decode cX7_settles 212 = .ok (.getfield 7, 3) := by decide +kernel
theorem dX7_settles_215 : decode cX7_settles 215 = .ok (.bipush 9, 2) := by decide +kernel
theorem dX7_settles_217 : decode cX7_settles 217 = .ok (.iaload, 1) := by decide +kernel
theorem dX7_settles_218 : decode cX7_settles 218 = .ok (.i2l, 1) := by decide +kernel
theorem dX7_settles_219 : decode cX7_settles 219 = .ok (.ldc2_w 108, 3) := by decide +kernel
theorem dX7_settles_222 : decode cX7_settles 222 = .ok (.lmul, 1) := by decide +kernel
theorem dX7_settles_223 : decode cX7_settles 223 = .ok (.iload_n 2, 1) := by decide +kernel
theorem dX7_settles_224 : decode cX7_settles 224 = .ok (.i2l, 1) := by decide +kernel
theorem dX7_settles_225 : decode cX7_settles 225 = .ok (.ldiv, 1) := by decide +kernel
theorem dX7_settles_226 : decode cX7_settles 226 = .ok (.ldc2_w 73, 3) := by decide +kernel
theorem dX7_settles_229 : decode cX7_settles 229 = .ok (.lcmp, 1) := by decide +kernel
theorem dX7_settles_230 : decode cX7_settles 230 = .ok (.ifCond .le 9, 3) := by decide +kernel
theorem dX7_settles_233 : decode cX7_settles 233 = .ok (.ldc2_w 73, 3) := by decide +kernel
theorem dX7_settles_236 : decode cX7_settles 236 = .ok (.goto 18, 3) := by decide +kernel
theorem dX7_settles_239 : decode cX7_settles 239 = .ok (.aload_n 0, 1) := by decide +kernel
theorem dX7_settles_240 : decode cX7_settles 240 = .ok (.getfield 7, 3) := by decide +kernel
theorem dX7_settles_243 : decode cX7_settles 243 = .ok (.bipush 9, 2) := by decide +kernel
theorem dX7_settles_245 : decode cX7_settles 245 = .ok (.iaload, 1) := by decide +kernel
theorem dX7_settles_246 : decode cX7_settles 246 = .ok (.i2l, 1) := by decide +kernel
theorem dX7_settles_247 : decode cX7_settles 247 = .ok (.ldc2_w 108, 3) := by decide +kernel
theorem dX7_settles_250 : decode cX7_settles 250 = .ok (.lmul, 1) := by decide +kernel
theorem dX7_settles_251 : decode cX7_settles 251 = .ok (.iload_n 2, 1) := by decide +kernel
theorem dX7_settles_252 : decode cX7_settles 252 = .ok (.i2l, 1) := by decide +kernel
theorem dX7_settles_253 : decode cX7_settles 253 = .ok (.ldiv, 1) := by decide +kernel
theorem dX7_settles_254 : decode cX7_settles 254 = .ok (.l2i, 1) := by decide +kernel
theorem dX7_settles_255 : decode cX7_settles 255 = .ok (.iastore, 1) := by decide +kernel
theorem dX7_settles_256 : decode cX7_settles 256 = .ok (.aload_n 0, 1) := by decide +kernel
theorem dX7_settles_257 : decode cX7_settles 257 = .ok (.getfield 7, 3) := by decide +kernel
theorem dX7_settles_260 : decode cX7_settles 260 = .ok (.bipush 9, 2) := by decide +kernel
theorem dX7_settles_262 : decode cX7_settles 262 = .ok (.iconst 0, 1) := by decide +kernel
theorem dX7_settles_263 : decode cX7_settles 263 = .ok (.iastore, 1) := by decide +kernel
theorem dX7_settles_264 : decode cX7_settles 264 = .ok (.iconst 0, 1) := by decide +kernel
theorem dX7_settles_265 : decode cX7_settles 265 = .ok (.istore_n 3, 1) := by decide +kernel
theorem dX7_settles_266 : decode cX7_settles 266 = .ok (.iload_n 3, 1) := by decide +kernel
theorem dX7_settles_267 : decode cX7_settles 267 = .ok (.aload_n 0, 1) := by decide +kernel
theorem dX7_settles_268 : decode cX7_settles 268 = .ok (.getfield 7, 3) := by decide +kernel
theorem dX7_settles_271 : decode cX7_settles 271 = .ok (.iconst 0, 1) := by decide +kernel
theorem dX7_settles_272 : decode cX7_settles 272 = .ok (.iaload, 1) := by decide +kernel
theorem dX7_settles_273 : decode cX7_settles 273 = .ok (.if_icmp .ge 24, 3) := by decide +kernel
theorem dX7_settles_276 : decode cX7_settles 276 = .ok (.aload_n 0, 1) := by decide +kernel
theorem dX7_settles_277 : decode cX7_settles 277 = .ok (.iload_n 3, 1) := by decide +kernel
theorem dX7_settles_278 : decode cX7_settles 278 = .ok (.iconst 5, 1) := by decide +kernel
theorem dX7_settles_279 : decode cX7_settles 279 = .ok (.iconst 0, 1) := by decide +kernel
theorem dX7_settles_280 : decode cX7_settles 280 = .ok (.invokevirtual 43, 3) := by decide +kernel
theorem dX7_settles_283 : decode cX7_settles 283 = .ok (.aload_n 0, 1) := by decide +kernel
theorem dX7_settles_284 : decode cX7_settles 284 = .ok (.iload_n 3, 1) := by decide +kernel
theorem dX7_settles_285 : decode cX7_settles 285 = .ok (.bipush 6, 2) := by decide +kernel
theorem dX7_settles_287 : decode cX7_settles 287 = .ok (.iconst 0, 1) := by decide +kernel
theorem dX7_settles_288 : decode cX7_settles 288 = .ok (.invokevirtual 43, 3) := by decide +kernel
theorem dX7_settles_291 : decode cX7_settles 291 = .ok (.iinc 3 1, 3) := by decide +kernel
theorem dX7_settles_294 : decode cX7_settles 294 = .ok (.goto (-28), 3) := by decide +kernel
theorem dX7_settles_297 : decode cX7_settles 297 = .ok (.return_, 1) := by decide +kernel
theorem dX7_goesBy_0 : decode cX7_goesBy 0 = .ok (.iconst 0, 1) := by decide +kernel
theorem dX7_goesBy_1 : decode cX7_goesBy 1 = .ok (.istore_n 1, 1) := by decide +kernel
theorem dX7_goesBy_2 : decode cX7_goesBy 2 = .ok (.iload_n 1, 1) := by decide +kernel
theorem dX7_goesBy_3 : decode cX7_goesBy 3 = .ok (.aload_n 0, 1) := by decide +kernel
theorem dX7_goesBy_4 : decode cX7_goesBy 4 = .ok (.getfield 7, 3) := by decide +kernel
theorem dX7_goesBy_7 : decode cX7_goesBy 7 = .ok (.iconst 0, 1) := by decide +kernel
theorem dX7_goesBy_8 : decode cX7_goesBy 8 = .ok (.iaload, 1) := by decide +kernel
theorem dX7_goesBy_9 : decode cX7_goesBy 9 = .ok (.if_icmp .ge 14, 3) := by decide +kernel
theorem dX7_goesBy_12 : decode cX7_goesBy 12 = .ok (.aload_n 0, 1) := by decide +kernel
theorem dX7_goesBy_13 : decode cX7_goesBy 13 = .ok (.iload_n 1, 1) := by decide +kernel
theorem dX7_goesBy_14 : decode cX7_goesBy 14 = .ok (.invokevirtual 110, 3) := by decide +kernel
theorem dX7_goesBy_17 : decode cX7_goesBy 17 = .ok (.iinc 1 1, 3) := by decide +kernel
theorem dX7_goesBy_20 : decode cX7_goesBy 20 = .ok (.goto (-18), 3) := by decide +kernel
theorem dX7_goesBy_23 : decode cX7_goesBy 23 = .ok (.aload_n 0, 1) := by decide +kernel
theorem dX7_goesBy_24 : decode cX7_goesBy 24 = .ok (.getfield 7, 3) := by decide +kernel
theorem dX7_goesBy_27 : decode cX7_goesBy 27 = .ok (.iconst 3, 1) := by decide +kernel
theorem dX7_goesBy_28 : decode cX7_goesBy 28 = .ok (.aload_n 0, 1) := by decide +kernel
theorem dX7_goesBy_29 : decode cX7_goesBy 29 = .ok (.getfield 7, 3) := by decide +kernel
theorem dX7_goesBy_32 : decode cX7_goesBy 32 = .ok (.iconst 2, 1) := by decide +kernel
theorem dX7_goesBy_33 : decode cX7_goesBy 33 = .ok (.iaload, 1) := by decide +kernel
theorem dX7_goesBy_34 : decode cX7_goesBy 34 = .ok (.iastore, 1) := by decide +kernel
theorem dX7_goesBy_35 : decode cX7_goesBy 35 = .ok (.aload_n 0, 1) := by decide +kernel
theorem dX7_goesBy_36 : decode cX7_goesBy 36 = .ok (.getfield 7, 3) := by decide +kernel
theorem dX7_goesBy_39 : decode cX7_goesBy 39 = .ok (.bipush 7, 2) := by decide +kernel
theorem dX7_goesBy_41 : decode cX7_goesBy 41 = .ok (.iaload, 1) := by decide +kernel
theorem dX7_goesBy_42 : decode cX7_goesBy 42 = .ok (.iconst 5, 1) := by decide +kernel
theorem dX7_goesBy_43 : decode cX7_goesBy 43 = .ok (.irem, 1) := by decide +kernel
theorem dX7_goesBy_44 : decode cX7_goesBy 44 = .ok (.iconst 4, 1) := by decide +kernel
theorem dX7_goesBy_45 : decode cX7_goesBy 45 = .ok (.if_icmp .ne 7, 3) := by decide +kernel
theorem dX7_goesBy_48 : decode cX7_goesBy 48 = .ok (.aload_n 0, 1) := by decide +kernel
theorem dX7_goesBy_49 : decode cX7_goesBy 49 = .ok (.invokevirtual 113, 3) := by decide +kernel
theorem dX7_goesBy_52 : decode cX7_goesBy 52 = .ok (.aload_n 0, 1) := by decide +kernel
theorem dX7_goesBy_53 : decode cX7_goesBy 53 = .ok (.getfield 7, 3) := by decide +kernel
theorem dX7_goesBy_56 : decode cX7_goesBy 56 = .ok (.bipush 7, 2) := by decide +kernel
theorem dX7_goesBy_58 : decode cX7_goesBy 58 = .ok (.dup2, 1) := by decide +kernel
theorem dX7_goesBy_59 : decode cX7_goesBy 59 = .ok (.iaload, 1) := by decide +kernel
theorem dX7_goesBy_60 : decode cX7_goesBy 60 = .ok (.iconst 1, 1) := by decide +kernel
theorem dX7_goesBy_61 : decode cX7_goesBy 61 = .ok (.iadd, 1) := by decide +kernel
theorem dX7_goesBy_62 : decode cX7_goesBy 62 = .ok (.iastore, 1) := by decide +kernel
theorem dX7_goesBy_63 : decode cX7_goesBy 63 = .ok (.return_, 1) := by decide +kernel
theorem dX7_goesOn_0 : decode cX7_goesOn 0 = .ok (.aload_n 0, 1) := by decide +kernel
theorem dX7_goesOn_1 : decode cX7_goesOn 1 = .ok (.iconst 0, 1) := by decide +kernel
theorem dX7_goesOn_2 : decode cX7_goesOn 2 = .ok (.putfield 82, 3) := by decide +kernel
theorem dX7_goesOn_5 : decode cX7_goesOn 5 = .ok (.aload_n 0, 1) := by decide +kernel
theorem dX7_goesOn_6 : decode cX7_goesOn 6 = .ok (.iconst 0, 1) := by decide +kernel
theorem dX7_goesOn_7 : decode cX7_goesOn 7 = .ok (.putfield 101, 3) := by decide +kernel
theorem dX7_goesOn_10 : decode cX7_goesOn 10 = .ok (.iconst 0, 1) := by decide +kernel
theorem dX7_goesOn_11 : decode cX7_goesOn 11 = .ok (.istore_n 2, 1) := by decide +kernel
theorem dX7_goesOn_12 : decode cX7_goesOn 12 = .ok (.iload_n 2, 1) := by decide +kernel
theorem dX7_goesOn_13 : decode cX7_goesOn 13 = .ok (.iload_n 1, 1) := by decide +kernel
theorem dX7_goesOn_14 : decode cX7_goesOn 14 = .ok (.if_icmp .ge 13, 3) := by decide +kernel
theorem dX7_goesOn_17 : decode cX7_goesOn 17 = .ok (.aload_n 0, 1) := by decide +kernel
theorem dX7_goesOn_18 : decode cX7_goesOn 18 = .ok (.invokevirtual 116, 3) := by decide +kernel
theorem dX7_goesOn_21 : decode cX7_goesOn 21 = .ok (.iinc 2 1, 3) := by decide +kernel
theorem dX7_goesOn_24 : decode cX7_goesOn 24 = .ok (.goto (-12), 3) := by decide +kernel
theorem dX7_goesOn_27 : decode cX7_goesOn 27 = .ok (.aload_n 0, 1) := by decide +kernel
theorem dX7_goesOn_28 : decode cX7_goesOn 28 = .ok (.getfield 82, 3) := by decide +kernel
theorem dX7_goesOn_31 : decode cX7_goesOn 31 = .ok (.ireturn, 1) := by decide +kernel
theorem dX7_isFar_0 : decode cX7_isFar 0 = .ok (.aload_n 0, 1) := by decide +kernel
theorem dX7_isFar_1 : decode cX7_isFar 1 = .ok (.getfield 7, 3) := by decide +kernel
theorem dX7_isFar_4 : decode cX7_isFar 4 = .ok (.bipush 7, 2) := by decide +kernel
theorem dX7_isFar_6 : decode cX7_isFar 6 = .ok (.iaload, 1) := by decide +kernel
theorem dX7_isFar_7 : decode cX7_isFar 7 = .ok (.iload_n 1, 1) := by decide +kernel
theorem dX7_isFar_8 : decode cX7_isFar 8 = .ok (.iadd, 1) := by decide +kernel
theorem dX7_isFar_9 : decode cX7_isFar 9 = .ok (.sipush 9999, 3) := by decide +kernel
theorem dX7_isFar_12 : decode cX7_isFar 12 = .ok (.if_icmp .le 7, 3) := by decide +kernel
theorem dX7_isFar_15 : decode cX7_isFar 15 = .ok (.iconst 1, 1) := by decide +kernel
theorem dX7_isFar_16 : decode cX7_isFar 16 = .ok (.goto 4, 3) := by decide +kernel
theorem dX7_isFar_19 : decode cX7_isFar 19 = .ok (.iconst 0, 1) := by decide +kernel
theorem dX7_isFar_20 : decode cX7_isFar 20 = .ok (.ireturn, 1) := by decide +kernel
theorem dX7_days_0 : decode cX7_days 0 = .ok (.iload_n 1, 1) := by decide +kernel
theorem dX7_days_1 : decode cX7_days 1 = .ok (.i2l, 1) := by decide +kernel
theorem dX7_days_2 : decode cX7_days 2 = .ok (.lconst 1, 1) := by decide +kernel
theorem dX7_days_3 : decode cX7_days 3 = .ok (.ldc2_w 119, 3) := by decide +kernel
theorem dX7_days_6 : decode cX7_days 6 = .ok (.invokestatic 39, 3) := by decide +kernel
theorem dX7_days_9 : decode cX7_days 9 = .ok (.ifCond .ne 9, 3) := by decide +kernel
theorem dX7_days_12 : decode cX7_days 12 = .ok (.aload_n 0, 1) := by decide +kernel
theorem dX7_days_13 : decode cX7_days 13 = .ok (.iconst 0, 1) := by decide +kernel
theorem dX7_days_14 : decode cX7_days 14 = .ok (.invokevirtual 51, 3) := by decide +kernel
theorem dX7_days_17 : decode cX7_days 17 = .ok (.ireturn, 1) := by decide +kernel
theorem dX7_days_18 : decode cX7_days 18 = .ok (.aload_n 0, 1) := by decide +kernel
theorem dX7_days_19 : decode cX7_days 19 = .ok (.iload_n 1, 1) := by decide +kernel
theorem dX7_days_20 : decode cX7_days 20 = .ok (.invokevirtual 121, 3) := by decide +kernel
theorem dX7_days_23 : decode cX7_days 23 = .ok (.ifCond .eq 11, 3) := by decide +kernel
theorem dX7_days_26 : decode cX7_days 26 = .ok (.aload_n 0, 1) := by decide +kernel
theorem dX7_days_27 : decode cX7_days 27 = .ok (.iconst 4, 1) := by decide +kernel
theorem dX7_days_28 : decode cX7_days 28 = .ok (.invokevirtual 51, 3) := by decide +kernel
theorem dX7_days_31 : decode cX7_days 31 = .ok (.goto 8, 3) := by decide +kernel
theorem dX7_days_34 : decode cX7_days 34 = .ok (.aload_n 0, 1) := by decide +kernel
theorem dX7_days_35 : decode cX7_days 35 = .ok (.iload_n 1, 1) := by decide +kernel
theorem dX7_days_36 : decode cX7_days 36 = .ok (.invokevirtual 124, 3) := by decide +kernel
theorem dX7_days_39 : decode cX7_days 39 = .ok (.ireturn, 1) := by decide +kernel
theorem dX7_week_0 : decode cX7_week 0 = .ok (.iload_n 1, 1) := by decide +kernel
theorem dX7_week_1 : decode cX7_week 1 = .ok (.ifCond .lt 13, 3) := by decide +kernel
theorem dX7_week_4 : decode cX7_week 4 = .ok (.iload_n 2, 1) := by decide +kernel
theorem dX7_week_5 : decode cX7_week 5 = .ok (.i2l, 1) := by decide +kernel
theorem dX7_week_6 : decode cX7_week 6 = .ok (.lconst 0, 1) := by decide +kernel
theorem dX7_week_7 : decode cX7_week 7 = .ok (.lconst 1, 1) := by decide +kernel
theorem dX7_week_8 : decode cX7_week 8 = .ok (.invokestatic 39, 3) := by decide +kernel
theorem dX7_week_11 : decode cX7_week 11 = .ok (.ifCond .ne 9, 3) := by decide +kernel
theorem dX7_week_14 : decode cX7_week 14 = .ok (.aload_n 0, 1) := by decide +kernel
theorem dX7_week_15 : decode cX7_week 15 = .ok (.iconst 0, 1) := by decide +kernel
theorem dX7_week_16 : decode cX7_week 16 = .ok (.invokevirtual 51, 3) := by decide +kernel
theorem dX7_week_19 : decode cX7_week 19 = .ok (.ireturn, 1) := by decide +kernel
theorem dX7_week_20 : decode cX7_week 20 = .ok (.iload_n 1, 1) := by decide +kernel
theorem dX7_week_21 : decode cX7_week 21 = .ok (.aload_n 0, 1) := by decide +kernel
theorem dX7_week_22 : decode cX7_week 22 = .ok (.getfield 7, 3) := by decide +kernel
theorem dX7_week_25 : decode cX7_week 25 = .ok (.bipush 11, 2) := by decide +kernel
theorem dX7_week_27 : decode cX7_week 27 = .ok (.iaload, 1) := by decide +kernel
theorem dX7_week_28 : decode cX7_week 28 = .ok (.if_icmp .lt 11, 3) := by decide +kernel
theorem dX7_week_31 : decode cX7_week 31 = .ok (.aload_n 0, 1) := by decide +kernel
theorem dX7_week_32 : decode cX7_week 32 = .ok (.iconst 3, 1) := by decide +kernel
theorem dX7_week_33 : decode cX7_week 33 = .ok (.invokevirtual 51, 3) := by decide +kernel
theorem dX7_week_36 : decode cX7_week 36 = .ok (.goto 16, 3) := by decide +kernel
theorem dX7_week_39 : decode cX7_week 39 = .ok (.aload_n 0, 1) := by decide +kernel
theorem dX7_week_40 : decode cX7_week 40 = .ok (.getfield 7, 3) := by decide +kernel
theorem dX7_week_43 : decode cX7_week 43 = .ok (.bipush 82, 2) := by decide +kernel
theorem dX7_week_45 : decode cX7_week 45 = .ok (.iconst 2, 1) := by decide +kernel
theorem dX7_week_46 : decode cX7_week 46 = .ok (.iload_n 1, 1) := by decide +kernel
theorem dX7_week_47 : decode cX7_week 47 = .ok (.imul, 1) := by decide +kernel
theorem dX7_week_48 : decode cX7_week 48 = .ok (.iadd, 1) := by decide +kernel
theorem dX7_week_49 : decode cX7_week 49 = .ok (.iload_n 2, 1) := by decide +kernel
theorem dX7_week_50 : decode cX7_week 50 = .ok (.iadd, 1) := by decide +kernel
theorem dX7_week_51 : decode cX7_week 51 = .ok (.iaload, 1) := by decide +kernel
theorem dX7_week_52 : decode cX7_week 52 = .ok (.ireturn, 1) := by decide +kernel
theorem dX7_common_0 : decode cX7_common 0 = .ok (.iload_n 0, 1) := by decide +kernel
theorem dX7_common_1 : decode cX7_common 1 = .ok (.istore_n 2, 1) := by decide +kernel
theorem dX7_common_2 : decode cX7_common 2 = .ok (.iload_n 1, 1) := by decide +kernel
theorem dX7_common_3 : decode cX7_common 3 = .ok (.istore_n 3, 1) := by decide +kernel
theorem dX7_common_4 : decode cX7_common 4 = .ok (.iload_n 3, 1) := by decide +kernel
theorem dX7_common_5 : decode cX7_common 5 = .ok (.ifCond .eq 16, 3) := by decide +kernel
theorem dX7_common_8 : decode cX7_common 8 = .ok (.iload_n 2, 1) := by decide +kernel
theorem dX7_common_9 : decode cX7_common 9 = .ok (.iload_n 3, 1) := by decide +kernel
theorem dX7_common_10 : decode cX7_common 10 = .ok (.irem, 1) := by decide +kernel
theorem dX7_common_11 : decode cX7_common 11 = .ok (.istore 4, 2) := by decide +kernel
theorem dX7_common_13 : decode cX7_common 13 = .ok (.iload_n 3, 1) := by decide +kernel
theorem dX7_common_14 : decode cX7_common 14 = .ok (.istore_n 2, 1) := by decide +kernel
theorem dX7_common_15 : decode cX7_common 15 = .ok (.iload 4, 2) := by decide +kernel
theorem dX7_common_17 : decode cX7_common 17 = .ok (.istore_n 3, 1) := by decide +kernel
theorem dX7_common_18 : decode cX7_common 18 = .ok (.goto (-14), 3) := by decide +kernel
theorem dX7_common_21 : decode cX7_common 21 = .ok (.iload_n 2, 1) := by decide +kernel
theorem dX7_common_22 : decode cX7_common 22 = .ok (.ireturn, 1) := by decide +kernel
theorem dX7_each_0 : decode cX7_each 0 = .ok (.iload_n 1, 1) := by decide +kernel
theorem dX7_each_1 : decode cX7_each 1 = .ok (.i2l, 1) := by decide +kernel
theorem dX7_each_2 : decode cX7_each 2 = .ok (.lconst 0, 1) := by decide +kernel
theorem dX7_each_3 : decode cX7_each 3 = .ok (.lconst 1, 1) := by decide +kernel
theorem dX7_each_4 : decode cX7_each 4 = .ok (.invokestatic 39, 3) := by decide +kernel
theorem dX7_each_7 : decode cX7_each 7 = .ok (.ifCond .ne 9, 3) := by decide +kernel
theorem dX7_each_10 : decode cX7_each 10 = .ok (.aload_n 0, 1) := by decide +kernel
theorem dX7_each_11 : decode cX7_each 11 = .ok (.iconst 0, 1) := by decide +kernel
theorem dX7_each_12 : decode cX7_each 12 = .ok (.invokevirtual 51, 3) := by decide +kernel
theorem dX7_each_15 : decode cX7_each 15 = .ok (.ireturn, 1) := by decide +kernel
theorem dX7_each_16 : decode cX7_each 16 = .ok (.iconst 0, 1) := by decide +kernel
theorem dX7_each_17 : decode cX7_each 17 = .ok (.istore_n 2, 1) := by decide +kernel
theorem dX7_each_18 : decode cX7_each 18 = .ok (.iconst 0, 1) := by decide +kernel
theorem dX7_each_19 : decode cX7_each 19 = .ok (.istore_n 3, 1) := by decide +kernel
theorem dX7_each_20 : decode cX7_each 20 = .ok (.iconst 0, 1) := by decide +kernel
theorem dX7_each_21 : decode cX7_each 21 = .ok (.istore 4, 2) := by decide +kernel
theorem dX7_each_23 : decode cX7_each 23 = .ok (.iload 4, 2) := by decide +kernel
theorem dX7_each_25 : decode cX7_each 25 = .ok (.aload_n 0, 1) := by decide +kernel
theorem dX7_each_26 : decode cX7_each 26 = .ok (.getfield 7, 3) := by decide +kernel
theorem dX7_each_29 : decode cX7_each 29 = .ok (.bipush 11, 2) := by decide +kernel
theorem dX7_each_31 : decode cX7_each 31 = .ok (.iaload, 1) := by decide +kernel
theorem dX7_each_32 : decode cX7_each 32 = .ok (.if_icmp .ge 41, 3) := by decide +kernel
theorem dX7_each_35 : decode cX7_each 35 = .ok (.iload_n 3, 1) := by decide +kernel
theorem dX7_each_36 : decode cX7_each 36 = .ok (.aload_n 0, 1) := by decide +kernel
theorem dX7_each_37 : decode cX7_each 37 = .ok (.getfield 7, 3) := by decide +kernel
theorem dX7_each_40 : decode cX7_each 40 = .ok (.bipush 82, 2) := by decide +kernel
theorem dX7_each_42 : decode cX7_each 42 = .ok (.iconst 2, 1) := by decide +kernel
theorem dX7_each_43 : decode cX7_each 43 = .ok (.iload 4, 2) := by decide +kernel
theorem dX7_each_45 : decode cX7_each 45 = .ok (.imul, 1) := by decide +kernel
theorem dX7_each_46 : decode cX7_each 46 = .ok (.iadd, 1) := by decide +kernel
theorem dX7_each_47 : decode cX7_each 47 = .ok (.iaload, 1) := by decide +kernel
theorem dX7_each_48 : decode cX7_each 48 = .ok (.iadd, 1) := by decide +kernel
theorem dX7_each_49 : decode cX7_each 49 = .ok (.istore_n 3, 1) := by decide +kernel
theorem dX7_each_50 : decode cX7_each 50 = .ok (.iload_n 2, 1) := by decide +kernel
theorem dX7_each_51 : decode cX7_each 51 = .ok (.aload_n 0, 1) := by decide +kernel
theorem dX7_each_52 : decode cX7_each 52 = .ok (.getfield 7, 3) := by decide +kernel
theorem dX7_each_55 : decode cX7_each 55 = .ok (.bipush 82, 2) := by decide +kernel
theorem dX7_each_57 : decode cX7_each 57 = .ok (.iconst 2, 1) := by decide +kernel
theorem dX7_each_58 : decode cX7_each 58 = .ok (.iload 4, 2) := by decide +kernel
theorem dX7_each_60 : decode cX7_each 60 = .ok (.imul, 1) := by decide +kernel
theorem dX7_each_61 : decode cX7_each 61 = .ok (.iadd, 1) := by decide +kernel
theorem dX7_each_62 : decode cX7_each 62 = .ok (.iconst 1, 1) := by decide +kernel
theorem dX7_each_63 : decode cX7_each 63 = .ok (.iadd, 1) := by decide +kernel
theorem dX7_each_64 : decode cX7_each 64 = .ok (.iaload, 1) := by decide +kernel
theorem dX7_each_65 : decode cX7_each 65 = .ok (.iadd, 1) := by decide +kernel
theorem dX7_each_66 : decode cX7_each 66 = .ok (.istore_n 2, 1) := by decide +kernel
theorem dX7_each_67 : decode cX7_each 67 = .ok (.iinc 4 1, 3) := by decide +kernel
theorem dX7_each_70 : decode cX7_each 70 = .ok (.goto (-47), 3) := by decide +kernel
theorem dX7_each_73 : decode cX7_each 73 = .ok (.iload_n 3, 1) := by decide +kernel
theorem dX7_each_74 : decode cX7_each 74 = .ok (.ifCond .ne 9, 3) := by decide +kernel
theorem dX7_each_77 : decode cX7_each 77 = .ok (.aload_n 0, 1) := by decide +kernel
theorem dX7_each_78 : decode cX7_each 78 = .ok (.iconst 3, 1) := by decide +kernel
theorem dX7_each_79 : decode cX7_each 79 = .ok (.invokevirtual 51, 3) := by decide +kernel
theorem dX7_each_82 : decode cX7_each 82 = .ok (.ireturn, 1) := by decide +kernel
theorem dX7_each_83 : decode cX7_each 83 = .ok (.iload_n 1, 1) := by decide +kernel
theorem dX7_each_84 : decode cX7_each 84 = .ok (.ifCond .ne 7, 3) := by decide +kernel
theorem dX7_each_87 : decode cX7_each 87 = .ok (.iload_n 2, 1) := by decide +kernel
theorem dX7_each_88 : decode cX7_each 88 = .ok (.goto 4, 3) := by decide +kernel
theorem dX7_each_91 : decode cX7_each 91 = .ok (.iload_n 3, 1) := by decide +kernel
theorem dX7_each_92 : decode cX7_each 92 = .ok (.iload_n 2, 1) := by decide +kernel
theorem dX7_each_93 : decode cX7_each 93 = .ok (.iload_n 3, 1) := by decide +kernel
theorem dX7_each_94 : decode cX7_each 94 = .ok (.invokestatic 127, 3) := by decide +kernel
theorem dX7_each_97 : decode cX7_each 97 = .ok (.idiv, 1) := by decide +kernel
theorem dX7_each_98 : decode cX7_each 98 = .ok (.ireturn, 1) := by decide +kernel
theorem dX7_isSum_0 : decode cX7_isSum 0 = .ok (.iconst 0, 1) := by decide +kernel
theorem dX7_isSum_1 : decode cX7_isSum 1 = .ok (.istore_n 3, 1) := by decide +kernel
theorem dX7_isSum_2 : decode cX7_isSum 2 = .ok (.iconst 0, 1) := by decide +kernel
theorem dX7_isSum_3 : decode cX7_isSum 3 = .ok (.istore 4, 2) := by decide +kernel
theorem dX7_isSum_5 : decode cX7_isSum 5 = .ok (.iload 4, 2) := by decide +kernel
theorem dX7_isSum_7 : decode cX7_isSum 7 = .ok (.aload_n 0, 1) := by decide +kernel
theorem dX7_isSum_8 : decode cX7_isSum 8 = .ok (.getfield 7, 3) := by decide +kernel
theorem dX7_isSum_11 : decode cX7_isSum 11 = .ok (.iconst 0, 1) := by decide +kernel
theorem dX7_isSum_12 : decode cX7_isSum 12 = .ok (.iaload, 1) := by decide +kernel
theorem dX7_isSum_13 : decode cX7_isSum 13 = .ok (.if_icmp .ge 26, 3) := by decide +kernel
theorem dX7_isSum_16 : decode cX7_isSum 16 = .ok (.iload_n 3, 1) := by decide +kernel
theorem dX7_isSum_17 : decode cX7_isSum 17 = .ok (.iload_n 1, 1) := by decide +kernel
theorem dX7_isSum_18 : decode cX7_isSum 18 = .ok (.iload 4, 2) := by decide +kernel
theorem dX7_isSum_20 : decode cX7_isSum 20 = .ok (.ishr, 1) := by decide +kernel
theorem dX7_isSum_21 : decode cX7_isSum 21 = .ok (.iconst 1, 1) := by decide +kernel
theorem dX7_isSum_22 : decode cX7_isSum 22 = .ok (.iand, 1) := by decide +kernel
theorem dX7_isSum_23 : decode cX7_isSum 23 = .ok (.aload_n 0, 1) := by decide +kernel
theorem dX7_isSum_24 : decode cX7_isSum 24 = .ok (.iload 4, 2) := by decide +kernel
theorem dX7_isSum_26 : decode cX7_isSum 26 = .ok (.iconst 5, 1) := by decide +kernel
theorem dX7_isSum_27 : decode cX7_isSum 27 = .ok (.invokevirtual 63, 3) := by decide +kernel
theorem dX7_isSum_30 : decode cX7_isSum 30 = .ok (.imul, 1) := by decide +kernel
theorem dX7_isSum_31 : decode cX7_isSum 31 = .ok (.iadd, 1) := by decide +kernel
theorem dX7_isSum_32 : decode cX7_isSum 32 = .ok (.istore_n 3, 1) := by decide +kernel
theorem dX7_isSum_33 : decode cX7_isSum 33 = .ok (.iinc 4 1, 3) := by decide +kernel
theorem dX7_isSum_36 : decode cX7_isSum 36 = .ok (.goto (-31), 3) := by decide +kernel
theorem dX7_isSum_39 : decode cX7_isSum 39 = .ok (.iload_n 3, 1) := by decide +kernel
theorem dX7_isSum_40 : decode cX7_isSum 40 = .ok (.aload_n 0, 1) := by decide +kernel
theorem dX7_isSum_41 : decode cX7_isSum 41 = .ok (.getfield 7, 3) := by decide +kernel
theorem dX7_isSum_44 : decode cX7_isSum 44 = .ok (.iconst 1, 1) := by decide +kernel
theorem dX7_isSum_45 : decode cX7_isSum 45 = .ok (.iaload, 1) := by decide +kernel
theorem dX7_isSum_46 : decode cX7_isSum 46 = .ok (.imul, 1) := by decide +kernel
theorem dX7_isSum_47 : decode cX7_isSum 47 = .ok (.iload_n 2, 1) := by decide +kernel
theorem dX7_isSum_48 : decode cX7_isSum 48 = .ok (.if_icmp .ne 7, 3) := by decide +kernel
theorem dX7_isSum_51 : decode cX7_isSum 51 = .ok (.iconst 1, 1) := by decide +kernel
theorem dX7_isSum_52 : decode cX7_isSum 52 = .ok (.goto 4, 3) := by decide +kernel
theorem dX7_isSum_55 : decode cX7_isSum 55 = .ok (.iconst 0, 1) := by decide +kernel
theorem dX7_isSum_56 : decode cX7_isSum 56 = .ok (.ireturn, 1) := by decide +kernel
theorem dX7_ones_0 : decode cX7_ones 0 = .ok (.iconst 0, 1) := by decide +kernel
theorem dX7_ones_1 : decode cX7_ones 1 = .ok (.istore_n 1, 1) := by decide +kernel
theorem dX7_ones_2 : decode cX7_ones 2 = .ok (.iconst 0, 1) := by decide +kernel
theorem dX7_ones_3 : decode cX7_ones 3 = .ok (.istore_n 2, 1) := by decide +kernel
theorem dX7_ones_4 : decode cX7_ones 4 = .ok (.iload_n 2, 1) := by decide +kernel
theorem dX7_ones_5 : decode cX7_ones 5 = .ok (.bipush 12, 2) := by decide +kernel
theorem dX7_ones_7 : decode cX7_ones 7 = .ok (.if_icmp .ge 17, 3) := by decide +kernel
theorem dX7_ones_10 : decode cX7_ones 10 = .ok (.iload_n 1, 1) := by decide +kernel
theorem dX7_ones_11 : decode cX7_ones 11 = .ok (.iload_n 0, 1) := by decide +kernel
theorem dX7_ones_12 : decode cX7_ones 12 = .ok (.iload_n 2, 1) := by decide +kernel
theorem dX7_ones_13 : decode cX7_ones 13 = .ok (.ishr, 1) := by decide +kernel
theorem dX7_ones_14 : decode cX7_ones 14 = .ok (.iconst 1, 1) := by decide +kernel
theorem dX7_ones_15 : decode cX7_ones 15 = .ok (.iand, 1) := by decide +kernel
theorem dX7_ones_16 : decode cX7_ones 16 = .ok (.iadd, 1) := by decide +kernel
theorem dX7_ones_17 : decode cX7_ones 17 = .ok (.istore_n 1, 1) := by decide +kernel
theorem dX7_ones_18 : decode cX7_ones 18 = .ok (.iinc 2 1, 3) := by decide +kernel
theorem dX7_ones_21 : decode cX7_ones 21 = .ok (.goto (-17), 3) := by decide +kernel
theorem dX7_ones_24 : decode cX7_ones 24 = .ok (.iload_n 1, 1) := by decide +kernel
theorem dX7_ones_25 : decode cX7_ones 25 = .ok (.ireturn, 1) := by decide +kernel
theorem dX7_findSets_0 : decode cX7_findSets 0 = .ok (.aload_n 0, 1) := by decide +kernel
theorem dX7_findSets_1 : decode cX7_findSets 1 = .ok (.iconst 0, 1) := by decide +kernel
theorem dX7_findSets_2 : decode cX7_findSets 2 = .ok (.putfield 130, 3) := by decide +kernel
theorem dX7_findSets_5 : decode cX7_findSets 5 = .ok (.aload_n 0, 1) := by decide +kernel
theorem dX7_findSets_6 : decode cX7_findSets 6 = .ok (.iconst (-1), 1) := by decide +kernel
theorem dX7_findSets_7 : decode cX7_findSets 7 = .ok (.putfield 133, 3) := by decide +kernel
theorem dX7_findSets_10 : decode cX7_findSets 10 = .ok (.aload_n 0, 1) := by decide +kernel
theorem dX7_findSets_11 : decode cX7_findSets 11 = .ok (.iconst 0, 1) := by decide +kernel
theorem dX7_findSets_12 : decode cX7_findSets 12 = .ok (.putfield 136, 3) := by decide +kernel
theorem dX7_findSets_15 : decode cX7_findSets 15 = .ok (.aload_n 0, 1) := by decide +kernel
theorem dX7_findSets_16 : decode cX7_findSets 16 = .ok (.iconst 0, 1) := by decide +kernel
theorem dX7_findSets_17 : decode cX7_findSets 17 = .ok (.putfield 139, 3) := by decide +kernel
theorem dX7_findSets_20 : decode cX7_findSets 20 = .ok (.iconst 1, 1) := by decide +kernel
theorem dX7_findSets_21 : decode cX7_findSets 21 = .ok (.istore_n 2, 1) := by decide +kernel
theorem dX7_findSets_22 : decode cX7_findSets 22 = .ok (.iload_n 2, 1) := by decide +kernel
theorem dX7_findSets_23 : decode cX7_findSets 23 = .ok (.iconst 1, 1) := by decide +kernel
theorem dX7_findSets_24 : decode cX7_findSets 24 = .ok (.aload_n 0, 1) := by decide +kernel
theorem dX7_findSets_25 : decode cX7_findSets 25 = .ok (.getfield 7, 3) := by decide +kernel
theorem dX7_findSets_28 : decode cX7_findSets 28 = .ok (.iconst 0, 1) := by decide +kernel
theorem dX7_findSets_29 : decode cX7_findSets 29 = .ok (.iaload, 1) := by decide +kernel
theorem dX7_findSets_30 : decode cX7_findSets 30 = .ok (.ishl, 1) := by decide +kernel
theorem dX7_findSets_31 : decode cX7_findSets 31 = .ok (.if_icmp .ge 81, 3) := by decide +kernel
theorem dX7_findSets_34 : decode cX7_findSets 34 = .ok (.aload_n 0, 1) := by decide +kernel
theorem dX7_findSets_35 : decode cX7_findSets 35 = .ok (.iload_n 2, 1) := by decide +kernel
theorem dX7_findSets_36 : decode cX7_findSets 36 = .ok (.iload_n 1, 1) := by decide +kernel
theorem dX7_findSets_37 : decode cX7_findSets 37 = .ok (.invokevirtual 142, 3) := by decide +kernel
theorem dX7_findSets_40 : decode cX7_findSets 40 = .ok (.ifCond .eq 66, 3) := by decide +kernel
theorem dX7_findSets_43 : decode cX7_findSets 43 = .ok (.aload_n 0, 1) := by decide +kernel
theorem dX7_findSets_44 : decode cX7_findSets 44 = .ok (.dup, 1) := by decide +kernel
theorem dX7_findSets_45 : decode cX7_findSets 45 = .ok (.getfield 130, 3) := by decide +kernel
theorem dX7_findSets_48 : decode cX7_findSets 48 = .ok (.iconst 1, 1) := by decide +kernel
theorem dX7_findSets_49 : decode cX7_findSets 49 = .ok (.iadd, 1) := by decide +kernel
theorem dX7_findSets_50 : decode cX7_findSets 50 = .ok (.putfield 130, 3) := by decide +kernel
theorem dX7_findSets_53 : decode cX7_findSets 53 = .ok (.aload_n 0, 1) := by decide +kernel
theorem dX7_findSets_54 : decode cX7_findSets 54 = .ok (.dup, 1) := by decide +kernel
theorem dX7_findSets_55 : decode cX7_findSets 55 = .ok (.getfield 133, 3) := by decide +kernel
theorem dX7_findSets_58 : decode cX7_findSets 58 = .ok (.iload_n 2, 1) := by decide +kernel
theorem dX7_findSets_59 : decode cX7_findSets 59 = .ok (.iand, 1) := by decide +kernel
theorem dX7_findSets_60 : decode cX7_findSets 60 = .ok (.putfield 133, 3) := by decide +kernel
theorem dX7_findSets_63 : decode cX7_findSets 63 = .ok (.aload_n 0, 1) := by decide +kernel
theorem dX7_findSets_64 : decode cX7_findSets 64 = .ok (.dup, 1) := by decide +kernel
theorem dX7_findSets_65 : decode cX7_findSets 65 = .ok (.getfield 136, 3) := by decide +kernel
theorem dX7_findSets_68 : decode cX7_findSets 68 = .ok (.iload_n 2, 1) := by decide +kernel
theorem dX7_findSets_69 : decode cX7_findSets 69 = .ok (.ior, 1) := by decide +kernel
theorem dX7_findSets_70 : decode cX7_findSets 70 = .ok (.putfield 136, 3) := by decide +kernel
theorem dX7_findSets_73 : decode cX7_findSets 73 = .ok (.aload_n 0, 1) := by decide +kernel
theorem dX7_findSets_74 : decode cX7_findSets 74 = .ok (.aload_n 0, 1) := by decide +kernel
theorem dX7_findSets_75 : decode cX7_findSets 75 = .ok (.getfield 139, 3) := by decide +kernel
theorem dX7_findSets_78 : decode cX7_findSets 78 = .ok (.ifCond .eq 17, 3) := by decide +kernel
theorem dX7_findSets_81 : decode cX7_findSets 81 = .ok (.iload_n 2, 1) := by decide +kernel
theorem dX7_findSets_82 : decode cX7_findSets 82 = .ok (.invokestatic 146, 3) := by decide +kernel
theorem dX7_findSets_85 : decode cX7_findSets 85 = .ok (.aload_n 0, 1) := by decide +kernel
theorem dX7_findSets_86 : decode cX7_findSets 86 = .ok (.getfield 139, 3) := by decide +kernel
theorem dX7_findSets_89 : decode cX7_findSets 89 = .ok (.invokestatic 146, 3) := by decide +kernel
theorem dX7_findSets_92 : decode cX7_findSets 92 = .ok (.if_icmp .ge 7, 3) := by decide +kernel
theorem dX7_findSets_95 : decode cX7_findSets 95 = .ok (.iload_n 2, 1) := by decide +kernel
theorem dX7_findSets_96 : decode cX7_findSets 96 = .ok (.goto 7, 3) := by decide +kernel
theorem dX7_findSets_99 : decode cX7_findSets 99 = .ok (.aload_n 0, 1) := by decide +kernel
theorem dX7_findSets_100 : decode cX7_findSets 100 = .ok (.getfield 139, 3) := by decide +kernel
theorem dX7_findSets_103 : decode cX7_findSets 103 = .ok (.putfield 139, 3) := by decide +kernel
theorem dX7_findSets_106 : decode cX7_findSets 106 = .ok (.iinc 2 1, 3) := by decide +kernel
theorem dX7_findSets_109 : decode cX7_findSets 109 = .ok (.goto (-87), 3) := by decide +kernel
theorem dX7_findSets_112 : decode cX7_findSets 112 = .ok (.return_, 1) := by decide +kernel
theorem dX7_many_0 : decode cX7_many 0 = .ok (.iload_n 1, 1) := by decide +kernel
theorem dX7_many_1 : decode cX7_many 1 = .ok (.i2l, 1) := by decide +kernel
theorem dX7_many_2 : decode cX7_many 2 = .ok (.lconst 0, 1) := by decide +kernel
theorem dX7_many_3 : decode cX7_many 3 = .ok (.ldc2_w 67, 3) := by decide +kernel
theorem dX7_many_6 : decode cX7_many 6 = .ok (.invokestatic 39, 3) := by decide +kernel
theorem dX7_many_9 : decode cX7_many 9 = .ok (.ifCond .ne 9, 3) := by decide +kernel
theorem dX7_many_12 : decode cX7_many 12 = .ok (.aload_n 0, 1) := by decide +kernel
theorem dX7_many_13 : decode cX7_many 13 = .ok (.iconst 0, 1) := by decide +kernel
theorem dX7_many_14 : decode cX7_many 14 = .ok (.invokevirtual 51, 3) := by decide +kernel
theorem dX7_many_17 : decode cX7_many 17 = .ok (.ireturn, 1) := by decide +kernel
theorem dX7_many_18 : decode cX7_many 18 = .ok (.aload_n 0, 1) := by decide +kernel
theorem dX7_many_19 : decode cX7_many 19 = .ok (.iload_n 1, 1) := by decide +kernel
theorem dX7_many_20 : decode cX7_many 20 = .ok (.invokevirtual 149, 3) := by decide +kernel
theorem dX7_many_23 : decode cX7_many 23 = .ok (.aload_n 0, 1) := by decide +kernel
theorem dX7_many_24 : decode cX7_many 24 = .ok (.getfield 130, 3) := by decide +kernel
theorem dX7_many_27 : decode cX7_many 27 = .ok (.ireturn, 1) := by decide +kernel
theorem dX7_who_0 : decode cX7_who 0 = .ok (.iload_n 1, 1) := by decide +kernel
theorem dX7_who_1 : decode cX7_who 1 = .ok (.i2l, 1) := by decide +kernel
theorem dX7_who_2 : decode cX7_who 2 = .ok (.lconst 0, 1) := by decide +kernel
theorem dX7_who_3 : decode cX7_who 3 = .ok (.ldc2_w 67, 3) := by decide +kernel
theorem dX7_who_6 : decode cX7_who 6 = .ok (.invokestatic 39, 3) := by decide +kernel
theorem dX7_who_9 : decode cX7_who 9 = .ok (.ifCond .eq 13, 3) := by decide +kernel
theorem dX7_who_12 : decode cX7_who 12 = .ok (.iload_n 2, 1) := by decide +kernel
theorem dX7_who_13 : decode cX7_who 13 = .ok (.i2l, 1) := by decide +kernel
theorem dX7_who_14 : decode cX7_who 14 = .ok (.lconst 0, 1) := by decide +kernel
theorem dX7_who_15 : decode cX7_who 15 = .ok (.lconst 1, 1) := by decide +kernel
theorem dX7_who_16 : decode cX7_who 16 = .ok (.invokestatic 39, 3) := by decide +kernel
theorem dX7_who_19 : decode cX7_who 19 = .ok (.ifCond .ne 9, 3) := by decide +kernel
theorem dX7_who_22 : decode cX7_who 22 = .ok (.aload_n 0, 1) := by decide +kernel
theorem dX7_who_23 : decode cX7_who 23 = .ok (.iconst 0, 1) := by decide +kernel
theorem dX7_who_24 : decode cX7_who 24 = .ok (.invokevirtual 51, 3) := by decide +kernel
theorem dX7_who_27 : decode cX7_who 27 = .ok (.ireturn, 1) := by decide +kernel
theorem dX7_who_28 : decode cX7_who 28 = .ok (.aload_n 0, 1) := by decide +kernel
theorem dX7_who_29 : decode cX7_who 29 = .ok (.iload_n 1, 1) := by decide +kernel
theorem dX7_who_30 : decode cX7_who 30 = .ok (.invokevirtual 149, 3) := by decide +kernel
theorem dX7_who_33 : decode cX7_who 33 = .ok (.aload_n 0, 1) := by decide +kernel
theorem dX7_who_34 : decode cX7_who 34 = .ok (.getfield 130, 3) := by decide +kernel
theorem dX7_who_37 : decode cX7_who 37 = .ok (.ifCond .ne 11, 3) := by decide +kernel
theorem dX7_who_40 : decode cX7_who 40 = .ok (.aload_n 0, 1) := by decide +kernel
theorem dX7_who_41 : decode cX7_who 41 = .ok (.iconst 3, 1) := by decide +kernel
theorem dX7_who_42 : decode cX7_who 42 = .ok (.invokevirtual 51, 3) := by decide +kernel
theorem dX7_who_45 : decode cX7_who 45 = .ok (.goto 18, 3) := by decide +kernel
theorem dX7_who_48 : decode cX7_who 48 = .ok (.iload_n 2, 1) := by decide +kernel
theorem dX7_who_49 : decode cX7_who 49 = .ok (.ifCond .ne 10, 3) := by decide +kernel
theorem dX7_who_52 : decode cX7_who 52 = .ok (.aload_n 0, 1) := by decide +kernel
theorem dX7_who_53 : decode cX7_who 53 = .ok (.getfield 133, 3) := by decide +kernel
theorem dX7_who_56 : decode cX7_who 56 = .ok (.goto 7, 3) := by decide +kernel
theorem dX7_who_59 : decode cX7_who 59 = .ok (.aload_n 0, 1) := by decide +kernel
theorem dX7_who_60 : decode cX7_who 60 = .ok (.getfield 136, 3) := by decide +kernel
theorem dX7_who_63 : decode cX7_who 63 = .ok (.ireturn, 1) := by decide +kernel
theorem dX7_fewest_0 : decode cX7_fewest 0 = .ok (.iload_n 1, 1) := by decide +kernel
theorem dX7_fewest_1 : decode cX7_fewest 1 = .ok (.i2l, 1) := by decide +kernel
theorem dX7_fewest_2 : decode cX7_fewest 2 = .ok (.lconst 0, 1) := by decide +kernel
theorem dX7_fewest_3 : decode cX7_fewest 3 = .ok (.ldc2_w 67, 3) := by decide +kernel
theorem dX7_fewest_6 : decode cX7_fewest 6 = .ok (.invokestatic 39, 3) := by decide +kernel
theorem dX7_fewest_9 : decode cX7_fewest 9 = .ok (.ifCond .ne 9, 3) := by decide +kernel
theorem dX7_fewest_12 : decode cX7_fewest 12 = .ok (.aload_n 0, 1) := by decide +kernel
theorem dX7_fewest_13 : decode cX7_fewest 13 = .ok (.iconst 0, 1) := by decide +kernel
theorem dX7_fewest_14 : decode cX7_fewest 14 = .ok (.invokevirtual 51, 3) := by decide +kernel
theorem dX7_fewest_17 : decode cX7_fewest 17 = .ok (.ireturn, 1) := by decide +kernel
theorem dX7_fewest_18 : decode cX7_fewest 18 = .ok (.aload_n 0, 1) := by decide +kernel
theorem dX7_fewest_19 : decode cX7_fewest 19 = .ok (.iload_n 1, 1) := by decide +kernel
theorem dX7_fewest_20 : decode cX7_fewest 20 = .ok (.invokevirtual 149, 3) := by decide +kernel
theorem dX7_fewest_23 : decode cX7_fewest 23 = .ok (.aload_n 0, 1) := by decide +kernel
theorem dX7_fewest_24 : decode cX7_fewest 24 = .ok (.getfield 130, 3) := by decide +kernel
theorem dX7_fewest_27 : decode cX7_fewest 27 = .ok (.ifCond .ne 11, 3) := by decide +kernel
theorem dX7_fewest_30 : decode cX7_fewest 30 = .ok (.aload_n 0, 1) := by decide +kernel
theorem dX7_fewest_31 : decode cX7_fewest 31 = .ok (.iconst 3, 1) := by decide +kernel
theorem dX7_fewest_32 : decode cX7_fewest 32 = .ok (.invokevirtual 51, 3) := by decide +kernel
theorem dX7_fewest_35 : decode cX7_fewest 35 = .ok (.goto 7, 3) := by decide +kernel
theorem dX7_fewest_38 : decode cX7_fewest 38 = .ok (.aload_n 0, 1) := by decide +kernel
theorem dX7_fewest_39 : decode cX7_fewest 39 = .ok (.getfield 139, 3) := by decide +kernel
theorem dX7_fewest_42 : decode cX7_fewest 42 = .ok (.ireturn, 1) := by decide +kernel
theorem dX7_begins_0 : decode cX7_begins 0 = .ok (.aload_n 0, 1) := by decide +kernel
theorem dX7_begins_1 : decode cX7_begins 1 = .ok (.getfield 7, 3) := by decide +kernel
theorem dX7_begins_4 : decode cX7_begins 4 = .ok (.aload_n 0, 1) := by decide +kernel
theorem dX7_begins_5 : decode cX7_begins 5 = .ok (.getfield 13, 3) := by decide +kernel
theorem dX7_begins_8 : decode cX7_begins 8 = .ok (.invokestatic 152, 3) := by decide +kernel
theorem dX7_begins_11 : decode cX7_begins 11 = .ok (.return_, 1) := by decide +kernel
theorem dX7_ends_0 : decode cX7_ends 0 = .ok (.aload_n 0, 1) := by decide +kernel
theorem dX7_ends_1 : decode cX7_ends 1 = .ok (.getfield 13, 3) := by decide +kernel
theorem dX7_ends_4 : decode cX7_ends 4 = .ok (.aload_n 0, 1) := by decide +kernel
theorem dX7_ends_5 : decode cX7_ends 5 = .ok (.getfield 7, 3) := by decide +kernel
theorem dX7_ends_8 : decode cX7_ends 8 = .ok (.invokestatic 152, 3) := by decide +kernel
theorem dX7_ends_11 : decode cX7_ends 11 = .ok (.return_, 1) := by decide +kernel
theorem dX7_why_0 : decode cX7_why 0 = .ok (.iload_n 1, 1) := by decide +kernel
theorem dX7_why_1 : decode cX7_why 1 = .ok (.ifCond .ne 7, 3) := by decide +kernel
theorem dX7_why_4 : decode cX7_why 4 = .ok (.iconst 0, 1) := by decide +kernel
theorem dX7_why_5 : decode cX7_why 5 = .ok (.goto 16, 3) := by decide +kernel
theorem dX7_why_8 : decode cX7_why 8 = .ok (.aload_n 0, 1) := by decide +kernel
theorem dX7_why_9 : decode cX7_why 9 = .ok (.iload_n 2, 1) := by decide +kernel
theorem dX7_why_10 : decode cX7_why 10 = .ok (.invokevirtual 121, 3) := by decide +kernel
theorem dX7_why_13 : decode cX7_why 13 = .ok (.ifCond .eq 7, 3) := by decide +kernel
theorem dX7_why_16 : decode cX7_why 16 = .ok (.iconst 4, 1) := by decide +kernel
theorem dX7_why_17 : decode cX7_why 17 = .ok (.goto 4, 3) := by decide +kernel
theorem dX7_why_20 : decode cX7_why 20 = .ok (.iconst (-1), 1) := by decide +kernel
theorem dX7_why_21 : decode cX7_why 21 = .ok (.ireturn, 1) := by decide +kernel
theorem dX7_ahead_0 : decode cX7_ahead 0 = .ok (.aload_n 0, 1) := by decide +kernel
theorem dX7_ahead_1 : decode cX7_ahead 1 = .ok (.iload_n 1, 1) := by decide +kernel
theorem dX7_ahead_2 : decode cX7_ahead 2 = .ok (.i2l, 1) := by decide +kernel
theorem dX7_ahead_3 : decode cX7_ahead 3 = .ok (.lconst 0, 1) := by decide +kernel
theorem dX7_ahead_4 : decode cX7_ahead 4 = .ok (.ldc2_w 108, 3) := by decide +kernel
theorem dX7_ahead_7 : decode cX7_ahead 7 = .ok (.invokestatic 39, 3) := by decide +kernel
theorem dX7_ahead_10 : decode cX7_ahead 10 = .ok (.ifCond .eq 19, 3) := by decide +kernel
theorem dX7_ahead_13 : decode cX7_ahead 13 = .ok (.iload_n 2, 1) := by decide +kernel
theorem dX7_ahead_14 : decode cX7_ahead 14 = .ok (.i2l, 1) := by decide +kernel
theorem dX7_ahead_15 : decode cX7_ahead 15 = .ok (.lconst 0, 1) := by decide +kernel
theorem dX7_ahead_16 : decode cX7_ahead 16 = .ok (.ldc2_w 156, 3) := by decide +kernel
theorem dX7_ahead_19 : decode cX7_ahead 19 = .ok (.invokestatic 39, 3) := by decide +kernel
theorem dX7_ahead_22 : decode cX7_ahead 22 = .ok (.ifCond .eq 7, 3) := by decide +kernel
theorem dX7_ahead_25 : decode cX7_ahead 25 = .ok (.iconst 1, 1) := by decide +kernel
theorem dX7_ahead_26 : decode cX7_ahead 26 = .ok (.goto 4, 3) := by decide +kernel
theorem dX7_ahead_29 : decode cX7_ahead 29 = .ok (.iconst 0, 1) := by decide +kernel
theorem dX7_ahead_30 : decode cX7_ahead 30 = .ok (.iload_n 1, 1) := by decide +kernel
theorem dX7_ahead_31 : decode cX7_ahead 31 = .ok (.invokevirtual 158, 3) := by decide +kernel
theorem dX7_ahead_34 : decode cX7_ahead 34 = .ok (.istore_n 3, 1) := by decide +kernel
theorem dX7_ahead_35 : decode cX7_ahead 35 = .ok (.iload_n 3, 1) := by decide +kernel
theorem dX7_ahead_36 : decode cX7_ahead 36 = .ok (.ifCond .lt 9, 3) := by decide +kernel
theorem dX7_ahead_39 : decode cX7_ahead 39 = .ok (.aload_n 0, 1) := by decide +kernel
theorem dX7_ahead_40 : decode cX7_ahead 40 = .ok (.iload_n 3, 1) := by decide +kernel
theorem dX7_ahead_41 : decode cX7_ahead 41 = .ok (.invokevirtual 51, 3) := by decide +kernel
theorem dX7_ahead_44 : decode cX7_ahead 44 = .ok (.ireturn, 1) := by decide +kernel
theorem dX7_ahead_45 : decode cX7_ahead 45 = .ok (.aload_n 0, 1) := by decide +kernel
theorem dX7_ahead_46 : decode cX7_ahead 46 = .ok (.invokevirtual 162, 3) := by decide +kernel
theorem dX7_ahead_49 : decode cX7_ahead 49 = .ok (.aload_n 0, 1) := by decide +kernel
theorem dX7_ahead_50 : decode cX7_ahead 50 = .ok (.iload_n 1, 1) := by decide +kernel
theorem dX7_ahead_51 : decode cX7_ahead 51 = .ok (.invokevirtual 124, 3) := by decide +kernel
theorem dX7_ahead_54 : decode cX7_ahead 54 = .ok (.istore 4, 2) := by decide +kernel
theorem dX7_ahead_56 : decode cX7_ahead 56 = .ok (.iload_n 2, 1) := by decide +kernel
theorem dX7_ahead_57 : decode cX7_ahead 57 = .ok (.ifCond .ne 12, 3) := by decide +kernel
theorem dX7_ahead_60 : decode cX7_ahead 60 = .ok (.aload_n 0, 1) := by decide +kernel
theorem dX7_ahead_61 : decode cX7_ahead 61 = .ok (.getfield 7, 3) := by decide +kernel
theorem dX7_ahead_64 : decode cX7_ahead 64 = .ok (.iconst 4, 1) := by decide +kernel
theorem dX7_ahead_65 : decode cX7_ahead 65 = .ok (.iaload, 1) := by decide +kernel
theorem dX7_ahead_66 : decode cX7_ahead 66 = .ok (.goto 68, 3) := by decide +kernel
theorem dX7_ahead_69 : decode cX7_ahead 69 = .ok (.iload_n 2, 1) := by decide +kernel
theorem dX7_ahead_70 : decode cX7_ahead 70 = .ok (.iconst 1, 1) := by decide +kernel
theorem dX7_ahead_71 : decode cX7_ahead 71 = .ok (.if_icmp .ne 10, 3) := by decide +kernel
theorem dX7_ahead_74 : decode cX7_ahead 74 = .ok (.aload_n 0, 1) := by decide +kernel
theorem dX7_ahead_75 : decode cX7_ahead 75 = .ok (.getfield 101, 3) := by decide +kernel
theorem dX7_ahead_78 : decode cX7_ahead 78 = .ok (.goto 56, 3) := by decide +kernel
theorem dX7_ahead_81 : decode cX7_ahead 81 = .ok (.iload_n 2, 1) := by decide +kernel
theorem dX7_ahead_82 : decode cX7_ahead 82 = .ok (.iconst 2, 1) := by decide +kernel
theorem dX7_ahead_83 : decode cX7_ahead 83 = .ok (.if_icmp .ne 11, 3) := by decide +kernel
theorem dX7_ahead_86 : decode cX7_ahead 86 = .ok (.aload_n 0, 1) := by decide +kernel
theorem dX7_ahead_87 : decode cX7_ahead 87 = .ok (.iconst 4, 1) := by decide +kernel
theorem dX7_ahead_88 : decode cX7_ahead 88 = .ok (.invokevirtual 78, 3) := by decide +kernel
theorem dX7_ahead_91 : decode cX7_ahead 91 = .ok (.goto 43, 3) := by decide +kernel
theorem dX7_ahead_94 : decode cX7_ahead 94 = .ok (.iload_n 2, 1) := by decide +kernel
theorem dX7_ahead_95 : decode cX7_ahead 95 = .ok (.iconst 3, 1) := by decide +kernel
theorem dX7_ahead_96 : decode cX7_ahead 96 = .ok (.if_icmp .ne 21, 3) := by decide +kernel
theorem dX7_ahead_99 : decode cX7_ahead 99 = .ok (.aload_n 0, 1) := by decide +kernel
theorem dX7_ahead_100 : decode cX7_ahead 100 = .ok (.getfield 7, 3) := by decide +kernel
theorem dX7_ahead_103 : decode cX7_ahead 103 = .ok (.bipush 8, 2) := by decide +kernel
theorem dX7_ahead_105 : decode cX7_ahead 105 = .ok (.iaload, 1) := by decide +kernel
theorem dX7_ahead_106 : decode cX7_ahead 106 = .ok (.aload_n 0, 1) := by decide +kernel
theorem dX7_ahead_107 : decode cX7_ahead 107 = .ok (.getfield 13, 3) := by decide +kernel
theorem dX7_ahead_110 : decode cX7_ahead 110 = .ok (.bipush 8, 2) := by decide +kernel
theorem dX7_ahead_112 : decode cX7_ahead 112 = .ok (.iaload, 1) := by decide +kernel
theorem dX7_ahead_113 : decode cX7_ahead 113 = .ok (.isub, 1) := by decide +kernel
theorem dX7_ahead_114 : decode cX7_ahead 114 = .ok (.goto 20, 3) := by decide +kernel
theorem dX7_ahead_117 : decode cX7_ahead 117 = .ok (.iload_n 2, 1) := by decide +kernel
theorem dX7_ahead_118 : decode cX7_ahead 118 = .ok (.iconst 4, 1) := by decide +kernel
theorem dX7_ahead_119 : decode cX7_ahead 119 = .ok (.if_icmp .ne 8, 3) := by decide +kernel
theorem dX7_ahead_122 : decode cX7_ahead 122 = .ok (.iload 4, 2) := by decide +kernel
theorem dX7_ahead_124 : decode cX7_ahead 124 = .ok (.goto 10, 3) := by decide +kernel
theorem dX7_ahead_127 : decode cX7_ahead 127 = .ok (.aload_n 0, 1) := by decide +kernel
theorem dX7_ahead_128 : decode cX7_ahead 128 = .ok (.getfield 7, 3) := by decide +kernel
theorem dX7_ahead_131 : decode cX7_ahead 131 = .ok (.bipush 6, 2) := by decide +kernel
theorem dX7_ahead_133 : decode cX7_ahead 133 = .ok (.iaload, 1) := by decide +kernel
theorem dX7_ahead_134 : decode cX7_ahead 134 = .ok (.istore 5, 2) := by decide +kernel
theorem dX7_ahead_136 : decode cX7_ahead 136 = .ok (.aload_n 0, 1) := by decide +kernel
theorem dX7_ahead_137 : decode cX7_ahead 137 = .ok (.invokevirtual 165, 3) := by decide +kernel
theorem dX7_ahead_140 : decode cX7_ahead 140 = .ok (.iload 5, 2) := by decide +kernel
theorem dX7_ahead_142 : decode cX7_ahead 142 = .ok (.ireturn, 1) := by decide +kernel
theorem dX7_monday_0 : decode cX7_monday 0 = .ok (.aload_n 0, 1) := by decide +kernel
theorem dX7_monday_1 : decode cX7_monday 1 = .ok (.getfield 7, 3) := by decide +kernel
theorem dX7_monday_4 : decode cX7_monday 4 = .ok (.bipush 6, 2) := by decide +kernel
theorem dX7_monday_6 : decode cX7_monday 6 = .ok (.iload_n 1, 1) := by decide +kernel
theorem dX7_monday_7 : decode cX7_monday 7 = .ok (.iastore, 1) := by decide +kernel
theorem dX7_monday_8 : decode cX7_monday 8 = .ok (.aload_n 0, 1) := by decide +kernel
theorem dX7_monday_9 : decode cX7_monday 9 = .ok (.getfield 7, 3) := by decide +kernel
theorem dX7_monday_12 : decode cX7_monday 12 = .ok (.bipush 7, 2) := by decide +kernel
theorem dX7_monday_14 : decode cX7_monday 14 = .ok (.iconst 0, 1) := by decide +kernel
theorem dX7_monday_15 : decode cX7_monday 15 = .ok (.iastore, 1) := by decide +kernel
theorem dX7_monday_16 : decode cX7_monday 16 = .ok (.aload_n 0, 1) := by decide +kernel
theorem dX7_monday_17 : decode cX7_monday 17 = .ok (.getfield 7, 3) := by decide +kernel
theorem dX7_monday_20 : decode cX7_monday 20 = .ok (.bipush 9, 2) := by decide +kernel
theorem dX7_monday_22 : decode cX7_monday 22 = .ok (.iconst 0, 1) := by decide +kernel
theorem dX7_monday_23 : decode cX7_monday 23 = .ok (.iastore, 1) := by decide +kernel
theorem dX7_monday_24 : decode cX7_monday 24 = .ok (.iconst 0, 1) := by decide +kernel
theorem dX7_monday_25 : decode cX7_monday 25 = .ok (.istore_n 2, 1) := by decide +kernel
theorem dX7_monday_26 : decode cX7_monday 26 = .ok (.iload_n 2, 1) := by decide +kernel
theorem dX7_monday_27 : decode cX7_monday 27 = .ok (.aload_n 0, 1) := by decide +kernel
theorem dX7_monday_28 : decode cX7_monday 28 = .ok (.getfield 7, 3) := by decide +kernel
theorem dX7_monday_31 : decode cX7_monday 31 = .ok (.iconst 0, 1) := by decide +kernel
theorem dX7_monday_32 : decode cX7_monday 32 = .ok (.iaload, 1) := by decide +kernel
theorem dX7_monday_33 : decode cX7_monday 33 = .ok (.if_icmp .ge 24, 3) := by decide +kernel
theorem dX7_monday_36 : decode cX7_monday 36 = .ok (.aload_n 0, 1) := by decide +kernel
theorem dX7_monday_37 : decode cX7_monday 37 = .ok (.iload_n 2, 1) := by decide +kernel
theorem dX7_monday_38 : decode cX7_monday 38 = .ok (.iconst 5, 1) := by decide +kernel
theorem dX7_monday_39 : decode cX7_monday 39 = .ok (.iconst 0, 1) := by decide +kernel
theorem dX7_monday_40 : decode cX7_monday 40 = .ok (.invokevirtual 43, 3) := by decide +kernel
theorem dX7_monday_43 : decode cX7_monday 43 = .ok (.aload_n 0, 1) := by decide +kernel
theorem dX7_monday_44 : decode cX7_monday 44 = .ok (.iload_n 2, 1) := by decide +kernel
theorem dX7_monday_45 : decode cX7_monday 45 = .ok (.bipush 6, 2) := by decide +kernel
theorem dX7_monday_47 : decode cX7_monday 47 = .ok (.iconst 0, 1) := by decide +kernel
theorem dX7_monday_48 : decode cX7_monday 48 = .ok (.invokevirtual 43, 3) := by decide +kernel
theorem dX7_monday_51 : decode cX7_monday 51 = .ok (.iinc 2 1, 3) := by decide +kernel
theorem dX7_monday_54 : decode cX7_monday 54 = .ok (.goto (-28), 3) := by decide +kernel
theorem dX7_monday_57 : decode cX7_monday 57 = .ok (.return_, 1) := by decide +kernel
theorem dX7_rests_0 : decode cX7_rests 0 = .ok (.aload_n 0, 1) := by decide +kernel
theorem dX7_rests_1 : decode cX7_rests 1 = .ok (.getfield 7, 3) := by decide +kernel
theorem dX7_rests_4 : decode cX7_rests 4 = .ok (.bipush 7, 2) := by decide +kernel
theorem dX7_rests_6 : decode cX7_rests 6 = .ok (.iaload, 1) := by decide +kernel
theorem dX7_rests_7 : decode cX7_rests 7 = .ok (.sipush 9990, 3) := by decide +kernel
theorem dX7_rests_10 : decode cX7_rests 10 = .ok (.if_icmp .le 9, 3) := by decide +kernel
theorem dX7_rests_13 : decode cX7_rests 13 = .ok (.aload_n 0, 1) := by decide +kernel
theorem dX7_rests_14 : decode cX7_rests 14 = .ok (.iconst 4, 1) := by decide +kernel
theorem dX7_rests_15 : decode cX7_rests 15 = .ok (.invokevirtual 51, 3) := by decide +kernel
theorem dX7_rests_18 : decode cX7_rests 18 = .ok (.ireturn, 1) := by decide +kernel
theorem dX7_rests_19 : decode cX7_rests 19 = .ok (.iconst 0, 1) := by decide +kernel
theorem dX7_rests_20 : decode cX7_rests 20 = .ok (.istore_n 1, 1) := by decide +kernel
theorem dX7_rests_21 : decode cX7_rests 21 = .ok (.iconst 0, 1) := by decide +kernel
theorem dX7_rests_22 : decode cX7_rests 22 = .ok (.istore_n 2, 1) := by decide +kernel
theorem dX7_rests_23 : decode cX7_rests 23 = .ok (.iload_n 2, 1) := by decide +kernel
theorem dX7_rests_24 : decode cX7_rests 24 = .ok (.bipush 11, 2) := by decide +kernel
theorem dX7_rests_26 : decode cX7_rests 26 = .ok (.if_icmp .ge 55, 3) := by decide +kernel
theorem dX7_rests_29 : decode cX7_rests 29 = .ok (.aload_n 0, 1) := by decide +kernel
theorem dX7_rests_30 : decode cX7_rests 30 = .ok (.invokevirtual 162, 3) := by decide +kernel
theorem dX7_rests_33 : decode cX7_rests 33 = .ok (.aload_n 0, 1) := by decide +kernel
theorem dX7_rests_34 : decode cX7_rests 34 = .ok (.bipush 10, 2) := by decide +kernel
theorem dX7_rests_36 : decode cX7_rests 36 = .ok (.iload_n 2, 1) := by decide +kernel
theorem dX7_rests_37 : decode cX7_rests 37 = .ok (.imul, 1) := by decide +kernel
theorem dX7_rests_38 : decode cX7_rests 38 = .ok (.invokevirtual 168, 3) := by decide +kernel
theorem dX7_rests_41 : decode cX7_rests 41 = .ok (.aload_n 0, 1) := by decide +kernel
theorem dX7_rests_42 : decode cX7_rests 42 = .ok (.iconst 5, 1) := by decide +kernel
theorem dX7_rests_43 : decode cX7_rests 43 = .ok (.invokevirtual 124, 3) := by decide +kernel
theorem dX7_rests_46 : decode cX7_rests 46 = .ok (.istore_n 3, 1) := by decide +kernel
theorem dX7_rests_47 : decode cX7_rests 47 = .ok (.iload_n 1, 1) := by decide +kernel
theorem dX7_rests_48 : decode cX7_rests 48 = .ok (.aload_n 0, 1) := by decide +kernel
theorem dX7_rests_49 : decode cX7_rests 49 = .ok (.getfield 7, 3) := by decide +kernel
theorem dX7_rests_52 : decode cX7_rests 52 = .ok (.bipush 6, 2) := by decide +kernel
theorem dX7_rests_54 : decode cX7_rests 54 = .ok (.iaload, 1) := by decide +kernel
theorem dX7_rests_55 : decode cX7_rests 55 = .ok (.bipush 10, 2) := by decide +kernel
theorem dX7_rests_57 : decode cX7_rests 57 = .ok (.iload_n 2, 1) := by decide +kernel
theorem dX7_rests_58 : decode cX7_rests 58 = .ok (.imul, 1) := by decide +kernel
theorem dX7_rests_59 : decode cX7_rests 59 = .ok (.if_icmp .ne 9, 3) := by decide +kernel
theorem dX7_rests_62 : decode cX7_rests 62 = .ok (.iconst 1, 1) := by decide +kernel
theorem dX7_rests_63 : decode cX7_rests 63 = .ok (.iload_n 2, 1) := by decide +kernel
theorem dX7_rests_64 : decode cX7_rests 64 = .ok (.ishl, 1) := by decide +kernel
theorem dX7_rests_65 : decode cX7_rests 65 = .ok (.goto 4, 3) := by decide +kernel
theorem dX7_rests_68 : decode cX7_rests 68 = .ok (.iconst 0, 1) := by decide +kernel
theorem dX7_rests_69 : decode cX7_rests 69 = .ok (.ior, 1) := by decide +kernel
theorem dX7_rests_70 : decode cX7_rests 70 = .ok (.istore_n 1, 1) := by decide +kernel
theorem dX7_rests_71 : decode cX7_rests 71 = .ok (.aload_n 0, 1) := by decide +kernel
theorem dX7_rests_72 : decode cX7_rests 72 = .ok (.invokevirtual 165, 3) := by decide +kernel
theorem dX7_rests_75 : decode cX7_rests 75 = .ok (.iinc 2 1, 3) := by decide +kernel
theorem dX7_rests_78 : decode cX7_rests 78 = .ok (.goto (-55), 3) := by decide +kernel
theorem dX7_rests_81 : decode cX7_rests 81 = .ok (.iload_n 1, 1) := by decide +kernel
theorem dX7_rests_82 : decode cX7_rests 82 = .ok (.ireturn, 1) := by decide +kernel
theorem dX7_tips_0 : decode cX7_tips 0 = .ok (.iload_n 1, 1) := by decide +kernel
theorem dX7_tips_1 : decode cX7_tips 1 = .ok (.i2l, 1) := by decide +kernel
theorem dX7_tips_2 : decode cX7_tips 2 = .ok (.lconst 0, 1) := by decide +kernel
theorem dX7_tips_3 : decode cX7_tips 3 = .ok (.ldc2_w 73, 3) := by decide +kernel
theorem dX7_tips_6 : decode cX7_tips 6 = .ok (.invokestatic 39, 3) := by decide +kernel
theorem dX7_tips_9 : decode cX7_tips 9 = .ok (.ifCond .eq 15, 3) := by decide +kernel
theorem dX7_tips_12 : decode cX7_tips 12 = .ok (.iload_n 2, 1) := by decide +kernel
theorem dX7_tips_13 : decode cX7_tips 13 = .ok (.i2l, 1) := by decide +kernel
theorem dX7_tips_14 : decode cX7_tips 14 = .ok (.lconst 1, 1) := by decide +kernel
theorem dX7_tips_15 : decode cX7_tips 15 = .ok (.ldc2_w 171, 3) := by decide +kernel
theorem dX7_tips_18 : decode cX7_tips 18 = .ok (.invokestatic 39, 3) := by decide +kernel
theorem dX7_tips_21 : decode cX7_tips 21 = .ok (.ifCond .ne 9, 3) := by decide +kernel
theorem dX7_tips_24 : decode cX7_tips 24 = .ok (.aload_n 0, 1) := by decide +kernel
theorem dX7_tips_25 : decode cX7_tips 25 = .ok (.iconst 0, 1) := by decide +kernel
theorem dX7_tips_26 : decode cX7_tips 26 = .ok (.invokevirtual 51, 3) := by decide +kernel
theorem dX7_tips_29 : decode cX7_tips 29 = .ok (.ireturn, 1) := by decide +kernel
theorem dX7_tips_30 : decode cX7_tips 30 = .ok (.aload_n 0, 1) := by decide +kernel
theorem dX7_tips_31 : decode cX7_tips 31 = .ok (.getfield 7, 3) := by decide +kernel
theorem dX7_tips_34 : decode cX7_tips 34 = .ok (.bipush 7, 2) := by decide +kernel
theorem dX7_tips_36 : decode cX7_tips 36 = .ok (.iaload, 1) := by decide +kernel
theorem dX7_tips_37 : decode cX7_tips 37 = .ok (.sipush 9940, 3) := by decide +kernel
theorem dX7_tips_40 : decode cX7_tips 40 = .ok (.if_icmp .le 9, 3) := by decide +kernel
theorem dX7_tips_43 : decode cX7_tips 43 = .ok (.aload_n 0, 1) := by decide +kernel
theorem dX7_tips_44 : decode cX7_tips 44 = .ok (.iconst 4, 1) := by decide +kernel
theorem dX7_tips_45 : decode cX7_tips 45 = .ok (.invokevirtual 51, 3) := by decide +kernel
theorem dX7_tips_48 : decode cX7_tips 48 = .ok (.ireturn, 1) := by decide +kernel
theorem dX7_tips_49 : decode cX7_tips 49 = .ok (.aload_n 0, 1) := by decide +kernel
theorem dX7_tips_50 : decode cX7_tips 50 = .ok (.invokevirtual 162, 3) := by decide +kernel
theorem dX7_tips_53 : decode cX7_tips 53 = .ok (.aload_n 0, 1) := by decide +kernel
theorem dX7_tips_54 : decode cX7_tips 54 = .ok (.iload_n 1, 1) := by decide +kernel
theorem dX7_tips_55 : decode cX7_tips 55 = .ok (.invokevirtual 168, 3) := by decide +kernel
theorem dX7_tips_58 : decode cX7_tips 58 = .ok (.aload_n 0, 1) := by decide +kernel
theorem dX7_tips_59 : decode cX7_tips 59 = .ok (.iconst 5, 1) := by decide +kernel
theorem dX7_tips_60 : decode cX7_tips 60 = .ok (.iload_n 2, 1) := by decide +kernel
theorem dX7_tips_61 : decode cX7_tips 61 = .ok (.imul, 1) := by decide +kernel
theorem dX7_tips_62 : decode cX7_tips 62 = .ok (.invokevirtual 124, 3) := by decide +kernel
theorem dX7_tips_65 : decode cX7_tips 65 = .ok (.istore_n 3, 1) := by decide +kernel
theorem dX7_tips_66 : decode cX7_tips 66 = .ok (.aload_n 0, 1) := by decide +kernel
theorem dX7_tips_67 : decode cX7_tips 67 = .ok (.getfield 7, 3) := by decide +kernel
theorem dX7_tips_70 : decode cX7_tips 70 = .ok (.bipush 6, 2) := by decide +kernel
theorem dX7_tips_72 : decode cX7_tips 72 = .ok (.iaload, 1) := by decide +kernel
theorem dX7_tips_73 : decode cX7_tips 73 = .ok (.istore 4, 2) := by decide +kernel
theorem dX7_tips_75 : decode cX7_tips 75 = .ok (.aload_n 0, 1) := by decide +kernel
theorem dX7_tips_76 : decode cX7_tips 76 = .ok (.invokevirtual 165, 3) := by decide +kernel
theorem dX7_tips_79 : decode cX7_tips 79 = .ok (.iload 4, 2) := by decide +kernel
theorem dX7_tips_81 : decode cX7_tips 81 = .ok (.ireturn, 1) := by decide +kernel
theorem dX7_comesWith_0 : decode cX7_comesWith 0 = .ok (.aload_n 0, 1) := by decide +kernel
theorem dX7_comesWith_1 : decode cX7_comesWith 1 = .ok (.invokevirtual 162, 3) := by decide +kernel
theorem dX7_comesWith_4 : decode cX7_comesWith 4 = .ok (.aload_n 0, 1) := by decide +kernel
theorem dX7_comesWith_5 : decode cX7_comesWith 5 = .ok (.getfield 7, 3) := by decide +kernel
theorem dX7_comesWith_8 : decode cX7_comesWith 8 = .ok (.iload_n 1, 1) := by decide +kernel
theorem dX7_comesWith_9 : decode cX7_comesWith 9 = .ok (.iload_n 2, 1) := by decide +kernel
theorem dX7_comesWith_10 : decode cX7_comesWith 10 = .ok (.iastore, 1) := by decide +kernel
theorem dX7_comesWith_11 : decode cX7_comesWith 11 = .ok (.aload_n 0, 1) := by decide +kernel
theorem dX7_comesWith_12 : decode cX7_comesWith 12 = .ok (.iload_n 3, 1) := by decide +kernel
theorem dX7_comesWith_13 : decode cX7_comesWith 13 = .ok (.invokevirtual 124, 3) := by decide +kernel
theorem dX7_comesWith_16 : decode cX7_comesWith 16 = .ok (.istore 4, 2) := by decide +kernel
theorem dX7_comesWith_18 : decode cX7_comesWith 18 = .ok (.aload_n 0, 1) := by decide +kernel
theorem dX7_comesWith_19 : decode cX7_comesWith 19 = .ok (.invokevirtual 165, 3) := by decide +kernel
theorem dX7_comesWith_22 : decode cX7_comesWith 22 = .ok (.iload 4, 2) := by decide +kernel
theorem dX7_comesWith_24 : decode cX7_comesWith 24 = .ok (.ireturn, 1) := by decide +kernel
theorem dX7_bestOf_0 : decode cX7_bestOf 0 = .ok (.iconst (-1), 1) := by decide +kernel
theorem dX7_bestOf_1 : decode cX7_bestOf 1 = .ok (.istore 4, 2) := by decide +kernel
theorem dX7_bestOf_3 : decode cX7_bestOf 3 = .ok (.iconst 0, 1) := by decide +kernel
theorem dX7_bestOf_4 : decode cX7_bestOf 4 = .ok (.istore 5, 2) := by decide +kernel
theorem dX7_bestOf_6 : decode cX7_bestOf 6 = .ok (.iconst 0, 1) := by decide +kernel
theorem dX7_bestOf_7 : decode cX7_bestOf 7 = .ok (.istore 6, 2) := by decide +kernel
theorem dX7_bestOf_9 : decode cX7_bestOf 9 = .ok (.iload 6, 2) := by decide +kernel
theorem dX7_bestOf_11 : decode cX7_bestOf 11 = .ok (.iload_n 2, 1) := by decide +kernel
theorem dX7_bestOf_12 : decode cX7_bestOf 12 = .ok (.if_icmp .gt 39, 3) := by decide +kernel
theorem dX7_bestOf_15 : decode cX7_bestOf 15 = .ok (.aload_n 0, 1) := by decide +kernel
theorem dX7_bestOf_16 : decode cX7_bestOf 16 = .ok (.iload_n 1, 1) := by decide +kernel
theorem dX7_bestOf_17 : decode cX7_bestOf 17 = .ok (.iload 6, 2) := by decide +kernel
theorem dX7_bestOf_19 : decode cX7_bestOf 19 = .ok (.iload_n 3, 1) := by decide +kernel
theorem dX7_bestOf_20 : decode cX7_bestOf 20 = .ok (.invokevirtual 173, 3) := by decide +kernel
theorem dX7_bestOf_23 : decode cX7_bestOf 23 = .ok (.istore 7, 2) := by decide +kernel
theorem dX7_bestOf_25 : decode cX7_bestOf 25 = .ok (.iload 4, 2) := by decide +kernel
theorem dX7_bestOf_27 : decode cX7_bestOf 27 = .ok (.ifCond .lt 10, 3) := by decide +kernel
theorem dX7_bestOf_30 : decode cX7_bestOf 30 = .ok (.iload 7, 2) := by decide +kernel
theorem dX7_bestOf_32 : decode cX7_bestOf 32 = .ok (.iload 5, 2) := by decide +kernel
theorem dX7_bestOf_34 : decode cX7_bestOf 34 = .ok (.if_icmp .le 11, 3) := by decide +kernel
theorem dX7_bestOf_37 : decode cX7_bestOf 37 = .ok (.iload 6, 2) := by decide +kernel
theorem dX7_bestOf_39 : decode cX7_bestOf 39 = .ok (.istore 4, 2) := by decide +kernel
theorem dX7_bestOf_41 : decode cX7_bestOf 41 = .ok (.iload 7, 2) := by decide +kernel
theorem dX7_bestOf_43 : decode cX7_bestOf 43 = .ok (.istore 5, 2) := by decide +kernel
theorem dX7_bestOf_45 : decode cX7_bestOf 45 = .ok (.iinc 6 1, 3) := by decide +kernel
theorem dX7_bestOf_48 : decode cX7_bestOf 48 = .ok (.goto (-39), 3) := by decide +kernel
theorem dX7_bestOf_51 : decode cX7_bestOf 51 = .ok (.iload 4, 2) := by decide +kernel
theorem dX7_bestOf_53 : decode cX7_bestOf 53 = .ok (.ireturn, 1) := by decide +kernel
theorem dX7_best_0 : decode cX7_best 0 = .ok (.aload_n 0, 1) := by decide +kernel
theorem dX7_best_1 : decode cX7_best 1 = .ok (.iload_n 1, 1) := by decide +kernel
theorem dX7_best_2 : decode cX7_best 2 = .ok (.i2l, 1) := by decide +kernel
theorem dX7_best_3 : decode cX7_best 3 = .ok (.lconst 1, 1) := by decide +kernel
theorem dX7_best_4 : decode cX7_best 4 = .ok (.ldc2_w 177, 3) := by decide +kernel
theorem dX7_best_7 : decode cX7_best 7 = .ok (.invokestatic 39, 3) := by decide +kernel
theorem dX7_best_10 : decode cX7_best 10 = .ok (.iload_n 1, 1) := by decide +kernel
theorem dX7_best_11 : decode cX7_best 11 = .ok (.invokevirtual 158, 3) := by decide +kernel
theorem dX7_best_14 : decode cX7_best 14 = .ok (.istore_n 2, 1) := by decide +kernel
theorem dX7_best_15 : decode cX7_best 15 = .ok (.iload_n 2, 1) := by decide +kernel
theorem dX7_best_16 : decode cX7_best 16 = .ok (.ifCond .lt 11, 3) := by decide +kernel
theorem dX7_best_19 : decode cX7_best 19 = .ok (.aload_n 0, 1) := by decide +kernel
theorem dX7_best_20 : decode cX7_best 20 = .ok (.iload_n 2, 1) := by decide +kernel
theorem dX7_best_21 : decode cX7_best 21 = .ok (.invokevirtual 51, 3) := by decide +kernel
theorem dX7_best_24 : decode cX7_best 24 = .ok (.goto 11, 3) := by decide +kernel
theorem dX7_best_27 : decode cX7_best 27 = .ok (.aload_n 0, 1) := by decide +kernel
theorem dX7_best_28 : decode cX7_best 28 = .ok (.iconst 1, 1) := by decide +kernel
theorem dX7_best_29 : decode cX7_best 29 = .ok (.bipush 99, 2) := by decide +kernel
theorem dX7_best_31 : decode cX7_best 31 = .ok (.iload_n 1, 1) := by decide +kernel
theorem dX7_best_32 : decode cX7_best 32 = .ok (.invokevirtual 179, 3) := by decide +kernel
theorem dX7_best_35 : decode cX7_best 35 = .ok (.ireturn, 1) := by decide +kernel
theorem dX7_sign_0 : decode cX7_sign 0 = .ok (.aload_n 0, 1) := by decide +kernel
theorem dX7_sign_1 : decode cX7_sign 1 = .ok (.iload_n 1, 1) := by decide +kernel
theorem dX7_sign_2 : decode cX7_sign 2 = .ok (.i2l, 1) := by decide +kernel
theorem dX7_sign_3 : decode cX7_sign 3 = .ok (.lconst 1, 1) := by decide +kernel
theorem dX7_sign_4 : decode cX7_sign 4 = .ok (.ldc2_w 119, 3) := by decide +kernel
theorem dX7_sign_7 : decode cX7_sign 7 = .ok (.invokestatic 39, 3) := by decide +kernel
theorem dX7_sign_10 : decode cX7_sign 10 = .ok (.iload_n 1, 1) := by decide +kernel
theorem dX7_sign_11 : decode cX7_sign 11 = .ok (.invokevirtual 158, 3) := by decide +kernel
theorem dX7_sign_14 : decode cX7_sign 14 = .ok (.istore_n 2, 1) := by decide +kernel
theorem dX7_sign_15 : decode cX7_sign 15 = .ok (.iload_n 2, 1) := by decide +kernel
theorem dX7_sign_16 : decode cX7_sign 16 = .ok (.ifCond .lt 11, 3) := by decide +kernel
theorem dX7_sign_19 : decode cX7_sign 19 = .ok (.aload_n 0, 1) := by decide +kernel
theorem dX7_sign_20 : decode cX7_sign 20 = .ok (.iload_n 2, 1) := by decide +kernel
theorem dX7_sign_21 : decode cX7_sign 21 = .ok (.invokevirtual 51, 3) := by decide +kernel
theorem dX7_sign_24 : decode cX7_sign 24 = .ok (.goto 10, 3) := by decide +kernel
theorem dX7_sign_27 : decode cX7_sign 27 = .ok (.aload_n 0, 1) := by decide +kernel
theorem dX7_sign_28 : decode cX7_sign 28 = .ok (.iconst 5, 1) := by decide +kernel
theorem dX7_sign_29 : decode cX7_sign 29 = .ok (.iconst 2, 1) := by decide +kernel
theorem dX7_sign_30 : decode cX7_sign 30 = .ok (.iload_n 1, 1) := by decide +kernel
theorem dX7_sign_31 : decode cX7_sign 31 = .ok (.invokevirtual 179, 3) := by decide +kernel
theorem dX7_sign_34 : decode cX7_sign 34 = .ok (.ireturn, 1) := by decide +kernel
theorem dX7_potFor_0 : decode cX7_potFor 0 = .ok (.aload_n 0, 1) := by decide +kernel
theorem dX7_potFor_1 : decode cX7_potFor 1 = .ok (.iload_n 1, 1) := by decide +kernel
theorem dX7_potFor_2 : decode cX7_potFor 2 = .ok (.i2l, 1) := by decide +kernel
theorem dX7_potFor_3 : decode cX7_potFor 3 = .ok (.lconst 1, 1) := by decide +kernel
theorem dX7_potFor_4 : decode cX7_potFor 4 = .ok (.ldc2_w 177, 3) := by decide +kernel
theorem dX7_potFor_7 : decode cX7_potFor 7 = .ok (.invokestatic 39, 3) := by decide +kernel
theorem dX7_potFor_10 : decode cX7_potFor 10 = .ok (.iload_n 1, 1) := by decide +kernel
theorem dX7_potFor_11 : decode cX7_potFor 11 = .ok (.invokevirtual 158, 3) := by decide +kernel
theorem dX7_potFor_14 : decode cX7_potFor 14 = .ok (.istore_n 2, 1) := by decide +kernel
theorem dX7_potFor_15 : decode cX7_potFor 15 = .ok (.iload_n 2, 1) := by decide +kernel
theorem dX7_potFor_16 : decode cX7_potFor 16 = .ok (.ifCond .lt 9, 3) := by decide +kernel
theorem dX7_potFor_19 : decode cX7_potFor 19 = .ok (.aload_n 0, 1) := by decide +kernel
theorem dX7_potFor_20 : decode cX7_potFor 20 = .ok (.iload_n 2, 1) := by decide +kernel
theorem dX7_potFor_21 : decode cX7_potFor 21 = .ok (.invokevirtual 51, 3) := by decide +kernel
theorem dX7_potFor_24 : decode cX7_potFor 24 = .ok (.ireturn, 1) := by decide +kernel
theorem dX7_potFor_25 : decode cX7_potFor 25 = .ok (.iconst 1, 1) := by decide +kernel
theorem dX7_potFor_26 : decode cX7_potFor 26 = .ok (.istore_n 3, 1) := by decide +kernel
theorem dX7_potFor_27 : decode cX7_potFor 27 = .ok (.iload_n 3, 1) := by decide +kernel
theorem dX7_potFor_28 : decode cX7_potFor 28 = .ok (.bipush 100, 2) := by decide +kernel
theorem dX7_potFor_30 : decode cX7_potFor 30 = .ok (.if_icmp .ge 69, 3) := by decide +kernel
theorem dX7_potFor_33 : decode cX7_potFor 33 = .ok (.aload_n 0, 1) := by decide +kernel
theorem dX7_potFor_34 : decode cX7_potFor 34 = .ok (.invokevirtual 162, 3) := by decide +kernel
theorem dX7_potFor_37 : decode cX7_potFor 37 = .ok (.aload_n 0, 1) := by decide +kernel
theorem dX7_potFor_38 : decode cX7_potFor 38 = .ok (.getfield 7, 3) := by decide +kernel
theorem dX7_potFor_41 : decode cX7_potFor 41 = .ok (.iconst 2, 1) := by decide +kernel
theorem dX7_potFor_42 : decode cX7_potFor 42 = .ok (.iload_n 3, 1) := by decide +kernel
theorem dX7_potFor_43 : decode cX7_potFor 43 = .ok (.iastore, 1) := by decide +kernel
theorem dX7_potFor_44 : decode cX7_potFor 44 = .ok (.aload_n 0, 1) := by decide +kernel
theorem dX7_potFor_45 : decode cX7_potFor 45 = .ok (.getfield 7, 3) := by decide +kernel
theorem dX7_potFor_48 : decode cX7_potFor 48 = .ok (.iconst 3, 1) := by decide +kernel
theorem dX7_potFor_49 : decode cX7_potFor 49 = .ok (.iload_n 3, 1) := by decide +kernel
theorem dX7_potFor_50 : decode cX7_potFor 50 = .ok (.iastore, 1) := by decide +kernel
theorem dX7_potFor_51 : decode cX7_potFor 51 = .ok (.aload_n 0, 1) := by decide +kernel
theorem dX7_potFor_52 : decode cX7_potFor 52 = .ok (.iload_n 1, 1) := by decide +kernel
theorem dX7_potFor_53 : decode cX7_potFor 53 = .ok (.invokevirtual 124, 3) := by decide +kernel
theorem dX7_potFor_56 : decode cX7_potFor 56 = .ok (.istore 4, 2) := by decide +kernel
theorem dX7_potFor_58 : decode cX7_potFor 58 = .ok (.aload_n 0, 1) := by decide +kernel
theorem dX7_potFor_59 : decode cX7_potFor 59 = .ok (.getfield 7, 3) := by decide +kernel
theorem dX7_potFor_62 : decode cX7_potFor 62 = .ok (.bipush 8, 2) := by decide +kernel
theorem dX7_potFor_64 : decode cX7_potFor 64 = .ok (.iaload, 1) := by decide +kernel
theorem dX7_potFor_65 : decode cX7_potFor 65 = .ok (.aload_n 0, 1) := by decide +kernel
theorem dX7_potFor_66 : decode cX7_potFor 66 = .ok (.getfield 13, 3) := by decide +kernel
theorem dX7_potFor_69 : decode cX7_potFor 69 = .ok (.bipush 8, 2) := by decide +kernel
theorem dX7_potFor_71 : decode cX7_potFor 71 = .ok (.iaload, 1) := by decide +kernel
theorem dX7_potFor_72 : decode cX7_potFor 72 = .ok (.if_icmp .ne 7, 3) := by decide +kernel
theorem dX7_potFor_75 : decode cX7_potFor 75 = .ok (.iconst 1, 1) := by decide +kernel
theorem dX7_potFor_76 : decode cX7_potFor 76 = .ok (.goto 4, 3) := by decide +kernel
theorem dX7_potFor_79 : decode cX7_potFor 79 = .ok (.iconst 0, 1) := by decide +kernel
theorem dX7_potFor_80 : decode cX7_potFor 80 = .ok (.istore 5, 2) := by decide +kernel
theorem dX7_potFor_82 : decode cX7_potFor 82 = .ok (.aload_n 0, 1) := by decide +kernel
theorem dX7_potFor_83 : decode cX7_potFor 83 = .ok (.invokevirtual 165, 3) := by decide +kernel
theorem dX7_potFor_86 : decode cX7_potFor 86 = .ok (.iload 5, 2) := by decide +kernel
theorem dX7_potFor_88 : decode cX7_potFor 88 = .ok (.ifCond .eq 5, 3) := by decide +kernel
theorem dX7_potFor_91 : decode cX7_potFor 91 = .ok (.iload_n 3, 1) := by decide +kernel
theorem dX7_potFor_92 : decode cX7_potFor 92 = .ok (.ireturn, 1) := by decide +kernel
theorem dX7_potFor_93 : decode cX7_potFor 93 = .ok (.iinc 3 1, 3) := by decide +kernel
theorem dX7_potFor_96 : decode cX7_potFor 96 = .ok (.goto (-69), 3) := by decide +kernel
theorem dX7_potFor_99 : decode cX7_potFor 99 = .ok (.aload_n 0, 1) := by decide +kernel
theorem dX7_potFor_100 : decode cX7_potFor 100 = .ok (.iconst 3, 1) := by decide +kernel
theorem dX7_potFor_101 : decode cX7_potFor 101 = .ok (.invokevirtual 51, 3) := by decide +kernel
theorem dX7_potFor_104 : decode cX7_potFor 104 = .ok (.ireturn, 1) := by decide +kernel
theorem dX7_kindFor_0 : decode cX7_kindFor 0 = .ok (.aload_n 0, 1) := by decide +kernel
theorem dX7_kindFor_1 : decode cX7_kindFor 1 = .ok (.aload_n 0, 1) := by decide +kernel
theorem dX7_kindFor_2 : decode cX7_kindFor 2 = .ok (.iload_n 1, 1) := by decide +kernel
theorem dX7_kindFor_3 : decode cX7_kindFor 3 = .ok (.invokevirtual 59, 3) := by decide +kernel
theorem dX7_kindFor_6 : decode cX7_kindFor 6 = .ok (.ifCond .eq 19, 3) := by decide +kernel
theorem dX7_kindFor_9 : decode cX7_kindFor 9 = .ok (.iload_n 2, 1) := by decide +kernel
theorem dX7_kindFor_10 : decode cX7_kindFor 10 = .ok (.i2l, 1) := by decide +kernel
theorem dX7_kindFor_11 : decode cX7_kindFor 11 = .ok (.lconst 1, 1) := by decide +kernel
theorem dX7_kindFor_12 : decode cX7_kindFor 12 = .ok (.ldc2_w 119, 3) := by decide +kernel
theorem dX7_kindFor_15 : decode cX7_kindFor 15 = .ok (.invokestatic 39, 3) := by decide +kernel
theorem dX7_kindFor_18 : decode cX7_kindFor 18 = .ok (.ifCond .eq 7, 3) := by decide +kernel
theorem dX7_kindFor_21 : decode cX7_kindFor 21 = .ok (.iconst 1, 1) := by decide +kernel
theorem dX7_kindFor_22 : decode cX7_kindFor 22 = .ok (.goto 4, 3) := by decide +kernel
theorem dX7_kindFor_25 : decode cX7_kindFor 25 = .ok (.iconst 0, 1) := by decide +kernel
theorem dX7_kindFor_26 : decode cX7_kindFor 26 = .ok (.iload_n 2, 1) := by decide +kernel
theorem dX7_kindFor_27 : decode cX7_kindFor 27 = .ok (.invokevirtual 158, 3) := by decide +kernel
theorem dX7_kindFor_30 : decode cX7_kindFor 30 = .ok (.istore_n 3, 1) := by decide +kernel
theorem dX7_kindFor_31 : decode cX7_kindFor 31 = .ok (.iload_n 3, 1) := by decide +kernel
theorem dX7_kindFor_32 : decode cX7_kindFor 32 = .ok (.ifCond .lt 9, 3) := by decide +kernel
theorem dX7_kindFor_35 : decode cX7_kindFor 35 = .ok (.aload_n 0, 1) := by decide +kernel
theorem dX7_kindFor_36 : decode cX7_kindFor 36 = .ok (.iload_n 3, 1) := by decide +kernel
theorem dX7_kindFor_37 : decode cX7_kindFor 37 = .ok (.invokevirtual 51, 3) := by decide +kernel
theorem dX7_kindFor_40 : decode cX7_kindFor 40 = .ok (.ireturn, 1) := by decide +kernel
theorem dX7_kindFor_41 : decode cX7_kindFor 41 = .ok (.iconst (-1), 1) := by decide +kernel
theorem dX7_kindFor_42 : decode cX7_kindFor 42 = .ok (.istore 4, 2) := by decide +kernel
theorem dX7_kindFor_44 : decode cX7_kindFor 44 = .ok (.iconst 0, 1) := by decide +kernel
theorem dX7_kindFor_45 : decode cX7_kindFor 45 = .ok (.istore 5, 2) := by decide +kernel
theorem dX7_kindFor_47 : decode cX7_kindFor 47 = .ok (.iconst 0, 1) := by decide +kernel
theorem dX7_kindFor_48 : decode cX7_kindFor 48 = .ok (.istore 6, 2) := by decide +kernel
theorem dX7_kindFor_50 : decode cX7_kindFor 50 = .ok (.iload 6, 2) := by decide +kernel
theorem dX7_kindFor_52 : decode cX7_kindFor 52 = .ok (.bipush 7, 2) := by decide +kernel
theorem dX7_kindFor_54 : decode cX7_kindFor 54 = .ok (.if_icmp .ge 67, 3) := by decide +kernel
theorem dX7_kindFor_57 : decode cX7_kindFor 57 = .ok (.aload_n 0, 1) := by decide +kernel
theorem dX7_kindFor_58 : decode cX7_kindFor 58 = .ok (.invokevirtual 162, 3) := by decide +kernel
theorem dX7_kindFor_61 : decode cX7_kindFor 61 = .ok (.aload_n 0, 1) := by decide +kernel
theorem dX7_kindFor_62 : decode cX7_kindFor 62 = .ok (.iload_n 1, 1) := by decide +kernel
theorem dX7_kindFor_63 : decode cX7_kindFor 63 = .ok (.iconst 0, 1) := by decide +kernel
theorem dX7_kindFor_64 : decode cX7_kindFor 64 = .ok (.iload 6, 2) := by decide +kernel
theorem dX7_kindFor_66 : decode cX7_kindFor 66 = .ok (.invokevirtual 43, 3) := by decide +kernel
theorem dX7_kindFor_69 : decode cX7_kindFor 69 = .ok (.aload_n 0, 1) := by decide +kernel
theorem dX7_kindFor_70 : decode cX7_kindFor 70 = .ok (.iload_n 2, 1) := by decide +kernel
theorem dX7_kindFor_71 : decode cX7_kindFor 71 = .ok (.invokevirtual 124, 3) := by decide +kernel
theorem dX7_kindFor_74 : decode cX7_kindFor 74 = .ok (.istore 7, 2) := by decide +kernel
theorem dX7_kindFor_76 : decode cX7_kindFor 76 = .ok (.aload_n 0, 1) := by decide +kernel
theorem dX7_kindFor_77 : decode cX7_kindFor 77 = .ok (.iload_n 1, 1) := by decide +kernel
theorem dX7_kindFor_78 : decode cX7_kindFor 78 = .ok (.iconst 2, 1) := by decide +kernel
theorem dX7_kindFor_79 : decode cX7_kindFor 79 = .ok (.invokevirtual 63, 3) := by decide +kernel
theorem dX7_kindFor_82 : decode cX7_kindFor 82 = .ok (.aload_n 0, 1) := by decide +kernel
theorem dX7_kindFor_83 : decode cX7_kindFor 83 = .ok (.iload_n 1, 1) := by decide +kernel
theorem dX7_kindFor_84 : decode cX7_kindFor 84 = .ok (.iconst 4, 1) := by decide +kernel
theorem dX7_kindFor_85 : decode cX7_kindFor 85 = .ok (.invokevirtual 63, 3) := by decide +kernel
theorem dX7_kindFor_88 : decode cX7_kindFor 88 = .ok (.isub, 1) := by decide +kernel
theorem dX7_kindFor_89 : decode cX7_kindFor 89 = .ok (.istore 8, 2) := by decide +kernel
theorem dX7_kindFor_91 : decode cX7_kindFor 91 = .ok (.aload_n 0, 1) := by decide +kernel
theorem dX7_kindFor_92 : decode cX7_kindFor 92 = .ok (.invokevirtual 165, 3) := by decide +kernel
theorem dX7_kindFor_95 : decode cX7_kindFor 95 = .ok (.iload 4, 2) := by decide +kernel
theorem dX7_kindFor_97 : decode cX7_kindFor 97 = .ok (.ifCond .lt 10, 3) := by decide +kernel
theorem dX7_kindFor_100 : decode cX7_kindFor 100 = .ok (.iload 8, 2) := by decide +kernel
theorem dX7_kindFor_102 : decode cX7_kindFor 102 = .ok (.iload 5, 2) := by decide +kernel
theorem dX7_kindFor_104 : decode cX7_kindFor 104 = .ok (.if_icmp .le 11, 3) := by decide +kernel
theorem dX7_kindFor_107 : decode cX7_kindFor 107 = .ok (.iload 6, 2) := by decide +kernel
theorem dX7_kindFor_109 : decode cX7_kindFor 109 = .ok (.istore 4, 2) := by decide +kernel
theorem dX7_kindFor_111 : decode cX7_kindFor 111 = .ok (.iload 8, 2) := by decide +kernel
theorem dX7_kindFor_113 : decode cX7_kindFor 113 = .ok (.istore 5, 2) := by decide +kernel
theorem dX7_kindFor_115 : decode cX7_kindFor 115 = .ok (.iinc 6 1, 3) := by decide +kernel
theorem dX7_kindFor_118 : decode cX7_kindFor 118 = .ok (.goto (-68), 3) := by decide +kernel
theorem dX7_kindFor_121 : decode cX7_kindFor 121 = .ok (.iload 4, 2) := by decide +kernel
theorem dX7_kindFor_123 : decode cX7_kindFor 123 = .ok (.ireturn, 1) := by decide +kernel
theorem dX7_told_0 : decode cX7_told 0 = .ok (.aload_n 0, 1) := by decide +kernel
theorem dX7_told_1 : decode cX7_told 1 = .ok (.aload_n 0, 1) := by decide +kernel
theorem dX7_told_2 : decode cX7_told 2 = .ok (.iload_n 1, 1) := by decide +kernel
theorem dX7_told_3 : decode cX7_told 3 = .ok (.invokevirtual 59, 3) := by decide +kernel
theorem dX7_told_6 : decode cX7_told 6 = .ok (.ifCond .eq 19, 3) := by decide +kernel
theorem dX7_told_9 : decode cX7_told 9 = .ok (.iload_n 2, 1) := by decide +kernel
theorem dX7_told_10 : decode cX7_told 10 = .ok (.i2l, 1) := by decide +kernel
theorem dX7_told_11 : decode cX7_told 11 = .ok (.lconst 1, 1) := by decide +kernel
theorem dX7_told_12 : decode cX7_told 12 = .ok (.ldc2_w 119, 3) := by decide +kernel
theorem dX7_told_15 : decode cX7_told 15 = .ok (.invokestatic 39, 3) := by decide +kernel
theorem dX7_told_18 : decode cX7_told 18 = .ok (.ifCond .eq 7, 3) := by decide +kernel
theorem dX7_told_21 : decode cX7_told 21 = .ok (.iconst 1, 1) := by decide +kernel
theorem dX7_told_22 : decode cX7_told 22 = .ok (.goto 4, 3) := by decide +kernel
theorem dX7_told_25 : decode cX7_told 25 = .ok (.iconst 0, 1) := by decide +kernel
theorem dX7_told_26 : decode cX7_told 26 = .ok (.iload_n 2, 1) := by decide +kernel
theorem dX7_told_27 : decode cX7_told 27 = .ok (.invokevirtual 158, 3) := by decide +kernel
theorem dX7_told_30 : decode cX7_told 30 = .ok (.istore_n 3, 1) := by decide +kernel
theorem dX7_told_31 : decode cX7_told 31 = .ok (.iload_n 3, 1) := by decide +kernel
theorem dX7_told_32 : decode cX7_told 32 = .ok (.ifCond .lt 9, 3) := by decide +kernel
theorem dX7_told_35 : decode cX7_told 35 = .ok (.aload_n 0, 1) := by decide +kernel
theorem dX7_told_36 : decode cX7_told 36 = .ok (.iload_n 3, 1) := by decide +kernel
theorem dX7_told_37 : decode cX7_told 37 = .ok (.invokevirtual 51, 3) := by decide +kernel
theorem dX7_told_40 : decode cX7_told 40 = .ok (.ireturn, 1) := by decide +kernel
theorem dX7_told_41 : decode cX7_told 41 = .ok (.bipush 12, 2) := by decide +kernel
theorem dX7_told_43 : decode cX7_told 43 = .ok (.bipush 7, 2) := by decide +kernel
theorem dX7_told_45 : decode cX7_told 45 = .ok (.iload_n 1, 1) := by decide +kernel
theorem dX7_told_46 : decode cX7_told 46 = .ok (.imul, 1) := by decide +kernel
theorem dX7_told_47 : decode cX7_told 47 = .ok (.iadd, 1) := by decide +kernel
theorem dX7_told_48 : decode cX7_told 48 = .ok (.iconst 0, 1) := by decide +kernel
theorem dX7_told_49 : decode cX7_told 49 = .ok (.iadd, 1) := by decide +kernel
theorem dX7_told_50 : decode cX7_told 50 = .ok (.istore 4, 2) := by decide +kernel
theorem dX7_told_52 : decode cX7_told 52 = .ok (.aload_n 0, 1) := by decide +kernel
theorem dX7_told_53 : decode cX7_told 53 = .ok (.iload 4, 2) := by decide +kernel
theorem dX7_told_55 : decode cX7_told 55 = .ok (.iconst 0, 1) := by decide +kernel
theorem dX7_told_56 : decode cX7_told 56 = .ok (.iload_n 2, 1) := by decide +kernel
theorem dX7_told_57 : decode cX7_told 57 = .ok (.invokevirtual 173, 3) := by decide +kernel
theorem dX7_told_60 : decode cX7_told 60 = .ok (.aload_n 0, 1) := by decide +kernel
theorem dX7_told_61 : decode cX7_told 61 = .ok (.iload 4, 2) := by decide +kernel
theorem dX7_told_63 : decode cX7_told 63 = .ok (.aload_n 0, 1) := by decide +kernel
theorem dX7_told_64 : decode cX7_told 64 = .ok (.getfield 7, 3) := by decide +kernel
theorem dX7_told_67 : decode cX7_told 67 = .ok (.iload 4, 2) := by decide +kernel
theorem dX7_told_69 : decode cX7_told 69 = .ok (.iaload, 1) := by decide +kernel
theorem dX7_told_70 : decode cX7_told 70 = .ok (.iload_n 2, 1) := by decide +kernel
theorem dX7_told_71 : decode cX7_told 71 = .ok (.invokevirtual 173, 3) := by decide +kernel
theorem dX7_told_74 : decode cX7_told 74 = .ok (.isub, 1) := by decide +kernel
theorem dX7_told_75 : decode cX7_told 75 = .ok (.ireturn, 1) := by decide +kernel
theorem dX7_drinking_0 : decode cX7_drinking 0 = .ok (.iconst 0, 1) := by decide +kernel
theorem dX7_drinking_1 : decode cX7_drinking 1 = .ok (.istore_n 1, 1) := by decide +kernel
theorem dX7_drinking_2 : decode cX7_drinking 2 = .ok (.iconst 0, 1) := by decide +kernel
theorem dX7_drinking_3 : decode cX7_drinking 3 = .ok (.istore_n 2, 1) := by decide +kernel
theorem dX7_drinking_4 : decode cX7_drinking 4 = .ok (.iload_n 2, 1) := by decide +kernel
theorem dX7_drinking_5 : decode cX7_drinking 5 = .ok (.aload_n 0, 1) := by decide +kernel
theorem dX7_drinking_6 : decode cX7_drinking 6 = .ok (.getfield 7, 3) := by decide +kernel
theorem dX7_drinking_9 : decode cX7_drinking 9 = .ok (.iconst 0, 1) := by decide +kernel
theorem dX7_drinking_10 : decode cX7_drinking 10 = .ok (.iaload, 1) := by decide +kernel
theorem dX7_drinking_11 : decode cX7_drinking 11 = .ok (.if_icmp .ge 26, 3) := by decide +kernel
theorem dX7_drinking_14 : decode cX7_drinking 14 = .ok (.iload_n 1, 1) := by decide +kernel
theorem dX7_drinking_15 : decode cX7_drinking 15 = .ok (.aload_n 0, 1) := by decide +kernel
theorem dX7_drinking_16 : decode cX7_drinking 16 = .ok (.iload_n 2, 1) := by decide +kernel
theorem dX7_drinking_17 : decode cX7_drinking 17 = .ok (.iconst 5, 1) := by decide +kernel
theorem dX7_drinking_18 : decode cX7_drinking 18 = .ok (.invokevirtual 63, 3) := by decide +kernel
theorem dX7_drinking_21 : decode cX7_drinking 21 = .ok (.ifCond .le 7, 3) := by decide +kernel
theorem dX7_drinking_24 : decode cX7_drinking 24 = .ok (.iconst 1, 1) := by decide +kernel
theorem dX7_drinking_25 : decode cX7_drinking 25 = .ok (.goto 4, 3) := by decide +kernel
theorem dX7_drinking_28 : decode cX7_drinking 28 = .ok (.iconst 0, 1) := by decide +kernel
theorem dX7_drinking_29 : decode cX7_drinking 29 = .ok (.iadd, 1) := by decide +kernel
theorem dX7_drinking_30 : decode cX7_drinking 30 = .ok (.istore_n 1, 1) := by decide +kernel
theorem dX7_drinking_31 : decode cX7_drinking 31 = .ok (.iinc 2 1, 3) := by decide +kernel
theorem dX7_drinking_34 : decode cX7_drinking 34 = .ok (.goto (-30), 3) := by decide +kernel
theorem dX7_drinking_37 : decode cX7_drinking 37 = .ok (.iload_n 1, 1) := by decide +kernel
theorem dX7_drinking_38 : decode cX7_drinking 38 = .ok (.ireturn, 1) := by decide +kernel
theorem dX7_uneven_0 : decode cX7_uneven 0 = .ok (.iload_n 1, 1) := by decide +kernel
theorem dX7_uneven_1 : decode cX7_uneven 1 = .ok (.i2l, 1) := by decide +kernel
theorem dX7_uneven_2 : decode cX7_uneven 2 = .ok (.lconst 0, 1) := by decide +kernel
theorem dX7_uneven_3 : decode cX7_uneven 3 = .ok (.ldc2_w 71, 3) := by decide +kernel
theorem dX7_uneven_6 : decode cX7_uneven 6 = .ok (.invokestatic 39, 3) := by decide +kernel
theorem dX7_uneven_9 : decode cX7_uneven 9 = .ok (.ifCond .ne 9, 3) := by decide +kernel
theorem dX7_uneven_12 : decode cX7_uneven 12 = .ok (.aload_n 0, 1) := by decide +kernel
theorem dX7_uneven_13 : decode cX7_uneven 13 = .ok (.iconst 0, 1) := by decide +kernel
theorem dX7_uneven_14 : decode cX7_uneven 14 = .ok (.invokevirtual 51, 3) := by decide +kernel
theorem dX7_uneven_17 : decode cX7_uneven 17 = .ok (.ireturn, 1) := by decide +kernel
theorem dX7_uneven_18 : decode cX7_uneven 18 = .ok (.aload_n 0, 1) := by decide +kernel
theorem dX7_uneven_19 : decode cX7_uneven 19 = .ok (.invokevirtual 182, 3) := by decide +kernel
theorem dX7_uneven_22 : decode cX7_uneven 22 = .ok (.istore_n 2, 1) := by decide +kernel
theorem dX7_uneven_23 : decode cX7_uneven 23 = .ok (.iload_n 2, 1) := by decide +kernel
theorem dX7_uneven_24 : decode cX7_uneven 24 = .ok (.ifCond .ne 9, 3) := by decide +kernel
theorem dX7_uneven_27 : decode cX7_uneven 27 = .ok (.aload_n 0, 1) := by decide +kernel
theorem dX7_uneven_28 : decode cX7_uneven 28 = .ok (.iconst 3, 1) := by decide +kernel
theorem dX7_uneven_29 : decode cX7_uneven 29 = .ok (.invokevirtual 51, 3) := by decide +kernel
theorem dX7_uneven_32 : decode cX7_uneven 32 = .ok (.ireturn, 1) := by decide +kernel
theorem dX7_uneven_33 : decode cX7_uneven 33 = .ok (.aload_n 0, 1) := by decide +kernel
theorem dX7_uneven_34 : decode cX7_uneven 34 = .ok (.getfield 7, 3) := by decide +kernel
theorem dX7_uneven_37 : decode cX7_uneven 37 = .ok (.iconst 1, 1) := by decide +kernel
theorem dX7_uneven_38 : decode cX7_uneven 38 = .ok (.iaload, 1) := by decide +kernel
theorem dX7_uneven_39 : decode cX7_uneven 39 = .ok (.aload_n 0, 1) := by decide +kernel
theorem dX7_uneven_40 : decode cX7_uneven 40 = .ok (.iconst 5, 1) := by decide +kernel
theorem dX7_uneven_41 : decode cX7_uneven 41 = .ok (.invokevirtual 78, 3) := by decide +kernel
theorem dX7_uneven_44 : decode cX7_uneven 44 = .ok (.imul, 1) := by decide +kernel
theorem dX7_uneven_45 : decode cX7_uneven 45 = .ok (.iload_n 2, 1) := by decide +kernel
theorem dX7_uneven_46 : decode cX7_uneven 46 = .ok (.idiv, 1) := by decide +kernel
theorem dX7_uneven_47 : decode cX7_uneven 47 = .ok (.istore_n 3, 1) := by decide +kernel
theorem dX7_uneven_48 : decode cX7_uneven 48 = .ok (.iconst (-1), 1) := by decide +kernel
theorem dX7_uneven_49 : decode cX7_uneven 49 = .ok (.istore 4, 2) := by decide +kernel
theorem dX7_uneven_51 : decode cX7_uneven 51 = .ok (.iconst (-1), 1) := by decide +kernel
theorem dX7_uneven_52 : decode cX7_uneven 52 = .ok (.istore 5, 2) := by decide +kernel
theorem dX7_uneven_54 : decode cX7_uneven 54 = .ok (.iconst 0, 1) := by decide +kernel
theorem dX7_uneven_55 : decode cX7_uneven 55 = .ok (.istore 6, 2) := by decide +kernel
theorem dX7_uneven_57 : decode cX7_uneven 57 = .ok (.iload 6, 2) := by decide +kernel
theorem dX7_uneven_59 : decode cX7_uneven 59 = .ok (.aload_n 0, 1) := by decide +kernel
theorem dX7_uneven_60 : decode cX7_uneven 60 = .ok (.getfield 7, 3) := by decide +kernel
theorem dX7_uneven_63 : decode cX7_uneven 63 = .ok (.iconst 0, 1) := by decide +kernel
end
section
theorem dX7_uneven_64 : decode cX7_uneven 64 = .ok (.iaload, 1) := by decide +kernel
theorem dX7_uneven_65 : decode cX7_uneven 65 = .ok (.if_icmp .ge 105, 3) := by decide +kernel
theorem dX7_uneven_68 : decode cX7_uneven 68 = .ok (.aload_n 0, 1) := by decide +kernel
theorem dX7_uneven_69 : decode cX7_uneven 69 = .ok (.iload 6, 2) := by decide +kernel
theorem dX7_uneven_71 : decode cX7_uneven 71 = .ok (.iconst 5, 1) := by decide +kernel
theorem dX7_uneven_72 : decode cX7_uneven 72 = .ok (.invokevirtual 63, 3) := by decide +kernel
theorem dX7_uneven_75 : decode cX7_uneven 75 = .ok (.istore 7, 2) := by decide +kernel
theorem dX7_uneven_77 : decode cX7_uneven 77 = .ok (.iload 7, 2) := by decide +kernel
theorem dX7_uneven_79 : decode cX7_uneven 79 = .ok (.ifCond .le 85, 3) := by decide +kernel
theorem dX7_uneven_82 : decode cX7_uneven 82 = .ok (.iload_n 1, 1) := by decide +kernel
theorem dX7_uneven_83 : decode cX7_uneven 83 = .ok (.ifCond .ne 14, 3) := by decide +kernel
theorem dX7_uneven_86 : decode cX7_uneven 86 = .ok (.aload_n 0, 1) := by decide +kernel
theorem dX7_uneven_87 : decode cX7_uneven 87 = .ok (.iload 6, 2) := by decide +kernel
theorem dX7_uneven_89 : decode cX7_uneven 89 = .ok (.bipush 6, 2) := by decide +kernel
theorem dX7_uneven_91 : decode cX7_uneven 91 = .ok (.invokevirtual 63, 3) := by decide +kernel
theorem dX7_uneven_94 : decode cX7_uneven 94 = .ok (.goto 21, 3) := by decide +kernel
theorem dX7_uneven_97 : decode cX7_uneven 97 = .ok (.iload_n 1, 1) := by decide +kernel
theorem dX7_uneven_98 : decode cX7_uneven 98 = .ok (.iconst 1, 1) := by decide +kernel
theorem dX7_uneven_99 : decode cX7_uneven 99 = .ok (.if_icmp .ne 15, 3) := by decide +kernel
theorem dX7_uneven_102 : decode cX7_uneven 102 = .ok (.aload_n 0, 1) := by decide +kernel
theorem dX7_uneven_103 : decode cX7_uneven 103 = .ok (.getfield 7, 3) := by decide +kernel
theorem dX7_uneven_106 : decode cX7_uneven 106 = .ok (.iconst 1, 1) := by decide +kernel
theorem dX7_uneven_107 : decode cX7_uneven 107 = .ok (.iaload, 1) := by decide +kernel
theorem dX7_uneven_108 : decode cX7_uneven 108 = .ok (.iload 7, 2) := by decide +kernel
theorem dX7_uneven_110 : decode cX7_uneven 110 = .ok (.imul, 1) := by decide +kernel
theorem dX7_uneven_111 : decode cX7_uneven 111 = .ok (.goto 4, 3) := by decide +kernel
theorem dX7_uneven_114 : decode cX7_uneven 114 = .ok (.iload_n 3, 1) := by decide +kernel
theorem dX7_uneven_115 : decode cX7_uneven 115 = .ok (.istore 8, 2) := by decide +kernel
theorem dX7_uneven_117 : decode cX7_uneven 117 = .ok (.iload 8, 2) := by decide +kernel
theorem dX7_uneven_119 : decode cX7_uneven 119 = .ok (.bipush 100, 2) := by decide +kernel
theorem dX7_uneven_121 : decode cX7_uneven 121 = .ok (.imul, 1) := by decide +kernel
theorem dX7_uneven_122 : decode cX7_uneven 122 = .ok (.iload 7, 2) := by decide +kernel
theorem dX7_uneven_124 : decode cX7_uneven 124 = .ok (.idiv, 1) := by decide +kernel
theorem dX7_uneven_125 : decode cX7_uneven 125 = .ok (.istore 9, 2) := by decide +kernel
theorem dX7_uneven_127 : decode cX7_uneven 127 = .ok (.iload 9, 2) := by decide +kernel
theorem dX7_uneven_129 : decode cX7_uneven 129 = .ok (.iload 4, 2) := by decide +kernel
theorem dX7_uneven_131 : decode cX7_uneven 131 = .ok (.if_icmp .le 8, 3) := by decide +kernel
theorem dX7_uneven_134 : decode cX7_uneven 134 = .ok (.iload 9, 2) := by decide +kernel
theorem dX7_uneven_136 : decode cX7_uneven 136 = .ok (.goto 5, 3) := by decide +kernel
theorem dX7_uneven_139 : decode cX7_uneven 139 = .ok (.iload 4, 2) := by decide +kernel
theorem dX7_uneven_141 : decode cX7_uneven 141 = .ok (.istore 4, 2) := by decide +kernel
theorem dX7_uneven_143 : decode cX7_uneven 143 = .ok (.iload 5, 2) := by decide +kernel
theorem dX7_uneven_145 : decode cX7_uneven 145 = .ok (.ifCond .lt 10, 3) := by decide +kernel
theorem dX7_uneven_148 : decode cX7_uneven 148 = .ok (.iload 9, 2) := by decide +kernel
theorem dX7_uneven_150 : decode cX7_uneven 150 = .ok (.iload 5, 2) := by decide +kernel
theorem dX7_uneven_152 : decode cX7_uneven 152 = .ok (.if_icmp .ge 8, 3) := by decide +kernel
theorem dX7_uneven_155 : decode cX7_uneven 155 = .ok (.iload 9, 2) := by decide +kernel
theorem dX7_uneven_157 : decode cX7_uneven 157 = .ok (.goto 5, 3) := by decide +kernel
theorem dX7_uneven_160 : decode cX7_uneven 160 = .ok (.iload 5, 2) := by decide +kernel
theorem dX7_uneven_162 : decode cX7_uneven 162 = .ok (.istore 5, 2) := by decide +kernel
theorem dX7_uneven_164 : decode cX7_uneven 164 = .ok (.iinc 6 1, 3) := by decide +kernel
theorem dX7_uneven_167 : decode cX7_uneven 167 = .ok (.goto (-110), 3) := by decide +kernel
theorem dX7_uneven_170 : decode cX7_uneven 170 = .ok (.iload 4, 2) := by decide +kernel
theorem dX7_uneven_172 : decode cX7_uneven 172 = .ok (.iload 5, 2) := by decide +kernel
theorem dX7_uneven_174 : decode cX7_uneven 174 = .ok (.isub, 1) := by decide +kernel
theorem dX7_uneven_175 : decode cX7_uneven 175 = .ok (.ireturn, 1) := by decide +kernel
theorem dX7_strokes_0 : decode cX7_strokes 0 = .ok (.iconst 0, 1) := by decide +kernel
theorem dX7_strokes_1 : decode cX7_strokes 1 = .ok (.istore_n 1, 1) := by decide +kernel
theorem dX7_strokes_2 : decode cX7_strokes 2 = .ok (.aload_n 0, 1) := by decide +kernel
theorem dX7_strokes_3 : decode cX7_strokes 3 = .ok (.iconst 5, 1) := by decide +kernel
theorem dX7_strokes_4 : decode cX7_strokes 4 = .ok (.invokevirtual 78, 3) := by decide +kernel
theorem dX7_strokes_7 : decode cX7_strokes 7 = .ok (.istore_n 2, 1) := by decide +kernel
theorem dX7_strokes_8 : decode cX7_strokes 8 = .ok (.iload_n 2, 1) := by decide +kernel
theorem dX7_strokes_9 : decode cX7_strokes 9 = .ok (.ifCond .le 38, 3) := by decide +kernel
theorem dX7_strokes_12 : decode cX7_strokes 12 = .ok (.aload_n 0, 1) := by decide +kernel
theorem dX7_strokes_13 : decode cX7_strokes 13 = .ok (.invokevirtual 86, 3) := by decide +kernel
theorem dX7_strokes_16 : decode cX7_strokes 16 = .ok (.bipush 10, 2) := by decide +kernel
theorem dX7_strokes_18 : decode cX7_strokes 18 = .ok (.irem, 1) := by decide +kernel
theorem dX7_strokes_19 : decode cX7_strokes 19 = .ok (.istore_n 3, 1) := by decide +kernel
theorem dX7_strokes_20 : decode cX7_strokes 20 = .ok (.iload_n 1, 1) := by decide +kernel
theorem dX7_strokes_21 : decode cX7_strokes 21 = .ok (.iload_n 3, 1) := by decide +kernel
theorem dX7_strokes_22 : decode cX7_strokes 22 = .ok (.ifCond .ne 7, 3) := by decide +kernel
theorem dX7_strokes_25 : decode cX7_strokes 25 = .ok (.iconst 0, 1) := by decide +kernel
theorem dX7_strokes_26 : decode cX7_strokes 26 = .ok (.goto 13, 3) := by decide +kernel
theorem dX7_strokes_29 : decode cX7_strokes 29 = .ok (.iload_n 3, 1) := by decide +kernel
theorem dX7_strokes_30 : decode cX7_strokes 30 = .ok (.iconst 1, 1) := by decide +kernel
theorem dX7_strokes_31 : decode cX7_strokes 31 = .ok (.if_icmp .ne 7, 3) := by decide +kernel
theorem dX7_strokes_34 : decode cX7_strokes 34 = .ok (.iconst 2, 1) := by decide +kernel
theorem dX7_strokes_35 : decode cX7_strokes 35 = .ok (.goto 4, 3) := by decide +kernel
theorem dX7_strokes_38 : decode cX7_strokes 38 = .ok (.iconst 1, 1) := by decide +kernel
theorem dX7_strokes_39 : decode cX7_strokes 39 = .ok (.iadd, 1) := by decide +kernel
theorem dX7_strokes_40 : decode cX7_strokes 40 = .ok (.istore_n 1, 1) := by decide +kernel
theorem dX7_strokes_41 : decode cX7_strokes 41 = .ok (.iinc 2 (-1), 3) := by decide +kernel
theorem dX7_strokes_44 : decode cX7_strokes 44 = .ok (.goto (-36), 3) := by decide +kernel
theorem dX7_strokes_47 : decode cX7_strokes 47 = .ok (.iload_n 1, 1) := by decide +kernel
theorem dX7_strokes_48 : decode cX7_strokes 48 = .ok (.ireturn, 1) := by decide +kernel
theorem dX7_lacks_0 : decode cX7_lacks 0 = .ok (.aload_n 0, 1) := by decide +kernel
theorem dX7_lacks_1 : decode cX7_lacks 1 = .ok (.getfield 7, 3) := by decide +kernel
theorem dX7_lacks_4 : decode cX7_lacks 4 = .ok (.iconst 1, 1) := by decide +kernel
theorem dX7_lacks_5 : decode cX7_lacks 5 = .ok (.iaload, 1) := by decide +kernel
theorem dX7_lacks_6 : decode cX7_lacks 6 = .ok (.aload_n 0, 1) := by decide +kernel
theorem dX7_lacks_7 : decode cX7_lacks 7 = .ok (.iconst 5, 1) := by decide +kernel
theorem dX7_lacks_8 : decode cX7_lacks 8 = .ok (.invokevirtual 78, 3) := by decide +kernel
theorem dX7_lacks_11 : decode cX7_lacks 11 = .ok (.imul, 1) := by decide +kernel
theorem dX7_lacks_12 : decode cX7_lacks 12 = .ok (.aload_n 0, 1) := by decide +kernel
theorem dX7_lacks_13 : decode cX7_lacks 13 = .ok (.bipush 6, 2) := by decide +kernel
theorem dX7_lacks_15 : decode cX7_lacks 15 = .ok (.invokevirtual 78, 3) := by decide +kernel
theorem dX7_lacks_18 : decode cX7_lacks 18 = .ok (.isub, 1) := by decide +kernel
theorem dX7_lacks_19 : decode cX7_lacks 19 = .ok (.aload_n 0, 1) := by decide +kernel
theorem dX7_lacks_20 : decode cX7_lacks 20 = .ok (.iconst 4, 1) := by decide +kernel
theorem dX7_lacks_21 : decode cX7_lacks 21 = .ok (.invokevirtual 78, 3) := by decide +kernel
theorem dX7_lacks_24 : decode cX7_lacks 24 = .ok (.isub, 1) := by decide +kernel
theorem dX7_lacks_25 : decode cX7_lacks 25 = .ok (.ireturn, 1) := by decide +kernel
theorem dX7_owes_0 : decode cX7_owes 0 = .ok (.iconst (-1), 1) := by decide +kernel
theorem dX7_owes_1 : decode cX7_owes 1 = .ok (.istore_n 1, 1) := by decide +kernel
theorem dX7_owes_2 : decode cX7_owes 2 = .ok (.iconst 0, 1) := by decide +kernel
theorem dX7_owes_3 : decode cX7_owes 3 = .ok (.istore_n 2, 1) := by decide +kernel
theorem dX7_owes_4 : decode cX7_owes 4 = .ok (.iconst 0, 1) := by decide +kernel
theorem dX7_owes_5 : decode cX7_owes 5 = .ok (.istore_n 3, 1) := by decide +kernel
theorem dX7_owes_6 : decode cX7_owes 6 = .ok (.iload_n 3, 1) := by decide +kernel
theorem dX7_owes_7 : decode cX7_owes 7 = .ok (.aload_n 0, 1) := by decide +kernel
theorem dX7_owes_8 : decode cX7_owes 8 = .ok (.getfield 7, 3) := by decide +kernel
theorem dX7_owes_11 : decode cX7_owes 11 = .ok (.iconst 0, 1) := by decide +kernel
theorem dX7_owes_12 : decode cX7_owes 12 = .ok (.iaload, 1) := by decide +kernel
theorem dX7_owes_13 : decode cX7_owes 13 = .ok (.if_icmp .ge 47, 3) := by decide +kernel
theorem dX7_owes_16 : decode cX7_owes 16 = .ok (.aload_n 0, 1) := by decide +kernel
theorem dX7_owes_17 : decode cX7_owes 17 = .ok (.getfield 7, 3) := by decide +kernel
theorem dX7_owes_20 : decode cX7_owes 20 = .ok (.iconst 1, 1) := by decide +kernel
theorem dX7_owes_21 : decode cX7_owes 21 = .ok (.iaload, 1) := by decide +kernel
theorem dX7_owes_22 : decode cX7_owes 22 = .ok (.aload_n 0, 1) := by decide +kernel
theorem dX7_owes_23 : decode cX7_owes 23 = .ok (.iload_n 3, 1) := by decide +kernel
theorem dX7_owes_24 : decode cX7_owes 24 = .ok (.iconst 5, 1) := by decide +kernel
theorem dX7_owes_25 : decode cX7_owes 25 = .ok (.invokevirtual 63, 3) := by decide +kernel
theorem dX7_owes_28 : decode cX7_owes 28 = .ok (.imul, 1) := by decide +kernel
theorem dX7_owes_29 : decode cX7_owes 29 = .ok (.aload_n 0, 1) := by decide +kernel
theorem dX7_owes_30 : decode cX7_owes 30 = .ok (.iload_n 3, 1) := by decide +kernel
theorem dX7_owes_31 : decode cX7_owes 31 = .ok (.bipush 6, 2) := by decide +kernel
theorem dX7_owes_33 : decode cX7_owes 33 = .ok (.invokevirtual 63, 3) := by decide +kernel
theorem dX7_owes_36 : decode cX7_owes 36 = .ok (.isub, 1) := by decide +kernel
theorem dX7_owes_37 : decode cX7_owes 37 = .ok (.istore 4, 2) := by decide +kernel
theorem dX7_owes_39 : decode cX7_owes 39 = .ok (.iload_n 1, 1) := by decide +kernel
theorem dX7_owes_40 : decode cX7_owes 40 = .ok (.ifCond .lt 9, 3) := by decide +kernel
theorem dX7_owes_43 : decode cX7_owes 43 = .ok (.iload 4, 2) := by decide +kernel
theorem dX7_owes_45 : decode cX7_owes 45 = .ok (.iload_n 2, 1) := by decide +kernel
theorem dX7_owes_46 : decode cX7_owes 46 = .ok (.if_icmp .le 8, 3) := by decide +kernel
theorem dX7_owes_49 : decode cX7_owes 49 = .ok (.iload_n 3, 1) := by decide +kernel
theorem dX7_owes_50 : decode cX7_owes 50 = .ok (.istore_n 1, 1) := by decide +kernel
theorem dX7_owes_51 : decode cX7_owes 51 = .ok (.iload 4, 2) := by decide +kernel
theorem dX7_owes_53 : decode cX7_owes 53 = .ok (.istore_n 2, 1) := by decide +kernel
theorem dX7_owes_54 : decode cX7_owes 54 = .ok (.iinc 3 1, 3) := by decide +kernel
theorem dX7_owes_57 : decode cX7_owes 57 = .ok (.goto (-51), 3) := by decide +kernel
theorem dX7_owes_60 : decode cX7_owes 60 = .ok (.iload_n 1, 1) := by decide +kernel
theorem dX7_owes_61 : decode cX7_owes 61 = .ok (.ifCond .ge 11, 3) := by decide +kernel
theorem dX7_owes_64 : decode cX7_owes 64 = .ok (.aload_n 0, 1) := by decide +kernel
theorem dX7_owes_65 : decode cX7_owes 65 = .ok (.iconst 3, 1) := by decide +kernel
theorem dX7_owes_66 : decode cX7_owes 66 = .ok (.invokevirtual 51, 3) := by decide +kernel
theorem dX7_owes_69 : decode cX7_owes 69 = .ok (.goto 4, 3) := by decide +kernel
theorem dX7_owes_72 : decode cX7_owes 72 = .ok (.iload_n 1, 1) := by decide +kernel
theorem dX7_owes_73 : decode cX7_owes 73 = .ok (.ireturn, 1) := by decide +kernel
theorem dX7_odds_0 : decode cX7_odds 0 = .ok (.iload_n 1, 1) := by decide +kernel
theorem dX7_odds_1 : decode cX7_odds 1 = .ok (.i2l, 1) := by decide +kernel
theorem dX7_odds_2 : decode cX7_odds 2 = .ok (.lconst 1, 1) := by decide +kernel
theorem dX7_odds_3 : decode cX7_odds 3 = .ok (.ldc2_w 177, 3) := by decide +kernel
theorem dX7_odds_6 : decode cX7_odds 6 = .ok (.invokestatic 39, 3) := by decide +kernel
theorem dX7_odds_9 : decode cX7_odds 9 = .ok (.ifCond .eq 15, 3) := by decide +kernel
theorem dX7_odds_12 : decode cX7_odds 12 = .ok (.iload_n 2, 1) := by decide +kernel
theorem dX7_odds_13 : decode cX7_odds 13 = .ok (.i2l, 1) := by decide +kernel
theorem dX7_odds_14 : decode cX7_odds 14 = .ok (.lconst 0, 1) := by decide +kernel
theorem dX7_odds_15 : decode cX7_odds 15 = .ok (.ldc2_w 67, 3) := by decide +kernel
theorem dX7_odds_18 : decode cX7_odds 18 = .ok (.invokestatic 39, 3) := by decide +kernel
theorem dX7_odds_21 : decode cX7_odds 21 = .ok (.ifCond .ne 9, 3) := by decide +kernel
theorem dX7_odds_24 : decode cX7_odds 24 = .ok (.aload_n 0, 1) := by decide +kernel
theorem dX7_odds_25 : decode cX7_odds 25 = .ok (.iconst 0, 1) := by decide +kernel
theorem dX7_odds_26 : decode cX7_odds 26 = .ok (.invokevirtual 51, 3) := by decide +kernel
theorem dX7_odds_29 : decode cX7_odds 29 = .ok (.ireturn, 1) := by decide +kernel
theorem dX7_odds_30 : decode cX7_odds 30 = .ok (.aload_n 0, 1) := by decide +kernel
theorem dX7_odds_31 : decode cX7_odds 31 = .ok (.getfield 7, 3) := by decide +kernel
theorem dX7_odds_34 : decode cX7_odds 34 = .ok (.bipush 7, 2) := by decide +kernel
theorem dX7_odds_36 : decode cX7_odds 36 = .ok (.iaload, 1) := by decide +kernel
theorem dX7_odds_37 : decode cX7_odds 37 = .ok (.sipush 9994, 3) := by decide +kernel
theorem dX7_odds_40 : decode cX7_odds 40 = .ok (.if_icmp .le 9, 3) := by decide +kernel
theorem dX7_odds_43 : decode cX7_odds 43 = .ok (.aload_n 0, 1) := by decide +kernel
theorem dX7_odds_44 : decode cX7_odds 44 = .ok (.iconst 4, 1) := by decide +kernel
theorem dX7_odds_45 : decode cX7_odds 45 = .ok (.invokevirtual 51, 3) := by decide +kernel
theorem dX7_odds_48 : decode cX7_odds 48 = .ok (.ireturn, 1) := by decide +kernel
theorem dX7_odds_49 : decode cX7_odds 49 = .ok (.iconst 0, 1) := by decide +kernel
theorem dX7_odds_50 : decode cX7_odds 50 = .ok (.istore_n 3, 1) := by decide +kernel
theorem dX7_odds_51 : decode cX7_odds 51 = .ok (.iconst 0, 1) := by decide +kernel
theorem dX7_odds_52 : decode cX7_odds 52 = .ok (.istore 4, 2) := by decide +kernel
theorem dX7_odds_54 : decode cX7_odds 54 = .ok (.iload 4, 2) := by decide +kernel
theorem dX7_odds_56 : decode cX7_odds 56 = .ok (.iload_n 1, 1) := by decide +kernel
theorem dX7_odds_57 : decode cX7_odds 57 = .ok (.if_icmp .ge 52, 3) := by decide +kernel
theorem dX7_odds_60 : decode cX7_odds 60 = .ok (.aload_n 0, 1) := by decide +kernel
theorem dX7_odds_61 : decode cX7_odds 61 = .ok (.invokevirtual 162, 3) := by decide +kernel
theorem dX7_odds_64 : decode cX7_odds 64 = .ok (.iload_n 3, 1) := by decide +kernel
theorem dX7_odds_65 : decode cX7_odds 65 = .ok (.aload_n 0, 1) := by decide +kernel
theorem dX7_odds_66 : decode cX7_odds 66 = .ok (.iconst 5, 1) := by decide +kernel
theorem dX7_odds_67 : decode cX7_odds 67 = .ok (.invokevirtual 124, 3) := by decide +kernel
theorem dX7_odds_70 : decode cX7_odds 70 = .ok (.iload_n 2, 1) := by decide +kernel
theorem dX7_odds_71 : decode cX7_odds 71 = .ok (.if_icmp .lt 7, 3) := by decide +kernel
theorem dX7_odds_74 : decode cX7_odds 74 = .ok (.iconst 1, 1) := by decide +kernel
theorem dX7_odds_75 : decode cX7_odds 75 = .ok (.goto 4, 3) := by decide +kernel
theorem dX7_odds_78 : decode cX7_odds 78 = .ok (.iconst 0, 1) := by decide +kernel
theorem dX7_odds_79 : decode cX7_odds 79 = .ok (.iadd, 1) := by decide +kernel
theorem dX7_odds_80 : decode cX7_odds 80 = .ok (.istore_n 3, 1) := by decide +kernel
theorem dX7_odds_81 : decode cX7_odds 81 = .ok (.aload_n 0, 1) := by decide +kernel
theorem dX7_odds_82 : decode cX7_odds 82 = .ok (.getfield 7, 3) := by decide +kernel
theorem dX7_odds_85 : decode cX7_odds 85 = .ok (.bipush 10, 2) := by decide +kernel
theorem dX7_odds_87 : decode cX7_odds 87 = .ok (.iaload, 1) := by decide +kernel
theorem dX7_odds_88 : decode cX7_odds 88 = .ok (.istore 5, 2) := by decide +kernel
theorem dX7_odds_90 : decode cX7_odds 90 = .ok (.aload_n 0, 1) := by decide +kernel
theorem dX7_odds_91 : decode cX7_odds 91 = .ok (.invokevirtual 165, 3) := by decide +kernel
theorem dX7_odds_94 : decode cX7_odds 94 = .ok (.aload_n 0, 1) := by decide +kernel
theorem dX7_odds_95 : decode cX7_odds 95 = .ok (.getfield 7, 3) := by decide +kernel
theorem dX7_odds_98 : decode cX7_odds 98 = .ok (.bipush 10, 2) := by decide +kernel
theorem dX7_odds_100 : decode cX7_odds 100 = .ok (.iload 5, 2) := by decide +kernel
theorem dX7_odds_102 : decode cX7_odds 102 = .ok (.iastore, 1) := by decide +kernel
theorem dX7_odds_103 : decode cX7_odds 103 = .ok (.iinc 4 1, 3) := by decide +kernel
theorem dX7_odds_106 : decode cX7_odds 106 = .ok (.goto (-52), 3) := by decide +kernel
theorem dX7_odds_109 : decode cX7_odds 109 = .ok (.iload_n 3, 1) := by decide +kernel
theorem dX7_odds_110 : decode cX7_odds 110 = .ok (.ireturn, 1) := by decide +kernel
theorem dX7_seed_0 : decode cX7_seed 0 = .ok (.aload_n 0, 1) := by decide +kernel
theorem dX7_seed_1 : decode cX7_seed 1 = .ok (.getfield 7, 3) := by decide +kernel
theorem dX7_seed_4 : decode cX7_seed 4 = .ok (.bipush 10, 2) := by decide +kernel
theorem dX7_seed_6 : decode cX7_seed 6 = .ok (.iaload, 1) := by decide +kernel
theorem dX7_seed_7 : decode cX7_seed 7 = .ok (.istore_n 2, 1) := by decide +kernel
theorem dX7_seed_8 : decode cX7_seed 8 = .ok (.aload_n 0, 1) := by decide +kernel
theorem dX7_seed_9 : decode cX7_seed 9 = .ok (.getfield 7, 3) := by decide +kernel
theorem dX7_seed_12 : decode cX7_seed 12 = .ok (.bipush 10, 2) := by decide +kernel
theorem dX7_seed_14 : decode cX7_seed 14 = .ok (.iload_n 1, 1) := by decide +kernel
theorem dX7_seed_15 : decode cX7_seed 15 = .ok (.iastore, 1) := by decide +kernel
theorem dX7_seed_16 : decode cX7_seed 16 = .ok (.iload_n 2, 1) := by decide +kernel
theorem dX7_seed_17 : decode cX7_seed 17 = .ok (.ireturn, 1) := by decide +kernel
theorem dX7_feed_0 : decode cX7_feed 0 = .ok (.iload_n 2, 1) := by decide +kernel
theorem dX7_feed_1 : decode cX7_feed 1 = .ok (.i2l, 1) := by decide +kernel
theorem dX7_feed_2 : decode cX7_feed 2 = .ok (.lconst 1, 1) := by decide +kernel
theorem dX7_feed_3 : decode cX7_feed 3 = .ok (.ldc2_w 185, 3) := by decide +kernel
theorem dX7_feed_6 : decode cX7_feed 6 = .ok (.invokestatic 39, 3) := by decide +kernel
theorem dX7_feed_9 : decode cX7_feed 9 = .ok (.ifCond .ne 9, 3) := by decide +kernel
theorem dX7_feed_12 : decode cX7_feed 12 = .ok (.aload_n 0, 1) := by decide +kernel
theorem dX7_feed_13 : decode cX7_feed 13 = .ok (.iconst 0, 1) := by decide +kernel
theorem dX7_feed_14 : decode cX7_feed 14 = .ok (.invokevirtual 51, 3) := by decide +kernel
theorem dX7_feed_17 : decode cX7_feed 17 = .ok (.ireturn, 1) := by decide +kernel
theorem dX7_feed_18 : decode cX7_feed 18 = .ok (.aload_n 0, 1) := by decide +kernel
theorem dX7_feed_19 : decode cX7_feed 19 = .ok (.getfield 187, 3) := by decide +kernel
theorem dX7_feed_22 : decode cX7_feed 22 = .ok (.iload_n 2, 1) := by decide +kernel
theorem dX7_feed_23 : decode cX7_feed 23 = .ok (.iadd, 1) := by decide +kernel
theorem dX7_feed_24 : decode cX7_feed 24 = .ok (.bipush 120, 2) := by decide +kernel
theorem dX7_feed_26 : decode cX7_feed 26 = .ok (.if_icmp .le 9, 3) := by decide +kernel
theorem dX7_feed_29 : decode cX7_feed 29 = .ok (.aload_n 0, 1) := by decide +kernel
theorem dX7_feed_30 : decode cX7_feed 30 = .ok (.iconst 1, 1) := by decide +kernel
theorem dX7_feed_31 : decode cX7_feed 31 = .ok (.invokevirtual 51, 3) := by decide +kernel
theorem dX7_feed_34 : decode cX7_feed 34 = .ok (.ireturn, 1) := by decide +kernel
theorem dX7_feed_35 : decode cX7_feed 35 = .ok (.iload_n 2, 1) := by decide +kernel
theorem dX7_feed_36 : decode cX7_feed 36 = .ok (.iconst 1, 1) := by decide +kernel
theorem dX7_feed_37 : decode cX7_feed 37 = .ok (.isub, 1) := by decide +kernel
theorem dX7_feed_38 : decode cX7_feed 38 = .ok (.istore_n 3, 1) := by decide +kernel
theorem dX7_feed_39 : decode cX7_feed 39 = .ok (.iload_n 3, 1) := by decide +kernel
theorem dX7_feed_40 : decode cX7_feed 40 = .ok (.ifCond .lt 35, 3) := by decide +kernel
theorem dX7_feed_43 : decode cX7_feed 43 = .ok (.aload_n 0, 1) := by decide +kernel
theorem dX7_feed_44 : decode cX7_feed 44 = .ok (.getfield 22, 3) := by decide +kernel
theorem dX7_feed_47 : decode cX7_feed 47 = .ok (.aload_n 0, 1) := by decide +kernel
theorem dX7_feed_48 : decode cX7_feed 48 = .ok (.getfield 187, 3) := by decide +kernel
theorem dX7_feed_51 : decode cX7_feed 51 = .ok (.iload_n 1, 1) := by decide +kernel
theorem dX7_feed_52 : decode cX7_feed 52 = .ok (.bipush 8, 2) := by decide +kernel
theorem dX7_feed_54 : decode cX7_feed 54 = .ok (.iload_n 3, 1) := by decide +kernel
theorem dX7_feed_55 : decode cX7_feed 55 = .ok (.imul, 1) := by decide +kernel
theorem dX7_feed_56 : decode cX7_feed 56 = .ok (.ishr, 1) := by decide +kernel
theorem dX7_feed_57 : decode cX7_feed 57 = .ok (.i2b, 1) := by decide +kernel
theorem dX7_feed_58 : decode cX7_feed 58 = .ok (.bastore, 1) := by decide +kernel
theorem dX7_feed_59 : decode cX7_feed 59 = .ok (.aload_n 0, 1) := by decide +kernel
theorem dX7_feed_60 : decode cX7_feed 60 = .ok (.dup, 1) := by decide +kernel
theorem dX7_feed_61 : decode cX7_feed 61 = .ok (.getfield 187, 3) := by decide +kernel
theorem dX7_feed_64 : decode cX7_feed 64 = .ok (.iconst 1, 1) := by decide +kernel
theorem dX7_feed_65 : decode cX7_feed 65 = .ok (.iadd, 1) := by decide +kernel
theorem dX7_feed_66 : decode cX7_feed 66 = .ok (.putfield 187, 3) := by decide +kernel
theorem dX7_feed_69 : decode cX7_feed 69 = .ok (.iinc 3 (-1), 3) := by decide +kernel
theorem dX7_feed_72 : decode cX7_feed 72 = .ok (.goto (-33), 3) := by decide +kernel
theorem dX7_feed_75 : decode cX7_feed 75 = .ok (.aload_n 0, 1) := by decide +kernel
theorem dX7_feed_76 : decode cX7_feed 76 = .ok (.getfield 187, 3) := by decide +kernel
theorem dX7_feed_79 : decode cX7_feed 79 = .ok (.ireturn, 1) := by decide +kernel
theorem dX7_wipe_0 : decode cX7_wipe 0 = .ok (.aload_n 0, 1) := by decide +kernel
theorem dX7_wipe_1 : decode cX7_wipe 1 = .ok (.getfield 187, 3) := by decide +kernel
theorem dX7_wipe_4 : decode cX7_wipe 4 = .ok (.istore_n 1, 1) := by decide +kernel
theorem dX7_wipe_5 : decode cX7_wipe 5 = .ok (.aload_n 0, 1) := by decide +kernel
theorem dX7_wipe_6 : decode cX7_wipe 6 = .ok (.iconst 0, 1) := by decide +kernel
theorem dX7_wipe_7 : decode cX7_wipe 7 = .ok (.putfield 187, 3) := by decide +kernel
theorem dX7_wipe_10 : decode cX7_wipe 10 = .ok (.iload_n 1, 1) := by decide +kernel
theorem dX7_wipe_11 : decode cX7_wipe 11 = .ok (.ireturn, 1) := by decide +kernel
theorem dX7_letter_0 : decode cX7_letter 0 = .ok (.iload_n 0, 1) := by decide +kernel
theorem dX7_letter_1 : decode cX7_letter 1 = .ok (.bipush 97, 2) := by decide +kernel
theorem dX7_letter_3 : decode cX7_letter 3 = .ok (.if_icmp .lt 18, 3) := by decide +kernel
theorem dX7_letter_6 : decode cX7_letter 6 = .ok (.iload_n 0, 1) := by decide +kernel
theorem dX7_letter_7 : decode cX7_letter 7 = .ok (.bipush 122, 2) := by decide +kernel
theorem dX7_letter_9 : decode cX7_letter 9 = .ok (.if_icmp .gt 12, 3) := by decide +kernel
theorem dX7_letter_12 : decode cX7_letter 12 = .ok (.iload_n 0, 1) := by decide +kernel
theorem dX7_letter_13 : decode cX7_letter 13 = .ok (.bipush 97, 2) := by decide +kernel
theorem dX7_letter_15 : decode cX7_letter 15 = .ok (.isub, 1) := by decide +kernel
theorem dX7_letter_16 : decode cX7_letter 16 = .ok (.iconst 1, 1) := by decide +kernel
theorem dX7_letter_17 : decode cX7_letter 17 = .ok (.iadd, 1) := by decide +kernel
theorem dX7_letter_18 : decode cX7_letter 18 = .ok (.goto 4, 3) := by decide +kernel
theorem dX7_letter_21 : decode cX7_letter 21 = .ok (.iconst 0, 1) := by decide +kernel
theorem dX7_letter_22 : decode cX7_letter 22 = .ok (.ireturn, 1) := by decide +kernel
theorem dX7_isDigit_0 : decode cX7_isDigit 0 = .ok (.iload_n 0, 1) := by decide +kernel
theorem dX7_isDigit_1 : decode cX7_isDigit 1 = .ok (.bipush 48, 2) := by decide +kernel
theorem dX7_isDigit_3 : decode cX7_isDigit 3 = .ok (.if_icmp .lt 13, 3) := by decide +kernel
theorem dX7_isDigit_6 : decode cX7_isDigit 6 = .ok (.iload_n 0, 1) := by decide +kernel
theorem dX7_isDigit_7 : decode cX7_isDigit 7 = .ok (.bipush 57, 2) := by decide +kernel
theorem dX7_isDigit_9 : decode cX7_isDigit 9 = .ok (.if_icmp .gt 7, 3) := by decide +kernel
theorem dX7_isDigit_12 : decode cX7_isDigit 12 = .ok (.iconst 1, 1) := by decide +kernel
theorem dX7_isDigit_13 : decode cX7_isDigit 13 = .ok (.goto 4, 3) := by decide +kernel
theorem dX7_isDigit_16 : decode cX7_isDigit 16 = .ok (.iconst 0, 1) := by decide +kernel
theorem dX7_isDigit_17 : decode cX7_isDigit 17 = .ok (.ireturn, 1) := by decide +kernel
theorem dX7_byteAt_0 : decode cX7_byteAt 0 = .ok (.iload_n 1, 1) := by decide +kernel
theorem dX7_byteAt_1 : decode cX7_byteAt 1 = .ok (.aload_n 0, 1) := by decide +kernel
theorem dX7_byteAt_2 : decode cX7_byteAt 2 = .ok (.getfield 187, 3) := by decide +kernel
theorem dX7_byteAt_5 : decode cX7_byteAt 5 = .ok (.if_icmp .ge 12, 3) := by decide +kernel
theorem dX7_byteAt_8 : decode cX7_byteAt 8 = .ok (.aload_n 0, 1) := by decide +kernel
theorem dX7_byteAt_9 : decode cX7_byteAt 9 = .ok (.getfield 22, 3) := by decide +kernel
theorem dX7_byteAt_12 : decode cX7_byteAt 12 = .ok (.iload_n 1, 1) := by decide +kernel
theorem dX7_byteAt_13 : decode cX7_byteAt 13 = .ok (.baload, 1) := by decide +kernel
theorem dX7_byteAt_14 : decode cX7_byteAt 14 = .ok (.goto 4, 3) := by decide +kernel
theorem dX7_byteAt_17 : decode cX7_byteAt 17 = .ok (.iconst (-1), 1) := by decide +kernel
theorem dX7_byteAt_18 : decode cX7_byteAt 18 = .ok (.ireturn, 1) := by decide +kernel
theorem dX7_next_0 : decode cX7_next 0 = .ok (.aload_n 0, 1) := by decide +kernel
theorem dX7_next_1 : decode cX7_next 1 = .ok (.aload_n 0, 1) := by decide +kernel
theorem dX7_next_2 : decode cX7_next 2 = .ok (.getfield 190, 3) := by decide +kernel
theorem dX7_next_5 : decode cX7_next 5 = .ok (.invokevirtual 193, 3) := by decide +kernel
theorem dX7_next_8 : decode cX7_next 8 = .ok (.bipush 32, 2) := by decide +kernel
theorem dX7_next_10 : decode cX7_next 10 = .ok (.if_icmp .ne 16, 3) := by decide +kernel
theorem dX7_next_13 : decode cX7_next 13 = .ok (.aload_n 0, 1) := by decide +kernel
theorem dX7_next_14 : decode cX7_next 14 = .ok (.dup, 1) := by decide +kernel
theorem dX7_next_15 : decode cX7_next 15 = .ok (.getfield 190, 3) := by decide +kernel
theorem dX7_next_18 : decode cX7_next 18 = .ok (.iconst 1, 1) := by decide +kernel
theorem dX7_next_19 : decode cX7_next 19 = .ok (.iadd, 1) := by decide +kernel
theorem dX7_next_20 : decode cX7_next 20 = .ok (.putfield 190, 3) := by decide +kernel
theorem dX7_next_23 : decode cX7_next 23 = .ok (.goto (-23), 3) := by decide +kernel
theorem dX7_next_26 : decode cX7_next 26 = .ok (.aload_n 0, 1) := by decide +kernel
theorem dX7_next_27 : decode cX7_next 27 = .ok (.aload_n 0, 1) := by decide +kernel
theorem dX7_next_28 : decode cX7_next 28 = .ok (.getfield 190, 3) := by decide +kernel
theorem dX7_next_31 : decode cX7_next 31 = .ok (.putfield 196, 3) := by decide +kernel
theorem dX7_next_34 : decode cX7_next 34 = .ok (.aload_n 0, 1) := by decide +kernel
theorem dX7_next_35 : decode cX7_next 35 = .ok (.lconst 0, 1) := by decide +kernel
theorem dX7_next_36 : decode cX7_next 36 = .ok (.putfield 199, 3) := by decide +kernel
theorem dX7_next_39 : decode cX7_next 39 = .ok (.aload_n 0, 1) := by decide +kernel
theorem dX7_next_40 : decode cX7_next 40 = .ok (.aload_n 0, 1) := by decide +kernel
theorem dX7_next_41 : decode cX7_next 41 = .ok (.getfield 190, 3) := by decide +kernel
theorem dX7_next_44 : decode cX7_next 44 = .ok (.invokevirtual 193, 3) := by decide +kernel
theorem dX7_next_47 : decode cX7_next 47 = .ok (.istore_n 1, 1) := by decide +kernel
theorem dX7_next_48 : decode cX7_next 48 = .ok (.aload_n 0, 1) := by decide +kernel
theorem dX7_next_49 : decode cX7_next 49 = .ok (.getfield 190, 3) := by decide +kernel
theorem dX7_next_52 : decode cX7_next 52 = .ok (.aload_n 0, 1) := by decide +kernel
theorem dX7_next_53 : decode cX7_next 53 = .ok (.getfield 187, 3) := by decide +kernel
theorem dX7_next_56 : decode cX7_next 56 = .ok (.if_icmp .ne 11, 3) := by decide +kernel
theorem dX7_next_59 : decode cX7_next 59 = .ok (.aload_n 0, 1) := by decide +kernel
theorem dX7_next_60 : decode cX7_next 60 = .ok (.iconst 0, 1) := by decide +kernel
theorem dX7_next_61 : decode cX7_next 61 = .ok (.putfield 203, 3) := by decide +kernel
theorem dX7_next_64 : decode cX7_next 64 = .ok (.goto 197, 3) := by decide +kernel
theorem dX7_next_67 : decode cX7_next 67 = .ok (.iload_n 1, 1) := by decide +kernel
theorem dX7_next_68 : decode cX7_next 68 = .ok (.bipush 59, 2) := by decide +kernel
theorem dX7_next_70 : decode cX7_next 70 = .ok (.if_icmp .ne 21, 3) := by decide +kernel
theorem dX7_next_73 : decode cX7_next 73 = .ok (.aload_n 0, 1) := by decide +kernel
theorem dX7_next_74 : decode cX7_next 74 = .ok (.iconst 3, 1) := by decide +kernel
theorem dX7_next_75 : decode cX7_next 75 = .ok (.putfield 203, 3) := by decide +kernel
theorem dX7_next_78 : decode cX7_next 78 = .ok (.aload_n 0, 1) := by decide +kernel
theorem dX7_next_79 : decode cX7_next 79 = .ok (.dup, 1) := by decide +kernel
theorem dX7_next_80 : decode cX7_next 80 = .ok (.getfield 190, 3) := by decide +kernel
theorem dX7_next_83 : decode cX7_next 83 = .ok (.iconst 1, 1) := by decide +kernel
theorem dX7_next_84 : decode cX7_next 84 = .ok (.iadd, 1) := by decide +kernel
theorem dX7_next_85 : decode cX7_next 85 = .ok (.putfield 190, 3) := by decide +kernel
theorem dX7_next_88 : decode cX7_next 88 = .ok (.goto 173, 3) := by decide +kernel
theorem dX7_next_91 : decode cX7_next 91 = .ok (.iload_n 1, 1) := by decide +kernel
theorem dX7_next_92 : decode cX7_next 92 = .ok (.invokestatic 206, 3) := by decide +kernel
theorem dX7_next_95 : decode cX7_next 95 = .ok (.ifCond .le 78, 3) := by decide +kernel
theorem dX7_next_98 : decode cX7_next 98 = .ok (.aload_n 0, 1) := by decide +kernel
theorem dX7_next_99 : decode cX7_next 99 = .ok (.iconst 1, 1) := by decide +kernel
theorem dX7_next_100 : decode cX7_next 100 = .ok (.putfield 203, 3) := by decide +kernel
theorem dX7_next_103 : decode cX7_next 103 = .ok (.aload_n 0, 1) := by decide +kernel
theorem dX7_next_104 : decode cX7_next 104 = .ok (.aload_n 0, 1) := by decide +kernel
theorem dX7_next_105 : decode cX7_next 105 = .ok (.getfield 190, 3) := by decide +kernel
theorem dX7_next_108 : decode cX7_next 108 = .ok (.invokevirtual 193, 3) := by decide +kernel
theorem dX7_next_111 : decode cX7_next 111 = .ok (.invokestatic 206, 3) := by decide +kernel
theorem dX7_next_114 : decode cX7_next 114 = .ok (.ifCond .le 147, 3) := by decide +kernel
theorem dX7_next_117 : decode cX7_next 117 = .ok (.aload_n 0, 1) := by decide +kernel
theorem dX7_next_118 : decode cX7_next 118 = .ok (.aload_n 0, 1) := by decide +kernel
theorem dX7_next_119 : decode cX7_next 119 = .ok (.getfield 199, 3) := by decide +kernel
theorem dX7_next_122 : decode cX7_next 122 = .ok (.ldc2_w 209, 3) := by decide +kernel
theorem dX7_next_125 : decode cX7_next 125 = .ok (.lcmp, 1) := by decide +kernel
theorem dX7_next_126 : decode cX7_next 126 = .ok (.ifCond .le 10, 3) := by decide +kernel
theorem dX7_next_129 : decode cX7_next 129 = .ok (.aload_n 0, 1) := by decide +kernel
theorem dX7_next_130 : decode cX7_next 130 = .ok (.getfield 199, 3) := by decide +kernel
theorem dX7_next_133 : decode cX7_next 133 = .ok (.goto 24, 3) := by decide +kernel
theorem dX7_next_136 : decode cX7_next 136 = .ok (.aload_n 0, 1) := by decide +kernel
theorem dX7_next_137 : decode cX7_next 137 = .ok (.getfield 199, 3) := by decide +kernel
theorem dX7_next_140 : decode cX7_next 140 = .ok (.ldc2_w 211, 3) := by decide +kernel
theorem dX7_next_143 : decode cX7_next 143 = .ok (.lmul, 1) := by decide +kernel
theorem dX7_next_144 : decode cX7_next 144 = .ok (.aload_n 0, 1) := by decide +kernel
theorem dX7_next_145 : decode cX7_next 145 = .ok (.aload_n 0, 1) := by decide +kernel
theorem dX7_next_146 : decode cX7_next 146 = .ok (.getfield 190, 3) := by decide +kernel
theorem dX7_next_149 : decode cX7_next 149 = .ok (.invokevirtual 193, 3) := by decide +kernel
theorem dX7_next_152 : decode cX7_next 152 = .ok (.invokestatic 206, 3) := by decide +kernel
theorem dX7_next_155 : decode cX7_next 155 = .ok (.i2l, 1) := by decide +kernel
theorem dX7_next_156 : decode cX7_next 156 = .ok (.ladd, 1) := by decide +kernel
theorem dX7_next_157 : decode cX7_next 157 = .ok (.putfield 199, 3) := by decide +kernel
theorem dX7_next_160 : decode cX7_next 160 = .ok (.aload_n 0, 1) := by decide +kernel
theorem dX7_next_161 : decode cX7_next 161 = .ok (.dup, 1) := by decide +kernel
theorem dX7_next_162 : decode cX7_next 162 = .ok (.getfield 190, 3) := by decide +kernel
theorem dX7_next_165 : decode cX7_next 165 = .ok (.iconst 1, 1) := by decide +kernel
theorem dX7_next_166 : decode cX7_next 166 = .ok (.iadd, 1) := by decide +kernel
theorem dX7_next_167 : decode cX7_next 167 = .ok (.putfield 190, 3) := by decide +kernel
theorem dX7_next_170 : decode cX7_next 170 = .ok (.goto (-67), 3) := by decide +kernel
theorem dX7_next_173 : decode cX7_next 173 = .ok (.iload_n 1, 1) := by decide +kernel
theorem dX7_next_174 : decode cX7_next 174 = .ok (.invokestatic 213, 3) := by decide +kernel
theorem dX7_next_177 : decode cX7_next 177 = .ok (.ifCond .eq 79, 3) := by decide +kernel
theorem dX7_next_180 : decode cX7_next 180 = .ok (.aload_n 0, 1) := by decide +kernel
theorem dX7_next_181 : decode cX7_next 181 = .ok (.iconst 2, 1) := by decide +kernel
theorem dX7_next_182 : decode cX7_next 182 = .ok (.putfield 203, 3) := by decide +kernel
theorem dX7_next_185 : decode cX7_next 185 = .ok (.aload_n 0, 1) := by decide +kernel
theorem dX7_next_186 : decode cX7_next 186 = .ok (.aload_n 0, 1) := by decide +kernel
theorem dX7_next_187 : decode cX7_next 187 = .ok (.getfield 190, 3) := by decide +kernel
theorem dX7_next_190 : decode cX7_next 190 = .ok (.invokevirtual 193, 3) := by decide +kernel
theorem dX7_next_193 : decode cX7_next 193 = .ok (.invokestatic 213, 3) := by decide +kernel
theorem dX7_next_196 : decode cX7_next 196 = .ok (.ifCond .eq 65, 3) := by decide +kernel
theorem dX7_next_199 : decode cX7_next 199 = .ok (.aload_n 0, 1) := by decide +kernel
theorem dX7_next_200 : decode cX7_next 200 = .ok (.aload_n 0, 1) := by decide +kernel
theorem dX7_next_201 : decode cX7_next 201 = .ok (.getfield 199, 3) := by decide +kernel
theorem dX7_next_204 : decode cX7_next 204 = .ok (.ldc2_w 67, 3) := by decide +kernel
theorem dX7_next_207 : decode cX7_next 207 = .ok (.lcmp, 1) := by decide +kernel
theorem dX7_next_208 : decode cX7_next 208 = .ok (.ifCond .le 10, 3) := by decide +kernel
theorem dX7_next_211 : decode cX7_next 211 = .ok (.aload_n 0, 1) := by decide +kernel
theorem dX7_next_212 : decode cX7_next 212 = .ok (.getfield 199, 3) := by decide +kernel
theorem dX7_next_215 : decode cX7_next 215 = .ok (.goto 25, 3) := by decide +kernel
theorem dX7_next_218 : decode cX7_next 218 = .ok (.aload_n 0, 1) := by decide +kernel
theorem dX7_next_219 : decode cX7_next 219 = .ok (.getfield 199, 3) := by decide +kernel
theorem dX7_next_222 : decode cX7_next 222 = .ok (.ldc2_w 171, 3) := by decide +kernel
theorem dX7_next_225 : decode cX7_next 225 = .ok (.lmul, 1) := by decide +kernel
theorem dX7_next_226 : decode cX7_next 226 = .ok (.aload_n 0, 1) := by decide +kernel
theorem dX7_next_227 : decode cX7_next 227 = .ok (.aload_n 0, 1) := by decide +kernel
theorem dX7_next_228 : decode cX7_next 228 = .ok (.getfield 190, 3) := by decide +kernel
theorem dX7_next_231 : decode cX7_next 231 = .ok (.invokevirtual 193, 3) := by decide +kernel
theorem dX7_next_234 : decode cX7_next 234 = .ok (.i2l, 1) := by decide +kernel
theorem dX7_next_235 : decode cX7_next 235 = .ok (.ladd, 1) := by decide +kernel
theorem dX7_next_236 : decode cX7_next 236 = .ok (.ldc2_w 216, 3) := by decide +kernel
theorem dX7_next_239 : decode cX7_next 239 = .ok (.lsub, 1) := by decide +kernel
theorem dX7_next_240 : decode cX7_next 240 = .ok (.putfield 199, 3) := by decide +kernel
theorem dX7_next_243 : decode cX7_next 243 = .ok (.aload_n 0, 1) := by decide +kernel
theorem dX7_next_244 : decode cX7_next 244 = .ok (.dup, 1) := by decide +kernel
theorem dX7_next_245 : decode cX7_next 245 = .ok (.getfield 190, 3) := by decide +kernel
theorem dX7_next_248 : decode cX7_next 248 = .ok (.iconst 1, 1) := by decide +kernel
theorem dX7_next_249 : decode cX7_next 249 = .ok (.iadd, 1) := by decide +kernel
theorem dX7_next_250 : decode cX7_next 250 = .ok (.putfield 190, 3) := by decide +kernel
theorem dX7_next_253 : decode cX7_next 253 = .ok (.goto (-68), 3) := by decide +kernel
theorem dX7_next_256 : decode cX7_next 256 = .ok (.aload_n 0, 1) := by decide +kernel
theorem dX7_next_257 : decode cX7_next 257 = .ok (.iconst 4, 1) := by decide +kernel
theorem dX7_next_258 : decode cX7_next 258 = .ok (.putfield 203, 3) := by decide +kernel
theorem dX7_next_261 : decode cX7_next 261 = .ok (.return_, 1) := by decide +kernel
theorem dX7_wrongHere_0 : decode cX7_wrongHere 0 = .ok (.aload_n 0, 1) := by decide +kernel
theorem dX7_wrongHere_1 : decode cX7_wrongHere 1 = .ok (.aload_n 0, 1) := by decide +kernel
theorem dX7_wrongHere_2 : decode cX7_wrongHere 2 = .ok (.getfield 218, 3) := by decide +kernel
theorem dX7_wrongHere_5 : decode cX7_wrongHere 5 = .ok (.ifCond .ge 10, 3) := by decide +kernel
theorem dX7_wrongHere_8 : decode cX7_wrongHere 8 = .ok (.aload_n 0, 1) := by decide +kernel
theorem dX7_wrongHere_9 : decode cX7_wrongHere 9 = .ok (.getfield 196, 3) := by decide +kernel
theorem dX7_wrongHere_12 : decode cX7_wrongHere 12 = .ok (.goto 7, 3) := by decide +kernel
theorem dX7_wrongHere_15 : decode cX7_wrongHere 15 = .ok (.aload_n 0, 1) := by decide +kernel
theorem dX7_wrongHere_16 : decode cX7_wrongHere 16 = .ok (.getfield 218, 3) := by decide +kernel
theorem dX7_wrongHere_19 : decode cX7_wrongHere 19 = .ok (.putfield 218, 3) := by decide +kernel
theorem dX7_wrongHere_22 : decode cX7_wrongHere 22 = .ok (.return_, 1) := by decide +kernel
theorem dX7_isWord_0 : decode cX7_isWord 0 = .ok (.aload_n 0, 1) := by decide +kernel
theorem dX7_isWord_1 : decode cX7_isWord 1 = .ok (.getfield 203, 3) := by decide +kernel
theorem dX7_isWord_4 : decode cX7_isWord 4 = .ok (.iconst 1, 1) := by decide +kernel
theorem dX7_isWord_5 : decode cX7_isWord 5 = .ok (.if_icmp .ne 16, 3) := by decide +kernel
theorem dX7_isWord_8 : decode cX7_isWord 8 = .ok (.aload_n 0, 1) := by decide +kernel
theorem dX7_isWord_9 : decode cX7_isWord 9 = .ok (.getfield 199, 3) := by decide +kernel
theorem dX7_isWord_12 : decode cX7_isWord 12 = .ok (.lload_n 1, 1) := by decide +kernel
theorem dX7_isWord_13 : decode cX7_isWord 13 = .ok (.lcmp, 1) := by decide +kernel
theorem dX7_isWord_14 : decode cX7_isWord 14 = .ok (.ifCond .ne 7, 3) := by decide +kernel
theorem dX7_isWord_17 : decode cX7_isWord 17 = .ok (.iconst 1, 1) := by decide +kernel
theorem dX7_isWord_18 : decode cX7_isWord 18 = .ok (.goto 4, 3) := by decide +kernel
theorem dX7_isWord_21 : decode cX7_isWord 21 = .ok (.iconst 0, 1) := by decide +kernel
theorem dX7_isWord_22 : decode cX7_isWord 22 = .ok (.ireturn, 1) := by decide +kernel
theorem dX7_kindHere_0 : decode cX7_kindHere 0 = .ok (.aload_n 0, 1) := by decide +kernel
theorem dX7_kindHere_1 : decode cX7_kindHere 1 = .ok (.getstatic 221, 3) := by decide +kernel
theorem dX7_kindHere_4 : decode cX7_kindHere 4 = .ok (.invokevirtual 224, 3) := by decide +kernel
theorem dX7_kindHere_7 : decode cX7_kindHere 7 = .ok (.ifCond .eq 7, 3) := by decide +kernel
theorem dX7_kindHere_10 : decode cX7_kindHere 10 = .ok (.iconst 0, 1) := by decide +kernel
theorem dX7_kindHere_11 : decode cX7_kindHere 11 = .ok (.goto 89, 3) := by decide +kernel
theorem dX7_kindHere_14 : decode cX7_kindHere 14 = .ok (.aload_n 0, 1) := by decide +kernel
theorem dX7_kindHere_15 : decode cX7_kindHere 15 = .ok (.getstatic 228, 3) := by decide +kernel
theorem dX7_kindHere_18 : decode cX7_kindHere 18 = .ok (.invokevirtual 224, 3) := by decide +kernel
theorem dX7_kindHere_21 : decode cX7_kindHere 21 = .ok (.ifCond .eq 7, 3) := by decide +kernel
theorem dX7_kindHere_24 : decode cX7_kindHere 24 = .ok (.iconst 1, 1) := by decide +kernel
theorem dX7_kindHere_25 : decode cX7_kindHere 25 = .ok (.goto 75, 3) := by decide +kernel
theorem dX7_kindHere_28 : decode cX7_kindHere 28 = .ok (.aload_n 0, 1) := by decide +kernel
theorem dX7_kindHere_29 : decode cX7_kindHere 29 = .ok (.getstatic 231, 3) := by decide +kernel
theorem dX7_kindHere_32 : decode cX7_kindHere 32 = .ok (.invokevirtual 224, 3) := by decide +kernel
theorem dX7_kindHere_35 : decode cX7_kindHere 35 = .ok (.ifCond .eq 7, 3) := by decide +kernel
theorem dX7_kindHere_38 : decode cX7_kindHere 38 = .ok (.iconst 2, 1) := by decide +kernel
theorem dX7_kindHere_39 : decode cX7_kindHere 39 = .ok (.goto 61, 3) := by decide +kernel
theorem dX7_kindHere_42 : decode cX7_kindHere 42 = .ok (.aload_n 0, 1) := by decide +kernel
theorem dX7_kindHere_43 : decode cX7_kindHere 43 = .ok (.getstatic 234, 3) := by decide +kernel
theorem dX7_kindHere_46 : decode cX7_kindHere 46 = .ok (.invokevirtual 224, 3) := by decide +kernel
theorem dX7_kindHere_49 : decode cX7_kindHere 49 = .ok (.ifCond .eq 7, 3) := by decide +kernel
theorem dX7_kindHere_52 : decode cX7_kindHere 52 = .ok (.iconst 3, 1) := by decide +kernel
theorem dX7_kindHere_53 : decode cX7_kindHere 53 = .ok (.goto 47, 3) := by decide +kernel
theorem dX7_kindHere_56 : decode cX7_kindHere 56 = .ok (.aload_n 0, 1) := by decide +kernel
theorem dX7_kindHere_57 : decode cX7_kindHere 57 = .ok (.getstatic 237, 3) := by decide +kernel
theorem dX7_kindHere_60 : decode cX7_kindHere 60 = .ok (.invokevirtual 224, 3) := by decide +kernel
theorem dX7_kindHere_63 : decode cX7_kindHere 63 = .ok (.ifCond .eq 7, 3) := by decide +kernel
theorem dX7_kindHere_66 : decode cX7_kindHere 66 = .ok (.iconst 4, 1) := by decide +kernel
theorem dX7_kindHere_67 : decode cX7_kindHere 67 = .ok (.goto 33, 3) := by decide +kernel
theorem dX7_kindHere_70 : decode cX7_kindHere 70 = .ok (.aload_n 0, 1) := by decide +kernel
theorem dX7_kindHere_71 : decode cX7_kindHere 71 = .ok (.getstatic 240, 3) := by decide +kernel
theorem dX7_kindHere_74 : decode cX7_kindHere 74 = .ok (.invokevirtual 224, 3) := by decide +kernel
theorem dX7_kindHere_77 : decode cX7_kindHere 77 = .ok (.ifCond .eq 7, 3) := by decide +kernel
theorem dX7_kindHere_80 : decode cX7_kindHere 80 = .ok (.iconst 5, 1) := by decide +kernel
theorem dX7_kindHere_81 : decode cX7_kindHere 81 = .ok (.goto 19, 3) := by decide +kernel
theorem dX7_kindHere_84 : decode cX7_kindHere 84 = .ok (.aload_n 0, 1) := by decide +kernel
theorem dX7_kindHere_85 : decode cX7_kindHere 85 = .ok (.getstatic 243, 3) := by decide +kernel
theorem dX7_kindHere_88 : decode cX7_kindHere 88 = .ok (.invokevirtual 224, 3) := by decide +kernel
theorem dX7_kindHere_91 : decode cX7_kindHere 91 = .ok (.ifCond .eq 8, 3) := by decide +kernel
theorem dX7_kindHere_94 : decode cX7_kindHere 94 = .ok (.bipush 6, 2) := by decide +kernel
theorem dX7_kindHere_96 : decode cX7_kindHere 96 = .ok (.goto 4, 3) := by decide +kernel
theorem dX7_kindHere_99 : decode cX7_kindHere 99 = .ok (.iconst (-1), 1) := by decide +kernel
theorem dX7_kindHere_100 : decode cX7_kindHere 100 = .ok (.ireturn, 1) := by decide +kernel
theorem dX7_number_0 : decode cX7_number 0 = .ok (.aload_n 0, 1) := by decide +kernel
theorem dX7_number_1 : decode cX7_number 1 = .ok (.getfield 199, 3) := by decide +kernel
theorem dX7_number_4 : decode cX7_number 4 = .ok (.l2i, 1) := by decide +kernel
theorem dX7_number_5 : decode cX7_number 5 = .ok (.istore_n 3, 1) := by decide +kernel
theorem dX7_number_6 : decode cX7_number 6 = .ok (.aload_n 0, 1) := by decide +kernel
theorem dX7_number_7 : decode cX7_number 7 = .ok (.getfield 203, 3) := by decide +kernel
theorem dX7_number_10 : decode cX7_number 10 = .ok (.iconst 2, 1) := by decide +kernel
theorem dX7_number_11 : decode cX7_number 11 = .ok (.if_icmp .ne 17, 3) := by decide +kernel
theorem dX7_number_14 : decode cX7_number 14 = .ok (.aload_n 0, 1) := by decide +kernel
theorem dX7_number_15 : decode cX7_number 15 = .ok (.getfield 199, 3) := by decide +kernel
theorem dX7_number_18 : decode cX7_number 18 = .ok (.iload_n 1, 1) := by decide +kernel
theorem dX7_number_19 : decode cX7_number 19 = .ok (.i2l, 1) := by decide +kernel
theorem dX7_number_20 : decode cX7_number 20 = .ok (.iload_n 2, 1) := by decide +kernel
theorem dX7_number_21 : decode cX7_number 21 = .ok (.i2l, 1) := by decide +kernel
theorem dX7_number_22 : decode cX7_number 22 = .ok (.invokestatic 39, 3) := by decide +kernel
theorem dX7_number_25 : decode cX7_number 25 = .ok (.ifCond .ne 9, 3) := by decide +kernel
theorem dX7_number_28 : decode cX7_number 28 = .ok (.aload_n 0, 1) := by decide +kernel
theorem dX7_number_29 : decode cX7_number 29 = .ok (.invokevirtual 246, 3) := by decide +kernel
theorem dX7_number_32 : decode cX7_number 32 = .ok (.iload_n 1, 1) := by decide +kernel
theorem dX7_number_33 : decode cX7_number 33 = .ok (.ireturn, 1) := by decide +kernel
theorem dX7_number_34 : decode cX7_number 34 = .ok (.aload_n 0, 1) := by decide +kernel
theorem dX7_number_35 : decode cX7_number 35 = .ok (.invokevirtual 249, 3) := by decide +kernel
theorem dX7_number_38 : decode cX7_number 38 = .ok (.iload_n 3, 1) := by decide +kernel
theorem dX7_number_39 : decode cX7_number 39 = .ok (.ireturn, 1) := by decide +kernel
theorem dX7_drinkerHere_0 : decode cX7_drinkerHere 0 = .ok (.aload_n 0, 1) := by decide +kernel
theorem dX7_drinkerHere_1 : decode cX7_drinkerHere 1 = .ok (.getfield 7, 3) := by decide +kernel
theorem dX7_drinkerHere_4 : decode cX7_drinkerHere 4 = .ok (.iconst 0, 1) := by decide +kernel
theorem dX7_drinkerHere_5 : decode cX7_drinkerHere 5 = .ok (.iaload, 1) := by decide +kernel
theorem dX7_drinkerHere_6 : decode cX7_drinkerHere 6 = .ok (.bipush 10, 2) := by decide +kernel
theorem dX7_drinkerHere_8 : decode cX7_drinkerHere 8 = .ok (.if_icmp .ne 8, 3) := by decide +kernel
theorem dX7_drinkerHere_11 : decode cX7_drinkerHere 11 = .ok (.aload_n 0, 1) := by decide +kernel
theorem dX7_drinkerHere_12 : decode cX7_drinkerHere 12 = .ok (.invokevirtual 246, 3) := by decide +kernel
theorem dX7_drinkerHere_15 : decode cX7_drinkerHere 15 = .ok (.return_, 1) := by decide +kernel
theorem dX7_drinkerHere_16 : decode cX7_drinkerHere 16 = .ok (.aload_n 0, 1) := by decide +kernel
theorem dX7_drinkerHere_17 : decode cX7_drinkerHere 17 = .ok (.invokevirtual 249, 3) := by decide +kernel
theorem dX7_drinkerHere_20 : decode cX7_drinkerHere 20 = .ok (.aload_n 0, 1) := by decide +kernel
theorem dX7_drinkerHere_21 : decode cX7_drinkerHere 21 = .ok (.iconst 1, 1) := by decide +kernel
theorem dX7_drinkerHere_22 : decode cX7_drinkerHere 22 = .ok (.bipush 9, 2) := by decide +kernel
theorem dX7_drinkerHere_24 : decode cX7_drinkerHere 24 = .ok (.invokevirtual 252, 3) := by decide +kernel
theorem dX7_drinkerHere_27 : decode cX7_drinkerHere 27 = .ok (.istore_n 2, 1) := by decide +kernel
theorem dX7_drinkerHere_28 : decode cX7_drinkerHere 28 = .ok (.sipush 200, 3) := by decide +kernel
theorem dX7_drinkerHere_31 : decode cX7_drinkerHere 31 = .ok (.istore_n 3, 1) := by decide +kernel
theorem dX7_drinkerHere_32 : decode cX7_drinkerHere 32 = .ok (.bipush 20, 2) := by decide +kernel
theorem dX7_drinkerHere_34 : decode cX7_drinkerHere 34 = .ok (.istore 4, 2) := by decide +kernel
theorem dX7_drinkerHere_36 : decode cX7_drinkerHere 36 = .ok (.aload_n 0, 1) := by decide +kernel
theorem dX7_drinkerHere_37 : decode cX7_drinkerHere 37 = .ok (.getfield 218, 3) := by decide +kernel
theorem dX7_drinkerHere_40 : decode cX7_drinkerHere 40 = .ok (.ifCond .ge 26, 3) := by decide +kernel
theorem dX7_drinkerHere_43 : decode cX7_drinkerHere 43 = .ok (.aload_n 0, 1) := by decide +kernel
theorem dX7_drinkerHere_44 : decode cX7_drinkerHere 44 = .ok (.getstatic 254, 3) := by decide +kernel
theorem dX7_drinkerHere_47 : decode cX7_drinkerHere 47 = .ok (.invokevirtual 224, 3) := by decide +kernel
theorem dX7_drinkerHere_50 : decode cX7_drinkerHere 50 = .ok (.ifCond .eq 16, 3) := by decide +kernel
theorem dX7_drinkerHere_53 : decode cX7_drinkerHere 53 = .ok (.aload_n 0, 1) := by decide +kernel
theorem dX7_drinkerHere_54 : decode cX7_drinkerHere 54 = .ok (.invokevirtual 249, 3) := by decide +kernel
theorem dX7_drinkerHere_57 : decode cX7_drinkerHere 57 = .ok (.aload_n 0, 1) := by decide +kernel
theorem dX7_drinkerHere_58 : decode cX7_drinkerHere 58 = .ok (.iconst 0, 1) := by decide +kernel
theorem dX7_drinkerHere_59 : decode cX7_drinkerHere 59 = .ok (.sipush 9999, 3) := by decide +kernel
theorem dX7_drinkerHere_62 : decode cX7_drinkerHere 62 = .ok (.invokevirtual 252, 3) := by decide +kernel
theorem dX7_drinkerHere_65 : decode cX7_drinkerHere 65 = .ok (.istore_n 3, 1) := by decide +kernel
theorem dX7_drinkerHere_66 : decode cX7_drinkerHere 66 = .ok (.aload_n 0, 1) := by decide +kernel
theorem dX7_drinkerHere_67 : decode cX7_drinkerHere 67 = .ok (.getfield 218, 3) := by decide +kernel
theorem dX7_drinkerHere_70 : decode cX7_drinkerHere 70 = .ok (.ifCond .ge 26, 3) := by decide +kernel
theorem dX7_drinkerHere_73 : decode cX7_drinkerHere 73 = .ok (.aload_n 0, 1) := by decide +kernel
theorem dX7_drinkerHere_74 : decode cX7_drinkerHere 74 = .ok (.getstatic 257, 3) := by decide +kernel
theorem dX7_drinkerHere_77 : decode cX7_drinkerHere 77 = .ok (.invokevirtual 224, 3) := by decide +kernel
theorem dX7_drinkerHere_80 : decode cX7_drinkerHere 80 = .ok (.ifCond .eq 16, 3) := by decide +kernel
theorem dX7_drinkerHere_83 : decode cX7_drinkerHere 83 = .ok (.aload_n 0, 1) := by decide +kernel
theorem dX7_drinkerHere_84 : decode cX7_drinkerHere 84 = .ok (.invokevirtual 249, 3) := by decide +kernel
theorem dX7_drinkerHere_87 : decode cX7_drinkerHere 87 = .ok (.aload_n 0, 1) := by decide +kernel
theorem dX7_drinkerHere_88 : decode cX7_drinkerHere 88 = .ok (.iconst 0, 1) := by decide +kernel
theorem dX7_drinkerHere_89 : decode cX7_drinkerHere 89 = .ok (.bipush 99, 2) := by decide +kernel
theorem dX7_drinkerHere_91 : decode cX7_drinkerHere 91 = .ok (.invokevirtual 252, 3) := by decide +kernel
theorem dX7_drinkerHere_94 : decode cX7_drinkerHere 94 = .ok (.istore 4, 2) := by decide +kernel
theorem dX7_drinkerHere_96 : decode cX7_drinkerHere 96 = .ok (.aload_n 0, 1) := by decide +kernel
theorem dX7_drinkerHere_97 : decode cX7_drinkerHere 97 = .ok (.getfield 218, 3) := by decide +kernel
theorem dX7_drinkerHere_100 : decode cX7_drinkerHere 100 = .ok (.ifCond .ge 14, 3) := by decide +kernel
theorem dX7_drinkerHere_103 : decode cX7_drinkerHere 103 = .ok (.aload_n 0, 1) := by decide +kernel
theorem dX7_drinkerHere_104 : decode cX7_drinkerHere 104 = .ok (.iload_n 1, 1) := by decide +kernel
theorem dX7_drinkerHere_105 : decode cX7_drinkerHere 105 = .ok (.iload_n 2, 1) := by decide +kernel
theorem dX7_drinkerHere_106 : decode cX7_drinkerHere 106 = .ok (.iload_n 3, 1) := by decide +kernel
theorem dX7_drinkerHere_107 : decode cX7_drinkerHere 107 = .ok (.iload 4, 2) := by decide +kernel
theorem dX7_drinkerHere_109 : decode cX7_drinkerHere 109 = .ok (.invokevirtual 55, 3) := by decide +kernel
theorem dX7_drinkerHere_112 : decode cX7_drinkerHere 112 = .ok (.istore 5, 2) := by decide +kernel
theorem dX7_drinkerHere_114 : decode cX7_drinkerHere 114 = .ok (.return_, 1) := by decide +kernel
theorem dX7_signHere_0 : decode cX7_signHere 0 = .ok (.aload_n 0, 1) := by decide +kernel
theorem dX7_signHere_1 : decode cX7_signHere 1 = .ok (.getstatic 260, 3) := by decide +kernel
theorem dX7_signHere_4 : decode cX7_signHere 4 = .ok (.invokevirtual 224, 3) := by decide +kernel
theorem dX7_signHere_7 : decode cX7_signHere 7 = .ok (.ifCond .eq 7, 3) := by decide +kernel
theorem dX7_signHere_10 : decode cX7_signHere 10 = .ok (.iconst 0, 1) := by decide +kernel
theorem dX7_signHere_11 : decode cX7_signHere 11 = .ok (.goto 32, 3) := by decide +kernel
theorem dX7_signHere_14 : decode cX7_signHere 14 = .ok (.aload_n 0, 1) := by decide +kernel
theorem dX7_signHere_15 : decode cX7_signHere 15 = .ok (.getstatic 263, 3) := by decide +kernel
theorem dX7_signHere_18 : decode cX7_signHere 18 = .ok (.invokevirtual 224, 3) := by decide +kernel
theorem dX7_signHere_21 : decode cX7_signHere 21 = .ok (.ifCond .eq 7, 3) := by decide +kernel
theorem dX7_signHere_24 : decode cX7_signHere 24 = .ok (.iconst 1, 1) := by decide +kernel
theorem dX7_signHere_25 : decode cX7_signHere 25 = .ok (.goto 18, 3) := by decide +kernel
theorem dX7_signHere_28 : decode cX7_signHere 28 = .ok (.aload_n 0, 1) := by decide +kernel
theorem dX7_signHere_29 : decode cX7_signHere 29 = .ok (.getstatic 266, 3) := by decide +kernel
theorem dX7_signHere_32 : decode cX7_signHere 32 = .ok (.invokevirtual 224, 3) := by decide +kernel
theorem dX7_signHere_35 : decode cX7_signHere 35 = .ok (.ifCond .eq 7, 3) := by decide +kernel
theorem dX7_signHere_38 : decode cX7_signHere 38 = .ok (.iconst 2, 1) := by decide +kernel
theorem dX7_signHere_39 : decode cX7_signHere 39 = .ok (.goto 4, 3) := by decide +kernel
theorem dX7_signHere_42 : decode cX7_signHere 42 = .ok (.iconst (-1), 1) := by decide +kernel
theorem dX7_signHere_43 : decode cX7_signHere 43 = .ok (.istore_n 1, 1) := by decide +kernel
theorem dX7_signHere_44 : decode cX7_signHere 44 = .ok (.iload_n 1, 1) := by decide +kernel
theorem dX7_signHere_45 : decode cX7_signHere 45 = .ok (.ifCond .ge 8, 3) := by decide +kernel
theorem dX7_signHere_48 : decode cX7_signHere 48 = .ok (.aload_n 0, 1) := by decide +kernel
theorem dX7_signHere_49 : decode cX7_signHere 49 = .ok (.invokevirtual 246, 3) := by decide +kernel
theorem dX7_signHere_52 : decode cX7_signHere 52 = .ok (.return_, 1) := by decide +kernel
theorem dX7_signHere_53 : decode cX7_signHere 53 = .ok (.aload_n 0, 1) := by decide +kernel
theorem dX7_signHere_54 : decode cX7_signHere 54 = .ok (.getfield 7, 3) := by decide +kernel
theorem dX7_signHere_57 : decode cX7_signHere 57 = .ok (.iconst 5, 1) := by decide +kernel
theorem dX7_signHere_58 : decode cX7_signHere 58 = .ok (.iload_n 1, 1) := by decide +kernel
theorem dX7_signHere_59 : decode cX7_signHere 59 = .ok (.iastore, 1) := by decide +kernel
theorem dX7_signHere_60 : decode cX7_signHere 60 = .ok (.aload_n 0, 1) := by decide +kernel
theorem dX7_signHere_61 : decode cX7_signHere 61 = .ok (.invokevirtual 249, 3) := by decide +kernel
theorem dX7_signHere_64 : decode cX7_signHere 64 = .ok (.return_, 1) := by decide +kernel
theorem dX7_item_0 : decode cX7_item 0 = .ok (.aload_n 0, 1) := by decide +kernel
theorem dX7_item_1 : decode cX7_item 1 = .ok (.invokevirtual 269, 3) := by decide +kernel
theorem dX7_item_4 : decode cX7_item 4 = .ok (.istore_n 1, 1) := by decide +kernel
theorem dX7_item_5 : decode cX7_item 5 = .ok (.iload_n 1, 1) := by decide +kernel
theorem dX7_item_6 : decode cX7_item 6 = .ok (.ifCond .lt 11, 3) := by decide +kernel
theorem dX7_item_9 : decode cX7_item 9 = .ok (.aload_n 0, 1) := by decide +kernel
theorem dX7_item_10 : decode cX7_item 10 = .ok (.iload_n 1, 1) := by decide +kernel
theorem dX7_item_11 : decode cX7_item 11 = .ok (.invokevirtual 272, 3) := by decide +kernel
theorem dX7_item_14 : decode cX7_item 14 = .ok (.goto 100, 3) := by decide +kernel
theorem dX7_item_17 : decode cX7_item 17 = .ok (.aload_n 0, 1) := by decide +kernel
theorem dX7_item_18 : decode cX7_item 18 = .ok (.getstatic 275, 3) := by decide +kernel
theorem dX7_item_21 : decode cX7_item 21 = .ok (.invokevirtual 224, 3) := by decide +kernel
theorem dX7_item_24 : decode cX7_item 24 = .ok (.ifCond .eq 23, 3) := by decide +kernel
theorem dX7_item_27 : decode cX7_item 27 = .ok (.aload_n 0, 1) := by decide +kernel
theorem dX7_item_28 : decode cX7_item 28 = .ok (.invokevirtual 249, 3) := by decide +kernel
theorem dX7_item_31 : decode cX7_item 31 = .ok (.aload_n 0, 1) := by decide +kernel
theorem dX7_item_32 : decode cX7_item 32 = .ok (.getfield 7, 3) := by decide +kernel
theorem dX7_item_35 : decode cX7_item 35 = .ok (.iconst 1, 1) := by decide +kernel
theorem dX7_item_36 : decode cX7_item 36 = .ok (.aload_n 0, 1) := by decide +kernel
theorem dX7_item_37 : decode cX7_item 37 = .ok (.iconst 0, 1) := by decide +kernel
theorem dX7_item_38 : decode cX7_item 38 = .ok (.bipush 99, 2) := by decide +kernel
theorem dX7_item_40 : decode cX7_item 40 = .ok (.invokevirtual 252, 3) := by decide +kernel
theorem dX7_item_43 : decode cX7_item 43 = .ok (.iastore, 1) := by decide +kernel
theorem dX7_item_44 : decode cX7_item 44 = .ok (.goto 70, 3) := by decide +kernel
theorem dX7_item_47 : decode cX7_item 47 = .ok (.aload_n 0, 1) := by decide +kernel
theorem dX7_item_48 : decode cX7_item 48 = .ok (.getstatic 278, 3) := by decide +kernel
theorem dX7_item_51 : decode cX7_item 51 = .ok (.invokevirtual 224, 3) := by decide +kernel
theorem dX7_item_54 : decode cX7_item 54 = .ok (.ifCond .eq 35, 3) := by decide +kernel
theorem dX7_item_57 : decode cX7_item 57 = .ok (.aload_n 0, 1) := by decide +kernel
theorem dX7_item_58 : decode cX7_item 58 = .ok (.invokevirtual 249, 3) := by decide +kernel
theorem dX7_item_61 : decode cX7_item 61 = .ok (.aload_n 0, 1) := by decide +kernel
theorem dX7_item_62 : decode cX7_item 62 = .ok (.getfield 7, 3) := by decide +kernel
theorem dX7_item_65 : decode cX7_item 65 = .ok (.iconst 2, 1) := by decide +kernel
theorem dX7_item_66 : decode cX7_item 66 = .ok (.aload_n 0, 1) := by decide +kernel
theorem dX7_item_67 : decode cX7_item 67 = .ok (.iconst 1, 1) := by decide +kernel
theorem dX7_item_68 : decode cX7_item 68 = .ok (.bipush 99, 2) := by decide +kernel
theorem dX7_item_70 : decode cX7_item 70 = .ok (.invokevirtual 252, 3) := by decide +kernel
theorem dX7_item_73 : decode cX7_item 73 = .ok (.iastore, 1) := by decide +kernel
theorem dX7_item_74 : decode cX7_item 74 = .ok (.aload_n 0, 1) := by decide +kernel
theorem dX7_item_75 : decode cX7_item 75 = .ok (.getfield 7, 3) := by decide +kernel
theorem dX7_item_78 : decode cX7_item 78 = .ok (.iconst 3, 1) := by decide +kernel
theorem dX7_item_79 : decode cX7_item 79 = .ok (.aload_n 0, 1) := by decide +kernel
theorem dX7_item_80 : decode cX7_item 80 = .ok (.getfield 7, 3) := by decide +kernel
theorem dX7_item_83 : decode cX7_item 83 = .ok (.iconst 2, 1) := by decide +kernel
theorem dX7_item_84 : decode cX7_item 84 = .ok (.iaload, 1) := by decide +kernel
theorem dX7_item_85 : decode cX7_item 85 = .ok (.iastore, 1) := by decide +kernel
theorem dX7_item_86 : decode cX7_item 86 = .ok (.goto 28, 3) := by decide +kernel
theorem dX7_item_89 : decode cX7_item 89 = .ok (.aload_n 0, 1) := by decide +kernel
theorem dX7_item_90 : decode cX7_item 90 = .ok (.getstatic 281, 3) := by decide +kernel
theorem dX7_item_93 : decode cX7_item 93 = .ok (.invokevirtual 224, 3) := by decide +kernel
theorem dX7_item_96 : decode cX7_item 96 = .ok (.ifCond .eq 14, 3) := by decide +kernel
theorem dX7_item_99 : decode cX7_item 99 = .ok (.aload_n 0, 1) := by decide +kernel
theorem dX7_item_100 : decode cX7_item 100 = .ok (.invokevirtual 249, 3) := by decide +kernel
theorem dX7_item_103 : decode cX7_item 103 = .ok (.aload_n 0, 1) := by decide +kernel
theorem dX7_item_104 : decode cX7_item 104 = .ok (.invokevirtual 284, 3) := by decide +kernel
theorem dX7_item_107 : decode cX7_item 107 = .ok (.goto 7, 3) := by decide +kernel
theorem dX7_item_110 : decode cX7_item 110 = .ok (.aload_n 0, 1) := by decide +kernel
theorem dX7_item_111 : decode cX7_item 111 = .ok (.invokevirtual 246, 3) := by decide +kernel
theorem dX7_item_114 : decode cX7_item 114 = .ok (.return_, 1) := by decide +kernel
theorem dX7_items_0 : decode cX7_items 0 = .ok (.aload_n 0, 1) := by decide +kernel
theorem dX7_items_1 : decode cX7_items 1 = .ok (.iconst 0, 1) := by decide +kernel
theorem dX7_items_2 : decode cX7_items 2 = .ok (.putfield 190, 3) := by decide +kernel
theorem dX7_items_5 : decode cX7_items 5 = .ok (.aload_n 0, 1) := by decide +kernel
theorem dX7_items_6 : decode cX7_items 6 = .ok (.iconst (-1), 1) := by decide +kernel
theorem dX7_items_7 : decode cX7_items 7 = .ok (.putfield 218, 3) := by decide +kernel
theorem dX7_items_10 : decode cX7_items 10 = .ok (.aload_n 0, 1) := by decide +kernel
theorem dX7_items_11 : decode cX7_items 11 = .ok (.invokevirtual 249, 3) := by decide +kernel
theorem dX7_items_14 : decode cX7_items 14 = .ok (.aload_n 0, 1) := by decide +kernel
theorem dX7_items_15 : decode cX7_items 15 = .ok (.invokevirtual 287, 3) := by decide +kernel
theorem dX7_items_18 : decode cX7_items 18 = .ok (.iconst 1, 1) := by decide +kernel
theorem dX7_items_19 : decode cX7_items 19 = .ok (.istore_n 1, 1) := by decide +kernel
theorem dX7_items_20 : decode cX7_items 20 = .ok (.aload_n 0, 1) := by decide +kernel
theorem dX7_items_21 : decode cX7_items 21 = .ok (.getfield 218, 3) := by decide +kernel
theorem dX7_items_24 : decode cX7_items 24 = .ok (.ifCond .ge 25, 3) := by decide +kernel
theorem dX7_items_27 : decode cX7_items 27 = .ok (.aload_n 0, 1) := by decide +kernel
theorem dX7_items_28 : decode cX7_items 28 = .ok (.getfield 203, 3) := by decide +kernel
theorem dX7_items_31 : decode cX7_items 31 = .ok (.iconst 3, 1) := by decide +kernel
theorem dX7_items_32 : decode cX7_items 32 = .ok (.if_icmp .ne 17, 3) := by decide +kernel
theorem dX7_items_35 : decode cX7_items 35 = .ok (.aload_n 0, 1) := by decide +kernel
theorem dX7_items_36 : decode cX7_items 36 = .ok (.invokevirtual 249, 3) := by decide +kernel
theorem dX7_items_39 : decode cX7_items 39 = .ok (.aload_n 0, 1) := by decide +kernel
theorem dX7_items_40 : decode cX7_items 40 = .ok (.invokevirtual 287, 3) := by decide +kernel
theorem dX7_items_43 : decode cX7_items 43 = .ok (.iinc 1 1, 3) := by decide +kernel
theorem dX7_items_46 : decode cX7_items 46 = .ok (.goto (-26), 3) := by decide +kernel
theorem dX7_items_49 : decode cX7_items 49 = .ok (.aload_n 0, 1) := by decide +kernel
theorem dX7_items_50 : decode cX7_items 50 = .ok (.getfield 218, 3) := by decide +kernel
theorem dX7_items_53 : decode cX7_items 53 = .ok (.ifCond .ge 14, 3) := by decide +kernel
theorem dX7_items_56 : decode cX7_items 56 = .ok (.aload_n 0, 1) := by decide +kernel
theorem dX7_items_57 : decode cX7_items 57 = .ok (.getfield 203, 3) := by decide +kernel
theorem dX7_items_60 : decode cX7_items 60 = .ok (.ifCond .eq 7, 3) := by decide +kernel
theorem dX7_items_63 : decode cX7_items 63 = .ok (.aload_n 0, 1) := by decide +kernel
theorem dX7_items_64 : decode cX7_items 64 = .ok (.invokevirtual 246, 3) := by decide +kernel
theorem dX7_items_67 : decode cX7_items 67 = .ok (.iload_n 1, 1) := by decide +kernel
theorem dX7_items_68 : decode cX7_items 68 = .ok (.ireturn, 1) := by decide +kernel
theorem dX7_text_0 : decode cX7_text 0 = .ok (.aload_n 0, 1) := by decide +kernel
theorem dX7_text_1 : decode cX7_text 1 = .ok (.invokevirtual 162, 3) := by decide +kernel
theorem dX7_text_4 : decode cX7_text 4 = .ok (.aload_n 0, 1) := by decide +kernel
theorem dX7_text_5 : decode cX7_text 5 = .ok (.invokevirtual 290, 3) := by decide +kernel
theorem dX7_text_8 : decode cX7_text 8 = .ok (.istore_n 1, 1) := by decide +kernel
theorem dX7_text_9 : decode cX7_text 9 = .ok (.aload_n 0, 1) := by decide +kernel
theorem dX7_text_10 : decode cX7_text 10 = .ok (.iconst 0, 1) := by decide +kernel
theorem dX7_text_11 : decode cX7_text 11 = .ok (.putfield 187, 3) := by decide +kernel
theorem dX7_text_14 : decode cX7_text 14 = .ok (.aload_n 0, 1) := by decide +kernel
theorem dX7_text_15 : decode cX7_text 15 = .ok (.getfield 218, 3) := by decide +kernel
theorem dX7_text_18 : decode cX7_text 18 = .ok (.ifCond .lt 14, 3) := by decide +kernel
theorem dX7_text_21 : decode cX7_text 21 = .ok (.aload_n 0, 1) := by decide +kernel
theorem dX7_text_22 : decode cX7_text 22 = .ok (.invokevirtual 165, 3) := by decide +kernel
theorem dX7_text_25 : decode cX7_text 25 = .ok (.iconst (-1), 1) := by decide +kernel
theorem dX7_text_26 : decode cX7_text 26 = .ok (.aload_n 0, 1) := by decide +kernel
theorem dX7_text_27 : decode cX7_text 27 = .ok (.getfield 218, 3) := by decide +kernel
theorem dX7_text_30 : decode cX7_text 30 = .ok (.isub, 1) := by decide +kernel
theorem dX7_text_31 : decode cX7_text 31 = .ok (.ireturn, 1) := by decide +kernel
theorem dX7_text_32 : decode cX7_text 32 = .ok (.iload_n 1, 1) := by decide +kernel
theorem dX7_text_33 : decode cX7_text 33 = .ok (.ireturn, 1) := by decide +kernel
theorem dX7_hold_0 : decode cX7_hold 0 = .ok (.iload_n 1, 1) := by decide +kernel
theorem dX7_hold_1 : decode cX7_hold 1 = .ok (.i2l, 1) := by decide +kernel
theorem dX7_hold_2 : decode cX7_hold 2 = .ok (.lconst 0, 1) := by decide +kernel
theorem dX7_hold_3 : decode cX7_hold 3 = .ok (.ldc2_w 49, 3) := by decide +kernel
theorem dX7_hold_6 : decode cX7_hold 6 = .ok (.invokestatic 39, 3) := by decide +kernel
theorem dX7_hold_9 : decode cX7_hold 9 = .ok (.ifCond .eq 16, 3) := by decide +kernel
theorem dX7_hold_12 : decode cX7_hold 12 = .ok (.iload_n 2, 1) := by decide +kernel
theorem dX7_hold_13 : decode cX7_hold 13 = .ok (.iconst (-1), 1) := by decide +kernel
theorem dX7_hold_14 : decode cX7_hold 14 = .ok (.if_icmp .eq 17, 3) := by decide +kernel
theorem dX7_hold_17 : decode cX7_hold 17 = .ok (.aload_n 0, 1) := by decide +kernel
theorem dX7_hold_18 : decode cX7_hold 18 = .ok (.iload_n 2, 1) := by decide +kernel
theorem dX7_hold_19 : decode cX7_hold 19 = .ok (.invokevirtual 59, 3) := by decide +kernel
theorem dX7_hold_22 : decode cX7_hold 22 = .ok (.ifCond .ne 9, 3) := by decide +kernel
theorem dX7_hold_25 : decode cX7_hold 25 = .ok (.aload_n 0, 1) := by decide +kernel
theorem dX7_hold_26 : decode cX7_hold 26 = .ok (.iconst 0, 1) := by decide +kernel
theorem dX7_hold_27 : decode cX7_hold 27 = .ok (.invokevirtual 51, 3) := by decide +kernel
theorem dX7_hold_30 : decode cX7_hold 30 = .ok (.ireturn, 1) := by decide +kernel
theorem dX7_hold_31 : decode cX7_hold 31 = .ok (.aload_n 0, 1) := by decide +kernel
theorem dX7_hold_32 : decode cX7_hold 32 = .ok (.getfield 7, 3) := by decide +kernel
theorem dX7_hold_35 : decode cX7_hold 35 = .ok (.bipush 122, 2) := by decide +kernel
theorem dX7_hold_37 : decode cX7_hold 37 = .ok (.iload_n 1, 1) := by decide +kernel
theorem dX7_hold_38 : decode cX7_hold 38 = .ok (.iadd, 1) := by decide +kernel
theorem dX7_hold_39 : decode cX7_hold 39 = .ok (.iload_n 2, 1) := by decide +kernel
theorem dX7_hold_40 : decode cX7_hold 40 = .ok (.iastore, 1) := by decide +kernel
theorem dX7_hold_41 : decode cX7_hold 41 = .ok (.iconst 1, 1) := by decide +kernel
theorem dX7_hold_42 : decode cX7_hold 42 = .ok (.ireturn, 1) := by decide +kernel
theorem dX7_isOf_0 : decode cX7_isOf 0 = .ok (.iload_n 1, 1) := by decide +kernel
theorem dX7_isOf_1 : decode cX7_isOf 1 = .ok (.ifCond .eq 29, 3) := by decide +kernel
theorem dX7_isOf_4 : decode cX7_isOf 4 = .ok (.iload_n 1, 1) := by decide +kernel
theorem dX7_isOf_5 : decode cX7_isOf 5 = .ok (.iload_n 0, 1) := by decide +kernel
theorem dX7_isOf_6 : decode cX7_isOf 6 = .ok (.if_icmp .eq 24, 3) := by decide +kernel
theorem dX7_isOf_9 : decode cX7_isOf 9 = .ok (.iload_n 1, 1) := by decide +kernel
theorem dX7_isOf_10 : decode cX7_isOf 10 = .ok (.iconst 2, 1) := by decide +kernel
theorem dX7_isOf_11 : decode cX7_isOf 11 = .ok (.if_icmp .ne 8, 3) := by decide +kernel
theorem dX7_isOf_14 : decode cX7_isOf 14 = .ok (.iload_n 0, 1) := by decide +kernel
theorem dX7_isOf_15 : decode cX7_isOf 15 = .ok (.iconst 4, 1) := by decide +kernel
theorem dX7_isOf_16 : decode cX7_isOf 16 = .ok (.if_icmp .eq 14, 3) := by decide +kernel
theorem dX7_isOf_19 : decode cX7_isOf 19 = .ok (.iload_n 1, 1) := by decide +kernel
theorem dX7_isOf_20 : decode cX7_isOf 20 = .ok (.iconst 1, 1) := by decide +kernel
theorem dX7_isOf_21 : decode cX7_isOf 21 = .ok (.if_icmp .ne 13, 3) := by decide +kernel
theorem dX7_isOf_24 : decode cX7_isOf 24 = .ok (.iload_n 0, 1) := by decide +kernel
theorem dX7_isOf_25 : decode cX7_isOf 25 = .ok (.bipush 6, 2) := by decide +kernel
theorem dX7_isOf_27 : decode cX7_isOf 27 = .ok (.if_icmp .ne 7, 3) := by decide +kernel
theorem dX7_isOf_30 : decode cX7_isOf 30 = .ok (.iconst 1, 1) := by decide +kernel
theorem dX7_isOf_31 : decode cX7_isOf 31 = .ok (.goto 4, 3) := by decide +kernel
theorem dX7_isOf_34 : decode cX7_isOf 34 = .ok (.iconst 0, 1) := by decide +kernel
theorem dX7_isOf_35 : decode cX7_isOf 35 = .ok (.ireturn, 1) := by decide +kernel
theorem dX7_as_0 : decode cX7_as 0 = .ok (.iload_n 1, 1) := by decide +kernel
theorem dX7_as_1 : decode cX7_as 1 = .ok (.i2l, 1) := by decide +kernel
theorem dX7_as_2 : decode cX7_as 2 = .ok (.lconst 0, 1) := by decide +kernel
theorem dX7_as_3 : decode cX7_as 3 = .ok (.ldc2_w 49, 3) := by decide +kernel
theorem dX7_as_6 : decode cX7_as 6 = .ok (.invokestatic 39, 3) := by decide +kernel
theorem dX7_as_9 : decode cX7_as 9 = .ok (.ifCond .eq 15, 3) := by decide +kernel
theorem dX7_as_12 : decode cX7_as 12 = .ok (.iload_n 2, 1) := by decide +kernel
theorem dX7_as_13 : decode cX7_as 13 = .ok (.i2l, 1) := by decide +kernel
theorem dX7_as_14 : decode cX7_as 14 = .ok (.lconst 0, 1) := by decide +kernel
theorem dX7_as_15 : decode cX7_as 15 = .ok (.ldc2_w 47, 3) := by decide +kernel
theorem dX7_as_18 : decode cX7_as 18 = .ok (.invokestatic 39, 3) := by decide +kernel
theorem dX7_as_21 : decode cX7_as 21 = .ok (.ifCond .ne 9, 3) := by decide +kernel
theorem dX7_as_24 : decode cX7_as 24 = .ok (.aload_n 0, 1) := by decide +kernel
theorem dX7_as_25 : decode cX7_as 25 = .ok (.iconst 0, 1) := by decide +kernel
theorem dX7_as_26 : decode cX7_as 26 = .ok (.invokevirtual 51, 3) := by decide +kernel
theorem dX7_as_29 : decode cX7_as 29 = .ok (.ireturn, 1) := by decide +kernel
theorem dX7_as_30 : decode cX7_as 30 = .ok (.aload_n 0, 1) := by decide +kernel
theorem dX7_as_31 : decode cX7_as 31 = .ok (.getfield 7, 3) := by decide +kernel
theorem dX7_as_34 : decode cX7_as 34 = .ok (.bipush 122, 2) := by decide +kernel
theorem dX7_as_36 : decode cX7_as 36 = .ok (.iload_n 1, 1) := by decide +kernel
theorem dX7_as_37 : decode cX7_as 37 = .ok (.iadd, 1) := by decide +kernel
theorem dX7_as_38 : decode cX7_as 38 = .ok (.iaload, 1) := by decide +kernel
theorem dX7_as_39 : decode cX7_as 39 = .ok (.istore_n 3, 1) := by decide +kernel
theorem dX7_as_40 : decode cX7_as 40 = .ok (.iload_n 3, 1) := by decide +kernel
theorem dX7_as_41 : decode cX7_as 41 = .ok (.ifCond .ge 9, 3) := by decide +kernel
theorem dX7_as_44 : decode cX7_as 44 = .ok (.aload_n 0, 1) := by decide +kernel
theorem dX7_as_45 : decode cX7_as 45 = .ok (.iconst 5, 1) := by decide +kernel
theorem dX7_as_46 : decode cX7_as 46 = .ok (.invokevirtual 51, 3) := by decide +kernel
theorem dX7_as_49 : decode cX7_as 49 = .ok (.ireturn, 1) := by decide +kernel
theorem dX7_as_50 : decode cX7_as 50 = .ok (.aload_n 0, 1) := by decide +kernel
theorem dX7_as_51 : decode cX7_as 51 = .ok (.iload_n 3, 1) := by decide +kernel
theorem dX7_as_52 : decode cX7_as 52 = .ok (.iconst 0, 1) := by decide +kernel
theorem dX7_as_53 : decode cX7_as 53 = .ok (.invokevirtual 63, 3) := by decide +kernel
theorem dX7_as_56 : decode cX7_as 56 = .ok (.iload_n 2, 1) := by decide +kernel
theorem dX7_as_57 : decode cX7_as 57 = .ok (.invokestatic 293, 3) := by decide +kernel
theorem dX7_as_60 : decode cX7_as 60 = .ok (.ifCond .eq 7, 3) := by decide +kernel
theorem dX7_as_63 : decode cX7_as 63 = .ok (.iload_n 3, 1) := by decide +kernel
theorem dX7_as_64 : decode cX7_as 64 = .ok (.goto 8, 3) := by decide +kernel
theorem dX7_as_67 : decode cX7_as 67 = .ok (.aload_n 0, 1) := by decide +kernel
theorem dX7_as_68 : decode cX7_as 68 = .ok (.iconst 2, 1) := by decide +kernel
theorem dX7_as_69 : decode cX7_as 69 = .ok (.invokevirtual 51, 3) := by decide +kernel
theorem dX7_as_72 : decode cX7_as 72 = .ok (.ireturn, 1) := by decide +kernel
theorem dX7_isSheet_0 : decode cX7_isSheet 0 = .ok (.iload_n 0, 1) := by decide +kernel
theorem dX7_isSheet_1 : decode cX7_isSheet 1 = .ok (.i2l, 1) := by decide +kernel
theorem dX7_isSheet_2 : decode cX7_isSheet 2 = .ok (.lconst 0, 1) := by decide +kernel
theorem dX7_isSheet_3 : decode cX7_isSheet 3 = .ok (.ldc2_w 296, 3) := by decide +kernel
theorem dX7_isSheet_6 : decode cX7_isSheet 6 = .ok (.invokestatic 39, 3) := by decide +kernel
theorem dX7_isSheet_9 : decode cX7_isSheet 9 = .ok (.ireturn, 1) := by decide +kernel
theorem dX7_sheet_0 : decode cX7_sheet 0 = .ok (.iload_n 1, 1) := by decide +kernel
theorem dX7_sheet_1 : decode cX7_sheet 1 = .ok (.invokestatic 298, 3) := by decide +kernel
theorem dX7_sheet_4 : decode cX7_sheet 4 = .ok (.ifCond .eq 25, 3) := by decide +kernel
theorem dX7_sheet_7 : decode cX7_sheet 7 = .ok (.iload_n 2, 1) := by decide +kernel
theorem dX7_sheet_8 : decode cX7_sheet 8 = .ok (.ifCond .eq 27, 3) := by decide +kernel
theorem dX7_sheet_11 : decode cX7_sheet 11 = .ok (.iload_n 2, 1) := by decide +kernel
theorem dX7_sheet_12 : decode cX7_sheet 12 = .ok (.bipush 8, 2) := by decide +kernel
theorem dX7_sheet_14 : decode cX7_sheet 14 = .ok (.if_icmp .eq 21, 3) := by decide +kernel
theorem dX7_sheet_17 : decode cX7_sheet 17 = .ok (.iload_n 2, 1) := by decide +kernel
theorem dX7_sheet_18 : decode cX7_sheet 18 = .ok (.bipush 16, 2) := by decide +kernel
theorem dX7_sheet_20 : decode cX7_sheet 20 = .ok (.if_icmp .eq 15, 3) := by decide +kernel
theorem dX7_sheet_23 : decode cX7_sheet 23 = .ok (.iload_n 2, 1) := by decide +kernel
theorem dX7_sheet_24 : decode cX7_sheet 24 = .ok (.bipush 32, 2) := by decide +kernel
theorem dX7_sheet_26 : decode cX7_sheet 26 = .ok (.if_icmp .eq 9, 3) := by decide +kernel
theorem dX7_sheet_29 : decode cX7_sheet 29 = .ok (.aload_n 0, 1) := by decide +kernel
theorem dX7_sheet_30 : decode cX7_sheet 30 = .ok (.iconst 0, 1) := by decide +kernel
theorem dX7_sheet_31 : decode cX7_sheet 31 = .ok (.invokevirtual 51, 3) := by decide +kernel
theorem dX7_sheet_34 : decode cX7_sheet 34 = .ok (.ireturn, 1) := by decide +kernel
theorem dX7_sheet_35 : decode cX7_sheet 35 = .ok (.iload_n 3, 1) := by decide +kernel
theorem dX7_sheet_36 : decode cX7_sheet 36 = .ok (.ifCond .ge 10, 3) := by decide +kernel
theorem dX7_sheet_39 : decode cX7_sheet 39 = .ok (.aload_n 0, 1) := by decide +kernel
theorem dX7_sheet_40 : decode cX7_sheet 40 = .ok (.bipush 6, 2) := by decide +kernel
theorem dX7_sheet_42 : decode cX7_sheet 42 = .ok (.invokevirtual 51, 3) := by decide +kernel
theorem dX7_sheet_45 : decode cX7_sheet 45 = .ok (.ireturn, 1) := by decide +kernel
theorem dX7_sheet_46 : decode cX7_sheet 46 = .ok (.iload_n 3, 1) := by decide +kernel
theorem dX7_sheet_47 : decode cX7_sheet 47 = .ok (.bipush 40, 2) := by decide +kernel
theorem dX7_sheet_49 : decode cX7_sheet 49 = .ok (.if_icmp .le 9, 3) := by decide +kernel
theorem dX7_sheet_52 : decode cX7_sheet 52 = .ok (.aload_n 0, 1) := by decide +kernel
theorem dX7_sheet_53 : decode cX7_sheet 53 = .ok (.iconst 0, 1) := by decide +kernel
theorem dX7_sheet_54 : decode cX7_sheet 54 = .ok (.invokevirtual 51, 3) := by decide +kernel
theorem dX7_sheet_57 : decode cX7_sheet 57 = .ok (.ireturn, 1) := by decide +kernel
theorem dX7_sheet_58 : decode cX7_sheet 58 = .ok (.aload_n 0, 1) := by decide +kernel
theorem dX7_sheet_59 : decode cX7_sheet 59 = .ok (.getfield 26, 3) := by decide +kernel
theorem dX7_sheet_62 : decode cX7_sheet 62 = .ok (.iload_n 1, 1) := by decide +kernel
theorem dX7_sheet_63 : decode cX7_sheet 63 = .ok (.iload_n 2, 1) := by decide +kernel
theorem dX7_sheet_64 : decode cX7_sheet 64 = .ok (.iastore, 1) := by decide +kernel
theorem dX7_sheet_65 : decode cX7_sheet 65 = .ok (.aload_n 0, 1) := by decide +kernel
theorem dX7_sheet_66 : decode cX7_sheet 66 = .ok (.getfield 29, 3) := by decide +kernel
theorem dX7_sheet_69 : decode cX7_sheet 69 = .ok (.iload_n 1, 1) := by decide +kernel
theorem dX7_sheet_70 : decode cX7_sheet 70 = .ok (.iload_n 2, 1) := by decide +kernel
theorem dX7_sheet_71 : decode cX7_sheet 71 = .ok (.ifCond .ne 7, 3) := by decide +kernel
theorem dX7_sheet_74 : decode cX7_sheet 74 = .ok (.iconst 0, 1) := by decide +kernel
theorem dX7_sheet_75 : decode cX7_sheet 75 = .ok (.goto 4, 3) := by decide +kernel
theorem dX7_sheet_78 : decode cX7_sheet 78 = .ok (.iload_n 3, 1) := by decide +kernel
theorem dX7_sheet_79 : decode cX7_sheet 79 = .ok (.iastore, 1) := by decide +kernel
theorem dX7_sheet_80 : decode cX7_sheet 80 = .ok (.iconst 0, 1) := by decide +kernel
theorem dX7_sheet_81 : decode cX7_sheet 81 = .ok (.istore 4, 2) := by decide +kernel
theorem dX7_sheet_83 : decode cX7_sheet 83 = .ok (.iload 4, 2) := by decide +kernel
theorem dX7_sheet_85 : decode cX7_sheet 85 = .ok (.bipush 40, 2) := by decide +kernel
theorem dX7_sheet_87 : decode cX7_sheet 87 = .ok (.if_icmp .ge 22, 3) := by decide +kernel
theorem dX7_sheet_90 : decode cX7_sheet 90 = .ok (.aload_n 0, 1) := by decide +kernel
theorem dX7_sheet_91 : decode cX7_sheet 91 = .ok (.getfield 32, 3) := by decide +kernel
theorem dX7_sheet_94 : decode cX7_sheet 94 = .ok (.bipush 40, 2) := by decide +kernel
theorem dX7_sheet_96 : decode cX7_sheet 96 = .ok (.iload_n 1, 1) := by decide +kernel
theorem dX7_sheet_97 : decode cX7_sheet 97 = .ok (.imul, 1) := by decide +kernel
theorem dX7_sheet_98 : decode cX7_sheet 98 = .ok (.iload 4, 2) := by decide +kernel
theorem dX7_sheet_100 : decode cX7_sheet 100 = .ok (.iadd, 1) := by decide +kernel
theorem dX7_sheet_101 : decode cX7_sheet 101 = .ok (.iconst 0, 1) := by decide +kernel
theorem dX7_sheet_102 : decode cX7_sheet 102 = .ok (.iastore, 1) := by decide +kernel
theorem dX7_sheet_103 : decode cX7_sheet 103 = .ok (.iinc 4 1, 3) := by decide +kernel
theorem dX7_sheet_106 : decode cX7_sheet 106 = .ok (.goto (-23), 3) := by decide +kernel
theorem dX7_sheet_109 : decode cX7_sheet 109 = .ok (.aload_n 0, 1) := by decide +kernel
theorem dX7_sheet_110 : decode cX7_sheet 110 = .ok (.getfield 29, 3) := by decide +kernel
theorem dX7_sheet_113 : decode cX7_sheet 113 = .ok (.iload_n 1, 1) := by decide +kernel
theorem dX7_sheet_114 : decode cX7_sheet 114 = .ok (.iaload, 1) := by decide +kernel
theorem dX7_sheet_115 : decode cX7_sheet 115 = .ok (.ireturn, 1) := by decide +kernel
theorem dX7_write_0 : decode cX7_write 0 = .ok (.iload_n 1, 1) := by decide +kernel
theorem dX7_write_1 : decode cX7_write 1 = .ok (.invokestatic 298, 3) := by decide +kernel
theorem dX7_write_4 : decode cX7_write 4 = .ok (.ifCond .ne 9, 3) := by decide +kernel
theorem dX7_write_7 : decode cX7_write 7 = .ok (.aload_n 0, 1) := by decide +kernel
theorem dX7_write_8 : decode cX7_write 8 = .ok (.iconst 0, 1) := by decide +kernel
theorem dX7_write_9 : decode cX7_write 9 = .ok (.invokevirtual 51, 3) := by decide +kernel
theorem dX7_write_12 : decode cX7_write 12 = .ok (.ireturn, 1) := by decide +kernel
theorem dX7_write_13 : decode cX7_write 13 = .ok (.aload_n 0, 1) := by decide +kernel
theorem dX7_write_14 : decode cX7_write 14 = .ok (.getfield 26, 3) := by decide +kernel
theorem dX7_write_17 : decode cX7_write 17 = .ok (.iload_n 1, 1) := by decide +kernel
theorem dX7_write_18 : decode cX7_write 18 = .ok (.iaload, 1) := by decide +kernel
theorem dX7_write_19 : decode cX7_write 19 = .ok (.ifCond .ne 9, 3) := by decide +kernel
theorem dX7_write_22 : decode cX7_write 22 = .ok (.aload_n 0, 1) := by decide +kernel
theorem dX7_write_23 : decode cX7_write 23 = .ok (.iconst 5, 1) := by decide +kernel
theorem dX7_write_24 : decode cX7_write 24 = .ok (.invokevirtual 51, 3) := by decide +kernel
theorem dX7_write_27 : decode cX7_write 27 = .ok (.ireturn, 1) := by decide +kernel
theorem dX7_write_28 : decode cX7_write 28 = .ok (.iload_n 2, 1) := by decide +kernel
theorem dX7_write_29 : decode cX7_write 29 = .ok (.i2l, 1) := by decide +kernel
theorem dX7_write_30 : decode cX7_write 30 = .ok (.lconst 0, 1) := by decide +kernel
theorem dX7_write_31 : decode cX7_write 31 = .ok (.aload_n 0, 1) := by decide +kernel
theorem dX7_write_32 : decode cX7_write 32 = .ok (.getfield 29, 3) := by decide +kernel
theorem dX7_write_35 : decode cX7_write 35 = .ok (.iload_n 1, 1) := by decide +kernel
theorem dX7_write_36 : decode cX7_write 36 = .ok (.iaload, 1) := by decide +kernel
theorem dX7_write_37 : decode cX7_write 37 = .ok (.iconst 1, 1) := by decide +kernel
theorem dX7_write_38 : decode cX7_write 38 = .ok (.isub, 1) := by decide +kernel
theorem dX7_write_39 : decode cX7_write 39 = .ok (.i2l, 1) := by decide +kernel
theorem dX7_write_40 : decode cX7_write 40 = .ok (.invokestatic 39, 3) := by decide +kernel
theorem dX7_write_43 : decode cX7_write 43 = .ok (.ifCond .ne 9, 3) := by decide +kernel
theorem dX7_write_46 : decode cX7_write 46 = .ok (.aload_n 0, 1) := by decide +kernel
theorem dX7_write_47 : decode cX7_write 47 = .ok (.iconst 0, 1) := by decide +kernel
theorem dX7_write_48 : decode cX7_write 48 = .ok (.invokevirtual 51, 3) := by decide +kernel
theorem dX7_write_51 : decode cX7_write 51 = .ok (.ireturn, 1) := by decide +kernel
theorem dX7_write_52 : decode cX7_write 52 = .ok (.aload_n 0, 1) := by decide +kernel
theorem dX7_write_53 : decode cX7_write 53 = .ok (.getfield 32, 3) := by decide +kernel
theorem dX7_write_56 : decode cX7_write 56 = .ok (.bipush 40, 2) := by decide +kernel
theorem dX7_write_58 : decode cX7_write 58 = .ok (.iload_n 1, 1) := by decide +kernel
theorem dX7_write_59 : decode cX7_write 59 = .ok (.imul, 1) := by decide +kernel
theorem dX7_write_60 : decode cX7_write 60 = .ok (.iload_n 2, 1) := by decide +kernel
theorem dX7_write_61 : decode cX7_write 61 = .ok (.iadd, 1) := by decide +kernel
theorem dX7_write_62 : decode cX7_write 62 = .ok (.aload_n 0, 1) := by decide +kernel
theorem dX7_write_63 : decode cX7_write 63 = .ok (.getfield 26, 3) := by decide +kernel
theorem dX7_write_66 : decode cX7_write 66 = .ok (.iload_n 1, 1) := by decide +kernel
theorem dX7_write_67 : decode cX7_write 67 = .ok (.iaload, 1) := by decide +kernel
theorem dX7_write_68 : decode cX7_write 68 = .ok (.bipush 8, 2) := by decide +kernel
theorem dX7_write_70 : decode cX7_write 70 = .ok (.if_icmp .ne 8, 3) := by decide +kernel
theorem dX7_write_73 : decode cX7_write 73 = .ok (.iload_n 3, 1) := by decide +kernel
theorem dX7_write_74 : decode cX7_write 74 = .ok (.i2b, 1) := by decide +kernel
theorem dX7_write_75 : decode cX7_write 75 = .ok (.goto 20, 3) := by decide +kernel
theorem dX7_write_78 : decode cX7_write 78 = .ok (.aload_n 0, 1) := by decide +kernel
theorem dX7_write_79 : decode cX7_write 79 = .ok (.getfield 26, 3) := by decide +kernel
theorem dX7_write_82 : decode cX7_write 82 = .ok (.iload_n 1, 1) := by decide +kernel
theorem dX7_write_83 : decode cX7_write 83 = .ok (.iaload, 1) := by decide +kernel
theorem dX7_write_84 : decode cX7_write 84 = .ok (.bipush 16, 2) := by decide +kernel
theorem dX7_write_86 : decode cX7_write 86 = .ok (.if_icmp .ne 8, 3) := by decide +kernel
theorem dX7_write_89 : decode cX7_write 89 = .ok (.iload_n 3, 1) := by decide +kernel
theorem dX7_write_90 : decode cX7_write 90 = .ok (.i2s, 1) := by decide +kernel
theorem dX7_write_91 : decode cX7_write 91 = .ok (.goto 4, 3) := by decide +kernel
theorem dX7_write_94 : decode cX7_write 94 = .ok (.iload_n 3, 1) := by decide +kernel
theorem dX7_write_95 : decode cX7_write 95 = .ok (.iastore, 1) := by decide +kernel
theorem dX7_write_96 : decode cX7_write 96 = .ok (.iconst 1, 1) := by decide +kernel
theorem dX7_write_97 : decode cX7_write 97 = .ok (.ireturn, 1) := by decide +kernel
theorem dX7_copy_0 : decode cX7_copy 0 = .ok (.iload_n 1, 1) := by decide +kernel
theorem dX7_copy_1 : decode cX7_copy 1 = .ok (.invokestatic 298, 3) := by decide +kernel
theorem dX7_copy_4 : decode cX7_copy 4 = .ok (.ifCond .eq 10, 3) := by decide +kernel
theorem dX7_copy_7 : decode cX7_copy 7 = .ok (.iload_n 3, 1) := by decide +kernel
theorem dX7_copy_8 : decode cX7_copy 8 = .ok (.invokestatic 298, 3) := by decide +kernel
theorem dX7_copy_11 : decode cX7_copy 11 = .ok (.ifCond .ne 9, 3) := by decide +kernel
theorem dX7_copy_14 : decode cX7_copy 14 = .ok (.aload_n 0, 1) := by decide +kernel
theorem dX7_copy_15 : decode cX7_copy 15 = .ok (.iconst 0, 1) := by decide +kernel
theorem dX7_copy_16 : decode cX7_copy 16 = .ok (.invokevirtual 51, 3) := by decide +kernel
theorem dX7_copy_19 : decode cX7_copy 19 = .ok (.ireturn, 1) := by decide +kernel
theorem dX7_copy_20 : decode cX7_copy 20 = .ok (.aload_n 0, 1) := by decide +kernel
theorem dX7_copy_21 : decode cX7_copy 21 = .ok (.getfield 26, 3) := by decide +kernel
theorem dX7_copy_24 : decode cX7_copy 24 = .ok (.iload_n 1, 1) := by decide +kernel
theorem dX7_copy_25 : decode cX7_copy 25 = .ok (.iaload, 1) := by decide +kernel
theorem dX7_copy_26 : decode cX7_copy 26 = .ok (.ifCond .eq 12, 3) := by decide +kernel
theorem dX7_copy_29 : decode cX7_copy 29 = .ok (.aload_n 0, 1) := by decide +kernel
theorem dX7_copy_30 : decode cX7_copy 30 = .ok (.getfield 26, 3) := by decide +kernel
theorem dX7_copy_33 : decode cX7_copy 33 = .ok (.iload_n 3, 1) := by decide +kernel
theorem dX7_copy_34 : decode cX7_copy 34 = .ok (.iaload, 1) := by decide +kernel
theorem dX7_copy_35 : decode cX7_copy 35 = .ok (.ifCond .ne 9, 3) := by decide +kernel
theorem dX7_copy_38 : decode cX7_copy 38 = .ok (.aload_n 0, 1) := by decide +kernel
theorem dX7_copy_39 : decode cX7_copy 39 = .ok (.iconst 5, 1) := by decide +kernel
theorem dX7_copy_40 : decode cX7_copy 40 = .ok (.invokevirtual 51, 3) := by decide +kernel
theorem dX7_copy_43 : decode cX7_copy 43 = .ok (.ireturn, 1) := by decide +kernel
theorem dX7_copy_44 : decode cX7_copy 44 = .ok (.aload_n 0, 1) := by decide +kernel
theorem dX7_copy_45 : decode cX7_copy 45 = .ok (.getfield 26, 3) := by decide +kernel
theorem dX7_copy_48 : decode cX7_copy 48 = .ok (.iload_n 1, 1) := by decide +kernel
theorem dX7_copy_49 : decode cX7_copy 49 = .ok (.iaload, 1) := by decide +kernel
theorem dX7_copy_50 : decode cX7_copy 50 = .ok (.aload_n 0, 1) := by decide +kernel
theorem dX7_copy_51 : decode cX7_copy 51 = .ok (.getfield 26, 3) := by decide +kernel
theorem dX7_copy_54 : decode cX7_copy 54 = .ok (.iload_n 3, 1) := by decide +kernel
theorem dX7_copy_55 : decode cX7_copy 55 = .ok (.iaload, 1) := by decide +kernel
theorem dX7_copy_56 : decode cX7_copy 56 = .ok (.if_icmp .eq 9, 3) := by decide +kernel
theorem dX7_copy_59 : decode cX7_copy 59 = .ok (.aload_n 0, 1) := by decide +kernel
theorem dX7_copy_60 : decode cX7_copy 60 = .ok (.iconst 2, 1) := by decide +kernel
theorem dX7_copy_61 : decode cX7_copy 61 = .ok (.invokevirtual 51, 3) := by decide +kernel
theorem dX7_copy_64 : decode cX7_copy 64 = .ok (.ireturn, 1) := by decide +kernel
theorem dX7_copy_65 : decode cX7_copy 65 = .ok (.iload_n 2, 1) := by decide +kernel
theorem dX7_copy_66 : decode cX7_copy 66 = .ok (.ifCond .lt 48, 3) := by decide +kernel
theorem dX7_copy_69 : decode cX7_copy 69 = .ok (.iload 4, 2) := by decide +kernel
theorem dX7_copy_71 : decode cX7_copy 71 = .ok (.ifCond .lt 43, 3) := by decide +kernel
theorem dX7_copy_74 : decode cX7_copy 74 = .ok (.iload 5, 2) := by decide +kernel
theorem dX7_copy_76 : decode cX7_copy 76 = .ok (.ifCond .lt 38, 3) := by decide +kernel
theorem dX7_copy_79 : decode cX7_copy 79 = .ok (.iload_n 2, 1) := by decide +kernel
theorem dX7_copy_80 : decode cX7_copy 80 = .ok (.i2l, 1) := by decide +kernel
theorem dX7_copy_81 : decode cX7_copy 81 = .ok (.iload 5, 2) := by decide +kernel
theorem dX7_copy_83 : decode cX7_copy 83 = .ok (.i2l, 1) := by decide +kernel
theorem dX7_copy_84 : decode cX7_copy 84 = .ok (.ladd, 1) := by decide +kernel
theorem dX7_copy_85 : decode cX7_copy 85 = .ok (.aload_n 0, 1) := by decide +kernel
theorem dX7_copy_86 : decode cX7_copy 86 = .ok (.getfield 29, 3) := by decide +kernel
theorem dX7_copy_89 : decode cX7_copy 89 = .ok (.iload_n 1, 1) := by decide +kernel
theorem dX7_copy_90 : decode cX7_copy 90 = .ok (.iaload, 1) := by decide +kernel
theorem dX7_copy_91 : decode cX7_copy 91 = .ok (.i2l, 1) := by decide +kernel
theorem dX7_copy_92 : decode cX7_copy 92 = .ok (.lcmp, 1) := by decide +kernel
theorem dX7_copy_93 : decode cX7_copy 93 = .ok (.ifCond .gt 21, 3) := by decide +kernel
theorem dX7_copy_96 : decode cX7_copy 96 = .ok (.iload 4, 2) := by decide +kernel
theorem dX7_copy_98 : decode cX7_copy 98 = .ok (.i2l, 1) := by decide +kernel
theorem dX7_copy_99 : decode cX7_copy 99 = .ok (.iload 5, 2) := by decide +kernel
theorem dX7_copy_101 : decode cX7_copy 101 = .ok (.i2l, 1) := by decide +kernel
theorem dX7_copy_102 : decode cX7_copy 102 = .ok (.ladd, 1) := by decide +kernel
theorem dX7_copy_103 : decode cX7_copy 103 = .ok (.aload_n 0, 1) := by decide +kernel
theorem dX7_copy_104 : decode cX7_copy 104 = .ok (.getfield 29, 3) := by decide +kernel
theorem dX7_copy_107 : decode cX7_copy 107 = .ok (.iload_n 3, 1) := by decide +kernel
theorem dX7_copy_108 : decode cX7_copy 108 = .ok (.iaload, 1) := by decide +kernel
theorem dX7_copy_109 : decode cX7_copy 109 = .ok (.i2l, 1) := by decide +kernel
theorem dX7_copy_110 : decode cX7_copy 110 = .ok (.lcmp, 1) := by decide +kernel
theorem dX7_copy_111 : decode cX7_copy 111 = .ok (.ifCond .le 9, 3) := by decide +kernel
theorem dX7_copy_114 : decode cX7_copy 114 = .ok (.aload_n 0, 1) := by decide +kernel
theorem dX7_copy_115 : decode cX7_copy 115 = .ok (.iconst 0, 1) := by decide +kernel
theorem dX7_copy_116 : decode cX7_copy 116 = .ok (.invokevirtual 51, 3) := by decide +kernel
theorem dX7_copy_119 : decode cX7_copy 119 = .ok (.ireturn, 1) := by decide +kernel
theorem dX7_copy_120 : decode cX7_copy 120 = .ok (.iconst 0, 1) := by decide +kernel
theorem dX7_copy_121 : decode cX7_copy 121 = .ok (.istore 6, 2) := by decide +kernel
theorem dX7_copy_123 : decode cX7_copy 123 = .ok (.iload 6, 2) := by decide +kernel
theorem dX7_copy_125 : decode cX7_copy 125 = .ok (.iload 5, 2) := by decide +kernel
theorem dX7_copy_127 : decode cX7_copy 127 = .ok (.if_icmp .ge 30, 3) := by decide +kernel
theorem dX7_copy_130 : decode cX7_copy 130 = .ok (.aload_n 0, 1) := by decide +kernel
theorem dX7_copy_131 : decode cX7_copy 131 = .ok (.getfield 35, 3) := by decide +kernel
theorem dX7_copy_134 : decode cX7_copy 134 = .ok (.iload 6, 2) := by decide +kernel
theorem dX7_copy_136 : decode cX7_copy 136 = .ok (.aload_n 0, 1) := by decide +kernel
theorem dX7_copy_137 : decode cX7_copy 137 = .ok (.getfield 32, 3) := by decide +kernel
theorem dX7_copy_140 : decode cX7_copy 140 = .ok (.bipush 40, 2) := by decide +kernel
theorem dX7_copy_142 : decode cX7_copy 142 = .ok (.iload_n 1, 1) := by decide +kernel
theorem dX7_copy_143 : decode cX7_copy 143 = .ok (.imul, 1) := by decide +kernel
theorem dX7_copy_144 : decode cX7_copy 144 = .ok (.iload_n 2, 1) := by decide +kernel
theorem dX7_copy_145 : decode cX7_copy 145 = .ok (.iadd, 1) := by decide +kernel
theorem dX7_copy_146 : decode cX7_copy 146 = .ok (.iload 6, 2) := by decide +kernel
theorem dX7_copy_148 : decode cX7_copy 148 = .ok (.iadd, 1) := by decide +kernel
theorem dX7_copy_149 : decode cX7_copy 149 = .ok (.iaload, 1) := by decide +kernel
theorem dX7_copy_150 : decode cX7_copy 150 = .ok (.iastore, 1) := by decide +kernel
theorem dX7_copy_151 : decode cX7_copy 151 = .ok (.iinc 6 1, 3) := by decide +kernel
theorem dX7_copy_154 : decode cX7_copy 154 = .ok (.goto (-31), 3) := by decide +kernel
theorem dX7_copy_157 : decode cX7_copy 157 = .ok (.iconst 0, 1) := by decide +kernel
theorem dX7_copy_158 : decode cX7_copy 158 = .ok (.istore 6, 2) := by decide +kernel
theorem dX7_copy_160 : decode cX7_copy 160 = .ok (.iload 6, 2) := by decide +kernel
theorem dX7_copy_162 : decode cX7_copy 162 = .ok (.iload 5, 2) := by decide +kernel
theorem dX7_copy_164 : decode cX7_copy 164 = .ok (.if_icmp .ge 31, 3) := by decide +kernel
theorem dX7_copy_167 : decode cX7_copy 167 = .ok (.aload_n 0, 1) := by decide +kernel
theorem dX7_copy_168 : decode cX7_copy 168 = .ok (.getfield 32, 3) := by decide +kernel
theorem dX7_copy_171 : decode cX7_copy 171 = .ok (.bipush 40, 2) := by decide +kernel
theorem dX7_copy_173 : decode cX7_copy 173 = .ok (.iload_n 3, 1) := by decide +kernel
theorem dX7_copy_174 : decode cX7_copy 174 = .ok (.imul, 1) := by decide +kernel
theorem dX7_copy_175 : decode cX7_copy 175 = .ok (.iload 4, 2) := by decide +kernel
theorem dX7_copy_177 : decode cX7_copy 177 = .ok (.iadd, 1) := by decide +kernel
theorem dX7_copy_178 : decode cX7_copy 178 = .ok (.iload 6, 2) := by decide +kernel
theorem dX7_copy_180 : decode cX7_copy 180 = .ok (.iadd, 1) := by decide +kernel
theorem dX7_copy_181 : decode cX7_copy 181 = .ok (.aload_n 0, 1) := by decide +kernel
theorem dX7_copy_182 : decode cX7_copy 182 = .ok (.getfield 35, 3) := by decide +kernel
theorem dX7_copy_185 : decode cX7_copy 185 = .ok (.iload 6, 2) := by decide +kernel
theorem dX7_copy_187 : decode cX7_copy 187 = .ok (.iaload, 1) := by decide +kernel
theorem dX7_copy_188 : decode cX7_copy 188 = .ok (.iastore, 1) := by decide +kernel
theorem dX7_copy_189 : decode cX7_copy 189 = .ok (.iinc 6 1, 3) := by decide +kernel
theorem dX7_copy_192 : decode cX7_copy 192 = .ok (.goto (-32), 3) := by decide +kernel
theorem dX7_copy_195 : decode cX7_copy 195 = .ok (.iload 5, 2) := by decide +kernel
theorem dX7_copy_197 : decode cX7_copy 197 = .ok (.ireturn, 1) := by decide +kernel
theorem dX7_whyNot_0 : decode cX7_whyNot 0 = .ok (.iload_n 1, 1) := by decide +kernel
theorem dX7_whyNot_1 : decode cX7_whyNot 1 = .ok (.invokestatic 298, 3) := by decide +kernel
theorem dX7_whyNot_4 : decode cX7_whyNot 4 = .ok (.ifCond .ne 7, 3) := by decide +kernel
theorem dX7_whyNot_7 : decode cX7_whyNot 7 = .ok (.iconst 0, 1) := by decide +kernel
theorem dX7_whyNot_8 : decode cX7_whyNot 8 = .ok (.goto 17, 3) := by decide +kernel
theorem dX7_whyNot_11 : decode cX7_whyNot 11 = .ok (.aload_n 0, 1) := by decide +kernel
theorem dX7_whyNot_12 : decode cX7_whyNot 12 = .ok (.getfield 26, 3) := by decide +kernel
theorem dX7_whyNot_15 : decode cX7_whyNot 15 = .ok (.iload_n 1, 1) := by decide +kernel
theorem dX7_whyNot_16 : decode cX7_whyNot 16 = .ok (.iaload, 1) := by decide +kernel
theorem dX7_whyNot_17 : decode cX7_whyNot 17 = .ok (.ifCond .ne 7, 3) := by decide +kernel
theorem dX7_whyNot_20 : decode cX7_whyNot 20 = .ok (.iconst 5, 1) := by decide +kernel
theorem dX7_whyNot_21 : decode cX7_whyNot 21 = .ok (.goto 4, 3) := by decide +kernel
theorem dX7_whyNot_24 : decode cX7_whyNot 24 = .ok (.iconst (-1), 1) := by decide +kernel
theorem dX7_whyNot_25 : decode cX7_whyNot 25 = .ok (.ireturn, 1) := by decide +kernel
theorem dX7_load_0 : decode cX7_load 0 = .ok (.aload_n 0, 1) := by decide +kernel
theorem dX7_load_1 : decode cX7_load 1 = .ok (.iload_n 1, 1) := by decide +kernel
theorem dX7_load_2 : decode cX7_load 2 = .ok (.invokevirtual 301, 3) := by decide +kernel
theorem dX7_load_5 : decode cX7_load 5 = .ok (.istore_n 2, 1) := by decide +kernel
theorem dX7_load_6 : decode cX7_load 6 = .ok (.iload_n 2, 1) := by decide +kernel
theorem dX7_load_7 : decode cX7_load 7 = .ok (.ifCond .lt 9, 3) := by decide +kernel
theorem dX7_load_10 : decode cX7_load 10 = .ok (.aload_n 0, 1) := by decide +kernel
theorem dX7_load_11 : decode cX7_load 11 = .ok (.iload_n 2, 1) := by decide +kernel
theorem dX7_load_12 : decode cX7_load 12 = .ok (.invokevirtual 51, 3) := by decide +kernel
theorem dX7_load_15 : decode cX7_load 15 = .ok (.ireturn, 1) := by decide +kernel
theorem dX7_load_16 : decode cX7_load 16 = .ok (.iconst 0, 1) := by decide +kernel
theorem dX7_load_17 : decode cX7_load 17 = .ok (.istore_n 3, 1) := by decide +kernel
theorem dX7_load_18 : decode cX7_load 18 = .ok (.iload_n 3, 1) := by decide +kernel
theorem dX7_load_19 : decode cX7_load 19 = .ok (.aload_n 0, 1) := by decide +kernel
theorem dX7_load_20 : decode cX7_load 20 = .ok (.getfield 29, 3) := by decide +kernel
theorem dX7_load_23 : decode cX7_load 23 = .ok (.iload_n 1, 1) := by decide +kernel
theorem dX7_load_24 : decode cX7_load 24 = .ok (.iaload, 1) := by decide +kernel
theorem dX7_load_25 : decode cX7_load 25 = .ok (.if_icmp .ge 58, 3) := by decide +kernel
theorem dX7_load_28 : decode cX7_load 28 = .ok (.iload_n 3, 1) := by decide +kernel
theorem dX7_load_29 : decode cX7_load 29 = .ok (.aload_n 0, 1) := by decide +kernel
theorem dX7_load_30 : decode cX7_load 30 = .ok (.getfield 7, 3) := by decide +kernel
theorem dX7_load_33 : decode cX7_load 33 = .ok (.iconst 0, 1) := by decide +kernel
theorem dX7_load_34 : decode cX7_load 34 = .ok (.iaload, 1) := by decide +kernel
theorem dX7_load_35 : decode cX7_load 35 = .ok (.if_icmp .ge 48, 3) := by decide +kernel
theorem dX7_load_38 : decode cX7_load 38 = .ok (.aload_n 0, 1) := by decide +kernel
theorem dX7_load_39 : decode cX7_load 39 = .ok (.getfield 32, 3) := by decide +kernel
theorem dX7_load_42 : decode cX7_load 42 = .ok (.bipush 40, 2) := by decide +kernel
theorem dX7_load_44 : decode cX7_load 44 = .ok (.iload_n 1, 1) := by decide +kernel
theorem dX7_load_45 : decode cX7_load 45 = .ok (.imul, 1) := by decide +kernel
theorem dX7_load_46 : decode cX7_load 46 = .ok (.iload_n 3, 1) := by decide +kernel
theorem dX7_load_47 : decode cX7_load 47 = .ok (.iadd, 1) := by decide +kernel
theorem dX7_load_48 : decode cX7_load 48 = .ok (.iaload, 1) := by decide +kernel
theorem dX7_load_49 : decode cX7_load 49 = .ok (.i2l, 1) := by decide +kernel
theorem dX7_load_50 : decode cX7_load 50 = .ok (.lconst 0, 1) := by decide +kernel
theorem dX7_load_51 : decode cX7_load 51 = .ok (.ldc2_w 67, 3) := by decide +kernel
theorem dX7_load_54 : decode cX7_load 54 = .ok (.invokestatic 39, 3) := by decide +kernel
theorem dX7_load_57 : decode cX7_load 57 = .ok (.ifCond .eq 26, 3) := by decide +kernel
theorem dX7_load_60 : decode cX7_load 60 = .ok (.aload_n 0, 1) := by decide +kernel
theorem dX7_load_61 : decode cX7_load 61 = .ok (.iload_n 3, 1) := by decide +kernel
theorem dX7_load_62 : decode cX7_load 62 = .ok (.iconst 2, 1) := by decide +kernel
theorem dX7_load_63 : decode cX7_load 63 = .ok (.aload_n 0, 1) := by decide +kernel
theorem dX7_load_64 : decode cX7_load 64 = .ok (.getfield 32, 3) := by decide +kernel
theorem dX7_load_67 : decode cX7_load 67 = .ok (.bipush 40, 2) := by decide +kernel
theorem dX7_load_69 : decode cX7_load 69 = .ok (.iload_n 1, 1) := by decide +kernel
theorem dX7_load_70 : decode cX7_load 70 = .ok (.imul, 1) := by decide +kernel
theorem dX7_load_71 : decode cX7_load 71 = .ok (.iload_n 3, 1) := by decide +kernel
theorem dX7_load_72 : decode cX7_load 72 = .ok (.iadd, 1) := by decide +kernel
theorem dX7_load_73 : decode cX7_load 73 = .ok (.iaload, 1) := by decide +kernel
theorem dX7_load_74 : decode cX7_load 74 = .ok (.invokevirtual 43, 3) := by decide +kernel
theorem dX7_load_77 : decode cX7_load 77 = .ok (.iinc 3 1, 3) := by decide +kernel
theorem dX7_load_80 : decode cX7_load 80 = .ok (.goto (-62), 3) := by decide +kernel
theorem dX7_load_83 : decode cX7_load 83 = .ok (.iload_n 3, 1) := by decide +kernel
theorem dX7_load_84 : decode cX7_load 84 = .ok (.ireturn, 1) := by decide +kernel
theorem dX7_judge_0 : decode cX7_judge 0 = .ok (.aload_n 0, 1) := by decide +kernel
theorem dX7_judge_1 : decode cX7_judge 1 = .ok (.iload_n 1, 1) := by decide +kernel
theorem dX7_judge_2 : decode cX7_judge 2 = .ok (.invokevirtual 301, 3) := by decide +kernel
theorem dX7_judge_5 : decode cX7_judge 5 = .ok (.istore_n 2, 1) := by decide +kernel
theorem dX7_judge_6 : decode cX7_judge 6 = .ok (.iload_n 2, 1) := by decide +kernel
theorem dX7_judge_7 : decode cX7_judge 7 = .ok (.ifCond .ge 18, 3) := by decide +kernel
theorem dX7_judge_10 : decode cX7_judge 10 = .ok (.aload_n 0, 1) := by decide +kernel
theorem dX7_judge_11 : decode cX7_judge 11 = .ok (.aload_n 0, 1) := by decide +kernel
theorem dX7_judge_12 : decode cX7_judge 12 = .ok (.getfield 29, 3) := by decide +kernel
theorem dX7_judge_15 : decode cX7_judge 15 = .ok (.iload_n 1, 1) := by decide +kernel
theorem dX7_judge_16 : decode cX7_judge 16 = .ok (.iaload, 1) := by decide +kernel
theorem dX7_judge_17 : decode cX7_judge 17 = .ok (.invokevirtual 121, 3) := by decide +kernel
theorem dX7_judge_20 : decode cX7_judge 20 = .ok (.ifCond .eq 5, 3) := by decide +kernel
theorem dX7_judge_23 : decode cX7_judge 23 = .ok (.iconst 4, 1) := by decide +kernel
theorem dX7_judge_24 : decode cX7_judge 24 = .ok (.istore_n 2, 1) := by decide +kernel
theorem dX7_judge_25 : decode cX7_judge 25 = .ok (.iload_n 2, 1) := by decide +kernel
theorem dX7_judge_26 : decode cX7_judge 26 = .ok (.ifCond .lt 9, 3) := by decide +kernel
theorem dX7_judge_29 : decode cX7_judge 29 = .ok (.aload_n 0, 1) := by decide +kernel
theorem dX7_judge_30 : decode cX7_judge 30 = .ok (.iload_n 2, 1) := by decide +kernel
theorem dX7_judge_31 : decode cX7_judge 31 = .ok (.invokevirtual 51, 3) := by decide +kernel
theorem dX7_judge_34 : decode cX7_judge 34 = .ok (.ireturn, 1) := by decide +kernel
theorem dX7_judge_35 : decode cX7_judge 35 = .ok (.iconst 0, 1) := by decide +kernel
theorem dX7_judge_36 : decode cX7_judge 36 = .ok (.istore_n 3, 1) := by decide +kernel
theorem dX7_judge_37 : decode cX7_judge 37 = .ok (.aload_n 0, 1) := by decide +kernel
theorem dX7_judge_38 : decode cX7_judge 38 = .ok (.invokevirtual 162, 3) := by decide +kernel
theorem dX7_judge_41 : decode cX7_judge 41 = .ok (.iconst 0, 1) := by decide +kernel
theorem dX7_judge_42 : decode cX7_judge 42 = .ok (.istore 4, 2) := by decide +kernel
theorem dX7_judge_44 : decode cX7_judge 44 = .ok (.iload 4, 2) := by decide +kernel
theorem dX7_judge_46 : decode cX7_judge 46 = .ok (.aload_n 0, 1) := by decide +kernel
theorem dX7_judge_47 : decode cX7_judge 47 = .ok (.getfield 29, 3) := by decide +kernel
theorem dX7_judge_50 : decode cX7_judge 50 = .ok (.iload_n 1, 1) := by decide +kernel
theorem dX7_judge_51 : decode cX7_judge 51 = .ok (.iaload, 1) := by decide +kernel
theorem dX7_judge_52 : decode cX7_judge 52 = .ok (.if_icmp .ge 42, 3) := by decide +kernel
theorem dX7_judge_55 : decode cX7_judge 55 = .ok (.iload_n 3, 1) := by decide +kernel
theorem dX7_judge_56 : decode cX7_judge 56 = .ok (.ifCond .ne 38, 3) := by decide +kernel
theorem dX7_judge_59 : decode cX7_judge 59 = .ok (.aload_n 0, 1) := by decide +kernel
theorem dX7_judge_60 : decode cX7_judge 60 = .ok (.iconst 1, 1) := by decide +kernel
theorem dX7_judge_61 : decode cX7_judge 61 = .ok (.invokevirtual 124, 3) := by decide +kernel
theorem dX7_judge_64 : decode cX7_judge 64 = .ok (.aload_n 0, 1) := by decide +kernel
theorem dX7_judge_65 : decode cX7_judge 65 = .ok (.getfield 32, 3) := by decide +kernel
theorem dX7_judge_68 : decode cX7_judge 68 = .ok (.bipush 40, 2) := by decide +kernel
theorem dX7_judge_70 : decode cX7_judge 70 = .ok (.iload_n 1, 1) := by decide +kernel
theorem dX7_judge_71 : decode cX7_judge 71 = .ok (.imul, 1) := by decide +kernel
theorem dX7_judge_72 : decode cX7_judge 72 = .ok (.iload 4, 2) := by decide +kernel
theorem dX7_judge_74 : decode cX7_judge 74 = .ok (.iadd, 1) := by decide +kernel
theorem dX7_judge_75 : decode cX7_judge 75 = .ok (.iaload, 1) := by decide +kernel
theorem dX7_judge_76 : decode cX7_judge 76 = .ok (.if_icmp .ne 7, 3) := by decide +kernel
theorem dX7_judge_79 : decode cX7_judge 79 = .ok (.iconst 0, 1) := by decide +kernel
theorem dX7_judge_80 : decode cX7_judge 80 = .ok (.goto 7, 3) := by decide +kernel
theorem dX7_judge_83 : decode cX7_judge 83 = .ok (.iconst 1, 1) := by decide +kernel
theorem dX7_judge_84 : decode cX7_judge 84 = .ok (.iload 4, 2) := by decide +kernel
theorem dX7_judge_86 : decode cX7_judge 86 = .ok (.iadd, 1) := by decide +kernel
theorem dX7_judge_87 : decode cX7_judge 87 = .ok (.istore_n 3, 1) := by decide +kernel
theorem dX7_judge_88 : decode cX7_judge 88 = .ok (.iinc 4 1, 3) := by decide +kernel
theorem dX7_judge_91 : decode cX7_judge 91 = .ok (.goto (-47), 3) := by decide +kernel
theorem dX7_judge_94 : decode cX7_judge 94 = .ok (.aload_n 0, 1) := by decide +kernel
theorem dX7_judge_95 : decode cX7_judge 95 = .ok (.invokevirtual 165, 3) := by decide +kernel
theorem dX7_judge_98 : decode cX7_judge 98 = .ok (.iload_n 3, 1) := by decide +kernel
theorem dX7_judge_99 : decode cX7_judge 99 = .ok (.ireturn, 1) := by decide +kernel
theorem dX7_image_0 : decode cX7_image 0 = .ok (.aload_n 0, 1) := by decide +kernel
theorem dX7_image_1 : decode cX7_image 1 = .ok (.getfield 7, 3) := by decide +kernel
theorem dX7_image_4 : decode cX7_image 4 = .ok (.aload_n 0, 1) := by decide +kernel
theorem dX7_image_5 : decode cX7_image 5 = .ok (.getfield 16, 3) := by decide +kernel
theorem dX7_image_8 : decode cX7_image 8 = .ok (.invokestatic 152, 3) := by decide +kernel
theorem dX7_image_11 : decode cX7_image 11 = .ok (.aload_n 0, 1) := by decide +kernel
theorem dX7_image_12 : decode cX7_image 12 = .ok (.iconst 1, 1) := by decide +kernel
theorem dX7_image_13 : decode cX7_image 13 = .ok (.putfield 304, 3) := by decide +kernel
theorem dX7_image_16 : decode cX7_image 16 = .ok (.iconst 1, 1) := by decide +kernel
theorem dX7_image_17 : decode cX7_image 17 = .ok (.ireturn, 1) := by decide +kernel
theorem dX7_undo_0 : decode cX7_undo 0 = .ok (.aload_n 0, 1) := by decide +kernel
theorem dX7_undo_1 : decode cX7_undo 1 = .ok (.getfield 304, 3) := by decide +kernel
theorem dX7_undo_4 : decode cX7_undo 4 = .ok (.ifCond .ne 9, 3) := by decide +kernel
theorem dX7_undo_7 : decode cX7_undo 7 = .ok (.aload_n 0, 1) := by decide +kernel
theorem dX7_undo_8 : decode cX7_undo 8 = .ok (.iconst 3, 1) := by decide +kernel
theorem dX7_undo_9 : decode cX7_undo 9 = .ok (.invokevirtual 51, 3) := by decide +kernel
theorem dX7_undo_12 : decode cX7_undo 12 = .ok (.ireturn, 1) := by decide +kernel
theorem dX7_undo_13 : decode cX7_undo 13 = .ok (.aload_n 0, 1) := by decide +kernel
theorem dX7_undo_14 : decode cX7_undo 14 = .ok (.getfield 16, 3) := by decide +kernel
theorem dX7_undo_17 : decode cX7_undo 17 = .ok (.aload_n 0, 1) := by decide +kernel
theorem dX7_undo_18 : decode cX7_undo 18 = .ok (.getfield 7, 3) := by decide +kernel
theorem dX7_undo_21 : decode cX7_undo 21 = .ok (.invokestatic 152, 3) := by decide +kernel
theorem dX7_undo_24 : decode cX7_undo 24 = .ok (.aload_n 0, 1) := by decide +kernel
theorem dX7_undo_25 : decode cX7_undo 25 = .ok (.getfield 7, 3) := by decide +kernel
theorem dX7_undo_28 : decode cX7_undo 28 = .ok (.bipush 7, 2) := by decide +kernel
theorem dX7_undo_30 : decode cX7_undo 30 = .ok (.iaload, 1) := by decide +kernel
theorem dX7_undo_31 : decode cX7_undo 31 = .ok (.ireturn, 1) := by decide +kernel
theorem dX7_tear_0 : decode cX7_tear 0 = .ok (.aload_n 0, 1) := by decide +kernel
theorem dX7_tear_1 : decode cX7_tear 1 = .ok (.getfield 304, 3) := by decide +kernel
theorem dX7_tear_4 : decode cX7_tear 4 = .ok (.ifCond .eq 7, 3) := by decide +kernel
theorem dX7_tear_7 : decode cX7_tear 7 = .ok (.iconst 1, 1) := by decide +kernel
theorem dX7_tear_8 : decode cX7_tear 8 = .ok (.goto 4, 3) := by decide +kernel
theorem dX7_tear_11 : decode cX7_tear 11 = .ok (.iconst 0, 1) := by decide +kernel
theorem dX7_tear_12 : decode cX7_tear 12 = .ok (.istore_n 1, 1) := by decide +kernel
theorem dX7_tear_13 : decode cX7_tear 13 = .ok (.aload_n 0, 1) := by decide +kernel
theorem dX7_tear_14 : decode cX7_tear 14 = .ok (.iconst 0, 1) := by decide +kernel
theorem dX7_tear_15 : decode cX7_tear 15 = .ok (.putfield 304, 3) := by decide +kernel
theorem dX7_tear_18 : decode cX7_tear 18 = .ok (.iload_n 1, 1) := by decide +kernel
theorem dX7_tear_19 : decode cX7_tear 19 = .ok (.ireturn, 1) := by decide +kernel
theorem dX7_held_0 : decode cX7_held 0 = .ok (.iconst 0, 1) := by decide +kernel
theorem dX7_held_1 : decode cX7_held 1 = .ok (.istore_n 1, 1) := by decide +kernel
theorem dX7_held_2 : decode cX7_held 2 = .ok (.iconst 0, 1) := by decide +kernel
theorem dX7_held_3 : decode cX7_held 3 = .ok (.istore_n 2, 1) := by decide +kernel
theorem dX7_held_4 : decode cX7_held 4 = .ok (.iload_n 2, 1) := by decide +kernel
theorem dX7_held_5 : decode cX7_held 5 = .ok (.bipush 10, 2) := by decide +kernel
theorem dX7_held_7 : decode cX7_held 7 = .ok (.if_icmp .ge 29, 3) := by decide +kernel
theorem dX7_held_10 : decode cX7_held 10 = .ok (.iload_n 1, 1) := by decide +kernel
theorem dX7_held_11 : decode cX7_held 11 = .ok (.aload_n 0, 1) := by decide +kernel
theorem dX7_held_12 : decode cX7_held 12 = .ok (.getfield 7, 3) := by decide +kernel
theorem dX7_held_15 : decode cX7_held 15 = .ok (.bipush 122, 2) := by decide +kernel
theorem dX7_held_17 : decode cX7_held 17 = .ok (.iload_n 2, 1) := by decide +kernel
theorem dX7_held_18 : decode cX7_held 18 = .ok (.iadd, 1) := by decide +kernel
theorem dX7_held_19 : decode cX7_held 19 = .ok (.iaload, 1) := by decide +kernel
theorem dX7_held_20 : decode cX7_held 20 = .ok (.ifCond .lt 7, 3) := by decide +kernel
theorem dX7_held_23 : decode cX7_held 23 = .ok (.iconst 1, 1) := by decide +kernel
theorem dX7_held_24 : decode cX7_held 24 = .ok (.goto 4, 3) := by decide +kernel
theorem dX7_held_27 : decode cX7_held 27 = .ok (.iconst 0, 1) := by decide +kernel
theorem dX7_held_28 : decode cX7_held 28 = .ok (.iadd, 1) := by decide +kernel
theorem dX7_held_29 : decode cX7_held 29 = .ok (.istore_n 1, 1) := by decide +kernel
theorem dX7_held_30 : decode cX7_held 30 = .ok (.iinc 2 1, 3) := by decide +kernel
theorem dX7_held_33 : decode cX7_held 33 = .ok (.goto (-29), 3) := by decide +kernel
theorem dX7_held_36 : decode cX7_held 36 = .ok (.iload_n 1, 1) := by decide +kernel
theorem dX7_held_37 : decode cX7_held 37 = .ok (.ireturn, 1) := by decide +kernel
theorem dX7_count_0 : decode cX7_count 0 = .ok (.iload_n 1, 1) := by decide +kernel
theorem dX7_count_1 : decode cX7_count 1 = .ok (.tableswitch 101 0 7 #[47, 54, 62, 69, 76, 83, 88, 96], 47) := by decide +kernel
theorem dX7_count_48 : decode cX7_count 48 = .ok (.aload_n 0, 1) := by decide +kernel
theorem dX7_count_49 : decode cX7_count 49 = .ok (.getfield 7, 3) := by decide +kernel
theorem dX7_count_52 : decode cX7_count 52 = .ok (.iconst 0, 1) := by decide +kernel
theorem dX7_count_53 : decode cX7_count 53 = .ok (.iaload, 1) := by decide +kernel
theorem dX7_count_54 : decode cX7_count 54 = .ok (.ireturn, 1) := by decide +kernel
theorem dX7_count_55 : decode cX7_count 55 = .ok (.aload_n 0, 1) := by decide +kernel
theorem dX7_count_56 : decode cX7_count 56 = .ok (.getfield 7, 3) := by decide +kernel
theorem dX7_count_59 : decode cX7_count 59 = .ok (.bipush 11, 2) := by decide +kernel
theorem dX7_count_61 : decode cX7_count 61 = .ok (.iaload, 1) := by decide +kernel
theorem dX7_count_62 : decode cX7_count 62 = .ok (.ireturn, 1) := by decide +kernel
theorem dX7_count_63 : decode cX7_count 63 = .ok (.aload_n 0, 1) := by decide +kernel
theorem dX7_count_64 : decode cX7_count 64 = .ok (.getfield 7, 3) := by decide +kernel
theorem dX7_count_67 : decode cX7_count 67 = .ok (.iconst 1, 1) := by decide +kernel
theorem dX7_count_68 : decode cX7_count 68 = .ok (.iaload, 1) := by decide +kernel
theorem dX7_count_69 : decode cX7_count 69 = .ok (.ireturn, 1) := by decide +kernel
theorem dX7_count_70 : decode cX7_count 70 = .ok (.aload_n 0, 1) := by decide +kernel
theorem dX7_count_71 : decode cX7_count 71 = .ok (.getfield 7, 3) := by decide +kernel
theorem dX7_count_74 : decode cX7_count 74 = .ok (.iconst 2, 1) := by decide +kernel
theorem dX7_count_75 : decode cX7_count 75 = .ok (.iaload, 1) := by decide +kernel
theorem dX7_count_76 : decode cX7_count 76 = .ok (.ireturn, 1) := by decide +kernel
theorem dX7_count_77 : decode cX7_count 77 = .ok (.aload_n 0, 1) := by decide +kernel
theorem dX7_count_78 : decode cX7_count 78 = .ok (.getfield 7, 3) := by decide +kernel
theorem dX7_count_81 : decode cX7_count 81 = .ok (.iconst 5, 1) := by decide +kernel
theorem dX7_count_82 : decode cX7_count 82 = .ok (.iaload, 1) := by decide +kernel
theorem dX7_count_83 : decode cX7_count 83 = .ok (.ireturn, 1) := by decide +kernel
theorem dX7_count_84 : decode cX7_count 84 = .ok (.aload_n 0, 1) := by decide +kernel
theorem dX7_count_85 : decode cX7_count 85 = .ok (.getfield 187, 3) := by decide +kernel
theorem dX7_count_88 : decode cX7_count 88 = .ok (.ireturn, 1) := by decide +kernel
end
section
theorem dX7_count_89 : decode cX7_count 89 = .ok (.aload_n 0, 1) := by decide +kernel
theorem dX7_count_90 : decode cX7_count 90 = .ok (.getfield 7, 3) := by decide +kernel
theorem dX7_count_93 : decode cX7_count 93 = .ok (.bipush 10, 2) := by decide +kernel
theorem dX7_count_95 : decode cX7_count 95 = .ok (.iaload, 1) := by decide +kernel
theorem dX7_count_96 : decode cX7_count 96 = .ok (.ireturn, 1) := by decide +kernel
theorem dX7_count_97 : decode cX7_count 97 = .ok (.aload_n 0, 1) := by decide +kernel
theorem dX7_count_98 : decode cX7_count 98 = .ok (.invokevirtual 308, 3) := by decide +kernel
theorem dX7_count_101 : decode cX7_count 101 = .ok (.ireturn, 1) := by decide +kernel
theorem dX7_count_102 : decode cX7_count 102 = .ok (.aload_n 0, 1) := by decide +kernel
theorem dX7_count_103 : decode cX7_count 103 = .ok (.iconst 0, 1) := by decide +kernel
theorem dX7_count_104 : decode cX7_count 104 = .ok (.invokevirtual 51, 3) := by decide +kernel
theorem dX7_count_107 : decode cX7_count 107 = .ok (.ireturn, 1) := by decide +kernel
theorem dX7_status_0 : decode cX7_status 0 = .ok (.iload_n 1, 1) := by decide +kernel
theorem dX7_status_1 : decode cX7_status 1 = .ok (.i2l, 1) := by decide +kernel
theorem dX7_status_2 : decode cX7_status 2 = .ok (.ldc2_w 311, 3) := by decide +kernel
theorem dX7_status_5 : decode cX7_status 5 = .ok (.ldc2_w 47, 3) := by decide +kernel
theorem dX7_status_8 : decode cX7_status 8 = .ok (.invokestatic 39, 3) := by decide +kernel
theorem dX7_status_11 : decode cX7_status 11 = .ok (.ifCond .ne 9, 3) := by decide +kernel
theorem dX7_status_14 : decode cX7_status 14 = .ok (.aload_n 0, 1) := by decide +kernel
theorem dX7_status_15 : decode cX7_status 15 = .ok (.iconst 0, 1) := by decide +kernel
theorem dX7_status_16 : decode cX7_status 16 = .ok (.invokevirtual 51, 3) := by decide +kernel
theorem dX7_status_19 : decode cX7_status 19 = .ok (.ireturn, 1) := by decide +kernel
theorem dX7_status_20 : decode cX7_status 20 = .ok (.iconst 0, 1) := by decide +kernel
theorem dX7_status_21 : decode cX7_status 21 = .ok (.istore_n 2, 1) := by decide +kernel
theorem dX7_status_22 : decode cX7_status 22 = .ok (.iconst 0, 1) := by decide +kernel
theorem dX7_status_23 : decode cX7_status 23 = .ok (.istore_n 3, 1) := by decide +kernel
theorem dX7_status_24 : decode cX7_status 24 = .ok (.iload_n 3, 1) := by decide +kernel
theorem dX7_status_25 : decode cX7_status 25 = .ok (.bipush 7, 2) := by decide +kernel
theorem dX7_status_27 : decode cX7_status 27 = .ok (.if_icmp .ge 18, 3) := by decide +kernel
theorem dX7_status_30 : decode cX7_status 30 = .ok (.iload_n 2, 1) := by decide +kernel
theorem dX7_status_31 : decode cX7_status 31 = .ok (.aload_n 0, 1) := by decide +kernel
theorem dX7_status_32 : decode cX7_status 32 = .ok (.getfield 19, 3) := by decide +kernel
theorem dX7_status_35 : decode cX7_status 35 = .ok (.iload_n 3, 1) := by decide +kernel
theorem dX7_status_36 : decode cX7_status 36 = .ok (.iaload, 1) := by decide +kernel
theorem dX7_status_37 : decode cX7_status 37 = .ok (.iadd, 1) := by decide +kernel
theorem dX7_status_38 : decode cX7_status 38 = .ok (.istore_n 2, 1) := by decide +kernel
theorem dX7_status_39 : decode cX7_status 39 = .ok (.iinc 3 1, 3) := by decide +kernel
theorem dX7_status_42 : decode cX7_status 42 = .ok (.goto (-18), 3) := by decide +kernel
theorem dX7_status_45 : decode cX7_status 45 = .ok (.iload_n 1, 1) := by decide +kernel
theorem dX7_status_46 : decode cX7_status 46 = .ok (.ifCond .ge 7, 3) := by decide +kernel
theorem dX7_status_49 : decode cX7_status 49 = .ok (.iload_n 2, 1) := by decide +kernel
theorem dX7_status_50 : decode cX7_status 50 = .ok (.goto 9, 3) := by decide +kernel
theorem dX7_status_53 : decode cX7_status 53 = .ok (.aload_n 0, 1) := by decide +kernel
theorem dX7_status_54 : decode cX7_status 54 = .ok (.getfield 19, 3) := by decide +kernel
theorem dX7_status_57 : decode cX7_status 57 = .ok (.iload_n 1, 1) := by decide +kernel
theorem dX7_status_58 : decode cX7_status 58 = .ok (.iaload, 1) := by decide +kernel
theorem dX7_status_59 : decode cX7_status 59 = .ok (.ireturn, 1) := by decide +kernel
theorem dJ6_bitCount_0f7a4_0 : decode cJ6_bitCount_0f7a4 0 = .ok (.iload_n 0, 1) := by decide +kernel
theorem dJ6_bitCount_0f7a4_1 : decode cJ6_bitCount_0f7a4 1 = .ok (.iload_n 0, 1) := by decide +kernel
theorem dJ6_bitCount_0f7a4_2 : decode cJ6_bitCount_0f7a4 2 = .ok (.iconst 1, 1) := by decide +kernel
theorem dJ6_bitCount_0f7a4_3 : decode cJ6_bitCount_0f7a4 3 = .ok (.iushr, 1) := by decide +kernel
theorem dJ6_bitCount_0f7a4_4 : decode cJ6_bitCount_0f7a4 4 = .ok (.ldc_w 265, 3) := by decide +kernel
theorem dJ6_bitCount_0f7a4_7 : decode cJ6_bitCount_0f7a4 7 = .ok (.iand, 1) := by decide +kernel
theorem dJ6_bitCount_0f7a4_8 : decode cJ6_bitCount_0f7a4 8 = .ok (.isub, 1) := by decide +kernel
theorem dJ6_bitCount_0f7a4_9 : decode cJ6_bitCount_0f7a4 9 = .ok (.istore_n 0, 1) := by decide +kernel
theorem dJ6_bitCount_0f7a4_10 : decode cJ6_bitCount_0f7a4 10 = .ok (.iload_n 0, 1) := by decide +kernel
theorem dJ6_bitCount_0f7a4_11 : decode cJ6_bitCount_0f7a4 11 = .ok (.ldc_w 266, 3) := by decide +kernel
theorem dJ6_bitCount_0f7a4_14 : decode cJ6_bitCount_0f7a4 14 = .ok (.iand, 1) := by decide +kernel
theorem dJ6_bitCount_0f7a4_15 : decode cJ6_bitCount_0f7a4 15 = .ok (.iload_n 0, 1) := by decide +kernel
theorem dJ6_bitCount_0f7a4_16 : decode cJ6_bitCount_0f7a4 16 = .ok (.iconst 2, 1) := by decide +kernel
theorem dJ6_bitCount_0f7a4_17 : decode cJ6_bitCount_0f7a4 17 = .ok (.iushr, 1) := by decide +kernel
theorem dJ6_bitCount_0f7a4_18 : decode cJ6_bitCount_0f7a4 18 = .ok (.ldc_w 266, 3) := by decide +kernel
theorem dJ6_bitCount_0f7a4_21 : decode cJ6_bitCount_0f7a4 21 = .ok (.iand, 1) := by decide +kernel
theorem dJ6_bitCount_0f7a4_22 : decode cJ6_bitCount_0f7a4 22 = .ok (.iadd, 1) := by decide +kernel
theorem dJ6_bitCount_0f7a4_23 : decode cJ6_bitCount_0f7a4 23 = .ok (.istore_n 0, 1) := by decide +kernel
theorem dJ6_bitCount_0f7a4_24 : decode cJ6_bitCount_0f7a4 24 = .ok (.iload_n 0, 1) := by decide +kernel
theorem dJ6_bitCount_0f7a4_25 : decode cJ6_bitCount_0f7a4 25 = .ok (.iload_n 0, 1) := by decide +kernel
theorem dJ6_bitCount_0f7a4_26 : decode cJ6_bitCount_0f7a4 26 = .ok (.iconst 4, 1) := by decide +kernel
theorem dJ6_bitCount_0f7a4_27 : decode cJ6_bitCount_0f7a4 27 = .ok (.iushr, 1) := by decide +kernel
theorem dJ6_bitCount_0f7a4_28 : decode cJ6_bitCount_0f7a4 28 = .ok (.iadd, 1) := by decide +kernel
theorem dJ6_bitCount_0f7a4_29 : decode cJ6_bitCount_0f7a4 29 = .ok (.ldc_w 267, 3) := by decide +kernel
theorem dJ6_bitCount_0f7a4_32 : decode cJ6_bitCount_0f7a4 32 = .ok (.iand, 1) := by decide +kernel
theorem dJ6_bitCount_0f7a4_33 : decode cJ6_bitCount_0f7a4 33 = .ok (.istore_n 0, 1) := by decide +kernel
theorem dJ6_bitCount_0f7a4_34 : decode cJ6_bitCount_0f7a4 34 = .ok (.iload_n 0, 1) := by decide +kernel
theorem dJ6_bitCount_0f7a4_35 : decode cJ6_bitCount_0f7a4 35 = .ok (.iload_n 0, 1) := by decide +kernel
theorem dJ6_bitCount_0f7a4_36 : decode cJ6_bitCount_0f7a4 36 = .ok (.bipush 8, 2) := by decide +kernel
theorem dJ6_bitCount_0f7a4_38 : decode cJ6_bitCount_0f7a4 38 = .ok (.iushr, 1) := by decide +kernel
theorem dJ6_bitCount_0f7a4_39 : decode cJ6_bitCount_0f7a4 39 = .ok (.iadd, 1) := by decide +kernel
theorem dJ6_bitCount_0f7a4_40 : decode cJ6_bitCount_0f7a4 40 = .ok (.istore_n 0, 1) := by decide +kernel
theorem dJ6_bitCount_0f7a4_41 : decode cJ6_bitCount_0f7a4 41 = .ok (.iload_n 0, 1) := by decide +kernel
theorem dJ6_bitCount_0f7a4_42 : decode cJ6_bitCount_0f7a4 42 = .ok (.iload_n 0, 1) := by decide +kernel
theorem dJ6_bitCount_0f7a4_43 : decode cJ6_bitCount_0f7a4 43 = .ok (.bipush 16, 2) := by decide +kernel
theorem dJ6_bitCount_0f7a4_45 : decode cJ6_bitCount_0f7a4 45 = .ok (.iushr, 1) := by decide +kernel
theorem dJ6_bitCount_0f7a4_46 : decode cJ6_bitCount_0f7a4 46 = .ok (.iadd, 1) := by decide +kernel
theorem dJ6_bitCount_0f7a4_47 : decode cJ6_bitCount_0f7a4 47 = .ok (.istore_n 0, 1) := by decide +kernel
theorem dJ6_bitCount_0f7a4_48 : decode cJ6_bitCount_0f7a4 48 = .ok (.iload_n 0, 1) := by decide +kernel
theorem dJ6_bitCount_0f7a4_49 : decode cJ6_bitCount_0f7a4 49 = .ok (.bipush 63, 2) := by decide +kernel
theorem dJ6_bitCount_0f7a4_51 : decode cJ6_bitCount_0f7a4 51 = .ok (.iand, 1) := by decide +kernel
theorem dJ6_bitCount_0f7a4_52 : decode cJ6_bitCount_0f7a4 52 = .ok (.ireturn, 1) := by decide +kernel
theorem dJ9_abs_0f7a4_0 : decode cJ9_abs_0f7a4 0 = .ok (.iload_n 0, 1) := by decide +kernel
theorem dJ9_abs_0f7a4_1 : decode cJ9_abs_0f7a4 1 = .ok (.ifCond .ge 8, 3) := by decide +kernel
theorem dJ9_abs_0f7a4_4 : decode cJ9_abs_0f7a4 4 = .ok (.iload_n 0, 1) := by decide +kernel
theorem dJ9_abs_0f7a4_5 : decode cJ9_abs_0f7a4 5 = .ok (.ineg, 1) := by decide +kernel
theorem dJ9_abs_0f7a4_6 : decode cJ9_abs_0f7a4 6 = .ok (.goto 4, 3) := by decide +kernel
theorem dJ9_abs_0f7a4_9 : decode cJ9_abs_0f7a4 9 = .ok (.iload_n 0, 1) := by decide +kernel
theorem dJ9_abs_0f7a4_10 : decode cJ9_abs_0f7a4 10 = .ok (.ireturn, 1) := by decide +kernel
theorem dJ9_max_7cf53_0 : decode cJ9_max_7cf53 0 = .ok (.iload_n 0, 1) := by decide +kernel
theorem dJ9_max_7cf53_1 : decode cJ9_max_7cf53 1 = .ok (.iload_n 1, 1) := by decide +kernel
theorem dJ9_max_7cf53_2 : decode cJ9_max_7cf53 2 = .ok (.if_icmp .lt 7, 3) := by decide +kernel
theorem dJ9_max_7cf53_5 : decode cJ9_max_7cf53 5 = .ok (.iload_n 0, 1) := by decide +kernel
theorem dJ9_max_7cf53_6 : decode cJ9_max_7cf53 6 = .ok (.goto 4, 3) := by decide +kernel
theorem dJ9_max_7cf53_9 : decode cJ9_max_7cf53 9 = .ok (.iload_n 1, 1) := by decide +kernel
theorem dJ9_max_7cf53_10 : decode cJ9_max_7cf53 10 = .ok (.ireturn, 1) := by decide +kernel
theorem dJ9_min_7cf53_0 : decode cJ9_min_7cf53 0 = .ok (.iload_n 0, 1) := by decide +kernel
theorem dJ9_min_7cf53_1 : decode cJ9_min_7cf53 1 = .ok (.iload_n 1, 1) := by decide +kernel
theorem dJ9_min_7cf53_2 : decode cJ9_min_7cf53 2 = .ok (.if_icmp .gt 7, 3) := by decide +kernel
theorem dJ9_min_7cf53_5 : decode cJ9_min_7cf53 5 = .ok (.iload_n 0, 1) := by decide +kernel
theorem dJ9_min_7cf53_6 : decode cJ9_min_7cf53 6 = .ok (.goto 4, 3) := by decide +kernel
theorem dJ9_min_7cf53_9 : decode cJ9_min_7cf53 9 = .ok (.iload_n 1, 1) := by decide +kernel
theorem dJ9_min_7cf53_10 : decode cJ9_min_7cf53 10 = .ok (.ireturn, 1) := by decide +kernel
theorem dJ0_length_8abf5_0 : decode cJ0_length_8abf5 0 = .ok (.aload_n 0, 1) := by decide +kernel
theorem dJ0_length_8abf5_1 : decode cJ0_length_8abf5 1 = .ok (.getfield 9, 3) := by decide +kernel
theorem dJ0_length_8abf5_4 : decode cJ0_length_8abf5 4 = .ok (.arraylength, 1) := by decide +kernel
theorem dJ0_length_8abf5_5 : decode cJ0_length_8abf5 5 = .ok (.aload_n 0, 1) := by decide +kernel
theorem dJ0_length_8abf5_6 : decode cJ0_length_8abf5 6 = .ok (.invokevirtual 335, 3) := by decide +kernel
theorem dJ0_length_8abf5_9 : decode cJ0_length_8abf5 9 = .ok (.ishr, 1) := by decide +kernel
theorem dJ0_length_8abf5_10 : decode cJ0_length_8abf5 10 = .ok (.ireturn, 1) := by decide +kernel
theorem dJ0_charAt_5068e_0 : decode cJ0_charAt_5068e 0 = .ok (.aload_n 0, 1) := by decide +kernel
theorem dJ0_charAt_5068e_1 : decode cJ0_charAt_5068e 1 = .ok (.invokevirtual 492, 3) := by decide +kernel
theorem dJ0_charAt_5068e_4 : decode cJ0_charAt_5068e 4 = .ok (.ifCond .eq 12, 3) := by decide +kernel
theorem dJ0_charAt_5068e_7 : decode cJ0_charAt_5068e 7 = .ok (.aload_n 0, 1) := by decide +kernel
theorem dJ0_charAt_5068e_8 : decode cJ0_charAt_5068e 8 = .ok (.getfield 9, 3) := by decide +kernel
theorem dJ0_charAt_5068e_11 : decode cJ0_charAt_5068e 11 = .ok (.iload_n 1, 1) := by decide +kernel
theorem dJ0_charAt_5068e_12 : decode cJ0_charAt_5068e 12 = .ok (.invokestatic 495, 3) := by decide +kernel
theorem dJ0_charAt_5068e_15 : decode cJ0_charAt_5068e 15 = .ok (.ireturn, 1) := by decide +kernel
theorem dJ0_charAt_5068e_16 : decode cJ0_charAt_5068e 16 = .ok (.aload_n 0, 1) := by decide +kernel
theorem dJ0_charAt_5068e_17 : decode cJ0_charAt_5068e 17 = .ok (.getfield 9, 3) := by decide +kernel
theorem dJ0_charAt_5068e_20 : decode cJ0_charAt_5068e 20 = .ok (.iload_n 1, 1) := by decide +kernel
theorem dJ0_charAt_5068e_21 : decode cJ0_charAt_5068e 21 = .ok (.invokestatic 498, 3) := by decide +kernel
theorem dJ0_charAt_5068e_24 : decode cJ0_charAt_5068e 24 = .ok (.ireturn, 1) := by decide +kernel
theorem dJ0_coder_7d493_0 : decode cJ0_coder_7d493 0 = .ok (.getstatic 38, 3) := by decide +kernel
theorem dJ0_coder_7d493_3 : decode cJ0_coder_7d493 3 = .ok (.ifCond .eq 10, 3) := by decide +kernel
theorem dJ0_coder_7d493_6 : decode cJ0_coder_7d493 6 = .ok (.aload_n 0, 1) := by decide +kernel
theorem dJ0_coder_7d493_7 : decode cJ0_coder_7d493 7 = .ok (.getfield 15, 3) := by decide +kernel
theorem dJ0_coder_7d493_10 : decode cJ0_coder_7d493 10 = .ok (.goto 4, 3) := by decide +kernel
theorem dJ0_coder_7d493_13 : decode cJ0_coder_7d493 13 = .ok (.iconst 1, 1) := by decide +kernel
theorem dJ0_coder_7d493_14 : decode cJ0_coder_7d493 14 = .ok (.ireturn, 1) := by decide +kernel
theorem dJ0_isLatin1_aae02_0 : decode cJ0_isLatin1_aae02 0 = .ok (.getstatic 38, 3) := by decide +kernel
theorem dJ0_isLatin1_aae02_3 : decode cJ0_isLatin1_aae02 3 = .ok (.ifCond .eq 14, 3) := by decide +kernel
theorem dJ0_isLatin1_aae02_6 : decode cJ0_isLatin1_aae02 6 = .ok (.aload_n 0, 1) := by decide +kernel
theorem dJ0_isLatin1_aae02_7 : decode cJ0_isLatin1_aae02 7 = .ok (.getfield 15, 3) := by decide +kernel
theorem dJ0_isLatin1_aae02_10 : decode cJ0_isLatin1_aae02 10 = .ok (.ifCond .ne 7, 3) := by decide +kernel
theorem dJ0_isLatin1_aae02_13 : decode cJ0_isLatin1_aae02 13 = .ok (.iconst 1, 1) := by decide +kernel
theorem dJ0_isLatin1_aae02_14 : decode cJ0_isLatin1_aae02 14 = .ok (.goto 4, 3) := by decide +kernel
theorem dJ0_isLatin1_aae02_17 : decode cJ0_isLatin1_aae02 17 = .ok (.iconst 0, 1) := by decide +kernel
theorem dJ0_isLatin1_aae02_18 : decode cJ0_isLatin1_aae02 18 = .ok (.ireturn, 1) := by decide +kernel
theorem dJ0_checkIndex_df160_0 : decode cJ0_checkIndex_df160 0 = .ok (.iload_n 0, 1) := by decide +kernel
theorem dJ0_checkIndex_df160_1 : decode cJ0_checkIndex_df160 1 = .ok (.iload_n 1, 1) := by decide +kernel
theorem dJ0_checkIndex_df160_2 : decode cJ0_checkIndex_df160 2 = .ok (.getstatic 1053, 3) := by decide +kernel
theorem dJ0_checkIndex_df160_5 : decode cJ0_checkIndex_df160 5 = .ok (.invokestatic 1059, 3) := by decide +kernel
theorem dJ0_checkIndex_df160_8 : decode cJ0_checkIndex_df160 8 = .ok (.pop, 1) := by decide +kernel
theorem dJ0_checkIndex_df160_9 : decode cJ0_checkIndex_df160 9 = .ok (.return_, 1) := by decide +kernel
theorem dJ1_charAt_3b067_0 : decode cJ1_charAt_3b067 0 = .ok (.iload_n 1, 1) := by decide +kernel
theorem dJ1_charAt_3b067_1 : decode cJ1_charAt_3b067 1 = .ok (.aload_n 0, 1) := by decide +kernel
theorem dJ1_charAt_3b067_2 : decode cJ1_charAt_3b067 2 = .ok (.arraylength, 1) := by decide +kernel
theorem dJ1_charAt_3b067_3 : decode cJ1_charAt_3b067 3 = .ok (.invokestatic 9, 3) := by decide +kernel
theorem dJ1_charAt_3b067_6 : decode cJ1_charAt_3b067 6 = .ok (.aload_n 0, 1) := by decide +kernel
theorem dJ1_charAt_3b067_7 : decode cJ1_charAt_3b067 7 = .ok (.iload_n 1, 1) := by decide +kernel
theorem dJ1_charAt_3b067_8 : decode cJ1_charAt_3b067 8 = .ok (.baload, 1) := by decide +kernel
theorem dJ1_charAt_3b067_9 : decode cJ1_charAt_3b067 9 = .ok (.sipush 255, 3) := by decide +kernel
theorem dJ1_charAt_3b067_12 : decode cJ1_charAt_3b067 12 = .ok (.iand, 1) := by decide +kernel
theorem dJ1_charAt_3b067_13 : decode cJ1_charAt_3b067 13 = .ok (.i2c, 1) := by decide +kernel
theorem dJ1_charAt_3b067_14 : decode cJ1_charAt_3b067 14 = .ok (.ireturn, 1) := by decide +kernel
theorem dJ2_getChar_3b067_0 : decode cJ2_getChar_3b067 0 = .ok (.getstatic 44, 3) := by decide +kernel
theorem dJ2_getChar_3b067_3 : decode cJ2_getChar_3b067 3 = .ok (.ifCond .ne 25, 3) := by decide +kernel
theorem dJ2_getChar_3b067_6 : decode cJ2_getChar_3b067 6 = .ok (.iload_n 1, 1) := by decide +kernel
theorem dJ2_getChar_3b067_7 : decode cJ2_getChar_3b067 7 = .ok (.ifCond .lt 11, 3) := by decide +kernel
theorem dJ2_getChar_3b067_10 : decode cJ2_getChar_3b067 10 = .ok (.iload_n 1, 1) := by decide +kernel
theorem dJ2_getChar_3b067_11 : decode cJ2_getChar_3b067 11 = .ok (.aload_n 0, 1) := by decide +kernel
theorem dJ2_getChar_3b067_12 : decode cJ2_getChar_3b067 12 = .ok (.invokestatic 48, 3) := by decide +kernel
theorem dJ2_getChar_3b067_15 : decode cJ2_getChar_3b067 15 = .ok (.if_icmp .lt 13, 3) := by decide +kernel
theorem dJ2_getChar_3b067_18 : decode cJ2_getChar_3b067 18 = .ok (.new 52, 3) := by decide +kernel
theorem dJ2_getChar_3b067_21 : decode cJ2_getChar_3b067 21 = .ok (.dup, 1) := by decide +kernel
theorem dJ2_getChar_3b067_22 : decode cJ2_getChar_3b067 22 = .ok (.ldc 54, 2) := by decide +kernel
theorem dJ2_getChar_3b067_24 : decode cJ2_getChar_3b067 24 = .ok (.invokespecial 56, 3) := by decide +kernel
theorem dJ2_getChar_3b067_27 : decode cJ2_getChar_3b067 27 = .ok (.athrow, 1) := by decide +kernel
theorem dJ2_getChar_3b067_28 : decode cJ2_getChar_3b067 28 = .ok (.iload_n 1, 1) := by decide +kernel
theorem dJ2_getChar_3b067_29 : decode cJ2_getChar_3b067 29 = .ok (.iconst 1, 1) := by decide +kernel
theorem dJ2_getChar_3b067_30 : decode cJ2_getChar_3b067 30 = .ok (.ishl, 1) := by decide +kernel
theorem dJ2_getChar_3b067_31 : decode cJ2_getChar_3b067 31 = .ok (.istore_n 1, 1) := by decide +kernel
theorem dJ2_getChar_3b067_32 : decode cJ2_getChar_3b067 32 = .ok (.aload_n 0, 1) := by decide +kernel
theorem dJ2_getChar_3b067_33 : decode cJ2_getChar_3b067 33 = .ok (.iload_n 1, 1) := by decide +kernel
theorem dJ2_getChar_3b067_34 : decode cJ2_getChar_3b067 34 = .ok (.iinc 1 1, 3) := by decide +kernel
theorem dJ2_getChar_3b067_37 : decode cJ2_getChar_3b067 37 = .ok (.baload, 1) := by decide +kernel
theorem dJ2_getChar_3b067_38 : decode cJ2_getChar_3b067 38 = .ok (.sipush 255, 3) := by decide +kernel
theorem dJ2_getChar_3b067_41 : decode cJ2_getChar_3b067 41 = .ok (.iand, 1) := by decide +kernel
theorem dJ2_getChar_3b067_42 : decode cJ2_getChar_3b067 42 = .ok (.getstatic 59, 3) := by decide +kernel
theorem dJ2_getChar_3b067_45 : decode cJ2_getChar_3b067 45 = .ok (.ishl, 1) := by decide +kernel
theorem dJ2_getChar_3b067_46 : decode cJ2_getChar_3b067 46 = .ok (.aload_n 0, 1) := by decide +kernel
theorem dJ2_getChar_3b067_47 : decode cJ2_getChar_3b067 47 = .ok (.iload_n 1, 1) := by decide +kernel
theorem dJ2_getChar_3b067_48 : decode cJ2_getChar_3b067 48 = .ok (.baload, 1) := by decide +kernel
theorem dJ2_getChar_3b067_49 : decode cJ2_getChar_3b067 49 = .ok (.sipush 255, 3) := by decide +kernel
theorem dJ2_getChar_3b067_52 : decode cJ2_getChar_3b067 52 = .ok (.iand, 1) := by decide +kernel
theorem dJ2_getChar_3b067_53 : decode cJ2_getChar_3b067 53 = .ok (.getstatic 63, 3) := by decide +kernel
theorem dJ2_getChar_3b067_56 : decode cJ2_getChar_3b067 56 = .ok (.ishl, 1) := by decide +kernel
theorem dJ2_getChar_3b067_57 : decode cJ2_getChar_3b067 57 = .ok (.ior, 1) := by decide +kernel
theorem dJ2_getChar_3b067_58 : decode cJ2_getChar_3b067 58 = .ok (.i2c, 1) := by decide +kernel
theorem dJ2_getChar_3b067_59 : decode cJ2_getChar_3b067 59 = .ok (.ireturn, 1) := by decide +kernel
theorem dJ2_length_9d52b_0 : decode cJ2_length_9d52b 0 = .ok (.aload_n 0, 1) := by decide +kernel
theorem dJ2_length_9d52b_1 : decode cJ2_length_9d52b 1 = .ok (.arraylength, 1) := by decide +kernel
theorem dJ2_length_9d52b_2 : decode cJ2_length_9d52b 2 = .ok (.iconst 1, 1) := by decide +kernel
theorem dJ2_length_9d52b_3 : decode cJ2_length_9d52b 3 = .ok (.ishr, 1) := by decide +kernel
theorem dJ2_length_9d52b_4 : decode cJ2_length_9d52b 4 = .ok (.ireturn, 1) := by decide +kernel
theorem dJ2_charAt_3b067_0 : decode cJ2_charAt_3b067 0 = .ok (.iload_n 1, 1) := by decide +kernel
theorem dJ2_charAt_3b067_1 : decode cJ2_charAt_3b067 1 = .ok (.aload_n 0, 1) := by decide +kernel
theorem dJ2_charAt_3b067_2 : decode cJ2_charAt_3b067 2 = .ok (.invokestatic 67, 3) := by decide +kernel
theorem dJ2_charAt_3b067_5 : decode cJ2_charAt_3b067 5 = .ok (.aload_n 0, 1) := by decide +kernel
theorem dJ2_charAt_3b067_6 : decode cJ2_charAt_3b067 6 = .ok (.iload_n 1, 1) := by decide +kernel
theorem dJ2_charAt_3b067_7 : decode cJ2_charAt_3b067 7 = .ok (.invokestatic 71, 3) := by decide +kernel
theorem dJ2_charAt_3b067_10 : decode cJ2_charAt_3b067 10 = .ok (.ireturn, 1) := by decide +kernel
theorem dJ2_checkIndex_2214a_0 : decode cJ2_checkIndex_2214a 0 = .ok (.iload_n 0, 1) := by decide +kernel
theorem dJ2_checkIndex_2214a_1 : decode cJ2_checkIndex_2214a 1 = .ok (.aload_n 1, 1) := by decide +kernel
theorem dJ2_checkIndex_2214a_2 : decode cJ2_checkIndex_2214a 2 = .ok (.invokestatic 48, 3) := by decide +kernel
theorem dJ2_checkIndex_2214a_5 : decode cJ2_checkIndex_2214a 5 = .ok (.invokestatic 414, 3) := by decide +kernel
theorem dJ2_checkIndex_2214a_8 : decode cJ2_checkIndex_2214a 8 = .ok (.return_, 1) := by decide +kernel
theorem dJ3_checkIndex_8e157_0 : decode cJ3_checkIndex_8e157 0 = .ok (.iload_n 0, 1) := by decide +kernel
theorem dJ3_checkIndex_8e157_1 : decode cJ3_checkIndex_8e157 1 = .ok (.ifCond .lt 8, 3) := by decide +kernel
theorem dJ3_checkIndex_8e157_4 : decode cJ3_checkIndex_8e157 4 = .ok (.iload_n 0, 1) := by decide +kernel
theorem dJ3_checkIndex_8e157_5 : decode cJ3_checkIndex_8e157 5 = .ok (.iload_n 1, 1) := by decide +kernel
theorem dJ3_checkIndex_8e157_6 : decode cJ3_checkIndex_8e157 6 = .ok (.if_icmp .lt 10, 3) := by decide +kernel
theorem dJ3_checkIndex_8e157_9 : decode cJ3_checkIndex_8e157 9 = .ok (.aload_n 2, 1) := by decide +kernel
theorem dJ3_checkIndex_8e157_10 : decode cJ3_checkIndex_8e157 10 = .ok (.iload_n 0, 1) := by decide +kernel
theorem dJ3_checkIndex_8e157_11 : decode cJ3_checkIndex_8e157 11 = .ok (.iload_n 1, 1) := by decide +kernel
theorem dJ3_checkIndex_8e157_12 : decode cJ3_checkIndex_8e157 12 = .ok (.invokestatic 95, 3) := by decide +kernel
theorem dJ3_checkIndex_8e157_15 : decode cJ3_checkIndex_8e157 15 = .ok (.athrow, 1) := by decide +kernel
theorem dJ3_checkIndex_8e157_16 : decode cJ3_checkIndex_8e157 16 = .ok (.iload_n 0, 1) := by decide +kernel
theorem dJ3_checkIndex_8e157_17 : decode cJ3_checkIndex_8e157 17 = .ok (.ireturn, 1) := by decide +kernel
theorem dL_law_0 : decode cL_law 0 = .ok (.new 7, 3) := by decide +kernel
theorem dL_law_3 : decode cL_law 3 = .ok (.dup, 1) := by decide +kernel
theorem dL_law_4 : decode cL_law 4 = .ok (.invokespecial 9, 3) := by decide +kernel
theorem dL_law_7 : decode cL_law 7 = .ok (.astore_n 1, 1) := by decide +kernel
theorem dL_law_8 : decode cL_law 8 = .ok (.new 10, 3) := by decide +kernel
theorem dL_law_11 : decode cL_law 11 = .ok (.dup, 1) := by decide +kernel
theorem dL_law_12 : decode cL_law 12 = .ok (.invokespecial 12, 3) := by decide +kernel
theorem dL_law_15 : decode cL_law 15 = .ok (.astore_n 2, 1) := by decide +kernel
theorem dL_law_16 : decode cL_law 16 = .ok (.iconst 0, 1) := by decide +kernel
theorem dL_law_17 : decode cL_law 17 = .ok (.istore_n 3, 1) := by decide +kernel
theorem dL_law_18 : decode cL_law 18 = .ok (.iload_n 3, 1) := by decide +kernel
theorem dL_law_19 : decode cL_law 19 = .ok (.aload_n 0, 1) := by decide +kernel
theorem dL_law_20 : decode cL_law 20 = .ok (.arraylength, 1) := by decide +kernel
theorem dL_law_21 : decode cL_law 21 = .ok (.bipush 6, 2) := by decide +kernel
theorem dL_law_23 : decode cL_law 23 = .ok (.isub, 1) := by decide +kernel
theorem dL_law_24 : decode cL_law 24 = .ok (.if_icmp .gt 1321, 3) := by decide +kernel
theorem dL_law_27 : decode cL_law 27 = .ok (.aload_n 0, 1) := by decide +kernel
theorem dL_law_28 : decode cL_law 28 = .ok (.iload_n 3, 1) := by decide +kernel
theorem dL_law_29 : decode cL_law 29 = .ok (.iaload, 1) := by decide +kernel
theorem dL_law_30 : decode cL_law 30 = .ok (.bipush 63, 2) := by decide +kernel
theorem dL_law_32 : decode cL_law 32 = .ok (.iand, 1) := by decide +kernel
theorem dL_law_33 : decode cL_law 33 = .ok (.tableswitch 1306 0 42 #[187, 220, 253, 296, 329, 342, 365, 388, 411, 434, 467, 490, 513, 546, 569, 602, 615, 648, 671, 694, 717, 750, 783, 806, 819, 832, 845, 878, 901, 934, 947, 960, 993, 1026, 1069, 1112, 1175, 1198, 1221, 1234, 1247, 1260, 1283], 187) := by decide +kernel
theorem dL_law_220 : decode cL_law 220 = .ok (.aload_n 1, 1) := by decide +kernel
theorem dL_law_221 : decode cL_law 221 = .ok (.aload_n 0, 1) := by decide +kernel
theorem dL_law_222 : decode cL_law 222 = .ok (.iload_n 3, 1) := by decide +kernel
theorem dL_law_223 : decode cL_law 223 = .ok (.iconst 1, 1) := by decide +kernel
theorem dL_law_224 : decode cL_law 224 = .ok (.iadd, 1) := by decide +kernel
theorem dL_law_225 : decode cL_law 225 = .ok (.iaload, 1) := by decide +kernel
theorem dL_law_226 : decode cL_law 226 = .ok (.aload_n 0, 1) := by decide +kernel
theorem dL_law_227 : decode cL_law 227 = .ok (.iload_n 3, 1) := by decide +kernel
theorem dL_law_228 : decode cL_law 228 = .ok (.iconst 2, 1) := by decide +kernel
theorem dL_law_229 : decode cL_law 229 = .ok (.iadd, 1) := by decide +kernel
theorem dL_law_230 : decode cL_law 230 = .ok (.iaload, 1) := by decide +kernel
theorem dL_law_231 : decode cL_law 231 = .ok (.invokevirtual 13, 3) := by decide +kernel
theorem dL_law_234 : decode cL_law 234 = .ok (.aload_n 2, 1) := by decide +kernel
theorem dL_law_235 : decode cL_law 235 = .ok (.aload_n 0, 1) := by decide +kernel
theorem dL_law_236 : decode cL_law 236 = .ok (.iload_n 3, 1) := by decide +kernel
theorem dL_law_237 : decode cL_law 237 = .ok (.iconst 1, 1) := by decide +kernel
theorem dL_law_238 : decode cL_law 238 = .ok (.iadd, 1) := by decide +kernel
theorem dL_law_239 : decode cL_law 239 = .ok (.iaload, 1) := by decide +kernel
theorem dL_law_240 : decode cL_law 240 = .ok (.aload_n 0, 1) := by decide +kernel
theorem dL_law_241 : decode cL_law 241 = .ok (.iload_n 3, 1) := by decide +kernel
theorem dL_law_242 : decode cL_law 242 = .ok (.iconst 2, 1) := by decide +kernel
theorem dL_law_243 : decode cL_law 243 = .ok (.iadd, 1) := by decide +kernel
theorem dL_law_244 : decode cL_law 244 = .ok (.iaload, 1) := by decide +kernel
theorem dL_law_245 : decode cL_law 245 = .ok (.invokevirtual 17, 3) := by decide +kernel
theorem dL_law_248 : decode cL_law 248 = .ok (.if_icmp .eq 1091, 3) := by decide +kernel
theorem dL_law_251 : decode cL_law 251 = .ok (.iconst 0, 1) := by decide +kernel
theorem dL_law_252 : decode cL_law 252 = .ok (.ireturn, 1) := by decide +kernel
theorem dL_law_253 : decode cL_law 253 = .ok (.aload_n 1, 1) := by decide +kernel
theorem dL_law_254 : decode cL_law 254 = .ok (.aload_n 0, 1) := by decide +kernel
theorem dL_law_255 : decode cL_law 255 = .ok (.iload_n 3, 1) := by decide +kernel
theorem dL_law_256 : decode cL_law 256 = .ok (.iconst 1, 1) := by decide +kernel
theorem dL_law_257 : decode cL_law 257 = .ok (.iadd, 1) := by decide +kernel
theorem dL_law_258 : decode cL_law 258 = .ok (.iaload, 1) := by decide +kernel
theorem dL_law_259 : decode cL_law 259 = .ok (.aload_n 0, 1) := by decide +kernel
theorem dL_law_260 : decode cL_law 260 = .ok (.iload_n 3, 1) := by decide +kernel
theorem dL_law_261 : decode cL_law 261 = .ok (.iconst 2, 1) := by decide +kernel
theorem dL_law_262 : decode cL_law 262 = .ok (.iadd, 1) := by decide +kernel
theorem dL_law_263 : decode cL_law 263 = .ok (.iaload, 1) := by decide +kernel
theorem dL_law_264 : decode cL_law 264 = .ok (.invokevirtual 18, 3) := by decide +kernel
theorem dL_law_267 : decode cL_law 267 = .ok (.aload_n 2, 1) := by decide +kernel
theorem dL_law_268 : decode cL_law 268 = .ok (.aload_n 0, 1) := by decide +kernel
theorem dL_law_269 : decode cL_law 269 = .ok (.iload_n 3, 1) := by decide +kernel
theorem dL_law_270 : decode cL_law 270 = .ok (.iconst 1, 1) := by decide +kernel
theorem dL_law_271 : decode cL_law 271 = .ok (.iadd, 1) := by decide +kernel
theorem dL_law_272 : decode cL_law 272 = .ok (.iaload, 1) := by decide +kernel
theorem dL_law_273 : decode cL_law 273 = .ok (.aload_n 0, 1) := by decide +kernel
theorem dL_law_274 : decode cL_law 274 = .ok (.iload_n 3, 1) := by decide +kernel
theorem dL_law_275 : decode cL_law 275 = .ok (.iconst 2, 1) := by decide +kernel
theorem dL_law_276 : decode cL_law 276 = .ok (.iadd, 1) := by decide +kernel
theorem dL_law_277 : decode cL_law 277 = .ok (.iaload, 1) := by decide +kernel
theorem dL_law_278 : decode cL_law 278 = .ok (.invokevirtual 21, 3) := by decide +kernel
theorem dL_law_281 : decode cL_law 281 = .ok (.if_icmp .eq 1058, 3) := by decide +kernel
theorem dL_law_284 : decode cL_law 284 = .ok (.iconst 0, 1) := by decide +kernel
theorem dL_law_285 : decode cL_law 285 = .ok (.ireturn, 1) := by decide +kernel
theorem dL_law_286 : decode cL_law 286 = .ok (.aload_n 1, 1) := by decide +kernel
theorem dL_law_287 : decode cL_law 287 = .ok (.aload_n 0, 1) := by decide +kernel
theorem dL_law_288 : decode cL_law 288 = .ok (.iload_n 3, 1) := by decide +kernel
theorem dL_law_289 : decode cL_law 289 = .ok (.iconst 1, 1) := by decide +kernel
theorem dL_law_290 : decode cL_law 290 = .ok (.iadd, 1) := by decide +kernel
theorem dL_law_291 : decode cL_law 291 = .ok (.iaload, 1) := by decide +kernel
theorem dL_law_292 : decode cL_law 292 = .ok (.aload_n 0, 1) := by decide +kernel
theorem dL_law_293 : decode cL_law 293 = .ok (.iload_n 3, 1) := by decide +kernel
theorem dL_law_294 : decode cL_law 294 = .ok (.iconst 2, 1) := by decide +kernel
theorem dL_law_295 : decode cL_law 295 = .ok (.iadd, 1) := by decide +kernel
theorem dL_law_296 : decode cL_law 296 = .ok (.iaload, 1) := by decide +kernel
theorem dL_law_297 : decode cL_law 297 = .ok (.aload_n 0, 1) := by decide +kernel
theorem dL_law_298 : decode cL_law 298 = .ok (.iload_n 3, 1) := by decide +kernel
theorem dL_law_299 : decode cL_law 299 = .ok (.iconst 3, 1) := by decide +kernel
theorem dL_law_300 : decode cL_law 300 = .ok (.iadd, 1) := by decide +kernel
theorem dL_law_301 : decode cL_law 301 = .ok (.iaload, 1) := by decide +kernel
theorem dL_law_302 : decode cL_law 302 = .ok (.invokevirtual 22, 3) := by decide +kernel
theorem dL_law_305 : decode cL_law 305 = .ok (.aload_n 2, 1) := by decide +kernel
theorem dL_law_306 : decode cL_law 306 = .ok (.aload_n 0, 1) := by decide +kernel
theorem dL_law_307 : decode cL_law 307 = .ok (.iload_n 3, 1) := by decide +kernel
theorem dL_law_308 : decode cL_law 308 = .ok (.iconst 1, 1) := by decide +kernel
theorem dL_law_309 : decode cL_law 309 = .ok (.iadd, 1) := by decide +kernel
theorem dL_law_310 : decode cL_law 310 = .ok (.iaload, 1) := by decide +kernel
theorem dL_law_311 : decode cL_law 311 = .ok (.aload_n 0, 1) := by decide +kernel
theorem dL_law_312 : decode cL_law 312 = .ok (.iload_n 3, 1) := by decide +kernel
theorem dL_law_313 : decode cL_law 313 = .ok (.iconst 2, 1) := by decide +kernel
theorem dL_law_314 : decode cL_law 314 = .ok (.iadd, 1) := by decide +kernel
theorem dL_law_315 : decode cL_law 315 = .ok (.iaload, 1) := by decide +kernel
theorem dL_law_316 : decode cL_law 316 = .ok (.aload_n 0, 1) := by decide +kernel
theorem dL_law_317 : decode cL_law 317 = .ok (.iload_n 3, 1) := by decide +kernel
theorem dL_law_318 : decode cL_law 318 = .ok (.iconst 3, 1) := by decide +kernel
theorem dL_law_319 : decode cL_law 319 = .ok (.iadd, 1) := by decide +kernel
theorem dL_law_320 : decode cL_law 320 = .ok (.iaload, 1) := by decide +kernel
theorem dL_law_321 : decode cL_law 321 = .ok (.invokevirtual 26, 3) := by decide +kernel
theorem dL_law_324 : decode cL_law 324 = .ok (.if_icmp .eq 1015, 3) := by decide +kernel
theorem dL_law_327 : decode cL_law 327 = .ok (.iconst 0, 1) := by decide +kernel
theorem dL_law_328 : decode cL_law 328 = .ok (.ireturn, 1) := by decide +kernel
theorem dL_law_329 : decode cL_law 329 = .ok (.aload_n 1, 1) := by decide +kernel
theorem dL_law_330 : decode cL_law 330 = .ok (.aload_n 0, 1) := by decide +kernel
theorem dL_law_331 : decode cL_law 331 = .ok (.iload_n 3, 1) := by decide +kernel
theorem dL_law_332 : decode cL_law 332 = .ok (.iconst 1, 1) := by decide +kernel
theorem dL_law_333 : decode cL_law 333 = .ok (.iadd, 1) := by decide +kernel
theorem dL_law_334 : decode cL_law 334 = .ok (.iaload, 1) := by decide +kernel
theorem dL_law_335 : decode cL_law 335 = .ok (.aload_n 0, 1) := by decide +kernel
theorem dL_law_336 : decode cL_law 336 = .ok (.iload_n 3, 1) := by decide +kernel
theorem dL_law_337 : decode cL_law 337 = .ok (.iconst 2, 1) := by decide +kernel
theorem dL_law_338 : decode cL_law 338 = .ok (.iadd, 1) := by decide +kernel
theorem dL_law_339 : decode cL_law 339 = .ok (.iaload, 1) := by decide +kernel
theorem dL_law_340 : decode cL_law 340 = .ok (.invokevirtual 27, 3) := by decide +kernel
theorem dL_law_343 : decode cL_law 343 = .ok (.aload_n 2, 1) := by decide +kernel
theorem dL_law_344 : decode cL_law 344 = .ok (.aload_n 0, 1) := by decide +kernel
theorem dL_law_345 : decode cL_law 345 = .ok (.iload_n 3, 1) := by decide +kernel
theorem dL_law_346 : decode cL_law 346 = .ok (.iconst 1, 1) := by decide +kernel
theorem dL_law_347 : decode cL_law 347 = .ok (.iadd, 1) := by decide +kernel
theorem dL_law_348 : decode cL_law 348 = .ok (.iaload, 1) := by decide +kernel
theorem dL_law_349 : decode cL_law 349 = .ok (.aload_n 0, 1) := by decide +kernel
theorem dL_law_350 : decode cL_law 350 = .ok (.iload_n 3, 1) := by decide +kernel
theorem dL_law_351 : decode cL_law 351 = .ok (.iconst 2, 1) := by decide +kernel
theorem dL_law_352 : decode cL_law 352 = .ok (.iadd, 1) := by decide +kernel
theorem dL_law_353 : decode cL_law 353 = .ok (.iaload, 1) := by decide +kernel
theorem dL_law_354 : decode cL_law 354 = .ok (.invokevirtual 30, 3) := by decide +kernel
theorem dL_law_357 : decode cL_law 357 = .ok (.if_icmp .eq 982, 3) := by decide +kernel
theorem dL_law_360 : decode cL_law 360 = .ok (.iconst 0, 1) := by decide +kernel
theorem dL_law_361 : decode cL_law 361 = .ok (.ireturn, 1) := by decide +kernel
theorem dL_law_362 : decode cL_law 362 = .ok (.aload_n 1, 1) := by decide +kernel
theorem dL_law_363 : decode cL_law 363 = .ok (.invokevirtual 31, 3) := by decide +kernel
theorem dL_law_366 : decode cL_law 366 = .ok (.aload_n 2, 1) := by decide +kernel
theorem dL_law_367 : decode cL_law 367 = .ok (.invokevirtual 35, 3) := by decide +kernel
theorem dL_law_370 : decode cL_law 370 = .ok (.if_icmp .eq 969, 3) := by decide +kernel
theorem dL_law_373 : decode cL_law 373 = .ok (.iconst 0, 1) := by decide +kernel
theorem dL_law_374 : decode cL_law 374 = .ok (.ireturn, 1) := by decide +kernel
theorem dL_law_375 : decode cL_law 375 = .ok (.aload_n 1, 1) := by decide +kernel
theorem dL_law_376 : decode cL_law 376 = .ok (.aload_n 0, 1) := by decide +kernel
theorem dL_law_377 : decode cL_law 377 = .ok (.iload_n 3, 1) := by decide +kernel
theorem dL_law_378 : decode cL_law 378 = .ok (.iconst 1, 1) := by decide +kernel
theorem dL_law_379 : decode cL_law 379 = .ok (.iadd, 1) := by decide +kernel
theorem dL_law_380 : decode cL_law 380 = .ok (.iaload, 1) := by decide +kernel
theorem dL_law_381 : decode cL_law 381 = .ok (.invokevirtual 36, 3) := by decide +kernel
theorem dL_law_384 : decode cL_law 384 = .ok (.aload_n 2, 1) := by decide +kernel
theorem dL_law_385 : decode cL_law 385 = .ok (.aload_n 0, 1) := by decide +kernel
theorem dL_law_386 : decode cL_law 386 = .ok (.iload_n 3, 1) := by decide +kernel
theorem dL_law_387 : decode cL_law 387 = .ok (.iconst 1, 1) := by decide +kernel
theorem dL_law_388 : decode cL_law 388 = .ok (.iadd, 1) := by decide +kernel
theorem dL_law_389 : decode cL_law 389 = .ok (.iaload, 1) := by decide +kernel
theorem dL_law_390 : decode cL_law 390 = .ok (.invokevirtual 40, 3) := by decide +kernel
theorem dL_law_393 : decode cL_law 393 = .ok (.if_icmp .eq 946, 3) := by decide +kernel
theorem dL_law_396 : decode cL_law 396 = .ok (.iconst 0, 1) := by decide +kernel
theorem dL_law_397 : decode cL_law 397 = .ok (.ireturn, 1) := by decide +kernel
theorem dL_law_398 : decode cL_law 398 = .ok (.aload_n 1, 1) := by decide +kernel
theorem dL_law_399 : decode cL_law 399 = .ok (.aload_n 0, 1) := by decide +kernel
theorem dL_law_400 : decode cL_law 400 = .ok (.iload_n 3, 1) := by decide +kernel
theorem dL_law_401 : decode cL_law 401 = .ok (.iconst 1, 1) := by decide +kernel
theorem dL_law_402 : decode cL_law 402 = .ok (.iadd, 1) := by decide +kernel
theorem dL_law_403 : decode cL_law 403 = .ok (.iaload, 1) := by decide +kernel
theorem dL_law_404 : decode cL_law 404 = .ok (.invokevirtual 41, 3) := by decide +kernel
theorem dL_law_407 : decode cL_law 407 = .ok (.aload_n 2, 1) := by decide +kernel
theorem dL_law_408 : decode cL_law 408 = .ok (.aload_n 0, 1) := by decide +kernel
theorem dL_law_409 : decode cL_law 409 = .ok (.iload_n 3, 1) := by decide +kernel
theorem dL_law_410 : decode cL_law 410 = .ok (.iconst 1, 1) := by decide +kernel
theorem dL_law_411 : decode cL_law 411 = .ok (.iadd, 1) := by decide +kernel
theorem dL_law_412 : decode cL_law 412 = .ok (.iaload, 1) := by decide +kernel
theorem dL_law_413 : decode cL_law 413 = .ok (.invokevirtual 44, 3) := by decide +kernel
theorem dL_law_416 : decode cL_law 416 = .ok (.if_icmp .eq 923, 3) := by decide +kernel
theorem dL_law_419 : decode cL_law 419 = .ok (.iconst 0, 1) := by decide +kernel
theorem dL_law_420 : decode cL_law 420 = .ok (.ireturn, 1) := by decide +kernel
theorem dL_law_421 : decode cL_law 421 = .ok (.aload_n 1, 1) := by decide +kernel
theorem dL_law_422 : decode cL_law 422 = .ok (.aload_n 0, 1) := by decide +kernel
theorem dL_law_423 : decode cL_law 423 = .ok (.iload_n 3, 1) := by decide +kernel
theorem dL_law_424 : decode cL_law 424 = .ok (.iconst 1, 1) := by decide +kernel
theorem dL_law_425 : decode cL_law 425 = .ok (.iadd, 1) := by decide +kernel
theorem dL_law_426 : decode cL_law 426 = .ok (.iaload, 1) := by decide +kernel
theorem dL_law_427 : decode cL_law 427 = .ok (.invokevirtual 45, 3) := by decide +kernel
theorem dL_law_430 : decode cL_law 430 = .ok (.aload_n 2, 1) := by decide +kernel
theorem dL_law_431 : decode cL_law 431 = .ok (.aload_n 0, 1) := by decide +kernel
theorem dL_law_432 : decode cL_law 432 = .ok (.iload_n 3, 1) := by decide +kernel
theorem dL_law_433 : decode cL_law 433 = .ok (.iconst 1, 1) := by decide +kernel
theorem dL_law_434 : decode cL_law 434 = .ok (.iadd, 1) := by decide +kernel
theorem dL_law_435 : decode cL_law 435 = .ok (.iaload, 1) := by decide +kernel
theorem dL_law_436 : decode cL_law 436 = .ok (.invokevirtual 48, 3) := by decide +kernel
theorem dL_law_439 : decode cL_law 439 = .ok (.if_icmp .eq 900, 3) := by decide +kernel
theorem dL_law_442 : decode cL_law 442 = .ok (.iconst 0, 1) := by decide +kernel
theorem dL_law_443 : decode cL_law 443 = .ok (.ireturn, 1) := by decide +kernel
theorem dL_law_444 : decode cL_law 444 = .ok (.aload_n 1, 1) := by decide +kernel
theorem dL_law_445 : decode cL_law 445 = .ok (.aload_n 0, 1) := by decide +kernel
theorem dL_law_446 : decode cL_law 446 = .ok (.iload_n 3, 1) := by decide +kernel
theorem dL_law_447 : decode cL_law 447 = .ok (.iconst 1, 1) := by decide +kernel
theorem dL_law_448 : decode cL_law 448 = .ok (.iadd, 1) := by decide +kernel
theorem dL_law_449 : decode cL_law 449 = .ok (.iaload, 1) := by decide +kernel
theorem dL_law_450 : decode cL_law 450 = .ok (.invokevirtual 49, 3) := by decide +kernel
theorem dL_law_453 : decode cL_law 453 = .ok (.aload_n 2, 1) := by decide +kernel
theorem dL_law_454 : decode cL_law 454 = .ok (.aload_n 0, 1) := by decide +kernel
theorem dL_law_455 : decode cL_law 455 = .ok (.iload_n 3, 1) := by decide +kernel
theorem dL_law_456 : decode cL_law 456 = .ok (.iconst 1, 1) := by decide +kernel
theorem dL_law_457 : decode cL_law 457 = .ok (.iadd, 1) := by decide +kernel
theorem dL_law_458 : decode cL_law 458 = .ok (.iaload, 1) := by decide +kernel
theorem dL_law_459 : decode cL_law 459 = .ok (.invokevirtual 52, 3) := by decide +kernel
theorem dL_law_462 : decode cL_law 462 = .ok (.if_icmp .eq 877, 3) := by decide +kernel
theorem dL_law_465 : decode cL_law 465 = .ok (.iconst 0, 1) := by decide +kernel
theorem dL_law_466 : decode cL_law 466 = .ok (.ireturn, 1) := by decide +kernel
theorem dL_law_467 : decode cL_law 467 = .ok (.aload_n 1, 1) := by decide +kernel
theorem dL_law_468 : decode cL_law 468 = .ok (.aload_n 0, 1) := by decide +kernel
theorem dL_law_469 : decode cL_law 469 = .ok (.iload_n 3, 1) := by decide +kernel
theorem dL_law_470 : decode cL_law 470 = .ok (.iconst 1, 1) := by decide +kernel
theorem dL_law_471 : decode cL_law 471 = .ok (.iadd, 1) := by decide +kernel
theorem dL_law_472 : decode cL_law 472 = .ok (.iaload, 1) := by decide +kernel
theorem dL_law_473 : decode cL_law 473 = .ok (.aload_n 0, 1) := by decide +kernel
theorem dL_law_474 : decode cL_law 474 = .ok (.iload_n 3, 1) := by decide +kernel
theorem dL_law_475 : decode cL_law 475 = .ok (.iconst 2, 1) := by decide +kernel
theorem dL_law_476 : decode cL_law 476 = .ok (.iadd, 1) := by decide +kernel
theorem dL_law_477 : decode cL_law 477 = .ok (.iaload, 1) := by decide +kernel
theorem dL_law_478 : decode cL_law 478 = .ok (.invokevirtual 53, 3) := by decide +kernel
theorem dL_law_481 : decode cL_law 481 = .ok (.aload_n 2, 1) := by decide +kernel
theorem dL_law_482 : decode cL_law 482 = .ok (.aload_n 0, 1) := by decide +kernel
theorem dL_law_483 : decode cL_law 483 = .ok (.iload_n 3, 1) := by decide +kernel
theorem dL_law_484 : decode cL_law 484 = .ok (.iconst 1, 1) := by decide +kernel
theorem dL_law_485 : decode cL_law 485 = .ok (.iadd, 1) := by decide +kernel
theorem dL_law_486 : decode cL_law 486 = .ok (.iaload, 1) := by decide +kernel
theorem dL_law_487 : decode cL_law 487 = .ok (.aload_n 0, 1) := by decide +kernel
theorem dL_law_488 : decode cL_law 488 = .ok (.iload_n 3, 1) := by decide +kernel
theorem dL_law_489 : decode cL_law 489 = .ok (.iconst 2, 1) := by decide +kernel
theorem dL_law_490 : decode cL_law 490 = .ok (.iadd, 1) := by decide +kernel
theorem dL_law_491 : decode cL_law 491 = .ok (.iaload, 1) := by decide +kernel
theorem dL_law_492 : decode cL_law 492 = .ok (.invokevirtual 56, 3) := by decide +kernel
theorem dL_law_495 : decode cL_law 495 = .ok (.if_icmp .eq 844, 3) := by decide +kernel
theorem dL_law_498 : decode cL_law 498 = .ok (.iconst 0, 1) := by decide +kernel
theorem dL_law_499 : decode cL_law 499 = .ok (.ireturn, 1) := by decide +kernel
theorem dL_law_500 : decode cL_law 500 = .ok (.aload_n 1, 1) := by decide +kernel
theorem dL_law_501 : decode cL_law 501 = .ok (.aload_n 0, 1) := by decide +kernel
theorem dL_law_502 : decode cL_law 502 = .ok (.iload_n 3, 1) := by decide +kernel
theorem dL_law_503 : decode cL_law 503 = .ok (.iconst 1, 1) := by decide +kernel
theorem dL_law_504 : decode cL_law 504 = .ok (.iadd, 1) := by decide +kernel
theorem dL_law_505 : decode cL_law 505 = .ok (.iaload, 1) := by decide +kernel
theorem dL_law_506 : decode cL_law 506 = .ok (.invokevirtual 57, 3) := by decide +kernel
theorem dL_law_509 : decode cL_law 509 = .ok (.aload_n 2, 1) := by decide +kernel
theorem dL_law_510 : decode cL_law 510 = .ok (.aload_n 0, 1) := by decide +kernel
theorem dL_law_511 : decode cL_law 511 = .ok (.iload_n 3, 1) := by decide +kernel
theorem dL_law_512 : decode cL_law 512 = .ok (.iconst 1, 1) := by decide +kernel
theorem dL_law_513 : decode cL_law 513 = .ok (.iadd, 1) := by decide +kernel
theorem dL_law_514 : decode cL_law 514 = .ok (.iaload, 1) := by decide +kernel
theorem dL_law_515 : decode cL_law 515 = .ok (.invokevirtual 60, 3) := by decide +kernel
theorem dL_law_518 : decode cL_law 518 = .ok (.if_icmp .eq 821, 3) := by decide +kernel
theorem dL_law_521 : decode cL_law 521 = .ok (.iconst 0, 1) := by decide +kernel
theorem dL_law_522 : decode cL_law 522 = .ok (.ireturn, 1) := by decide +kernel
theorem dL_law_523 : decode cL_law 523 = .ok (.aload_n 1, 1) := by decide +kernel
theorem dL_law_524 : decode cL_law 524 = .ok (.aload_n 0, 1) := by decide +kernel
theorem dL_law_525 : decode cL_law 525 = .ok (.iload_n 3, 1) := by decide +kernel
theorem dL_law_526 : decode cL_law 526 = .ok (.iconst 1, 1) := by decide +kernel
theorem dL_law_527 : decode cL_law 527 = .ok (.iadd, 1) := by decide +kernel
theorem dL_law_528 : decode cL_law 528 = .ok (.iaload, 1) := by decide +kernel
theorem dL_law_529 : decode cL_law 529 = .ok (.invokevirtual 61, 3) := by decide +kernel
theorem dL_law_532 : decode cL_law 532 = .ok (.aload_n 2, 1) := by decide +kernel
theorem dL_law_533 : decode cL_law 533 = .ok (.aload_n 0, 1) := by decide +kernel
theorem dL_law_534 : decode cL_law 534 = .ok (.iload_n 3, 1) := by decide +kernel
theorem dL_law_535 : decode cL_law 535 = .ok (.iconst 1, 1) := by decide +kernel
theorem dL_law_536 : decode cL_law 536 = .ok (.iadd, 1) := by decide +kernel
theorem dL_law_537 : decode cL_law 537 = .ok (.iaload, 1) := by decide +kernel
theorem dL_law_538 : decode cL_law 538 = .ok (.invokevirtual 64, 3) := by decide +kernel
theorem dL_law_541 : decode cL_law 541 = .ok (.if_icmp .eq 798, 3) := by decide +kernel
theorem dL_law_544 : decode cL_law 544 = .ok (.iconst 0, 1) := by decide +kernel
theorem dL_law_545 : decode cL_law 545 = .ok (.ireturn, 1) := by decide +kernel
theorem dL_law_546 : decode cL_law 546 = .ok (.aload_n 1, 1) := by decide +kernel
theorem dL_law_547 : decode cL_law 547 = .ok (.aload_n 0, 1) := by decide +kernel
theorem dL_law_548 : decode cL_law 548 = .ok (.iload_n 3, 1) := by decide +kernel
theorem dL_law_549 : decode cL_law 549 = .ok (.iconst 1, 1) := by decide +kernel
theorem dL_law_550 : decode cL_law 550 = .ok (.iadd, 1) := by decide +kernel
theorem dL_law_551 : decode cL_law 551 = .ok (.iaload, 1) := by decide +kernel
theorem dL_law_552 : decode cL_law 552 = .ok (.aload_n 0, 1) := by decide +kernel
theorem dL_law_553 : decode cL_law 553 = .ok (.iload_n 3, 1) := by decide +kernel
theorem dL_law_554 : decode cL_law 554 = .ok (.iconst 2, 1) := by decide +kernel
theorem dL_law_555 : decode cL_law 555 = .ok (.iadd, 1) := by decide +kernel
theorem dL_law_556 : decode cL_law 556 = .ok (.iaload, 1) := by decide +kernel
theorem dL_law_557 : decode cL_law 557 = .ok (.invokevirtual 65, 3) := by decide +kernel
theorem dL_law_560 : decode cL_law 560 = .ok (.aload_n 2, 1) := by decide +kernel
theorem dL_law_561 : decode cL_law 561 = .ok (.aload_n 0, 1) := by decide +kernel
theorem dL_law_562 : decode cL_law 562 = .ok (.iload_n 3, 1) := by decide +kernel
theorem dL_law_563 : decode cL_law 563 = .ok (.iconst 1, 1) := by decide +kernel
theorem dL_law_564 : decode cL_law 564 = .ok (.iadd, 1) := by decide +kernel
theorem dL_law_565 : decode cL_law 565 = .ok (.iaload, 1) := by decide +kernel
theorem dL_law_566 : decode cL_law 566 = .ok (.aload_n 0, 1) := by decide +kernel
theorem dL_law_567 : decode cL_law 567 = .ok (.iload_n 3, 1) := by decide +kernel
theorem dL_law_568 : decode cL_law 568 = .ok (.iconst 2, 1) := by decide +kernel
theorem dL_law_569 : decode cL_law 569 = .ok (.iadd, 1) := by decide +kernel
theorem dL_law_570 : decode cL_law 570 = .ok (.iaload, 1) := by decide +kernel
theorem dL_law_571 : decode cL_law 571 = .ok (.invokevirtual 68, 3) := by decide +kernel
theorem dL_law_574 : decode cL_law 574 = .ok (.if_icmp .eq 765, 3) := by decide +kernel
theorem dL_law_577 : decode cL_law 577 = .ok (.iconst 0, 1) := by decide +kernel
theorem dL_law_578 : decode cL_law 578 = .ok (.ireturn, 1) := by decide +kernel
theorem dL_law_579 : decode cL_law 579 = .ok (.aload_n 1, 1) := by decide +kernel
theorem dL_law_580 : decode cL_law 580 = .ok (.aload_n 0, 1) := by decide +kernel
theorem dL_law_581 : decode cL_law 581 = .ok (.iload_n 3, 1) := by decide +kernel
theorem dL_law_582 : decode cL_law 582 = .ok (.iconst 1, 1) := by decide +kernel
theorem dL_law_583 : decode cL_law 583 = .ok (.iadd, 1) := by decide +kernel
theorem dL_law_584 : decode cL_law 584 = .ok (.iaload, 1) := by decide +kernel
theorem dL_law_585 : decode cL_law 585 = .ok (.invokevirtual 69, 3) := by decide +kernel
theorem dL_law_588 : decode cL_law 588 = .ok (.aload_n 2, 1) := by decide +kernel
theorem dL_law_589 : decode cL_law 589 = .ok (.aload_n 0, 1) := by decide +kernel
theorem dL_law_590 : decode cL_law 590 = .ok (.iload_n 3, 1) := by decide +kernel
theorem dL_law_591 : decode cL_law 591 = .ok (.iconst 1, 1) := by decide +kernel
theorem dL_law_592 : decode cL_law 592 = .ok (.iadd, 1) := by decide +kernel
theorem dL_law_593 : decode cL_law 593 = .ok (.iaload, 1) := by decide +kernel
theorem dL_law_594 : decode cL_law 594 = .ok (.invokevirtual 72, 3) := by decide +kernel
theorem dL_law_597 : decode cL_law 597 = .ok (.if_icmp .eq 742, 3) := by decide +kernel
theorem dL_law_600 : decode cL_law 600 = .ok (.iconst 0, 1) := by decide +kernel
theorem dL_law_601 : decode cL_law 601 = .ok (.ireturn, 1) := by decide +kernel
theorem dL_law_602 : decode cL_law 602 = .ok (.aload_n 1, 1) := by decide +kernel
theorem dL_law_603 : decode cL_law 603 = .ok (.aload_n 0, 1) := by decide +kernel
theorem dL_law_604 : decode cL_law 604 = .ok (.iload_n 3, 1) := by decide +kernel
theorem dL_law_605 : decode cL_law 605 = .ok (.iconst 1, 1) := by decide +kernel
theorem dL_law_606 : decode cL_law 606 = .ok (.iadd, 1) := by decide +kernel
theorem dL_law_607 : decode cL_law 607 = .ok (.iaload, 1) := by decide +kernel
theorem dL_law_608 : decode cL_law 608 = .ok (.aload_n 0, 1) := by decide +kernel
theorem dL_law_609 : decode cL_law 609 = .ok (.iload_n 3, 1) := by decide +kernel
theorem dL_law_610 : decode cL_law 610 = .ok (.iconst 2, 1) := by decide +kernel
theorem dL_law_611 : decode cL_law 611 = .ok (.iadd, 1) := by decide +kernel
theorem dL_law_612 : decode cL_law 612 = .ok (.iaload, 1) := by decide +kernel
theorem dL_law_613 : decode cL_law 613 = .ok (.invokevirtual 73, 3) := by decide +kernel
theorem dL_law_616 : decode cL_law 616 = .ok (.aload_n 2, 1) := by decide +kernel
theorem dL_law_617 : decode cL_law 617 = .ok (.aload_n 0, 1) := by decide +kernel
theorem dL_law_618 : decode cL_law 618 = .ok (.iload_n 3, 1) := by decide +kernel
theorem dL_law_619 : decode cL_law 619 = .ok (.iconst 1, 1) := by decide +kernel
theorem dL_law_620 : decode cL_law 620 = .ok (.iadd, 1) := by decide +kernel
theorem dL_law_621 : decode cL_law 621 = .ok (.iaload, 1) := by decide +kernel
theorem dL_law_622 : decode cL_law 622 = .ok (.aload_n 0, 1) := by decide +kernel
theorem dL_law_623 : decode cL_law 623 = .ok (.iload_n 3, 1) := by decide +kernel
theorem dL_law_624 : decode cL_law 624 = .ok (.iconst 2, 1) := by decide +kernel
theorem dL_law_625 : decode cL_law 625 = .ok (.iadd, 1) := by decide +kernel
theorem dL_law_626 : decode cL_law 626 = .ok (.iaload, 1) := by decide +kernel
theorem dL_law_627 : decode cL_law 627 = .ok (.invokevirtual 76, 3) := by decide +kernel
theorem dL_law_630 : decode cL_law 630 = .ok (.if_icmp .eq 709, 3) := by decide +kernel
theorem dL_law_633 : decode cL_law 633 = .ok (.iconst 0, 1) := by decide +kernel
theorem dL_law_634 : decode cL_law 634 = .ok (.ireturn, 1) := by decide +kernel
theorem dL_law_635 : decode cL_law 635 = .ok (.aload_n 1, 1) := by decide +kernel
theorem dL_law_636 : decode cL_law 636 = .ok (.invokevirtual 77, 3) := by decide +kernel
theorem dL_law_639 : decode cL_law 639 = .ok (.aload_n 2, 1) := by decide +kernel
theorem dL_law_640 : decode cL_law 640 = .ok (.invokevirtual 80, 3) := by decide +kernel
theorem dL_law_643 : decode cL_law 643 = .ok (.if_icmp .eq 696, 3) := by decide +kernel
theorem dL_law_646 : decode cL_law 646 = .ok (.iconst 0, 1) := by decide +kernel
theorem dL_law_647 : decode cL_law 647 = .ok (.ireturn, 1) := by decide +kernel
theorem dL_law_648 : decode cL_law 648 = .ok (.aload_n 1, 1) := by decide +kernel
theorem dL_law_649 : decode cL_law 649 = .ok (.aload_n 0, 1) := by decide +kernel
theorem dL_law_650 : decode cL_law 650 = .ok (.iload_n 3, 1) := by decide +kernel
theorem dL_law_651 : decode cL_law 651 = .ok (.iconst 1, 1) := by decide +kernel
theorem dL_law_652 : decode cL_law 652 = .ok (.iadd, 1) := by decide +kernel
theorem dL_law_653 : decode cL_law 653 = .ok (.iaload, 1) := by decide +kernel
theorem dL_law_654 : decode cL_law 654 = .ok (.aload_n 0, 1) := by decide +kernel
theorem dL_law_655 : decode cL_law 655 = .ok (.iload_n 3, 1) := by decide +kernel
theorem dL_law_656 : decode cL_law 656 = .ok (.iconst 2, 1) := by decide +kernel
theorem dL_law_657 : decode cL_law 657 = .ok (.iadd, 1) := by decide +kernel
theorem dL_law_658 : decode cL_law 658 = .ok (.iaload, 1) := by decide +kernel
theorem dL_law_659 : decode cL_law 659 = .ok (.invokevirtual 81, 3) := by decide +kernel
theorem dL_law_662 : decode cL_law 662 = .ok (.aload_n 2, 1) := by decide +kernel
theorem dL_law_663 : decode cL_law 663 = .ok (.aload_n 0, 1) := by decide +kernel
theorem dL_law_664 : decode cL_law 664 = .ok (.iload_n 3, 1) := by decide +kernel
theorem dL_law_665 : decode cL_law 665 = .ok (.iconst 1, 1) := by decide +kernel
theorem dL_law_666 : decode cL_law 666 = .ok (.iadd, 1) := by decide +kernel
theorem dL_law_667 : decode cL_law 667 = .ok (.iaload, 1) := by decide +kernel
theorem dL_law_668 : decode cL_law 668 = .ok (.aload_n 0, 1) := by decide +kernel
theorem dL_law_669 : decode cL_law 669 = .ok (.iload_n 3, 1) := by decide +kernel
theorem dL_law_670 : decode cL_law 670 = .ok (.iconst 2, 1) := by decide +kernel
theorem dL_law_671 : decode cL_law 671 = .ok (.iadd, 1) := by decide +kernel
theorem dL_law_672 : decode cL_law 672 = .ok (.iaload, 1) := by decide +kernel
theorem dL_law_673 : decode cL_law 673 = .ok (.invokevirtual 84, 3) := by decide +kernel
theorem dL_law_676 : decode cL_law 676 = .ok (.if_icmp .eq 663, 3) := by decide +kernel
theorem dL_law_679 : decode cL_law 679 = .ok (.iconst 0, 1) := by decide +kernel
theorem dL_law_680 : decode cL_law 680 = .ok (.ireturn, 1) := by decide +kernel
theorem dL_law_681 : decode cL_law 681 = .ok (.aload_n 1, 1) := by decide +kernel
theorem dL_law_682 : decode cL_law 682 = .ok (.aload_n 0, 1) := by decide +kernel
theorem dL_law_683 : decode cL_law 683 = .ok (.iload_n 3, 1) := by decide +kernel
theorem dL_law_684 : decode cL_law 684 = .ok (.iconst 1, 1) := by decide +kernel
theorem dL_law_685 : decode cL_law 685 = .ok (.iadd, 1) := by decide +kernel
theorem dL_law_686 : decode cL_law 686 = .ok (.iaload, 1) := by decide +kernel
theorem dL_law_687 : decode cL_law 687 = .ok (.invokevirtual 85, 3) := by decide +kernel
theorem dL_law_690 : decode cL_law 690 = .ok (.aload_n 2, 1) := by decide +kernel
theorem dL_law_691 : decode cL_law 691 = .ok (.aload_n 0, 1) := by decide +kernel
theorem dL_law_692 : decode cL_law 692 = .ok (.iload_n 3, 1) := by decide +kernel
theorem dL_law_693 : decode cL_law 693 = .ok (.iconst 1, 1) := by decide +kernel
theorem dL_law_694 : decode cL_law 694 = .ok (.iadd, 1) := by decide +kernel
theorem dL_law_695 : decode cL_law 695 = .ok (.iaload, 1) := by decide +kernel
theorem dL_law_696 : decode cL_law 696 = .ok (.invokevirtual 88, 3) := by decide +kernel
theorem dL_law_699 : decode cL_law 699 = .ok (.if_icmp .eq 640, 3) := by decide +kernel
theorem dL_law_702 : decode cL_law 702 = .ok (.iconst 0, 1) := by decide +kernel
theorem dL_law_703 : decode cL_law 703 = .ok (.ireturn, 1) := by decide +kernel
theorem dL_law_704 : decode cL_law 704 = .ok (.aload_n 1, 1) := by decide +kernel
theorem dL_law_705 : decode cL_law 705 = .ok (.aload_n 0, 1) := by decide +kernel
theorem dL_law_706 : decode cL_law 706 = .ok (.iload_n 3, 1) := by decide +kernel
theorem dL_law_707 : decode cL_law 707 = .ok (.iconst 1, 1) := by decide +kernel
theorem dL_law_708 : decode cL_law 708 = .ok (.iadd, 1) := by decide +kernel
theorem dL_law_709 : decode cL_law 709 = .ok (.iaload, 1) := by decide +kernel
theorem dL_law_710 : decode cL_law 710 = .ok (.invokevirtual 89, 3) := by decide +kernel
theorem dL_law_713 : decode cL_law 713 = .ok (.aload_n 2, 1) := by decide +kernel
theorem dL_law_714 : decode cL_law 714 = .ok (.aload_n 0, 1) := by decide +kernel
theorem dL_law_715 : decode cL_law 715 = .ok (.iload_n 3, 1) := by decide +kernel
theorem dL_law_716 : decode cL_law 716 = .ok (.iconst 1, 1) := by decide +kernel
theorem dL_law_717 : decode cL_law 717 = .ok (.iadd, 1) := by decide +kernel
theorem dL_law_718 : decode cL_law 718 = .ok (.iaload, 1) := by decide +kernel
theorem dL_law_719 : decode cL_law 719 = .ok (.invokevirtual 92, 3) := by decide +kernel
theorem dL_law_722 : decode cL_law 722 = .ok (.if_icmp .eq 617, 3) := by decide +kernel
theorem dL_law_725 : decode cL_law 725 = .ok (.iconst 0, 1) := by decide +kernel
theorem dL_law_726 : decode cL_law 726 = .ok (.ireturn, 1) := by decide +kernel
theorem dL_law_727 : decode cL_law 727 = .ok (.aload_n 1, 1) := by decide +kernel
theorem dL_law_728 : decode cL_law 728 = .ok (.aload_n 0, 1) := by decide +kernel
theorem dL_law_729 : decode cL_law 729 = .ok (.iload_n 3, 1) := by decide +kernel
theorem dL_law_730 : decode cL_law 730 = .ok (.iconst 1, 1) := by decide +kernel
theorem dL_law_731 : decode cL_law 731 = .ok (.iadd, 1) := by decide +kernel
theorem dL_law_732 : decode cL_law 732 = .ok (.iaload, 1) := by decide +kernel
theorem dL_law_733 : decode cL_law 733 = .ok (.invokevirtual 93, 3) := by decide +kernel
theorem dL_law_736 : decode cL_law 736 = .ok (.aload_n 2, 1) := by decide +kernel
theorem dL_law_737 : decode cL_law 737 = .ok (.aload_n 0, 1) := by decide +kernel
theorem dL_law_738 : decode cL_law 738 = .ok (.iload_n 3, 1) := by decide +kernel
theorem dL_law_739 : decode cL_law 739 = .ok (.iconst 1, 1) := by decide +kernel
theorem dL_law_740 : decode cL_law 740 = .ok (.iadd, 1) := by decide +kernel
theorem dL_law_741 : decode cL_law 741 = .ok (.iaload, 1) := by decide +kernel
theorem dL_law_742 : decode cL_law 742 = .ok (.invokevirtual 96, 3) := by decide +kernel
theorem dL_law_745 : decode cL_law 745 = .ok (.if_icmp .eq 594, 3) := by decide +kernel
theorem dL_law_748 : decode cL_law 748 = .ok (.iconst 0, 1) := by decide +kernel
theorem dL_law_749 : decode cL_law 749 = .ok (.ireturn, 1) := by decide +kernel
theorem dL_law_750 : decode cL_law 750 = .ok (.aload_n 1, 1) := by decide +kernel
theorem dL_law_751 : decode cL_law 751 = .ok (.aload_n 0, 1) := by decide +kernel
theorem dL_law_752 : decode cL_law 752 = .ok (.iload_n 3, 1) := by decide +kernel
theorem dL_law_753 : decode cL_law 753 = .ok (.iconst 1, 1) := by decide +kernel
theorem dL_law_754 : decode cL_law 754 = .ok (.iadd, 1) := by decide +kernel
theorem dL_law_755 : decode cL_law 755 = .ok (.iaload, 1) := by decide +kernel
theorem dL_law_756 : decode cL_law 756 = .ok (.aload_n 0, 1) := by decide +kernel
theorem dL_law_757 : decode cL_law 757 = .ok (.iload_n 3, 1) := by decide +kernel
theorem dL_law_758 : decode cL_law 758 = .ok (.iconst 2, 1) := by decide +kernel
theorem dL_law_759 : decode cL_law 759 = .ok (.iadd, 1) := by decide +kernel
theorem dL_law_760 : decode cL_law 760 = .ok (.iaload, 1) := by decide +kernel
theorem dL_law_761 : decode cL_law 761 = .ok (.invokevirtual 97, 3) := by decide +kernel
theorem dL_law_764 : decode cL_law 764 = .ok (.aload_n 2, 1) := by decide +kernel
theorem dL_law_765 : decode cL_law 765 = .ok (.aload_n 0, 1) := by decide +kernel
theorem dL_law_766 : decode cL_law 766 = .ok (.iload_n 3, 1) := by decide +kernel
theorem dL_law_767 : decode cL_law 767 = .ok (.iconst 1, 1) := by decide +kernel
theorem dL_law_768 : decode cL_law 768 = .ok (.iadd, 1) := by decide +kernel
theorem dL_law_769 : decode cL_law 769 = .ok (.iaload, 1) := by decide +kernel
theorem dL_law_770 : decode cL_law 770 = .ok (.aload_n 0, 1) := by decide +kernel
theorem dL_law_771 : decode cL_law 771 = .ok (.iload_n 3, 1) := by decide +kernel
theorem dL_law_772 : decode cL_law 772 = .ok (.iconst 2, 1) := by decide +kernel
theorem dL_law_773 : decode cL_law 773 = .ok (.iadd, 1) := by decide +kernel
theorem dL_law_774 : decode cL_law 774 = .ok (.iaload, 1) := by decide +kernel
theorem dL_law_775 : decode cL_law 775 = .ok (.invokevirtual 100, 3) := by decide +kernel
theorem dL_law_778 : decode cL_law 778 = .ok (.if_icmp .eq 561, 3) := by decide +kernel
theorem dL_law_781 : decode cL_law 781 = .ok (.iconst 0, 1) := by decide +kernel
theorem dL_law_782 : decode cL_law 782 = .ok (.ireturn, 1) := by decide +kernel
theorem dL_law_783 : decode cL_law 783 = .ok (.aload_n 1, 1) := by decide +kernel
theorem dL_law_784 : decode cL_law 784 = .ok (.aload_n 0, 1) := by decide +kernel
theorem dL_law_785 : decode cL_law 785 = .ok (.iload_n 3, 1) := by decide +kernel
theorem dL_law_786 : decode cL_law 786 = .ok (.iconst 1, 1) := by decide +kernel
theorem dL_law_787 : decode cL_law 787 = .ok (.iadd, 1) := by decide +kernel
theorem dL_law_788 : decode cL_law 788 = .ok (.iaload, 1) := by decide +kernel
theorem dL_law_789 : decode cL_law 789 = .ok (.aload_n 0, 1) := by decide +kernel
theorem dL_law_790 : decode cL_law 790 = .ok (.iload_n 3, 1) := by decide +kernel
theorem dL_law_791 : decode cL_law 791 = .ok (.iconst 2, 1) := by decide +kernel
theorem dL_law_792 : decode cL_law 792 = .ok (.iadd, 1) := by decide +kernel
theorem dL_law_793 : decode cL_law 793 = .ok (.iaload, 1) := by decide +kernel
theorem dL_law_794 : decode cL_law 794 = .ok (.invokevirtual 101, 3) := by decide +kernel
theorem dL_law_797 : decode cL_law 797 = .ok (.aload_n 2, 1) := by decide +kernel
theorem dL_law_798 : decode cL_law 798 = .ok (.aload_n 0, 1) := by decide +kernel
theorem dL_law_799 : decode cL_law 799 = .ok (.iload_n 3, 1) := by decide +kernel
theorem dL_law_800 : decode cL_law 800 = .ok (.iconst 1, 1) := by decide +kernel
theorem dL_law_801 : decode cL_law 801 = .ok (.iadd, 1) := by decide +kernel
theorem dL_law_802 : decode cL_law 802 = .ok (.iaload, 1) := by decide +kernel
theorem dL_law_803 : decode cL_law 803 = .ok (.aload_n 0, 1) := by decide +kernel
theorem dL_law_804 : decode cL_law 804 = .ok (.iload_n 3, 1) := by decide +kernel
theorem dL_law_805 : decode cL_law 805 = .ok (.iconst 2, 1) := by decide +kernel
theorem dL_law_806 : decode cL_law 806 = .ok (.iadd, 1) := by decide +kernel
theorem dL_law_807 : decode cL_law 807 = .ok (.iaload, 1) := by decide +kernel
theorem dL_law_808 : decode cL_law 808 = .ok (.invokevirtual 104, 3) := by decide +kernel
theorem dL_law_811 : decode cL_law 811 = .ok (.if_icmp .eq 528, 3) := by decide +kernel
theorem dL_law_814 : decode cL_law 814 = .ok (.iconst 0, 1) := by decide +kernel
theorem dL_law_815 : decode cL_law 815 = .ok (.ireturn, 1) := by decide +kernel
theorem dL_law_816 : decode cL_law 816 = .ok (.aload_n 1, 1) := by decide +kernel
theorem dL_law_817 : decode cL_law 817 = .ok (.aload_n 0, 1) := by decide +kernel
theorem dL_law_818 : decode cL_law 818 = .ok (.iload_n 3, 1) := by decide +kernel
theorem dL_law_819 : decode cL_law 819 = .ok (.iconst 1, 1) := by decide +kernel
theorem dL_law_820 : decode cL_law 820 = .ok (.iadd, 1) := by decide +kernel
theorem dL_law_821 : decode cL_law 821 = .ok (.iaload, 1) := by decide +kernel
theorem dL_law_822 : decode cL_law 822 = .ok (.invokevirtual 105, 3) := by decide +kernel
theorem dL_law_825 : decode cL_law 825 = .ok (.aload_n 2, 1) := by decide +kernel
theorem dL_law_826 : decode cL_law 826 = .ok (.aload_n 0, 1) := by decide +kernel
theorem dL_law_827 : decode cL_law 827 = .ok (.iload_n 3, 1) := by decide +kernel
theorem dL_law_828 : decode cL_law 828 = .ok (.iconst 1, 1) := by decide +kernel
theorem dL_law_829 : decode cL_law 829 = .ok (.iadd, 1) := by decide +kernel
theorem dL_law_830 : decode cL_law 830 = .ok (.iaload, 1) := by decide +kernel
theorem dL_law_831 : decode cL_law 831 = .ok (.invokevirtual 108, 3) := by decide +kernel
theorem dL_law_834 : decode cL_law 834 = .ok (.if_icmp .eq 505, 3) := by decide +kernel
theorem dL_law_837 : decode cL_law 837 = .ok (.iconst 0, 1) := by decide +kernel
theorem dL_law_838 : decode cL_law 838 = .ok (.ireturn, 1) := by decide +kernel
theorem dL_law_839 : decode cL_law 839 = .ok (.aload_n 1, 1) := by decide +kernel
theorem dL_law_840 : decode cL_law 840 = .ok (.invokevirtual 109, 3) := by decide +kernel
theorem dL_law_843 : decode cL_law 843 = .ok (.aload_n 2, 1) := by decide +kernel
theorem dL_law_844 : decode cL_law 844 = .ok (.invokevirtual 112, 3) := by decide +kernel
theorem dL_law_847 : decode cL_law 847 = .ok (.if_icmp .eq 492, 3) := by decide +kernel
theorem dL_law_850 : decode cL_law 850 = .ok (.iconst 0, 1) := by decide +kernel
theorem dL_law_851 : decode cL_law 851 = .ok (.ireturn, 1) := by decide +kernel
theorem dL_law_852 : decode cL_law 852 = .ok (.aload_n 1, 1) := by decide +kernel
theorem dL_law_853 : decode cL_law 853 = .ok (.invokevirtual 113, 3) := by decide +kernel
theorem dL_law_856 : decode cL_law 856 = .ok (.aload_n 2, 1) := by decide +kernel
theorem dL_law_857 : decode cL_law 857 = .ok (.invokevirtual 116, 3) := by decide +kernel
theorem dL_law_860 : decode cL_law 860 = .ok (.if_icmp .eq 479, 3) := by decide +kernel
theorem dL_law_863 : decode cL_law 863 = .ok (.iconst 0, 1) := by decide +kernel
theorem dL_law_864 : decode cL_law 864 = .ok (.ireturn, 1) := by decide +kernel
theorem dL_law_865 : decode cL_law 865 = .ok (.aload_n 1, 1) := by decide +kernel
theorem dL_law_866 : decode cL_law 866 = .ok (.invokevirtual 117, 3) := by decide +kernel
theorem dL_law_869 : decode cL_law 869 = .ok (.aload_n 2, 1) := by decide +kernel
theorem dL_law_870 : decode cL_law 870 = .ok (.invokevirtual 120, 3) := by decide +kernel
theorem dL_law_873 : decode cL_law 873 = .ok (.if_icmp .eq 466, 3) := by decide +kernel
theorem dL_law_876 : decode cL_law 876 = .ok (.iconst 0, 1) := by decide +kernel
theorem dL_law_877 : decode cL_law 877 = .ok (.ireturn, 1) := by decide +kernel
theorem dL_law_878 : decode cL_law 878 = .ok (.aload_n 1, 1) := by decide +kernel
theorem dL_law_879 : decode cL_law 879 = .ok (.aload_n 0, 1) := by decide +kernel
theorem dL_law_880 : decode cL_law 880 = .ok (.iload_n 3, 1) := by decide +kernel
theorem dL_law_881 : decode cL_law 881 = .ok (.iconst 1, 1) := by decide +kernel
theorem dL_law_882 : decode cL_law 882 = .ok (.iadd, 1) := by decide +kernel
theorem dL_law_883 : decode cL_law 883 = .ok (.iaload, 1) := by decide +kernel
theorem dL_law_884 : decode cL_law 884 = .ok (.aload_n 0, 1) := by decide +kernel
theorem dL_law_885 : decode cL_law 885 = .ok (.iload_n 3, 1) := by decide +kernel
theorem dL_law_886 : decode cL_law 886 = .ok (.iconst 2, 1) := by decide +kernel
theorem dL_law_887 : decode cL_law 887 = .ok (.iadd, 1) := by decide +kernel
theorem dL_law_888 : decode cL_law 888 = .ok (.iaload, 1) := by decide +kernel
theorem dL_law_889 : decode cL_law 889 = .ok (.invokevirtual 121, 3) := by decide +kernel
theorem dL_law_892 : decode cL_law 892 = .ok (.aload_n 2, 1) := by decide +kernel
theorem dL_law_893 : decode cL_law 893 = .ok (.aload_n 0, 1) := by decide +kernel
theorem dL_law_894 : decode cL_law 894 = .ok (.iload_n 3, 1) := by decide +kernel
theorem dL_law_895 : decode cL_law 895 = .ok (.iconst 1, 1) := by decide +kernel
theorem dL_law_896 : decode cL_law 896 = .ok (.iadd, 1) := by decide +kernel
theorem dL_law_897 : decode cL_law 897 = .ok (.iaload, 1) := by decide +kernel
theorem dL_law_898 : decode cL_law 898 = .ok (.aload_n 0, 1) := by decide +kernel
theorem dL_law_899 : decode cL_law 899 = .ok (.iload_n 3, 1) := by decide +kernel
theorem dL_law_900 : decode cL_law 900 = .ok (.iconst 2, 1) := by decide +kernel
theorem dL_law_901 : decode cL_law 901 = .ok (.iadd, 1) := by decide +kernel
theorem dL_law_902 : decode cL_law 902 = .ok (.iaload, 1) := by decide +kernel
theorem dL_law_903 : decode cL_law 903 = .ok (.invokevirtual 124, 3) := by decide +kernel
theorem dL_law_906 : decode cL_law 906 = .ok (.if_icmp .eq 433, 3) := by decide +kernel
theorem dL_law_909 : decode cL_law 909 = .ok (.iconst 0, 1) := by decide +kernel
theorem dL_law_910 : decode cL_law 910 = .ok (.ireturn, 1) := by decide +kernel
theorem dL_law_911 : decode cL_law 911 = .ok (.aload_n 1, 1) := by decide +kernel
theorem dL_law_912 : decode cL_law 912 = .ok (.aload_n 0, 1) := by decide +kernel
theorem dL_law_913 : decode cL_law 913 = .ok (.iload_n 3, 1) := by decide +kernel
theorem dL_law_914 : decode cL_law 914 = .ok (.iconst 1, 1) := by decide +kernel
theorem dL_law_915 : decode cL_law 915 = .ok (.iadd, 1) := by decide +kernel
theorem dL_law_916 : decode cL_law 916 = .ok (.iaload, 1) := by decide +kernel
theorem dL_law_917 : decode cL_law 917 = .ok (.invokevirtual 125, 3) := by decide +kernel
theorem dL_law_920 : decode cL_law 920 = .ok (.aload_n 2, 1) := by decide +kernel
theorem dL_law_921 : decode cL_law 921 = .ok (.aload_n 0, 1) := by decide +kernel
theorem dL_law_922 : decode cL_law 922 = .ok (.iload_n 3, 1) := by decide +kernel
theorem dL_law_923 : decode cL_law 923 = .ok (.iconst 1, 1) := by decide +kernel
theorem dL_law_924 : decode cL_law 924 = .ok (.iadd, 1) := by decide +kernel
theorem dL_law_925 : decode cL_law 925 = .ok (.iaload, 1) := by decide +kernel
theorem dL_law_926 : decode cL_law 926 = .ok (.invokevirtual 128, 3) := by decide +kernel
theorem dL_law_929 : decode cL_law 929 = .ok (.if_icmp .eq 410, 3) := by decide +kernel
theorem dL_law_932 : decode cL_law 932 = .ok (.iconst 0, 1) := by decide +kernel
theorem dL_law_933 : decode cL_law 933 = .ok (.ireturn, 1) := by decide +kernel
theorem dL_law_934 : decode cL_law 934 = .ok (.aload_n 1, 1) := by decide +kernel
theorem dL_law_935 : decode cL_law 935 = .ok (.aload_n 0, 1) := by decide +kernel
theorem dL_law_936 : decode cL_law 936 = .ok (.iload_n 3, 1) := by decide +kernel
theorem dL_law_937 : decode cL_law 937 = .ok (.iconst 1, 1) := by decide +kernel
theorem dL_law_938 : decode cL_law 938 = .ok (.iadd, 1) := by decide +kernel
theorem dL_law_939 : decode cL_law 939 = .ok (.iaload, 1) := by decide +kernel
theorem dL_law_940 : decode cL_law 940 = .ok (.aload_n 0, 1) := by decide +kernel
theorem dL_law_941 : decode cL_law 941 = .ok (.iload_n 3, 1) := by decide +kernel
theorem dL_law_942 : decode cL_law 942 = .ok (.iconst 2, 1) := by decide +kernel
theorem dL_law_943 : decode cL_law 943 = .ok (.iadd, 1) := by decide +kernel
theorem dL_law_944 : decode cL_law 944 = .ok (.iaload, 1) := by decide +kernel
theorem dL_law_945 : decode cL_law 945 = .ok (.invokevirtual 129, 3) := by decide +kernel
theorem dL_law_948 : decode cL_law 948 = .ok (.aload_n 2, 1) := by decide +kernel
theorem dL_law_949 : decode cL_law 949 = .ok (.aload_n 0, 1) := by decide +kernel
theorem dL_law_950 : decode cL_law 950 = .ok (.iload_n 3, 1) := by decide +kernel
theorem dL_law_951 : decode cL_law 951 = .ok (.iconst 1, 1) := by decide +kernel
theorem dL_law_952 : decode cL_law 952 = .ok (.iadd, 1) := by decide +kernel
theorem dL_law_953 : decode cL_law 953 = .ok (.iaload, 1) := by decide +kernel
theorem dL_law_954 : decode cL_law 954 = .ok (.aload_n 0, 1) := by decide +kernel
theorem dL_law_955 : decode cL_law 955 = .ok (.iload_n 3, 1) := by decide +kernel
theorem dL_law_956 : decode cL_law 956 = .ok (.iconst 2, 1) := by decide +kernel
theorem dL_law_957 : decode cL_law 957 = .ok (.iadd, 1) := by decide +kernel
theorem dL_law_958 : decode cL_law 958 = .ok (.iaload, 1) := by decide +kernel
theorem dL_law_959 : decode cL_law 959 = .ok (.invokevirtual 132, 3) := by decide +kernel
theorem dL_law_962 : decode cL_law 962 = .ok (.if_icmp .eq 377, 3) := by decide +kernel
theorem dL_law_965 : decode cL_law 965 = .ok (.iconst 0, 1) := by decide +kernel
theorem dL_law_966 : decode cL_law 966 = .ok (.ireturn, 1) := by decide +kernel
theorem dL_law_967 : decode cL_law 967 = .ok (.aload_n 1, 1) := by decide +kernel
theorem dL_law_968 : decode cL_law 968 = .ok (.invokevirtual 133, 3) := by decide +kernel
theorem dL_law_971 : decode cL_law 971 = .ok (.aload_n 2, 1) := by decide +kernel
theorem dL_law_972 : decode cL_law 972 = .ok (.invokevirtual 136, 3) := by decide +kernel
theorem dL_law_975 : decode cL_law 975 = .ok (.if_icmp .eq 364, 3) := by decide +kernel
theorem dL_law_978 : decode cL_law 978 = .ok (.iconst 0, 1) := by decide +kernel
theorem dL_law_979 : decode cL_law 979 = .ok (.ireturn, 1) := by decide +kernel
theorem dL_law_980 : decode cL_law 980 = .ok (.aload_n 1, 1) := by decide +kernel
theorem dL_law_981 : decode cL_law 981 = .ok (.invokevirtual 137, 3) := by decide +kernel
theorem dL_law_984 : decode cL_law 984 = .ok (.aload_n 2, 1) := by decide +kernel
theorem dL_law_985 : decode cL_law 985 = .ok (.invokevirtual 140, 3) := by decide +kernel
theorem dL_law_988 : decode cL_law 988 = .ok (.if_icmp .eq 351, 3) := by decide +kernel
theorem dL_law_991 : decode cL_law 991 = .ok (.iconst 0, 1) := by decide +kernel
theorem dL_law_992 : decode cL_law 992 = .ok (.ireturn, 1) := by decide +kernel
theorem dL_law_993 : decode cL_law 993 = .ok (.aload_n 1, 1) := by decide +kernel
theorem dL_law_994 : decode cL_law 994 = .ok (.aload_n 0, 1) := by decide +kernel
theorem dL_law_995 : decode cL_law 995 = .ok (.iload_n 3, 1) := by decide +kernel
theorem dL_law_996 : decode cL_law 996 = .ok (.iconst 1, 1) := by decide +kernel
theorem dL_law_997 : decode cL_law 997 = .ok (.iadd, 1) := by decide +kernel
theorem dL_law_998 : decode cL_law 998 = .ok (.iaload, 1) := by decide +kernel
theorem dL_law_999 : decode cL_law 999 = .ok (.aload_n 0, 1) := by decide +kernel
theorem dL_law_1000 : decode cL_law 1000 = .ok (.iload_n 3, 1) := by decide +kernel
theorem dL_law_1001 : decode cL_law 1001 = .ok (.iconst 2, 1) := by decide +kernel
theorem dL_law_1002 : decode cL_law 1002 = .ok (.iadd, 1) := by decide +kernel
theorem dL_law_1003 : decode cL_law 1003 = .ok (.iaload, 1) := by decide +kernel
theorem dL_law_1004 : decode cL_law 1004 = .ok (.invokevirtual 141, 3) := by decide +kernel
theorem dL_law_1007 : decode cL_law 1007 = .ok (.aload_n 2, 1) := by decide +kernel
theorem dL_law_1008 : decode cL_law 1008 = .ok (.aload_n 0, 1) := by decide +kernel
theorem dL_law_1009 : decode cL_law 1009 = .ok (.iload_n 3, 1) := by decide +kernel
theorem dL_law_1010 : decode cL_law 1010 = .ok (.iconst 1, 1) := by decide +kernel
theorem dL_law_1011 : decode cL_law 1011 = .ok (.iadd, 1) := by decide +kernel
theorem dL_law_1012 : decode cL_law 1012 = .ok (.iaload, 1) := by decide +kernel
theorem dL_law_1013 : decode cL_law 1013 = .ok (.aload_n 0, 1) := by decide +kernel
theorem dL_law_1014 : decode cL_law 1014 = .ok (.iload_n 3, 1) := by decide +kernel
theorem dL_law_1015 : decode cL_law 1015 = .ok (.iconst 2, 1) := by decide +kernel
theorem dL_law_1016 : decode cL_law 1016 = .ok (.iadd, 1) := by decide +kernel
theorem dL_law_1017 : decode cL_law 1017 = .ok (.iaload, 1) := by decide +kernel
theorem dL_law_1018 : decode cL_law 1018 = .ok (.invokevirtual 144, 3) := by decide +kernel
theorem dL_law_1021 : decode cL_law 1021 = .ok (.if_icmp .eq 318, 3) := by decide +kernel
theorem dL_law_1024 : decode cL_law 1024 = .ok (.iconst 0, 1) := by decide +kernel
theorem dL_law_1025 : decode cL_law 1025 = .ok (.ireturn, 1) := by decide +kernel
theorem dL_law_1026 : decode cL_law 1026 = .ok (.aload_n 1, 1) := by decide +kernel
theorem dL_law_1027 : decode cL_law 1027 = .ok (.aload_n 0, 1) := by decide +kernel
theorem dL_law_1028 : decode cL_law 1028 = .ok (.iload_n 3, 1) := by decide +kernel
theorem dL_law_1029 : decode cL_law 1029 = .ok (.iconst 1, 1) := by decide +kernel
theorem dL_law_1030 : decode cL_law 1030 = .ok (.iadd, 1) := by decide +kernel
theorem dL_law_1031 : decode cL_law 1031 = .ok (.iaload, 1) := by decide +kernel
theorem dL_law_1032 : decode cL_law 1032 = .ok (.aload_n 0, 1) := by decide +kernel
theorem dL_law_1033 : decode cL_law 1033 = .ok (.iload_n 3, 1) := by decide +kernel
theorem dL_law_1034 : decode cL_law 1034 = .ok (.iconst 2, 1) := by decide +kernel
theorem dL_law_1035 : decode cL_law 1035 = .ok (.iadd, 1) := by decide +kernel
theorem dL_law_1036 : decode cL_law 1036 = .ok (.iaload, 1) := by decide +kernel
theorem dL_law_1037 : decode cL_law 1037 = .ok (.invokevirtual 145, 3) := by decide +kernel
theorem dL_law_1040 : decode cL_law 1040 = .ok (.aload_n 2, 1) := by decide +kernel
theorem dL_law_1041 : decode cL_law 1041 = .ok (.aload_n 0, 1) := by decide +kernel
theorem dL_law_1042 : decode cL_law 1042 = .ok (.iload_n 3, 1) := by decide +kernel
theorem dL_law_1043 : decode cL_law 1043 = .ok (.iconst 1, 1) := by decide +kernel
theorem dL_law_1044 : decode cL_law 1044 = .ok (.iadd, 1) := by decide +kernel
theorem dL_law_1045 : decode cL_law 1045 = .ok (.iaload, 1) := by decide +kernel
theorem dL_law_1046 : decode cL_law 1046 = .ok (.aload_n 0, 1) := by decide +kernel
theorem dL_law_1047 : decode cL_law 1047 = .ok (.iload_n 3, 1) := by decide +kernel
theorem dL_law_1048 : decode cL_law 1048 = .ok (.iconst 2, 1) := by decide +kernel
theorem dL_law_1049 : decode cL_law 1049 = .ok (.iadd, 1) := by decide +kernel
theorem dL_law_1050 : decode cL_law 1050 = .ok (.iaload, 1) := by decide +kernel
theorem dL_law_1051 : decode cL_law 1051 = .ok (.invokevirtual 148, 3) := by decide +kernel
theorem dL_law_1054 : decode cL_law 1054 = .ok (.if_icmp .eq 285, 3) := by decide +kernel
theorem dL_law_1057 : decode cL_law 1057 = .ok (.iconst 0, 1) := by decide +kernel
theorem dL_law_1058 : decode cL_law 1058 = .ok (.ireturn, 1) := by decide +kernel
theorem dL_law_1059 : decode cL_law 1059 = .ok (.aload_n 1, 1) := by decide +kernel
theorem dL_law_1060 : decode cL_law 1060 = .ok (.aload_n 0, 1) := by decide +kernel
theorem dL_law_1061 : decode cL_law 1061 = .ok (.iload_n 3, 1) := by decide +kernel
theorem dL_law_1062 : decode cL_law 1062 = .ok (.iconst 1, 1) := by decide +kernel
theorem dL_law_1063 : decode cL_law 1063 = .ok (.iadd, 1) := by decide +kernel
theorem dL_law_1064 : decode cL_law 1064 = .ok (.iaload, 1) := by decide +kernel
theorem dL_law_1065 : decode cL_law 1065 = .ok (.aload_n 0, 1) := by decide +kernel
theorem dL_law_1066 : decode cL_law 1066 = .ok (.iload_n 3, 1) := by decide +kernel
theorem dL_law_1067 : decode cL_law 1067 = .ok (.iconst 2, 1) := by decide +kernel
theorem dL_law_1068 : decode cL_law 1068 = .ok (.iadd, 1) := by decide +kernel
theorem dL_law_1069 : decode cL_law 1069 = .ok (.iaload, 1) := by decide +kernel
theorem dL_law_1070 : decode cL_law 1070 = .ok (.aload_n 0, 1) := by decide +kernel
theorem dL_law_1071 : decode cL_law 1071 = .ok (.iload_n 3, 1) := by decide +kernel
theorem dL_law_1072 : decode cL_law 1072 = .ok (.iconst 3, 1) := by decide +kernel
theorem dL_law_1073 : decode cL_law 1073 = .ok (.iadd, 1) := by decide +kernel
theorem dL_law_1074 : decode cL_law 1074 = .ok (.iaload, 1) := by decide +kernel
theorem dL_law_1075 : decode cL_law 1075 = .ok (.invokevirtual 149, 3) := by decide +kernel
theorem dL_law_1078 : decode cL_law 1078 = .ok (.aload_n 2, 1) := by decide +kernel
theorem dL_law_1079 : decode cL_law 1079 = .ok (.aload_n 0, 1) := by decide +kernel
theorem dL_law_1080 : decode cL_law 1080 = .ok (.iload_n 3, 1) := by decide +kernel
theorem dL_law_1081 : decode cL_law 1081 = .ok (.iconst 1, 1) := by decide +kernel
theorem dL_law_1082 : decode cL_law 1082 = .ok (.iadd, 1) := by decide +kernel
theorem dL_law_1083 : decode cL_law 1083 = .ok (.iaload, 1) := by decide +kernel
theorem dL_law_1084 : decode cL_law 1084 = .ok (.aload_n 0, 1) := by decide +kernel
theorem dL_law_1085 : decode cL_law 1085 = .ok (.iload_n 3, 1) := by decide +kernel
theorem dL_law_1086 : decode cL_law 1086 = .ok (.iconst 2, 1) := by decide +kernel
theorem dL_law_1087 : decode cL_law 1087 = .ok (.iadd, 1) := by decide +kernel
theorem dL_law_1088 : decode cL_law 1088 = .ok (.iaload, 1) := by decide +kernel
theorem dL_law_1089 : decode cL_law 1089 = .ok (.aload_n 0, 1) := by decide +kernel
theorem dL_law_1090 : decode cL_law 1090 = .ok (.iload_n 3, 1) := by decide +kernel
theorem dL_law_1091 : decode cL_law 1091 = .ok (.iconst 3, 1) := by decide +kernel
theorem dL_law_1092 : decode cL_law 1092 = .ok (.iadd, 1) := by decide +kernel
theorem dL_law_1093 : decode cL_law 1093 = .ok (.iaload, 1) := by decide +kernel
theorem dL_law_1094 : decode cL_law 1094 = .ok (.invokevirtual 152, 3) := by decide +kernel
theorem dL_law_1097 : decode cL_law 1097 = .ok (.if_icmp .eq 242, 3) := by decide +kernel
theorem dL_law_1100 : decode cL_law 1100 = .ok (.iconst 0, 1) := by decide +kernel
theorem dL_law_1101 : decode cL_law 1101 = .ok (.ireturn, 1) := by decide +kernel
theorem dL_law_1102 : decode cL_law 1102 = .ok (.aload_n 1, 1) := by decide +kernel
theorem dL_law_1103 : decode cL_law 1103 = .ok (.aload_n 0, 1) := by decide +kernel
theorem dL_law_1104 : decode cL_law 1104 = .ok (.iload_n 3, 1) := by decide +kernel
theorem dL_law_1105 : decode cL_law 1105 = .ok (.iconst 1, 1) := by decide +kernel
theorem dL_law_1106 : decode cL_law 1106 = .ok (.iadd, 1) := by decide +kernel
theorem dL_law_1107 : decode cL_law 1107 = .ok (.iaload, 1) := by decide +kernel
theorem dL_law_1108 : decode cL_law 1108 = .ok (.aload_n 0, 1) := by decide +kernel
theorem dL_law_1109 : decode cL_law 1109 = .ok (.iload_n 3, 1) := by decide +kernel
theorem dL_law_1110 : decode cL_law 1110 = .ok (.iconst 2, 1) := by decide +kernel
theorem dL_law_1111 : decode cL_law 1111 = .ok (.iadd, 1) := by decide +kernel
theorem dL_law_1112 : decode cL_law 1112 = .ok (.iaload, 1) := by decide +kernel
theorem dL_law_1113 : decode cL_law 1113 = .ok (.aload_n 0, 1) := by decide +kernel
theorem dL_law_1114 : decode cL_law 1114 = .ok (.iload_n 3, 1) := by decide +kernel
theorem dL_law_1115 : decode cL_law 1115 = .ok (.iconst 3, 1) := by decide +kernel
theorem dL_law_1116 : decode cL_law 1116 = .ok (.iadd, 1) := by decide +kernel
theorem dL_law_1117 : decode cL_law 1117 = .ok (.iaload, 1) := by decide +kernel
theorem dL_law_1118 : decode cL_law 1118 = .ok (.invokevirtual 153, 3) := by decide +kernel
theorem dL_law_1121 : decode cL_law 1121 = .ok (.aload_n 2, 1) := by decide +kernel
theorem dL_law_1122 : decode cL_law 1122 = .ok (.aload_n 0, 1) := by decide +kernel
theorem dL_law_1123 : decode cL_law 1123 = .ok (.iload_n 3, 1) := by decide +kernel
theorem dL_law_1124 : decode cL_law 1124 = .ok (.iconst 1, 1) := by decide +kernel
theorem dL_law_1125 : decode cL_law 1125 = .ok (.iadd, 1) := by decide +kernel
theorem dL_law_1126 : decode cL_law 1126 = .ok (.iaload, 1) := by decide +kernel
theorem dL_law_1127 : decode cL_law 1127 = .ok (.aload_n 0, 1) := by decide +kernel
theorem dL_law_1128 : decode cL_law 1128 = .ok (.iload_n 3, 1) := by decide +kernel
theorem dL_law_1129 : decode cL_law 1129 = .ok (.iconst 2, 1) := by decide +kernel
theorem dL_law_1130 : decode cL_law 1130 = .ok (.iadd, 1) := by decide +kernel
theorem dL_law_1131 : decode cL_law 1131 = .ok (.iaload, 1) := by decide +kernel
theorem dL_law_1132 : decode cL_law 1132 = .ok (.aload_n 0, 1) := by decide +kernel
theorem dL_law_1133 : decode cL_law 1133 = .ok (.iload_n 3, 1) := by decide +kernel
theorem dL_law_1134 : decode cL_law 1134 = .ok (.iconst 3, 1) := by decide +kernel
theorem dL_law_1135 : decode cL_law 1135 = .ok (.iadd, 1) := by decide +kernel
theorem dL_law_1136 : decode cL_law 1136 = .ok (.iaload, 1) := by decide +kernel
theorem dL_law_1137 : decode cL_law 1137 = .ok (.invokevirtual 156, 3) := by decide +kernel
theorem dL_law_1140 : decode cL_law 1140 = .ok (.if_icmp .eq 199, 3) := by decide +kernel
theorem dL_law_1143 : decode cL_law 1143 = .ok (.iconst 0, 1) := by decide +kernel
theorem dL_law_1144 : decode cL_law 1144 = .ok (.ireturn, 1) := by decide +kernel
theorem dL_law_1145 : decode cL_law 1145 = .ok (.aload_n 1, 1) := by decide +kernel
theorem dL_law_1146 : decode cL_law 1146 = .ok (.aload_n 0, 1) := by decide +kernel
theorem dL_law_1147 : decode cL_law 1147 = .ok (.iload_n 3, 1) := by decide +kernel
theorem dL_law_1148 : decode cL_law 1148 = .ok (.iconst 1, 1) := by decide +kernel
theorem dL_law_1149 : decode cL_law 1149 = .ok (.iadd, 1) := by decide +kernel
theorem dL_law_1150 : decode cL_law 1150 = .ok (.iaload, 1) := by decide +kernel
theorem dL_law_1151 : decode cL_law 1151 = .ok (.aload_n 0, 1) := by decide +kernel
theorem dL_law_1152 : decode cL_law 1152 = .ok (.iload_n 3, 1) := by decide +kernel
theorem dL_law_1153 : decode cL_law 1153 = .ok (.iconst 2, 1) := by decide +kernel
theorem dL_law_1154 : decode cL_law 1154 = .ok (.iadd, 1) := by decide +kernel
theorem dL_law_1155 : decode cL_law 1155 = .ok (.iaload, 1) := by decide +kernel
theorem dL_law_1156 : decode cL_law 1156 = .ok (.aload_n 0, 1) := by decide +kernel
theorem dL_law_1157 : decode cL_law 1157 = .ok (.iload_n 3, 1) := by decide +kernel
theorem dL_law_1158 : decode cL_law 1158 = .ok (.iconst 3, 1) := by decide +kernel
theorem dL_law_1159 : decode cL_law 1159 = .ok (.iadd, 1) := by decide +kernel
theorem dL_law_1160 : decode cL_law 1160 = .ok (.iaload, 1) := by decide +kernel
theorem dL_law_1161 : decode cL_law 1161 = .ok (.aload_n 0, 1) := by decide +kernel
theorem dL_law_1162 : decode cL_law 1162 = .ok (.iload_n 3, 1) := by decide +kernel
theorem dL_law_1163 : decode cL_law 1163 = .ok (.iconst 4, 1) := by decide +kernel
theorem dL_law_1164 : decode cL_law 1164 = .ok (.iadd, 1) := by decide +kernel
theorem dL_law_1165 : decode cL_law 1165 = .ok (.iaload, 1) := by decide +kernel
theorem dL_law_1166 : decode cL_law 1166 = .ok (.aload_n 0, 1) := by decide +kernel
theorem dL_law_1167 : decode cL_law 1167 = .ok (.iload_n 3, 1) := by decide +kernel
theorem dL_law_1168 : decode cL_law 1168 = .ok (.iconst 5, 1) := by decide +kernel
theorem dL_law_1169 : decode cL_law 1169 = .ok (.iadd, 1) := by decide +kernel
theorem dL_law_1170 : decode cL_law 1170 = .ok (.iaload, 1) := by decide +kernel
theorem dL_law_1171 : decode cL_law 1171 = .ok (.invokevirtual 157, 3) := by decide +kernel
theorem dL_law_1174 : decode cL_law 1174 = .ok (.aload_n 2, 1) := by decide +kernel
theorem dL_law_1175 : decode cL_law 1175 = .ok (.aload_n 0, 1) := by decide +kernel
theorem dL_law_1176 : decode cL_law 1176 = .ok (.iload_n 3, 1) := by decide +kernel
theorem dL_law_1177 : decode cL_law 1177 = .ok (.iconst 1, 1) := by decide +kernel
theorem dL_law_1178 : decode cL_law 1178 = .ok (.iadd, 1) := by decide +kernel
theorem dL_law_1179 : decode cL_law 1179 = .ok (.iaload, 1) := by decide +kernel
theorem dL_law_1180 : decode cL_law 1180 = .ok (.aload_n 0, 1) := by decide +kernel
theorem dL_law_1181 : decode cL_law 1181 = .ok (.iload_n 3, 1) := by decide +kernel
theorem dL_law_1182 : decode cL_law 1182 = .ok (.iconst 2, 1) := by decide +kernel
theorem dL_law_1183 : decode cL_law 1183 = .ok (.iadd, 1) := by decide +kernel
theorem dL_law_1184 : decode cL_law 1184 = .ok (.iaload, 1) := by decide +kernel
theorem dL_law_1185 : decode cL_law 1185 = .ok (.aload_n 0, 1) := by decide +kernel
theorem dL_law_1186 : decode cL_law 1186 = .ok (.iload_n 3, 1) := by decide +kernel
theorem dL_law_1187 : decode cL_law 1187 = .ok (.iconst 3, 1) := by decide +kernel
theorem dL_law_1188 : decode cL_law 1188 = .ok (.iadd, 1) := by decide +kernel
theorem dL_law_1189 : decode cL_law 1189 = .ok (.iaload, 1) := by decide +kernel
theorem dL_law_1190 : decode cL_law 1190 = .ok (.aload_n 0, 1) := by decide +kernel
theorem dL_law_1191 : decode cL_law 1191 = .ok (.iload_n 3, 1) := by decide +kernel
theorem dL_law_1192 : decode cL_law 1192 = .ok (.iconst 4, 1) := by decide +kernel
theorem dL_law_1193 : decode cL_law 1193 = .ok (.iadd, 1) := by decide +kernel
theorem dL_law_1194 : decode cL_law 1194 = .ok (.iaload, 1) := by decide +kernel
theorem dL_law_1195 : decode cL_law 1195 = .ok (.aload_n 0, 1) := by decide +kernel
theorem dL_law_1196 : decode cL_law 1196 = .ok (.iload_n 3, 1) := by decide +kernel
theorem dL_law_1197 : decode cL_law 1197 = .ok (.iconst 5, 1) := by decide +kernel
theorem dL_law_1198 : decode cL_law 1198 = .ok (.iadd, 1) := by decide +kernel
theorem dL_law_1199 : decode cL_law 1199 = .ok (.iaload, 1) := by decide +kernel
theorem dL_law_1200 : decode cL_law 1200 = .ok (.invokevirtual 161, 3) := by decide +kernel
theorem dL_law_1203 : decode cL_law 1203 = .ok (.if_icmp .eq 136, 3) := by decide +kernel
theorem dL_law_1206 : decode cL_law 1206 = .ok (.iconst 0, 1) := by decide +kernel
theorem dL_law_1207 : decode cL_law 1207 = .ok (.ireturn, 1) := by decide +kernel
theorem dL_law_1208 : decode cL_law 1208 = .ok (.aload_n 1, 1) := by decide +kernel
theorem dL_law_1209 : decode cL_law 1209 = .ok (.aload_n 0, 1) := by decide +kernel
theorem dL_law_1210 : decode cL_law 1210 = .ok (.iload_n 3, 1) := by decide +kernel
theorem dL_law_1211 : decode cL_law 1211 = .ok (.iconst 1, 1) := by decide +kernel
theorem dL_law_1212 : decode cL_law 1212 = .ok (.iadd, 1) := by decide +kernel
theorem dL_law_1213 : decode cL_law 1213 = .ok (.iaload, 1) := by decide +kernel
theorem dL_law_1214 : decode cL_law 1214 = .ok (.invokevirtual 162, 3) := by decide +kernel
theorem dL_law_1217 : decode cL_law 1217 = .ok (.aload_n 2, 1) := by decide +kernel
theorem dL_law_1218 : decode cL_law 1218 = .ok (.aload_n 0, 1) := by decide +kernel
theorem dL_law_1219 : decode cL_law 1219 = .ok (.iload_n 3, 1) := by decide +kernel
theorem dL_law_1220 : decode cL_law 1220 = .ok (.iconst 1, 1) := by decide +kernel
theorem dL_law_1221 : decode cL_law 1221 = .ok (.iadd, 1) := by decide +kernel
theorem dL_law_1222 : decode cL_law 1222 = .ok (.iaload, 1) := by decide +kernel
theorem dL_law_1223 : decode cL_law 1223 = .ok (.invokevirtual 165, 3) := by decide +kernel
theorem dL_law_1226 : decode cL_law 1226 = .ok (.if_icmp .eq 113, 3) := by decide +kernel
theorem dL_law_1229 : decode cL_law 1229 = .ok (.iconst 0, 1) := by decide +kernel
theorem dL_law_1230 : decode cL_law 1230 = .ok (.ireturn, 1) := by decide +kernel
theorem dL_law_1231 : decode cL_law 1231 = .ok (.aload_n 1, 1) := by decide +kernel
theorem dL_law_1232 : decode cL_law 1232 = .ok (.aload_n 0, 1) := by decide +kernel
theorem dL_law_1233 : decode cL_law 1233 = .ok (.iload_n 3, 1) := by decide +kernel
theorem dL_law_1234 : decode cL_law 1234 = .ok (.iconst 1, 1) := by decide +kernel
theorem dL_law_1235 : decode cL_law 1235 = .ok (.iadd, 1) := by decide +kernel
theorem dL_law_1236 : decode cL_law 1236 = .ok (.iaload, 1) := by decide +kernel
theorem dL_law_1237 : decode cL_law 1237 = .ok (.invokevirtual 166, 3) := by decide +kernel
theorem dL_law_1240 : decode cL_law 1240 = .ok (.aload_n 2, 1) := by decide +kernel
theorem dL_law_1241 : decode cL_law 1241 = .ok (.aload_n 0, 1) := by decide +kernel
theorem dL_law_1242 : decode cL_law 1242 = .ok (.iload_n 3, 1) := by decide +kernel
theorem dL_law_1243 : decode cL_law 1243 = .ok (.iconst 1, 1) := by decide +kernel
theorem dL_law_1244 : decode cL_law 1244 = .ok (.iadd, 1) := by decide +kernel
theorem dL_law_1245 : decode cL_law 1245 = .ok (.iaload, 1) := by decide +kernel
theorem dL_law_1246 : decode cL_law 1246 = .ok (.invokevirtual 169, 3) := by decide +kernel
theorem dL_law_1249 : decode cL_law 1249 = .ok (.if_icmp .eq 90, 3) := by decide +kernel
theorem dL_law_1252 : decode cL_law 1252 = .ok (.iconst 0, 1) := by decide +kernel
theorem dL_law_1253 : decode cL_law 1253 = .ok (.ireturn, 1) := by decide +kernel
theorem dL_law_1254 : decode cL_law 1254 = .ok (.aload_n 1, 1) := by decide +kernel
theorem dL_law_1255 : decode cL_law 1255 = .ok (.invokevirtual 170, 3) := by decide +kernel
theorem dL_law_1258 : decode cL_law 1258 = .ok (.aload_n 2, 1) := by decide +kernel
theorem dL_law_1259 : decode cL_law 1259 = .ok (.invokevirtual 173, 3) := by decide +kernel
theorem dL_law_1262 : decode cL_law 1262 = .ok (.if_icmp .eq 77, 3) := by decide +kernel
theorem dL_law_1265 : decode cL_law 1265 = .ok (.iconst 0, 1) := by decide +kernel
theorem dL_law_1266 : decode cL_law 1266 = .ok (.ireturn, 1) := by decide +kernel
theorem dL_law_1267 : decode cL_law 1267 = .ok (.aload_n 1, 1) := by decide +kernel
theorem dL_law_1268 : decode cL_law 1268 = .ok (.invokevirtual 174, 3) := by decide +kernel
theorem dL_law_1271 : decode cL_law 1271 = .ok (.aload_n 2, 1) := by decide +kernel
theorem dL_law_1272 : decode cL_law 1272 = .ok (.invokevirtual 177, 3) := by decide +kernel
theorem dL_law_1275 : decode cL_law 1275 = .ok (.if_icmp .eq 64, 3) := by decide +kernel
theorem dL_law_1278 : decode cL_law 1278 = .ok (.iconst 0, 1) := by decide +kernel
theorem dL_law_1279 : decode cL_law 1279 = .ok (.ireturn, 1) := by decide +kernel
theorem dL_law_1280 : decode cL_law 1280 = .ok (.aload_n 1, 1) := by decide +kernel
theorem dL_law_1281 : decode cL_law 1281 = .ok (.invokevirtual 178, 3) := by decide +kernel
theorem dL_law_1284 : decode cL_law 1284 = .ok (.aload_n 2, 1) := by decide +kernel
theorem dL_law_1285 : decode cL_law 1285 = .ok (.invokevirtual 181, 3) := by decide +kernel
theorem dL_law_1288 : decode cL_law 1288 = .ok (.if_icmp .eq 51, 3) := by decide +kernel
theorem dL_law_1291 : decode cL_law 1291 = .ok (.iconst 0, 1) := by decide +kernel
theorem dL_law_1292 : decode cL_law 1292 = .ok (.ireturn, 1) := by decide +kernel
theorem dL_law_1293 : decode cL_law 1293 = .ok (.aload_n 1, 1) := by decide +kernel
theorem dL_law_1294 : decode cL_law 1294 = .ok (.aload_n 0, 1) := by decide +kernel
theorem dL_law_1295 : decode cL_law 1295 = .ok (.iload_n 3, 1) := by decide +kernel
theorem dL_law_1296 : decode cL_law 1296 = .ok (.iconst 1, 1) := by decide +kernel
theorem dL_law_1297 : decode cL_law 1297 = .ok (.iadd, 1) := by decide +kernel
theorem dL_law_1298 : decode cL_law 1298 = .ok (.iaload, 1) := by decide +kernel
theorem dL_law_1299 : decode cL_law 1299 = .ok (.invokevirtual 182, 3) := by decide +kernel
theorem dL_law_1302 : decode cL_law 1302 = .ok (.aload_n 2, 1) := by decide +kernel
theorem dL_law_1303 : decode cL_law 1303 = .ok (.aload_n 0, 1) := by decide +kernel
theorem dL_law_1304 : decode cL_law 1304 = .ok (.iload_n 3, 1) := by decide +kernel
theorem dL_law_1305 : decode cL_law 1305 = .ok (.iconst 1, 1) := by decide +kernel
theorem dL_law_1306 : decode cL_law 1306 = .ok (.iadd, 1) := by decide +kernel
theorem dL_law_1307 : decode cL_law 1307 = .ok (.iaload, 1) := by decide +kernel
theorem dL_law_1308 : decode cL_law 1308 = .ok (.invokevirtual 185, 3) := by decide +kernel
theorem dL_law_1311 : decode cL_law 1311 = .ok (.if_icmp .eq 28, 3) := by decide +kernel
theorem dL_law_1314 : decode cL_law 1314 = .ok (.iconst 0, 1) := by decide +kernel
theorem dL_law_1315 : decode cL_law 1315 = .ok (.ireturn, 1) := by decide +kernel
theorem dL_law_1316 : decode cL_law 1316 = .ok (.aload_n 1, 1) := by decide +kernel
theorem dL_law_1317 : decode cL_law 1317 = .ok (.aload_n 0, 1) := by decide +kernel
theorem dL_law_1318 : decode cL_law 1318 = .ok (.iload_n 3, 1) := by decide +kernel
theorem dL_law_1319 : decode cL_law 1319 = .ok (.iconst 1, 1) := by decide +kernel
theorem dL_law_1320 : decode cL_law 1320 = .ok (.iadd, 1) := by decide +kernel
theorem dL_law_1321 : decode cL_law 1321 = .ok (.iaload, 1) := by decide +kernel
theorem dL_law_1322 : decode cL_law 1322 = .ok (.invokevirtual 186, 3) := by decide +kernel
theorem dL_law_1325 : decode cL_law 1325 = .ok (.aload_n 2, 1) := by decide +kernel
theorem dL_law_1326 : decode cL_law 1326 = .ok (.aload_n 0, 1) := by decide +kernel
theorem dL_law_1327 : decode cL_law 1327 = .ok (.iload_n 3, 1) := by decide +kernel
theorem dL_law_1328 : decode cL_law 1328 = .ok (.iconst 1, 1) := by decide +kernel
theorem dL_law_1329 : decode cL_law 1329 = .ok (.iadd, 1) := by decide +kernel
theorem dL_law_1330 : decode cL_law 1330 = .ok (.iaload, 1) := by decide +kernel
theorem dL_law_1331 : decode cL_law 1331 = .ok (.invokevirtual 189, 3) := by decide +kernel
theorem dL_law_1334 : decode cL_law 1334 = .ok (.if_icmp .eq 5, 3) := by decide +kernel
theorem dL_law_1337 : decode cL_law 1337 = .ok (.iconst 0, 1) := by decide +kernel
theorem dL_law_1338 : decode cL_law 1338 = .ok (.ireturn, 1) := by decide +kernel
theorem dL_law_1339 : decode cL_law 1339 = .ok (.iinc 3 6, 3) := by decide +kernel
theorem dL_law_1342 : decode cL_law 1342 = .ok (.goto (-1324), 3) := by decide +kernel
theorem dL_law_1345 : decode cL_law 1345 = .ok (.iconst 1, 1) := by decide +kernel
theorem dL_law_1346 : decode cL_law 1346 = .ok (.ireturn, 1) := by decide +kernel
end
section
theorem q0 : Cond.selects "TrustTin" yX6_tell yX6_tell ∈ tt_T := tt_m 0 (by decide +kernel) (by decide +kernel)
theorem q1 : Cond.selects "TrustTin" yX6_isDrinker yX6_isDrinker ∈ tt_T := tt_m 1 (by decide +kernel) (by decide +kernel)
theorem q2 : Cond.selects "TrustTin" yX6_changePrice yX6_changePrice ∈ tt_T := tt_m 2 (by decide +kernel) (by decide +kernel)
theorem q3 : Cond.selects "TrustTin" yX6_changePot yX6_changePot ∈ tt_T := tt_m 3 (by decide +kernel) (by decide +kernel)
theorem q4 : Cond.selects "TrustTin" yX6_changeSign yX6_changeSign ∈ tt_T := tt_m 4 (by decide +kernel) (by decide +kernel)
theorem q5 : Cond.selects "TrustTin" yX6_isTooLate yX6_isTooLate ∈ tt_T := tt_m 5 (by decide +kernel) (by decide +kernel)
theorem q6 : Cond.selects "TrustTin$Room" yX2_goDay yX2_goDay ∈ tt_T := tt_m 6 (by decide +kernel) (by decide +kernel)
theorem q7 : Cond.selects "TrustTin$Room" yX2_serve yX2_serve ∈ tt_T := tt_m 7 (by decide +kernel) (by decide +kernel)
theorem q8 : Cond.selects "TrustTin$Room" yX2_isPotMade yX2_isPotMade ∈ tt_T := tt_m 8 (by decide +kernel) (by decide +kernel)
theorem q9 : Cond.selects "TrustTin$Room" yX2_payCup yX2_payCup ∈ tt_T := tt_m 9 (by decide +kernel) (by decide +kernel)
theorem q10 : Cond.selects "TrustTin$Room" yX2_isForgotten yX2_isForgotten ∈ tt_T := tt_m 10 (by decide +kernel) (by decide +kernel)
theorem q11 : Cond.selects "TrustTin$Room" yX2_pay yX2_pay ∈ tt_T := tt_m 11 (by decide +kernel) (by decide +kernel)
theorem q12 : Cond.selects "TrustTin$Room" yX2_endWeek yX2_endWeek ∈ tt_T := tt_m 12 (by decide +kernel) (by decide +kernel)
theorem q13 : Cond.selects "TrustTin$Room" yX2_beginWeek yX2_beginWeek ∈ tt_T := tt_m 13 (by decide +kernel) (by decide +kernel)
theorem q14 : Cond.selects "TrustTin" yX6_lastBehindWeeks yX6_lastBehindWeeks ∈ tt_T := tt_m 14 (by decide +kernel) (by decide +kernel)
theorem q15 : Cond.selects "TrustTin" yX6_coinsByWay yX6_coinsByWay ∈ tt_T := tt_m 15 (by decide +kernel) (by decide +kernel)
theorem q16 : Cond.selects "TrustTin$TextReader" yX5_advance yX5_advance ∈ tt_T := tt_m 16 (by decide +kernel) (by decide +kernel)
theorem q17 : Cond.selects "TrustTin$TextReader" yX5_byteAt yX5_byteAt ∈ tt_T := tt_m 17 (by decide +kernel) (by decide +kernel)
theorem q18 : Cond.selects "TrustTin$TextReader" yX5_passLetters yX5_passLetters ∈ tt_T := tt_m 18 (by decide +kernel) (by decide +kernel)
theorem q19 : Cond.selects "TrustTin$TextReader" yX5_passDigits yX5_passDigits ∈ tt_T := tt_m 19 (by decide +kernel) (by decide +kernel)
theorem q20 : Cond.selects "TrustTin$TextReader" yX5_readItem yX5_readItem ∈ tt_T := tt_m 20 (by decide +kernel) (by decide +kernel)
theorem q21 : Cond.selects "TrustTin$TextReader" yX5_kindOfWord yX5_kindOfWord ∈ tt_T := tt_m 21 (by decide +kernel) (by decide +kernel)
theorem q22 : Cond.selects "TrustTin$TextReader" yX5_isWord yX5_isWord ∈ tt_T := tt_m 22 (by decide +kernel) (by decide +kernel)
theorem q23 : Cond.selects "TrustTin$TextReader" yX5_readDrinker yX5_readDrinker ∈ tt_T := tt_m 23 (by decide +kernel) (by decide +kernel)
theorem q24 : Cond.selects "TrustTin$TextReader" yX5_takeNumber yX5_takeNumber ∈ tt_T := tt_m 24 (by decide +kernel) (by decide +kernel)
theorem q25 : Cond.selects "TrustTin$TextReader" yX5_takeWord yX5_takeWord ∈ tt_T := tt_m 25 (by decide +kernel) (by decide +kernel)
theorem q26 : Cond.selects "TrustTin$TextReader" yX5_readPrice yX5_readPrice ∈ tt_T := tt_m 26 (by decide +kernel) (by decide +kernel)
theorem q27 : Cond.selects "TrustTin$TextReader" yX5_readPot yX5_readPot ∈ tt_T := tt_m 27 (by decide +kernel) (by decide +kernel)
theorem q28 : Cond.selects "TrustTin$TextReader" yX5_readSign yX5_readSign ∈ tt_T := tt_m 28 (by decide +kernel) (by decide +kernel)
theorem q29 : Cond.selects "TrustTinModel" yX7_finds yX7_finds ∈ tt_T := tt_m 29 (by decide +kernel) (by decide +kernel)
theorem q30 : Cond.selects "TrustTinModel" yX7_comes yX7_comes ∈ tt_T := tt_m 30 (by decide +kernel) (by decide +kernel)
theorem q31 : Cond.selects "TrustTinModel" yX7_becomes yX7_becomes ∈ tt_T := tt_m 31 (by decide +kernel) (by decide +kernel)
theorem q32 : Cond.selects "TrustTinModel" yX7_isDrinker yX7_isDrinker ∈ tt_T := tt_m 32 (by decide +kernel) (by decide +kernel)
theorem q33 : Cond.selects "TrustTinModel" yX7_its yX7_its ∈ tt_T := tt_m 33 (by decide +kernel) (by decide +kernel)
theorem q34 : Cond.selects "TrustTinModel" yX7_sumOf yX7_sumOf ∈ tt_T := tt_m 34 (by decide +kernel) (by decide +kernel)
theorem q35 : Cond.selects "TrustTinModel" yX7_isFar yX7_isFar ∈ tt_T := tt_m 35 (by decide +kernel) (by decide +kernel)
theorem q36 : Cond.selects "TrustTinModel" yX7_goesOn yX7_goesOn ∈ tt_T := tt_m 36 (by decide +kernel) (by decide +kernel)
theorem q37 : Cond.selects "TrustTinModel" yX7_goesBy yX7_goesBy ∈ tt_T := tt_m 37 (by decide +kernel) (by decide +kernel)
theorem q38 : Cond.selects "TrustTinModel" yX7_drinks yX7_drinks ∈ tt_T := tt_m 38 (by decide +kernel) (by decide +kernel)
theorem q39 : Cond.selects "TrustTinModel" yX7_hasCup yX7_hasCup ∈ tt_T := tt_m 39 (by decide +kernel) (by decide +kernel)
theorem q40 : Cond.selects "TrustTinModel" yX7_drawn yX7_drawn ∈ tt_T := tt_m 40 (by decide +kernel) (by decide +kernel)
theorem q41 : Cond.selects "TrustTinModel" yX7_paysFor yX7_paysFor ∈ tt_T := tt_m 41 (by decide +kernel) (by decide +kernel)
theorem q42 : Cond.selects "TrustTinModel" yX7_forgets yX7_forgets ∈ tt_T := tt_m 42 (by decide +kernel) (by decide +kernel)
theorem q43 : Cond.selects "TrustTinModel" yX7_pays yX7_pays ∈ tt_T := tt_m 43 (by decide +kernel) (by decide +kernel)
theorem q44 : Cond.selects "TrustTinModel" yX7_settles yX7_settles ∈ tt_T := tt_m 44 (by decide +kernel) (by decide +kernel)
theorem q45 : Cond.selects "TrustTinModel" yX7_findSets yX7_findSets ∈ tt_T := tt_m 45 (by decide +kernel) (by decide +kernel)
theorem q46 : Cond.selects "TrustTinModel" yX7_isSum yX7_isSum ∈ tt_T := tt_m 46 (by decide +kernel) (by decide +kernel)
theorem q47 : Cond.selects "TrustTinModel" yX7_why yX7_why ∈ tt_T := tt_m 47 (by decide +kernel) (by decide +kernel)
theorem q48 : Cond.selects "TrustTinModel" yX7_begins yX7_begins ∈ tt_T := tt_m 48 (by decide +kernel) (by decide +kernel)
theorem q49 : Cond.selects "TrustTinModel" yX7_ends yX7_ends ∈ tt_T := tt_m 49 (by decide +kernel) (by decide +kernel)
theorem q50 : Cond.selects "TrustTinModel" yX7_monday yX7_monday ∈ tt_T := tt_m 50 (by decide +kernel) (by decide +kernel)
theorem q51 : Cond.selects "TrustTinModel" yX7_bestOf yX7_bestOf ∈ tt_T := tt_m 51 (by decide +kernel) (by decide +kernel)
theorem q52 : Cond.selects "TrustTinModel" yX7_comesWith yX7_comesWith ∈ tt_T := tt_m 52 (by decide +kernel) (by decide +kernel)
theorem q53 : Cond.selects "TrustTinModel" yX7_drinking yX7_drinking ∈ tt_T := tt_m 53 (by decide +kernel) (by decide +kernel)
theorem q54 : Cond.selects "TrustTinModel" yX7_items yX7_items ∈ tt_T := tt_m 54 (by decide +kernel) (by decide +kernel)
theorem q55 : Cond.selects "TrustTinModel" yX7_next yX7_next ∈ tt_T := tt_m 55 (by decide +kernel) (by decide +kernel)
theorem q56 : Cond.selects "TrustTinModel" yX7_byteAt yX7_byteAt ∈ tt_T := tt_m 56 (by decide +kernel) (by decide +kernel)
theorem q57 : Cond.selects "TrustTinModel" yX7_item yX7_item ∈ tt_T := tt_m 57 (by decide +kernel) (by decide +kernel)
theorem q58 : Cond.selects "TrustTinModel" yX7_kindHere yX7_kindHere ∈ tt_T := tt_m 58 (by decide +kernel) (by decide +kernel)
theorem q59 : Cond.selects "TrustTinModel" yX7_isWord yX7_isWord ∈ tt_T := tt_m 59 (by decide +kernel) (by decide +kernel)
theorem q60 : Cond.selects "TrustTinModel" yX7_drinkerHere yX7_drinkerHere ∈ tt_T := tt_m 60 (by decide +kernel) (by decide +kernel)
theorem q61 : Cond.selects "TrustTinModel" yX7_wrongHere yX7_wrongHere ∈ tt_T := tt_m 61 (by decide +kernel) (by decide +kernel)
theorem q62 : Cond.selects "TrustTinModel" yX7_number yX7_number ∈ tt_T := tt_m 62 (by decide +kernel) (by decide +kernel)
theorem q63 : Cond.selects "TrustTinModel" yX7_signHere yX7_signHere ∈ tt_T := tt_m 63 (by decide +kernel) (by decide +kernel)
theorem q64 : Cond.selects "TrustTinModel" yX7_whyNot yX7_whyNot ∈ tt_T := tt_m 64 (by decide +kernel) (by decide +kernel)
theorem q65 : Cond.selects "TrustTinModel" yX7_held yX7_held ∈ tt_T := tt_m 65 (by decide +kernel) (by decide +kernel)
theorem q66 : Cond.initialized "TrustTinLaw" ∈ tt_T := tt_m 66 (by decide +kernel) (by decide +kernel)
theorem q67 : Cond.initialized "TrustTin" ∈ tt_T := tt_m 67 (by decide +kernel) (by decide +kernel)
theorem q68 : Cond.initialized "TrustTin$Room" ∈ tt_T := tt_m 68 (by decide +kernel) (by decide +kernel)
theorem q69 : Cond.initialized "TrustTin$Books" ∈ tt_T := tt_m 69 (by decide +kernel) (by decide +kernel)
theorem q70 : Cond.initialized "TrustTin$Drinker" ∈ tt_T := tt_m 70 (by decide +kernel) (by decide +kernel)
theorem q71 : Cond.initialized "TrustTin$Tape" ∈ tt_T := tt_m 71 (by decide +kernel) (by decide +kernel)
theorem q72 : Cond.initialized "TrustTin$TextReader" ∈ tt_T := tt_m 72 (by decide +kernel) (by decide +kernel)
theorem q73 : Cond.initialized "TrustTin$Sheet" ∈ tt_T := tt_m 73 (by decide +kernel) (by decide +kernel)
theorem q74 : Cond.initialized "TrustTinModel" ∈ tt_T := tt_m 74 (by decide +kernel) (by decide +kernel)
theorem q75 : Cond.initialized "java/lang/Math" ∈ tt_T := tt_m 75 (by decide +kernel) (by decide +kernel)
theorem q76 : Cond.initialized "java/lang/System" ∈ tt_T := tt_m 76 (by decide +kernel) (by decide +kernel)
theorem q77 : Cond.initialized "java/lang/Integer" ∈ tt_T := tt_m 77 (by decide +kernel) (by decide +kernel)
theorem q78 : Cond.initialized "java/lang/String" ∈ tt_T := tt_m 78 (by decide +kernel) (by decide +kernel)
theorem q79 : Cond.initialized "java/lang/StringLatin1" ∈ tt_T := tt_m 79 (by decide +kernel) (by decide +kernel)
theorem q80 : Cond.initialized "jdk/internal/util/Preconditions" ∈ tt_T := tt_m 80 (by decide +kernel) (by decide +kernel)
theorem q81 : Cond.initialized "java/lang/StringUTF16" ∈ tt_T := tt_m 81 (by decide +kernel) (by decide +kernel)
theorem q82 : Cond.classLink "TrustTinLaw" 7 "TrustTin" ∈ tt_T := tt_m 82 (by decide +kernel) (by decide +kernel)
theorem q83 : Cond.instantiable "TrustTin" 8 ∈ tt_T := tt_m 83 (by decide +kernel) (by decide +kernel)
theorem q84 : Cond.methodLink "TrustTinLaw" 9 yX6_init ∈ tt_T := tt_m 84 (by decide +kernel) (by decide +kernel)
theorem q85 : Cond.instanceMethod yX6_init ∈ tt_T := tt_m 85 (by decide +kernel) (by decide +kernel)
theorem q86 : Cond.code yX6_init cX6_init 2 none ∈ tt_T := tt_m 86 (by decide +kernel) (by decide +kernel)
theorem q87 : Cond.methodLink "TrustTin" 1 ⟨"java/lang/Object", "<init>", "()V"⟩ ∈ tt_T := tt_m 87 (by decide +kernel) (by decide +kernel)
theorem q88 : Cond.instanceMethod ⟨"java/lang/Object", "<init>", "()V"⟩ ∈ tt_T := tt_m 88 (by decide +kernel) (by decide +kernel)
theorem q89 : Cond.code ⟨"java/lang/Object", "<init>", "()V"⟩ object_method_1_code 1 none ∈ tt_T := tt_m 89 (by decide +kernel) (by decide +kernel)
theorem q90 : Cond.classLink "TrustTin" 7 "TrustTin$Room" ∈ tt_T := tt_m 90 (by decide +kernel) (by decide +kernel)
theorem q91 : Cond.instantiable "TrustTin$Room" 14 ∈ tt_T := tt_m 91 (by decide +kernel) (by decide +kernel)
theorem q92 : Cond.methodLink "TrustTin" 9 yX2_init ∈ tt_T := tt_m 92 (by decide +kernel) (by decide +kernel)
theorem q93 : Cond.instanceMethod yX2_init ∈ tt_T := tt_m 93 (by decide +kernel) (by decide +kernel)
theorem q94 : Cond.code yX2_init cX2_init 2 none ∈ tt_T := tt_m 94 (by decide +kernel) (by decide +kernel)
theorem q95 : Cond.methodLink "TrustTin$Room" 3 ⟨"java/lang/Object", "<init>", "()V"⟩ ∈ tt_T := tt_m 95 (by decide +kernel) (by decide +kernel)
theorem q96 : Cond.classLink "TrustTin$Room" 9 "TrustTin$Drinker" ∈ tt_T := tt_m 96 (by decide +kernel) (by decide +kernel)
theorem q98 : Cond.classLink "TrustTin$Room" 51 "TrustTin$Books" ∈ tt_T := tt_m 98 (by decide +kernel) (by decide +kernel)
theorem q99 : Cond.instantiable "TrustTin$Books" 3 ∈ tt_T := tt_m 99 (by decide +kernel) (by decide +kernel)
theorem q101 : Cond.instanceMethod yX0_init ∈ tt_T := tt_m 101 (by decide +kernel) (by decide +kernel)
theorem q102 : Cond.code yX0_init cX0_init 1 none ∈ tt_T := tt_m 102 (by decide +kernel) (by decide +kernel)
theorem q103 : Cond.methodLink "TrustTin$Books" 3 ⟨"java/lang/Object", "<init>", "()V"⟩ ∈ tt_T := tt_m 103 (by decide +kernel) (by decide +kernel)
theorem q104 : Cond.fieldLink "TrustTin$Books" 9 "TrustTin$Books" "cups" "[I" ∈ tt_T := tt_m 104 (by decide +kernel) (by decide +kernel)
theorem q105 : Cond.fieldLink "TrustTin" 143 "TrustTin$Books" "cups" "[I" ∈ tt_T := tt_m 105 (by decide +kernel) (by decide +kernel)
theorem q106 : Cond.fieldLink "TrustTin$Books" 15 "TrustTin$Books" "coins" "[I" ∈ tt_T := tt_m 106 (by decide +kernel) (by decide +kernel)
theorem q107 : Cond.fieldLink "TrustTin" 146 "TrustTin$Books" "coins" "[I" ∈ tt_T := tt_m 107 (by decide +kernel) (by decide +kernel)
theorem q108 : Cond.fieldLink "TrustTin$Books" 18 "TrustTin$Books" "size" "I" ∈ tt_T := tt_m 108 (by decide +kernel) (by decide +kernel)
theorem q109 : Cond.fieldLink "TrustTin" 140 "TrustTin$Books" "size" "I" ∈ tt_T := tt_m 109 (by decide +kernel) (by decide +kernel)
theorem q117 : Cond.arrayClass FieldType.int ∈ tt_T := tt_m 117 (by decide +kernel) (by decide +kernel)
theorem q118 : Cond.instantiable "TrustTin$Drinker" 7 ∈ tt_T := tt_m 118 (by decide +kernel) (by decide +kernel)
theorem q120 : Cond.instanceMethod yX1_init ∈ tt_T := tt_m 120 (by decide +kernel) (by decide +kernel)
theorem q121 : Cond.code yX1_init cX1_init 1 none ∈ tt_T := tt_m 121 (by decide +kernel) (by decide +kernel)
theorem q122 : Cond.methodLink "TrustTin$Drinker" 3 ⟨"java/lang/Object", "<init>", "()V"⟩ ∈ tt_T := tt_m 122 (by decide +kernel) (by decide +kernel)
theorem q123 : Cond.fieldLink "TrustTin$Drinker" 9 "TrustTin$Drinker" "kind" "I" ∈ tt_T := tt_m 123 (by decide +kernel) (by decide +kernel)
theorem q124 : Cond.fieldLink "TrustTin$Room" 130 "TrustTin$Drinker" "kind" "I" ∈ tt_T := tt_m 124 (by decide +kernel) (by decide +kernel)
theorem q125 : Cond.fieldLink "TrustTin" 186 "TrustTin$Drinker" "kind" "I" ∈ tt_T := tt_m 125 (by decide +kernel) (by decide +kernel)
theorem q126 : Cond.fieldLink "TrustTin$Drinker" 15 "TrustTin$Drinker" "cups" "I" ∈ tt_T := tt_m 126 (by decide +kernel) (by decide +kernel)
theorem q127 : Cond.fieldLink "TrustTin$Room" 119 "TrustTin$Drinker" "cups" "I" ∈ tt_T := tt_m 127 (by decide +kernel) (by decide +kernel)
theorem q128 : Cond.fieldLink "TrustTin$Drinker" 18 "TrustTin$Drinker" "purse" "I" ∈ tt_T := tt_m 128 (by decide +kernel) (by decide +kernel)
theorem q129 : Cond.fieldLink "TrustTin$TextReader" 80 "TrustTin$Drinker" "purse" "I" ∈ tt_T := tt_m 129 (by decide +kernel) (by decide +kernel)
theorem q130 : Cond.fieldLink "TrustTin$Room" 148 "TrustTin$Drinker" "purse" "I" ∈ tt_T := tt_m 130 (by decide +kernel) (by decide +kernel)
theorem q131 : Cond.fieldLink "TrustTin" 189 "TrustTin$Drinker" "purse" "I" ∈ tt_T := tt_m 131 (by decide +kernel) (by decide +kernel)
theorem q132 : Cond.fieldLink "TrustTin$Drinker" 21 "TrustTin$Drinker" "limit" "I" ∈ tt_T := tt_m 132 (by decide +kernel) (by decide +kernel)
theorem q133 : Cond.fieldLink "TrustTin$TextReader" 86 "TrustTin$Drinker" "limit" "I" ∈ tt_T := tt_m 133 (by decide +kernel) (by decide +kernel)
theorem q134 : Cond.fieldLink "TrustTin$Room" 110 "TrustTin$Drinker" "limit" "I" ∈ tt_T := tt_m 134 (by decide +kernel) (by decide +kernel)
theorem q135 : Cond.fieldLink "TrustTin$Drinker" 24 "TrustTin$Drinker" "debt" "I" ∈ tt_T := tt_m 135 (by decide +kernel) (by decide +kernel)
theorem q136 : Cond.fieldLink "TrustTin" 108 "TrustTin$Drinker" "debt" "I" ∈ tt_T := tt_m 136 (by decide +kernel) (by decide +kernel)
theorem q137 : Cond.fieldLink "TrustTin$Room" 137 "TrustTin$Drinker" "debt" "I" ∈ tt_T := tt_m 137 (by decide +kernel) (by decide +kernel)
theorem q138 : Cond.fieldLink "TrustTin$Drinker" 27 "TrustTin$Drinker" "drunk" "I" ∈ tt_T := tt_m 138 (by decide +kernel) (by decide +kernel)
theorem q139 : Cond.fieldLink "TrustTin$Room" 101 "TrustTin$Drinker" "drunk" "I" ∈ tt_T := tt_m 139 (by decide +kernel) (by decide +kernel)
theorem q140 : Cond.fieldLink "TrustTin" 197 "TrustTin$Drinker" "drunk" "I" ∈ tt_T := tt_m 140 (by decide +kernel) (by decide +kernel)
theorem q141 : Cond.fieldLink "TrustTin$Drinker" 30 "TrustTin$Drinker" "paid" "I" ∈ tt_T := tt_m 141 (by decide +kernel) (by decide +kernel)
theorem q142 : Cond.fieldLink "TrustTin$Room" 104 "TrustTin$Drinker" "paid" "I" ∈ tt_T := tt_m 142 (by decide +kernel) (by decide +kernel)
theorem q143 : Cond.fieldLink "TrustTin" 271 "TrustTin$Drinker" "paid" "I" ∈ tt_T := tt_m 143 (by decide +kernel) (by decide +kernel)
theorem q159 : Cond.fieldLink "TrustTin$Room" 11 "TrustTin$Room" "drinkers" "[LTrustTin$Drinker;" ∈ tt_T := tt_m 159 (by decide +kernel) (by decide +kernel)
theorem q160 : Cond.fieldLink "TrustTin" 73 "TrustTin$Room" "drinkers" "[LTrustTin$Drinker;" ∈ tt_T := tt_m 160 (by decide +kernel) (by decide +kernel)
theorem q161 : Cond.fieldLink "TrustTin$Room" 17 "TrustTin$Room" "size" "I" ∈ tt_T := tt_m 161 (by decide +kernel) (by decide +kernel)
theorem q162 : Cond.fieldLink "TrustTin" 61 "TrustTin$Room" "size" "I" ∈ tt_T := tt_m 162 (by decide +kernel) (by decide +kernel)
theorem q163 : Cond.fieldLink "TrustTin$TextReader" 42 "TrustTin$Room" "size" "I" ∈ tt_T := tt_m 163 (by decide +kernel) (by decide +kernel)
theorem q164 : Cond.fieldLink "TrustTin$Room" 21 "TrustTin$Room" "price" "I" ∈ tt_T := tt_m 164 (by decide +kernel) (by decide +kernel)
theorem q165 : Cond.fieldLink "TrustTin$TextReader" 88 "TrustTin$Room" "price" "I" ∈ tt_T := tt_m 165 (by decide +kernel) (by decide +kernel)
theorem q166 : Cond.fieldLink "TrustTin" 176 "TrustTin$Room" "price" "I" ∈ tt_T := tt_m 166 (by decide +kernel) (by decide +kernel)
theorem q167 : Cond.fieldLink "TrustTin$Room" 24 "TrustTin$Room" "pot" "I" ∈ tt_T := tt_m 167 (by decide +kernel) (by decide +kernel)
theorem q168 : Cond.fieldLink "TrustTin" 261 "TrustTin$Room" "pot" "I" ∈ tt_T := tt_m 168 (by decide +kernel) (by decide +kernel)
theorem q169 : Cond.fieldLink "TrustTin$Room" 27 "TrustTin$Room" "left" "I" ∈ tt_T := tt_m 169 (by decide +kernel) (by decide +kernel)
theorem q170 : Cond.fieldLink "TrustTin" 114 "TrustTin$Room" "left" "I" ∈ tt_T := tt_m 170 (by decide +kernel) (by decide +kernel)
theorem q171 : Cond.fieldLink "TrustTin$Room" 30 "TrustTin$Room" "tin" "I" ∈ tt_T := tt_m 171 (by decide +kernel) (by decide +kernel)
theorem q172 : Cond.fieldLink "TrustTin" 99 "TrustTin$Room" "tin" "I" ∈ tt_T := tt_m 172 (by decide +kernel) (by decide +kernel)
theorem q173 : Cond.fieldLink "TrustTin$Room" 33 "TrustTin$Room" "sign" "I" ∈ tt_T := tt_m 173 (by decide +kernel) (by decide +kernel)
theorem q174 : Cond.fieldLink "TrustTin$TextReader" 98 "TrustTin$Room" "sign" "I" ∈ tt_T := tt_m 174 (by decide +kernel) (by decide +kernel)
theorem q175 : Cond.fieldLink "TrustTin" 179 "TrustTin$Room" "sign" "I" ∈ tt_T := tt_m 175 (by decide +kernel) (by decide +kernel)
theorem q176 : Cond.fieldLink "TrustTin$Room" 36 "TrustTin$Room" "last" "I" ∈ tt_T := tt_m 176 (by decide +kernel) (by decide +kernel)
theorem q177 : Cond.fieldLink "TrustTin" 117 "TrustTin$Room" "last" "I" ∈ tt_T := tt_m 177 (by decide +kernel) (by decide +kernel)
theorem q178 : Cond.fieldLink "TrustTin$Room" 39 "TrustTin$Room" "day" "I" ∈ tt_T := tt_m 178 (by decide +kernel) (by decide +kernel)
theorem q179 : Cond.fieldLink "TrustTin" 111 "TrustTin$Room" "day" "I" ∈ tt_T := tt_m 179 (by decide +kernel) (by decide +kernel)
theorem q180 : Cond.fieldLink "TrustTin$Room" 42 "TrustTin$Room" "missed" "I" ∈ tt_T := tt_m 180 (by decide +kernel) (by decide +kernel)
theorem q181 : Cond.fieldLink "TrustTin" 124 "TrustTin$Room" "missed" "I" ∈ tt_T := tt_m 181 (by decide +kernel) (by decide +kernel)
theorem q182 : Cond.fieldLink "TrustTin$Room" 45 "TrustTin$Room" "served" "I" ∈ tt_T := tt_m 182 (by decide +kernel) (by decide +kernel)
theorem q183 : Cond.fieldLink "TrustTin" 170 "TrustTin$Room" "served" "I" ∈ tt_T := tt_m 183 (by decide +kernel) (by decide +kernel)
theorem q184 : Cond.fieldLink "TrustTin$Room" 48 "TrustTin$Room" "z" "I" ∈ tt_T := tt_m 184 (by decide +kernel) (by decide +kernel)
theorem q185 : Cond.fieldLink "TrustTin" 213 "TrustTin$Room" "z" "I" ∈ tt_T := tt_m 185 (by decide +kernel) (by decide +kernel)
theorem q186 : Cond.fieldLink "TrustTin$Room" 54 "TrustTin$Room" "books" "LTrustTin$Books;" ∈ tt_T := tt_m 186 (by decide +kernel) (by decide +kernel)
theorem q187 : Cond.fieldLink "TrustTin" 136 "TrustTin$Room" "books" "LTrustTin$Books;" ∈ tt_T := tt_m 187 (by decide +kernel) (by decide +kernel)
theorem q188 : Cond.fieldLink "TrustTin$Room" 58 "TrustTin$Room" "spots" "[I" ∈ tt_T := tt_m 188 (by decide +kernel) (by decide +kernel)
theorem q189 : Cond.fieldLink "TrustTin" 224 "TrustTin$Room" "spots" "[I" ∈ tt_T := tt_m 189 (by decide +kernel) (by decide +kernel)
theorem q219 : Cond.classLink "TrustTin" 26 "TrustTin$Tape" ∈ tt_T := tt_m 219 (by decide +kernel) (by decide +kernel)
theorem q220 : Cond.instantiable "TrustTin$Tape" 2 ∈ tt_T := tt_m 220 (by decide +kernel) (by decide +kernel)
theorem q222 : Cond.instanceMethod yX4_init ∈ tt_T := tt_m 222 (by decide +kernel) (by decide +kernel)
theorem q223 : Cond.code yX4_init cX4_init 1 none ∈ tt_T := tt_m 223 (by decide +kernel) (by decide +kernel)
theorem q224 : Cond.methodLink "TrustTin$Tape" 3 ⟨"java/lang/Object", "<init>", "()V"⟩ ∈ tt_T := tt_m 224 (by decide +kernel) (by decide +kernel)
theorem q225 : Cond.fieldLink "TrustTin$Tape" 9 "TrustTin$Tape" "bytes" "[I" ∈ tt_T := tt_m 225 (by decide +kernel) (by decide +kernel)
theorem q226 : Cond.fieldLink "TrustTin$TextReader" 145 "TrustTin$Tape" "bytes" "[I" ∈ tt_T := tt_m 226 (by decide +kernel) (by decide +kernel)
theorem q227 : Cond.fieldLink "TrustTin$Tape" 15 "TrustTin$Tape" "size" "I" ∈ tt_T := tt_m 227 (by decide +kernel) (by decide +kernel)
theorem q228 : Cond.fieldLink "TrustTin$TextReader" 123 "TrustTin$Tape" "size" "I" ∈ tt_T := tt_m 228 (by decide +kernel) (by decide +kernel)
theorem q229 : Cond.fieldLink "TrustTin" 216 "TrustTin$Tape" "size" "I" ∈ tt_T := tt_m 229 (by decide +kernel) (by decide +kernel)
theorem q235 : Cond.classLink "TrustTin" 33 "TrustTin$TextReader" ∈ tt_T := tt_m 235 (by decide +kernel) (by decide +kernel)
theorem q236 : Cond.instantiable "TrustTin$TextReader" 6 ∈ tt_T := tt_m 236 (by decide +kernel) (by decide +kernel)
theorem q237 : Cond.methodLink "TrustTin" 35 yX5_init ∈ tt_T := tt_m 237 (by decide +kernel) (by decide +kernel)
theorem q238 : Cond.instanceMethod yX5_init ∈ tt_T := tt_m 238 (by decide +kernel) (by decide +kernel)
theorem q239 : Cond.code yX5_init cX5_init 2 none ∈ tt_T := tt_m 239 (by decide +kernel) (by decide +kernel)
theorem q240 : Cond.methodLink "TrustTin$TextReader" 3 ⟨"java/lang/Object", "<init>", "()V"⟩ ∈ tt_T := tt_m 240 (by decide +kernel) (by decide +kernel)
theorem q241 : Cond.fieldLink "TrustTin$TextReader" 27 "TrustTin$TextReader" "tape" "LTrustTin$Tape;" ∈ tt_T := tt_m 241 (by decide +kernel) (by decide +kernel)
theorem q242 : Cond.fieldLink "TrustTin$TextReader" 11 "TrustTin$TextReader" "token" "I" ∈ tt_T := tt_m 242 (by decide +kernel) (by decide +kernel)
theorem q243 : Cond.fieldLink "TrustTin$TextReader" 15 "TrustTin$TextReader" "start" "I" ∈ tt_T := tt_m 243 (by decide +kernel) (by decide +kernel)
theorem q244 : Cond.fieldLink "TrustTin$TextReader" 18 "TrustTin$TextReader" "end" "I" ∈ tt_T := tt_m 244 (by decide +kernel) (by decide +kernel)
theorem q245 : Cond.fieldLink "TrustTin$TextReader" 21 "TrustTin$TextReader" "number" "I" ∈ tt_T := tt_m 245 (by decide +kernel) (by decide +kernel)
theorem q246 : Cond.fieldLink "TrustTin$TextReader" 24 "TrustTin$TextReader" "tookNumber" "I" ∈ tt_T := tt_m 246 (by decide +kernel) (by decide +kernel)
theorem q260 : Cond.classLink "TrustTin" 42 "TrustTin$Sheet" ∈ tt_T := tt_m 260 (by decide +kernel) (by decide +kernel)
theorem q262 : Cond.instantiable "TrustTin$Sheet" 3 ∈ tt_T := tt_m 262 (by decide +kernel) (by decide +kernel)
theorem q264 : Cond.instanceMethod yX3_init ∈ tt_T := tt_m 264 (by decide +kernel) (by decide +kernel)
theorem q265 : Cond.code yX3_init cX3_init 1 none ∈ tt_T := tt_m 265 (by decide +kernel) (by decide +kernel)
theorem q266 : Cond.methodLink "TrustTin$Sheet" 3 ⟨"java/lang/Object", "<init>", "()V"⟩ ∈ tt_T := tt_m 266 (by decide +kernel) (by decide +kernel)
theorem q267 : Cond.fieldLink "TrustTin$Sheet" 9 "TrustTin$Sheet" "numbers" "[I" ∈ tt_T := tt_m 267 (by decide +kernel) (by decide +kernel)
theorem q268 : Cond.fieldLink "TrustTin" 249 "TrustTin$Sheet" "numbers" "[I" ∈ tt_T := tt_m 268 (by decide +kernel) (by decide +kernel)
theorem q269 : Cond.fieldLink "TrustTin$Sheet" 15 "TrustTin$Sheet" "bits" "I" ∈ tt_T := tt_m 269 (by decide +kernel) (by decide +kernel)
theorem q270 : Cond.fieldLink "TrustTin" 243 "TrustTin$Sheet" "bits" "I" ∈ tt_T := tt_m 270 (by decide +kernel) (by decide +kernel)
theorem q271 : Cond.fieldLink "TrustTin$Sheet" 19 "TrustTin$Sheet" "size" "I" ∈ tt_T := tt_m 271 (by decide +kernel) (by decide +kernel)
theorem q272 : Cond.fieldLink "TrustTin" 236 "TrustTin$Sheet" "size" "I" ∈ tt_T := tt_m 272 (by decide +kernel) (by decide +kernel)
theorem q280 : Cond.fieldLink "TrustTin" 10 "TrustTin" "real" "LTrustTin$Room;" ∈ tt_T := tt_m 280 (by decide +kernel) (by decide +kernel)
theorem q281 : Cond.fieldLink "TrustTin" 16 "TrustTin" "kept" "LTrustTin$Room;" ∈ tt_T := tt_m 281 (by decide +kernel) (by decide +kernel)
theorem q282 : Cond.fieldLink "TrustTin" 19 "TrustTin" "trial" "LTrustTin$Room;" ∈ tt_T := tt_m 282 (by decide +kernel) (by decide +kernel)
theorem q283 : Cond.fieldLink "TrustTin" 22 "TrustTin" "isKept" "Z" ∈ tt_T := tt_m 283 (by decide +kernel) (by decide +kernel)
theorem q284 : Cond.fieldLink "TrustTin" 29 "TrustTin" "tape" "LTrustTin$Tape;" ∈ tt_T := tt_m 284 (by decide +kernel) (by decide +kernel)
theorem q285 : Cond.fieldLink "TrustTin" 38 "TrustTin" "reader" "LTrustTin$TextReader;" ∈ tt_T := tt_m 285 (by decide +kernel) (by decide +kernel)
theorem q286 : Cond.fieldLink "TrustTin" 44 "TrustTin" "sheets" "[LTrustTin$Sheet;" ∈ tt_T := tt_m 286 (by decide +kernel) (by decide +kernel)
theorem q287 : Cond.fieldLink "TrustTin" 48 "TrustTin" "findings" "[I" ∈ tt_T := tt_m 287 (by decide +kernel) (by decide +kernel)
theorem q305 : Cond.methodLink "TrustTinLaw" 13 yX6_drinker ∈ tt_T := tt_m 305 (by decide +kernel) (by decide +kernel)
theorem q306 : Cond.instanceMethod yX6_drinker ∈ tt_T := tt_m 306 (by decide +kernel) (by decide +kernel)
theorem q307 : Cond.selects "TrustTin" yX6_drinker yX6_drinker ∈ tt_T := tt_m 307 (by decide +kernel) (by decide +kernel)
theorem q308 : Cond.code yX6_drinker cX6_drinker 3 (some FieldType.int) ∈ tt_T := tt_m 308 (by decide +kernel) (by decide +kernel)
theorem q309 : Cond.methodLink "TrustTin" 53 yX6_within ∈ tt_T := tt_m 309 (by decide +kernel) (by decide +kernel)
theorem q310 : Cond.static yX6_within ∈ tt_T := tt_m 310 (by decide +kernel) (by decide +kernel)
theorem q311 : Cond.code yX6_within cX6_within 3 (some FieldType.boolean) ∈ tt_T := tt_m 311 (by decide +kernel) (by decide +kernel)
theorem q312 : Cond.methodLink "TrustTin" 57 yX6_tell ∈ tt_T := tt_m 312 (by decide +kernel) (by decide +kernel)
theorem q314 : Cond.instanceMethod yX6_tell ∈ tt_T := tt_m 314 (by decide +kernel) (by decide +kernel)
theorem q315 : Cond.code yX6_tell cX6_tell 2 (some FieldType.int) ∈ tt_T := tt_m 315 (by decide +kernel) (by decide +kernel)
theorem q316 : Cond.constant "TrustTin" 267 (-1000001 : Int32) ∈ tt_T := tt_m 316 (by decide +kernel) (by decide +kernel)
theorem q317 : Cond.methodLink "TrustTin" 65 yX2_addDrinker ∈ tt_T := tt_m 317 (by decide +kernel) (by decide +kernel)
theorem q318 : Cond.instanceMethod yX2_addDrinker ∈ tt_T := tt_m 318 (by decide +kernel) (by decide +kernel)
theorem q319 : Cond.selects "TrustTin$Room" yX2_addDrinker yX2_addDrinker ∈ tt_T := tt_m 319 (by decide +kernel) (by decide +kernel)
theorem q320 : Cond.code yX2_addDrinker cX2_addDrinker 4 (some (FieldType.object "TrustTin$Drinker")) ∈ tt_T := tt_m 320 (by decide +kernel) (by decide +kernel)
theorem q321 : Cond.methodLink "TrustTin$Room" 80 yJ9_min_7cf53 ∈ tt_T := tt_m 321 (by decide +kernel) (by decide +kernel)
theorem q322 : Cond.static yJ9_min_7cf53 ∈ tt_T := tt_m 322 (by decide +kernel) (by decide +kernel)
theorem q323 : Cond.code yJ9_min_7cf53 cJ9_min_7cf53 2 (some FieldType.int) ∈ tt_T := tt_m 323 (by decide +kernel) (by decide +kernel)
theorem q324 : Cond.methodLink "TrustTin$Room" 86 yX1_begin ∈ tt_T := tt_m 324 (by decide +kernel) (by decide +kernel)
theorem q325 : Cond.instanceMethod yX1_begin ∈ tt_T := tt_m 325 (by decide +kernel) (by decide +kernel)
theorem q326 : Cond.selects "TrustTin$Drinker" yX1_begin yX1_begin ∈ tt_T := tt_m 326 (by decide +kernel) (by decide +kernel)
theorem q327 : Cond.code yX1_begin cX1_begin 3 none ∈ tt_T := tt_m 327 (by decide +kernel) (by decide +kernel)
theorem q328 : Cond.methodLink "TrustTinLaw" 18 yX6_of ∈ tt_T := tt_m 328 (by decide +kernel) (by decide +kernel)
theorem q329 : Cond.instanceMethod yX6_of ∈ tt_T := tt_m 329 (by decide +kernel) (by decide +kernel)
theorem q330 : Cond.selects "TrustTin" yX6_of yX6_of ∈ tt_T := tt_m 330 (by decide +kernel) (by decide +kernel)
theorem q331 : Cond.code yX6_of cX6_of 3 (some FieldType.int) ∈ tt_T := tt_m 331 (by decide +kernel) (by decide +kernel)
theorem q332 : Cond.methodLink "TrustTin" 69 yX6_isDrinker ∈ tt_T := tt_m 332 (by decide +kernel) (by decide +kernel)
theorem q334 : Cond.instanceMethod yX6_isDrinker ∈ tt_T := tt_m 334 (by decide +kernel) (by decide +kernel)
theorem q335 : Cond.code yX6_isDrinker cX6_isDrinker 2 (some FieldType.boolean) ∈ tt_T := tt_m 335 (by decide +kernel) (by decide +kernel)
theorem q336 : Cond.methodLink "TrustTin" 77 yX1_get ∈ tt_T := tt_m 336 (by decide +kernel) (by decide +kernel)
theorem q337 : Cond.instanceMethod yX1_get ∈ tt_T := tt_m 337 (by decide +kernel) (by decide +kernel)
theorem q338 : Cond.selects "TrustTin$Drinker" yX1_get yX1_get ∈ tt_T := tt_m 338 (by decide +kernel) (by decide +kernel)
theorem q339 : Cond.code yX1_get cX1_get 2 (some FieldType.int) ∈ tt_T := tt_m 339 (by decide +kernel) (by decide +kernel)
theorem q340 : Cond.methodLink "TrustTinLaw" 22 yX6_change ∈ tt_T := tt_m 340 (by decide +kernel) (by decide +kernel)
theorem q341 : Cond.instanceMethod yX6_change ∈ tt_T := tt_m 341 (by decide +kernel) (by decide +kernel)
theorem q342 : Cond.selects "TrustTin" yX6_change yX6_change ∈ tt_T := tt_m 342 (by decide +kernel) (by decide +kernel)
theorem q343 : Cond.code yX6_change cX6_change 5 (some FieldType.int) ∈ tt_T := tt_m 343 (by decide +kernel) (by decide +kernel)
theorem q344 : Cond.methodLink "TrustTin" 82 yX6_canBecome ∈ tt_T := tt_m 344 (by decide +kernel) (by decide +kernel)
theorem q345 : Cond.static yX6_canBecome ∈ tt_T := tt_m 345 (by decide +kernel) (by decide +kernel)
theorem q346 : Cond.code yX6_canBecome cX6_canBecome 2 (some FieldType.boolean) ∈ tt_T := tt_m 346 (by decide +kernel) (by decide +kernel)
theorem q347 : Cond.methodLink "TrustTin" 86 yX1_set ∈ tt_T := tt_m 347 (by decide +kernel) (by decide +kernel)
theorem q348 : Cond.instanceMethod yX1_set ∈ tt_T := tt_m 348 (by decide +kernel) (by decide +kernel)
theorem q349 : Cond.selects "TrustTin$Drinker" yX1_set yX1_set ∈ tt_T := tt_m 349 (by decide +kernel) (by decide +kernel)
theorem q350 : Cond.code yX1_set cX1_set 3 none ∈ tt_T := tt_m 350 (by decide +kernel) (by decide +kernel)
theorem q351 : Cond.methodLink "TrustTinLaw" 27 yX6_room ∈ tt_T := tt_m 351 (by decide +kernel) (by decide +kernel)
theorem q352 : Cond.instanceMethod yX6_room ∈ tt_T := tt_m 352 (by decide +kernel) (by decide +kernel)
theorem q353 : Cond.selects "TrustTin" yX6_room yX6_room ∈ tt_T := tt_m 353 (by decide +kernel) (by decide +kernel)
theorem q354 : Cond.code yX6_room cX6_room 3 (some FieldType.int) ∈ tt_T := tt_m 354 (by decide +kernel) (by decide +kernel)
theorem q355 : Cond.methodLink "TrustTin" 90 yX6_changePrice ∈ tt_T := tt_m 355 (by decide +kernel) (by decide +kernel)
theorem q357 : Cond.instanceMethod yX6_changePrice ∈ tt_T := tt_m 357 (by decide +kernel) (by decide +kernel)
theorem q358 : Cond.code yX6_changePrice cX6_changePrice 3 (some FieldType.int) ∈ tt_T := tt_m 358 (by decide +kernel) (by decide +kernel)
theorem q359 : Cond.methodLink "TrustTin" 93 yX6_changePot ∈ tt_T := tt_m 359 (by decide +kernel) (by decide +kernel)
theorem q361 : Cond.instanceMethod yX6_changePot ∈ tt_T := tt_m 361 (by decide +kernel) (by decide +kernel)
theorem q362 : Cond.code yX6_changePot cX6_changePot 3 (some FieldType.int) ∈ tt_T := tt_m 362 (by decide +kernel) (by decide +kernel)
theorem q363 : Cond.methodLink "TrustTin" 182 yX2_setPot ∈ tt_T := tt_m 363 (by decide +kernel) (by decide +kernel)
theorem q364 : Cond.instanceMethod yX2_setPot ∈ tt_T := tt_m 364 (by decide +kernel) (by decide +kernel)
theorem q365 : Cond.selects "TrustTin$Room" yX2_setPot yX2_setPot ∈ tt_T := tt_m 365 (by decide +kernel) (by decide +kernel)
theorem q366 : Cond.code yX2_setPot cX2_setPot 2 none ∈ tt_T := tt_m 366 (by decide +kernel) (by decide +kernel)
theorem q367 : Cond.methodLink "TrustTin" 96 yX6_changeSign ∈ tt_T := tt_m 367 (by decide +kernel) (by decide +kernel)
theorem q369 : Cond.instanceMethod yX6_changeSign ∈ tt_T := tt_m 369 (by decide +kernel) (by decide +kernel)
theorem q370 : Cond.code yX6_changeSign cX6_changeSign 3 (some FieldType.int) ∈ tt_T := tt_m 370 (by decide +kernel) (by decide +kernel)
theorem q371 : Cond.methodLink "TrustTinLaw" 31 yX6_empty ∈ tt_T := tt_m 371 (by decide +kernel) (by decide +kernel)
theorem q372 : Cond.instanceMethod yX6_empty ∈ tt_T := tt_m 372 (by decide +kernel) (by decide +kernel)
theorem q373 : Cond.selects "TrustTin" yX6_empty yX6_empty ∈ tt_T := tt_m 373 (by decide +kernel) (by decide +kernel)
theorem q374 : Cond.code yX6_empty cX6_empty 2 (some FieldType.int) ∈ tt_T := tt_m 374 (by decide +kernel) (by decide +kernel)
theorem q375 : Cond.methodLink "TrustTinLaw" 36 yX6_taken ∈ tt_T := tt_m 375 (by decide +kernel) (by decide +kernel)
theorem q376 : Cond.instanceMethod yX6_taken ∈ tt_T := tt_m 376 (by decide +kernel) (by decide +kernel)
theorem q377 : Cond.selects "TrustTin" yX6_taken yX6_taken ∈ tt_T := tt_m 377 (by decide +kernel) (by decide +kernel)
theorem q378 : Cond.code yX6_taken cX6_taken 3 (some FieldType.int) ∈ tt_T := tt_m 378 (by decide +kernel) (by decide +kernel)
theorem q379 : Cond.methodLink "TrustTin" 102 yJ9_min_7cf53 ∈ tt_T := tt_m 379 (by decide +kernel) (by decide +kernel)
theorem q380 : Cond.methodLink "TrustTinLaw" 41 yX6_forgive ∈ tt_T := tt_m 380 (by decide +kernel) (by decide +kernel)
theorem q381 : Cond.instanceMethod yX6_forgive ∈ tt_T := tt_m 381 (by decide +kernel) (by decide +kernel)
theorem q382 : Cond.selects "TrustTin" yX6_forgive yX6_forgive ∈ tt_T := tt_m 382 (by decide +kernel) (by decide +kernel)
theorem q383 : Cond.code yX6_forgive cX6_forgive 3 (some FieldType.int) ∈ tt_T := tt_m 383 (by decide +kernel) (by decide +kernel)
theorem q384 : Cond.methodLink "TrustTinLaw" 45 yX6_now ∈ tt_T := tt_m 384 (by decide +kernel) (by decide +kernel)
theorem q385 : Cond.instanceMethod yX6_now ∈ tt_T := tt_m 385 (by decide +kernel) (by decide +kernel)
theorem q386 : Cond.selects "TrustTin" yX6_now yX6_now ∈ tt_T := tt_m 386 (by decide +kernel) (by decide +kernel)
theorem q387 : Cond.code yX6_now cX6_now 2 (some FieldType.int) ∈ tt_T := tt_m 387 (by decide +kernel) (by decide +kernel)
theorem q388 : Cond.methodLink "TrustTin" 120 yX2_due ∈ tt_T := tt_m 388 (by decide +kernel) (by decide +kernel)
theorem q389 : Cond.instanceMethod yX2_due ∈ tt_T := tt_m 389 (by decide +kernel) (by decide +kernel)
theorem q390 : Cond.selects "TrustTin$Room" yX2_due yX2_due ∈ tt_T := tt_m 390 (by decide +kernel) (by decide +kernel)
theorem q391 : Cond.code yX2_due cX2_due 1 (some FieldType.int) ∈ tt_T := tt_m 391 (by decide +kernel) (by decide +kernel)
theorem q392 : Cond.methodLink "TrustTin$Room" 98 yX2_sumOf ∈ tt_T := tt_m 392 (by decide +kernel) (by decide +kernel)
theorem q393 : Cond.instanceMethod yX2_sumOf ∈ tt_T := tt_m 393 (by decide +kernel) (by decide +kernel)
theorem q394 : Cond.selects "TrustTin$Room" yX2_sumOf yX2_sumOf ∈ tt_T := tt_m 394 (by decide +kernel) (by decide +kernel)
theorem q395 : Cond.code yX2_sumOf cX2_sumOf 4 (some FieldType.int) ∈ tt_T := tt_m 395 (by decide +kernel) (by decide +kernel)
theorem q396 : Cond.methodLink "TrustTin$Room" 94 yX1_get ∈ tt_T := tt_m 396 (by decide +kernel) (by decide +kernel)
theorem q397 : Cond.methodLink "TrustTin" 127 yX2_sumOf ∈ tt_T := tt_m 397 (by decide +kernel) (by decide +kernel)
theorem q398 : Cond.methodLink "TrustTinLaw" 49 yX6_days ∈ tt_T := tt_m 398 (by decide +kernel) (by decide +kernel)
theorem q399 : Cond.instanceMethod yX6_days ∈ tt_T := tt_m 399 (by decide +kernel) (by decide +kernel)
theorem q400 : Cond.selects "TrustTin" yX6_days yX6_days ∈ tt_T := tt_m 400 (by decide +kernel) (by decide +kernel)
theorem q401 : Cond.code yX6_days cX6_days 2 (some FieldType.int) ∈ tt_T := tt_m 401 (by decide +kernel) (by decide +kernel)
theorem q402 : Cond.methodLink "TrustTin" 130 yX6_isTooLate ∈ tt_T := tt_m 402 (by decide +kernel) (by decide +kernel)
theorem q404 : Cond.instanceMethod yX6_isTooLate ∈ tt_T := tt_m 404 (by decide +kernel) (by decide +kernel)
theorem q405 : Cond.code yX6_isTooLate cX6_isTooLate 2 (some FieldType.boolean) ∈ tt_T := tt_m 405 (by decide +kernel) (by decide +kernel)
theorem q406 : Cond.methodLink "TrustTin" 133 yX2_goDays ∈ tt_T := tt_m 406 (by decide +kernel) (by decide +kernel)
theorem q407 : Cond.instanceMethod yX2_goDays ∈ tt_T := tt_m 407 (by decide +kernel) (by decide +kernel)
theorem q408 : Cond.selects "TrustTin$Room" yX2_goDays yX2_goDays ∈ tt_T := tt_m 408 (by decide +kernel) (by decide +kernel)
theorem q409 : Cond.code yX2_goDays cX2_goDays 4 (some FieldType.int) ∈ tt_T := tt_m 409 (by decide +kernel) (by decide +kernel)
theorem q410 : Cond.methodLink "TrustTin$Room" 107 yX2_goDay ∈ tt_T := tt_m 410 (by decide +kernel) (by decide +kernel)
theorem q412 : Cond.instanceMethod yX2_goDay ∈ tt_T := tt_m 412 (by decide +kernel) (by decide +kernel)
theorem q413 : Cond.code yX2_goDay cX2_goDay 2 none ∈ tt_T := tt_m 413 (by decide +kernel) (by decide +kernel)
theorem q414 : Cond.methodLink "TrustTin$Room" 113 yX2_serve ∈ tt_T := tt_m 414 (by decide +kernel) (by decide +kernel)
theorem q416 : Cond.instanceMethod yX2_serve ∈ tt_T := tt_m 416 (by decide +kernel) (by decide +kernel)
theorem q417 : Cond.code yX2_serve cX2_serve 3 none ∈ tt_T := tt_m 417 (by decide +kernel) (by decide +kernel)
theorem q418 : Cond.methodLink "TrustTin$Room" 122 yX2_isPotMade ∈ tt_T := tt_m 418 (by decide +kernel) (by decide +kernel)
theorem q420 : Cond.instanceMethod yX2_isPotMade ∈ tt_T := tt_m 420 (by decide +kernel) (by decide +kernel)
theorem q421 : Cond.code yX2_isPotMade cX2_isPotMade 2 (some FieldType.boolean) ∈ tt_T := tt_m 421 (by decide +kernel) (by decide +kernel)
theorem q422 : Cond.methodLink "TrustTin$Room" 133 yX2_draw ∈ tt_T := tt_m 422 (by decide +kernel) (by decide +kernel)
theorem q423 : Cond.instanceMethod yX2_draw ∈ tt_T := tt_m 423 (by decide +kernel) (by decide +kernel)
theorem q424 : Cond.selects "TrustTin$Room" yX2_draw yX2_draw ∈ tt_T := tt_m 424 (by decide +kernel) (by decide +kernel)
theorem q425 : Cond.code yX2_draw cX2_draw 1 (some FieldType.int) ∈ tt_T := tt_m 425 (by decide +kernel) (by decide +kernel)
theorem q426 : Cond.constant "TrustTin$Room" 93 (1103515245 : Int32) ∈ tt_T := tt_m 426 (by decide +kernel) (by decide +kernel)
theorem q427 : Cond.methodLink "TrustTin$Room" 126 yX2_payCup ∈ tt_T := tt_m 427 (by decide +kernel) (by decide +kernel)
theorem q429 : Cond.instanceMethod yX2_payCup ∈ tt_T := tt_m 429 (by decide +kernel) (by decide +kernel)
theorem q430 : Cond.code yX2_payCup cX2_payCup 4 none ∈ tt_T := tt_m 430 (by decide +kernel) (by decide +kernel)
theorem q431 : Cond.methodLink "TrustTin$Room" 140 yX2_isForgotten ∈ tt_T := tt_m 431 (by decide +kernel) (by decide +kernel)
theorem q433 : Cond.instanceMethod yX2_isForgotten ∈ tt_T := tt_m 433 (by decide +kernel) (by decide +kernel)
theorem q434 : Cond.code yX2_isForgotten cX2_isForgotten 1 (some FieldType.boolean) ∈ tt_T := tt_m 434 (by decide +kernel) (by decide +kernel)
theorem q435 : Cond.methodLink "TrustTin$Room" 144 yX2_pay ∈ tt_T := tt_m 435 (by decide +kernel) (by decide +kernel)
theorem q437 : Cond.instanceMethod yX2_pay ∈ tt_T := tt_m 437 (by decide +kernel) (by decide +kernel)
theorem q438 : Cond.code yX2_pay cX2_pay 4 (some FieldType.int) ∈ tt_T := tt_m 438 (by decide +kernel) (by decide +kernel)
theorem q439 : Cond.methodLink "TrustTin$Room" 116 yX2_endWeek ∈ tt_T := tt_m 439 (by decide +kernel) (by decide +kernel)
theorem q441 : Cond.instanceMethod yX2_endWeek ∈ tt_T := tt_m 441 (by decide +kernel) (by decide +kernel)
theorem q442 : Cond.code yX2_endWeek cX2_endWeek 3 none ∈ tt_T := tt_m 442 (by decide +kernel) (by decide +kernel)
theorem q443 : Cond.methodLink "TrustTin$Room" 151 yX0_put ∈ tt_T := tt_m 443 (by decide +kernel) (by decide +kernel)
theorem q444 : Cond.instanceMethod yX0_put ∈ tt_T := tt_m 444 (by decide +kernel) (by decide +kernel)
theorem q445 : Cond.selects "TrustTin$Books" yX0_put yX0_put ∈ tt_T := tt_m 445 (by decide +kernel) (by decide +kernel)
theorem q446 : Cond.code yX0_put cX0_put 3 none ∈ tt_T := tt_m 446 (by decide +kernel) (by decide +kernel)
theorem q447 : Cond.methodLink "TrustTin$Books" 22 ⟨"java/lang/System", "arraycopy", "(Ljava/lang/Object;ILjava/lang/Object;II)V"⟩ ∈ tt_T := tt_m 447 (by decide +kernel) (by decide +kernel)
theorem q448 : Cond.static ⟨"java/lang/System", "arraycopy", "(Ljava/lang/Object;ILjava/lang/Object;II)V"⟩ ∈ tt_T := tt_m 448 (by decide +kernel) (by decide +kernel)
theorem q449 : Cond.native ⟨"java/lang/System", "arraycopy", "(Ljava/lang/Object;ILjava/lang/Object;II)V"⟩ ∈ tt_T := tt_m 449 (by decide +kernel) (by decide +kernel)
theorem q450 : Cond.methodLink "TrustTin$Books" 28 yJ9_min_7cf53 ∈ tt_T := tt_m 450 (by decide +kernel) (by decide +kernel)
theorem q451 : Cond.methodLink "TrustTin$Room" 154 yX2_due ∈ tt_T := tt_m 451 (by decide +kernel) (by decide +kernel)
theorem q452 : Cond.methodLink "TrustTin$Room" 90 yX2_beginWeek ∈ tt_T := tt_m 452 (by decide +kernel) (by decide +kernel)
theorem q454 : Cond.instanceMethod yX2_beginWeek ∈ tt_T := tt_m 454 (by decide +kernel) (by decide +kernel)
theorem q455 : Cond.code yX2_beginWeek cX2_beginWeek 2 none ∈ tt_T := tt_m 455 (by decide +kernel) (by decide +kernel)
theorem q456 : Cond.methodLink "TrustTinLaw" 53 yX6_week ∈ tt_T := tt_m 456 (by decide +kernel) (by decide +kernel)
theorem q457 : Cond.instanceMethod yX6_week ∈ tt_T := tt_m 457 (by decide +kernel) (by decide +kernel)
theorem q458 : Cond.selects "TrustTin" yX6_week yX6_week ∈ tt_T := tt_m 458 (by decide +kernel) (by decide +kernel)
theorem q459 : Cond.code yX6_week cX6_week 3 (some FieldType.int) ∈ tt_T := tt_m 459 (by decide +kernel) (by decide +kernel)
theorem q460 : Cond.methodLink "TrustTinLaw" 57 yX6_each ∈ tt_T := tt_m 460 (by decide +kernel) (by decide +kernel)
theorem q461 : Cond.instanceMethod yX6_each ∈ tt_T := tt_m 461 (by decide +kernel) (by decide +kernel)
theorem q462 : Cond.selects "TrustTin" yX6_each yX6_each ∈ tt_T := tt_m 462 (by decide +kernel) (by decide +kernel)
theorem q463 : Cond.code yX6_each cX6_each 5 (some FieldType.int) ∈ tt_T := tt_m 463 (by decide +kernel) (by decide +kernel)
theorem q464 : Cond.methodLink "TrustTin" 149 yX0_allCups ∈ tt_T := tt_m 464 (by decide +kernel) (by decide +kernel)
theorem q465 : Cond.instanceMethod yX0_allCups ∈ tt_T := tt_m 465 (by decide +kernel) (by decide +kernel)
theorem q466 : Cond.selects "TrustTin$Books" yX0_allCups yX0_allCups ∈ tt_T := tt_m 466 (by decide +kernel) (by decide +kernel)
theorem q467 : Cond.code yX0_allCups cX0_allCups 1 (some FieldType.int) ∈ tt_T := tt_m 467 (by decide +kernel) (by decide +kernel)
theorem q468 : Cond.methodLink "TrustTin$Books" 34 yX0_sumOfFirst ∈ tt_T := tt_m 468 (by decide +kernel) (by decide +kernel)
theorem q469 : Cond.static yX0_sumOfFirst ∈ tt_T := tt_m 469 (by decide +kernel) (by decide +kernel)
theorem q470 : Cond.code yX0_sumOfFirst cX0_sumOfFirst 4 (some FieldType.int) ∈ tt_T := tt_m 470 (by decide +kernel) (by decide +kernel)
theorem q471 : Cond.methodLink "TrustTin" 152 yX0_allCoins ∈ tt_T := tt_m 471 (by decide +kernel) (by decide +kernel)
theorem q472 : Cond.instanceMethod yX0_allCoins ∈ tt_T := tt_m 472 (by decide +kernel) (by decide +kernel)
theorem q473 : Cond.selects "TrustTin$Books" yX0_allCoins yX0_allCoins ∈ tt_T := tt_m 473 (by decide +kernel) (by decide +kernel)
theorem q474 : Cond.code yX0_allCoins cX0_allCoins 1 (some FieldType.int) ∈ tt_T := tt_m 474 (by decide +kernel) (by decide +kernel)
theorem q475 : Cond.methodLink "TrustTin" 155 yX6_commonDivisor ∈ tt_T := tt_m 475 (by decide +kernel) (by decide +kernel)
theorem q476 : Cond.static yX6_commonDivisor ∈ tt_T := tt_m 476 (by decide +kernel) (by decide +kernel)
theorem q477 : Cond.code yX6_commonDivisor cX6_commonDivisor 6 (some FieldType.int) ∈ tt_T := tt_m 477 (by decide +kernel) (by decide +kernel)
theorem q478 : Cond.methodLink "TrustTin" 277 yJ9_abs_0f7a4 ∈ tt_T := tt_m 478 (by decide +kernel) (by decide +kernel)
theorem q479 : Cond.static yJ9_abs_0f7a4 ∈ tt_T := tt_m 479 (by decide +kernel) (by decide +kernel)
theorem q480 : Cond.code yJ9_abs_0f7a4 cJ9_abs_0f7a4 1 (some FieldType.int) ∈ tt_T := tt_m 480 (by decide +kernel) (by decide +kernel)
theorem q481 : Cond.methodLink "TrustTin" 204 yJ9_max_7cf53 ∈ tt_T := tt_m 481 (by decide +kernel) (by decide +kernel)
theorem q482 : Cond.static yJ9_max_7cf53 ∈ tt_T := tt_m 482 (by decide +kernel) (by decide +kernel)
theorem q483 : Cond.code yJ9_max_7cf53 cJ9_max_7cf53 2 (some FieldType.int) ∈ tt_T := tt_m 483 (by decide +kernel) (by decide +kernel)
theorem q484 : Cond.methodLink "TrustTinLaw" 61 yX6_many ∈ tt_T := tt_m 484 (by decide +kernel) (by decide +kernel)
theorem q485 : Cond.instanceMethod yX6_many ∈ tt_T := tt_m 485 (by decide +kernel) (by decide +kernel)
theorem q486 : Cond.selects "TrustTin" yX6_many yX6_many ∈ tt_T := tt_m 486 (by decide +kernel) (by decide +kernel)
theorem q487 : Cond.code yX6_many cX6_many 4 (some FieldType.int) ∈ tt_T := tt_m 487 (by decide +kernel) (by decide +kernel)
theorem q488 : Cond.methodLink "TrustTin" 158 yX2_dueOf ∈ tt_T := tt_m 488 (by decide +kernel) (by decide +kernel)
theorem q489 : Cond.instanceMethod yX2_dueOf ∈ tt_T := tt_m 489 (by decide +kernel) (by decide +kernel)
theorem q490 : Cond.selects "TrustTin$Room" yX2_dueOf yX2_dueOf ∈ tt_T := tt_m 490 (by decide +kernel) (by decide +kernel)
theorem q491 : Cond.code yX2_dueOf cX2_dueOf 4 (some FieldType.int) ∈ tt_T := tt_m 491 (by decide +kernel) (by decide +kernel)
theorem q492 : Cond.methodLink "TrustTinLaw" 65 yX6_who ∈ tt_T := tt_m 492 (by decide +kernel) (by decide +kernel)
theorem q493 : Cond.instanceMethod yX6_who ∈ tt_T := tt_m 493 (by decide +kernel) (by decide +kernel)
theorem q494 : Cond.selects "TrustTin" yX6_who yX6_who ∈ tt_T := tt_m 494 (by decide +kernel) (by decide +kernel)
theorem q495 : Cond.code yX6_who cX6_who 6 (some FieldType.int) ∈ tt_T := tt_m 495 (by decide +kernel) (by decide +kernel)
theorem q496 : Cond.methodLink "TrustTinLaw" 69 yX6_fewest ∈ tt_T := tt_m 496 (by decide +kernel) (by decide +kernel)
theorem q497 : Cond.instanceMethod yX6_fewest ∈ tt_T := tt_m 497 (by decide +kernel) (by decide +kernel)
theorem q498 : Cond.selects "TrustTin" yX6_fewest yX6_fewest ∈ tt_T := tt_m 498 (by decide +kernel) (by decide +kernel)
theorem q499 : Cond.code yX6_fewest cX6_fewest 5 (some FieldType.int) ∈ tt_T := tt_m 499 (by decide +kernel) (by decide +kernel)
theorem q500 : Cond.methodLink "TrustTin" 161 yJ6_bitCount_0f7a4 ∈ tt_T := tt_m 500 (by decide +kernel) (by decide +kernel)
theorem q501 : Cond.static yJ6_bitCount_0f7a4 ∈ tt_T := tt_m 501 (by decide +kernel) (by decide +kernel)
theorem q502 : Cond.code yJ6_bitCount_0f7a4 cJ6_bitCount_0f7a4 1 (some FieldType.int) ∈ tt_T := tt_m 502 (by decide +kernel) (by decide +kernel)
theorem q503 : Cond.constant "java/lang/Integer" 265 (1431655765 : Int32) ∈ tt_T := tt_m 503 (by decide +kernel) (by decide +kernel)
theorem q504 : Cond.constant "java/lang/Integer" 266 (858993459 : Int32) ∈ tt_T := tt_m 504 (by decide +kernel) (by decide +kernel)
theorem q505 : Cond.constant "java/lang/Integer" 267 (252645135 : Int32) ∈ tt_T := tt_m 505 (by decide +kernel) (by decide +kernel)
theorem q506 : Cond.methodLink "TrustTinLaw" 73 yX6_ahead ∈ tt_T := tt_m 506 (by decide +kernel) (by decide +kernel)
theorem q507 : Cond.instanceMethod yX6_ahead ∈ tt_T := tt_m 507 (by decide +kernel) (by decide +kernel)
theorem q508 : Cond.selects "TrustTin" yX6_ahead yX6_ahead ∈ tt_T := tt_m 508 (by decide +kernel) (by decide +kernel)
theorem q509 : Cond.code yX6_ahead cX6_ahead 4 (some FieldType.int) ∈ tt_T := tt_m 509 (by decide +kernel) (by decide +kernel)
theorem q510 : Cond.methodLink "TrustTin" 166 yX2_takeRoom ∈ tt_T := tt_m 510 (by decide +kernel) (by decide +kernel)
theorem q511 : Cond.instanceMethod yX2_takeRoom ∈ tt_T := tt_m 511 (by decide +kernel) (by decide +kernel)
theorem q512 : Cond.selects "TrustTin$Room" yX2_takeRoom yX2_takeRoom ∈ tt_T := tt_m 512 (by decide +kernel) (by decide +kernel)
theorem q513 : Cond.code yX2_takeRoom cX2_takeRoom 3 none ∈ tt_T := tt_m 513 (by decide +kernel) (by decide +kernel)
theorem q514 : Cond.methodLink "TrustTin$Room" 63 yX1_take ∈ tt_T := tt_m 514 (by decide +kernel) (by decide +kernel)
theorem q515 : Cond.instanceMethod yX1_take ∈ tt_T := tt_m 515 (by decide +kernel) (by decide +kernel)
theorem q516 : Cond.selects "TrustTin$Drinker" yX1_take yX1_take ∈ tt_T := tt_m 516 (by decide +kernel) (by decide +kernel)
theorem q517 : Cond.code yX1_take cX1_take 2 none ∈ tt_T := tt_m 517 (by decide +kernel) (by decide +kernel)
theorem q518 : Cond.methodLink "TrustTinLaw" 77 yX6_rests ∈ tt_T := tt_m 518 (by decide +kernel) (by decide +kernel)
theorem q519 : Cond.instanceMethod yX6_rests ∈ tt_T := tt_m 519 (by decide +kernel) (by decide +kernel)
theorem q520 : Cond.selects "TrustTin" yX6_rests yX6_rests ∈ tt_T := tt_m 520 (by decide +kernel) (by decide +kernel)
theorem q521 : Cond.code yX6_rests cX6_rests 3 (some FieldType.int) ∈ tt_T := tt_m 521 (by decide +kernel) (by decide +kernel)
theorem q522 : Cond.methodLink "TrustTin" 173 yX6_lastBehindWeeks ∈ tt_T := tt_m 522 (by decide +kernel) (by decide +kernel)
theorem q524 : Cond.instanceMethod yX6_lastBehindWeeks ∈ tt_T := tt_m 524 (by decide +kernel) (by decide +kernel)
theorem q525 : Cond.code yX6_lastBehindWeeks cX6_lastBehindWeeks 3 (some FieldType.int) ∈ tt_T := tt_m 525 (by decide +kernel) (by decide +kernel)
theorem q526 : Cond.methodLink "TrustTin" 268 yX2_beginMonday ∈ tt_T := tt_m 526 (by decide +kernel) (by decide +kernel)
theorem q527 : Cond.instanceMethod yX2_beginMonday ∈ tt_T := tt_m 527 (by decide +kernel) (by decide +kernel)
theorem q528 : Cond.selects "TrustTin$Room" yX2_beginMonday yX2_beginMonday ∈ tt_T := tt_m 528 (by decide +kernel) (by decide +kernel)
theorem q529 : Cond.code yX2_beginMonday cX2_beginMonday 1 none ∈ tt_T := tt_m 529 (by decide +kernel) (by decide +kernel)
theorem q530 : Cond.methodLink "TrustTinLaw" 81 yX6_tips ∈ tt_T := tt_m 530 (by decide +kernel) (by decide +kernel)
theorem q531 : Cond.instanceMethod yX6_tips ∈ tt_T := tt_m 531 (by decide +kernel) (by decide +kernel)
theorem q532 : Cond.selects "TrustTin" yX6_tips yX6_tips ∈ tt_T := tt_m 532 (by decide +kernel) (by decide +kernel)
theorem q533 : Cond.code yX6_tips cX6_tips 3 (some FieldType.int) ∈ tt_T := tt_m 533 (by decide +kernel) (by decide +kernel)
theorem q534 : Cond.methodLink "TrustTinLaw" 85 yX6_best ∈ tt_T := tt_m 534 (by decide +kernel) (by decide +kernel)
theorem q535 : Cond.instanceMethod yX6_best ∈ tt_T := tt_m 535 (by decide +kernel) (by decide +kernel)
theorem q536 : Cond.selects "TrustTin" yX6_best yX6_best ∈ tt_T := tt_m 536 (by decide +kernel) (by decide +kernel)
theorem q537 : Cond.code yX6_best cX6_best 6 (some FieldType.int) ∈ tt_T := tt_m 537 (by decide +kernel) (by decide +kernel)
theorem q538 : Cond.methodLink "TrustTinLaw" 89 yX6_sign ∈ tt_T := tt_m 538 (by decide +kernel) (by decide +kernel)
theorem q539 : Cond.instanceMethod yX6_sign ∈ tt_T := tt_m 539 (by decide +kernel) (by decide +kernel)
theorem q540 : Cond.selects "TrustTin" yX6_sign yX6_sign ∈ tt_T := tt_m 540 (by decide +kernel) (by decide +kernel)
theorem q541 : Cond.code yX6_sign cX6_sign 6 (some FieldType.int) ∈ tt_T := tt_m 541 (by decide +kernel) (by decide +kernel)
theorem q542 : Cond.methodLink "TrustTinLaw" 93 yX6_potFor ∈ tt_T := tt_m 542 (by decide +kernel) (by decide +kernel)
theorem q543 : Cond.instanceMethod yX6_potFor ∈ tt_T := tt_m 543 (by decide +kernel) (by decide +kernel)
theorem q544 : Cond.selects "TrustTin" yX6_potFor yX6_potFor ∈ tt_T := tt_m 544 (by decide +kernel) (by decide +kernel)
theorem q545 : Cond.code yX6_potFor cX6_potFor 3 (some FieldType.int) ∈ tt_T := tt_m 545 (by decide +kernel) (by decide +kernel)
theorem q546 : Cond.methodLink "TrustTinLaw" 97 yX6_kindFor ∈ tt_T := tt_m 546 (by decide +kernel) (by decide +kernel)
theorem q547 : Cond.instanceMethod yX6_kindFor ∈ tt_T := tt_m 547 (by decide +kernel) (by decide +kernel)
theorem q548 : Cond.selects "TrustTin" yX6_kindFor yX6_kindFor ∈ tt_T := tt_m 548 (by decide +kernel) (by decide +kernel)
theorem q549 : Cond.code yX6_kindFor cX6_kindFor 8 (some FieldType.int) ∈ tt_T := tt_m 549 (by decide +kernel) (by decide +kernel)
theorem q550 : Cond.methodLink "TrustTinLaw" 101 yX6_told ∈ tt_T := tt_m 550 (by decide +kernel) (by decide +kernel)
theorem q551 : Cond.instanceMethod yX6_told ∈ tt_T := tt_m 551 (by decide +kernel) (by decide +kernel)
theorem q552 : Cond.selects "TrustTin" yX6_told yX6_told ∈ tt_T := tt_m 552 (by decide +kernel) (by decide +kernel)
theorem q553 : Cond.code yX6_told cX6_told 4 (some FieldType.int) ∈ tt_T := tt_m 553 (by decide +kernel) (by decide +kernel)
theorem q554 : Cond.methodLink "TrustTinLaw" 105 yX6_uneven ∈ tt_T := tt_m 554 (by decide +kernel) (by decide +kernel)
theorem q555 : Cond.instanceMethod yX6_uneven ∈ tt_T := tt_m 555 (by decide +kernel) (by decide +kernel)
theorem q556 : Cond.selects "TrustTin" yX6_uneven yX6_uneven ∈ tt_T := tt_m 556 (by decide +kernel) (by decide +kernel)
theorem q557 : Cond.code yX6_uneven cX6_uneven 9 (some FieldType.int) ∈ tt_T := tt_m 557 (by decide +kernel) (by decide +kernel)
theorem q558 : Cond.methodLink "TrustTin" 192 yX2_drinkersWhoDrank ∈ tt_T := tt_m 558 (by decide +kernel) (by decide +kernel)
theorem q559 : Cond.instanceMethod yX2_drinkersWhoDrank ∈ tt_T := tt_m 559 (by decide +kernel) (by decide +kernel)
theorem q560 : Cond.selects "TrustTin$Room" yX2_drinkersWhoDrank yX2_drinkersWhoDrank ∈ tt_T := tt_m 560 (by decide +kernel) (by decide +kernel)
theorem q561 : Cond.code yX2_drinkersWhoDrank cX2_drinkersWhoDrank 3 (some FieldType.int) ∈ tt_T := tt_m 561 (by decide +kernel) (by decide +kernel)
theorem q562 : Cond.constant "TrustTin" 195 (-2147483648 : Int32) ∈ tt_T := tt_m 562 (by decide +kernel) (by decide +kernel)
theorem q563 : Cond.constant "TrustTin" 196 (2147483647 : Int32) ∈ tt_T := tt_m 563 (by decide +kernel) (by decide +kernel)
theorem q564 : Cond.methodLink "TrustTin" 200 yX6_coinsByWay ∈ tt_T := tt_m 564 (by decide +kernel) (by decide +kernel)
theorem q566 : Cond.instanceMethod yX6_coinsByWay ∈ tt_T := tt_m 566 (by decide +kernel) (by decide +kernel)
theorem q567 : Cond.code yX6_coinsByWay cX6_coinsByWay 4 (some FieldType.int) ∈ tt_T := tt_m 567 (by decide +kernel) (by decide +kernel)
theorem q568 : Cond.methodLink "TrustTinLaw" 109 yX6_strokes ∈ tt_T := tt_m 568 (by decide +kernel) (by decide +kernel)
theorem q569 : Cond.instanceMethod yX6_strokes ∈ tt_T := tt_m 569 (by decide +kernel) (by decide +kernel)
theorem q570 : Cond.selects "TrustTin" yX6_strokes yX6_strokes ∈ tt_T := tt_m 570 (by decide +kernel) (by decide +kernel)
theorem q571 : Cond.code yX6_strokes cX6_strokes 5 (some FieldType.int) ∈ tt_T := tt_m 571 (by decide +kernel) (by decide +kernel)
theorem q572 : Cond.methodLink "TrustTin" 207 yX2_draw ∈ tt_T := tt_m 572 (by decide +kernel) (by decide +kernel)
theorem q573 : Cond.methodLink "TrustTinLaw" 113 yX6_lacks ∈ tt_T := tt_m 573 (by decide +kernel) (by decide +kernel)
theorem q574 : Cond.instanceMethod yX6_lacks ∈ tt_T := tt_m 574 (by decide +kernel) (by decide +kernel)
theorem q575 : Cond.selects "TrustTin" yX6_lacks yX6_lacks ∈ tt_T := tt_m 575 (by decide +kernel) (by decide +kernel)
theorem q576 : Cond.code yX6_lacks cX6_lacks 1 (some FieldType.int) ∈ tt_T := tt_m 576 (by decide +kernel) (by decide +kernel)
theorem q577 : Cond.methodLink "TrustTinLaw" 117 yX6_owes ∈ tt_T := tt_m 577 (by decide +kernel) (by decide +kernel)
theorem q578 : Cond.instanceMethod yX6_owes ∈ tt_T := tt_m 578 (by decide +kernel) (by decide +kernel)
theorem q579 : Cond.selects "TrustTin" yX6_owes yX6_owes ∈ tt_T := tt_m 579 (by decide +kernel) (by decide +kernel)
theorem q580 : Cond.code yX6_owes cX6_owes 5 (some FieldType.int) ∈ tt_T := tt_m 580 (by decide +kernel) (by decide +kernel)
theorem q581 : Cond.methodLink "TrustTin" 210 yX2_owedBy ∈ tt_T := tt_m 581 (by decide +kernel) (by decide +kernel)
theorem q582 : Cond.instanceMethod yX2_owedBy ∈ tt_T := tt_m 582 (by decide +kernel) (by decide +kernel)
theorem q583 : Cond.selects "TrustTin$Room" yX2_owedBy yX2_owedBy ∈ tt_T := tt_m 583 (by decide +kernel) (by decide +kernel)
theorem q584 : Cond.code yX2_owedBy cX2_owedBy 2 (some FieldType.int) ∈ tt_T := tt_m 584 (by decide +kernel) (by decide +kernel)
theorem q585 : Cond.methodLink "TrustTinLaw" 121 yX6_odds ∈ tt_T := tt_m 585 (by decide +kernel) (by decide +kernel)
theorem q586 : Cond.instanceMethod yX6_odds ∈ tt_T := tt_m 586 (by decide +kernel) (by decide +kernel)
theorem q587 : Cond.selects "TrustTin" yX6_odds yX6_odds ∈ tt_T := tt_m 587 (by decide +kernel) (by decide +kernel)
theorem q588 : Cond.code yX6_odds cX6_odds 5 (some FieldType.int) ∈ tt_T := tt_m 588 (by decide +kernel) (by decide +kernel)
theorem q589 : Cond.methodLink "TrustTinLaw" 125 yX6_seed ∈ tt_T := tt_m 589 (by decide +kernel) (by decide +kernel)
theorem q590 : Cond.instanceMethod yX6_seed ∈ tt_T := tt_m 590 (by decide +kernel) (by decide +kernel)
theorem q591 : Cond.selects "TrustTin" yX6_seed yX6_seed ∈ tt_T := tt_m 591 (by decide +kernel) (by decide +kernel)
theorem q592 : Cond.code yX6_seed cX6_seed 3 (some FieldType.int) ∈ tt_T := tt_m 592 (by decide +kernel) (by decide +kernel)
theorem q593 : Cond.methodLink "TrustTinLaw" 129 yX6_feed ∈ tt_T := tt_m 593 (by decide +kernel) (by decide +kernel)
theorem q594 : Cond.instanceMethod yX6_feed ∈ tt_T := tt_m 594 (by decide +kernel) (by decide +kernel)
theorem q595 : Cond.selects "TrustTin" yX6_feed yX6_feed ∈ tt_T := tt_m 595 (by decide +kernel) (by decide +kernel)
theorem q596 : Cond.code yX6_feed cX6_feed 4 (some FieldType.int) ∈ tt_T := tt_m 596 (by decide +kernel) (by decide +kernel)
theorem q597 : Cond.methodLink "TrustTin" 217 yX4_put ∈ tt_T := tt_m 597 (by decide +kernel) (by decide +kernel)
theorem q598 : Cond.instanceMethod yX4_put ∈ tt_T := tt_m 598 (by decide +kernel) (by decide +kernel)
theorem q599 : Cond.selects "TrustTin$Tape" yX4_put yX4_put ∈ tt_T := tt_m 599 (by decide +kernel) (by decide +kernel)
theorem q600 : Cond.code yX4_put cX4_put 2 none ∈ tt_T := tt_m 600 (by decide +kernel) (by decide +kernel)
theorem q601 : Cond.methodLink "TrustTinLaw" 133 yX6_wipe ∈ tt_T := tt_m 601 (by decide +kernel) (by decide +kernel)
theorem q602 : Cond.instanceMethod yX6_wipe ∈ tt_T := tt_m 602 (by decide +kernel) (by decide +kernel)
theorem q603 : Cond.selects "TrustTin" yX6_wipe yX6_wipe ∈ tt_T := tt_m 603 (by decide +kernel) (by decide +kernel)
theorem q604 : Cond.code yX6_wipe cX6_wipe 2 (some FieldType.int) ∈ tt_T := tt_m 604 (by decide +kernel) (by decide +kernel)
theorem q605 : Cond.methodLink "TrustTinLaw" 137 yX6_text ∈ tt_T := tt_m 605 (by decide +kernel) (by decide +kernel)
theorem q606 : Cond.instanceMethod yX6_text ∈ tt_T := tt_m 606 (by decide +kernel) (by decide +kernel)
theorem q607 : Cond.selects "TrustTin" yX6_text yX6_text ∈ tt_T := tt_m 607 (by decide +kernel) (by decide +kernel)
theorem q608 : Cond.code yX6_text cX6_text 2 (some FieldType.int) ∈ tt_T := tt_m 608 (by decide +kernel) (by decide +kernel)
theorem q609 : Cond.methodLink "TrustTin" 220 yX5_read ∈ tt_T := tt_m 609 (by decide +kernel) (by decide +kernel)
theorem q610 : Cond.instanceMethod yX5_read ∈ tt_T := tt_m 610 (by decide +kernel) (by decide +kernel)
theorem q611 : Cond.selects "TrustTin$TextReader" yX5_read yX5_read ∈ tt_T := tt_m 611 (by decide +kernel) (by decide +kernel)
theorem q612 : Cond.code yX5_read cX5_read 3 (some FieldType.int) ∈ tt_T := tt_m 612 (by decide +kernel) (by decide +kernel)
theorem q613 : Cond.methodLink "TrustTin$TextReader" 31 yX5_advance ∈ tt_T := tt_m 613 (by decide +kernel) (by decide +kernel)
theorem q615 : Cond.instanceMethod yX5_advance ∈ tt_T := tt_m 615 (by decide +kernel) (by decide +kernel)
theorem q616 : Cond.code yX5_advance cX5_advance 2 none ∈ tt_T := tt_m 616 (by decide +kernel) (by decide +kernel)
theorem q617 : Cond.methodLink "TrustTin$TextReader" 115 yX5_byteAt ∈ tt_T := tt_m 617 (by decide +kernel) (by decide +kernel)
theorem q619 : Cond.instanceMethod yX5_byteAt ∈ tt_T := tt_m 619 (by decide +kernel) (by decide +kernel)
theorem q620 : Cond.code yX5_byteAt cX5_byteAt 2 (some FieldType.int) ∈ tt_T := tt_m 620 (by decide +kernel) (by decide +kernel)
theorem q621 : Cond.methodLink "TrustTin$TextReader" 126 yX5_isLetter ∈ tt_T := tt_m 621 (by decide +kernel) (by decide +kernel)
theorem q622 : Cond.static yX5_isLetter ∈ tt_T := tt_m 622 (by decide +kernel) (by decide +kernel)
theorem q623 : Cond.code yX5_isLetter cX5_isLetter 1 (some FieldType.boolean) ∈ tt_T := tt_m 623 (by decide +kernel) (by decide +kernel)
theorem q624 : Cond.methodLink "TrustTin$TextReader" 130 yX5_passLetters ∈ tt_T := tt_m 624 (by decide +kernel) (by decide +kernel)
theorem q626 : Cond.instanceMethod yX5_passLetters ∈ tt_T := tt_m 626 (by decide +kernel) (by decide +kernel)
theorem q627 : Cond.code yX5_passLetters cX5_passLetters 1 none ∈ tt_T := tt_m 627 (by decide +kernel) (by decide +kernel)
theorem q628 : Cond.methodLink "TrustTin$TextReader" 133 yX5_isDigit ∈ tt_T := tt_m 628 (by decide +kernel) (by decide +kernel)
theorem q629 : Cond.static yX5_isDigit ∈ tt_T := tt_m 629 (by decide +kernel) (by decide +kernel)
theorem q630 : Cond.code yX5_isDigit cX5_isDigit 1 (some FieldType.boolean) ∈ tt_T := tt_m 630 (by decide +kernel) (by decide +kernel)
theorem q631 : Cond.methodLink "TrustTin$TextReader" 136 yX5_passDigits ∈ tt_T := tt_m 631 (by decide +kernel) (by decide +kernel)
theorem q633 : Cond.instanceMethod yX5_passDigits ∈ tt_T := tt_m 633 (by decide +kernel) (by decide +kernel)
theorem q634 : Cond.code yX5_passDigits cX5_passDigits 1 none ∈ tt_T := tt_m 634 (by decide +kernel) (by decide +kernel)
theorem q635 : Cond.methodLink "TrustTin$TextReader" 139 yJ9_min_7cf53 ∈ tt_T := tt_m 635 (by decide +kernel) (by decide +kernel)
theorem q636 : Cond.methodLink "TrustTin$TextReader" 34 yX5_readItem ∈ tt_T := tt_m 636 (by decide +kernel) (by decide +kernel)
theorem q638 : Cond.instanceMethod yX5_readItem ∈ tt_T := tt_m 638 (by decide +kernel) (by decide +kernel)
theorem q639 : Cond.code yX5_readItem cX5_readItem 3 (some FieldType.boolean) ∈ tt_T := tt_m 639 (by decide +kernel) (by decide +kernel)
theorem q640 : Cond.methodLink "TrustTin$TextReader" 38 yX5_kindOfWord ∈ tt_T := tt_m 640 (by decide +kernel) (by decide +kernel)
theorem q642 : Cond.instanceMethod yX5_kindOfWord ∈ tt_T := tt_m 642 (by decide +kernel) (by decide +kernel)
theorem q643 : Cond.code yX5_kindOfWord cX5_kindOfWord 2 (some FieldType.int) ∈ tt_T := tt_m 643 (by decide +kernel) (by decide +kernel)
theorem q644 : Cond.methodLink "TrustTin$TextReader" 100 yX5_wordOfKind ∈ tt_T := tt_m 644 (by decide +kernel) (by decide +kernel)
theorem q645 : Cond.static yX5_wordOfKind ∈ tt_T := tt_m 645 (by decide +kernel) (by decide +kernel)
theorem q646 : Cond.code yX5_wordOfKind cX5_wordOfKind 1 (some (FieldType.object "java/lang/String")) ∈ tt_T := tt_m 646 (by decide +kernel) (by decide +kernel)
theorem q654 : Cond.methodLink "TrustTin$TextReader" 103 yX5_isWord ∈ tt_T := tt_m 654 (by decide +kernel) (by decide +kernel)
theorem q656 : Cond.instanceMethod yX5_isWord ∈ tt_T := tt_m 656 (by decide +kernel) (by decide +kernel)
theorem q657 : Cond.code yX5_isWord cX5_isWord 3 (some FieldType.boolean) ∈ tt_T := tt_m 657 (by decide +kernel) (by decide +kernel)
theorem q658 : Cond.methodLink "TrustTin$TextReader" 110 yJ0_length_8abf5 ∈ tt_T := tt_m 658 (by decide +kernel) (by decide +kernel)
theorem q659 : Cond.instanceMethod yJ0_length_8abf5 ∈ tt_T := tt_m 659 (by decide +kernel) (by decide +kernel)
theorem q660 : Cond.selects "java/lang/String" yJ0_length_8abf5 yJ0_length_8abf5 ∈ tt_T := tt_m 660 (by decide +kernel) (by decide +kernel)
theorem q661 : Cond.code yJ0_length_8abf5 cJ0_length_8abf5 1 (some FieldType.int) ∈ tt_T := tt_m 661 (by decide +kernel) (by decide +kernel)
theorem q662 : Cond.methodLink "java/lang/String" 335 yJ0_coder_7d493 ∈ tt_T := tt_m 662 (by decide +kernel) (by decide +kernel)
theorem q663 : Cond.instanceMethod yJ0_coder_7d493 ∈ tt_T := tt_m 663 (by decide +kernel) (by decide +kernel)
theorem q664 : Cond.selects "java/lang/String" yJ0_coder_7d493 yJ0_coder_7d493 ∈ tt_T := tt_m 664 (by decide +kernel) (by decide +kernel)
theorem q665 : Cond.code yJ0_coder_7d493 cJ0_coder_7d493 1 (some FieldType.byte) ∈ tt_T := tt_m 665 (by decide +kernel) (by decide +kernel)
theorem q666 : Cond.fieldLink "java/lang/String" 38 "java/lang/String" "COMPACT_STRINGS" "Z" ∈ tt_T := tt_m 666 (by decide +kernel) (by decide +kernel)
theorem q668 : Cond.methodLink "TrustTin$TextReader" 119 yJ0_charAt_5068e ∈ tt_T := tt_m 668 (by decide +kernel) (by decide +kernel)
theorem q669 : Cond.instanceMethod yJ0_charAt_5068e ∈ tt_T := tt_m 669 (by decide +kernel) (by decide +kernel)
theorem q670 : Cond.selects "java/lang/String" yJ0_charAt_5068e yJ0_charAt_5068e ∈ tt_T := tt_m 670 (by decide +kernel) (by decide +kernel)
theorem q671 : Cond.code yJ0_charAt_5068e cJ0_charAt_5068e 2 (some FieldType.char) ∈ tt_T := tt_m 671 (by decide +kernel) (by decide +kernel)
theorem q672 : Cond.methodLink "java/lang/String" 492 yJ0_isLatin1_aae02 ∈ tt_T := tt_m 672 (by decide +kernel) (by decide +kernel)
theorem q673 : Cond.instanceMethod yJ0_isLatin1_aae02 ∈ tt_T := tt_m 673 (by decide +kernel) (by decide +kernel)
theorem q674 : Cond.selects "java/lang/String" yJ0_isLatin1_aae02 yJ0_isLatin1_aae02 ∈ tt_T := tt_m 674 (by decide +kernel) (by decide +kernel)
theorem q675 : Cond.code yJ0_isLatin1_aae02 cJ0_isLatin1_aae02 1 (some FieldType.boolean) ∈ tt_T := tt_m 675 (by decide +kernel) (by decide +kernel)
theorem q676 : Cond.methodLink "java/lang/String" 495 yJ1_charAt_3b067 ∈ tt_T := tt_m 676 (by decide +kernel) (by decide +kernel)
theorem q677 : Cond.static yJ1_charAt_3b067 ∈ tt_T := tt_m 677 (by decide +kernel) (by decide +kernel)
theorem q678 : Cond.code yJ1_charAt_3b067 cJ1_charAt_3b067 2 (some FieldType.char) ∈ tt_T := tt_m 678 (by decide +kernel) (by decide +kernel)
theorem q679 : Cond.methodLink "java/lang/StringLatin1" 9 yJ0_checkIndex_df160 ∈ tt_T := tt_m 679 (by decide +kernel) (by decide +kernel)
theorem q680 : Cond.static yJ0_checkIndex_df160 ∈ tt_T := tt_m 680 (by decide +kernel) (by decide +kernel)
theorem q681 : Cond.code yJ0_checkIndex_df160 cJ0_checkIndex_df160 2 none ∈ tt_T := tt_m 681 (by decide +kernel) (by decide +kernel)
theorem q682 : Cond.fieldLink "java/lang/String" 1053 "jdk/internal/util/Preconditions" "SIOOBE_FORMATTER" "Ljava/util/function/BiFunction;" ∈ tt_T := tt_m 682 (by decide +kernel) (by decide +kernel)
theorem q684 : Cond.methodLink "java/lang/String" 1059 yJ3_checkIndex_8e157 ∈ tt_T := tt_m 684 (by decide +kernel) (by decide +kernel)
theorem q685 : Cond.static yJ3_checkIndex_8e157 ∈ tt_T := tt_m 685 (by decide +kernel) (by decide +kernel)
theorem q686 : Cond.code yJ3_checkIndex_8e157 cJ3_checkIndex_8e157 3 (some FieldType.int) ∈ tt_T := tt_m 686 (by decide +kernel) (by decide +kernel)
theorem q687 : Cond.methodLink "java/lang/String" 498 yJ2_charAt_3b067 ∈ tt_T := tt_m 687 (by decide +kernel) (by decide +kernel)
theorem q688 : Cond.static yJ2_charAt_3b067 ∈ tt_T := tt_m 688 (by decide +kernel) (by decide +kernel)
theorem q689 : Cond.code yJ2_charAt_3b067 cJ2_charAt_3b067 2 (some FieldType.char) ∈ tt_T := tt_m 689 (by decide +kernel) (by decide +kernel)
theorem q690 : Cond.methodLink "java/lang/StringUTF16" 67 yJ2_checkIndex_2214a ∈ tt_T := tt_m 690 (by decide +kernel) (by decide +kernel)
theorem q691 : Cond.static yJ2_checkIndex_2214a ∈ tt_T := tt_m 691 (by decide +kernel) (by decide +kernel)
theorem q692 : Cond.code yJ2_checkIndex_2214a cJ2_checkIndex_2214a 2 none ∈ tt_T := tt_m 692 (by decide +kernel) (by decide +kernel)
theorem q693 : Cond.methodLink "java/lang/StringUTF16" 48 yJ2_length_9d52b ∈ tt_T := tt_m 693 (by decide +kernel) (by decide +kernel)
theorem q694 : Cond.static yJ2_length_9d52b ∈ tt_T := tt_m 694 (by decide +kernel) (by decide +kernel)
theorem q695 : Cond.code yJ2_length_9d52b cJ2_length_9d52b 1 (some FieldType.int) ∈ tt_T := tt_m 695 (by decide +kernel) (by decide +kernel)
theorem q696 : Cond.methodLink "java/lang/StringUTF16" 414 yJ0_checkIndex_df160 ∈ tt_T := tt_m 696 (by decide +kernel) (by decide +kernel)
theorem q697 : Cond.methodLink "java/lang/StringUTF16" 71 yJ2_getChar_3b067 ∈ tt_T := tt_m 697 (by decide +kernel) (by decide +kernel)
theorem q698 : Cond.static yJ2_getChar_3b067 ∈ tt_T := tt_m 698 (by decide +kernel) (by decide +kernel)
theorem q699 : Cond.code yJ2_getChar_3b067 cJ2_getChar_3b067 2 (some FieldType.char) ∈ tt_T := tt_m 699 (by decide +kernel) (by decide +kernel)
theorem q700 : Cond.fieldLink "java/lang/StringUTF16" 44 "java/lang/StringUTF16" "$assertionsDisabled" "Z" ∈ tt_T := tt_m 700 (by decide +kernel) (by decide +kernel)
theorem q702 : Cond.fieldLink "java/lang/StringUTF16" 59 "java/lang/StringUTF16" "HI_BYTE_SHIFT" "I" ∈ tt_T := tt_m 702 (by decide +kernel) (by decide +kernel)
theorem q704 : Cond.fieldLink "java/lang/StringUTF16" 63 "java/lang/StringUTF16" "LO_BYTE_SHIFT" "I" ∈ tt_T := tt_m 704 (by decide +kernel) (by decide +kernel)
theorem q706 : Cond.methodLink "TrustTin$TextReader" 47 yX5_readDrinker ∈ tt_T := tt_m 706 (by decide +kernel) (by decide +kernel)
theorem q708 : Cond.instanceMethod yX5_readDrinker ∈ tt_T := tt_m 708 (by decide +kernel) (by decide +kernel)
theorem q709 : Cond.code yX5_readDrinker cX5_readDrinker 4 (some FieldType.boolean) ∈ tt_T := tt_m 709 (by decide +kernel) (by decide +kernel)
theorem q710 : Cond.methodLink "TrustTin$TextReader" 70 yX5_takeNumber ∈ tt_T := tt_m 710 (by decide +kernel) (by decide +kernel)
theorem q712 : Cond.instanceMethod yX5_takeNumber ∈ tt_T := tt_m 712 (by decide +kernel) (by decide +kernel)
theorem q713 : Cond.code yX5_takeNumber cX5_takeNumber 3 (some FieldType.boolean) ∈ tt_T := tt_m 713 (by decide +kernel) (by decide +kernel)
theorem q715 : Cond.methodLink "TrustTin$TextReader" 74 yX2_addDrinker ∈ tt_T := tt_m 715 (by decide +kernel) (by decide +kernel)
theorem q717 : Cond.methodLink "TrustTin$TextReader" 53 yX5_takeWord ∈ tt_T := tt_m 717 (by decide +kernel) (by decide +kernel)
theorem q719 : Cond.instanceMethod yX5_takeWord ∈ tt_T := tt_m 719 (by decide +kernel) (by decide +kernel)
theorem q720 : Cond.code yX5_takeWord cX5_takeWord 2 (some FieldType.boolean) ∈ tt_T := tt_m 720 (by decide +kernel) (by decide +kernel)
theorem q723 : Cond.methodLink "TrustTin$TextReader" 57 yX5_readPrice ∈ tt_T := tt_m 723 (by decide +kernel) (by decide +kernel)
theorem q725 : Cond.instanceMethod yX5_readPrice ∈ tt_T := tt_m 725 (by decide +kernel) (by decide +kernel)
theorem q726 : Cond.code yX5_readPrice cX5_readPrice 2 (some FieldType.boolean) ∈ tt_T := tt_m 726 (by decide +kernel) (by decide +kernel)
theorem q728 : Cond.methodLink "TrustTin$TextReader" 62 yX5_readPot ∈ tt_T := tt_m 728 (by decide +kernel) (by decide +kernel)
theorem q730 : Cond.instanceMethod yX5_readPot ∈ tt_T := tt_m 730 (by decide +kernel) (by decide +kernel)
theorem q731 : Cond.code yX5_readPot cX5_readPot 2 (some FieldType.boolean) ∈ tt_T := tt_m 731 (by decide +kernel) (by decide +kernel)
theorem q732 : Cond.methodLink "TrustTin$TextReader" 90 yX2_setPot ∈ tt_T := tt_m 732 (by decide +kernel) (by decide +kernel)
theorem q734 : Cond.methodLink "TrustTin$TextReader" 67 yX5_readSign ∈ tt_T := tt_m 734 (by decide +kernel) (by decide +kernel)
theorem q736 : Cond.instanceMethod yX5_readSign ∈ tt_T := tt_m 736 (by decide +kernel) (by decide +kernel)
theorem q737 : Cond.code yX5_readSign cX5_readSign 3 (some FieldType.boolean) ∈ tt_T := tt_m 737 (by decide +kernel) (by decide +kernel)
theorem q738 : Cond.methodLink "TrustTin$TextReader" 94 yX5_wordOfSign ∈ tt_T := tt_m 738 (by decide +kernel) (by decide +kernel)
theorem q739 : Cond.static yX5_wordOfSign ∈ tt_T := tt_m 739 (by decide +kernel) (by decide +kernel)
theorem q740 : Cond.code yX5_wordOfSign cX5_wordOfSign 1 (some (FieldType.object "java/lang/String")) ∈ tt_T := tt_m 740 (by decide +kernel) (by decide +kernel)
theorem q744 : Cond.arrayClass FieldType.byte ∈ tt_T := tt_m 744 (by decide +kernel) (by decide +kernel)
theorem q745 : Cond.methodLink "TrustTinLaw" 141 yX6_hold ∈ tt_T := tt_m 745 (by decide +kernel) (by decide +kernel)
theorem q746 : Cond.instanceMethod yX6_hold ∈ tt_T := tt_m 746 (by decide +kernel) (by decide +kernel)
theorem q747 : Cond.selects "TrustTin" yX6_hold yX6_hold ∈ tt_T := tt_m 747 (by decide +kernel) (by decide +kernel)
theorem q748 : Cond.code yX6_hold cX6_hold 3 (some FieldType.int) ∈ tt_T := tt_m 748 (by decide +kernel) (by decide +kernel)
theorem q749 : Cond.methodLink "TrustTinLaw" 145 yX6_as ∈ tt_T := tt_m 749 (by decide +kernel) (by decide +kernel)
theorem q750 : Cond.instanceMethod yX6_as ∈ tt_T := tt_m 750 (by decide +kernel) (by decide +kernel)
theorem q751 : Cond.selects "TrustTin" yX6_as yX6_as ∈ tt_T := tt_m 751 (by decide +kernel) (by decide +kernel)
theorem q752 : Cond.code yX6_as cX6_as 4 (some FieldType.int) ∈ tt_T := tt_m 752 (by decide +kernel) (by decide +kernel)
theorem q753 : Cond.methodLink "TrustTin" 227 yX6_isUnder ∈ tt_T := tt_m 753 (by decide +kernel) (by decide +kernel)
theorem q754 : Cond.static yX6_isUnder ∈ tt_T := tt_m 754 (by decide +kernel) (by decide +kernel)
theorem q755 : Cond.code yX6_isUnder cX6_isUnder 4 (some FieldType.boolean) ∈ tt_T := tt_m 755 (by decide +kernel) (by decide +kernel)
theorem q756 : Cond.fieldLink "TrustTin" 274 "TrustTin" "ABOVE" "[I" ∈ tt_T := tt_m 756 (by decide +kernel) (by decide +kernel)
theorem q758 : Cond.methodLink "TrustTinLaw" 149 yX6_sheet ∈ tt_T := tt_m 758 (by decide +kernel) (by decide +kernel)
theorem q759 : Cond.instanceMethod yX6_sheet ∈ tt_T := tt_m 759 (by decide +kernel) (by decide +kernel)
theorem q760 : Cond.selects "TrustTin" yX6_sheet yX6_sheet ∈ tt_T := tt_m 760 (by decide +kernel) (by decide +kernel)
theorem q761 : Cond.code yX6_sheet cX6_sheet 4 (some FieldType.int) ∈ tt_T := tt_m 761 (by decide +kernel) (by decide +kernel)
theorem q762 : Cond.methodLink "TrustTin" 230 yX6_isSheet ∈ tt_T := tt_m 762 (by decide +kernel) (by decide +kernel)
theorem q763 : Cond.static yX6_isSheet ∈ tt_T := tt_m 763 (by decide +kernel) (by decide +kernel)
theorem q764 : Cond.code yX6_isSheet cX6_isSheet 1 (some FieldType.boolean) ∈ tt_T := tt_m 764 (by decide +kernel) (by decide +kernel)
theorem q765 : Cond.methodLink "TrustTin" 233 yX3_begin ∈ tt_T := tt_m 765 (by decide +kernel) (by decide +kernel)
theorem q766 : Cond.instanceMethod yX3_begin ∈ tt_T := tt_m 766 (by decide +kernel) (by decide +kernel)
theorem q767 : Cond.selects "TrustTin$Sheet" yX3_begin yX3_begin ∈ tt_T := tt_m 767 (by decide +kernel) (by decide +kernel)
theorem q768 : Cond.code yX3_begin cX3_begin 4 none ∈ tt_T := tt_m 768 (by decide +kernel) (by decide +kernel)
theorem q769 : Cond.methodLink "TrustTinLaw" 153 yX6_write ∈ tt_T := tt_m 769 (by decide +kernel) (by decide +kernel)
theorem q770 : Cond.instanceMethod yX6_write ∈ tt_T := tt_m 770 (by decide +kernel) (by decide +kernel)
theorem q771 : Cond.selects "TrustTin" yX6_write yX6_write ∈ tt_T := tt_m 771 (by decide +kernel) (by decide +kernel)
theorem q772 : Cond.code yX6_write cX6_write 4 (some FieldType.int) ∈ tt_T := tt_m 772 (by decide +kernel) (by decide +kernel)
theorem q773 : Cond.methodLink "TrustTin" 237 yX3_isMissing ∈ tt_T := tt_m 773 (by decide +kernel) (by decide +kernel)
theorem q774 : Cond.instanceMethod yX3_isMissing ∈ tt_T := tt_m 774 (by decide +kernel) (by decide +kernel)
theorem q775 : Cond.selects "TrustTin$Sheet" yX3_isMissing yX3_isMissing ∈ tt_T := tt_m 775 (by decide +kernel) (by decide +kernel)
theorem q776 : Cond.code yX3_isMissing cX3_isMissing 1 (some FieldType.boolean) ∈ tt_T := tt_m 776 (by decide +kernel) (by decide +kernel)
theorem q777 : Cond.methodLink "TrustTin" 241 yX3_put ∈ tt_T := tt_m 777 (by decide +kernel) (by decide +kernel)
theorem q778 : Cond.instanceMethod yX3_put ∈ tt_T := tt_m 778 (by decide +kernel) (by decide +kernel)
theorem q779 : Cond.selects "TrustTin$Sheet" yX3_put yX3_put ∈ tt_T := tt_m 779 (by decide +kernel) (by decide +kernel)
theorem q780 : Cond.code yX3_put cX3_put 4 none ∈ tt_T := tt_m 780 (by decide +kernel) (by decide +kernel)
theorem q781 : Cond.methodLink "TrustTinLaw" 157 yX6_copy ∈ tt_T := tt_m 781 (by decide +kernel) (by decide +kernel)
theorem q782 : Cond.instanceMethod yX6_copy ∈ tt_T := tt_m 782 (by decide +kernel) (by decide +kernel)
theorem q783 : Cond.selects "TrustTin" yX6_copy yX6_copy ∈ tt_T := tt_m 783 (by decide +kernel) (by decide +kernel)
theorem q784 : Cond.code yX6_copy cX6_copy 8 (some FieldType.int) ∈ tt_T := tt_m 784 (by decide +kernel) (by decide +kernel)
theorem q785 : Cond.methodLink "TrustTin" 246 yX3_has ∈ tt_T := tt_m 785 (by decide +kernel) (by decide +kernel)
theorem q786 : Cond.instanceMethod yX3_has ∈ tt_T := tt_m 786 (by decide +kernel) (by decide +kernel)
theorem q787 : Cond.selects "TrustTin$Sheet" yX3_has yX3_has ∈ tt_T := tt_m 787 (by decide +kernel) (by decide +kernel)
theorem q788 : Cond.code yX3_has cX3_has 3 (some FieldType.boolean) ∈ tt_T := tt_m 788 (by decide +kernel) (by decide +kernel)
theorem q789 : Cond.methodLink "TrustTin" 252 ⟨"java/lang/System", "arraycopy", "(Ljava/lang/Object;ILjava/lang/Object;II)V"⟩ ∈ tt_T := tt_m 789 (by decide +kernel) (by decide +kernel)
theorem q790 : Cond.methodLink "TrustTinLaw" 162 yX6_load ∈ tt_T := tt_m 790 (by decide +kernel) (by decide +kernel)
theorem q791 : Cond.instanceMethod yX6_load ∈ tt_T := tt_m 791 (by decide +kernel) (by decide +kernel)
theorem q792 : Cond.selects "TrustTin" yX6_load yX6_load ∈ tt_T := tt_m 792 (by decide +kernel) (by decide +kernel)
theorem q793 : Cond.code yX6_load cX6_load 5 (some FieldType.int) ∈ tt_T := tt_m 793 (by decide +kernel) (by decide +kernel)
theorem q794 : Cond.methodLink "TrustTinLaw" 166 yX6_judge ∈ tt_T := tt_m 794 (by decide +kernel) (by decide +kernel)
theorem q795 : Cond.instanceMethod yX6_judge ∈ tt_T := tt_m 795 (by decide +kernel) (by decide +kernel)
theorem q796 : Cond.selects "TrustTin" yX6_judge yX6_judge ∈ tt_T := tt_m 796 (by decide +kernel) (by decide +kernel)
theorem q797 : Cond.code yX6_judge cX6_judge 4 (some FieldType.int) ∈ tt_T := tt_m 797 (by decide +kernel) (by decide +kernel)
theorem q798 : Cond.methodLink "TrustTinLaw" 170 yX6_image ∈ tt_T := tt_m 798 (by decide +kernel) (by decide +kernel)
theorem q799 : Cond.instanceMethod yX6_image ∈ tt_T := tt_m 799 (by decide +kernel) (by decide +kernel)
theorem q800 : Cond.selects "TrustTin" yX6_image yX6_image ∈ tt_T := tt_m 800 (by decide +kernel) (by decide +kernel)
theorem q801 : Cond.code yX6_image cX6_image 1 (some FieldType.int) ∈ tt_T := tt_m 801 (by decide +kernel) (by decide +kernel)
theorem q802 : Cond.methodLink "TrustTin" 258 yX2_takeAll ∈ tt_T := tt_m 802 (by decide +kernel) (by decide +kernel)
theorem q803 : Cond.instanceMethod yX2_takeAll ∈ tt_T := tt_m 803 (by decide +kernel) (by decide +kernel)
theorem q804 : Cond.selects "TrustTin$Room" yX2_takeAll yX2_takeAll ∈ tt_T := tt_m 804 (by decide +kernel) (by decide +kernel)
theorem q805 : Cond.code yX2_takeAll cX2_takeAll 2 none ∈ tt_T := tt_m 805 (by decide +kernel) (by decide +kernel)
theorem q806 : Cond.methodLink "TrustTin$Room" 67 yX2_takeRoom ∈ tt_T := tt_m 806 (by decide +kernel) (by decide +kernel)
theorem q807 : Cond.methodLink "TrustTin$Room" 71 yX0_take ∈ tt_T := tt_m 807 (by decide +kernel) (by decide +kernel)
theorem q808 : Cond.instanceMethod yX0_take ∈ tt_T := tt_m 808 (by decide +kernel) (by decide +kernel)
theorem q809 : Cond.selects "TrustTin$Books" yX0_take yX0_take ∈ tt_T := tt_m 809 (by decide +kernel) (by decide +kernel)
theorem q810 : Cond.code yX0_take cX0_take 2 none ∈ tt_T := tt_m 810 (by decide +kernel) (by decide +kernel)
theorem q811 : Cond.methodLink "TrustTin$Room" 74 ⟨"java/lang/System", "arraycopy", "(Ljava/lang/Object;ILjava/lang/Object;II)V"⟩ ∈ tt_T := tt_m 811 (by decide +kernel) (by decide +kernel)
theorem q812 : Cond.methodLink "TrustTinLaw" 174 yX6_undo ∈ tt_T := tt_m 812 (by decide +kernel) (by decide +kernel)
theorem q813 : Cond.instanceMethod yX6_undo ∈ tt_T := tt_m 813 (by decide +kernel) (by decide +kernel)
theorem q814 : Cond.selects "TrustTin" yX6_undo yX6_undo ∈ tt_T := tt_m 814 (by decide +kernel) (by decide +kernel)
theorem q815 : Cond.code yX6_undo cX6_undo 1 (some FieldType.int) ∈ tt_T := tt_m 815 (by decide +kernel) (by decide +kernel)
theorem q816 : Cond.methodLink "TrustTinLaw" 178 yX6_tear ∈ tt_T := tt_m 816 (by decide +kernel) (by decide +kernel)
theorem q817 : Cond.instanceMethod yX6_tear ∈ tt_T := tt_m 817 (by decide +kernel) (by decide +kernel)
theorem q818 : Cond.selects "TrustTin" yX6_tear yX6_tear ∈ tt_T := tt_m 818 (by decide +kernel) (by decide +kernel)
theorem q819 : Cond.code yX6_tear cX6_tear 2 (some FieldType.int) ∈ tt_T := tt_m 819 (by decide +kernel) (by decide +kernel)
theorem q820 : Cond.methodLink "TrustTinLaw" 182 yX6_count ∈ tt_T := tt_m 820 (by decide +kernel) (by decide +kernel)
theorem q821 : Cond.instanceMethod yX6_count ∈ tt_T := tt_m 821 (by decide +kernel) (by decide +kernel)
theorem q822 : Cond.selects "TrustTin" yX6_count yX6_count ∈ tt_T := tt_m 822 (by decide +kernel) (by decide +kernel)
theorem q823 : Cond.code yX6_count cX6_count 2 (some FieldType.int) ∈ tt_T := tt_m 823 (by decide +kernel) (by decide +kernel)
theorem q824 : Cond.methodLink "TrustTin" 264 yX2_heldSpots ∈ tt_T := tt_m 824 (by decide +kernel) (by decide +kernel)
theorem q825 : Cond.instanceMethod yX2_heldSpots ∈ tt_T := tt_m 825 (by decide +kernel) (by decide +kernel)
theorem q826 : Cond.selects "TrustTin$Room" yX2_heldSpots yX2_heldSpots ∈ tt_T := tt_m 826 (by decide +kernel) (by decide +kernel)
theorem q827 : Cond.code yX2_heldSpots cX2_heldSpots 3 (some FieldType.int) ∈ tt_T := tt_m 827 (by decide +kernel) (by decide +kernel)
theorem q828 : Cond.methodLink "TrustTinLaw" 186 yX6_status ∈ tt_T := tt_m 828 (by decide +kernel) (by decide +kernel)
theorem q829 : Cond.instanceMethod yX6_status ∈ tt_T := tt_m 829 (by decide +kernel) (by decide +kernel)
theorem q830 : Cond.selects "TrustTin" yX6_status yX6_status ∈ tt_T := tt_m 830 (by decide +kernel) (by decide +kernel)
theorem q831 : Cond.code yX6_status cX6_status 4 (some FieldType.int) ∈ tt_T := tt_m 831 (by decide +kernel) (by decide +kernel)
theorem q832 : Cond.classLink "TrustTinLaw" 10 "TrustTinModel" ∈ tt_T := tt_m 832 (by decide +kernel) (by decide +kernel)
theorem q833 : Cond.instantiable "TrustTinModel" 22 ∈ tt_T := tt_m 833 (by decide +kernel) (by decide +kernel)
theorem q834 : Cond.methodLink "TrustTinLaw" 12 yX7_init ∈ tt_T := tt_m 834 (by decide +kernel) (by decide +kernel)
theorem q835 : Cond.instanceMethod yX7_init ∈ tt_T := tt_m 835 (by decide +kernel) (by decide +kernel)
theorem q836 : Cond.code yX7_init cX7_init 2 none ∈ tt_T := tt_m 836 (by decide +kernel) (by decide +kernel)
theorem q837 : Cond.methodLink "TrustTinModel" 1 ⟨"java/lang/Object", "<init>", "()V"⟩ ∈ tt_T := tt_m 837 (by decide +kernel) (by decide +kernel)
theorem q838 : Cond.fieldLink "TrustTinModel" 7 "TrustTinModel" "d" "[I" ∈ tt_T := tt_m 838 (by decide +kernel) (by decide +kernel)
theorem q839 : Cond.fieldLink "TrustTinModel" 13 "TrustTinModel" "e" "[I" ∈ tt_T := tt_m 839 (by decide +kernel) (by decide +kernel)
theorem q840 : Cond.fieldLink "TrustTinModel" 16 "TrustTinModel" "kept" "[I" ∈ tt_T := tt_m 840 (by decide +kernel) (by decide +kernel)
theorem q841 : Cond.fieldLink "TrustTinModel" 304 "TrustTinModel" "isKept" "Z" ∈ tt_T := tt_m 841 (by decide +kernel) (by decide +kernel)
theorem q842 : Cond.fieldLink "TrustTinModel" 19 "TrustTinModel" "found" "[I" ∈ tt_T := tt_m 842 (by decide +kernel) (by decide +kernel)
theorem q843 : Cond.fieldLink "TrustTinModel" 22 "TrustTinModel" "tape" "[B" ∈ tt_T := tt_m 843 (by decide +kernel) (by decide +kernel)
theorem q844 : Cond.fieldLink "TrustTinModel" 187 "TrustTinModel" "taped" "I" ∈ tt_T := tt_m 844 (by decide +kernel) (by decide +kernel)
theorem q845 : Cond.fieldLink "TrustTinModel" 82 "TrustTinModel" "coins" "I" ∈ tt_T := tt_m 845 (by decide +kernel) (by decide +kernel)
theorem q846 : Cond.fieldLink "TrustTinModel" 101 "TrustTinModel" "cups" "I" ∈ tt_T := tt_m 846 (by decide +kernel) (by decide +kernel)
theorem q847 : Cond.fieldLink "TrustTinModel" 130 "TrustTinModel" "can" "I" ∈ tt_T := tt_m 847 (by decide +kernel) (by decide +kernel)
theorem q848 : Cond.fieldLink "TrustTinModel" 133 "TrustTinModel" "inAll" "I" ∈ tt_T := tt_m 848 (by decide +kernel) (by decide +kernel)
theorem q849 : Cond.fieldLink "TrustTinModel" 136 "TrustTinModel" "inAny" "I" ∈ tt_T := tt_m 849 (by decide +kernel) (by decide +kernel)
theorem q850 : Cond.fieldLink "TrustTinModel" 139 "TrustTinModel" "smallest" "I" ∈ tt_T := tt_m 850 (by decide +kernel) (by decide +kernel)
theorem q851 : Cond.fieldLink "TrustTinModel" 190 "TrustTinModel" "at" "I" ∈ tt_T := tt_m 851 (by decide +kernel) (by decide +kernel)
theorem q852 : Cond.fieldLink "TrustTinModel" 203 "TrustTinModel" "sort" "I" ∈ tt_T := tt_m 852 (by decide +kernel) (by decide +kernel)
theorem q853 : Cond.fieldLink "TrustTinModel" 196 "TrustTinModel" "from" "I" ∈ tt_T := tt_m 853 (by decide +kernel) (by decide +kernel)
theorem q854 : Cond.fieldLink "TrustTinModel" 199 "TrustTinModel" "value" "J" ∈ tt_T := tt_m 854 (by decide +kernel) (by decide +kernel)
theorem q855 : Cond.fieldLink "TrustTinModel" 218 "TrustTinModel" "fault" "I" ∈ tt_T := tt_m 855 (by decide +kernel) (by decide +kernel)
theorem q856 : Cond.fieldLink "TrustTinModel" 26 "TrustTinModel" "bitsOf" "[I" ∈ tt_T := tt_m 856 (by decide +kernel) (by decide +kernel)
theorem q857 : Cond.fieldLink "TrustTinModel" 29 "TrustTinModel" "sizeOf" "[I" ∈ tt_T := tt_m 857 (by decide +kernel) (by decide +kernel)
theorem q858 : Cond.fieldLink "TrustTinModel" 32 "TrustTinModel" "number" "[I" ∈ tt_T := tt_m 858 (by decide +kernel) (by decide +kernel)
theorem q859 : Cond.fieldLink "TrustTinModel" 35 "TrustTinModel" "passing" "[I" ∈ tt_T := tt_m 859 (by decide +kernel) (by decide +kernel)
theorem q905 : Cond.methodLink "TrustTinLaw" 17 yX7_drinker ∈ tt_T := tt_m 905 (by decide +kernel) (by decide +kernel)
theorem q906 : Cond.instanceMethod yX7_drinker ∈ tt_T := tt_m 906 (by decide +kernel) (by decide +kernel)
theorem q907 : Cond.selects "TrustTinModel" yX7_drinker yX7_drinker ∈ tt_T := tt_m 907 (by decide +kernel) (by decide +kernel)
theorem q908 : Cond.code yX7_drinker cX7_drinker 3 (some FieldType.int) ∈ tt_T := tt_m 908 (by decide +kernel) (by decide +kernel)
theorem q909 : Cond.constantLong "TrustTinModel" 47 (6 : Int64) ∈ tt_T := tt_m 909 (by decide +kernel) (by decide +kernel)
theorem q910 : Cond.methodLink "TrustTinModel" 39 yX7_in ∈ tt_T := tt_m 910 (by decide +kernel) (by decide +kernel)
theorem q911 : Cond.static yX7_in ∈ tt_T := tt_m 911 (by decide +kernel) (by decide +kernel)
theorem q912 : Cond.code yX7_in cX7_in 6 (some FieldType.boolean) ∈ tt_T := tt_m 912 (by decide +kernel) (by decide +kernel)
theorem q913 : Cond.constantLong "TrustTinModel" 49 (9 : Int64) ∈ tt_T := tt_m 913 (by decide +kernel) (by decide +kernel)
theorem q914 : Cond.methodLink "TrustTinModel" 51 yX7_finds ∈ tt_T := tt_m 914 (by decide +kernel) (by decide +kernel)
theorem q916 : Cond.instanceMethod yX7_finds ∈ tt_T := tt_m 916 (by decide +kernel) (by decide +kernel)
theorem q917 : Cond.code yX7_finds cX7_finds 2 (some FieldType.int) ∈ tt_T := tt_m 917 (by decide +kernel) (by decide +kernel)
theorem q918 : Cond.constant "TrustTinModel" 38 (-1000001 : Int32) ∈ tt_T := tt_m 918 (by decide +kernel) (by decide +kernel)
theorem q919 : Cond.methodLink "TrustTinModel" 55 yX7_comes ∈ tt_T := tt_m 919 (by decide +kernel) (by decide +kernel)
theorem q921 : Cond.instanceMethod yX7_comes ∈ tt_T := tt_m 921 (by decide +kernel) (by decide +kernel)
theorem q922 : Cond.code yX7_comes cX7_comes 6 (some FieldType.int) ∈ tt_T := tt_m 922 (by decide +kernel) (by decide +kernel)
theorem q923 : Cond.methodLink "TrustTinModel" 43 yX7_becomes ∈ tt_T := tt_m 923 (by decide +kernel) (by decide +kernel)
theorem q925 : Cond.instanceMethod yX7_becomes ∈ tt_T := tt_m 925 (by decide +kernel) (by decide +kernel)
theorem q926 : Cond.code yX7_becomes cX7_becomes 4 none ∈ tt_T := tt_m 926 (by decide +kernel) (by decide +kernel)
theorem q927 : Cond.methodLink "TrustTinLaw" 21 yX7_of ∈ tt_T := tt_m 927 (by decide +kernel) (by decide +kernel)
theorem q928 : Cond.instanceMethod yX7_of ∈ tt_T := tt_m 928 (by decide +kernel) (by decide +kernel)
theorem q929 : Cond.selects "TrustTinModel" yX7_of yX7_of ∈ tt_T := tt_m 929 (by decide +kernel) (by decide +kernel)
theorem q930 : Cond.code yX7_of cX7_of 3 (some FieldType.int) ∈ tt_T := tt_m 930 (by decide +kernel) (by decide +kernel)
theorem q931 : Cond.methodLink "TrustTinModel" 59 yX7_isDrinker ∈ tt_T := tt_m 931 (by decide +kernel) (by decide +kernel)
theorem q933 : Cond.instanceMethod yX7_isDrinker ∈ tt_T := tt_m 933 (by decide +kernel) (by decide +kernel)
theorem q934 : Cond.code yX7_isDrinker cX7_isDrinker 2 (some FieldType.boolean) ∈ tt_T := tt_m 934 (by decide +kernel) (by decide +kernel)
theorem q935 : Cond.methodLink "TrustTinModel" 63 yX7_its ∈ tt_T := tt_m 935 (by decide +kernel) (by decide +kernel)
theorem q937 : Cond.instanceMethod yX7_its ∈ tt_T := tt_m 937 (by decide +kernel) (by decide +kernel)
theorem q938 : Cond.code yX7_its cX7_its 3 (some FieldType.int) ∈ tt_T := tt_m 938 (by decide +kernel) (by decide +kernel)
theorem q939 : Cond.methodLink "TrustTinLaw" 26 yX7_change ∈ tt_T := tt_m 939 (by decide +kernel) (by decide +kernel)
theorem q940 : Cond.instanceMethod yX7_change ∈ tt_T := tt_m 940 (by decide +kernel) (by decide +kernel)
theorem q941 : Cond.selects "TrustTinModel" yX7_change yX7_change ∈ tt_T := tt_m 941 (by decide +kernel) (by decide +kernel)
theorem q942 : Cond.code yX7_change cX7_change 6 (some FieldType.int) ∈ tt_T := tt_m 942 (by decide +kernel) (by decide +kernel)
theorem q943 : Cond.constantLong "TrustTinModel" 67 (9999 : Int64) ∈ tt_T := tt_m 943 (by decide +kernel) (by decide +kernel)
theorem q944 : Cond.constantLong "TrustTinModel" 69 (99 : Int64) ∈ tt_T := tt_m 944 (by decide +kernel) (by decide +kernel)
theorem q945 : Cond.methodLink "TrustTinLaw" 30 yX7_room ∈ tt_T := tt_m 945 (by decide +kernel) (by decide +kernel)
theorem q946 : Cond.instanceMethod yX7_room ∈ tt_T := tt_m 946 (by decide +kernel) (by decide +kernel)
theorem q947 : Cond.selects "TrustTinModel" yX7_room yX7_room ∈ tt_T := tt_m 947 (by decide +kernel) (by decide +kernel)
theorem q948 : Cond.code yX7_room cX7_room 6 (some FieldType.int) ∈ tt_T := tt_m 948 (by decide +kernel) (by decide +kernel)
theorem q949 : Cond.constantLong "TrustTinModel" 71 (2 : Int64) ∈ tt_T := tt_m 949 (by decide +kernel) (by decide +kernel)
theorem q950 : Cond.methodLink "TrustTinLaw" 35 yX7_empty ∈ tt_T := tt_m 950 (by decide +kernel) (by decide +kernel)
theorem q951 : Cond.instanceMethod yX7_empty ∈ tt_T := tt_m 951 (by decide +kernel) (by decide +kernel)
theorem q952 : Cond.selects "TrustTinModel" yX7_empty yX7_empty ∈ tt_T := tt_m 952 (by decide +kernel) (by decide +kernel)
theorem q953 : Cond.code yX7_empty cX7_empty 2 (some FieldType.int) ∈ tt_T := tt_m 953 (by decide +kernel) (by decide +kernel)
theorem q954 : Cond.methodLink "TrustTinLaw" 40 yX7_taken ∈ tt_T := tt_m 954 (by decide +kernel) (by decide +kernel)
theorem q955 : Cond.instanceMethod yX7_taken ∈ tt_T := tt_m 955 (by decide +kernel) (by decide +kernel)
theorem q956 : Cond.selects "TrustTinModel" yX7_taken yX7_taken ∈ tt_T := tt_m 956 (by decide +kernel) (by decide +kernel)
theorem q957 : Cond.code yX7_taken cX7_taken 3 (some FieldType.int) ∈ tt_T := tt_m 957 (by decide +kernel) (by decide +kernel)
theorem q958 : Cond.constantLong "TrustTinModel" 73 (999 : Int64) ∈ tt_T := tt_m 958 (by decide +kernel) (by decide +kernel)
theorem q959 : Cond.methodLink "TrustTinModel" 75 yX7_least ∈ tt_T := tt_m 959 (by decide +kernel) (by decide +kernel)
theorem q960 : Cond.static yX7_least ∈ tt_T := tt_m 960 (by decide +kernel) (by decide +kernel)
theorem q961 : Cond.code yX7_least cX7_least 2 (some FieldType.int) ∈ tt_T := tt_m 961 (by decide +kernel) (by decide +kernel)
theorem q962 : Cond.methodLink "TrustTinLaw" 44 yX7_forgive ∈ tt_T := tt_m 962 (by decide +kernel) (by decide +kernel)
theorem q963 : Cond.instanceMethod yX7_forgive ∈ tt_T := tt_m 963 (by decide +kernel) (by decide +kernel)
theorem q964 : Cond.selects "TrustTinModel" yX7_forgive yX7_forgive ∈ tt_T := tt_m 964 (by decide +kernel) (by decide +kernel)
theorem q965 : Cond.code yX7_forgive cX7_forgive 3 (some FieldType.int) ∈ tt_T := tt_m 965 (by decide +kernel) (by decide +kernel)
theorem q966 : Cond.methodLink "TrustTinLaw" 48 yX7_now ∈ tt_T := tt_m 966 (by decide +kernel) (by decide +kernel)
theorem q967 : Cond.instanceMethod yX7_now ∈ tt_T := tt_m 967 (by decide +kernel) (by decide +kernel)
theorem q968 : Cond.selects "TrustTinModel" yX7_now yX7_now ∈ tt_T := tt_m 968 (by decide +kernel) (by decide +kernel)
theorem q969 : Cond.code yX7_now cX7_now 2 (some FieldType.int) ∈ tt_T := tt_m 969 (by decide +kernel) (by decide +kernel)
theorem q970 : Cond.methodLink "TrustTinModel" 78 yX7_sumOf ∈ tt_T := tt_m 970 (by decide +kernel) (by decide +kernel)
theorem q972 : Cond.instanceMethod yX7_sumOf ∈ tt_T := tt_m 972 (by decide +kernel) (by decide +kernel)
theorem q973 : Cond.code yX7_sumOf cX7_sumOf 4 (some FieldType.int) ∈ tt_T := tt_m 973 (by decide +kernel) (by decide +kernel)
theorem q974 : Cond.methodLink "TrustTinLaw" 52 yX7_days ∈ tt_T := tt_m 974 (by decide +kernel) (by decide +kernel)
theorem q975 : Cond.instanceMethod yX7_days ∈ tt_T := tt_m 975 (by decide +kernel) (by decide +kernel)
theorem q976 : Cond.selects "TrustTinModel" yX7_days yX7_days ∈ tt_T := tt_m 976 (by decide +kernel) (by decide +kernel)
theorem q977 : Cond.code yX7_days cX7_days 2 (some FieldType.int) ∈ tt_T := tt_m 977 (by decide +kernel) (by decide +kernel)
theorem q978 : Cond.constantLong "TrustTinModel" 119 (50 : Int64) ∈ tt_T := tt_m 978 (by decide +kernel) (by decide +kernel)
theorem q979 : Cond.methodLink "TrustTinModel" 121 yX7_isFar ∈ tt_T := tt_m 979 (by decide +kernel) (by decide +kernel)
theorem q981 : Cond.instanceMethod yX7_isFar ∈ tt_T := tt_m 981 (by decide +kernel) (by decide +kernel)
theorem q982 : Cond.code yX7_isFar cX7_isFar 2 (some FieldType.boolean) ∈ tt_T := tt_m 982 (by decide +kernel) (by decide +kernel)
theorem q983 : Cond.methodLink "TrustTinModel" 124 yX7_goesOn ∈ tt_T := tt_m 983 (by decide +kernel) (by decide +kernel)
theorem q985 : Cond.instanceMethod yX7_goesOn ∈ tt_T := tt_m 985 (by decide +kernel) (by decide +kernel)
theorem q986 : Cond.code yX7_goesOn cX7_goesOn 3 (some FieldType.int) ∈ tt_T := tt_m 986 (by decide +kernel) (by decide +kernel)
theorem q987 : Cond.methodLink "TrustTinModel" 116 yX7_goesBy ∈ tt_T := tt_m 987 (by decide +kernel) (by decide +kernel)
theorem q989 : Cond.instanceMethod yX7_goesBy ∈ tt_T := tt_m 989 (by decide +kernel) (by decide +kernel)
theorem q990 : Cond.code yX7_goesBy cX7_goesBy 2 none ∈ tt_T := tt_m 990 (by decide +kernel) (by decide +kernel)
theorem q991 : Cond.methodLink "TrustTinModel" 110 yX7_drinks ∈ tt_T := tt_m 991 (by decide +kernel) (by decide +kernel)
theorem q993 : Cond.instanceMethod yX7_drinks ∈ tt_T := tt_m 993 (by decide +kernel) (by decide +kernel)
theorem q994 : Cond.code yX7_drinks cX7_drinks 4 none ∈ tt_T := tt_m 994 (by decide +kernel) (by decide +kernel)
theorem q995 : Cond.methodLink "TrustTinModel" 98 yX7_hasCup ∈ tt_T := tt_m 995 (by decide +kernel) (by decide +kernel)
theorem q997 : Cond.instanceMethod yX7_hasCup ∈ tt_T := tt_m 997 (by decide +kernel) (by decide +kernel)
theorem q998 : Cond.code yX7_hasCup cX7_hasCup 3 (some FieldType.boolean) ∈ tt_T := tt_m 998 (by decide +kernel) (by decide +kernel)
theorem q999 : Cond.methodLink "TrustTinModel" 86 yX7_drawn ∈ tt_T := tt_m 999 (by decide +kernel) (by decide +kernel)
theorem q1001 : Cond.instanceMethod yX7_drawn ∈ tt_T := tt_m 1001 (by decide +kernel) (by decide +kernel)
theorem q1002 : Cond.code yX7_drawn cX7_drawn 1 (some FieldType.int) ∈ tt_T := tt_m 1002 (by decide +kernel) (by decide +kernel)
theorem q1003 : Cond.constant "TrustTinModel" 81 (1103515245 : Int32) ∈ tt_T := tt_m 1003 (by decide +kernel) (by decide +kernel)
theorem q1004 : Cond.methodLink "TrustTinModel" 104 yX7_paysFor ∈ tt_T := tt_m 1004 (by decide +kernel) (by decide +kernel)
theorem q1006 : Cond.instanceMethod yX7_paysFor ∈ tt_T := tt_m 1006 (by decide +kernel) (by decide +kernel)
theorem q1007 : Cond.code yX7_paysFor cX7_paysFor 3 none ∈ tt_T := tt_m 1007 (by decide +kernel) (by decide +kernel)
theorem q1008 : Cond.methodLink "TrustTinModel" 94 yX7_forgets ∈ tt_T := tt_m 1008 (by decide +kernel) (by decide +kernel)
theorem q1010 : Cond.instanceMethod yX7_forgets ∈ tt_T := tt_m 1010 (by decide +kernel) (by decide +kernel)
theorem q1011 : Cond.code yX7_forgets cX7_forgets 2 none ∈ tt_T := tt_m 1011 (by decide +kernel) (by decide +kernel)
theorem q1012 : Cond.methodLink "TrustTinModel" 90 yX7_pays ∈ tt_T := tt_m 1012 (by decide +kernel) (by decide +kernel)
theorem q1014 : Cond.instanceMethod yX7_pays ∈ tt_T := tt_m 1014 (by decide +kernel) (by decide +kernel)
theorem q1015 : Cond.code yX7_pays cX7_pays 4 none ∈ tt_T := tt_m 1015 (by decide +kernel) (by decide +kernel)
theorem q1016 : Cond.methodLink "TrustTinModel" 113 yX7_settles ∈ tt_T := tt_m 1016 (by decide +kernel) (by decide +kernel)
theorem q1018 : Cond.instanceMethod yX7_settles ∈ tt_T := tt_m 1018 (by decide +kernel) (by decide +kernel)
theorem q1019 : Cond.code yX7_settles cX7_settles 4 none ∈ tt_T := tt_m 1019 (by decide +kernel) (by decide +kernel)
theorem q1020 : Cond.constantLong "TrustTinModel" 108 (100 : Int64) ∈ tt_T := tt_m 1020 (by decide +kernel) (by decide +kernel)
theorem q1021 : Cond.methodLink "TrustTinLaw" 56 yX7_week ∈ tt_T := tt_m 1021 (by decide +kernel) (by decide +kernel)
theorem q1022 : Cond.instanceMethod yX7_week ∈ tt_T := tt_m 1022 (by decide +kernel) (by decide +kernel)
theorem q1023 : Cond.selects "TrustTinModel" yX7_week yX7_week ∈ tt_T := tt_m 1023 (by decide +kernel) (by decide +kernel)
theorem q1024 : Cond.code yX7_week cX7_week 3 (some FieldType.int) ∈ tt_T := tt_m 1024 (by decide +kernel) (by decide +kernel)
theorem q1025 : Cond.methodLink "TrustTinLaw" 60 yX7_each ∈ tt_T := tt_m 1025 (by decide +kernel) (by decide +kernel)
theorem q1026 : Cond.instanceMethod yX7_each ∈ tt_T := tt_m 1026 (by decide +kernel) (by decide +kernel)
theorem q1027 : Cond.selects "TrustTinModel" yX7_each yX7_each ∈ tt_T := tt_m 1027 (by decide +kernel) (by decide +kernel)
theorem q1028 : Cond.code yX7_each cX7_each 5 (some FieldType.int) ∈ tt_T := tt_m 1028 (by decide +kernel) (by decide +kernel)
theorem q1029 : Cond.methodLink "TrustTinModel" 127 yX7_common ∈ tt_T := tt_m 1029 (by decide +kernel) (by decide +kernel)
theorem q1030 : Cond.static yX7_common ∈ tt_T := tt_m 1030 (by decide +kernel) (by decide +kernel)
theorem q1031 : Cond.code yX7_common cX7_common 5 (some FieldType.int) ∈ tt_T := tt_m 1031 (by decide +kernel) (by decide +kernel)
theorem q1032 : Cond.methodLink "TrustTinLaw" 64 yX7_many ∈ tt_T := tt_m 1032 (by decide +kernel) (by decide +kernel)
theorem q1033 : Cond.instanceMethod yX7_many ∈ tt_T := tt_m 1033 (by decide +kernel) (by decide +kernel)
theorem q1034 : Cond.selects "TrustTinModel" yX7_many yX7_many ∈ tt_T := tt_m 1034 (by decide +kernel) (by decide +kernel)
theorem q1035 : Cond.code yX7_many cX7_many 2 (some FieldType.int) ∈ tt_T := tt_m 1035 (by decide +kernel) (by decide +kernel)
theorem q1036 : Cond.methodLink "TrustTinModel" 149 yX7_findSets ∈ tt_T := tt_m 1036 (by decide +kernel) (by decide +kernel)
theorem q1038 : Cond.instanceMethod yX7_findSets ∈ tt_T := tt_m 1038 (by decide +kernel) (by decide +kernel)
theorem q1039 : Cond.code yX7_findSets cX7_findSets 3 none ∈ tt_T := tt_m 1039 (by decide +kernel) (by decide +kernel)
theorem q1040 : Cond.methodLink "TrustTinModel" 142 yX7_isSum ∈ tt_T := tt_m 1040 (by decide +kernel) (by decide +kernel)
theorem q1042 : Cond.instanceMethod yX7_isSum ∈ tt_T := tt_m 1042 (by decide +kernel) (by decide +kernel)
theorem q1043 : Cond.code yX7_isSum cX7_isSum 5 (some FieldType.boolean) ∈ tt_T := tt_m 1043 (by decide +kernel) (by decide +kernel)
theorem q1044 : Cond.methodLink "TrustTinModel" 146 yX7_ones ∈ tt_T := tt_m 1044 (by decide +kernel) (by decide +kernel)
theorem q1045 : Cond.static yX7_ones ∈ tt_T := tt_m 1045 (by decide +kernel) (by decide +kernel)
theorem q1046 : Cond.code yX7_ones cX7_ones 3 (some FieldType.int) ∈ tt_T := tt_m 1046 (by decide +kernel) (by decide +kernel)
theorem q1047 : Cond.methodLink "TrustTinLaw" 68 yX7_who ∈ tt_T := tt_m 1047 (by decide +kernel) (by decide +kernel)
theorem q1048 : Cond.instanceMethod yX7_who ∈ tt_T := tt_m 1048 (by decide +kernel) (by decide +kernel)
theorem q1049 : Cond.selects "TrustTinModel" yX7_who yX7_who ∈ tt_T := tt_m 1049 (by decide +kernel) (by decide +kernel)
theorem q1050 : Cond.code yX7_who cX7_who 3 (some FieldType.int) ∈ tt_T := tt_m 1050 (by decide +kernel) (by decide +kernel)
theorem q1051 : Cond.methodLink "TrustTinLaw" 72 yX7_fewest ∈ tt_T := tt_m 1051 (by decide +kernel) (by decide +kernel)
theorem q1052 : Cond.instanceMethod yX7_fewest ∈ tt_T := tt_m 1052 (by decide +kernel) (by decide +kernel)
theorem q1053 : Cond.selects "TrustTinModel" yX7_fewest yX7_fewest ∈ tt_T := tt_m 1053 (by decide +kernel) (by decide +kernel)
theorem q1054 : Cond.code yX7_fewest cX7_fewest 2 (some FieldType.int) ∈ tt_T := tt_m 1054 (by decide +kernel) (by decide +kernel)
theorem q1055 : Cond.methodLink "TrustTinLaw" 76 yX7_ahead ∈ tt_T := tt_m 1055 (by decide +kernel) (by decide +kernel)
theorem q1056 : Cond.instanceMethod yX7_ahead ∈ tt_T := tt_m 1056 (by decide +kernel) (by decide +kernel)
theorem q1057 : Cond.selects "TrustTinModel" yX7_ahead yX7_ahead ∈ tt_T := tt_m 1057 (by decide +kernel) (by decide +kernel)
theorem q1058 : Cond.code yX7_ahead cX7_ahead 6 (some FieldType.int) ∈ tt_T := tt_m 1058 (by decide +kernel) (by decide +kernel)
theorem q1059 : Cond.constantLong "TrustTinModel" 156 (5 : Int64) ∈ tt_T := tt_m 1059 (by decide +kernel) (by decide +kernel)
theorem q1060 : Cond.methodLink "TrustTinModel" 158 yX7_why ∈ tt_T := tt_m 1060 (by decide +kernel) (by decide +kernel)
theorem q1062 : Cond.instanceMethod yX7_why ∈ tt_T := tt_m 1062 (by decide +kernel) (by decide +kernel)
theorem q1063 : Cond.code yX7_why cX7_why 3 (some FieldType.int) ∈ tt_T := tt_m 1063 (by decide +kernel) (by decide +kernel)
theorem q1064 : Cond.methodLink "TrustTinModel" 162 yX7_begins ∈ tt_T := tt_m 1064 (by decide +kernel) (by decide +kernel)
theorem q1066 : Cond.instanceMethod yX7_begins ∈ tt_T := tt_m 1066 (by decide +kernel) (by decide +kernel)
theorem q1067 : Cond.code yX7_begins cX7_begins 1 none ∈ tt_T := tt_m 1067 (by decide +kernel) (by decide +kernel)
theorem q1068 : Cond.methodLink "TrustTinModel" 152 yX7_copies ∈ tt_T := tt_m 1068 (by decide +kernel) (by decide +kernel)
theorem q1069 : Cond.static yX7_copies ∈ tt_T := tt_m 1069 (by decide +kernel) (by decide +kernel)
theorem q1070 : Cond.code yX7_copies cX7_copies 3 none ∈ tt_T := tt_m 1070 (by decide +kernel) (by decide +kernel)
theorem q1071 : Cond.methodLink "TrustTinModel" 165 yX7_ends ∈ tt_T := tt_m 1071 (by decide +kernel) (by decide +kernel)
theorem q1073 : Cond.instanceMethod yX7_ends ∈ tt_T := tt_m 1073 (by decide +kernel) (by decide +kernel)
theorem q1074 : Cond.code yX7_ends cX7_ends 1 none ∈ tt_T := tt_m 1074 (by decide +kernel) (by decide +kernel)
theorem q1075 : Cond.methodLink "TrustTinLaw" 80 yX7_rests ∈ tt_T := tt_m 1075 (by decide +kernel) (by decide +kernel)
theorem q1076 : Cond.instanceMethod yX7_rests ∈ tt_T := tt_m 1076 (by decide +kernel) (by decide +kernel)
theorem q1077 : Cond.selects "TrustTinModel" yX7_rests yX7_rests ∈ tt_T := tt_m 1077 (by decide +kernel) (by decide +kernel)
theorem q1078 : Cond.code yX7_rests cX7_rests 4 (some FieldType.int) ∈ tt_T := tt_m 1078 (by decide +kernel) (by decide +kernel)
theorem q1079 : Cond.methodLink "TrustTinModel" 168 yX7_monday ∈ tt_T := tt_m 1079 (by decide +kernel) (by decide +kernel)
theorem q1081 : Cond.instanceMethod yX7_monday ∈ tt_T := tt_m 1081 (by decide +kernel) (by decide +kernel)
theorem q1082 : Cond.code yX7_monday cX7_monday 3 none ∈ tt_T := tt_m 1082 (by decide +kernel) (by decide +kernel)
theorem q1083 : Cond.methodLink "TrustTinLaw" 84 yX7_tips ∈ tt_T := tt_m 1083 (by decide +kernel) (by decide +kernel)
theorem q1084 : Cond.instanceMethod yX7_tips ∈ tt_T := tt_m 1084 (by decide +kernel) (by decide +kernel)
theorem q1085 : Cond.selects "TrustTinModel" yX7_tips yX7_tips ∈ tt_T := tt_m 1085 (by decide +kernel) (by decide +kernel)
theorem q1086 : Cond.code yX7_tips cX7_tips 5 (some FieldType.int) ∈ tt_T := tt_m 1086 (by decide +kernel) (by decide +kernel)
theorem q1087 : Cond.constantLong "TrustTinModel" 171 (10 : Int64) ∈ tt_T := tt_m 1087 (by decide +kernel) (by decide +kernel)
theorem q1088 : Cond.methodLink "TrustTinLaw" 88 yX7_best ∈ tt_T := tt_m 1088 (by decide +kernel) (by decide +kernel)
theorem q1089 : Cond.instanceMethod yX7_best ∈ tt_T := tt_m 1089 (by decide +kernel) (by decide +kernel)
theorem q1090 : Cond.selects "TrustTinModel" yX7_best yX7_best ∈ tt_T := tt_m 1090 (by decide +kernel) (by decide +kernel)
theorem q1091 : Cond.code yX7_best cX7_best 3 (some FieldType.int) ∈ tt_T := tt_m 1091 (by decide +kernel) (by decide +kernel)
theorem q1092 : Cond.constantLong "TrustTinModel" 177 (20 : Int64) ∈ tt_T := tt_m 1092 (by decide +kernel) (by decide +kernel)
theorem q1093 : Cond.methodLink "TrustTinModel" 179 yX7_bestOf ∈ tt_T := tt_m 1093 (by decide +kernel) (by decide +kernel)
theorem q1095 : Cond.instanceMethod yX7_bestOf ∈ tt_T := tt_m 1095 (by decide +kernel) (by decide +kernel)
theorem q1096 : Cond.code yX7_bestOf cX7_bestOf 8 (some FieldType.int) ∈ tt_T := tt_m 1096 (by decide +kernel) (by decide +kernel)
theorem q1097 : Cond.methodLink "TrustTinModel" 173 yX7_comesWith ∈ tt_T := tt_m 1097 (by decide +kernel) (by decide +kernel)
theorem q1099 : Cond.instanceMethod yX7_comesWith ∈ tt_T := tt_m 1099 (by decide +kernel) (by decide +kernel)
theorem q1100 : Cond.code yX7_comesWith cX7_comesWith 5 (some FieldType.int) ∈ tt_T := tt_m 1100 (by decide +kernel) (by decide +kernel)
theorem q1101 : Cond.methodLink "TrustTinLaw" 92 yX7_sign ∈ tt_T := tt_m 1101 (by decide +kernel) (by decide +kernel)
theorem q1102 : Cond.instanceMethod yX7_sign ∈ tt_T := tt_m 1102 (by decide +kernel) (by decide +kernel)
theorem q1103 : Cond.selects "TrustTinModel" yX7_sign yX7_sign ∈ tt_T := tt_m 1103 (by decide +kernel) (by decide +kernel)
theorem q1104 : Cond.code yX7_sign cX7_sign 3 (some FieldType.int) ∈ tt_T := tt_m 1104 (by decide +kernel) (by decide +kernel)
theorem q1105 : Cond.methodLink "TrustTinLaw" 96 yX7_potFor ∈ tt_T := tt_m 1105 (by decide +kernel) (by decide +kernel)
theorem q1106 : Cond.instanceMethod yX7_potFor ∈ tt_T := tt_m 1106 (by decide +kernel) (by decide +kernel)
theorem q1107 : Cond.selects "TrustTinModel" yX7_potFor yX7_potFor ∈ tt_T := tt_m 1107 (by decide +kernel) (by decide +kernel)
theorem q1108 : Cond.code yX7_potFor cX7_potFor 6 (some FieldType.int) ∈ tt_T := tt_m 1108 (by decide +kernel) (by decide +kernel)
theorem q1109 : Cond.methodLink "TrustTinLaw" 100 yX7_kindFor ∈ tt_T := tt_m 1109 (by decide +kernel) (by decide +kernel)
theorem q1110 : Cond.instanceMethod yX7_kindFor ∈ tt_T := tt_m 1110 (by decide +kernel) (by decide +kernel)
theorem q1111 : Cond.selects "TrustTinModel" yX7_kindFor yX7_kindFor ∈ tt_T := tt_m 1111 (by decide +kernel) (by decide +kernel)
theorem q1112 : Cond.code yX7_kindFor cX7_kindFor 9 (some FieldType.int) ∈ tt_T := tt_m 1112 (by decide +kernel) (by decide +kernel)
theorem q1113 : Cond.methodLink "TrustTinLaw" 104 yX7_told ∈ tt_T := tt_m 1113 (by decide +kernel) (by decide +kernel)
theorem q1114 : Cond.instanceMethod yX7_told ∈ tt_T := tt_m 1114 (by decide +kernel) (by decide +kernel)
theorem q1115 : Cond.selects "TrustTinModel" yX7_told yX7_told ∈ tt_T := tt_m 1115 (by decide +kernel) (by decide +kernel)
theorem q1116 : Cond.code yX7_told cX7_told 5 (some FieldType.int) ∈ tt_T := tt_m 1116 (by decide +kernel) (by decide +kernel)
theorem q1117 : Cond.methodLink "TrustTinLaw" 108 yX7_uneven ∈ tt_T := tt_m 1117 (by decide +kernel) (by decide +kernel)
theorem q1118 : Cond.instanceMethod yX7_uneven ∈ tt_T := tt_m 1118 (by decide +kernel) (by decide +kernel)
theorem q1119 : Cond.selects "TrustTinModel" yX7_uneven yX7_uneven ∈ tt_T := tt_m 1119 (by decide +kernel) (by decide +kernel)
theorem q1120 : Cond.code yX7_uneven cX7_uneven 10 (some FieldType.int) ∈ tt_T := tt_m 1120 (by decide +kernel) (by decide +kernel)
theorem q1121 : Cond.methodLink "TrustTinModel" 182 yX7_drinking ∈ tt_T := tt_m 1121 (by decide +kernel) (by decide +kernel)
theorem q1123 : Cond.instanceMethod yX7_drinking ∈ tt_T := tt_m 1123 (by decide +kernel) (by decide +kernel)
theorem q1124 : Cond.code yX7_drinking cX7_drinking 3 (some FieldType.int) ∈ tt_T := tt_m 1124 (by decide +kernel) (by decide +kernel)
theorem q1125 : Cond.methodLink "TrustTinLaw" 112 yX7_strokes ∈ tt_T := tt_m 1125 (by decide +kernel) (by decide +kernel)
theorem q1126 : Cond.instanceMethod yX7_strokes ∈ tt_T := tt_m 1126 (by decide +kernel) (by decide +kernel)
theorem q1127 : Cond.selects "TrustTinModel" yX7_strokes yX7_strokes ∈ tt_T := tt_m 1127 (by decide +kernel) (by decide +kernel)
theorem q1128 : Cond.code yX7_strokes cX7_strokes 4 (some FieldType.int) ∈ tt_T := tt_m 1128 (by decide +kernel) (by decide +kernel)
theorem q1129 : Cond.methodLink "TrustTinLaw" 116 yX7_lacks ∈ tt_T := tt_m 1129 (by decide +kernel) (by decide +kernel)
theorem q1130 : Cond.instanceMethod yX7_lacks ∈ tt_T := tt_m 1130 (by decide +kernel) (by decide +kernel)
theorem q1131 : Cond.selects "TrustTinModel" yX7_lacks yX7_lacks ∈ tt_T := tt_m 1131 (by decide +kernel) (by decide +kernel)
theorem q1132 : Cond.code yX7_lacks cX7_lacks 1 (some FieldType.int) ∈ tt_T := tt_m 1132 (by decide +kernel) (by decide +kernel)
theorem q1133 : Cond.methodLink "TrustTinLaw" 120 yX7_owes ∈ tt_T := tt_m 1133 (by decide +kernel) (by decide +kernel)
theorem q1134 : Cond.instanceMethod yX7_owes ∈ tt_T := tt_m 1134 (by decide +kernel) (by decide +kernel)
theorem q1135 : Cond.selects "TrustTinModel" yX7_owes yX7_owes ∈ tt_T := tt_m 1135 (by decide +kernel) (by decide +kernel)
theorem q1136 : Cond.code yX7_owes cX7_owes 5 (some FieldType.int) ∈ tt_T := tt_m 1136 (by decide +kernel) (by decide +kernel)
theorem q1137 : Cond.methodLink "TrustTinLaw" 124 yX7_odds ∈ tt_T := tt_m 1137 (by decide +kernel) (by decide +kernel)
theorem q1138 : Cond.instanceMethod yX7_odds ∈ tt_T := tt_m 1138 (by decide +kernel) (by decide +kernel)
theorem q1139 : Cond.selects "TrustTinModel" yX7_odds yX7_odds ∈ tt_T := tt_m 1139 (by decide +kernel) (by decide +kernel)
theorem q1140 : Cond.code yX7_odds cX7_odds 6 (some FieldType.int) ∈ tt_T := tt_m 1140 (by decide +kernel) (by decide +kernel)
theorem q1141 : Cond.methodLink "TrustTinLaw" 128 yX7_seed ∈ tt_T := tt_m 1141 (by decide +kernel) (by decide +kernel)
theorem q1142 : Cond.instanceMethod yX7_seed ∈ tt_T := tt_m 1142 (by decide +kernel) (by decide +kernel)
theorem q1143 : Cond.selects "TrustTinModel" yX7_seed yX7_seed ∈ tt_T := tt_m 1143 (by decide +kernel) (by decide +kernel)
theorem q1144 : Cond.code yX7_seed cX7_seed 3 (some FieldType.int) ∈ tt_T := tt_m 1144 (by decide +kernel) (by decide +kernel)
theorem q1145 : Cond.methodLink "TrustTinLaw" 132 yX7_feed ∈ tt_T := tt_m 1145 (by decide +kernel) (by decide +kernel)
theorem q1146 : Cond.instanceMethod yX7_feed ∈ tt_T := tt_m 1146 (by decide +kernel) (by decide +kernel)
theorem q1147 : Cond.selects "TrustTinModel" yX7_feed yX7_feed ∈ tt_T := tt_m 1147 (by decide +kernel) (by decide +kernel)
theorem q1148 : Cond.code yX7_feed cX7_feed 4 (some FieldType.int) ∈ tt_T := tt_m 1148 (by decide +kernel) (by decide +kernel)
theorem q1149 : Cond.constantLong "TrustTinModel" 185 (4 : Int64) ∈ tt_T := tt_m 1149 (by decide +kernel) (by decide +kernel)
theorem q1150 : Cond.methodLink "TrustTinLaw" 136 yX7_wipe ∈ tt_T := tt_m 1150 (by decide +kernel) (by decide +kernel)
theorem q1151 : Cond.instanceMethod yX7_wipe ∈ tt_T := tt_m 1151 (by decide +kernel) (by decide +kernel)
theorem q1152 : Cond.selects "TrustTinModel" yX7_wipe yX7_wipe ∈ tt_T := tt_m 1152 (by decide +kernel) (by decide +kernel)
theorem q1153 : Cond.code yX7_wipe cX7_wipe 2 (some FieldType.int) ∈ tt_T := tt_m 1153 (by decide +kernel) (by decide +kernel)
theorem q1154 : Cond.methodLink "TrustTinLaw" 140 yX7_text ∈ tt_T := tt_m 1154 (by decide +kernel) (by decide +kernel)
theorem q1155 : Cond.instanceMethod yX7_text ∈ tt_T := tt_m 1155 (by decide +kernel) (by decide +kernel)
theorem q1156 : Cond.selects "TrustTinModel" yX7_text yX7_text ∈ tt_T := tt_m 1156 (by decide +kernel) (by decide +kernel)
theorem q1157 : Cond.code yX7_text cX7_text 2 (some FieldType.int) ∈ tt_T := tt_m 1157 (by decide +kernel) (by decide +kernel)
theorem q1158 : Cond.methodLink "TrustTinModel" 290 yX7_items ∈ tt_T := tt_m 1158 (by decide +kernel) (by decide +kernel)
theorem q1160 : Cond.instanceMethod yX7_items ∈ tt_T := tt_m 1160 (by decide +kernel) (by decide +kernel)
theorem q1161 : Cond.code yX7_items cX7_items 2 (some FieldType.int) ∈ tt_T := tt_m 1161 (by decide +kernel) (by decide +kernel)
theorem q1162 : Cond.methodLink "TrustTinModel" 249 yX7_next ∈ tt_T := tt_m 1162 (by decide +kernel) (by decide +kernel)
theorem q1164 : Cond.instanceMethod yX7_next ∈ tt_T := tt_m 1164 (by decide +kernel) (by decide +kernel)
theorem q1165 : Cond.code yX7_next cX7_next 2 none ∈ tt_T := tt_m 1165 (by decide +kernel) (by decide +kernel)
theorem q1166 : Cond.methodLink "TrustTinModel" 193 yX7_byteAt ∈ tt_T := tt_m 1166 (by decide +kernel) (by decide +kernel)
theorem q1168 : Cond.instanceMethod yX7_byteAt ∈ tt_T := tt_m 1168 (by decide +kernel) (by decide +kernel)
theorem q1169 : Cond.code yX7_byteAt cX7_byteAt 2 (some FieldType.int) ∈ tt_T := tt_m 1169 (by decide +kernel) (by decide +kernel)
theorem q1170 : Cond.methodLink "TrustTinModel" 206 yX7_letter ∈ tt_T := tt_m 1170 (by decide +kernel) (by decide +kernel)
theorem q1171 : Cond.static yX7_letter ∈ tt_T := tt_m 1171 (by decide +kernel) (by decide +kernel)
theorem q1172 : Cond.code yX7_letter cX7_letter 1 (some FieldType.int) ∈ tt_T := tt_m 1172 (by decide +kernel) (by decide +kernel)
theorem q1173 : Cond.constantLong "TrustTinModel" 209 (100000000000 : Int64) ∈ tt_T := tt_m 1173 (by decide +kernel) (by decide +kernel)
theorem q1174 : Cond.constantLong "TrustTinModel" 211 (27 : Int64) ∈ tt_T := tt_m 1174 (by decide +kernel) (by decide +kernel)
theorem q1175 : Cond.methodLink "TrustTinModel" 213 yX7_isDigit ∈ tt_T := tt_m 1175 (by decide +kernel) (by decide +kernel)
theorem q1176 : Cond.static yX7_isDigit ∈ tt_T := tt_m 1176 (by decide +kernel) (by decide +kernel)
theorem q1177 : Cond.code yX7_isDigit cX7_isDigit 1 (some FieldType.boolean) ∈ tt_T := tt_m 1177 (by decide +kernel) (by decide +kernel)
theorem q1178 : Cond.constantLong "TrustTinModel" 216 (48 : Int64) ∈ tt_T := tt_m 1178 (by decide +kernel) (by decide +kernel)
theorem q1179 : Cond.methodLink "TrustTinModel" 287 yX7_item ∈ tt_T := tt_m 1179 (by decide +kernel) (by decide +kernel)
theorem q1181 : Cond.instanceMethod yX7_item ∈ tt_T := tt_m 1181 (by decide +kernel) (by decide +kernel)
theorem q1182 : Cond.code yX7_item cX7_item 2 none ∈ tt_T := tt_m 1182 (by decide +kernel) (by decide +kernel)
theorem q1183 : Cond.methodLink "TrustTinModel" 269 yX7_kindHere ∈ tt_T := tt_m 1183 (by decide +kernel) (by decide +kernel)
theorem q1185 : Cond.instanceMethod yX7_kindHere ∈ tt_T := tt_m 1185 (by decide +kernel) (by decide +kernel)
theorem q1186 : Cond.code yX7_kindHere cX7_kindHere 1 (some FieldType.int) ∈ tt_T := tt_m 1186 (by decide +kernel) (by decide +kernel)
theorem q1187 : Cond.fieldLink "TrustTinModel" 221 "TrustTinModel" "W_EACH" "J" ∈ tt_T := tt_m 1187 (by decide +kernel) (by decide +kernel)
theorem q1189 : Cond.methodLink "TrustTinModel" 224 yX7_isWord ∈ tt_T := tt_m 1189 (by decide +kernel) (by decide +kernel)
theorem q1191 : Cond.instanceMethod yX7_isWord ∈ tt_T := tt_m 1191 (by decide +kernel) (by decide +kernel)
theorem q1192 : Cond.code yX7_isWord cX7_isWord 3 (some FieldType.boolean) ∈ tt_T := tt_m 1192 (by decide +kernel) (by decide +kernel)
theorem q1193 : Cond.fieldLink "TrustTinModel" 228 "TrustTinModel" "W_LATER" "J" ∈ tt_T := tt_m 1193 (by decide +kernel) (by decide +kernel)
theorem q1195 : Cond.fieldLink "TrustTinModel" 231 "TrustTinModel" "W_FORGETS" "J" ∈ tt_T := tt_m 1195 (by decide +kernel) (by decide +kernel)
theorem q1197 : Cond.fieldLink "TrustTinModel" 234 "TrustTinModel" "W_NEVER" "J" ∈ tt_T := tt_m 1197 (by decide +kernel) (by decide +kernel)
theorem q1199 : Cond.fieldLink "TrustTinModel" 237 "TrustTinModel" "W_IF" "J" ∈ tt_T := tt_m 1199 (by decide +kernel) (by decide +kernel)
theorem q1201 : Cond.fieldLink "TrustTinModel" 240 "TrustTinModel" "W_TWICE" "J" ∈ tt_T := tt_m 1201 (by decide +kernel) (by decide +kernel)
theorem q1203 : Cond.fieldLink "TrustTinModel" 243 "TrustTinModel" "W_MAKER" "J" ∈ tt_T := tt_m 1203 (by decide +kernel) (by decide +kernel)
theorem q1205 : Cond.methodLink "TrustTinModel" 272 yX7_drinkerHere ∈ tt_T := tt_m 1205 (by decide +kernel) (by decide +kernel)
theorem q1207 : Cond.instanceMethod yX7_drinkerHere ∈ tt_T := tt_m 1207 (by decide +kernel) (by decide +kernel)
theorem q1208 : Cond.code yX7_drinkerHere cX7_drinkerHere 6 none ∈ tt_T := tt_m 1208 (by decide +kernel) (by decide +kernel)
theorem q1209 : Cond.methodLink "TrustTinModel" 246 yX7_wrongHere ∈ tt_T := tt_m 1209 (by decide +kernel) (by decide +kernel)
theorem q1211 : Cond.instanceMethod yX7_wrongHere ∈ tt_T := tt_m 1211 (by decide +kernel) (by decide +kernel)
theorem q1212 : Cond.code yX7_wrongHere cX7_wrongHere 1 none ∈ tt_T := tt_m 1212 (by decide +kernel) (by decide +kernel)
theorem q1213 : Cond.methodLink "TrustTinModel" 252 yX7_number ∈ tt_T := tt_m 1213 (by decide +kernel) (by decide +kernel)
theorem q1215 : Cond.instanceMethod yX7_number ∈ tt_T := tt_m 1215 (by decide +kernel) (by decide +kernel)
theorem q1216 : Cond.code yX7_number cX7_number 4 (some FieldType.int) ∈ tt_T := tt_m 1216 (by decide +kernel) (by decide +kernel)
theorem q1217 : Cond.fieldLink "TrustTinModel" 254 "TrustTinModel" "W_PURSE" "J" ∈ tt_T := tt_m 1217 (by decide +kernel) (by decide +kernel)
theorem q1219 : Cond.fieldLink "TrustTinModel" 257 "TrustTinModel" "W_LIMIT" "J" ∈ tt_T := tt_m 1219 (by decide +kernel) (by decide +kernel)
theorem q1221 : Cond.fieldLink "TrustTinModel" 275 "TrustTinModel" "W_PRICE" "J" ∈ tt_T := tt_m 1221 (by decide +kernel) (by decide +kernel)
theorem q1223 : Cond.fieldLink "TrustTinModel" 278 "TrustTinModel" "W_POT" "J" ∈ tt_T := tt_m 1223 (by decide +kernel) (by decide +kernel)
theorem q1225 : Cond.fieldLink "TrustTinModel" 281 "TrustTinModel" "W_SIGN" "J" ∈ tt_T := tt_m 1225 (by decide +kernel) (by decide +kernel)
theorem q1227 : Cond.methodLink "TrustTinModel" 284 yX7_signHere ∈ tt_T := tt_m 1227 (by decide +kernel) (by decide +kernel)
theorem q1229 : Cond.instanceMethod yX7_signHere ∈ tt_T := tt_m 1229 (by decide +kernel) (by decide +kernel)
theorem q1230 : Cond.code yX7_signHere cX7_signHere 2 none ∈ tt_T := tt_m 1230 (by decide +kernel) (by decide +kernel)
theorem q1231 : Cond.fieldLink "TrustTinModel" 260 "TrustTinModel" "W_NONE" "J" ∈ tt_T := tt_m 1231 (by decide +kernel) (by decide +kernel)
theorem q1233 : Cond.fieldLink "TrustTinModel" 263 "TrustTinModel" "W_FLOWERS" "J" ∈ tt_T := tt_m 1233 (by decide +kernel) (by decide +kernel)
theorem q1235 : Cond.fieldLink "TrustTinModel" 266 "TrustTinModel" "W_EYES" "J" ∈ tt_T := tt_m 1235 (by decide +kernel) (by decide +kernel)
theorem q1237 : Cond.methodLink "TrustTinLaw" 144 yX7_hold ∈ tt_T := tt_m 1237 (by decide +kernel) (by decide +kernel)
theorem q1238 : Cond.instanceMethod yX7_hold ∈ tt_T := tt_m 1238 (by decide +kernel) (by decide +kernel)
theorem q1239 : Cond.selects "TrustTinModel" yX7_hold yX7_hold ∈ tt_T := tt_m 1239 (by decide +kernel) (by decide +kernel)
theorem q1240 : Cond.code yX7_hold cX7_hold 3 (some FieldType.int) ∈ tt_T := tt_m 1240 (by decide +kernel) (by decide +kernel)
theorem q1241 : Cond.methodLink "TrustTinLaw" 148 yX7_as ∈ tt_T := tt_m 1241 (by decide +kernel) (by decide +kernel)
theorem q1242 : Cond.instanceMethod yX7_as ∈ tt_T := tt_m 1242 (by decide +kernel) (by decide +kernel)
theorem q1243 : Cond.selects "TrustTinModel" yX7_as yX7_as ∈ tt_T := tt_m 1243 (by decide +kernel) (by decide +kernel)
theorem q1244 : Cond.code yX7_as cX7_as 4 (some FieldType.int) ∈ tt_T := tt_m 1244 (by decide +kernel) (by decide +kernel)
theorem q1245 : Cond.methodLink "TrustTinModel" 293 yX7_isOf ∈ tt_T := tt_m 1245 (by decide +kernel) (by decide +kernel)
theorem q1246 : Cond.static yX7_isOf ∈ tt_T := tt_m 1246 (by decide +kernel) (by decide +kernel)
theorem q1247 : Cond.code yX7_isOf cX7_isOf 2 (some FieldType.boolean) ∈ tt_T := tt_m 1247 (by decide +kernel) (by decide +kernel)
theorem q1248 : Cond.methodLink "TrustTinLaw" 152 yX7_sheet ∈ tt_T := tt_m 1248 (by decide +kernel) (by decide +kernel)
theorem q1249 : Cond.instanceMethod yX7_sheet ∈ tt_T := tt_m 1249 (by decide +kernel) (by decide +kernel)
theorem q1250 : Cond.selects "TrustTinModel" yX7_sheet yX7_sheet ∈ tt_T := tt_m 1250 (by decide +kernel) (by decide +kernel)
theorem q1251 : Cond.code yX7_sheet cX7_sheet 5 (some FieldType.int) ∈ tt_T := tt_m 1251 (by decide +kernel) (by decide +kernel)
theorem q1252 : Cond.methodLink "TrustTinModel" 298 yX7_isSheet ∈ tt_T := tt_m 1252 (by decide +kernel) (by decide +kernel)
theorem q1253 : Cond.static yX7_isSheet ∈ tt_T := tt_m 1253 (by decide +kernel) (by decide +kernel)
theorem q1254 : Cond.code yX7_isSheet cX7_isSheet 1 (some FieldType.boolean) ∈ tt_T := tt_m 1254 (by decide +kernel) (by decide +kernel)
theorem q1255 : Cond.constantLong "TrustTinModel" 296 (3 : Int64) ∈ tt_T := tt_m 1255 (by decide +kernel) (by decide +kernel)
theorem q1256 : Cond.methodLink "TrustTinLaw" 156 yX7_write ∈ tt_T := tt_m 1256 (by decide +kernel) (by decide +kernel)
theorem q1257 : Cond.instanceMethod yX7_write ∈ tt_T := tt_m 1257 (by decide +kernel) (by decide +kernel)
theorem q1258 : Cond.selects "TrustTinModel" yX7_write yX7_write ∈ tt_T := tt_m 1258 (by decide +kernel) (by decide +kernel)
theorem q1259 : Cond.code yX7_write cX7_write 4 (some FieldType.int) ∈ tt_T := tt_m 1259 (by decide +kernel) (by decide +kernel)
theorem q1260 : Cond.methodLink "TrustTinLaw" 161 yX7_copy ∈ tt_T := tt_m 1260 (by decide +kernel) (by decide +kernel)
theorem q1261 : Cond.instanceMethod yX7_copy ∈ tt_T := tt_m 1261 (by decide +kernel) (by decide +kernel)
theorem q1262 : Cond.selects "TrustTinModel" yX7_copy yX7_copy ∈ tt_T := tt_m 1262 (by decide +kernel) (by decide +kernel)
theorem q1263 : Cond.code yX7_copy cX7_copy 7 (some FieldType.int) ∈ tt_T := tt_m 1263 (by decide +kernel) (by decide +kernel)
theorem q1264 : Cond.methodLink "TrustTinLaw" 165 yX7_load ∈ tt_T := tt_m 1264 (by decide +kernel) (by decide +kernel)
theorem q1265 : Cond.instanceMethod yX7_load ∈ tt_T := tt_m 1265 (by decide +kernel) (by decide +kernel)
theorem q1266 : Cond.selects "TrustTinModel" yX7_load yX7_load ∈ tt_T := tt_m 1266 (by decide +kernel) (by decide +kernel)
theorem q1267 : Cond.code yX7_load cX7_load 4 (some FieldType.int) ∈ tt_T := tt_m 1267 (by decide +kernel) (by decide +kernel)
theorem q1268 : Cond.methodLink "TrustTinModel" 301 yX7_whyNot ∈ tt_T := tt_m 1268 (by decide +kernel) (by decide +kernel)
theorem q1270 : Cond.instanceMethod yX7_whyNot ∈ tt_T := tt_m 1270 (by decide +kernel) (by decide +kernel)
theorem q1271 : Cond.code yX7_whyNot cX7_whyNot 2 (some FieldType.int) ∈ tt_T := tt_m 1271 (by decide +kernel) (by decide +kernel)
theorem q1272 : Cond.methodLink "TrustTinLaw" 169 yX7_judge ∈ tt_T := tt_m 1272 (by decide +kernel) (by decide +kernel)
theorem q1273 : Cond.instanceMethod yX7_judge ∈ tt_T := tt_m 1273 (by decide +kernel) (by decide +kernel)
theorem q1274 : Cond.selects "TrustTinModel" yX7_judge yX7_judge ∈ tt_T := tt_m 1274 (by decide +kernel) (by decide +kernel)
theorem q1275 : Cond.code yX7_judge cX7_judge 5 (some FieldType.int) ∈ tt_T := tt_m 1275 (by decide +kernel) (by decide +kernel)
theorem q1276 : Cond.methodLink "TrustTinLaw" 173 yX7_image ∈ tt_T := tt_m 1276 (by decide +kernel) (by decide +kernel)
theorem q1277 : Cond.instanceMethod yX7_image ∈ tt_T := tt_m 1277 (by decide +kernel) (by decide +kernel)
theorem q1278 : Cond.selects "TrustTinModel" yX7_image yX7_image ∈ tt_T := tt_m 1278 (by decide +kernel) (by decide +kernel)
theorem q1279 : Cond.code yX7_image cX7_image 1 (some FieldType.int) ∈ tt_T := tt_m 1279 (by decide +kernel) (by decide +kernel)
theorem q1280 : Cond.methodLink "TrustTinLaw" 177 yX7_undo ∈ tt_T := tt_m 1280 (by decide +kernel) (by decide +kernel)
theorem q1281 : Cond.instanceMethod yX7_undo ∈ tt_T := tt_m 1281 (by decide +kernel) (by decide +kernel)
theorem q1282 : Cond.selects "TrustTinModel" yX7_undo yX7_undo ∈ tt_T := tt_m 1282 (by decide +kernel) (by decide +kernel)
theorem q1283 : Cond.code yX7_undo cX7_undo 1 (some FieldType.int) ∈ tt_T := tt_m 1283 (by decide +kernel) (by decide +kernel)
theorem q1284 : Cond.methodLink "TrustTinLaw" 181 yX7_tear ∈ tt_T := tt_m 1284 (by decide +kernel) (by decide +kernel)
theorem q1285 : Cond.instanceMethod yX7_tear ∈ tt_T := tt_m 1285 (by decide +kernel) (by decide +kernel)
theorem q1286 : Cond.selects "TrustTinModel" yX7_tear yX7_tear ∈ tt_T := tt_m 1286 (by decide +kernel) (by decide +kernel)
theorem q1287 : Cond.code yX7_tear cX7_tear 2 (some FieldType.int) ∈ tt_T := tt_m 1287 (by decide +kernel) (by decide +kernel)
theorem q1288 : Cond.methodLink "TrustTinLaw" 185 yX7_count ∈ tt_T := tt_m 1288 (by decide +kernel) (by decide +kernel)
theorem q1289 : Cond.instanceMethod yX7_count ∈ tt_T := tt_m 1289 (by decide +kernel) (by decide +kernel)
theorem q1290 : Cond.selects "TrustTinModel" yX7_count yX7_count ∈ tt_T := tt_m 1290 (by decide +kernel) (by decide +kernel)
theorem q1291 : Cond.code yX7_count cX7_count 2 (some FieldType.int) ∈ tt_T := tt_m 1291 (by decide +kernel) (by decide +kernel)
theorem q1292 : Cond.methodLink "TrustTinModel" 308 yX7_held ∈ tt_T := tt_m 1292 (by decide +kernel) (by decide +kernel)
theorem q1294 : Cond.instanceMethod yX7_held ∈ tt_T := tt_m 1294 (by decide +kernel) (by decide +kernel)
theorem q1295 : Cond.code yX7_held cX7_held 3 (some FieldType.int) ∈ tt_T := tt_m 1295 (by decide +kernel) (by decide +kernel)
theorem q1296 : Cond.methodLink "TrustTinLaw" 189 yX7_status ∈ tt_T := tt_m 1296 (by decide +kernel) (by decide +kernel)
theorem q1297 : Cond.instanceMethod yX7_status ∈ tt_T := tt_m 1297 (by decide +kernel) (by decide +kernel)
theorem q1298 : Cond.selects "TrustTinModel" yX7_status yX7_status ∈ tt_T := tt_m 1298 (by decide +kernel) (by decide +kernel)
theorem q1299 : Cond.code yX7_status cX7_status 4 (some FieldType.int) ∈ tt_T := tt_m 1299 (by decide +kernel) (by decide +kernel)
theorem q1300 : Cond.constantLong "TrustTinModel" 311 (-1 : Int64) ∈ tt_T := tt_m 1300 (by decide +kernel) (by decide +kernel)
theorem q1301 : Cond.fieldLink "java/lang/String" 9 "java/lang/String" "value" "[B" ∈ tt_T := tt_m 1301 (by decide +kernel) (by decide +kernel)
theorem q1302 : Cond.fieldLink "java/lang/String" 15 "java/lang/String" "coder" "B" ∈ tt_T := tt_m 1302 (by decide +kernel) (by decide +kernel)
end
section
/-! worlds of cells that all stand from the constructors on; their ints are a function of a row and a place -/
abbrev tt_St : Type := Nat → Nat → Int32
def tt_upR (S : tt_St) (n : Nat) (f : Nat → Int32) : tt_St := fun n' => if n' = n then f else S n'
def tt_up (S : tt_St) (n k : Nat) (v : Int32) : tt_St := tt_upR S n (upd (S n) k v)
theorem tt_upR_self (S : tt_St) (n : Nat) (f : Nat → Int32) : tt_upR S n f n = f := if_pos rfl
theorem tt_upR_row {S : tt_St} {n n' : Nat} {f : Nat → Int32} (h : n' ≠ n) : tt_upR S n f n' = S n' := if_neg h
theorem tt_up_row {S : tt_St} {n n' k : Nat} {v : Int32} (h : n' ≠ n) : tt_up S n k v n' = S n' := if_neg h
theorem tt_up_self (S : tt_St) (n k : Nat) (v : Int32) : tt_up S n k v n k = v := by simp [tt_up, tt_upR, upd]
theorem tt_up_same (S : tt_St) (n k : Nat) (v : Int32) : tt_up S n k v n = upd (S n) k v := if_pos rfl
theorem tt_up_ne {S : tt_St} {n n' k k' : Nat} {v : Int32} (h : ¬ (n' = n ∧ k' = k)) : tt_up S n k v n' k' = S n' k' := by
  by_cases h1 : n' = n
  · subst h1
    have h2 : k' ≠ k := fun z => h ⟨rfl, z⟩
    simp [tt_up, tt_upR, upd, h2]
  · rw [tt_up_row h1]
theorem tt_up_at (S : tt_St) (n k n' k' : Nat) (v : Int32) : tt_up S n k v n' k' = if n' = n ∧ k' = k then v else S n' k' := by
  by_cases h : n' = n ∧ k' = k
  · obtain ⟨rfl, rfl⟩ := h
    rw [tt_up_self, if_pos ⟨rfl, rfl⟩]
  · rw [tt_up_ne h, if_neg h]
abbrev tt_G : Type := va_G × ((Nat → ClassId) × (Nat → Nat))
def tt_tys (G : tt_G) : List (ClassId × FieldType) := [(G.2.1 0, .int), (G.2.1 1, .object "TrustTin$Drinker"), (G.2.1 2, .object "TrustTin$Sheet"), (G.2.1 3, .byte)]
def tt_inA (G : tt_G) (q : Nat) : Prop := ∃ n : Nat, n < 72 ∧ q = G.2.2 n
def tt_above (j : Nat) : Int32 := [(-1 : Int32), 0, 0, 0, 2, 0, 1].getD j 0
def tt_txt (i : Nat) : Nat × String := [(149, "each"), (151, "later"), (153, "forgets"), (155, "never"), (157, "if"), (159, "twice"), (161, "maker"), (49, "price"), (57, "pot"), (62, "sign"), (85, "purse"), (91, "limit"), (163, "none"), (165, "flowers"), (167, "eyes")].getD i (0, "")
def tt_byt : List (List Int32) := [[101, 97, 99, 104], [108, 97, 116, 101, 114], [102, 111, 114, 103, 101, 116, 115], [110, 101, 118, 101, 114], [105, 102], [116, 119, 105, 99, 101], [109, 97, 107, 101, 114], [112, 114, 105, 99, 101], [112, 111, 116], [115, 105, 103, 110], [112, 117, 114, 115, 101], [108, 105, 109, 105, 116], [110, 111, 110, 101], [102, 108, 111, 119, 101, 114, 115], [101, 121, 101, 115]]
def tt_len : List Nat := [4, 5, 7, 5, 2, 5, 5, 5, 3, 4, 5, 5, 4, 7, 4]
def tt_wrd (i : Nat) : String × Int64 := [("W_EACH", (99233 : Int64)), ("W_LATER", 6411708), ("W_FORGETS", 2549464462), ("W_NEVER", 7554780), ("W_IF", 249), ("W_TWICE", 11088176), ("W_MAKER", 6936588), ("W_PURSE", 8930039), ("W_LIMIT", 6564179), ("W_PRICE", 8863997), ("W_POT", 12089), ("W_SIGN", 380741), ("W_NONE", 286880), ("W_FLOWERS", 2505138292), ("W_EYES", 116794)].getD i ("", 0)
/-- what stands at the start and nobody writes -/
def tt_con (G : tt_G) (U : State) : Prop :=
  (va_Z "TrustTin" "ABOVE" "[I" (.ref (G.2.2 100)) (tt_inA G) U U.heap ∧ va_T .int (G.2.2 100) 7 (fun j => .int (tt_above j)) (tt_inA G) U U.heap) ∧
  (vk_S 15 tt_len tt_byt (fun i => G.2.2 (110 + i)) (fun i => G.2.2 (130 + i)) (tt_inA G) U U.heap ∧ ∀ i : Nat, i < 15 → vk_R "TrustTin$TextReader" (tt_txt i).1 (tt_txt i).2 (G.2.2 (110 + i)) U) ∧
  (va_Z "java/lang/String" "COMPACT_STRINGS" "Z" (.int 1) (tt_inA G) U U.heap ∧ va_Zq "jdk/internal/util/Preconditions" "SIOOBE_FORMATTER" "Ljava/util/function/BiFunction;" (tt_inA G) U U.heap) ∧
  (∀ i : Nat, i < 15 → va_Z "TrustTinModel" (tt_wrd i).1 "J" (.long (tt_wrd i).2) (tt_inA G) U U.heap) ∧
  va_Nw (.methodLinkNest "TrustTin$TextReader" 106 yX6_within "TrustTin") U
def tt_K (G : tt_G) (U : State) : Prop := va_K G.1 vwCl (tt_tys G) U ∧ (∀ i j : Nat, i < 72 → j < 72 → G.2.2 i = G.2.2 j → i = j) ∧ tt_con G U
theorem tt_con.go {G : tt_G} {s U : State} (h : tt_con G s) (hW : s.WarmedH U.vm) (hq : ∀ a : Nat, a < s.heap.size → ¬ tt_inA G a → U.heap[a]? = s.heap[a]?) : tt_con G U := by
  obtain ⟨⟨h1, h2⟩, ⟨h3, h4⟩, ⟨h5, h6⟩, h7, h8⟩ := h
  have hv := hW.alike
  exact ⟨⟨(h1.moved hv).kept hq, (h2.moved hv).kept hq⟩, ⟨(h3.moved hv).kept hq, fun i hi => (h4 i hi).warm hW⟩, ⟨(h5.moved hv).kept hq, (h6.moved hv).kept hq⟩, fun i hi => ((h7 i hi).moved hv).kept hq, h8.warmM hW⟩
theorem tt_con.blind {G : tt_G} {U : State} (h : tt_con G U) (g : JFrame) (mk : MethodId) (a : Array Value) : tt_con G (U.calling g mk a) := by
  obtain ⟨⟨h1, h2⟩, ⟨h3, h4⟩, ⟨h5, h6⟩, h7, h8⟩ := h
  have hv : U.vm.Alike (U.calling g mk a).vm := Vm.Alike.refl U.vm
  exact ⟨⟨h1.moved hv, h2.moved hv⟩, ⟨h3.moved hv, fun i hi => (h4 i hi).same rfl⟩, ⟨h5.moved hv, h6.moved hv⟩, fun i hi => (h7 i hi).moved hv, h8.same rfl rfl⟩
theorem tt_K.go {G : tt_G} {s U : State} (h : tt_K G s) (hW : s.WarmedH U.vm) (hq : ∀ a : Nat, a < s.heap.size → ¬ tt_inA G a → U.heap[a]? = s.heap[a]?) : tt_K G U := ⟨va_K.moved hW.alike h.1, h.2.1, h.2.2.go hW hq⟩
theorem tt_K.blind {G : tt_G} {U : State} (h : tt_K G U) (g : JFrame) (mk : MethodId) (a : Array Value) : tt_K G (U.calling g mk a) := ⟨va_K.moved (u := U) (U := U.calling g mk a) (Vm.Alike.refl U.vm) h.1, h.2.1, h.2.2.blind g mk a⟩
section GW
variable {σ : Type}
def g_w (N : Nat) (ad : Nat → Nat) (cell : σ → Nat → va_E) (S : σ) : va_W := (List.range N).map (fun n => (ad n, cell S n))
def g_in (N : Nat) (ad : Nat → Nat) (q : Nat) : Prop := ∃ n : Nat, n < N ∧ q = ad n
def g_ap (N : Nat) (ad : Nat → Nat) : Prop := ∀ i j : Nat, i < N → j < N → ad i = ad j → i = j
def g_set (N : Nat) (cell : σ → Nat → va_E) (S : σ) (n : Nat) (x : va_E) (S' : σ) : Prop := ∀ j : Nat, j < N → cell S' j = if j = n then x else cell S j
theorem g_w_at {N : Nat} {ad : Nat → Nat} {cell : σ → Nat → va_E} {S : σ} {n : Nat} (h : n < N) {x : va_E} (he : cell S n = x) : (g_w N ad cell S)[n]? = some (ad n, x) := by
  subst he
  simp [g_w, h]
theorem g_w_set {N : Nat} {ad : Nat → Nat} {cell : σ → Nat → va_E} {S S' : σ} {n : Nat} {x : va_E} (h : n < N) (hs : g_set N cell S n x S') : (g_w N ad cell S).set n (ad n, x) = g_w N ad cell S' := by
  apply List.ext_getElem?
  intro j
  by_cases hj : j < N
  · by_cases hjn : j = n
    · subst hjn
      rw [List.getElem?_set_self (by simp [g_w, hj])]
      rw [g_w_at hj (hs j hj), if_pos rfl]
    · rw [List.getElem?_set_ne (Ne.symm hjn), g_w_at hj rfl, g_w_at hj (hs j hj), if_neg hjn]
  · rw [List.getElem?_eq_none (by simp [g_w]; omega), List.getElem?_eq_none (by simp [g_w]; omega)]
theorem g_D {N : Nat} {ad : Nat → Nat} (hi : g_ap N ad) (cell : σ → Nat → va_E) (S : σ) : va_D (g_in N ad) (g_w N ad cell S) := by
  have key : ∀ (k : Nat) (q : Nat × va_E), (g_w N ad cell S)[k]? = some q → k < N ∧ q.1 = ad k := by
    intro k q h
    have hl : k < N := by
      have := (List.getElem?_eq_some_iff.mp h).1
      simpa [g_w] using this
    rw [g_w_at hl rfl] at h
    cases h
    exact ⟨hl, rfl⟩
  refine ⟨fun i j x y hx hy e => ?_, fun k q h => ?_⟩
  · obtain ⟨a1, a2⟩ := key i x hx
    obtain ⟨b1, b2⟩ := key j y hy
    exact hi i j a1 b1 (by rw [← a2, ← b2]; exact e)
  · obtain ⟨a1, a2⟩ := key k q h
    exact ⟨k, a1, a2⟩
/-- the world as a walk has it -/
def g_W (G : tt_G) (N : Nat) (ad : Nat → Nat) (cell : σ → Nat → va_E) (S : σ) (s : State) (H : Heap) (locs : List Loc) : Prop := va_P G.1 vwCl (g_w N ad cell S) H ∧ va_S (g_in N ad) s.heap H locs
/-- a contract's start and end -/
def g_Pre (G : tt_G) (N : Nat) (ad : Nat → Nat) (cell : σ → Nat → va_E) (S : σ) (U : State) : Prop := va_P G.1 vwCl (g_w N ad cell S) U.heap ∧ tt_K G U
def g_Post (G : tt_G) (N : Nat) (ad : Nat → Nat) (cell : σ → Nat → va_E) (S : σ) (t : State) : Prop := va_P G.1 vwCl (g_w N ad cell S) t.heap
def g_code (y : MethodName) (b : ByteArray) (n : Nat) (r : Option FieldType) : List Cond := Cond.code y b n r :: tt_T
def g_rm (fr lo : Nat) : Room := { frames := fr, cells := 0, slots := 0, locals := lo }
def g_MI (l : Launch) (G : tt_G) (N : Nat) (ad : Nat → Nat) (cell : σ → Nat → va_E) (y : MethodName) (ws : List Cond) (fr lo : Nat) (av : List Value) (S : σ) (a : Int32) (S' : σ) : Prop :=
  Met l y ws (g_rm fr lo) (va_Pc av (g_Pre G N ad cell S)) (va_Qi (fun r T => r = a ∧ T = S') (g_Post G N ad cell) (g_in N ad)) 0 0 (g_in N ad)
def g_MV (l : Launch) (G : tt_G) (N : Nat) (ad : Nat → Nat) (cell : σ → Nat → va_E) (y : MethodName) (ws : List Cond) (fr lo : Nat) (av : List Value) (S : σ) (S' : σ) : Prop :=
  Met l y ws (g_rm fr lo) (va_Pc av (g_Pre G N ad cell S)) (va_Qv (fun T => T = S') (g_Post G N ad cell) (g_in N ad)) 0 0 (g_in N ad)
def g_MR (l : Launch) (G : tt_G) (N : Nat) (ad : Nat → Nat) (cell : σ → Nat → va_E) (y : MethodName) (ws : List Cond) (fr lo : Nat) (av : List Value) (S : σ) (a : Nat) (S' : σ) : Prop :=
  Met l y ws (g_rm fr lo) (va_Pc av (g_Pre G N ad cell S)) (va_Qr (fun T => T = S') (fun T b t => b = a ∧ g_Post G N ad cell T t) (g_in N ad)) 0 0 (g_in N ad)
variable {p : Program} {l : Launch} {e : Env} {R : Room} {s : State} {m : MethodId} {args : Array Value} {below : List Frame} {meth : Method} {c : Code} {H : Heap} {locs : List Loc} {cells slots : Nat} {Q : State → Prop}
variable {cc : ByteArray} {pc nL index : Nat} {ls : Array Slot} {rest : List Value} {own : String} {G : tt_G} {N : Nat} {ad : Nat → Nat} {cell : σ → Nat → va_E} {S : σ} {n : Nat}
theorem g_get (X : CallFix p m c cc nL s args tt_T own) (K : tt_K G s) (hw : g_W G N ad cell S s H locs) (hn : n < N) {ci : Nat} {fs : List Value} (he : cell S n = .inr (ci, fs)) {C : String} {T : u_T} {M : Nat} (hc : vwCl[ci]? = some (C, T, M)) (hin : ∀ w ∈ u_ws C T M, w ∈ tt_T) (k : Nat) (hk : k < M) (hl : Cond.fieldLink own index (T k).1 (T k).2.1 (T k).2.2.1 ∈ tt_T) {v : Value} (hv : fs[k]? = some v) (hdg : decode cc pc = .ok (.getfield index, 3))
    (kk : W p l e R s m args below meth c H locs cells slots Q (F0 m (pc + 3) ls (v :: rest))) : W p l e R s m args below meth c H locs cells slots Q (F0 m pc ls (.ref (ad n) :: rest)) :=
  va_get (D := G.1) (C := C) (T := T) (N := M) X.1 X.2.1 X.2.2.2.2 hin X.2.2.2.1 K.1 hw.1 n (g_w_at hn he) hc k hk (X.2.2.2.2 _ hl) (fun _ h => h) hv hdg kk
theorem g_put (X : CallFix p m c cc nL s args tt_T own) (K : tt_K G s) (hap : g_ap N ad) (hw : g_W G N ad cell S s H locs) (hn : n < N) {ci : Nat} {fs : List Value} (he : cell S n = .inr (ci, fs)) {C : String} {T : u_T} {M : Nat} (hc : vwCl[ci]? = some (C, T, M)) (hin : ∀ w ∈ u_ws C T M, w ∈ tt_T) {ty0 : Nat → FieldType} (hty : ∀ k, k < M → parseFieldDescriptor (T k).2.2.1 = some (ty0 k)) (hnm : ∀ a, a < M → ∀ b, b < M → a ≠ b → (T a).2.1 ≠ (T b).2.1) (k : Nat) (hk : k < M) (hl : Cond.fieldLink own index (T k).1 (T k).2.1 (T k).2.2.1 ∈ tt_T) (hfin : (T k).2.2.2 = false) {v : Value} (hnr : narrow (ty0 k) v = v) (hft : fits (ty0 k) v = true) (hlen : k < fs.length) {S' : σ} (hs : g_set N cell S n (.inr (ci, fs.set k v)) S') (hdg : decode cc pc = .ok (.putfield index, 3))
    (kk : ∀ (S2 : σ) (H1 : Heap) (locs1 : List Loc), S2 = S' → g_W G N ad cell S2 s H1 locs1 → W p l e R s m args below meth c H1 locs1 cells slots Q (F0 m (pc + 3) ls rest)) : W p l e R s m args below meth c H locs cells slots Q (F0 m pc ls (v :: .ref (ad n) :: rest)) :=
  va_put (D := G.1) (C := C) (T := T) (N := M) (A := g_in N ad) X.1 X.2.1 X.2.2.2.2 hin ty0 hty hnm X.2.2.2.1 K.1 hw.1 (g_D hap cell S) hw.2 n (g_w_at hn he) hc k hk (X.2.2.2.2 _ hl) (fun _ h => h) hfin (hty k hk) hnr hft hlen hdg (fun H1 locs1 hP _ hS => kk S' H1 locs1 rfl ⟨by rw [g_w_set hn hs] at hP; exact hP, hS⟩)
theorem g_iald (X : CallFix p m c cc nL s args tt_T own) (K : tt_K G s) (hw : g_W G N ad cell S s H locs) (hn : n < N) {k : Nat} {f : Nat → Int32} (he : cell S n = .inl (G.2.1 0, k, .inl f)) {i : Int32} (hi : vp_in i k) (hdg : decode cc pc = .ok (.iaload, 1))
    (kk : W p l e R s m args below meth c H locs cells slots Q (F0 m (pc + 1) ls (.int (f i.toNatClampNeg) :: rest))) : W p l e R s m args below meth c H locs cells slots Q (F0 m pc ls (.int i :: .ref (ad n) :: rest)) :=
  va_iald X.1 X.2.1 K.1 hw.1 n 0 (g_w_at hn he) rfl hi hdg kk
theorem g_bald (X : CallFix p m c cc nL s args tt_T own) (K : tt_K G s) (hw : g_W G N ad cell S s H locs) (hn : n < N) {k : Nat} {f : Nat → Int32} (he : cell S n = .inl (G.2.1 3, k, .inl f)) {i : Int32} (hi : vp_in i k) (hdg : decode cc pc = .ok (.baload, 1))
    (kk : W p l e R s m args below meth c H locs cells slots Q (F0 m (pc + 1) ls (.int (f i.toNatClampNeg) :: rest))) : W p l e R s m args below meth c H locs cells slots Q (F0 m pc ls (.int i :: .ref (ad n) :: rest)) :=
  va_bald X.1 X.2.1 K.1 hw.1 n 3 (g_w_at hn he) rfl hi hdg kk
theorem g_aald (X : CallFix p m c cc nL s args tt_T own) (K : tt_K G s) (hw : g_W G N ad cell S s H locs) (hn : n < N) {k : Nat} {cA : ClassId} {C : String} {f : Nat → Option Nat} (he : cell S n = .inl (cA, k, .inr (.inr (.inr (.inr f))))) (t0 : Nat) (ht : (tt_tys G)[t0]? = some (cA, .object C)) {i : Int32} (hi : vp_in i k) {a : Nat} (ha : f i.toNatClampNeg = some a) (hdg : decode cc pc = .ok (.aaload, 1))
    (kk : W p l e R s m args below meth c H locs cells slots Q (F0 m (pc + 1) ls (.ref a :: rest))) : W p l e R s m args below meth c H locs cells slots Q (F0 m pc ls (.int i :: .ref (ad n) :: rest)) :=
  va_aldq X.1 X.2.1 K.1 hw.1 n t0 (g_w_at hn he) ht hi hdg (by rw [ha]; exact kk)
theorem g_alen (X : CallFix p m c cc nL s args tt_T own) (K : tt_K G s) (hw : g_W G N ad cell S s H locs) (hn : n < N) {k : Nat} {f : Nat → Int32} (he : cell S n = .inl (G.2.1 0, k, .inl f)) {v : Int32} (hv : Int32.ofNat k = v) (hdg : decode cc pc = .ok (.arraylength, 1))
    (kk : W p l e R s m args below meth c H locs cells slots Q (F0 m (pc + 1) ls (.int v :: rest))) : W p l e R s m args below meth c H locs cells slots Q (F0 m pc ls (.ref (ad n) :: rest)) :=
  va_alen X.1 X.2.1 K.1 hw.1 n 0 (g_w_at hn he) rfl hv hdg kk
theorem g_iast (X : CallFix p m c cc nL s args tt_T own) (K : tt_K G s) (hap : g_ap N ad) (hw : g_W G N ad cell S s H locs) (hn : n < N) {k : Nat} {f : Nat → Int32} (he : cell S n = .inl (G.2.1 0, k, .inl f)) {i x : Int32} (hi : vp_in i k) {S' : σ} (hs : g_set N cell S n (.inl (G.2.1 0, k, .inl (upd f i.toNatClampNeg x))) S') (hdg : decode cc pc = .ok (.iastore, 1))
    (kk : ∀ (S2 : σ) (H1 : Heap) (locs1 : List Loc), S2 = S' → g_W G N ad cell S2 s H1 locs1 → W p l e R s m args below meth c H1 locs1 cells slots Q (F0 m (pc + 1) ls rest)) : W p l e R s m args below meth c H locs cells slots Q (F0 m pc ls (.int x :: .int i :: .ref (ad n) :: rest)) :=
  va_iast X.1 X.2.1 K.1 hw.1 (g_D hap cell S) hw.2 n 0 (g_w_at hn he) rfl hi hdg (fun H1 locs1 hP _ hS => kk S' H1 locs1 rfl ⟨by rw [g_w_set hn hs] at hP; exact hP, hS⟩)
theorem g_bast (X : CallFix p m c cc nL s args tt_T own) (K : tt_K G s) (hap : g_ap N ad) (hw : g_W G N ad cell S s H locs) (hn : n < N) {k : Nat} {f : Nat → Int32} (he : cell S n = .inl (G.2.1 3, k, .inl f)) {i x : Int32} (hi : vp_in i k) {S' : σ} (hs : g_set N cell S n (.inl (G.2.1 3, k, .inl (upd f i.toNatClampNeg (vp_nar .byte x)))) S') (hdg : decode cc pc = .ok (.bastore, 1))
    (kk : ∀ (S2 : σ) (H1 : Heap) (locs1 : List Loc), S2 = S' → g_W G N ad cell S2 s H1 locs1 → W p l e R s m args below meth c H1 locs1 cells slots Q (F0 m (pc + 1) ls rest)) : W p l e R s m args below meth c H locs cells slots Q (F0 m pc ls (.int x :: .int i :: .ref (ad n) :: rest)) :=
  va_bast X.1 X.2.1 K.1 hw.1 (g_D hap cell S) hw.2 n 3 (g_w_at hn he) rfl hi hdg (fun H1 locs1 hP _ hS => kk S' H1 locs1 rfl ⟨by rw [g_w_set hn hs] at hP; exact hP, hS⟩)
theorem g_copyi (X : CallFix p m c cc nL s args tt_T own) (K : tt_K G s) (hap : g_ap N ad) (hw : g_W G N ad cell S s H locs) (hsz : ls.size = nL) (hl : Cond.methodLink own index arraycopyName ∈ tt_T) (h1 : Cond.native arraycopyName ∈ tt_T) (h2 : Cond.static arraycopyName ∈ tt_T) (h3 : Cond.initialized "java/lang/System" ∈ tt_T) {n0 : Nat} (hn0 : n0 < N) (hn : n < N) {k0 k : Nat} {f g : Nat → Int32} (he0 : cell S n0 = .inl (G.2.1 0, k0, .inl f)) (he : cell S n = .inl (G.2.1 0, k, .inl g)) {sp dp z : Int32} (a1 : ¬ sp < 0) (a2 : ¬ dp < 0) (a3 : ¬ z < 0) (a4 : sp.toNatClampNeg + z.toNatClampNeg ≤ k0) (a5 : dp.toNatClampNeg + z.toNatClampNeg ≤ k) {S' : σ} (hs : g_set N cell S n (.inl (G.2.1 0, k, .inl (va_cpy f g sp.toNatClampNeg dp.toNatClampNeg z.toNatClampNeg))) S') (hfr : 1 ≤ R.frames) (hlo : (rest.map fun v => v.category).sum + (nativeFrameWords "java/lang/System" "arraycopy" 5 + 11) ≤ R.locals) (hdg : decode cc pc = .ok (.invokestatic index, 3))
    (kk : ∀ (S2 : σ) (H1 : Heap) (locs1 : List Loc), S2 = S' → g_W G N ad cell S2 s H1 locs1 → W p l e R s m args below meth c H1 locs1 cells slots Q (F0 m (pc + 3) ls rest)) : W p l e R s m args below meth c H locs cells slots Q (F0 m pc ls (.int z :: .int dp :: .ref (ad n) :: .int sp :: .ref (ad n0) :: rest)) :=
  va_copyi X.1 X.2.1 (X.2.2.1.trans hsz.symm) X.2.2.2.1 (X.2.2.2.2 _ hl) (X.2.2.2.2 _ h1) (X.2.2.2.2 _ h2) (X.2.2.2.2 _ h3) K.1 hw.1 (g_D hap cell S) hw.2 n0 n 0 0 (ty := .int) (g_w_at hn0 he0) (g_w_at hn he) rfl rfl rfl a1 a2 a3 a4 a5 (fun _ _ => rfl) hfr hlo hdg (fun H1 locs1 hP _ hS => kk S' H1 locs1 rfl ⟨by rw [g_w_set hn hs] at hP; exact hP, hS⟩)
theorem g_Pc_blind (av : List Value) : FrameBlind (va_Pc av (g_Pre G N ad cell S)) := fun a U g mk h => ⟨h.1, h.2.1, h.2.2.blind g mk a⟩
theorem g_pre (K : tt_K G s) (hA : ∀ q, g_in N ad q → tt_inA G q) (hw : g_W G N ad cell S s H locs) (av : List Value) (U : State) (hU : U.heap = H) (hW : s.WarmedH U.vm) : va_Pc av (g_Pre G N ad cell S) av.toArray U :=
  ⟨rfl, by rw [hU]; exact hw.1, K.go hW (fun a h1 h2 => by rw [hU]; exact hw.2.2.1 a h1 (fun z => h2 (hA a z)))⟩
theorem g_goodV {y : MethodName} {b : ByteArray} {mL : Nat} {r : Option FieldType} {C : String} (h1 : Cond.methodLink own index y ∈ tt_T) (h2 : Cond.instanceMethod y ∈ tt_T) (h3 : Cond.selects C y y ∈ tt_T) (h4 : Cond.initialized C ∈ tt_T) (h5 : Cond.code y b mL r ∈ tt_T) : GoodIn tt_T (wsV own index C y (g_code y b mL r)) := by
  have k : ∀ w, w ∈ tt_T → w ∈ tt_T ∧ ((w.onTables && w.keeps) = true ∨ ∃ ty, w = .arrayClass ty) := fun w h => ⟨h, (tt_good w h).2⟩
  intro w hw
  unfold wsV g_code at hw
  rcases List.mem_append.mp hw with hw | hw
  · simp only [List.mem_cons, List.not_mem_nil, or_false] at hw
    rcases hw with rfl | rfl | rfl | rfl
    · exact k _ h1
    · exact k _ h2
    · exact k _ h3
    · exact k _ h4
  · rcases List.mem_cons.mp hw with rfl | hw
    · exact k _ h5
    · exact k _ hw
theorem g_goodC {y : MethodName} {b : ByteArray} {mL : Nat} {r : Option FieldType} (h5 : Cond.code y b mL r ∈ tt_T) : GoodIn tt_T (g_code y b mL r) := by
  have k : ∀ w, w ∈ tt_T → w ∈ tt_T ∧ ((w.onTables && w.keeps) = true ∨ ∃ ty, w = .arrayClass ty) := fun w h => ⟨h, (tt_good w h).2⟩
  intro w hw
  unfold g_code at hw
  rcases List.mem_cons.mp hw with rfl | hw
  · exact k _ h5
  · exact k _ hw
theorem g_goodS {y : MethodName} {b : ByteArray} {mL : Nat} {r : Option FieldType} (h1 : Cond.methodLink own index y ∈ tt_T) (h2 : Cond.static y ∈ tt_T) (h4 : Cond.initialized y.cls ∈ tt_T) (h5 : Cond.code y b mL r ∈ tt_T) : GoodIn tt_T (va_wsS own index y (g_code y b mL r)) := by
  have k : ∀ w, w ∈ tt_T → w ∈ tt_T ∧ ((w.onTables && w.keeps) = true ∨ ∃ ty, w = .arrayClass ty) := fun w h => ⟨h, (tt_good w h).2⟩
  intro w hw
  unfold va_wsS at hw
  rcases List.mem_append.mp hw with hw | hw
  · simp only [List.mem_cons, List.not_mem_nil, or_false] at hw
    rcases hw with rfl | rfl | rfl
    · exact k _ h1
    · exact k _ h2
    · exact k _ h4
  · exact g_goodC h5 w hw
/-- what is known of a method by its name: its class, how many arguments -/
def g_is (y : MethodName) (C : String) (n : Nat) : Prop := y.cls = C ∧ y.cls ≠ "java/lang/invoke/MethodHandle" ∧ y.cls ≠ "java/lang/invoke/VarHandle" ∧ (parseMethodDescriptor y.desc).map (fun d => d.parameters.length) = some n
variable {y : MethodName} {b : ByteArray} {mL fr lo : Nat} {r : Option FieldType} {C : String} {As st0 : List Value} {S' : σ}
theorem g_cwV (X : CallFix p m c cc nL s args tt_T own) {na : Nat} (hy : g_is y C na) (h1 : Cond.methodLink own index y ∈ tt_T) (h2 : Cond.instanceMethod y ∈ tt_T) (h3 : Cond.selects C y y ∈ tt_T) (h4 : Cond.initialized C ∈ tt_T) (h5 : Cond.code y b mL r ∈ tt_T) (hR : fr + 1 ≤ R.frames ∧ 8 + (mL + 11) + lo ≤ R.locals) : CallW R s args own C index y b mL r (g_code y b mL r) (g_rm fr lo) 0 0 na :=
  cwV na X.2.2.2.2 (g_goodV h1 h2 h3 h4 h5) rfl rfl rfl hy hR
theorem g_cwS (X : CallFix p m c cc nL s args tt_T own) {na : Nat} (hy : g_is y C na) (h1 : Cond.methodLink own index y ∈ tt_T) (h2 : Cond.static y ∈ tt_T) (h4 : Cond.initialized C ∈ tt_T) (h5 : Cond.code y b mL r ∈ tt_T) (hR : fr + 1 ≤ R.frames ∧ 8 + (mL + 11) + lo ≤ R.locals) : CallB R s args own index y b mL r (g_code y b mL r) (g_rm fr lo) 0 0 na ∧ (Cond.static y).before args s = true :=
  va_cwS na X.2.2.2.2 (g_goodS h1 h2 (by rw [hy.1]; exact h4) h5) rfl rfl rfl hy.2 hR
theorem g_callVI (X : CallFix p m c cc nL s args tt_T own) (K : tt_K G s) (hA : ∀ q, g_in N ad q → tt_inA G q) (hw : g_W G N ad cell S s H locs) {a : Int32} (hM : g_MI l G N ad cell y (g_code y b mL r) fr lo (.ref (ad n) :: As) S a S') {na : Nat} (cw : CallW R s args own C index y b mL r (g_code y b mL r) (g_rm fr lo) 0 0 na) (hn : n < N) {ci : Nat} {fs : List Value} (he : cell S n = .inr (ci, fs)) {T : u_T} {M : Nat} (hc : vwCl[ci]? = some (C, T, M)) (hna : As.length = na) (hsz : ls.size = nL) (hst : st0 = As.reverse ++ .ref (ad n) :: rest) (hroom : (rest.map fun v => v.category).sum ≤ 8) (hdg : decode cc pc = .ok (.invokevirtual index, 3)) (hf : cells ≤ R.cells ∧ slots ≤ R.slots)
    (kk : ∀ (z : Int32) (S2 : σ) (H1 : Heap) (locs1 : List Loc), z = a → S2 = S' → g_W G N ad cell S2 s H1 locs1 → W p l e R s m args below meth c H1 locs1 cells slots Q (F0 m (pc + 3) ls (.int z :: rest))) : W p l e R s m args below meth c H locs cells slots Q (F0 m pc ls st0) := by
  refine va_calli (va_runV (As := As) (rest := rest) X hM cw ⟨g_Pc_blind _, va_recv K.1 hw.1 hc (g_w_at hn he), g_pre K hA hw _⟩ rfl hna hsz hst (lv_room hroom) hdg hf) hw.2 (fun q _ h => h) (fun q h => h) (fun z u t H1 locs1 ht hvm hp hB hz1 hk1 hS => ?_)
  obtain ⟨rfl, rfl⟩ := hp
  exact kk _ _ H1 locs1 rfl rfl ⟨by rw [← ht]; exact hB, hS⟩
theorem g_callVV (X : CallFix p m c cc nL s args tt_T own) (K : tt_K G s) (hA : ∀ q, g_in N ad q → tt_inA G q) (hw : g_W G N ad cell S s H locs) (hM : g_MV l G N ad cell y (g_code y b mL r) fr lo (.ref (ad n) :: As) S S') {na : Nat} (cw : CallW R s args own C index y b mL r (g_code y b mL r) (g_rm fr lo) 0 0 na) (hn : n < N) {ci : Nat} {fs : List Value} (he : cell S n = .inr (ci, fs)) {T : u_T} {M : Nat} (hc : vwCl[ci]? = some (C, T, M)) (hna : As.length = na) (hsz : ls.size = nL) (hst : st0 = As.reverse ++ .ref (ad n) :: rest) (hroom : (rest.map fun v => v.category).sum ≤ 8) (hdg : decode cc pc = .ok (.invokevirtual index, 3)) (hf : cells ≤ R.cells ∧ slots ≤ R.slots)
    (kk : ∀ (S2 : σ) (H1 : Heap) (locs1 : List Loc), S2 = S' → g_W G N ad cell S2 s H1 locs1 → W p l e R s m args below meth c H1 locs1 cells slots Q (F0 m (pc + 3) ls rest)) : W p l e R s m args below meth c H locs cells slots Q (F0 m pc ls st0) := by
  refine va_callv (va_runV (As := As) (rest := rest) X hM cw ⟨g_Pc_blind _, va_recv K.1 hw.1 hc (g_w_at hn he), g_pre K hA hw _⟩ rfl hna hsz hst (lv_room hroom) hdg hf) hw.2 (fun q _ h => h) (fun q h => h) (fun u t H1 locs1 ht hvm hp hB hz1 hk1 hS => ?_)
  obtain rfl := hp
  exact kk _ H1 locs1 rfl ⟨by rw [← ht]; exact hB, hS⟩
theorem g_callVR (X : CallFix p m c cc nL s args tt_T own) (K : tt_K G s) (hA : ∀ q, g_in N ad q → tt_inA G q) (hw : g_W G N ad cell S s H locs) {a : Nat} (hM : g_MR l G N ad cell y (g_code y b mL r) fr lo (.ref (ad n) :: As) S a S') {na : Nat} (cw : CallW R s args own C index y b mL r (g_code y b mL r) (g_rm fr lo) 0 0 na) (hn : n < N) {ci : Nat} {fs : List Value} (he : cell S n = .inr (ci, fs)) {T : u_T} {M : Nat} (hc : vwCl[ci]? = some (C, T, M)) (hna : As.length = na) (hsz : ls.size = nL) (hst : st0 = As.reverse ++ .ref (ad n) :: rest) (hroom : (rest.map fun v => v.category).sum ≤ 8) (hdg : decode cc pc = .ok (.invokevirtual index, 3)) (hf : cells ≤ R.cells ∧ slots ≤ R.slots)
    (kk : ∀ (S2 : σ) (H1 : Heap) (locs1 : List Loc), S2 = S' → g_W G N ad cell S2 s H1 locs1 → W p l e R s m args below meth c H1 locs1 cells slots Q (F0 m (pc + 3) ls (.ref a :: rest))) : W p l e R s m args below meth c H locs cells slots Q (F0 m pc ls st0) := by
  refine va_callr (va_runV (As := As) (rest := rest) X hM cw ⟨g_Pc_blind _, va_recv K.1 hw.1 hc (g_w_at hn he), g_pre K hA hw _⟩ rfl hna hsz hst (lv_room hroom) hdg hf) hw.2 (fun q _ h => h) (fun q h => h) (fun u b1 t H1 locs1 ht hvm hp hB hz1 hk1 hS => ?_)
  obtain rfl := hp
  obtain ⟨rfl, hB⟩ := hB
  exact kk _ H1 locs1 rfl ⟨by rw [← ht]; exact hB, hS⟩
theorem g_callSI (X : CallFix p m c cc nL s args tt_T own) (K : tt_K G s) (hA : ∀ q, g_in N ad q → tt_inA G q) (hw : g_W G N ad cell S s H locs) {a : Int32} (hM : g_MI l G N ad cell y (g_code y b mL r) fr lo As S a S') {na : Nat} (cw : CallB R s args own index y b mL r (g_code y b mL r) (g_rm fr lo) 0 0 na ∧ (Cond.static y).before args s = true) (hna : As.length = na) (hsz : ls.size = nL) (hst : st0 = As.reverse ++ rest) (hroom : (rest.map fun v => v.category).sum ≤ 8) (hdg : decode cc pc = .ok (.invokestatic index, 3)) (hf : cells ≤ R.cells ∧ slots ≤ R.slots)
    (kk : ∀ (z : Int32) (S2 : σ) (H1 : Heap) (locs1 : List Loc), z = a → S2 = S' → g_W G N ad cell S2 s H1 locs1 → W p l e R s m args below meth c H1 locs1 cells slots Q (F0 m (pc + 3) ls (.int z :: rest))) : W p l e R s m args below meth c H locs cells slots Q (F0 m pc ls st0) := by
  refine va_calli (va_runS (As := As) (rest := rest) X hM cw ⟨g_Pc_blind _, g_pre K hA hw _⟩ rfl hna hsz hst (lv_room hroom) hdg hf) hw.2 (fun q _ h => h) (fun q h => h) (fun z u t H1 locs1 ht hvm hp hB hz1 hk1 hS => ?_)
  obtain ⟨rfl, rfl⟩ := hp
  exact kk _ _ H1 locs1 rfl rfl ⟨by rw [← ht]; exact hB, hS⟩
theorem g_callSV (X : CallFix p m c cc nL s args tt_T own) (K : tt_K G s) (hA : ∀ q, g_in N ad q → tt_inA G q) (hw : g_W G N ad cell S s H locs) (hM : g_MV l G N ad cell y (g_code y b mL r) fr lo As S S') {na : Nat} (cw : CallB R s args own index y b mL r (g_code y b mL r) (g_rm fr lo) 0 0 na ∧ (Cond.static y).before args s = true) (hna : As.length = na) (hsz : ls.size = nL) (hst : st0 = As.reverse ++ rest) (hroom : (rest.map fun v => v.category).sum ≤ 8) (hdg : decode cc pc = .ok (.invokestatic index, 3)) (hf : cells ≤ R.cells ∧ slots ≤ R.slots)
    (kk : ∀ (S2 : σ) (H1 : Heap) (locs1 : List Loc), S2 = S' → g_W G N ad cell S2 s H1 locs1 → W p l e R s m args below meth c H1 locs1 cells slots Q (F0 m (pc + 3) ls rest)) : W p l e R s m args below meth c H locs cells slots Q (F0 m pc ls st0) := by
  refine va_callv (va_runS (As := As) (rest := rest) X hM cw ⟨g_Pc_blind _, g_pre K hA hw _⟩ rfl hna hsz hst (lv_room hroom) hdg hf) hw.2 (fun q _ h => h) (fun q h => h) (fun u t H1 locs1 ht hvm hp hB hz1 hk1 hS => ?_)
  obtain rfl := hp
  exact kk _ H1 locs1 rfl ⟨by rw [← ht]; exact hB, hS⟩
theorem g_callSR (X : CallFix p m c cc nL s args tt_T own) (K : tt_K G s) (hA : ∀ q, g_in N ad q → tt_inA G q) (hw : g_W G N ad cell S s H locs) {a : Nat} (hM : g_MR l G N ad cell y (g_code y b mL r) fr lo As S a S') {na : Nat} (cw : CallB R s args own index y b mL r (g_code y b mL r) (g_rm fr lo) 0 0 na ∧ (Cond.static y).before args s = true) (hna : As.length = na) (hsz : ls.size = nL) (hst : st0 = As.reverse ++ rest) (hroom : (rest.map fun v => v.category).sum ≤ 8) (hdg : decode cc pc = .ok (.invokestatic index, 3)) (hf : cells ≤ R.cells ∧ slots ≤ R.slots)
    (kk : ∀ (S2 : σ) (H1 : Heap) (locs1 : List Loc), S2 = S' → g_W G N ad cell S2 s H1 locs1 → W p l e R s m args below meth c H1 locs1 cells slots Q (F0 m (pc + 3) ls (.ref a :: rest))) : W p l e R s m args below meth c H locs cells slots Q (F0 m pc ls st0) := by
  refine va_callr (va_runS (As := As) (rest := rest) X hM cw ⟨g_Pc_blind _, g_pre K hA hw _⟩ rfl hna hsz hst (lv_room hroom) hdg hf) hw.2 (fun q _ h => h) (fun q h => h) (fun u b1 t H1 locs1 ht hvm hp hB hz1 hk1 hS => ?_)
  obtain rfl := hp
  obtain ⟨rfl, hB⟩ := hB
  exact kk _ H1 locs1 rfl ⟨by rw [← ht]; exact hB, hS⟩
/-- ends -/
theorem g_iret (X : CallFix p m c cc nL s args tt_T own) (hr : meth.sig.returnType = some .int) (hlk : meth.locks = false) (hw : g_W G N ad cell S s H locs) {a v : Int32} (hv : v = a) (hS : S = S') (hdg : decode cc pc = .ok (.ireturn, 1)) : W p l e R s m args below meth c H locs 0 0 (MQ below (va_Qi (fun r T => r = a ∧ T = S') (g_Post G N ad cell) (g_in N ad)) args s 0 0 (g_in N ad)) (F0 m pc ls [.int v]) := by
  subst hv; subst hS
  exact W.iret X.1 X.2.1 hr (fun t ht _ => ⟨⟨v, S, rfl, ⟨rfl, rfl⟩, (by show va_P _ _ _ t.heap; rw [ht]; exact hw.1)⟩, hw.2.F ht⟩) hw.2.2.2 hdg hlk
theorem g_zret {ty : FieldType} (X : CallFix p m c cc nL s args tt_T own) (hr : meth.sig.returnType = some ty) (hlk : meth.locks = false) (hw : g_W G N ad cell S s H locs) {a v : Int32} (hnr : narrow ty (.int v) = .int v) (hv : v = a) (hS : S = S') (hdg : decode cc pc = .ok (.ireturn, 1)) : W p l e R s m args below meth c H locs 0 0 (MQ below (va_Qi (fun r T => r = a ∧ T = S') (g_Post G N ad cell) (g_in N ad)) args s 0 0 (g_in N ad)) (F0 m pc ls [.int v]) := by
  subst hv; subst hS
  exact W.zret X.1 X.2.1 hr hnr (fun t ht _ => ⟨⟨v, S, rfl, ⟨rfl, rfl⟩, (by show va_P _ _ _ t.heap; rw [ht]; exact hw.1)⟩, hw.2.F ht⟩) hw.2.2.2 hdg hlk
theorem g_vret (X : CallFix p m c cc nL s args tt_T own) (hr : meth.sig.returnType = none) (hlk : meth.locks = false) (hw : g_W G N ad cell S s H locs) (hS : S = S') (hdg : decode cc pc = .ok (.return_, 1)) : W p l e R s m args below meth c H locs 0 0 (MQ below (va_Qv (fun T => T = S') (g_Post G N ad cell) (g_in N ad)) args s 0 0 (g_in N ad)) (F0 m pc ls []) := by
  subst hS
  exact W.vret X.1 X.2.1 hr (fun t ht _ => ⟨⟨S, rfl, rfl, (by show va_P _ _ _ t.heap; rw [ht]; exact hw.1)⟩, hw.2.F ht⟩) hw.2.2.2 hdg hlk
theorem g_aret {rt : String} (X : CallFix p m c cc nL s args tt_T own) (hr : meth.sig.returnType = some (.object rt)) (hlk : meth.locks = false) (hw : g_W G N ad cell S s H locs) {a v : Nat} (hv : v = a) (hS : S = S') (hdg : decode cc pc = .ok (.areturn, 1)) : W p l e R s m args below meth c H locs 0 0 (MQ below (va_Qr (fun T => T = S') (fun T b t => b = a ∧ g_Post G N ad cell T t) (g_in N ad)) args s 0 0 (g_in N ad)) (F0 m pc ls [.ref v]) := by
  subst hv; subst hS
  exact W.aret X.1 X.2.1 hr (Or.inl ⟨rt, rfl⟩) (Or.inr ⟨v, rfl⟩) (fun t ht _ => ⟨⟨S, v, rfl, rfl, rfl, (by show va_P _ _ _ t.heap; rw [ht]; exact hw.1)⟩, hw.2.F ht⟩) hw.2.2.2 hdg hlk
/-- beginnings -/
def g_B (p : Program) (l : Launch) (s : State) (m : MethodId) (args : Array Value) (meth : Method) (c : Code) (cc : ByteArray) (nL : Nat) (own : String) (ret : Option FieldType) : Prop := CallFix p m c cc nL s args tt_T own ∧ meth.sig.returnType = ret ∧ meth.locks = false
theorem g_begin {Pc : Array Value → State → Prop} {Qc : Array Value → State → Outcome → State → Prop} {free : Addr → Prop} {av : List Value} (hy : plainName y.cls = true) (hle : (lg_sl av).length ≤ mL) (B0 : State → Prop)
    (body : ∀ (p : Program) (e : Env) (s : State) (m : MethodId) (below : List Frame) (meth : Method) (c : Code) (ls : Array Slot), CallFix p m c b mL s av.toArray tt_T y.cls → meth.sig.returnType = r → meth.locks = false → B0 s → lv_has ls mL (lv_args 0 av) → W p l e (g_rm fr lo) s m av.toArray below meth c s.heap [] 0 0 (MQ below Qc av.toArray s 0 0 free) (F0 m 0 ls [])) :
    Met l y (g_code y b mL r) (g_rm fr lo) (va_Pc av B0) Qc 0 0 free := by
  refine Met.ofW (cc := b) (maxL := mL) (ret := r) hy rfl ?_
  intro p e s m args below meth c s₁ B hml hv
  obtain ⟨rfl, hB0⟩ := hv
  have hts := atoms_spec (ws := g_code y b mL r) B.pre
  have hl := lv_entry av (n := mL) hle
  rw [lg_entry_eq]
  exact body p e s m below meth c _ ⟨B.exec, B.bytes, hml, findClass_of_methodNamed B.named, fun w h => hts w (List.mem_cons_of_mem _ h)⟩ B.returns B.notSynchronized hB0 hl
end GW
end
section
/-! the class's 62 cells: 0..29 drinkers (room 0, 1, 2), 30..32 rooms, 33..35 their rows of drinkers, 36..38 books, 39..41 cups, 42..44 coins, 45..47 spots, 48..51 sheets, 52..55 their numbers, 56 tape, 57 its bytes, 58 reader, 59 row of sheets, 60 findings, 61 the object.
The ints: row r < 3: a room's size, price, pot, left, tin, sign, last, day, missed, served, z (0..10), the books' size (11), drinker d's fields (12 + 7 d ..); row 3: isKept 0, tape's size 1, token 2, start 3, end 4, number 5, tookNumber 6, sheets' bits 10.., sizes 20..; 4 findings, 5 bytes, 6.. cups, 9.. coins, 12.. spots, 15.. numbers -/
def tt_cell (G : tt_G) (S : tt_St) (n : Nat) : va_E :=
  if n < 30 then .inr (1, [.int (S (n / 10) (12 + 7 * (n % 10))), .int (S (n / 10) (13 + 7 * (n % 10))), .int (S (n / 10) (14 + 7 * (n % 10))), .int (S (n / 10) (15 + 7 * (n % 10))), .int (S (n / 10) (16 + 7 * (n % 10))), .int (S (n / 10) (17 + 7 * (n % 10))), .int (S (n / 10) (18 + 7 * (n % 10)))])
  else if n < 33 then .inr (2, [.ref (G.2.2 (n + 3)), .int (S (n - 30) 0), .int (S (n - 30) 1), .int (S (n - 30) 2), .int (S (n - 30) 3), .int (S (n - 30) 4), .int (S (n - 30) 5), .int (S (n - 30) 6), .int (S (n - 30) 7), .int (S (n - 30) 8), .int (S (n - 30) 9), .int (S (n - 30) 10), .ref (G.2.2 (n + 6)), .ref (G.2.2 (n + 15))])
  else if n < 36 then .inl (G.2.1 1, 10, .inr (.inr (.inr (.inr (fun i => some (G.2.2 (10 * (n - 33) + i)))))))
  else if n < 39 then .inr (0, [.ref (G.2.2 (n + 3)), .ref (G.2.2 (n + 6)), .int (S (n - 36) 11)])
  else if n < 42 then .inl (G.2.1 0, 20, .inl (S (n - 33)))
  else if n < 45 then .inl (G.2.1 0, 20, .inl (S (n - 33)))
  else if n < 48 then .inl (G.2.1 0, 10, .inl (S (n - 33)))
  else if n < 52 then .inr (3, [.ref (G.2.2 (n + 4)), .int (S 3 (n - 38)), .int (S 3 (n - 28))])
  else if n < 56 then .inl (G.2.1 0, 40, .inl (S (n - 37)))
  else if n = 56 then .inr (4, [.ref (G.2.2 57), .int (S 3 1)])
  else if n = 57 then .inl (G.2.1 0, 120, .inl (S 5))
  else if n = 58 then .inr (5, [.ref (G.2.2 56), .int (S 3 2), .int (S 3 3), .int (S 3 4), .int (S 3 5), .int (S 3 6)])
  else if n = 59 then .inl (G.2.1 2, 4, .inr (.inr (.inr (.inr (fun i => some (G.2.2 (48 + i)))))))
  else if n = 60 then .inl (G.2.1 0, 7, .inl (S 4))
  else .inr (6, [.ref (G.2.2 30), .ref (G.2.2 31), .ref (G.2.2 32), .int (S 3 0), .ref (G.2.2 56), .ref (G.2.2 58), .ref (G.2.2 59), .ref (G.2.2 60)])
theorem tt_eD {G : tt_G} {S : tt_St} {r d : Nat} (hr : r < 3) (hd : d < 10) : tt_cell G S (10 * r + d) = .inr (1, [.int (S r (12 + 7 * d)), .int (S r (13 + 7 * d)), .int (S r (14 + 7 * d)), .int (S r (15 + 7 * d)), .int (S r (16 + 7 * d)), .int (S r (17 + 7 * d)), .int (S r (18 + 7 * d))]) := by
  unfold tt_cell
  rw [if_pos (by omega), show (10 * r + d) / 10 = r by omega, show (10 * r + d) % 10 = d by omega]
theorem tt_eR {G : tt_G} {S : tt_St} {r : Nat} (hr : r < 3) : tt_cell G S (30 + r) = .inr (2, [.ref (G.2.2 (33 + r)), .int (S r 0), .int (S r 1), .int (S r 2), .int (S r 3), .int (S r 4), .int (S r 5), .int (S r 6), .int (S r 7), .int (S r 8), .int (S r 9), .int (S r 10), .ref (G.2.2 (36 + r)), .ref (G.2.2 (45 + r))]) := by
  unfold tt_cell
  rw [if_neg (by omega), if_pos (by omega), show 30 + r - 30 = r by omega, show 30 + r + 3 = 33 + r by omega, show 30 + r + 6 = 36 + r by omega, show 30 + r + 15 = 45 + r by omega]
theorem tt_eA {G : tt_G} {S : tt_St} {r : Nat} (hr : r < 3) : tt_cell G S (33 + r) = .inl (G.2.1 1, 10, .inr (.inr (.inr (.inr (fun i => some (G.2.2 (10 * r + i))))))) := by
  unfold tt_cell
  rw [if_neg (by omega), if_neg (by omega), if_pos (by omega), show 33 + r - 33 = r by omega]
theorem tt_eB {G : tt_G} {S : tt_St} {r : Nat} (hr : r < 3) : tt_cell G S (36 + r) = .inr (0, [.ref (G.2.2 (39 + r)), .ref (G.2.2 (42 + r)), .int (S r 11)]) := by
  unfold tt_cell
  rw [if_neg (by omega), if_neg (by omega), if_neg (by omega), if_pos (by omega), show 36 + r - 36 = r by omega, show 36 + r + 3 = 39 + r by omega, show 36 + r + 6 = 42 + r by omega]
theorem tt_eCu {G : tt_G} {S : tt_St} {r : Nat} (hr : r < 3) : tt_cell G S (39 + r) = .inl (G.2.1 0, 20, .inl (S (6 + r))) := by
  unfold tt_cell
  rw [if_neg (by omega), if_neg (by omega), if_neg (by omega), if_neg (by omega), if_pos (by omega), show 39 + r - 33 = 6 + r by omega]
theorem tt_eCo {G : tt_G} {S : tt_St} {r : Nat} (hr : r < 3) : tt_cell G S (42 + r) = .inl (G.2.1 0, 20, .inl (S (9 + r))) := by
  unfold tt_cell
  rw [if_neg (by omega), if_neg (by omega), if_neg (by omega), if_neg (by omega), if_neg (by omega), if_pos (by omega), show 42 + r - 33 = 9 + r by omega]
theorem tt_eSp {G : tt_G} {S : tt_St} {r : Nat} (hr : r < 3) : tt_cell G S (45 + r) = .inl (G.2.1 0, 10, .inl (S (12 + r))) := by
  unfold tt_cell
  rw [if_neg (by omega), if_neg (by omega), if_neg (by omega), if_neg (by omega), if_neg (by omega), if_neg (by omega), if_pos (by omega), show 45 + r - 33 = 12 + r by omega]
theorem tt_eS {G : tt_G} {S : tt_St} {k : Nat} (hk : k < 4) : tt_cell G S (48 + k) = .inr (3, [.ref (G.2.2 (52 + k)), .int (S 3 (10 + k)), .int (S 3 (20 + k))]) := by
  unfold tt_cell
  rw [if_neg (by omega), if_neg (by omega), if_neg (by omega), if_neg (by omega), if_neg (by omega), if_neg (by omega), if_neg (by omega), if_pos (by omega), show 48 + k + 4 = 52 + k by omega, show 48 + k - 38 = 10 + k by omega, show 48 + k - 28 = 20 + k by omega]
theorem tt_eN {G : tt_G} {S : tt_St} {k : Nat} (hk : k < 4) : tt_cell G S (52 + k) = .inl (G.2.1 0, 40, .inl (S (15 + k))) := by
  unfold tt_cell
  rw [if_neg (by omega), if_neg (by omega), if_neg (by omega), if_neg (by omega), if_neg (by omega), if_neg (by omega), if_neg (by omega), if_neg (by omega), if_pos (by omega), show 52 + k - 37 = 15 + k by omega]
theorem tt_eTp {G : tt_G} {S : tt_St} : tt_cell G S 56 = .inr (4, [.ref (G.2.2 57), .int (S 3 1)]) := rfl
theorem tt_eBy {G : tt_G} {S : tt_St} : tt_cell G S 57 = .inl (G.2.1 0, 120, .inl (S 5)) := rfl
theorem tt_eRd {G : tt_G} {S : tt_St} : tt_cell G S 58 = .inr (5, [.ref (G.2.2 56), .int (S 3 2), .int (S 3 3), .int (S 3 4), .int (S 3 5), .int (S 3 6)]) := rfl
theorem tt_eSh {G : tt_G} {S : tt_St} : tt_cell G S 59 = .inl (G.2.1 2, 4, .inr (.inr (.inr (.inr (fun i => some (G.2.2 (48 + i))))))) := rfl
theorem tt_eF {G : tt_G} {S : tt_St} : tt_cell G S 60 = .inl (G.2.1 0, 7, .inl (S 4)) := rfl
theorem tt_eT {G : tt_G} {S : tt_St} : tt_cell G S 61 = .inr (6, [.ref (G.2.2 30), .ref (G.2.2 31), .ref (G.2.2 32), .int (S 3 0), .ref (G.2.2 56), .ref (G.2.2 58), .ref (G.2.2 59), .ref (G.2.2 60)]) := rfl
/-- other cells, where one place of an object's row changes -/
theorem tt_oth {G : tt_G} {S : tt_St} {a k j : Nat} {v : Int32} (hj : j < 62) (ha : a < 4)
    (h1 : ∀ i, i < 7 → j < 30 → ¬ (j / 10 = a ∧ 12 + 7 * (j % 10) + i = k)) (h2 : 30 ≤ j → j < 33 → ¬ (j - 30 = a ∧ k < 11)) (h3 : 36 ≤ j → j < 39 → ¬ (j - 36 = a ∧ k = 11))
    (h4 : 48 ≤ j → j < 52 → a = 3 → k ≠ j - 38 ∧ k ≠ j - 28) (h5 : j = 56 → a = 3 → k ≠ 1) (h6 : j = 58 → a = 3 → ¬ (2 ≤ k ∧ k ≤ 6)) (h7 : j = 61 → a = 3 → k ≠ 0) : tt_cell G (tt_up S a k v) j = tt_cell G S j := by
  unfold tt_cell
  by_cases c1 : j < 30
  · have q0 := h1 0 (by omega) c1
    have q1 := h1 1 (by omega) c1
    have q2 := h1 2 (by omega) c1
    have q3 := h1 3 (by omega) c1
    have q4 := h1 4 (by omega) c1
    have q5 := h1 5 (by omega) c1
    have q6 := h1 6 (by omega) c1
    rw [if_pos c1, if_pos c1, tt_up_ne (by omega), tt_up_ne (by omega), tt_up_ne (by omega), tt_up_ne (by omega), tt_up_ne (by omega), tt_up_ne (by omega), tt_up_ne (by omega)]
  rw [if_neg c1, if_neg c1]
  by_cases c2 : j < 33
  · have q := h2 (by omega) c2
    rw [if_pos c2, if_pos c2, tt_up_ne (by omega), tt_up_ne (by omega), tt_up_ne (by omega), tt_up_ne (by omega), tt_up_ne (by omega), tt_up_ne (by omega), tt_up_ne (by omega), tt_up_ne (by omega), tt_up_ne (by omega), tt_up_ne (by omega), tt_up_ne (by omega)]
  rw [if_neg c2, if_neg c2]
  by_cases c3 : j < 36
  · rw [if_pos c3, if_pos c3]
  rw [if_neg c3, if_neg c3]
  by_cases c4 : j < 39
  · have q := h3 (by omega) c4
    rw [if_pos c4, if_pos c4, tt_up_ne (by omega)]
  rw [if_neg c4, if_neg c4]
  by_cases c5 : j < 42
  · rw [if_pos c5, if_pos c5, tt_up_row (by omega)]
  rw [if_neg c5, if_neg c5]
  by_cases c6 : j < 45
  · rw [if_pos c6, if_pos c6, tt_up_row (by omega)]
  rw [if_neg c6, if_neg c6]
  by_cases c7 : j < 48
  · rw [if_pos c7, if_pos c7, tt_up_row (by omega)]
  rw [if_neg c7, if_neg c7]
  by_cases c8 : j < 52
  · have q := h4 (by omega) c8
    rw [if_pos c8, if_pos c8, tt_up_ne (by omega), tt_up_ne (by omega)]
  rw [if_neg c8, if_neg c8]
  by_cases c9 : j < 56
  · rw [if_pos c9, if_pos c9, tt_up_row (by omega)]
  rw [if_neg c9, if_neg c9]
  by_cases d1 : j = 56
  · have q := h5 d1
    rw [if_pos d1, if_pos d1, tt_up_ne (by omega)]
  rw [if_neg d1, if_neg d1]
  by_cases d2 : j = 57
  · rw [if_pos d2, if_pos d2, tt_up_row (by omega)]
  rw [if_neg d2, if_neg d2]
  by_cases d3 : j = 58
  · have q := h6 d3
    rw [if_pos d3, if_pos d3, tt_up_ne (by omega), tt_up_ne (by omega), tt_up_ne (by omega), tt_up_ne (by omega), tt_up_ne (by omega)]
  rw [if_neg d3, if_neg d3]
  by_cases d4 : j = 59
  · rw [if_pos d4, if_pos d4]
  rw [if_neg d4, if_neg d4]
  by_cases d5 : j = 60
  · rw [if_pos d5, if_pos d5, tt_up_row (by omega)]
  have q := h7 (by omega)
  rw [if_neg d5, if_neg d5, tt_up_ne (by omega)]
/-- other cells, where a row of an array changes -/
theorem tt_othR {G : tt_G} {S : tt_St} {a j : Nat} {f : Nat → Int32} (hj : j < 62) (ha : 4 ≤ a) (h1 : 39 ≤ j → j < 48 → j - 33 ≠ a) (h2 : 52 ≤ j → j < 56 → j - 37 ≠ a) (h3 : j = 57 → a ≠ 5) (h4 : j = 60 → a ≠ 4) : tt_cell G (tt_upR S a f) j = tt_cell G S j := by
  have z : ∀ i, i < 4 → tt_upR S a f i = S i := fun i hi => tt_upR_row (by omega)
  unfold tt_cell
  by_cases c1 : j < 30
  · rw [if_pos c1, if_pos c1, z (j / 10) (by omega)]
  rw [if_neg c1, if_neg c1]
  by_cases c2 : j < 33
  · rw [if_pos c2, if_pos c2, z (j - 30) (by omega)]
  rw [if_neg c2, if_neg c2]
  by_cases c3 : j < 36
  · rw [if_pos c3, if_pos c3]
  rw [if_neg c3, if_neg c3]
  by_cases c4 : j < 39
  · rw [if_pos c4, if_pos c4, z (j - 36) (by omega)]
  rw [if_neg c4, if_neg c4]
  by_cases c5 : j < 42
  · rw [if_pos c5, if_pos c5, tt_upR_row (h1 (by omega) (by omega))]
  rw [if_neg c5, if_neg c5]
  by_cases c6 : j < 45
  · rw [if_pos c6, if_pos c6, tt_upR_row (h1 (by omega) (by omega))]
  rw [if_neg c6, if_neg c6]
  by_cases c7 : j < 48
  · rw [if_pos c7, if_pos c7, tt_upR_row (h1 (by omega) (by omega))]
  rw [if_neg c7, if_neg c7]
  by_cases c8 : j < 52
  · rw [if_pos c8, if_pos c8, z 3 (by omega)]
  rw [if_neg c8, if_neg c8]
  by_cases c9 : j < 56
  · rw [if_pos c9, if_pos c9, tt_upR_row (h2 (by omega) (by omega))]
  rw [if_neg c9, if_neg c9, z 3 (by omega)]
  by_cases d1 : j = 56
  · rw [if_pos d1, if_pos d1]
  rw [if_neg d1, if_neg d1]
  by_cases d2 : j = 57
  · rw [if_pos d2, if_pos d2, tt_upR_row (Ne.symm (h3 d2))]
  rw [if_neg d2, if_neg d2]
  by_cases d3 : j = 58
  · rw [if_pos d3, if_pos d3]
  rw [if_neg d3, if_neg d3]
  by_cases d4 : j = 59
  · rw [if_pos d4, if_pos d4]
  rw [if_neg d4, if_neg d4]
  by_cases d5 : j = 60
  · rw [if_pos d5, if_pos d5, tt_upR_row (Ne.symm (h4 d5))]
  rw [if_neg d5, if_neg d5]
theorem tt_sD {G : tt_G} {S : tt_St} {r d k : Nat} {v : Int32} (hr : r < 3) (hd : d < 10) (hk : k < 7) : g_set 62 (tt_cell G) S (10 * r + d) (.inr (1, ([.int (S r (12 + 7 * d)), .int (S r (13 + 7 * d)), .int (S r (14 + 7 * d)), .int (S r (15 + 7 * d)), .int (S r (16 + 7 * d)), .int (S r (17 + 7 * d)), .int (S r (18 + 7 * d))] : List Value).set k (.int v))) (tt_up S r (12 + k + 7 * d) v) := by
  intro j hj
  by_cases e : j = 10 * r + d
  · subst e
    rw [if_pos rfl, tt_eD hr hd]
    rcases (show k = 0 ∨ k = 1 ∨ k = 2 ∨ k = 3 ∨ k = 4 ∨ k = 5 ∨ k = 6 by omega) with rfl | rfl | rfl | rfl | rfl | rfl | rfl <;> simp [tt_up_at]
  · rw [if_neg e]
    exact tt_oth hj (by omega) (fun i hi h => by omega) (fun h h2 => by omega) (fun h h2 => by omega) (fun _ _ _ => by omega) (fun _ _ => by omega) (fun _ _ => by omega) (fun _ _ => by omega)
theorem tt_sR {G : tt_G} {S : tt_St} {r k : Nat} {v : Int32} (hr : r < 3) (hk : k < 11) : g_set 62 (tt_cell G) S (30 + r) (.inr (2, ([.ref (G.2.2 (33 + r)), .int (S r 0), .int (S r 1), .int (S r 2), .int (S r 3), .int (S r 4), .int (S r 5), .int (S r 6), .int (S r 7), .int (S r 8), .int (S r 9), .int (S r 10), .ref (G.2.2 (36 + r)), .ref (G.2.2 (45 + r))] : List Value).set (k + 1) (.int v))) (tt_up S r k v) := by
  intro j hj
  by_cases e : j = 30 + r
  · subst e
    rw [if_pos rfl, tt_eR hr]
    rcases (show k = 0 ∨ k = 1 ∨ k = 2 ∨ k = 3 ∨ k = 4 ∨ k = 5 ∨ k = 6 ∨ k = 7 ∨ k = 8 ∨ k = 9 ∨ k = 10 by omega) with rfl | rfl | rfl | rfl | rfl | rfl | rfl | rfl | rfl | rfl | rfl <;> simp [tt_up_at]
  · rw [if_neg e]
    exact tt_oth hj (by omega) (fun i hi h => by omega) (fun h h2 => by omega) (fun h h2 => by omega) (fun _ _ _ => by omega) (fun _ _ => by omega) (fun _ _ => by omega) (fun _ _ => by omega)
theorem tt_sB {G : tt_G} {S : tt_St} {r : Nat} {v : Int32} (hr : r < 3) : g_set 62 (tt_cell G) S (36 + r) (.inr (0, ([.ref (G.2.2 (39 + r)), .ref (G.2.2 (42 + r)), .int (S r 11)] : List Value).set 2 (.int v))) (tt_up S r 11 v) := by
  intro j hj
  by_cases e : j = 36 + r
  · subst e
    rw [if_pos rfl, tt_eB hr, tt_up_self]
    rfl
  · rw [if_neg e]
    exact tt_oth hj (by omega) (fun i hi h => by omega) (fun h h2 => by omega) (fun h h2 => by omega) (fun _ _ _ => by omega) (fun _ _ => by omega) (fun _ _ => by omega) (fun _ _ => by omega)
theorem tt_sSb {G : tt_G} {S : tt_St} {k : Nat} {v : Int32} (hk : k < 4) : g_set 62 (tt_cell G) S (48 + k) (.inr (3, ([.ref (G.2.2 (52 + k)), .int (S 3 (10 + k)), .int (S 3 (20 + k))] : List Value).set 1 (.int v))) (tt_up S 3 (10 + k) v) := by
  intro j hj
  by_cases e : j = 48 + k
  · subst e
    rw [if_pos rfl, tt_eS hk, tt_up_self, tt_up_ne (by omega)]
    rfl
  · rw [if_neg e]
    exact tt_oth hj (by omega) (fun i hi h => by omega) (fun h h2 => by omega) (fun h h2 => by omega) (fun _ _ _ => by omega) (fun _ _ => by omega) (fun _ _ => by omega) (fun _ _ => by omega)
theorem tt_sSz {G : tt_G} {S : tt_St} {k : Nat} {v : Int32} (hk : k < 4) : g_set 62 (tt_cell G) S (48 + k) (.inr (3, ([.ref (G.2.2 (52 + k)), .int (S 3 (10 + k)), .int (S 3 (20 + k))] : List Value).set 2 (.int v))) (tt_up S 3 (20 + k) v) := by
  intro j hj
  by_cases e : j = 48 + k
  · subst e
    rw [if_pos rfl, tt_eS hk, tt_up_self, tt_up_ne (by omega)]
    rfl
  · rw [if_neg e]
    exact tt_oth hj (by omega) (fun i hi h => by omega) (fun h h2 => by omega) (fun h h2 => by omega) (fun _ _ _ => by omega) (fun _ _ => by omega) (fun _ _ => by omega) (fun _ _ => by omega)
theorem tt_sTp {G : tt_G} {S : tt_St} {v : Int32} : g_set 62 (tt_cell G) S 56 (.inr (4, ([.ref (G.2.2 57), .int (S 3 1)] : List Value).set 1 (.int v))) (tt_up S 3 1 v) := by
  intro j hj
  by_cases e : j = 56
  · subst e
    rw [if_pos rfl, tt_eTp, tt_up_self]
    rfl
  · rw [if_neg e]
    exact tt_oth hj (by omega) (fun i hi h => by omega) (fun h h2 => by omega) (fun h h2 => by omega) (fun _ _ _ => by omega) (fun _ _ => by omega) (fun _ _ => by omega) (fun _ _ => by omega)
theorem tt_sRd {G : tt_G} {S : tt_St} {k : Nat} {v : Int32} (hk : k < 5) : g_set 62 (tt_cell G) S 58 (.inr (5, ([.ref (G.2.2 56), .int (S 3 2), .int (S 3 3), .int (S 3 4), .int (S 3 5), .int (S 3 6)] : List Value).set (k + 1) (.int v))) (tt_up S 3 (k + 2) v) := by
  intro j hj
  by_cases e : j = 58
  · subst e
    rw [if_pos rfl, tt_eRd]
    rcases (show k = 0 ∨ k = 1 ∨ k = 2 ∨ k = 3 ∨ k = 4 by omega) with rfl | rfl | rfl | rfl | rfl <;> simp [tt_up_at]
  · rw [if_neg e]
    exact tt_oth hj (by omega) (fun i hi h => by omega) (fun h h2 => by omega) (fun h h2 => by omega) (fun _ _ _ => by omega) (fun _ _ => by omega) (fun _ _ => by omega) (fun _ _ => by omega)
theorem tt_sT {G : tt_G} {S : tt_St} {v : Int32} : g_set 62 (tt_cell G) S 61 (.inr (6, ([.ref (G.2.2 30), .ref (G.2.2 31), .ref (G.2.2 32), .int (S 3 0), .ref (G.2.2 56), .ref (G.2.2 58), .ref (G.2.2 59), .ref (G.2.2 60)] : List Value).set 3 (.int v))) (tt_up S 3 0 v) := by
  intro j hj
  by_cases e : j = 61
  · subst e
    rw [if_pos rfl, tt_eT, tt_up_self]
    rfl
  · rw [if_neg e]
    exact tt_oth hj (by omega) (fun i hi h => by omega) (fun h h2 => by omega) (fun h h2 => by omega) (fun _ _ _ => by omega) (fun _ _ => by omega) (fun _ _ => by omega) (fun _ _ => by omega)
theorem tt_sCu {G : tt_G} {S : tt_St} {r : Nat} {f : Nat → Int32} (hr : r < 3) : g_set 62 (tt_cell G) S (39 + r) (.inl (G.2.1 0, 20, .inl f)) (tt_upR S (6 + r) f) := by
  intro j hj
  by_cases e : j = 39 + r
  · subst e
    rw [if_pos rfl, tt_eCu hr, tt_upR_self]
  · rw [if_neg e]
    exact tt_othR hj (by omega) (fun _ _ => by omega) (fun _ _ => by omega) (fun _ => by omega) (fun _ => by omega)
theorem tt_sCo {G : tt_G} {S : tt_St} {r : Nat} {f : Nat → Int32} (hr : r < 3) : g_set 62 (tt_cell G) S (42 + r) (.inl (G.2.1 0, 20, .inl f)) (tt_upR S (9 + r) f) := by
  intro j hj
  by_cases e : j = 42 + r
  · subst e
    rw [if_pos rfl, tt_eCo hr, tt_upR_self]
  · rw [if_neg e]
    exact tt_othR hj (by omega) (fun _ _ => by omega) (fun _ _ => by omega) (fun _ => by omega) (fun _ => by omega)
theorem tt_sSp {G : tt_G} {S : tt_St} {r : Nat} {f : Nat → Int32} (hr : r < 3) : g_set 62 (tt_cell G) S (45 + r) (.inl (G.2.1 0, 10, .inl f)) (tt_upR S (12 + r) f) := by
  intro j hj
  by_cases e : j = 45 + r
  · subst e
    rw [if_pos rfl, tt_eSp hr, tt_upR_self]
  · rw [if_neg e]
    exact tt_othR hj (by omega) (fun _ _ => by omega) (fun _ _ => by omega) (fun _ => by omega) (fun _ => by omega)
theorem tt_sN {G : tt_G} {S : tt_St} {k : Nat} {f : Nat → Int32} (hk : k < 4) : g_set 62 (tt_cell G) S (52 + k) (.inl (G.2.1 0, 40, .inl f)) (tt_upR S (15 + k) f) := by
  intro j hj
  by_cases e : j = 52 + k
  · subst e
    rw [if_pos rfl, tt_eN hk, tt_upR_self]
  · rw [if_neg e]
    exact tt_othR hj (by omega) (fun _ _ => by omega) (fun _ _ => by omega) (fun _ => by omega) (fun _ => by omega)
theorem tt_sBy {G : tt_G} {S : tt_St} {f : Nat → Int32} : g_set 62 (tt_cell G) S 57 (.inl (G.2.1 0, 120, .inl f)) (tt_upR S 5 f) := by
  intro j hj
  by_cases e : j = 57
  · subst e
    rw [if_pos rfl, tt_eBy, tt_upR_self]
  · rw [if_neg e]
    exact tt_othR hj (by omega) (fun _ _ => by omega) (fun _ _ => by omega) (fun _ => by omega) (fun _ => by omega)
theorem tt_sF {G : tt_G} {S : tt_St} {f : Nat → Int32} : g_set 62 (tt_cell G) S 60 (.inl (G.2.1 0, 7, .inl f)) (tt_upR S 4 f) := by
  intro j hj
  by_cases e : j = 60
  · subst e
    rw [if_pos rfl, tt_eF, tt_upR_self]
  · rw [if_neg e]
    exact tt_othR hj (by omega) (fun _ _ => by omega) (fun _ _ => by omega) (fun _ => by omega) (fun _ => by omega)
end
section
/-! the reference's ten cells: 0 the object, 1 d, 2 e, 3 kept, 4 found, 5 tape, 6 bitsOf, 7 sizeOf, 8 number, 9 passing; row 0: the object's ints by their fields' places; row k: the array of cell k; beside them the long -/
def mm_ad (G : tt_G) (n : Nat) : Nat := G.2.2 (62 + n)
def mm_fs (G : tt_G) (S : tt_St) (V : Int64) : List Value := [.ref (mm_ad G 1), .ref (mm_ad G 2), .ref (mm_ad G 3), .int (S 0 3), .ref (mm_ad G 4), .ref (mm_ad G 5), .int (S 0 6), .int (S 0 7), .int (S 0 8), .int (S 0 9), .int (S 0 10), .int (S 0 11), .int (S 0 12), .int (S 0 13), .int (S 0 14), .int (S 0 15), .long V, .int (S 0 17), .ref (mm_ad G 6), .ref (mm_ad G 7), .ref (mm_ad G 8), .ref (mm_ad G 9)]
def mm_cell (G : tt_G) (S : tt_St × Int64) (n : Nat) : va_E :=
  if n = 0 then .inr (7, mm_fs G S.1 S.2)
  else if n = 1 then .inl (G.2.1 0, 132, .inl (S.1 1))
  else if n = 2 then .inl (G.2.1 0, 132, .inl (S.1 2))
  else if n = 3 then .inl (G.2.1 0, 132, .inl (S.1 3))
  else if n = 4 then .inl (G.2.1 0, 7, .inl (S.1 4))
  else if n = 5 then .inl (G.2.1 3, 120, .inl (S.1 5))
  else if n = 6 then .inl (G.2.1 0, 4, .inl (S.1 6))
  else if n = 7 then .inl (G.2.1 0, 4, .inl (S.1 7))
  else if n = 8 then .inl (G.2.1 0, 160, .inl (S.1 8))
  else .inl (G.2.1 0, 40, .inl (S.1 9))
theorem mm_e0 {G : tt_G} {S : tt_St} {V : Int64} : mm_cell G (S, V) 0 = .inr (7, mm_fs G S V) := rfl
theorem mm_e1 {G : tt_G} {S : tt_St} {V : Int64} : mm_cell G (S, V) 1 = .inl (G.2.1 0, 132, .inl (S 1)) := rfl
theorem mm_e2 {G : tt_G} {S : tt_St} {V : Int64} : mm_cell G (S, V) 2 = .inl (G.2.1 0, 132, .inl (S 2)) := rfl
theorem mm_e3 {G : tt_G} {S : tt_St} {V : Int64} : mm_cell G (S, V) 3 = .inl (G.2.1 0, 132, .inl (S 3)) := rfl
theorem mm_e4 {G : tt_G} {S : tt_St} {V : Int64} : mm_cell G (S, V) 4 = .inl (G.2.1 0, 7, .inl (S 4)) := rfl
theorem mm_e5 {G : tt_G} {S : tt_St} {V : Int64} : mm_cell G (S, V) 5 = .inl (G.2.1 3, 120, .inl (S 5)) := rfl
theorem mm_e6 {G : tt_G} {S : tt_St} {V : Int64} : mm_cell G (S, V) 6 = .inl (G.2.1 0, 4, .inl (S 6)) := rfl
theorem mm_e7 {G : tt_G} {S : tt_St} {V : Int64} : mm_cell G (S, V) 7 = .inl (G.2.1 0, 4, .inl (S 7)) := rfl
theorem mm_e8 {G : tt_G} {S : tt_St} {V : Int64} : mm_cell G (S, V) 8 = .inl (G.2.1 0, 160, .inl (S 8)) := rfl
theorem mm_e9 {G : tt_G} {S : tt_St} {V : Int64} : mm_cell G (S, V) 9 = .inl (G.2.1 0, 40, .inl (S 9)) := rfl
/-- the arrays d, e and kept alike -/
theorem mm_eR {G : tt_G} {S : tt_St} {V : Int64} {q : Nat} (h : 1 ≤ q ∧ q ≤ 3) : mm_cell G (S, V) q = .inl (G.2.1 0, 132, .inl (S q)) := by
  rcases (show q = 1 ∨ q = 2 ∨ q = 3 by omega) with rfl | rfl | rfl <;> rfl
theorem mm_row {G : tt_G} {S : tt_St} {V : Int64} {a j : Nat} {f : Nat → Int32} (hj : j < 10) (ha : 1 ≤ a) (h : j ≠ a) : mm_cell G (tt_upR S a f, V) j = mm_cell G (S, V) j := by
  rcases (show j = 0 ∨ j = 1 ∨ j = 2 ∨ j = 3 ∨ j = 4 ∨ j = 5 ∨ j = 6 ∨ j = 7 ∨ j = 8 ∨ j = 9 by omega) with rfl | rfl | rfl | rfl | rfl | rfl | rfl | rfl | rfl | rfl
  · rw [mm_e0, mm_e0]; unfold mm_fs; rw [tt_upR_row (by omega)]
  · rw [mm_e1, mm_e1, tt_upR_row h]
  · rw [mm_e2, mm_e2, tt_upR_row h]
  · rw [mm_e3, mm_e3, tt_upR_row h]
  · rw [mm_e4, mm_e4, tt_upR_row h]
  · rw [mm_e5, mm_e5, tt_upR_row h]
  · rw [mm_e6, mm_e6, tt_upR_row h]
  · rw [mm_e7, mm_e7, tt_upR_row h]
  · rw [mm_e8, mm_e8, tt_upR_row h]
  · rw [mm_e9, mm_e9, tt_upR_row h]
theorem mm_sA {G : tt_G} {S : tt_St} {V : Int64} {a k : Nat} {cA : ClassId} {f g : Nat → Int32} (ha : 1 ≤ a) (ha9 : a < 10) (he : ∀ S : tt_St, mm_cell G (S, V) a = .inl (cA, k, .inl (S a))) : g_set 10 (mm_cell G) (S, V) a (.inl (cA, k, .inl f)) (tt_upR S a f, V) := by
  intro j hj
  by_cases e : j = a
  · subst e
    rw [if_pos rfl, he, tt_upR_self]
  · rw [if_neg e]
    exact mm_row hj ha e
theorem mm_obj {G : tt_G} {S : tt_St} {V V' : Int64} {k j : Nat} {v : Int32} (hj : j < 10) (h : j ≠ 0) : mm_cell G (tt_up S 0 k v, V') j = mm_cell G (S, V) j := by
  rcases (show j = 1 ∨ j = 2 ∨ j = 3 ∨ j = 4 ∨ j = 5 ∨ j = 6 ∨ j = 7 ∨ j = 8 ∨ j = 9 by omega) with rfl | rfl | rfl | rfl | rfl | rfl | rfl | rfl | rfl
  · rw [mm_e1, mm_e1, tt_up_row h]
  · rw [mm_e2, mm_e2, tt_up_row h]
  · rw [mm_e3, mm_e3, tt_up_row h]
  · rw [mm_e4, mm_e4, tt_up_row h]
  · rw [mm_e5, mm_e5, tt_up_row h]
  · rw [mm_e6, mm_e6, tt_up_row h]
  · rw [mm_e7, mm_e7, tt_up_row h]
  · rw [mm_e8, mm_e8, tt_up_row h]
  · rw [mm_e9, mm_e9, tt_up_row h]
theorem mm_sI {G : tt_G} {S : tt_St} {V : Int64} {k : Nat} {v : Int32} (hk : k = 3 ∨ (6 ≤ k ∧ k ≤ 15) ∨ k = 17) : g_set 10 (mm_cell G) (S, V) 0 (.inr (7, (mm_fs G S V).set k (.int v))) (tt_up S 0 k v, V) := by
  intro j hj
  by_cases e : j = 0
  · subst e
    rw [if_pos rfl, mm_e0]
    unfold mm_fs
    rcases (show k = 3 ∨ k = 6 ∨ k = 7 ∨ k = 8 ∨ k = 9 ∨ k = 10 ∨ k = 11 ∨ k = 12 ∨ k = 13 ∨ k = 14 ∨ k = 15 ∨ k = 17 by omega) with rfl | rfl | rfl | rfl | rfl | rfl | rfl | rfl | rfl | rfl | rfl | rfl <;> simp [tt_up_at]
  · rw [if_neg e]
    exact mm_obj hj e
theorem mm_sL {G : tt_G} {S : tt_St} {V V' : Int64} : g_set 10 (mm_cell G) (S, V) 0 (.inr (7, (mm_fs G S V).set 16 (.long V'))) (S, V') := by
  intro j hj
  by_cases e : j = 0
  · subst e
    rw [if_pos rfl, mm_e0]
    rfl
  · rw [if_neg e]
    rcases (show j = 1 ∨ j = 2 ∨ j = 3 ∨ j = 4 ∨ j = 5 ∨ j = 6 ∨ j = 7 ∨ j = 8 ∨ j = 9 by omega) with rfl | rfl | rfl | rfl | rfl | rfl | rfl | rfl | rfl <;> rfl
abbrev c_W (G : tt_G) (S : tt_St) (s : State) (H : Heap) (locs : List Loc) : Prop := g_W G 62 G.2.2 (tt_cell G) S s H locs
abbrev m_W (G : tt_G) (S : tt_St) (V : Int64) (s : State) (H : Heap) (locs : List Loc) : Prop := g_W G 10 (mm_ad G) (mm_cell G) (S, V) s H locs
abbrev c_MI (l : Launch) (G : tt_G) (y : MethodName) (ws : List Cond) (fr lo : Nat) (av : List Value) (S : tt_St) (a : Int32) (S' : tt_St) : Prop := g_MI l G 62 G.2.2 (tt_cell G) y ws fr lo av S a S'
abbrev c_MV (l : Launch) (G : tt_G) (y : MethodName) (ws : List Cond) (fr lo : Nat) (av : List Value) (S : tt_St) (S' : tt_St) : Prop := g_MV l G 62 G.2.2 (tt_cell G) y ws fr lo av S S'
abbrev c_MR (l : Launch) (G : tt_G) (y : MethodName) (ws : List Cond) (fr lo : Nat) (av : List Value) (S : tt_St) (a : Nat) (S' : tt_St) : Prop := g_MR l G 62 G.2.2 (tt_cell G) y ws fr lo av S a S'
abbrev m_MI (l : Launch) (G : tt_G) (y : MethodName) (ws : List Cond) (fr lo : Nat) (av : List Value) (S : tt_St) (V : Int64) (a : Int32) (S' : tt_St) (V' : Int64) : Prop := g_MI l G 10 (mm_ad G) (mm_cell G) y ws fr lo av (S, V) a (S', V')
abbrev m_MV (l : Launch) (G : tt_G) (y : MethodName) (ws : List Cond) (fr lo : Nat) (av : List Value) (S : tt_St) (V : Int64) (S' : tt_St) (V' : Int64) : Prop := g_MV l G 10 (mm_ad G) (mm_cell G) y ws fr lo av (S, V) (S', V')
theorem c_ap {G : tt_G} {s : State} (K : tt_K G s) : g_ap 62 G.2.2 := fun i j hi hj e => K.2.1 i j (by omega) (by omega) e
theorem m_ap {G : tt_G} {s : State} (K : tt_K G s) : g_ap 10 (mm_ad G) := fun i j hi hj e => by
  have := K.2.1 (62 + i) (62 + j) (by omega) (by omega) e
  omega
theorem c_A (G : tt_G) : ∀ q, g_in 62 G.2.2 q → tt_inA G q := fun q h => by obtain ⟨n, h1, h2⟩ := h; exact ⟨n, by omega, h2⟩
theorem m_A (G : tt_G) : ∀ q, g_in 10 (mm_ad G) q → tt_inA G q := fun q h => by obtain ⟨n, h1, h2⟩ := h; exact ⟨62 + n, by omega, h2⟩
theorem iT0 : ∀ w ∈ u_ws RX0 TX0 3, w ∈ tt_T := by decide +kernel
theorem iT1 : ∀ w ∈ u_ws RX1 TX1 7, w ∈ tt_T := by decide +kernel
theorem iT2 : ∀ w ∈ u_ws RX2 TX2 14, w ∈ tt_T := by decide +kernel
theorem iT3 : ∀ w ∈ u_ws RX3 TX3 3, w ∈ tt_T := by decide +kernel
theorem iT4 : ∀ w ∈ u_ws RX4 TX4 2, w ∈ tt_T := by decide +kernel
theorem iT5 : ∀ w ∈ u_ws RX5 TX5 6, w ∈ tt_T := by decide +kernel
theorem iT6 : ∀ w ∈ u_ws RX6 TX6 8, w ∈ tt_T := by decide +kernel
theorem iT7 : ∀ w ∈ u_ws RX7 TX7 22, w ∈ tt_T := by decide +kernel
section CM
variable {p : Program} {l : Launch} {e : Env} {R : Room} {s : State} {m : MethodId} {args : Array Value} {below : List Frame} {meth : Method} {c : Code} {H : Heap} {locs : List Loc} {cells slots : Nat} {Q : State → Prop}
variable {cc : ByteArray} {pc nL index : Nat} {ls : Array Slot} {rest : List Value} {own : String} {G : tt_G} {S : tt_St} {V : Int64} {n : Nat}
/-- the reference's own fields -/
theorem m_get (X : CallFix p m c cc nL s args tt_T own) (K : tt_K G s) (hw : m_W G S V s H locs) (k : Nat) (hk : k < 22) (hl : Cond.fieldLink own index (TX7 k).1 (TX7 k).2.1 (TX7 k).2.2.1 ∈ tt_T) {v : Value} (hv : (mm_fs G S V)[k]? = some v) (hdg : decode cc pc = .ok (.getfield index, 3))
    (kk : W p l e R s m args below meth c H locs cells slots Q (F0 m (pc + 3) ls (v :: rest))) : W p l e R s m args below meth c H locs cells slots Q (F0 m pc ls (.ref (mm_ad G 0) :: rest)) :=
  g_get X K hw (by decide) mm_e0 rfl iT7 k hk hl hv hdg kk
theorem m_put (X : CallFix p m c cc nL s args tt_T own) (K : tt_K G s) (hw : m_W G S V s H locs) (k : Nat) (hk : k = 3 ∨ (6 ≤ k ∧ k ≤ 15) ∨ k = 17) (hl : Cond.fieldLink own index (TX7 k).1 (TX7 k).2.1 (TX7 k).2.2.1 ∈ tt_T) (hfin : (TX7 k).2.2.2 = false) {v : Int32} (hnr : narrow (tyX7 k) (.int v) = .int v) (hft : fits (tyX7 k) (.int v) = true) (hdg : decode cc pc = .ok (.putfield index, 3))
    (kk : ∀ (S2 : tt_St) (H1 : Heap) (locs1 : List Loc), S2 = tt_up S 0 k v → m_W G S2 V s H1 locs1 → W p l e R s m args below meth c H1 locs1 cells slots Q (F0 m (pc + 3) ls rest)) : W p l e R s m args below meth c H locs cells slots Q (F0 m pc ls (.int v :: .ref (mm_ad G 0) :: rest)) :=
  g_put X K (m_ap K) hw (by decide) mm_e0 rfl iT7 tyX7_ok nmX7 k (by omega) hl hfin hnr hft (by show k < 22; omega) (mm_sI hk) hdg (fun S2 H1 locs1 e hw => kk _ H1 locs1 rfl (by rw [e] at hw; exact hw))
theorem m_putL (X : CallFix p m c cc nL s args tt_T own) (K : tt_K G s) (hw : m_W G S V s H locs) (hl : Cond.fieldLink own index (TX7 16).1 (TX7 16).2.1 (TX7 16).2.2.1 ∈ tt_T) {v : Int64} (hdg : decode cc pc = .ok (.putfield index, 3))
    (kk : ∀ (V2 : Int64) (H1 : Heap) (locs1 : List Loc), V2 = v → m_W G S V2 s H1 locs1 → W p l e R s m args below meth c H1 locs1 cells slots Q (F0 m (pc + 3) ls rest)) : W p l e R s m args below meth c H locs cells slots Q (F0 m pc ls (.long v :: .ref (mm_ad G 0) :: rest)) :=
  g_put X K (m_ap K) hw (by decide) mm_e0 rfl iT7 tyX7_ok nmX7 16 (by omega) hl rfl rfl rfl (by show 16 < 22; omega) mm_sL hdg (fun S2 H1 locs1 e hw => kk _ H1 locs1 rfl (by rw [e] at hw; exact hw))
theorem m_iast (X : CallFix p m c cc nL s args tt_T own) (K : tt_K G s) (hw : m_W G S V s H locs) (h1 : 1 ≤ n) (h2 : n < 10) {k : Nat} (he : ∀ S : tt_St, mm_cell G (S, V) n = .inl (G.2.1 0, k, .inl (S n))) {i x : Int32} (hi : vp_in i k) (hdg : decode cc pc = .ok (.iastore, 1))
    (kk : ∀ (S2 : tt_St) (H1 : Heap) (locs1 : List Loc), S2 = tt_up S n i.toNatClampNeg x → m_W G S2 V s H1 locs1 → W p l e R s m args below meth c H1 locs1 cells slots Q (F0 m (pc + 1) ls rest)) : W p l e R s m args below meth c H locs cells slots Q (F0 m pc ls (.int x :: .int i :: .ref (mm_ad G n) :: rest)) :=
  g_iast X K (m_ap K) hw h2 (he S) hi (mm_sA (g := fun _ => 0) h1 h2 he) hdg (fun S2 H1 locs1 e hw => kk _ H1 locs1 rfl (by rw [e] at hw; exact hw))
theorem m_bast (X : CallFix p m c cc nL s args tt_T own) (K : tt_K G s) (hw : m_W G S V s H locs) {i x : Int32} (hi : vp_in i 120) (hdg : decode cc pc = .ok (.bastore, 1))
    (kk : ∀ (S2 : tt_St) (H1 : Heap) (locs1 : List Loc), S2 = tt_up S 5 i.toNatClampNeg (vp_nar .byte x) → m_W G S2 V s H1 locs1 → W p l e R s m args below meth c H1 locs1 cells slots Q (F0 m (pc + 1) ls rest)) : W p l e R s m args below meth c H locs cells slots Q (F0 m pc ls (.int x :: .int i :: .ref (mm_ad G 5) :: rest)) :=
  g_bast X K (m_ap K) hw (by decide) mm_e5 hi (mm_sA (g := fun _ => 0) (by decide) (by decide) (fun _ => mm_e5)) hdg (fun S2 H1 locs1 e hw => kk _ H1 locs1 rfl (by rw [e] at hw; exact hw))
variable {y : MethodName} {b : ByteArray} {mL fr lo : Nat} {r : Option FieldType} {C : String} {As st0 : List Value} {S' : tt_St} {V' : Int64}
theorem m_callVI (X : CallFix p m c cc nL s args tt_T own) (K : tt_K G s) (hw : m_W G S V s H locs) {a : Int32} (hM : m_MI l G y (g_code y b mL r) fr lo (.ref (mm_ad G 0) :: As) S V a S' V') {na : Nat} (cw : CallW R s args own RX7 index y b mL r (g_code y b mL r) (g_rm fr lo) 0 0 na) (hna : As.length = na) (hsz : ls.size = nL) (hst : st0 = As.reverse ++ .ref (mm_ad G 0) :: rest) (hroom : (rest.map fun v => v.category).sum ≤ 8) (hdg : decode cc pc = .ok (.invokevirtual index, 3)) (hf : cells ≤ R.cells ∧ slots ≤ R.slots)
    (kk : ∀ (z : Int32) (S2 : tt_St) (V2 : Int64) (H1 : Heap) (locs1 : List Loc), z = a → S2 = S' → V2 = V' → m_W G S2 V2 s H1 locs1 → W p l e R s m args below meth c H1 locs1 cells slots Q (F0 m (pc + 3) ls (.int z :: rest))) : W p l e R s m args below meth c H locs cells slots Q (F0 m pc ls st0) :=
  g_callVI X K (m_A G) hw hM cw (by decide) mm_e0 rfl hna hsz hst hroom hdg hf (fun z S2 H1 locs1 e1 e2 hw => kk z S' V' H1 locs1 e1 rfl rfl (by rw [e2] at hw; exact hw))
theorem m_callVV (X : CallFix p m c cc nL s args tt_T own) (K : tt_K G s) (hw : m_W G S V s H locs) (hM : m_MV l G y (g_code y b mL r) fr lo (.ref (mm_ad G 0) :: As) S V S' V') {na : Nat} (cw : CallW R s args own RX7 index y b mL r (g_code y b mL r) (g_rm fr lo) 0 0 na) (hna : As.length = na) (hsz : ls.size = nL) (hst : st0 = As.reverse ++ .ref (mm_ad G 0) :: rest) (hroom : (rest.map fun v => v.category).sum ≤ 8) (hdg : decode cc pc = .ok (.invokevirtual index, 3)) (hf : cells ≤ R.cells ∧ slots ≤ R.slots)
    (kk : ∀ (S2 : tt_St) (V2 : Int64) (H1 : Heap) (locs1 : List Loc), S2 = S' → V2 = V' → m_W G S2 V2 s H1 locs1 → W p l e R s m args below meth c H1 locs1 cells slots Q (F0 m (pc + 3) ls rest)) : W p l e R s m args below meth c H locs cells slots Q (F0 m pc ls st0) :=
  g_callVV X K (m_A G) hw hM cw (by decide) mm_e0 rfl hna hsz hst hroom hdg hf (fun S2 H1 locs1 e2 hw => kk S' V' H1 locs1 rfl rfl (by rw [e2] at hw; exact hw))
theorem m_callSI (X : CallFix p m c cc nL s args tt_T own) (K : tt_K G s) (hw : m_W G S V s H locs) {a : Int32} (hM : m_MI l G y (g_code y b mL r) fr lo As S V a S' V') {na : Nat} (cw : CallB R s args own index y b mL r (g_code y b mL r) (g_rm fr lo) 0 0 na ∧ (Cond.static y).before args s = true) (hna : As.length = na) (hsz : ls.size = nL) (hst : st0 = As.reverse ++ rest) (hroom : (rest.map fun v => v.category).sum ≤ 8) (hdg : decode cc pc = .ok (.invokestatic index, 3)) (hf : cells ≤ R.cells ∧ slots ≤ R.slots)
    (kk : ∀ (z : Int32) (S2 : tt_St) (V2 : Int64) (H1 : Heap) (locs1 : List Loc), z = a → S2 = S' → V2 = V' → m_W G S2 V2 s H1 locs1 → W p l e R s m args below meth c H1 locs1 cells slots Q (F0 m (pc + 3) ls (.int z :: rest))) : W p l e R s m args below meth c H locs cells slots Q (F0 m pc ls st0) :=
  g_callSI X K (m_A G) hw hM cw hna hsz hst hroom hdg hf (fun z S2 H1 locs1 e1 e2 hw => kk z S' V' H1 locs1 e1 rfl rfl (by rw [e2] at hw; exact hw))
theorem m_callSV (X : CallFix p m c cc nL s args tt_T own) (K : tt_K G s) (hw : m_W G S V s H locs) (hM : m_MV l G y (g_code y b mL r) fr lo As S V S' V') {na : Nat} (cw : CallB R s args own index y b mL r (g_code y b mL r) (g_rm fr lo) 0 0 na ∧ (Cond.static y).before args s = true) (hna : As.length = na) (hsz : ls.size = nL) (hst : st0 = As.reverse ++ rest) (hroom : (rest.map fun v => v.category).sum ≤ 8) (hdg : decode cc pc = .ok (.invokestatic index, 3)) (hf : cells ≤ R.cells ∧ slots ≤ R.slots)
    (kk : ∀ (S2 : tt_St) (V2 : Int64) (H1 : Heap) (locs1 : List Loc), S2 = S' → V2 = V' → m_W G S2 V2 s H1 locs1 → W p l e R s m args below meth c H1 locs1 cells slots Q (F0 m (pc + 3) ls rest)) : W p l e R s m args below meth c H locs cells slots Q (F0 m pc ls st0) :=
  g_callSV X K (m_A G) hw hM cw hna hsz hst hroom hdg hf (fun S2 H1 locs1 e2 hw => kk S' V' H1 locs1 rfl rfl (by rw [e2] at hw; exact hw))
/-- the reference's long constants -/
theorem m_gets (X : CallFix p m c cc nL s args tt_T own) (K : tt_K G s) (hw : m_W G S V s H locs) (i : Nat) (hi : i < 15) {x : Int64} (hx : (tt_wrd i).2 = x) (hl : Cond.fieldLink own index "TrustTinModel" (tt_wrd i).1 "J" ∈ tt_T) (hdg : decode cc pc = .ok (.getstatic index, 3))
    (kk : W p l e R s m args below meth c H locs cells slots Q (F0 m (pc + 3) ls (.long x :: rest))) : W p l e R s m args below meth c H locs cells slots Q (F0 m pc ls rest) := by
  subst hx
  exact va_gets X.1 X.2.1 ((K.2.2.2.2.2.1 i hi).narrow (m_A G)) hw.2 X.2.2.2.1 (X.2.2.2.2 _ hl) (fun _ h => h) hdg kk
end CM
end
section
section CP
variable {p : Program} {l : Launch} {e : Env} {R : Room} {s : State} {m : MethodId} {args : Array Value} {below : List Frame} {meth : Method} {c : Code} {H : Heap} {locs : List Loc} {cells slots : Nat} {Q : State → Prop}
variable {cc : ByteArray} {pc nL index : Nat} {ls : Array Slot} {rest : List Value} {own : String} {G : tt_G} {S : tt_St} {V : Int64} {n : Nat}
variable {y : MethodName} {b : ByteArray} {mL fr lo : Nat} {r : Option FieldType} {C : String} {As st0 : List Value} {S' : tt_St} {V' : Int64}

theorem c_callVI_p (X : CallFix p m c cc nL s args tt_T own) (K : tt_K G s) (hw : c_W G S s H locs) {a : Int32} (hM : c_MI l G y (g_code y b mL r) fr lo (.ref (G.2.2 n) :: As) S a S) {na : Nat} (cw : CallW R s args own C index y b mL r (g_code y b mL r) (g_rm fr lo) 0 0 na) (hn : n < 62) {ci : Nat} {fs : List Value} (he : tt_cell G S n = .inr (ci, fs)) {T : u_T} {M : Nat} (hc : vwCl[ci]? = some (C, T, M)) (hna : As.length = na) (hsz : ls.size = nL) (hst : st0 = As.reverse ++ .ref (G.2.2 n) :: rest) (hroom : (rest.map fun v => v.category).sum ≤ 8) (hdg : decode cc pc = .ok (.invokevirtual index, 3)) (hf : cells ≤ R.cells ∧ slots ≤ R.slots) (kk : ∀ (z : Int32) (H1 : Heap) (locs1 : List Loc), z = a → c_W G S s H1 locs1 → W p l e R s m args below meth c H1 locs1 cells slots Q (F0 m (pc + 3) ls (.int z :: rest))) : W p l e R s m args below meth c H locs cells slots Q (F0 m pc ls st0) :=
  g_callVI X K (c_A G) hw hM cw hn he hc hna hsz hst hroom hdg hf (fun z S2 H1 locs1 e1 e2 hw => kk z H1 locs1 e1 (by rw [e2] at hw; exact hw))

theorem c_callVI_s (X : CallFix p m c cc nL s args tt_T own) (K : tt_K G s) (hw : c_W G S s H locs) {a : Int32} (hM : c_MI l G y (g_code y b mL r) fr lo (.ref (G.2.2 n) :: As) S a S') {na : Nat} (cw : CallW R s args own C index y b mL r (g_code y b mL r) (g_rm fr lo) 0 0 na) (hn : n < 62) {ci : Nat} {fs : List Value} (he : tt_cell G S n = .inr (ci, fs)) {T : u_T} {M : Nat} (hc : vwCl[ci]? = some (C, T, M)) (hna : As.length = na) (hsz : ls.size = nL) (hst : st0 = As.reverse ++ .ref (G.2.2 n) :: rest) (hroom : (rest.map fun v => v.category).sum ≤ 8) (hdg : decode cc pc = .ok (.invokevirtual index, 3)) (hf : cells ≤ R.cells ∧ slots ≤ R.slots) (kk : ∀ (z : Int32) (S2 : tt_St) (H1 : Heap) (locs1 : List Loc), z = a → S2 = S' → c_W G S2 s H1 locs1 → W p l e R s m args below meth c H1 locs1 cells slots Q (F0 m (pc + 3) ls (.int z :: rest))) : W p l e R s m args below meth c H locs cells slots Q (F0 m pc ls st0) :=
  g_callVI X K (c_A G) hw hM cw hn he hc hna hsz hst hroom hdg hf (fun z S2 H1 locs1 e1 e2 hw => kk z S2 H1 locs1 e1 e2 hw)

theorem c_callVV_s (X : CallFix p m c cc nL s args tt_T own) (K : tt_K G s) (hw : c_W G S s H locs) (hM : c_MV l G y (g_code y b mL r) fr lo (.ref (G.2.2 n) :: As) S S') {na : Nat} (cw : CallW R s args own C index y b mL r (g_code y b mL r) (g_rm fr lo) 0 0 na) (hn : n < 62) {ci : Nat} {fs : List Value} (he : tt_cell G S n = .inr (ci, fs)) {T : u_T} {M : Nat} (hc : vwCl[ci]? = some (C, T, M)) (hna : As.length = na) (hsz : ls.size = nL) (hst : st0 = As.reverse ++ .ref (G.2.2 n) :: rest) (hroom : (rest.map fun v => v.category).sum ≤ 8) (hdg : decode cc pc = .ok (.invokevirtual index, 3)) (hf : cells ≤ R.cells ∧ slots ≤ R.slots) (kk : ∀ (S2 : tt_St) (H1 : Heap) (locs1 : List Loc), S2 = S' → c_W G S2 s H1 locs1 → W p l e R s m args below meth c H1 locs1 cells slots Q (F0 m (pc + 3) ls (rest))) : W p l e R s m args below meth c H locs cells slots Q (F0 m pc ls st0) :=
  g_callVV X K (c_A G) hw hM cw hn he hc hna hsz hst hroom hdg hf (fun S2 H1 locs1 e2 hw => kk S2 H1 locs1 e2 hw)

theorem c_callVR_s (X : CallFix p m c cc nL s args tt_T own) (K : tt_K G s) (hw : c_W G S s H locs) {a : Nat} (hM : c_MR l G y (g_code y b mL r) fr lo (.ref (G.2.2 n) :: As) S a S') {na : Nat} (cw : CallW R s args own C index y b mL r (g_code y b mL r) (g_rm fr lo) 0 0 na) (hn : n < 62) {ci : Nat} {fs : List Value} (he : tt_cell G S n = .inr (ci, fs)) {T : u_T} {M : Nat} (hc : vwCl[ci]? = some (C, T, M)) (hna : As.length = na) (hsz : ls.size = nL) (hst : st0 = As.reverse ++ .ref (G.2.2 n) :: rest) (hroom : (rest.map fun v => v.category).sum ≤ 8) (hdg : decode cc pc = .ok (.invokevirtual index, 3)) (hf : cells ≤ R.cells ∧ slots ≤ R.slots) (kk : ∀ (S2 : tt_St) (H1 : Heap) (locs1 : List Loc), S2 = S' → c_W G S2 s H1 locs1 → W p l e R s m args below meth c H1 locs1 cells slots Q (F0 m (pc + 3) ls (.ref a :: rest))) : W p l e R s m args below meth c H locs cells slots Q (F0 m pc ls st0) :=
  g_callVR X K (c_A G) hw hM cw hn he hc hna hsz hst hroom hdg hf (fun S2 H1 locs1 e2 hw => kk S2 H1 locs1 e2 hw)

theorem c_callSI_p (X : CallFix p m c cc nL s args tt_T own) (K : tt_K G s) (hw : c_W G S s H locs) {a : Int32} (hM : c_MI l G y (g_code y b mL r) fr lo As S a S) {na : Nat} (cw : CallB R s args own index y b mL r (g_code y b mL r) (g_rm fr lo) 0 0 na ∧ (Cond.static y).before args s = true) (hna : As.length = na) (hsz : ls.size = nL) (hst : st0 = As.reverse ++ rest) (hroom : (rest.map fun v => v.category).sum ≤ 8) (hdg : decode cc pc = .ok (.invokestatic index, 3)) (hf : cells ≤ R.cells ∧ slots ≤ R.slots) (kk : ∀ (z : Int32) (H1 : Heap) (locs1 : List Loc), z = a → c_W G S s H1 locs1 → W p l e R s m args below meth c H1 locs1 cells slots Q (F0 m (pc + 3) ls (.int z :: rest))) : W p l e R s m args below meth c H locs cells slots Q (F0 m pc ls st0) :=
  g_callSI X K (c_A G) hw hM cw hna hsz hst hroom hdg hf (fun z S2 H1 locs1 e1 e2 hw => kk z H1 locs1 e1 (by rw [e2] at hw; exact hw))

theorem c_callSR_p (X : CallFix p m c cc nL s args tt_T own) (K : tt_K G s) (hw : c_W G S s H locs) {a : Nat} (hM : c_MR l G y (g_code y b mL r) fr lo As S a S) {na : Nat} (cw : CallB R s args own index y b mL r (g_code y b mL r) (g_rm fr lo) 0 0 na ∧ (Cond.static y).before args s = true) (hna : As.length = na) (hsz : ls.size = nL) (hst : st0 = As.reverse ++ rest) (hroom : (rest.map fun v => v.category).sum ≤ 8) (hdg : decode cc pc = .ok (.invokestatic index, 3)) (hf : cells ≤ R.cells ∧ slots ≤ R.slots) (kk : ∀ (H1 : Heap) (locs1 : List Loc), c_W G S s H1 locs1 → W p l e R s m args below meth c H1 locs1 cells slots Q (F0 m (pc + 3) ls (.ref a :: rest))) : W p l e R s m args below meth c H locs cells slots Q (F0 m pc ls st0) :=
  g_callSR X K (c_A G) hw hM cw hna hsz hst hroom hdg hf (fun S2 H1 locs1 e2 hw => kk H1 locs1 (by rw [e2] at hw; exact hw))

theorem c_callSI_s (X : CallFix p m c cc nL s args tt_T own) (K : tt_K G s) (hw : c_W G S s H locs) {a : Int32} (hM : c_MI l G y (g_code y b mL r) fr lo As S a S') {na : Nat} (cw : CallB R s args own index y b mL r (g_code y b mL r) (g_rm fr lo) 0 0 na ∧ (Cond.static y).before args s = true) (hna : As.length = na) (hsz : ls.size = nL) (hst : st0 = As.reverse ++ rest) (hroom : (rest.map fun v => v.category).sum ≤ 8) (hdg : decode cc pc = .ok (.invokestatic index, 3)) (hf : cells ≤ R.cells ∧ slots ≤ R.slots) (kk : ∀ (z : Int32) (S2 : tt_St) (H1 : Heap) (locs1 : List Loc), z = a → S2 = S' → c_W G S2 s H1 locs1 → W p l e R s m args below meth c H1 locs1 cells slots Q (F0 m (pc + 3) ls (.int z :: rest))) : W p l e R s m args below meth c H locs cells slots Q (F0 m pc ls st0) :=
  g_callSI X K (c_A G) hw hM cw hna hsz hst hroom hdg hf (fun z S2 H1 locs1 e1 e2 hw => kk z S2 H1 locs1 e1 e2 hw)

theorem m_callVI_p (X : CallFix p m c cc nL s args tt_T own) (K : tt_K G s) (hw : m_W G S V s H locs) {a : Int32} (hM : m_MI l G y (g_code y b mL r) fr lo (.ref (mm_ad G 0) :: As) S V a S V) {na : Nat} (cw : CallW R s args own RX7 index y b mL r (g_code y b mL r) (g_rm fr lo) 0 0 na) (hna : As.length = na) (hsz : ls.size = nL) (hst : st0 = As.reverse ++ .ref (mm_ad G 0) :: rest) (hroom : (rest.map fun v => v.category).sum ≤ 8) (hdg : decode cc pc = .ok (.invokevirtual index, 3)) (hf : cells ≤ R.cells ∧ slots ≤ R.slots) (kk : ∀ (z : Int32) (H1 : Heap) (locs1 : List Loc), z = a → m_W G S V s H1 locs1 → W p l e R s m args below meth c H1 locs1 cells slots Q (F0 m (pc + 3) ls (.int z :: rest))) : W p l e R s m args below meth c H locs cells slots Q (F0 m pc ls st0) :=
  m_callVI X K hw hM cw hna hsz hst hroom hdg hf (fun z S2 V2 H1 locs1 e1 e2 e3 hw => kk z H1 locs1 e1 (by rw [e2, e3] at hw; exact hw))

theorem m_callVI_s (X : CallFix p m c cc nL s args tt_T own) (K : tt_K G s) (hw : m_W G S V s H locs) {a : Int32} (hM : m_MI l G y (g_code y b mL r) fr lo (.ref (mm_ad G 0) :: As) S V a S' V) {na : Nat} (cw : CallW R s args own RX7 index y b mL r (g_code y b mL r) (g_rm fr lo) 0 0 na) (hna : As.length = na) (hsz : ls.size = nL) (hst : st0 = As.reverse ++ .ref (mm_ad G 0) :: rest) (hroom : (rest.map fun v => v.category).sum ≤ 8) (hdg : decode cc pc = .ok (.invokevirtual index, 3)) (hf : cells ≤ R.cells ∧ slots ≤ R.slots) (kk : ∀ (z : Int32) (S2 : tt_St) (H1 : Heap) (locs1 : List Loc), z = a → S2 = S' → m_W G S2 V s H1 locs1 → W p l e R s m args below meth c H1 locs1 cells slots Q (F0 m (pc + 3) ls (.int z :: rest))) : W p l e R s m args below meth c H locs cells slots Q (F0 m pc ls st0) :=
  m_callVI X K hw hM cw hna hsz hst hroom hdg hf (fun z S2 V2 H1 locs1 e1 e2 e3 hw => kk z S2 H1 locs1 e1 e2 (by rw [e3] at hw; exact hw))

theorem m_callVI_sv (X : CallFix p m c cc nL s args tt_T own) (K : tt_K G s) (hw : m_W G S V s H locs) {a : Int32} (hM : m_MI l G y (g_code y b mL r) fr lo (.ref (mm_ad G 0) :: As) S V a S' V') {na : Nat} (cw : CallW R s args own RX7 index y b mL r (g_code y b mL r) (g_rm fr lo) 0 0 na) (hna : As.length = na) (hsz : ls.size = nL) (hst : st0 = As.reverse ++ .ref (mm_ad G 0) :: rest) (hroom : (rest.map fun v => v.category).sum ≤ 8) (hdg : decode cc pc = .ok (.invokevirtual index, 3)) (hf : cells ≤ R.cells ∧ slots ≤ R.slots) (kk : ∀ (z : Int32) (S2 : tt_St) (V2 : Int64) (H1 : Heap) (locs1 : List Loc), z = a → S2 = S' → V2 = V' → m_W G S2 V2 s H1 locs1 → W p l e R s m args below meth c H1 locs1 cells slots Q (F0 m (pc + 3) ls (.int z :: rest))) : W p l e R s m args below meth c H locs cells slots Q (F0 m pc ls st0) :=
  m_callVI X K hw hM cw hna hsz hst hroom hdg hf (fun z S2 V2 H1 locs1 e1 e2 e3 hw => kk z S2 V2 H1 locs1 e1 e2 e3 hw)

theorem m_callVV_s (X : CallFix p m c cc nL s args tt_T own) (K : tt_K G s) (hw : m_W G S V s H locs) (hM : m_MV l G y (g_code y b mL r) fr lo (.ref (mm_ad G 0) :: As) S V S' V) {na : Nat} (cw : CallW R s args own RX7 index y b mL r (g_code y b mL r) (g_rm fr lo) 0 0 na) (hna : As.length = na) (hsz : ls.size = nL) (hst : st0 = As.reverse ++ .ref (mm_ad G 0) :: rest) (hroom : (rest.map fun v => v.category).sum ≤ 8) (hdg : decode cc pc = .ok (.invokevirtual index, 3)) (hf : cells ≤ R.cells ∧ slots ≤ R.slots) (kk : ∀ (S2 : tt_St) (H1 : Heap) (locs1 : List Loc), S2 = S' → m_W G S2 V s H1 locs1 → W p l e R s m args below meth c H1 locs1 cells slots Q (F0 m (pc + 3) ls (rest))) : W p l e R s m args below meth c H locs cells slots Q (F0 m pc ls st0) :=
  m_callVV X K hw hM cw hna hsz hst hroom hdg hf (fun S2 V2 H1 locs1 e2 e3 hw => kk S2 H1 locs1 e2 (by rw [e3] at hw; exact hw))

theorem m_callVV_sv (X : CallFix p m c cc nL s args tt_T own) (K : tt_K G s) (hw : m_W G S V s H locs) (hM : m_MV l G y (g_code y b mL r) fr lo (.ref (mm_ad G 0) :: As) S V S' V') {na : Nat} (cw : CallW R s args own RX7 index y b mL r (g_code y b mL r) (g_rm fr lo) 0 0 na) (hna : As.length = na) (hsz : ls.size = nL) (hst : st0 = As.reverse ++ .ref (mm_ad G 0) :: rest) (hroom : (rest.map fun v => v.category).sum ≤ 8) (hdg : decode cc pc = .ok (.invokevirtual index, 3)) (hf : cells ≤ R.cells ∧ slots ≤ R.slots) (kk : ∀ (S2 : tt_St) (V2 : Int64) (H1 : Heap) (locs1 : List Loc), S2 = S' → V2 = V' → m_W G S2 V2 s H1 locs1 → W p l e R s m args below meth c H1 locs1 cells slots Q (F0 m (pc + 3) ls (rest))) : W p l e R s m args below meth c H locs cells slots Q (F0 m pc ls st0) :=
  m_callVV X K hw hM cw hna hsz hst hroom hdg hf (fun S2 V2 H1 locs1 e2 e3 hw => kk S2 V2 H1 locs1 e2 e3 hw)

theorem m_callSI_p (X : CallFix p m c cc nL s args tt_T own) (K : tt_K G s) (hw : m_W G S V s H locs) {a : Int32} (hM : m_MI l G y (g_code y b mL r) fr lo As S V a S V) {na : Nat} (cw : CallB R s args own index y b mL r (g_code y b mL r) (g_rm fr lo) 0 0 na ∧ (Cond.static y).before args s = true) (hna : As.length = na) (hsz : ls.size = nL) (hst : st0 = As.reverse ++ rest) (hroom : (rest.map fun v => v.category).sum ≤ 8) (hdg : decode cc pc = .ok (.invokestatic index, 3)) (hf : cells ≤ R.cells ∧ slots ≤ R.slots) (kk : ∀ (z : Int32) (H1 : Heap) (locs1 : List Loc), z = a → m_W G S V s H1 locs1 → W p l e R s m args below meth c H1 locs1 cells slots Q (F0 m (pc + 3) ls (.int z :: rest))) : W p l e R s m args below meth c H locs cells slots Q (F0 m pc ls st0) :=
  m_callSI X K hw hM cw hna hsz hst hroom hdg hf (fun z S2 V2 H1 locs1 e1 e2 e3 hw => kk z H1 locs1 e1 (by rw [e2, e3] at hw; exact hw))

theorem m_callSV_s (X : CallFix p m c cc nL s args tt_T own) (K : tt_K G s) (hw : m_W G S V s H locs) (hM : m_MV l G y (g_code y b mL r) fr lo As S V S' V) {na : Nat} (cw : CallB R s args own index y b mL r (g_code y b mL r) (g_rm fr lo) 0 0 na ∧ (Cond.static y).before args s = true) (hna : As.length = na) (hsz : ls.size = nL) (hst : st0 = As.reverse ++ rest) (hroom : (rest.map fun v => v.category).sum ≤ 8) (hdg : decode cc pc = .ok (.invokestatic index, 3)) (hf : cells ≤ R.cells ∧ slots ≤ R.slots) (kk : ∀ (S2 : tt_St) (H1 : Heap) (locs1 : List Loc), S2 = S' → m_W G S2 V s H1 locs1 → W p l e R s m args below meth c H1 locs1 cells slots Q (F0 m (pc + 3) ls (rest))) : W p l e R s m args below meth c H locs cells slots Q (F0 m pc ls st0) :=
  m_callSV X K hw hM cw hna hsz hst hroom hdg hf (fun S2 V2 H1 locs1 e2 e3 hw => kk S2 H1 locs1 e2 (by rw [e3] at hw; exact hw))

/-- a loop's measure: how far x is below b -/
def lp_mu (b x : Int32) : Nat := (b.toInt - x.toInt).toNat
theorem lp_lt (a b : Int32) : a < b ↔ a.toInt < b.toInt := Int32.lt_iff_toInt_lt
theorem lp_le (a b : Int32) : a ≤ b ↔ a.toInt ≤ b.toInt := Int32.le_iff_toInt_le
theorem lp_rng (a : Int32) : -2147483648 ≤ a.toInt ∧ a.toInt ≤ 2147483647 := by
  have h1 := Int32.le_toInt a
  have h2 := Int32.toInt_lt a
  omega
theorem lp_bmod {z : Int} (h1 : -2147483648 ≤ z) (h2 : z ≤ 2147483647) : z.bmod (2 ^ 32) = z := by
  rw [Int.bmod_eq_of_le] <;> omega
theorem lp_add {a b : Int32} (h1 : -2147483648 ≤ a.toInt + b.toInt) (h2 : a.toInt + b.toInt ≤ 2147483647) : (a + b).toInt = a.toInt + b.toInt := by
  rw [Int32.toInt_add, lp_bmod h1 h2]
theorem lp_sub {a b : Int32} (h1 : -2147483648 ≤ a.toInt - b.toInt) (h2 : a.toInt - b.toInt ≤ 2147483647) : (a - b).toInt = a.toInt - b.toInt := by
  rw [Int32.toInt_sub, lp_bmod h1 h2]
theorem lp_mul {a b : Int32} (h1 : -2147483648 ≤ a.toInt * b.toInt) (h2 : a.toInt * b.toInt ≤ 2147483647) : (a * b).toInt = a.toInt * b.toInt := by
  rw [Int32.toInt_mul, lp_bmod h1 h2]
theorem lp_0 : (0 : Int32).toInt = 0 := rfl
theorem lp_1 : (1 : Int32).toInt = 1 := rfl
theorem lp_inc {x b : Int32} (h : ¬ b ≤ x) : (x + 1).toInt = x.toInt + 1 := by
  rw [lp_le] at h
  have := lp_rng b
  have := lp_rng x
  exact lp_add (by rw [lp_1]; omega) (by rw [lp_1]; omega)
theorem lp_dec {x b : Int32} (h : ¬ b ≤ x) : lp_mu b (x + 1) < lp_mu b x := by
  have h1 := lp_inc h
  rw [lp_le] at h
  unfold lp_mu
  omega
theorem lp_dec' {x b : Int32} {n : Nat} (h : ¬ b ≤ x) (hn : lp_mu b x < n + 1) : lp_mu b (x + 1) < n := by
  have := lp_dec h
  omega
theorem lp_nn {x b : Int32} (h0 : ¬ x < 0) (h : ¬ b ≤ x) : ¬ x + 1 < 0 := by
  have h1 := lp_inc h
  rw [lp_lt, lp_0] at h0 ⊢
  omega
theorem lp_in {x b : Int32} {n : Nat} (h0 : ¬ x < 0) (h : ¬ b ≤ x) (hb : b.toInt ≤ n) : vp_in x n := by
  rw [vp_in_iff]
  rw [lp_lt, lp_0] at h0
  rw [lp_le] at h
  omega
theorem lp_st {b : Int32} {n : Nat} (h : b.toInt ≤ n) : lp_mu b 0 < n + 1 := by
  unfold lp_mu
  rw [lp_0]
  omega
theorem lp_cl {x : Int32} {n : Nat} (h : vp_in x n) : x.toNatClampNeg < n := Nat.not_le.mp fun q => h (Or.inr q)
end CP
end
