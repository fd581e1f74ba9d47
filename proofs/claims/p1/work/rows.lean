section
-- ===== PART A: goes FIRST, ahead of the names: the tables' words, and 'selects' of the private methods out of them =====
/-- a private method of a class that the tables say can be made, by its rows of tables_1 -/
def lw_okq (q : MethodName × Nat) : Prop := (q.1.cls ≠ "java/lang/invoke/MethodHandle" ∧ q.1.cls ≠ "java/lang/invoke/VarHandle") ∧ Cond.instantiable q.1.cls q.2 ∈ tables_1 ∧ Cond.privateMethod q.1 ∈ tables_1 ∧ Cond.instanceMethod q.1 ∈ tables_1
theorem lw_p0 : lw_okq (⟨"ChestnutLine", "placeFor", "(II)I"⟩, 11) := ⟨⟨by decide +kernel, by decide +kernel⟩, List.mem_of_getElem? (i := 20) (by decide +kernel), List.mem_of_getElem? (i := 465) (by decide +kernel), List.mem_of_getElem? (i := 466) (by decide +kernel)⟩
theorem lw_p1 : lw_okq (⟨"ChestnutLine$Reader", "readRows", "(I)V"⟩, 13) := ⟨⟨by decide +kernel, by decide +kernel⟩, List.mem_of_getElem? (i := 207) (by decide +kernel), List.mem_of_getElem? (i := 494) (by decide +kernel), List.mem_of_getElem? (i := 495) (by decide +kernel)⟩
theorem lw_p2 : lw_okq (⟨"ChestnutLine$Reader", "nextToken", "()V"⟩, 13) := ⟨⟨by decide +kernel, by decide +kernel⟩, List.mem_of_getElem? (i := 207) (by decide +kernel), List.mem_of_getElem? (i := 498) (by decide +kernel), List.mem_of_getElem? (i := 499) (by decide +kernel)⟩
theorem lw_p3 : lw_okq (⟨"ChestnutLine$Reader", "isLetter", "(I)Z"⟩, 13) := ⟨⟨by decide +kernel, by decide +kernel⟩, List.mem_of_getElem? (i := 207) (by decide +kernel), List.mem_of_getElem? (i := 502) (by decide +kernel), List.mem_of_getElem? (i := 503) (by decide +kernel)⟩
theorem lw_p4 : lw_okq (⟨"ChestnutLine$Reader", "isDigit", "(I)Z"⟩, 13) := ⟨⟨by decide +kernel, by decide +kernel⟩, List.mem_of_getElem? (i := 207) (by decide +kernel), List.mem_of_getElem? (i := 506) (by decide +kernel), List.mem_of_getElem? (i := 507) (by decide +kernel)⟩
theorem lw_p5 : lw_okq (⟨"ChestnutLine$Reader", "takeDigits", "()V"⟩, 13) := ⟨⟨by decide +kernel, by decide +kernel⟩, List.mem_of_getElem? (i := 207) (by decide +kernel), List.mem_of_getElem? (i := 510) (by decide +kernel), List.mem_of_getElem? (i := 511) (by decide +kernel)⟩
theorem lw_p6 : lw_okq (⟨"ChestnutLine$Reader", "wordOf", "(I)I"⟩, 13) := ⟨⟨by decide +kernel, by decide +kernel⟩, List.mem_of_getElem? (i := 207) (by decide +kernel), List.mem_of_getElem? (i := 514) (by decide +kernel), List.mem_of_getElem? (i := 515) (by decide +kernel)⟩
theorem lw_p7 : lw_okq (⟨"ChestnutLine$Reader", "isWord", "(Ljava/lang/String;)Z"⟩, 13) := ⟨⟨by decide +kernel, by decide +kernel⟩, List.mem_of_getElem? (i := 207) (by decide +kernel), List.mem_of_getElem? (i := 519) (by decide +kernel), List.mem_of_getElem? (i := 520) (by decide +kernel)⟩
theorem lw_p8 : lw_okq (⟨"ChestnutLine$Reader", "lineWord", "()I"⟩, 13) := ⟨⟨by decide +kernel, by decide +kernel⟩, List.mem_of_getElem? (i := 207) (by decide +kernel), List.mem_of_getElem? (i := 572) (by decide +kernel), List.mem_of_getElem? (i := 573) (by decide +kernel)⟩
theorem lw_p9 : lw_okq (⟨"ChestnutLine$Reader", "readNumbers", "(I)Z"⟩, 13) := ⟨⟨by decide +kernel, by decide +kernel⟩, List.mem_of_getElem? (i := 207) (by decide +kernel), List.mem_of_getElem? (i := 585) (by decide +kernel), List.mem_of_getElem? (i := 586) (by decide +kernel)⟩
theorem lw_p10 : lw_okq (⟨"ChestnutLine$Reader", "tell", "(II)V"⟩, 13) := ⟨⟨by decide +kernel, by decide +kernel⟩, List.mem_of_getElem? (i := 207) (by decide +kernel), List.mem_of_getElem? (i := 592) (by decide +kernel), List.mem_of_getElem? (i := 593) (by decide +kernel)⟩
theorem lw_p11 : lw_okq (⟨"ChestnutLine$Reader", "tellPost", "(I)V"⟩, 13) := ⟨⟨by decide +kernel, by decide +kernel⟩, List.mem_of_getElem? (i := 207) (by decide +kernel), List.mem_of_getElem? (i := 596) (by decide +kernel), List.mem_of_getElem? (i := 597) (by decide +kernel)⟩
theorem lw_p12 : lw_okq (⟨"ChestnutLine$Reader", "note", "(II)V"⟩, 13) := ⟨⟨by decide +kernel, by decide +kernel⟩, List.mem_of_getElem? (i := 207) (by decide +kernel), List.mem_of_getElem? (i := 600) (by decide +kernel), List.mem_of_getElem? (i := 601) (by decide +kernel)⟩
theorem lw_p13 : lw_okq (⟨"ChestnutLine$Reader", "number", "(III)I"⟩, 13) := ⟨⟨by decide +kernel, by decide +kernel⟩, List.mem_of_getElem? (i := 207) (by decide +kernel), List.mem_of_getElem? (i := 604) (by decide +kernel), List.mem_of_getElem? (i := 605) (by decide +kernel)⟩
theorem lw_p14 : lw_okq (⟨"ChestnutLine$Reader", "tellRider", "(I)V"⟩, 13) := ⟨⟨by decide +kernel, by decide +kernel⟩, List.mem_of_getElem? (i := 207) (by decide +kernel), List.mem_of_getElem? (i := 608) (by decide +kernel), List.mem_of_getElem? (i := 609) (by decide +kernel)⟩
theorem lw_p15 : lw_okq (⟨"ChestnutLine$Reader", "tellOfPost", "([II)V"⟩, 13) := ⟨⟨by decide +kernel, by decide +kernel⟩, List.mem_of_getElem? (i := 207) (by decide +kernel), List.mem_of_getElem? (i := 612) (by decide +kernel), List.mem_of_getElem? (i := 613) (by decide +kernel)⟩
def lw_privs_1 : List (MethodName × Nat) := [(⟨"ChestnutLine", "placeFor", "(II)I"⟩, 11), (⟨"ChestnutLine$Reader", "readRows", "(I)V"⟩, 13), (⟨"ChestnutLine$Reader", "nextToken", "()V"⟩, 13), (⟨"ChestnutLine$Reader", "isLetter", "(I)Z"⟩, 13), (⟨"ChestnutLine$Reader", "isDigit", "(I)Z"⟩, 13), (⟨"ChestnutLine$Reader", "takeDigits", "()V"⟩, 13), (⟨"ChestnutLine$Reader", "wordOf", "(I)I"⟩, 13), (⟨"ChestnutLine$Reader", "isWord", "(Ljava/lang/String;)Z"⟩, 13), (⟨"ChestnutLine$Reader", "lineWord", "()I"⟩, 13), (⟨"ChestnutLine$Reader", "readNumbers", "(I)Z"⟩, 13), (⟨"ChestnutLine$Reader", "tell", "(II)V"⟩, 13), (⟨"ChestnutLine$Reader", "tellPost", "(I)V"⟩, 13), (⟨"ChestnutLine$Reader", "note", "(II)V"⟩, 13), (⟨"ChestnutLine$Reader", "number", "(III)I"⟩, 13), (⟨"ChestnutLine$Reader", "tellRider", "(I)V"⟩, 13), (⟨"ChestnutLine$Reader", "tellOfPost", "([II)V"⟩, 13)]
theorem lw_r1 : ∀ q ∈ lw_privs_1, lw_okq q := List.forall_mem_cons.mpr ⟨lw_p0, List.forall_mem_cons.mpr ⟨lw_p1, List.forall_mem_cons.mpr ⟨lw_p2, List.forall_mem_cons.mpr ⟨lw_p3, List.forall_mem_cons.mpr ⟨lw_p4, List.forall_mem_cons.mpr ⟨lw_p5, List.forall_mem_cons.mpr ⟨lw_p6, List.forall_mem_cons.mpr ⟨lw_p7, List.forall_mem_cons.mpr ⟨lw_p8, List.forall_mem_cons.mpr ⟨lw_p9, List.forall_mem_cons.mpr ⟨lw_p10, List.forall_mem_cons.mpr ⟨lw_p11, List.forall_mem_cons.mpr ⟨lw_p12, List.forall_mem_cons.mpr ⟨lw_p13, List.forall_mem_cons.mpr ⟨lw_p14, List.forall_mem_cons.mpr ⟨lw_p15, fun _ h => absurd h List.not_mem_nil⟩⟩⟩⟩⟩⟩⟩⟩⟩⟩⟩⟩⟩⟩⟩⟩
theorem lw_p16 : lw_okq (⟨"ChestnutLine$Reader", "tellPair", "(III)V"⟩, 13) := ⟨⟨by decide +kernel, by decide +kernel⟩, List.mem_of_getElem? (i := 207) (by decide +kernel), List.mem_of_getElem? (i := 616) (by decide +kernel), List.mem_of_getElem? (i := 617) (by decide +kernel)⟩
theorem lw_p17 : lw_okq (⟨"ChestnutLine$State", "has", "(II)Z"⟩, 8) := ⟨⟨by decide +kernel, by decide +kernel⟩, List.mem_of_getElem? (i := 28) (by decide +kernel), List.mem_of_getElem? (i := 668) (by decide +kernel), List.mem_of_getElem? (i := 669) (by decide +kernel)⟩
theorem lw_p18 : lw_okq (⟨"ChestnutLine", "ridden", "(IIII)LChestnutLine$Line;"⟩, 11) := ⟨⟨by decide +kernel, by decide +kernel⟩, List.mem_of_getElem? (i := 20) (by decide +kernel), List.mem_of_getElem? (i := 724) (by decide +kernel), List.mem_of_getElem? (i := 725) (by decide +kernel)⟩
theorem lw_p19 : lw_okq (⟨"ChestnutLine$Ride", "begin", "(LChestnutLine$Line;I)V"⟩, 12) := ⟨⟨by decide +kernel, by decide +kernel⟩, List.mem_of_getElem? (i := 262) (by decide +kernel), List.mem_of_getElem? (i := 735) (by decide +kernel), List.mem_of_getElem? (i := 736) (by decide +kernel)⟩
theorem lw_p20 : lw_okq (⟨"ChestnutLine$Ride", "wantingAt", "(LChestnutLine$Line;I)I"⟩, 12) := ⟨⟨by decide +kernel, by decide +kernel⟩, List.mem_of_getElem? (i := 262) (by decide +kernel), List.mem_of_getElem? (i := 740) (by decide +kernel), List.mem_of_getElem? (i := 741) (by decide +kernel)⟩
theorem lw_p21 : lw_okq (⟨"ChestnutLine$Ride", "canPull", "(LChestnutLine$Line;II)Z"⟩, 12) := ⟨⟨by decide +kernel, by decide +kernel⟩, List.mem_of_getElem? (i := 262) (by decide +kernel), List.mem_of_getElem? (i := 745) (by decide +kernel), List.mem_of_getElem? (i := 746) (by decide +kernel)⟩
theorem lw_p22 : lw_okq (⟨"ChestnutLine$Ride", "chosen", "(LChestnutLine$Line;II)I"⟩, 12) := ⟨⟨by decide +kernel, by decide +kernel⟩, List.mem_of_getElem? (i := 262) (by decide +kernel), List.mem_of_getElem? (i := 754) (by decide +kernel), List.mem_of_getElem? (i := 755) (by decide +kernel)⟩
theorem lw_p23 : lw_okq (⟨"ChestnutLine$Ride", "drawBelow", "(I)I"⟩, 12) := ⟨⟨by decide +kernel, by decide +kernel⟩, List.mem_of_getElem? (i := 262) (by decide +kernel), List.mem_of_getElem? (i := 770) (by decide +kernel), List.mem_of_getElem? (i := 771) (by decide +kernel)⟩
theorem lw_p24 : lw_okq (⟨"ChestnutLine$Ride", "stopAt", "(LChestnutLine$Line;II)V"⟩, 12) := ⟨⟨by decide +kernel, by decide +kernel⟩, List.mem_of_getElem? (i := 262) (by decide +kernel), List.mem_of_getElem? (i := 778) (by decide +kernel), List.mem_of_getElem? (i := 779) (by decide +kernel)⟩
theorem lw_p25 : lw_okq (⟨"ChestnutLine", "fillGains", "(LChestnutLine$Line;I)V"⟩, 11) := ⟨⟨by decide +kernel, by decide +kernel⟩, List.mem_of_getElem? (i := 20) (by decide +kernel), List.mem_of_getElem? (i := 853) (by decide +kernel), List.mem_of_getElem? (i := 854) (by decide +kernel)⟩
theorem lw_p26 : lw_okq (⟨"ChestnutLine", "keepGains", "(LChestnutLine$Line;I)V"⟩, 11) := ⟨⟨by decide +kernel, by decide +kernel⟩, List.mem_of_getElem? (i := 20) (by decide +kernel), List.mem_of_getElem? (i := 861) (by decide +kernel), List.mem_of_getElem? (i := 862) (by decide +kernel)⟩
theorem lw_p27 : lw_okq (⟨"ChestnutLine", "isAtRest", "(LChestnutLine$Line;I)Z"⟩, 11) := ⟨⟨by decide +kernel, by decide +kernel⟩, List.mem_of_getElem? (i := 20) (by decide +kernel), List.mem_of_getElem? (i := 869) (by decide +kernel), List.mem_of_getElem? (i := 870) (by decide +kernel)⟩
theorem lw_p28 : lw_okq (⟨"ChestnutLine", "isCalm", "(LChestnutLine$Line;III)Z"⟩, 11) := ⟨⟨by decide +kernel, by decide +kernel⟩, List.mem_of_getElem? (i := 20) (by decide +kernel), List.mem_of_getElem? (i := 883) (by decide +kernel), List.mem_of_getElem? (i := 884) (by decide +kernel)⟩
theorem lw_p29 : lw_okq (⟨"ChestnutLine", "sparePost", "(LChestnutLine$Line;III)I"⟩, 11) := ⟨⟨by decide +kernel, by decide +kernel⟩, List.mem_of_getElem? (i := 20) (by decide +kernel), List.mem_of_getElem? (i := 891) (by decide +kernel), List.mem_of_getElem? (i := 892) (by decide +kernel)⟩
theorem lw_p30 : lw_okq (⟨"ChestnutLine", "fillGainsByLaw", "(LChestnutLine$Line;II)V"⟩, 11) := ⟨⟨by decide +kernel, by decide +kernel⟩, List.mem_of_getElem? (i := 20) (by decide +kernel), List.mem_of_getElem? (i := 904) (by decide +kernel), List.mem_of_getElem? (i := 905) (by decide +kernel)⟩
theorem lw_p31 : lw_okq (⟨"ChestnutLine", "votesFor", "(LChestnutLine$Line;I)I"⟩, 11) := ⟨⟨by decide +kernel, by decide +kernel⟩, List.mem_of_getElem? (i := 20) (by decide +kernel), List.mem_of_getElem? (i := 908) (by decide +kernel), List.mem_of_getElem? (i := 909) (by decide +kernel)⟩
def lw_privs_2 : List (MethodName × Nat) := [(⟨"ChestnutLine$Reader", "tellPair", "(III)V"⟩, 13), (⟨"ChestnutLine$State", "has", "(II)Z"⟩, 8), (⟨"ChestnutLine", "ridden", "(IIII)LChestnutLine$Line;"⟩, 11), (⟨"ChestnutLine$Ride", "begin", "(LChestnutLine$Line;I)V"⟩, 12), (⟨"ChestnutLine$Ride", "wantingAt", "(LChestnutLine$Line;I)I"⟩, 12), (⟨"ChestnutLine$Ride", "canPull", "(LChestnutLine$Line;II)Z"⟩, 12), (⟨"ChestnutLine$Ride", "chosen", "(LChestnutLine$Line;II)I"⟩, 12), (⟨"ChestnutLine$Ride", "drawBelow", "(I)I"⟩, 12), (⟨"ChestnutLine$Ride", "stopAt", "(LChestnutLine$Line;II)V"⟩, 12), (⟨"ChestnutLine", "fillGains", "(LChestnutLine$Line;I)V"⟩, 11), (⟨"ChestnutLine", "keepGains", "(LChestnutLine$Line;I)V"⟩, 11), (⟨"ChestnutLine", "isAtRest", "(LChestnutLine$Line;I)Z"⟩, 11), (⟨"ChestnutLine", "isCalm", "(LChestnutLine$Line;III)Z"⟩, 11), (⟨"ChestnutLine", "sparePost", "(LChestnutLine$Line;III)I"⟩, 11), (⟨"ChestnutLine", "fillGainsByLaw", "(LChestnutLine$Line;II)V"⟩, 11), (⟨"ChestnutLine", "votesFor", "(LChestnutLine$Line;I)I"⟩, 11)]
theorem lw_r2 : ∀ q ∈ lw_privs_2, lw_okq q := List.forall_mem_cons.mpr ⟨lw_p16, List.forall_mem_cons.mpr ⟨lw_p17, List.forall_mem_cons.mpr ⟨lw_p18, List.forall_mem_cons.mpr ⟨lw_p19, List.forall_mem_cons.mpr ⟨lw_p20, List.forall_mem_cons.mpr ⟨lw_p21, List.forall_mem_cons.mpr ⟨lw_p22, List.forall_mem_cons.mpr ⟨lw_p23, List.forall_mem_cons.mpr ⟨lw_p24, List.forall_mem_cons.mpr ⟨lw_p25, List.forall_mem_cons.mpr ⟨lw_p26, List.forall_mem_cons.mpr ⟨lw_p27, List.forall_mem_cons.mpr ⟨lw_p28, List.forall_mem_cons.mpr ⟨lw_p29, List.forall_mem_cons.mpr ⟨lw_p30, List.forall_mem_cons.mpr ⟨lw_p31, fun _ h => absurd h List.not_mem_nil⟩⟩⟩⟩⟩⟩⟩⟩⟩⟩⟩⟩⟩⟩⟩⟩
theorem lw_p32 : lw_okq (⟨"ChestnutLine", "lawOf", "(I)I"⟩, 11) := ⟨⟨by decide +kernel, by decide +kernel⟩, List.mem_of_getElem? (i := 20) (by decide +kernel), List.mem_of_getElem? (i := 912) (by decide +kernel), List.mem_of_getElem? (i := 913) (by decide +kernel)⟩
theorem lw_p33 : lw_okq (⟨"ChestnutLine", "bestChoice", "(III[III)I"⟩, 11) := ⟨⟨by decide +kernel, by decide +kernel⟩, List.mem_of_getElem? (i := 20) (by decide +kernel), List.mem_of_getElem? (i := 920) (by decide +kernel), List.mem_of_getElem? (i := 921) (by decide +kernel)⟩
theorem lw_p34 : lw_okq (⟨"ChestnutLine$Purse", "addPost", "(IIII)V"⟩, 2) := ⟨⟨by decide +kernel, by decide +kernel⟩, List.mem_of_getElem? (i := 398) (by decide +kernel), List.mem_of_getElem? (i := 934) (by decide +kernel), List.mem_of_getElem? (i := 935) (by decide +kernel)⟩
theorem lw_p35 : lw_okq (⟨"ChestnutLine$Sets", "keep", "(I)V"⟩, 11) := ⟨⟨by decide +kernel, by decide +kernel⟩, List.mem_of_getElem? (i := 355) (by decide +kernel), List.mem_of_getElem? (i := 962) (by decide +kernel), List.mem_of_getElem? (i := 963) (by decide +kernel)⟩
theorem lw_p36 : lw_okq (⟨"ChestnutLine$Sets", "fillDues", "(LChestnutLine$Line;LChestnutLine$Pairs;)Z"⟩, 11) := ⟨⟨by decide +kernel, by decide +kernel⟩, List.mem_of_getElem? (i := 355) (by decide +kernel), List.mem_of_getElem? (i := 979) (by decide +kernel), List.mem_of_getElem? (i := 980) (by decide +kernel)⟩
theorem lw_p37 : lw_okq (⟨"ChestnutLine$Sets", "allBits", "()I"⟩, 11) := ⟨⟨by decide +kernel, by decide +kernel⟩, List.mem_of_getElem? (i := 355) (by decide +kernel), List.mem_of_getElem? (i := 989) (by decide +kernel), List.mem_of_getElem? (i := 990) (by decide +kernel)⟩
theorem lw_p38 : lw_okq (⟨"ChestnutLine$Spread", "addStop", "(II)V"⟩, 3) := ⟨⟨by decide +kernel, by decide +kernel⟩, List.mem_of_getElem? (i := 337) (by decide +kernel), List.mem_of_getElem? (i := 1013) (by decide +kernel), List.mem_of_getElem? (i := 1014) (by decide +kernel)⟩
theorem lw_p39 : lw_okq (⟨"ChestnutLineModel", "four", "(I)V"⟩, 50) := ⟨⟨by decide +kernel, by decide +kernel⟩, List.mem_of_getElem? (i := 1062) (by decide +kernel), List.mem_of_getElem? (i := 1223) (by decide +kernel), List.mem_of_getElem? (i := 1224) (by decide +kernel)⟩
theorem lw_p40 : lw_okq (⟨"ChestnutLineModel", "is", "(II)Z"⟩, 50) := ⟨⟨by decide +kernel, by decide +kernel⟩, List.mem_of_getElem? (i := 1062) (by decide +kernel), List.mem_of_getElem? (i := 1238) (by decide +kernel), List.mem_of_getElem? (i := 1239) (by decide +kernel)⟩
theorem lw_p41 : lw_okq (⟨"ChestnutLineModel", "readText", "(I)Z"⟩, 50) := ⟨⟨by decide +kernel, by decide +kernel⟩, List.mem_of_getElem? (i := 1062) (by decide +kernel), List.mem_of_getElem? (i := 1242) (by decide +kernel), List.mem_of_getElem? (i := 1243) (by decide +kernel)⟩
theorem lw_p42 : lw_okq (⟨"ChestnutLineModel", "token", "()V"⟩, 50) := ⟨⟨by decide +kernel, by decide +kernel⟩, List.mem_of_getElem? (i := 1062) (by decide +kernel), List.mem_of_getElem? (i := 1246) (by decide +kernel), List.mem_of_getElem? (i := 1247) (by decide +kernel)⟩
theorem lw_p43 : lw_okq (⟨"ChestnutLineModel", "see", "()I"⟩, 50) := ⟨⟨by decide +kernel, by decide +kernel⟩, List.mem_of_getElem? (i := 1062) (by decide +kernel), List.mem_of_getElem? (i := 1250) (by decide +kernel), List.mem_of_getElem? (i := 1251) (by decide +kernel)⟩
theorem lw_p44 : lw_okq (⟨"ChestnutLineModel", "textLines", "(I)Z"⟩, 50) := ⟨⟨by decide +kernel, by decide +kernel⟩, List.mem_of_getElem? (i := 1062) (by decide +kernel), List.mem_of_getElem? (i := 1254) (by decide +kernel), List.mem_of_getElem? (i := 1255) (by decide +kernel)⟩
theorem lw_p45 : lw_okq (⟨"ChestnutLineModel", "lineLine", "(JI)Z"⟩, 50) := ⟨⟨by decide +kernel, by decide +kernel⟩, List.mem_of_getElem? (i := 1062) (by decide +kernel), List.mem_of_getElem? (i := 1258) (by decide +kernel), List.mem_of_getElem? (i := 1259) (by decide +kernel)⟩
theorem lw_p46 : lw_okq (⟨"ChestnutLineModel", "fails", "()Z"⟩, 50) := ⟨⟨by decide +kernel, by decide +kernel⟩, List.mem_of_getElem? (i := 1062) (by decide +kernel), List.mem_of_getElem? (i := 1274) (by decide +kernel), List.mem_of_getElem? (i := 1275) (by decide +kernel)⟩
theorem lw_p47 : lw_okq (⟨"ChestnutLineModel", "full", "(III)V"⟩, 50) := ⟨⟨by decide +kernel, by decide +kernel⟩, List.mem_of_getElem? (i := 1062) (by decide +kernel), List.mem_of_getElem? (i := 1278) (by decide +kernel), List.mem_of_getElem? (i := 1279) (by decide +kernel)⟩
def lw_privs_3 : List (MethodName × Nat) := [(⟨"ChestnutLine", "lawOf", "(I)I"⟩, 11), (⟨"ChestnutLine", "bestChoice", "(III[III)I"⟩, 11), (⟨"ChestnutLine$Purse", "addPost", "(IIII)V"⟩, 2), (⟨"ChestnutLine$Sets", "keep", "(I)V"⟩, 11), (⟨"ChestnutLine$Sets", "fillDues", "(LChestnutLine$Line;LChestnutLine$Pairs;)Z"⟩, 11), (⟨"ChestnutLine$Sets", "allBits", "()I"⟩, 11), (⟨"ChestnutLine$Spread", "addStop", "(II)V"⟩, 3), (⟨"ChestnutLineModel", "four", "(I)V"⟩, 50), (⟨"ChestnutLineModel", "is", "(II)Z"⟩, 50), (⟨"ChestnutLineModel", "readText", "(I)Z"⟩, 50), (⟨"ChestnutLineModel", "token", "()V"⟩, 50), (⟨"ChestnutLineModel", "see", "()I"⟩, 50), (⟨"ChestnutLineModel", "textLines", "(I)Z"⟩, 50), (⟨"ChestnutLineModel", "lineLine", "(JI)Z"⟩, 50), (⟨"ChestnutLineModel", "fails", "()Z"⟩, 50), (⟨"ChestnutLineModel", "full", "(III)V"⟩, 50)]
theorem lw_r3 : ∀ q ∈ lw_privs_3, lw_okq q := List.forall_mem_cons.mpr ⟨lw_p32, List.forall_mem_cons.mpr ⟨lw_p33, List.forall_mem_cons.mpr ⟨lw_p34, List.forall_mem_cons.mpr ⟨lw_p35, List.forall_mem_cons.mpr ⟨lw_p36, List.forall_mem_cons.mpr ⟨lw_p37, List.forall_mem_cons.mpr ⟨lw_p38, List.forall_mem_cons.mpr ⟨lw_p39, List.forall_mem_cons.mpr ⟨lw_p40, List.forall_mem_cons.mpr ⟨lw_p41, List.forall_mem_cons.mpr ⟨lw_p42, List.forall_mem_cons.mpr ⟨lw_p43, List.forall_mem_cons.mpr ⟨lw_p44, List.forall_mem_cons.mpr ⟨lw_p45, List.forall_mem_cons.mpr ⟨lw_p46, List.forall_mem_cons.mpr ⟨lw_p47, fun _ h => absurd h List.not_mem_nil⟩⟩⟩⟩⟩⟩⟩⟩⟩⟩⟩⟩⟩⟩⟩⟩
theorem lw_p48 : lw_okq (⟨"ChestnutLineModel", "later", "(II)V"⟩, 50) := ⟨⟨by decide +kernel, by decide +kernel⟩, List.mem_of_getElem? (i := 1062) (by decide +kernel), List.mem_of_getElem? (i := 1282) (by decide +kernel), List.mem_of_getElem? (i := 1283) (by decide +kernel)⟩
theorem lw_p49 : lw_okq (⟨"ChestnutLineModel", "postLine", "()Z"⟩, 50) := ⟨⟨by decide +kernel, by decide +kernel⟩, List.mem_of_getElem? (i := 1062) (by decide +kernel), List.mem_of_getElem? (i := 1286) (by decide +kernel), List.mem_of_getElem? (i := 1287) (by decide +kernel)⟩
theorem lw_p50 : lw_okq (⟨"ChestnutLineModel", "take", "(III)Z"⟩, 50) := ⟨⟨by decide +kernel, by decide +kernel⟩, List.mem_of_getElem? (i := 1062) (by decide +kernel), List.mem_of_getElem? (i := 1290) (by decide +kernel), List.mem_of_getElem? (i := 1291) (by decide +kernel)⟩
theorem lw_p51 : lw_okq (⟨"ChestnutLineModel", "keep", "(IIIII)V"⟩, 50) := ⟨⟨by decide +kernel, by decide +kernel⟩, List.mem_of_getElem? (i := 1062) (by decide +kernel), List.mem_of_getElem? (i := 1294) (by decide +kernel), List.mem_of_getElem? (i := 1295) (by decide +kernel)⟩
theorem lw_p52 : lw_okq (⟨"ChestnutLineModel", "riderLine", "()Z"⟩, 50) := ⟨⟨by decide +kernel, by decide +kernel⟩, List.mem_of_getElem? (i := 1062) (by decide +kernel), List.mem_of_getElem? (i := 1298) (by decide +kernel), List.mem_of_getElem? (i := 1299) (by decide +kernel)⟩
theorem lw_p53 : lw_okq (⟨"ChestnutLineModel", "takePost", "(II)Z"⟩, 50) := ⟨⟨by decide +kernel, by decide +kernel⟩, List.mem_of_getElem? (i := 1062) (by decide +kernel), List.mem_of_getElem? (i := 1302) (by decide +kernel), List.mem_of_getElem? (i := 1303) (by decide +kernel)⟩
theorem lw_p54 : lw_okq (⟨"ChestnutLineModel", "ofPost", "(Z)Z"⟩, 50) := ⟨⟨by decide +kernel, by decide +kernel⟩, List.mem_of_getElem? (i := 1062) (by decide +kernel), List.mem_of_getElem? (i := 1309) (by decide +kernel), List.mem_of_getElem? (i := 1310) (by decide +kernel)⟩
theorem lw_p55 : lw_okq (⟨"ChestnutLineModel", "planLine", "(JI)Z"⟩, 50) := ⟨⟨by decide +kernel, by decide +kernel⟩, List.mem_of_getElem? (i := 1062) (by decide +kernel), List.mem_of_getElem? (i := 1313) (by decide +kernel), List.mem_of_getElem? (i := 1314) (by decide +kernel)⟩
theorem lw_p56 : lw_okq (⟨"ChestnutLineModel", "logLine", "(JI)Z"⟩, 50) := ⟨⟨by decide +kernel, by decide +kernel⟩, List.mem_of_getElem? (i := 1062) (by decide +kernel), List.mem_of_getElem? (i := 1318) (by decide +kernel), List.mem_of_getElem? (i := 1319) (by decide +kernel)⟩
theorem lw_p57 : lw_okq (⟨"ChestnutLineModel", "store", "([III)V"⟩, 50) := ⟨⟨by decide +kernel, by decide +kernel⟩, List.mem_of_getElem? (i := 1062) (by decide +kernel), List.mem_of_getElem? (i := 1323) (by decide +kernel), List.mem_of_getElem? (i := 1324) (by decide +kernel)⟩
theorem lw_p58 : lw_okq (⟨"ChestnutLineModel", "hand", "(II)Z"⟩, 50) := ⟨⟨by decide +kernel, by decide +kernel⟩, List.mem_of_getElem? (i := 1062) (by decide +kernel), List.mem_of_getElem? (i := 1335) (by decide +kernel), List.mem_of_getElem? (i := 1336) (by decide +kernel)⟩
theorem lw_p59 : lw_okq (⟨"ChestnutLineModel", "of", "(I)I"⟩, 50) := ⟨⟨by decide +kernel, by decide +kernel⟩, List.mem_of_getElem? (i := 1062) (by decide +kernel), List.mem_of_getElem? (i := 1339) (by decide +kernel), List.mem_of_getElem? (i := 1340) (by decide +kernel)⟩
theorem lw_p60 : lw_okq (⟨"ChestnutLineModel", "postOf", "(II)I"⟩, 50) := ⟨⟨by decide +kernel, by decide +kernel⟩, List.mem_of_getElem? (i := 1062) (by decide +kernel), List.mem_of_getElem? (i := 1343) (by decide +kernel), List.mem_of_getElem? (i := 1344) (by decide +kernel)⟩
theorem lw_p61 : lw_okq (⟨"ChestnutLineModel", "poundsIn", "(II)I"⟩, 50) := ⟨⟨by decide +kernel, by decide +kernel⟩, List.mem_of_getElem? (i := 1062) (by decide +kernel), List.mem_of_getElem? (i := 1347) (by decide +kernel), List.mem_of_getElem? (i := 1348) (by decide +kernel)⟩
theorem lw_p62 : lw_okq (⟨"ChestnutLineModel", "isPost", "(I)Z"⟩, 50) := ⟨⟨by decide +kernel, by decide +kernel⟩, List.mem_of_getElem? (i := 1062) (by decide +kernel), List.mem_of_getElem? (i := 1355) (by decide +kernel), List.mem_of_getElem? (i := 1356) (by decide +kernel)⟩
theorem lw_p63 : lw_okq (⟨"ChestnutLineModel", "isRider", "(I)Z"⟩, 50) := ⟨⟨by decide +kernel, by decide +kernel⟩, List.mem_of_getElem? (i := 1062) (by decide +kernel), List.mem_of_getElem? (i := 1363) (by decide +kernel), List.mem_of_getElem? (i := 1364) (by decide +kernel)⟩
def lw_privs_4 : List (MethodName × Nat) := [(⟨"ChestnutLineModel", "later", "(II)V"⟩, 50), (⟨"ChestnutLineModel", "postLine", "()Z"⟩, 50), (⟨"ChestnutLineModel", "take", "(III)Z"⟩, 50), (⟨"ChestnutLineModel", "keep", "(IIIII)V"⟩, 50), (⟨"ChestnutLineModel", "riderLine", "()Z"⟩, 50), (⟨"ChestnutLineModel", "takePost", "(II)Z"⟩, 50), (⟨"ChestnutLineModel", "ofPost", "(Z)Z"⟩, 50), (⟨"ChestnutLineModel", "planLine", "(JI)Z"⟩, 50), (⟨"ChestnutLineModel", "logLine", "(JI)Z"⟩, 50), (⟨"ChestnutLineModel", "store", "([III)V"⟩, 50), (⟨"ChestnutLineModel", "hand", "(II)Z"⟩, 50), (⟨"ChestnutLineModel", "of", "(I)I"⟩, 50), (⟨"ChestnutLineModel", "postOf", "(II)I"⟩, 50), (⟨"ChestnutLineModel", "poundsIn", "(II)I"⟩, 50), (⟨"ChestnutLineModel", "isPost", "(I)Z"⟩, 50), (⟨"ChestnutLineModel", "isRider", "(I)Z"⟩, 50)]
theorem lw_r4 : ∀ q ∈ lw_privs_4, lw_okq q := List.forall_mem_cons.mpr ⟨lw_p48, List.forall_mem_cons.mpr ⟨lw_p49, List.forall_mem_cons.mpr ⟨lw_p50, List.forall_mem_cons.mpr ⟨lw_p51, List.forall_mem_cons.mpr ⟨lw_p52, List.forall_mem_cons.mpr ⟨lw_p53, List.forall_mem_cons.mpr ⟨lw_p54, List.forall_mem_cons.mpr ⟨lw_p55, List.forall_mem_cons.mpr ⟨lw_p56, List.forall_mem_cons.mpr ⟨lw_p57, List.forall_mem_cons.mpr ⟨lw_p58, List.forall_mem_cons.mpr ⟨lw_p59, List.forall_mem_cons.mpr ⟨lw_p60, List.forall_mem_cons.mpr ⟨lw_p61, List.forall_mem_cons.mpr ⟨lw_p62, List.forall_mem_cons.mpr ⟨lw_p63, fun _ h => absurd h List.not_mem_nil⟩⟩⟩⟩⟩⟩⟩⟩⟩⟩⟩⟩⟩⟩⟩⟩
theorem lw_p64 : lw_okq (⟨"ChestnutLineModel", "riderOf", "(II)I"⟩, 50) := ⟨⟨by decide +kernel, by decide +kernel⟩, List.mem_of_getElem? (i := 1062) (by decide +kernel), List.mem_of_getElem? (i := 1367) (by decide +kernel), List.mem_of_getElem? (i := 1368) (by decide +kernel)⟩
theorem lw_p65 : lw_okq (⟨"ChestnutLineModel", "layRun", "(IIII)Z"⟩, 50) := ⟨⟨by decide +kernel, by decide +kernel⟩, List.mem_of_getElem? (i := 1062) (by decide +kernel), List.mem_of_getElem? (i := 1375) (by decide +kernel), List.mem_of_getElem? (i := 1376) (by decide +kernel)⟩
theorem lw_p66 : lw_okq (⟨"ChestnutLineModel", "everyone", "()I"⟩, 50) := ⟨⟨by decide +kernel, by decide +kernel⟩, List.mem_of_getElem? (i := 1062) (by decide +kernel), List.mem_of_getElem? (i := 1379) (by decide +kernel), List.mem_of_getElem? (i := 1380) (by decide +kernel)⟩
theorem lw_p67 : lw_okq (⟨"ChestnutLineModel", "go", "(III)V"⟩, 50) := ⟨⟨by decide +kernel, by decide +kernel⟩, List.mem_of_getElem? (i := 1062) (by decide +kernel), List.mem_of_getElem? (i := 1383) (by decide +kernel), List.mem_of_getElem? (i := 1384) (by decide +kernel)⟩
theorem lw_p68 : lw_okq (⟨"ChestnutLineModel", "begin", "()V"⟩, 50) := ⟨⟨by decide +kernel, by decide +kernel⟩, List.mem_of_getElem? (i := 1062) (by decide +kernel), List.mem_of_getElem? (i := 1387) (by decide +kernel), List.mem_of_getElem? (i := 1388) (by decide +kernel)⟩
theorem lw_p69 : lw_okq (⟨"ChestnutLineModel", "pullerAt", "(III)I"⟩, 50) := ⟨⟨by decide +kernel, by decide +kernel⟩, List.mem_of_getElem? (i := 1062) (by decide +kernel), List.mem_of_getElem? (i := 1391) (by decide +kernel), List.mem_of_getElem? (i := 1392) (by decide +kernel)⟩
theorem lw_p70 : lw_okq (⟨"ChestnutLineModel", "wants", "(II)Z"⟩, 50) := ⟨⟨by decide +kernel, by decide +kernel⟩, List.mem_of_getElem? (i := 1062) (by decide +kernel), List.mem_of_getElem? (i := 1398) (by decide +kernel), List.mem_of_getElem? (i := 1399) (by decide +kernel)⟩
theorem lw_p71 : lw_okq (⟨"ChestnutLineModel", "isOn", "(II)Z"⟩, 50) := ⟨⟨by decide +kernel, by decide +kernel⟩, List.mem_of_getElem? (i := 1062) (by decide +kernel), List.mem_of_getElem? (i := 1402) (by decide +kernel), List.mem_of_getElem? (i := 1403) (by decide +kernel)⟩
theorem lw_p72 : lw_okq (⟨"ChestnutLineModel", "draw", "(I)I"⟩, 50) := ⟨⟨by decide +kernel, by decide +kernel⟩, List.mem_of_getElem? (i := 1062) (by decide +kernel), List.mem_of_getElem? (i := 1406) (by decide +kernel), List.mem_of_getElem? (i := 1407) (by decide +kernel)⟩
theorem lw_p73 : lw_okq (⟨"ChestnutLineModel", "pullsAt", "(II)V"⟩, 50) := ⟨⟨by decide +kernel, by decide +kernel⟩, List.mem_of_getElem? (i := 1062) (by decide +kernel), List.mem_of_getElem? (i := 1411) (by decide +kernel), List.mem_of_getElem? (i := 1412) (by decide +kernel)⟩
theorem lw_p74 : lw_okq (⟨"ChestnutLineModel", "timesBy", "()V"⟩, 50) := ⟨⟨by decide +kernel, by decide +kernel⟩, List.mem_of_getElem? (i := 1062) (by decide +kernel), List.mem_of_getElem? (i := 1415) (by decide +kernel), List.mem_of_getElem? (i := 1416) (by decide +kernel)⟩
theorem lw_p75 : lw_okq (⟨"ChestnutLineModel", "gathered", "()I"⟩, 50) := ⟨⟨by decide +kernel, by decide +kernel⟩, List.mem_of_getElem? (i := 1062) (by decide +kernel), List.mem_of_getElem? (i := 1419) (by decide +kernel), List.mem_of_getElem? (i := 1420) (by decide +kernel)⟩
theorem lw_p76 : lw_okq (⟨"ChestnutLineModel", "stopsOf", "()I"⟩, 50) := ⟨⟨by decide +kernel, by decide +kernel⟩, List.mem_of_getElem? (i := 1062) (by decide +kernel), List.mem_of_getElem? (i := 1423) (by decide +kernel), List.mem_of_getElem? (i := 1424) (by decide +kernel)⟩
theorem lw_p77 : lw_okq (⟨"ChestnutLineModel", "bearing", "()I"⟩, 50) := ⟨⟨by decide +kernel, by decide +kernel⟩, List.mem_of_getElem? (i := 1062) (by decide +kernel), List.mem_of_getElem? (i := 1442) (by decide +kernel), List.mem_of_getElem? (i := 1443) (by decide +kernel)⟩
theorem lw_p78 : lw_okq (⟨"ChestnutLineModel", "poundsOf", "(I)I"⟩, 50) := ⟨⟨by decide +kernel, by decide +kernel⟩, List.mem_of_getElem? (i := 1062) (by decide +kernel), List.mem_of_getElem? (i := 1446) (by decide +kernel), List.mem_of_getElem? (i := 1447) (by decide +kernel)⟩
theorem lw_p79 : lw_okq (⟨"ChestnutLineModel", "costsOf", "(I)I"⟩, 50) := ⟨⟨by decide +kernel, by decide +kernel⟩, List.mem_of_getElem? (i := 1062) (by decide +kernel), List.mem_of_getElem? (i := 1450) (by decide +kernel), List.mem_of_getElem? (i := 1451) (by decide +kernel)⟩
def lw_privs_5 : List (MethodName × Nat) := [(⟨"ChestnutLineModel", "riderOf", "(II)I"⟩, 50), (⟨"ChestnutLineModel", "layRun", "(IIII)Z"⟩, 50), (⟨"ChestnutLineModel", "everyone", "()I"⟩, 50), (⟨"ChestnutLineModel", "go", "(III)V"⟩, 50), (⟨"ChestnutLineModel", "begin", "()V"⟩, 50), (⟨"ChestnutLineModel", "pullerAt", "(III)I"⟩, 50), (⟨"ChestnutLineModel", "wants", "(II)Z"⟩, 50), (⟨"ChestnutLineModel", "isOn", "(II)Z"⟩, 50), (⟨"ChestnutLineModel", "draw", "(I)I"⟩, 50), (⟨"ChestnutLineModel", "pullsAt", "(II)V"⟩, 50), (⟨"ChestnutLineModel", "timesBy", "()V"⟩, 50), (⟨"ChestnutLineModel", "gathered", "()I"⟩, 50), (⟨"ChestnutLineModel", "stopsOf", "()I"⟩, 50), (⟨"ChestnutLineModel", "bearing", "()I"⟩, 50), (⟨"ChestnutLineModel", "poundsOf", "(I)I"⟩, 50), (⟨"ChestnutLineModel", "costsOf", "(I)I"⟩, 50)]
theorem lw_r5 : ∀ q ∈ lw_privs_5, lw_okq q := List.forall_mem_cons.mpr ⟨lw_p64, List.forall_mem_cons.mpr ⟨lw_p65, List.forall_mem_cons.mpr ⟨lw_p66, List.forall_mem_cons.mpr ⟨lw_p67, List.forall_mem_cons.mpr ⟨lw_p68, List.forall_mem_cons.mpr ⟨lw_p69, List.forall_mem_cons.mpr ⟨lw_p70, List.forall_mem_cons.mpr ⟨lw_p71, List.forall_mem_cons.mpr ⟨lw_p72, List.forall_mem_cons.mpr ⟨lw_p73, List.forall_mem_cons.mpr ⟨lw_p74, List.forall_mem_cons.mpr ⟨lw_p75, List.forall_mem_cons.mpr ⟨lw_p76, List.forall_mem_cons.mpr ⟨lw_p77, List.forall_mem_cons.mpr ⟨lw_p78, List.forall_mem_cons.mpr ⟨lw_p79, fun _ h => absurd h List.not_mem_nil⟩⟩⟩⟩⟩⟩⟩⟩⟩⟩⟩⟩⟩⟩⟩⟩
theorem lw_p80 : lw_okq (⟨"ChestnutLineModel", "isRest", "(I)Z"⟩, 50) := ⟨⟨by decide +kernel, by decide +kernel⟩, List.mem_of_getElem? (i := 1062) (by decide +kernel), List.mem_of_getElem? (i := 1458) (by decide +kernel), List.mem_of_getElem? (i := 1459) (by decide +kernel)⟩
theorem lw_p81 : lw_okq (⟨"ChestnutLineModel", "gainOf", "(II)I"⟩, 50) := ⟨⟨by decide +kernel, by decide +kernel⟩, List.mem_of_getElem? (i := 1062) (by decide +kernel), List.mem_of_getElem? (i := 1462) (by decide +kernel), List.mem_of_getElem? (i := 1463) (by decide +kernel)⟩
theorem lw_p82 : lw_okq (⟨"ChestnutLineModel", "gainNow", "(I)I"⟩, 50) := ⟨⟨by decide +kernel, by decide +kernel⟩, List.mem_of_getElem? (i := 1062) (by decide +kernel), List.mem_of_getElem? (i := 1466) (by decide +kernel), List.mem_of_getElem? (i := 1467) (by decide +kernel)⟩
theorem lw_p83 : lw_okq (⟨"ChestnutLineModel", "findOdds", "(I)V"⟩, 50) := ⟨⟨by decide +kernel, by decide +kernel⟩, List.mem_of_getElem? (i := 1062) (by decide +kernel), List.mem_of_getElem? (i := 1487) (by decide +kernel), List.mem_of_getElem? (i := 1488) (by decide +kernel)⟩
theorem lw_p84 : lw_okq (⟨"ChestnutLineModel", "enough", "(I)I"⟩, 50) := ⟨⟨by decide +kernel, by decide +kernel⟩, List.mem_of_getElem? (i := 1062) (by decide +kernel), List.mem_of_getElem? (i := 1495) (by decide +kernel), List.mem_of_getElem? (i := 1496) (by decide +kernel)⟩
theorem lw_p85 : lw_okq (⟨"ChestnutLineModel", "meetOther", "()V"⟩, 50) := ⟨⟨by decide +kernel, by decide +kernel⟩, List.mem_of_getElem? (i := 1062) (by decide +kernel), List.mem_of_getElem? (i := 1508) (by decide +kernel), List.mem_of_getElem? (i := 1509) (by decide +kernel)⟩
theorem lw_p86 : lw_okq (⟨"ChestnutLineModel", "waitAt", "(II)I"⟩, 50) := ⟨⟨by decide +kernel, by decide +kernel⟩, List.mem_of_getElem? (i := 1062) (by decide +kernel), List.mem_of_getElem? (i := 1512) (by decide +kernel), List.mem_of_getElem? (i := 1513) (by decide +kernel)⟩
theorem lw_p87 : lw_okq (⟨"ChestnutLineModel", "nextStation", "(I)I"⟩, 50) := ⟨⟨by decide +kernel, by decide +kernel⟩, List.mem_of_getElem? (i := 1062) (by decide +kernel), List.mem_of_getElem? (i := 1516) (by decide +kernel), List.mem_of_getElem? (i := 1517) (by decide +kernel)⟩
theorem lw_p88 : lw_okq (⟨"ChestnutLineModel", "hasPlan", "(I)Z"⟩, 50) := ⟨⟨by decide +kernel, by decide +kernel⟩, List.mem_of_getElem? (i := 1062) (by decide +kernel), List.mem_of_getElem? (i := 1524) (by decide +kernel), List.mem_of_getElem? (i := 1525) (by decide +kernel)⟩
theorem lw_p89 : lw_okq (⟨"ChestnutLineModel", "pulls", "()I"⟩, 50) := ⟨⟨by decide +kernel, by decide +kernel⟩, List.mem_of_getElem? (i := 1062) (by decide +kernel), List.mem_of_getElem? (i := 1528) (by decide +kernel), List.mem_of_getElem? (i := 1529) (by decide +kernel)⟩
theorem lw_p90 : lw_okq (⟨"ChestnutLineModel", "pullOf", "(II)I"⟩, 50) := ⟨⟨by decide +kernel, by decide +kernel⟩, List.mem_of_getElem? (i := 1062) (by decide +kernel), List.mem_of_getElem? (i := 1532) (by decide +kernel), List.mem_of_getElem? (i := 1533) (by decide +kernel)⟩
theorem lw_p91 : lw_okq (⟨"ChestnutLineModel", "doPlan", "()I"⟩, 50) := ⟨⟨by decide +kernel, by decide +kernel⟩, List.mem_of_getElem? (i := 1062) (by decide +kernel), List.mem_of_getElem? (i := 1540) (by decide +kernel), List.mem_of_getElem? (i := 1541) (by decide +kernel)⟩
theorem lw_p92 : lw_okq (⟨"ChestnutLineModel", "canPull", "(I)Z"⟩, 50) := ⟨⟨by decide +kernel, by decide +kernel⟩, List.mem_of_getElem? (i := 1062) (by decide +kernel), List.mem_of_getElem? (i := 1544) (by decide +kernel), List.mem_of_getElem? (i := 1545) (by decide +kernel)⟩
theorem lw_p93 : lw_okq (⟨"ChestnutLineModel", "isCalm", "(II)Z"⟩, 50) := ⟨⟨by decide +kernel, by decide +kernel⟩, List.mem_of_getElem? (i := 1062) (by decide +kernel), List.mem_of_getElem? (i := 1564) (by decide +kernel), List.mem_of_getElem? (i := 1565) (by decide +kernel)⟩
theorem lw_p94 : lw_okq (⟨"ChestnutLineModel", "spare", "(II)I"⟩, 50) := ⟨⟨by decide +kernel, by decide +kernel⟩, List.mem_of_getElem? (i := 1062) (by decide +kernel), List.mem_of_getElem? (i := 1572) (by decide +kernel), List.mem_of_getElem? (i := 1573) (by decide +kernel)⟩
theorem lw_p95 : lw_okq (⟨"ChestnutLineModel", "richest", "()I"⟩, 50) := ⟨⟨by decide +kernel, by decide +kernel⟩, List.mem_of_getElem? (i := 1062) (by decide +kernel), List.mem_of_getElem? (i := 1576) (by decide +kernel), List.mem_of_getElem? (i := 1577) (by decide +kernel)⟩
def lw_privs_6 : List (MethodName × Nat) := [(⟨"ChestnutLineModel", "isRest", "(I)Z"⟩, 50), (⟨"ChestnutLineModel", "gainOf", "(II)I"⟩, 50), (⟨"ChestnutLineModel", "gainNow", "(I)I"⟩, 50), (⟨"ChestnutLineModel", "findOdds", "(I)V"⟩, 50), (⟨"ChestnutLineModel", "enough", "(I)I"⟩, 50), (⟨"ChestnutLineModel", "meetOther", "()V"⟩, 50), (⟨"ChestnutLineModel", "waitAt", "(II)I"⟩, 50), (⟨"ChestnutLineModel", "nextStation", "(I)I"⟩, 50), (⟨"ChestnutLineModel", "hasPlan", "(I)Z"⟩, 50), (⟨"ChestnutLineModel", "pulls", "()I"⟩, 50), (⟨"ChestnutLineModel", "pullOf", "(II)I"⟩, 50), (⟨"ChestnutLineModel", "doPlan", "()I"⟩, 50), (⟨"ChestnutLineModel", "canPull", "(I)Z"⟩, 50), (⟨"ChestnutLineModel", "isCalm", "(II)Z"⟩, 50), (⟨"ChestnutLineModel", "spare", "(II)I"⟩, 50), (⟨"ChestnutLineModel", "richest", "()I"⟩, 50)]
theorem lw_r6 : ∀ q ∈ lw_privs_6, lw_okq q := List.forall_mem_cons.mpr ⟨lw_p80, List.forall_mem_cons.mpr ⟨lw_p81, List.forall_mem_cons.mpr ⟨lw_p82, List.forall_mem_cons.mpr ⟨lw_p83, List.forall_mem_cons.mpr ⟨lw_p84, List.forall_mem_cons.mpr ⟨lw_p85, List.forall_mem_cons.mpr ⟨lw_p86, List.forall_mem_cons.mpr ⟨lw_p87, List.forall_mem_cons.mpr ⟨lw_p88, List.forall_mem_cons.mpr ⟨lw_p89, List.forall_mem_cons.mpr ⟨lw_p90, List.forall_mem_cons.mpr ⟨lw_p91, List.forall_mem_cons.mpr ⟨lw_p92, List.forall_mem_cons.mpr ⟨lw_p93, List.forall_mem_cons.mpr ⟨lw_p94, List.forall_mem_cons.mpr ⟨lw_p95, fun _ h => absurd h List.not_mem_nil⟩⟩⟩⟩⟩⟩⟩⟩⟩⟩⟩⟩⟩⟩⟩⟩
theorem lw_p96 : lw_okq (⟨"ChestnutLineModel", "hasLog", "(I)Z"⟩, 50) := ⟨⟨by decide +kernel, by decide +kernel⟩, List.mem_of_getElem? (i := 1062) (by decide +kernel), List.mem_of_getElem? (i := 1588) (by decide +kernel), List.mem_of_getElem? (i := 1589) (by decide +kernel)⟩
theorem lw_p97 : lw_okq (⟨"ChestnutLineModel", "seenOf", "(II)I"⟩, 50) := ⟨⟨by decide +kernel, by decide +kernel⟩, List.mem_of_getElem? (i := 1062) (by decide +kernel), List.mem_of_getElem? (i := 1592) (by decide +kernel), List.mem_of_getElem? (i := 1593) (by decide +kernel)⟩
theorem lw_p98 : lw_okq (⟨"ChestnutLineModel", "holds", "(I)Z"⟩, 50) := ⟨⟨by decide +kernel, by decide +kernel⟩, List.mem_of_getElem? (i := 1062) (by decide +kernel), List.mem_of_getElem? (i := 1600) (by decide +kernel), List.mem_of_getElem? (i := 1601) (by decide +kernel)⟩
theorem lw_p99 : lw_okq (⟨"ChestnutLineModel", "allWaits", "()I"⟩, 50) := ⟨⟨by decide +kernel, by decide +kernel⟩, List.mem_of_getElem? (i := 1062) (by decide +kernel), List.mem_of_getElem? (i := 1608) (by decide +kernel), List.mem_of_getElem? (i := 1609) (by decide +kernel)⟩
theorem lw_p100 : lw_okq (⟨"ChestnutLineModel", "lawFor", "(II)I"⟩, 50) := ⟨⟨by decide +kernel, by decide +kernel⟩, List.mem_of_getElem? (i := 1062) (by decide +kernel), List.mem_of_getElem? (i := 1616) (by decide +kernel), List.mem_of_getElem? (i := 1617) (by decide +kernel)⟩
theorem lw_p101 : lw_okq (⟨"ChestnutLineModel", "copyAll", "(II)V"⟩, 50) := ⟨⟨by decide +kernel, by decide +kernel⟩, List.mem_of_getElem? (i := 1062) (by decide +kernel), List.mem_of_getElem? (i := 1636) (by decide +kernel), List.mem_of_getElem? (i := 1637) (by decide +kernel)⟩
def lw_privs_7 : List (MethodName × Nat) := [(⟨"ChestnutLineModel", "hasLog", "(I)Z"⟩, 50), (⟨"ChestnutLineModel", "seenOf", "(II)I"⟩, 50), (⟨"ChestnutLineModel", "holds", "(I)Z"⟩, 50), (⟨"ChestnutLineModel", "allWaits", "()I"⟩, 50), (⟨"ChestnutLineModel", "lawFor", "(II)I"⟩, 50), (⟨"ChestnutLineModel", "copyAll", "(II)V"⟩, 50)]
theorem lw_r7 : ∀ q ∈ lw_privs_7, lw_okq q := List.forall_mem_cons.mpr ⟨lw_p96, List.forall_mem_cons.mpr ⟨lw_p97, List.forall_mem_cons.mpr ⟨lw_p98, List.forall_mem_cons.mpr ⟨lw_p99, List.forall_mem_cons.mpr ⟨lw_p100, List.forall_mem_cons.mpr ⟨lw_p101, fun _ h => absurd h List.not_mem_nil⟩⟩⟩⟩⟩⟩
def lw_privs : List (MethodName × Nat) := lw_privs_1 ++ (lw_privs_2 ++ (lw_privs_3 ++ (lw_privs_4 ++ (lw_privs_5 ++ (lw_privs_6 ++ (lw_privs_7))))))
def lw_tbl : List Cond := k2_sels lw_privs ++ tables_1
theorem lw_privs_ok : ∀ q ∈ lw_privs, lw_okq q := by
  show ∀ q ∈ lw_privs_1 ++ (lw_privs_2 ++ (lw_privs_3 ++ (lw_privs_4 ++ (lw_privs_5 ++ (lw_privs_6 ++ (lw_privs_7)))))), lw_okq q
  exact List.forall_mem_append.mpr ⟨lw_r1, List.forall_mem_append.mpr ⟨lw_r2, List.forall_mem_append.mpr ⟨lw_r3, List.forall_mem_append.mpr ⟨lw_r4, List.forall_mem_append.mpr ⟨lw_r5, List.forall_mem_append.mpr ⟨lw_r6, lw_r7⟩⟩⟩⟩⟩⟩
-- ===== end of PART A; then your names; then what follows =====
end
section
/-! ===== BEGIN words of one list among another's, by their places ===== -/
theorem goodIn_r {big : List Cond} (ws : List Cond) (ps : List Nat) (hp : ws = ps.filterMap (fun i => big[i]?)) (h : ws.all goodWord = true) : GoodIn big ws := by
  intro w hw
  have h1 := List.all_eq_true.mp h w hw
  rw [hp] at hw
  obtain ⟨i, -, hi⟩ := List.mem_filterMap.mp hw
  have hm : w ∈ big := by first | exact List.mem_of_getElem? hi | exact List.getElem?_mem hi
  exact ⟨hm, good_of_word h1⟩
theorem goodIn_app {big a b : List Cond} (ha : GoodIn big a) (hb : GoodIn big b) : GoodIn big (a ++ b) := fun w h => (List.mem_append.mp h).elim (ha w) (hb w)
theorem goodIn_ca {big a b : List Cond} {c : Cond} (ha : GoodIn big (c :: a)) (hb : GoodIn big b) : GoodIn big (c :: (a ++ b)) := fun w h => (List.mem_cons.mp h).elim (fun e => ha w (List.mem_cons.mpr (Or.inl e))) (fun h => (List.mem_append.mp h).elim (fun h => ha w (List.mem_cons.mpr (Or.inr h))) (hb w))
theorem goodIn_sub {big ws : List Cond} (hm : ∀ w ∈ ws, w ∈ big) (h : ws.all goodWord = true) : GoodIn big ws := fun w hw => ⟨hm w hw, good_of_word (List.all_eq_true.mp h w hw)⟩
/-! ===== END ===== -/

/-! ===== BEGIN printed: names, fields, word lists, decode rows ===== -/
def RX0 : String := "ChestnutLine$Line"
def TX0 : u_T := fun k => match k with
  | 0 => ("ChestnutLine$Line", "minutes", "[I", true)
  | 1 => ("ChestnutLine$Line", "grade", "[I", true)
  | 2 => ("ChestnutLine$Line", "pounds", "[I", true)
  | 3 => ("ChestnutLine$Line", "odds", "[I", true)
  | 4 => ("ChestnutLine$Line", "printed", "[I", true)
  | 5 => ("ChestnutLine$Line", "on", "[I", true)
  | 6 => ("ChestnutLine$Line", "off", "[I", true)
  | 7 => ("ChestnutLine$Line", "pocket", "[I", true)
  | 8 => ("ChestnutLine$Line", "wish", "[I", true)
  | 9 => ("ChestnutLine$Line", "patience", "[I", true)
  | 10 => ("ChestnutLine$Line", "fare", "[I", true)
  | 11 => ("ChestnutLine$Line", "posts", "I", false)
  | 12 => ("ChestnutLine$Line", "riders", "I", false)
  | 13 => ("ChestnutLine$Line", "halt", "I", false)
  | 14 => ("ChestnutLine$Line", "eat", "I", false)
  | 15 => ("ChestnutLine$Line", "grace", "I", false)
  | 16 => ("ChestnutLine$Line", "bishop", "I", false)
  | _ => ("ChestnutLine$Line", "other", "I", false)
def tyX0 : Nat → FieldType := fun k => match k with
  | 0 => .array .int
  | 1 => .array .int
  | 2 => .array .int
  | 3 => .array .int
  | 4 => .array .int
  | 5 => .array .int
  | 6 => .array .int
  | 7 => .array .int
  | 8 => .array .int
  | 9 => .array .int
  | 10 => .array .int
  | 11 => .int
  | 12 => .int
  | 13 => .int
  | 14 => .int
  | 15 => .int
  | 16 => .int
  | _ => .int
abbrev wsX00 : List Cond := u_ws RX0 TX0 18
theorem nmX0 : ∀ a, a < 18 → ∀ b, b < 18 → a ≠ b → (TX0 a).2.1 ≠ (TX0 b).2.1 := by decide +kernel
theorem tyX0_ok : ∀ k, k < 18 → parseFieldDescriptor (TX0 k).2.2.1 = some (tyX0 k) := by decide +kernel
abbrev cX0_init : ByteArray := prog_2_method_1_code
def yX0_init : MethodName := ⟨RX0, "<init>", "()V"⟩
abbrev cX0_clear : ByteArray := prog_2_method_2_code
def yX0_clear : MethodName := ⟨RX0, "clear", "()V"⟩
abbrev cX0_copyFrom : ByteArray := prog_2_method_3_code
def yX0_copyFrom : MethodName := ⟨RX0, "copyFrom", "(LChestnutLine$Line;)V"⟩
abbrev cX0_hasPost : ByteArray := prog_2_method_4_code
def yX0_hasPost : MethodName := ⟨RX0, "hasPost", "(I)Z"⟩
abbrev cX0_hasRider : ByteArray := prog_2_method_5_code
def yX0_hasRider : MethodName := ⟨RX0, "hasRider", "(I)Z"⟩
abbrev cX0_isStation : ByteArray := prog_2_method_6_code
def yX0_isStation : MethodName := ⟨RX0, "isStation", "(I)Z"⟩
abbrev cX0_carries : ByteArray := prog_2_method_7_code
def yX0_carries : MethodName := ⟨RX0, "carries", "(II)Z"⟩
abbrev cX0_riderSets : ByteArray := prog_2_method_8_code
def yX0_riderSets : MethodName := ⟨RX0, "riderSets", "()I"⟩
abbrev cX0_stations : ByteArray := prog_2_method_9_code
def yX0_stations : MethodName := ⟨RX0, "stations", "()I"⟩
abbrev cX0_stationBehind : ByteArray := prog_2_method_10_code
def yX0_stationBehind : MethodName := ⟨RX0, "stationBehind", "(I)I"⟩
abbrev cX0_cost : ByteArray := prog_2_method_11_code
def yX0_cost : MethodName := ⟨RX0, "cost", "(I)I"⟩
abbrev cX0_poundsIn : ByteArray := prog_2_method_12_code
def yX0_poundsIn : MethodName := ⟨RX0, "poundsIn", "(II)I"⟩
abbrev cX0_minutesTo : ByteArray := prog_2_method_13_code
def yX0_minutesTo : MethodName := ⟨RX0, "minutesTo", "(I)I"⟩
abbrev cX0_costsBefore : ByteArray := prog_2_method_14_code
def yX0_costsBefore : MethodName := ⟨RX0, "costsBefore", "(II)I"⟩
def RX1 : String := "ChestnutLine$Meeting"
def TX1 : u_T := fun k => match k with
  | 0 => ("ChestnutLine$Meeting", "arrivals", "[I", true)
  | 1 => ("ChestnutLine$Meeting", "waits", "[I", true)
  | 2 => ("ChestnutLine$Meeting", "allWaits", "I", false)
  | _ => ("ChestnutLine$Meeting", "met", "I", false)
def tyX1 : Nat → FieldType := fun k => match k with
  | 0 => .array .int
  | 1 => .array .int
  | 2 => .int
  | _ => .int
abbrev wsX10 : List Cond := u_ws RX1 TX1 4
theorem nmX1 : ∀ a, a < 4 → ∀ b, b < 4 → a ≠ b → (TX1 a).2.1 ≠ (TX1 b).2.1 := by decide +kernel
theorem tyX1_ok : ∀ k, k < 4 → parseFieldDescriptor (TX1 k).2.2.1 = some (tyX1 k) := by decide +kernel
abbrev cX1_init : ByteArray := prog_3_method_1_code
def yX1_init : MethodName := ⟨RX1, "<init>", "()V"⟩
abbrev cX1_follow : ByteArray := prog_3_method_2_code
def yX1_follow : MethodName := ⟨RX1, "follow", "(LChestnutLine$Line;I)V"⟩
abbrev cX1_waitAt : ByteArray := prog_3_method_3_code
def yX1_waitAt : MethodName := ⟨RX1, "waitAt", "(LChestnutLine$Line;III)I"⟩
def RX2 : String := "ChestnutLine$Pairs"
def TX2 : u_T := fun k => match k with
  | 0 => ("ChestnutLine$Pairs", "first", "[I", true)
  | 1 => ("ChestnutLine$Pairs", "second", "[I", true)
  | _ => ("ChestnutLine$Pairs", "size", "I", false)
def tyX2 : Nat → FieldType := fun k => match k with
  | 0 => .array .int
  | 1 => .array .int
  | _ => .int
abbrev wsX20 : List Cond := u_ws RX2 TX2 3
theorem nmX2 : ∀ a, a < 3 → ∀ b, b < 3 → a ≠ b → (TX2 a).2.1 ≠ (TX2 b).2.1 := by decide +kernel
theorem tyX2_ok : ∀ k, k < 3 → parseFieldDescriptor (TX2 k).2.2.1 = some (tyX2 k) := by decide +kernel
abbrev cX2_init : ByteArray := prog_4_method_1_code
def yX2_init : MethodName := ⟨RX2, "<init>", "()V"⟩
abbrev cX2_copyFrom : ByteArray := prog_4_method_2_code
def yX2_copyFrom : MethodName := ⟨RX2, "copyFrom", "(LChestnutLine$Pairs;)V"⟩
abbrev cX2_add : ByteArray := prog_4_method_3_code
def yX2_add : MethodName := ⟨RX2, "add", "(II)V"⟩
def RX3 : String := "ChestnutLine$Purse"
def TX3 : u_T := fun k => match k with
  | 0 => ("ChestnutLine$Purse", "pounds", "[I", true)
  | _ => ("ChestnutLine$Purse", "posts", "[I", true)
def tyX3 : Nat → FieldType := fun k => match k with
  | 0 => .array .int
  | _ => .array .int
abbrev wsX30 : List Cond := u_ws RX3 TX3 2
theorem nmX3 : ∀ a, a < 2 → ∀ b, b < 2 → a ≠ b → (TX3 a).2.1 ≠ (TX3 b).2.1 := by decide +kernel
theorem tyX3_ok : ∀ k, k < 2 → parseFieldDescriptor (TX3 k).2.2.1 = some (tyX3 k) := by decide +kernel
abbrev cX3_init : ByteArray := prog_5_method_1_code
def yX3_init : MethodName := ⟨RX3, "<init>", "()V"⟩
abbrev cX3_fill : ByteArray := prog_5_method_2_code
def yX3_fill : MethodName := ⟨RX3, "fill", "(LChestnutLine$Line;II)V"⟩
abbrev cX3_addPost : ByteArray := prog_5_method_3_code
def yX3_addPost : MethodName := ⟨RX3, "addPost", "(IIII)V"⟩
abbrev cX3_bestCosts : ByteArray := prog_5_method_4_code
def yX3_bestCosts : MethodName := ⟨RX3, "bestCosts", "(I)I"⟩
def RX4 : String := "ChestnutLine$Reader"
def TX4 : u_T := fun k => match k with
  | 0 => ("ChestnutLine$Reader", "line", "LChestnutLine$Line;", true)
  | 1 => ("ChestnutLine$Reader", "pairs", "LChestnutLine$Pairs;", true)
  | 2 => ("ChestnutLine$Reader", "numbers", "[I", true)
  | 3 => ("ChestnutLine$Reader", "places", "[I", true)
  | 4 => ("ChestnutLine$Reader", "tape", "[B", true)
  | 5 => ("ChestnutLine$Reader", "length", "I", false)
  | 6 => ("ChestnutLine$Reader", "at", "I", false)
  | 7 => ("ChestnutLine$Reader", "kind", "I", false)
  | 8 => ("ChestnutLine$Reader", "start", "I", false)
  | 9 => ("ChestnutLine$Reader", "value", "I", false)
  | 10 => ("ChestnutLine$Reader", "highestPost", "I", false)
  | 11 => ("ChestnutLine$Reader", "fault", "I", false)
  | _ => ("ChestnutLine$Reader", "place", "I", false)
def tyX4 : Nat → FieldType := fun k => match k with
  | 0 => .object "ChestnutLine$Line"
  | 1 => .object "ChestnutLine$Pairs"
  | 2 => .array .int
  | 3 => .array .int
  | 4 => .array .byte
  | 5 => .int
  | 6 => .int
  | 7 => .int
  | 8 => .int
  | 9 => .int
  | 10 => .int
  | 11 => .int
  | _ => .int
abbrev wsX40 : List Cond := u_ws RX4 TX4 13
theorem nmX4 : ∀ a, a < 13 → ∀ b, b < 13 → a ≠ b → (TX4 a).2.1 ≠ (TX4 b).2.1 := by decide +kernel
theorem tyX4_ok : ∀ k, k < 13 → parseFieldDescriptor (TX4 k).2.2.1 = some (tyX4 k) := by decide +kernel
abbrev cX4_init : ByteArray := prog_6_method_1_code
def yX4_init : MethodName := ⟨RX4, "<init>", "()V"⟩
abbrev cX4_readTape : ByteArray := prog_6_method_2_code
def yX4_readTape : MethodName := ⟨RX4, "readTape", "([BII)V"⟩
abbrev cX4_readRows : ByteArray := prog_6_method_3_code
def yX4_readRows : MethodName := ⟨RX4, "readRows", "(I)V"⟩
abbrev cX4_nextToken : ByteArray := prog_6_method_4_code
def yX4_nextToken : MethodName := ⟨RX4, "nextToken", "()V"⟩
abbrev cX4_takeDigits : ByteArray := prog_6_method_5_code
def yX4_takeDigits : MethodName := ⟨RX4, "takeDigits", "()V"⟩
abbrev cX4_isLetter : ByteArray := prog_6_method_6_code
def yX4_isLetter : MethodName := ⟨RX4, "isLetter", "(I)Z"⟩
abbrev cX4_isDigit : ByteArray := prog_6_method_7_code
def yX4_isDigit : MethodName := ⟨RX4, "isDigit", "(I)Z"⟩
abbrev cX4_wordOf : ByteArray := prog_6_method_8_code
def yX4_wordOf : MethodName := ⟨RX4, "wordOf", "(I)I"⟩
abbrev cX4_lineWord : ByteArray := prog_6_method_9_code
def yX4_lineWord : MethodName := ⟨RX4, "lineWord", "()I"⟩
abbrev cX4_isWord : ByteArray := prog_6_method_10_code
def yX4_isWord : MethodName := ⟨RX4, "isWord", "(Ljava/lang/String;)Z"⟩
abbrev cX4_howManyNumbers : ByteArray := prog_6_method_11_code
def yX4_howManyNumbers : MethodName := ⟨RX4, "howManyNumbers", "(I)I"⟩
abbrev cX4_readNumbers : ByteArray := prog_6_method_12_code
def yX4_readNumbers : MethodName := ⟨RX4, "readNumbers", "(I)Z"⟩
abbrev cX4_tell : ByteArray := prog_6_method_13_code
def yX4_tell : MethodName := ⟨RX4, "tell", "(II)V"⟩
abbrev cX4_tellPost : ByteArray := prog_6_method_14_code
def yX4_tellPost : MethodName := ⟨RX4, "tellPost", "(I)V"⟩
abbrev cX4_tellRider : ByteArray := prog_6_method_15_code
def yX4_tellRider : MethodName := ⟨RX4, "tellRider", "(I)V"⟩
abbrev cX4_tellOfPost : ByteArray := prog_6_method_16_code
def yX4_tellOfPost : MethodName := ⟨RX4, "tellOfPost", "([II)V"⟩
abbrev cX4_tellPair : ByteArray := prog_6_method_17_code
def yX4_tellPair : MethodName := ⟨RX4, "tellPair", "(III)V"⟩
abbrev cX4_number : ByteArray := prog_6_method_18_code
def yX4_number : MethodName := ⟨RX4, "number", "(III)I"⟩
abbrev cX4_note : ByteArray := prog_6_method_19_code
def yX4_note : MethodName := ⟨RX4, "note", "(II)V"⟩
def RX5 : String := "ChestnutLine$Ride"
def TX5 : u_T := fun k => match k with
  | 0 => ("ChestnutLine$Ride", "puller", "[I", true)
  | 1 => ("ChestnutLine$Ride", "remains", "[I", true)
  | 2 => ("ChestnutLine$Ride", "kept", "[I", true)
  | 3 => ("ChestnutLine$Ride", "room", "[I", true)
  | 4 => ("ChestnutLine$Ride", "pulledBefore", "I", false)
  | 5 => ("ChestnutLine$Ride", "drawn", "I", false)
  | 6 => ("ChestnutLine$Ride", "stops", "I", false)
  | 7 => ("ChestnutLine$Ride", "stopCount", "I", false)
  | 8 => ("ChestnutLine$Ride", "delay", "I", false)
  | 9 => ("ChestnutLine$Ride", "gathered", "I", false)
  | 10 => ("ChestnutLine$Ride", "stove", "I", false)
  | _ => ("ChestnutLine$Ride", "bishopOut", "I", false)
def tyX5 : Nat → FieldType := fun k => match k with
  | 0 => .array .int
  | 1 => .array .int
  | 2 => .array .int
  | 3 => .array .int
  | 4 => .int
  | 5 => .int
  | 6 => .int
  | 7 => .int
  | 8 => .int
  | 9 => .int
  | 10 => .int
  | _ => .int
abbrev wsX50 : List Cond := u_ws RX5 TX5 12
theorem nmX5 : ∀ a, a < 12 → ∀ b, b < 12 → a ≠ b → (TX5 a).2.1 ≠ (TX5 b).2.1 := by decide +kernel
theorem tyX5_ok : ∀ k, k < 12 → parseFieldDescriptor (TX5 k).2.2.1 = some (tyX5 k) := by decide +kernel
abbrev cX5_init : ByteArray := prog_7_method_1_code
def yX5_init : MethodName := ⟨RX5, "<init>", "()V"⟩
abbrev cX5_byLaw : ByteArray := prog_7_method_2_code
def yX5_byLaw : MethodName := ⟨RX5, "byLaw", "(LChestnutLine$Line;IIII)V"⟩
abbrev cX5_byPlan : ByteArray := prog_7_method_3_code
def yX5_byPlan : MethodName := ⟨RX5, "byPlan", "(LChestnutLine$Line;LChestnutLine$Pairs;I)I"⟩
abbrev cX5_begin : ByteArray := prog_7_method_4_code
def yX5_begin : MethodName := ⟨RX5, "begin", "(LChestnutLine$Line;I)V"⟩
abbrev cX5_canPull : ByteArray := prog_7_method_5_code
def yX5_canPull : MethodName := ⟨RX5, "canPull", "(LChestnutLine$Line;II)Z"⟩
abbrev cX5_wantingAt : ByteArray := prog_7_method_6_code
def yX5_wantingAt : MethodName := ⟨RX5, "wantingAt", "(LChestnutLine$Line;I)I"⟩
abbrev cX5_chosen : ByteArray := prog_7_method_7_code
def yX5_chosen : MethodName := ⟨RX5, "chosen", "(LChestnutLine$Line;II)I"⟩
abbrev cX5_leastOf : ByteArray := prog_7_method_8_code
def yX5_leastOf : MethodName := ⟨RX5, "leastOf", "(I)I"⟩
abbrev cX5_nthOf : ByteArray := prog_7_method_9_code
def yX5_nthOf : MethodName := ⟨RX5, "nthOf", "(II)I"⟩
abbrev cX5_highestFare : ByteArray := prog_7_method_10_code
def yX5_highestFare : MethodName := ⟨RX5, "highestFare", "(LChestnutLine$Line;I)I"⟩
abbrev cX5_drawBelow : ByteArray := prog_7_method_11_code
def yX5_drawBelow : MethodName := ⟨RX5, "drawBelow", "(I)I"⟩
abbrev cX5_stopAt : ByteArray := prog_7_method_12_code
def yX5_stopAt : MethodName := ⟨RX5, "stopAt", "(LChestnutLine$Line;II)V"⟩
abbrev cX5_arrival : ByteArray := prog_7_method_13_code
def yX5_arrival : MethodName := ⟨RX5, "arrival", "(LChestnutLine$Line;I)I"⟩
abbrev cX5_lateAt : ByteArray := prog_7_method_14_code
def yX5_lateAt : MethodName := ⟨RX5, "lateAt", "(LChestnutLine$Line;I)I"⟩
abbrev cX5_fines : ByteArray := prog_7_method_15_code
def yX5_fines : MethodName := ⟨RX5, "fines", "(LChestnutLine$Line;)I"⟩
abbrev cX5_gainOf : ByteArray := prog_7_method_16_code
def yX5_gainOf : MethodName := ⟨RX5, "gainOf", "(LChestnutLine$Line;I)I"⟩
abbrev cX5_richest : ByteArray := prog_7_method_17_code
def yX5_richest : MethodName := ⟨RX5, "richest", "(LChestnutLine$Line;)I"⟩
abbrev cX5_remainsInAll : ByteArray := prog_7_method_18_code
def yX5_remainsInAll : MethodName := ⟨RX5, "remainsInAll", "(LChestnutLine$Line;)I"⟩
def RX6 : String := "ChestnutLine$Sets"
def TX6 : u_T := fun k => match k with
  | 0 => ("ChestnutLine$Sets", "bits", "[I", true)
  | 1 => ("ChestnutLine$Sets", "pounds", "[I", true)
  | 2 => ("ChestnutLine$Sets", "costs", "[I", true)
  | 3 => ("ChestnutLine$Sets", "restPounds", "[I", true)
  | 4 => ("ChestnutLine$Sets", "restCosts", "[I", true)
  | 5 => ("ChestnutLine$Sets", "dues", "[I", true)
  | 6 => ("ChestnutLine$Sets", "size", "I", false)
  | 7 => ("ChestnutLine$Sets", "found", "I", false)
  | 8 => ("ChestnutLine$Sets", "sure", "I", false)
  | 9 => ("ChestnutLine$Sets", "maybe", "I", false)
  | _ => ("ChestnutLine$Sets", "first", "I", false)
def tyX6 : Nat → FieldType := fun k => match k with
  | 0 => .array .int
  | 1 => .array .int
  | 2 => .array .int
  | 3 => .array .int
  | 4 => .array .int
  | 5 => .array .int
  | 6 => .int
  | 7 => .int
  | 8 => .int
  | 9 => .int
  | _ => .int
abbrev wsX60 : List Cond := u_ws RX6 TX6 11
theorem nmX6 : ∀ a, a < 11 → ∀ b, b < 11 → a ≠ b → (TX6 a).2.1 ≠ (TX6 b).2.1 := by decide +kernel
theorem tyX6_ok : ∀ k, k < 11 → parseFieldDescriptor (TX6 k).2.2.1 = some (tyX6 k) := by decide +kernel
abbrev cX6_init : ByteArray := prog_8_method_1_code
def yX6_init : MethodName := ⟨RX6, "<init>", "()V"⟩
abbrev cX6_clear : ByteArray := prog_8_method_2_code
def yX6_clear : MethodName := ⟨RX6, "clear", "()V"⟩
abbrev cX6_add : ByteArray := prog_8_method_3_code
def yX6_add : MethodName := ⟨RX6, "add", "(III)V"⟩
abbrev cX6_surePosts : ByteArray := prog_8_method_4_code
def yX6_surePosts : MethodName := ⟨RX6, "surePosts", "()I"⟩
abbrev cX6_find : ByteArray := prog_8_method_5_code
def yX6_find : MethodName := ⟨RX6, "find", "(II)V"⟩
abbrev cX6_search : ByteArray := prog_8_method_6_code
def yX6_search : MethodName := ⟨RX6, "search", "(LChestnutLine$Sets;IIII)V"⟩
abbrev cX6_keep : ByteArray := prog_8_method_7_code
def yX6_keep : MethodName := ⟨RX6, "keep", "(I)V"⟩
abbrev cX6_findHolding : ByteArray := prog_8_method_8_code
def yX6_findHolding : MethodName := ⟨RX6, "findHolding", "(LChestnutLine$Line;LChestnutLine$Pairs;)V"⟩
abbrev cX6_allBits : ByteArray := prog_8_method_9_code
def yX6_allBits : MethodName := ⟨RX6, "allBits", "()I"⟩
abbrev cX6_fillDues : ByteArray := prog_8_method_10_code
def yX6_fillDues : MethodName := ⟨RX6, "fillDues", "(LChestnutLine$Line;LChestnutLine$Pairs;)Z"⟩
def RX7 : String := "ChestnutLine$Spread"
def TX7 : u_T := fun k => match k with
  | 0 => ("ChestnutLine$Spread", "weights", "[J", true)
  | 1 => ("ChestnutLine$Spread", "top", "I", false)
  | _ => ("ChestnutLine$Spread", "whole", "J", false)
def tyX7 : Nat → FieldType := fun k => match k with
  | 0 => .array .long
  | 1 => .int
  | _ => .long
abbrev wsX70 : List Cond := u_ws RX7 TX7 3
theorem nmX7 : ∀ a, a < 3 → ∀ b, b < 3 → a ≠ b → (TX7 a).2.1 ≠ (TX7 b).2.1 := by decide +kernel
theorem tyX7_ok : ∀ k, k < 3 → parseFieldDescriptor (TX7 k).2.2.1 = some (tyX7 k) := by decide +kernel
abbrev cX7_init : ByteArray := prog_9_method_1_code
def yX7_init : MethodName := ⟨RX7, "<init>", "()V"⟩
abbrev cX7_overPosts : ByteArray := prog_9_method_2_code
def yX7_overPosts : MethodName := ⟨RX7, "overPosts", "(LChestnutLine$Line;I)V"⟩
abbrev cX7_addStop : ByteArray := prog_9_method_3_code
def yX7_addStop : MethodName := ⟨RX7, "addStop", "(II)V"⟩
abbrev cX7_weightUpTo : ByteArray := prog_9_method_4_code
def yX7_weightUpTo : MethodName := ⟨RX7, "weightUpTo", "(I)J"⟩
abbrev cX7_leastCosts : ByteArray := prog_9_method_5_code
def yX7_leastCosts : MethodName := ⟨RX7, "leastCosts", "(I)I"⟩
def RX8 : String := "ChestnutLine$State"
def TX8 : u_T := fun k => match k with
  | 0 => ("ChestnutLine$State", "tape", "[B", true)
  | 1 => ("ChestnutLine$State", "lines", "[LChestnutLine$Line;", true)
  | 2 => ("ChestnutLine$State", "plans", "[LChestnutLine$Pairs;", true)
  | 3 => ("ChestnutLine$State", "logs", "[LChestnutLine$Pairs;", true)
  | 4 => ("ChestnutLine$State", "counts", "[I", true)
  | 5 => ("ChestnutLine$State", "length", "I", false)
  | 6 => ("ChestnutLine$State", "fault", "I", false)
  | _ => ("ChestnutLine$State", "place", "I", false)
def tyX8 : Nat → FieldType := fun k => match k with
  | 0 => .array .byte
  | 1 => .array (.object "ChestnutLine$Line")
  | 2 => .array (.object "ChestnutLine$Pairs")
  | 3 => .array (.object "ChestnutLine$Pairs")
  | 4 => .array .int
  | 5 => .int
  | 6 => .int
  | _ => .int
abbrev wsX80 : List Cond := u_ws RX8 TX8 8
theorem nmX8 : ∀ a, a < 8 → ∀ b, b < 8 → a ≠ b → (TX8 a).2.1 ≠ (TX8 b).2.1 := by decide +kernel
theorem tyX8_ok : ∀ k, k < 8 → parseFieldDescriptor (TX8 k).2.2.1 = some (tyX8 k) := by decide +kernel
abbrev cX8_init : ByteArray := prog_10_method_1_code
def yX8_init : MethodName := ⟨RX8, "<init>", "()V"⟩
abbrev cX8_copyFrom : ByteArray := prog_10_method_2_code
def yX8_copyFrom : MethodName := ⟨RX8, "copyFrom", "(LChestnutLine$State;)V"⟩
abbrev cX8_append : ByteArray := prog_10_method_3_code
def yX8_append : MethodName := ⟨RX8, "append", "(I)V"⟩
abbrev cX8_howMany : ByteArray := prog_10_method_4_code
def yX8_howMany : MethodName := ⟨RX8, "howMany", "(I)I"⟩
abbrev cX8_has : ByteArray := prog_10_method_5_code
def yX8_has : MethodName := ⟨RX8, "has", "(II)Z"⟩
abbrev cX8_lineAt : ByteArray := prog_10_method_6_code
def yX8_lineAt : MethodName := ⟨RX8, "lineAt", "(I)LChestnutLine$Line;"⟩
abbrev cX8_planAt : ByteArray := prog_10_method_7_code
def yX8_planAt : MethodName := ⟨RX8, "planAt", "(I)LChestnutLine$Pairs;"⟩
abbrev cX8_logAt : ByteArray := prog_10_method_8_code
def yX8_logAt : MethodName := ⟨RX8, "logAt", "(I)LChestnutLine$Pairs;"⟩
abbrev cX8_put : ByteArray := prog_10_method_9_code
def yX8_put : MethodName := ⟨RX8, "put", "(IILChestnutLine$Reader;)V"⟩
def RX9 : String := "ChestnutLine"
def TX9 : u_T := fun k => match k with
  | 0 => ("ChestnutLine", "now", "LChestnutLine$State;", true)
  | 1 => ("ChestnutLine", "images", "[LChestnutLine$State;", true)
  | 2 => ("ChestnutLine", "imageMade", "[Z", true)
  | 3 => ("ChestnutLine", "reader", "LChestnutLine$Reader;", true)
  | 4 => ("ChestnutLine", "ride", "LChestnutLine$Ride;", true)
  | 5 => ("ChestnutLine", "meeting", "LChestnutLine$Meeting;", true)
  | 6 => ("ChestnutLine", "spread", "LChestnutLine$Spread;", true)
  | 7 => ("ChestnutLine", "sets", "LChestnutLine$Sets;", true)
  | 8 => ("ChestnutLine", "bestPurse", "LChestnutLine$Purse;", true)
  | 9 => ("ChestnutLine", "trial", "LChestnutLine$Line;", true)
  | _ => ("ChestnutLine", "gains", "[I", true)
def tyX9 : Nat → FieldType := fun k => match k with
  | 0 => .object "ChestnutLine$State"
  | 1 => .array (.object "ChestnutLine$State")
  | 2 => .array .boolean
  | 3 => .object "ChestnutLine$Reader"
  | 4 => .object "ChestnutLine$Ride"
  | 5 => .object "ChestnutLine$Meeting"
  | 6 => .object "ChestnutLine$Spread"
  | 7 => .object "ChestnutLine$Sets"
  | 8 => .object "ChestnutLine$Purse"
  | 9 => .object "ChestnutLine$Line"
  | _ => .array .int
abbrev wsX90 : List Cond := u_ws RX9 TX9 11
theorem nmX9 : ∀ a, a < 11 → ∀ b, b < 11 → a ≠ b → (TX9 a).2.1 ≠ (TX9 b).2.1 := by decide +kernel
theorem tyX9_ok : ∀ k, k < 11 → parseFieldDescriptor (TX9 k).2.2.1 = some (tyX9 k) := by decide +kernel
abbrev cX9_init : ByteArray := prog_1_method_1_code
def yX9_init : MethodName := ⟨RX9, "<init>", "()V"⟩
abbrev cX9_feed : ByteArray := prog_1_method_2_code
def yX9_feed : MethodName := ⟨RX9, "feed", "(IIIII)I"⟩
abbrev cX9_end : ByteArray := prog_1_method_3_code
def yX9_end : MethodName := ⟨RX9, "end", "(I)I"⟩
abbrev cX9_text : ByteArray := prog_1_method_4_code
def yX9_text : MethodName := ⟨RX9, "text", "(II)I"⟩
abbrev cX9_fault : ByteArray := prog_1_method_5_code
def yX9_fault : MethodName := ⟨RX9, "fault", "(I)I"⟩
abbrev cX9_count : ByteArray := prog_1_method_6_code
def yX9_count : MethodName := ⟨RX9, "count", "(I)I"⟩
abbrev cX9_image : ByteArray := prog_1_method_7_code
def yX9_image : MethodName := ⟨RX9, "image", "(I)Z"⟩
abbrev cX9_again : ByteArray := prog_1_method_8_code
def yX9_again : MethodName := ⟨RX9, "again", "(I)Z"⟩
abbrev cX9_line : ByteArray := prog_1_method_9_code
def yX9_line : MethodName := ⟨RX9, "line", "(II)I"⟩
abbrev cX9_post : ByteArray := prog_1_method_10_code
def yX9_post : MethodName := ⟨RX9, "post", "(III)I"⟩
abbrev cX9_rider : ByteArray := prog_1_method_11_code
def yX9_rider : MethodName := ⟨RX9, "rider", "(III)I"⟩
abbrev cX9_pull : ByteArray := prog_1_method_12_code
def yX9_pull : MethodName := ⟨RX9, "pull", "(III)I"⟩
abbrev cX9_seen : ByteArray := prog_1_method_13_code
def yX9_seen : MethodName := ⟨RX9, "seen", "(III)I"⟩
abbrev cX9_run : ByteArray := prog_1_method_14_code
def yX9_run : MethodName := ⟨RX9, "run", "(IIIII)I"⟩
abbrev cX9_who : ByteArray := prog_1_method_15_code
def yX9_who : MethodName := ⟨RX9, "who", "(IIIII)I"⟩
abbrev cX9_late : ByteArray := prog_1_method_16_code
def yX9_late : MethodName := ⟨RX9, "late", "(IIIII)I"⟩
abbrev cX9_left : ByteArray := prog_1_method_17_code
def yX9_left : MethodName := ⟨RX9, "left", "(IIIII)I"⟩
abbrev cX9_played : ByteArray := prog_1_method_18_code
def yX9_played : MethodName := ⟨RX9, "played", "(IIII)I"⟩
abbrev cX9_most : ByteArray := prog_1_method_19_code
def yX9_most : MethodName := ⟨RX9, "most", "(IIIZ)I"⟩
abbrev cX9_weeks : ByteArray := prog_1_method_20_code
def yX9_weeks : MethodName := ⟨RX9, "weeks", "(IIIZ)I"⟩
abbrev cX9_lots : ByteArray := prog_1_method_21_code
def yX9_lots : MethodName := ⟨RX9, "lots", "(IIIII)I"⟩
abbrev cX9_rest : ByteArray := prog_1_method_22_code
def yX9_rest : MethodName := ⟨RX9, "rest", "(III)I"⟩
abbrev cX9_gain : ByteArray := prog_1_method_23_code
def yX9_gain : MethodName := ⟨RX9, "gain", "(IIII)I"⟩
abbrev cX9_calm : ByteArray := prog_1_method_24_code
def yX9_calm : MethodName := ⟨RX9, "calm", "(III)I"⟩
abbrev cX9_rich : ByteArray := prog_1_method_25_code
def yX9_rich : MethodName := ⟨RX9, "rich", "(IIIIZ)I"⟩
abbrev cX9_vote : ByteArray := prog_1_method_26_code
def yX9_vote : MethodName := ⟨RX9, "vote", "(IIIZ)I"⟩
abbrev cX9_bid : ByteArray := prog_1_method_27_code
def yX9_bid : MethodName := ⟨RX9, "bid", "(IIII)I"⟩
abbrev cX9_purse : ByteArray := prog_1_method_28_code
def yX9_purse : MethodName := ⟨RX9, "purse", "(IIII)I"⟩
abbrev cX9_shells : ByteArray := prog_1_method_29_code
def yX9_shells : MethodName := ⟨RX9, "shells", "(IIIII)I"⟩
abbrev cX9_hold : ByteArray := prog_1_method_30_code
def yX9_hold : MethodName := ⟨RX9, "hold", "(III)I"⟩
abbrev cX9_chance : ByteArray := prog_1_method_31_code
def yX9_chance : MethodName := ⟨RX9, "chance", "(IIZ)J"⟩
abbrev cX9_slack : ByteArray := prog_1_method_32_code
def yX9_slack : MethodName := ⟨RX9, "slack", "(II)I"⟩
abbrev cX9_print : ByteArray := prog_1_method_33_code
def yX9_print : MethodName := ⟨RX9, "print", "(III)I"⟩
abbrev cX9_meet : ByteArray := prog_1_method_34_code
def yX9_meet : MethodName := ⟨RX9, "meet", "(IIIII)I"⟩
abbrev cX9_risk : ByteArray := prog_1_method_35_code
def yX9_risk : MethodName := ⟨RX9, "risk", "(II)I"⟩
abbrev cX9_isSort : ByteArray := prog_1_method_36_code
def yX9_isSort : MethodName := ⟨RX9, "isSort", "(I)Z"⟩
abbrev cX9_isWeek : ByteArray := prog_1_method_37_code
def yX9_isWeek : MethodName := ⟨RX9, "isWeek", "(I)Z"⟩
abbrev cX9_isHundredths : ByteArray := prog_1_method_38_code
def yX9_isHundredths : MethodName := ⟨RX9, "isHundredths", "(I)Z"⟩
abbrev cX9_placeFor : ByteArray := prog_1_method_39_code
def yX9_placeFor : MethodName := ⟨RX9, "placeFor", "(II)I"⟩
abbrev cX9_pairAnswer : ByteArray := prog_1_method_40_code
def yX9_pairAnswer : MethodName := ⟨RX9, "pairAnswer", "(LChestnutLine$Pairs;II)I"⟩
abbrev cX9_ridden : ByteArray := prog_1_method_41_code
def yX9_ridden : MethodName := ⟨RX9, "ridden", "(IIII)LChestnutLine$Line;"⟩
abbrev cX9_fillGains : ByteArray := prog_1_method_42_code
def yX9_fillGains : MethodName := ⟨RX9, "fillGains", "(LChestnutLine$Line;I)V"⟩
abbrev cX9_fillGainsByLaw : ByteArray := prog_1_method_43_code
def yX9_fillGainsByLaw : MethodName := ⟨RX9, "fillGainsByLaw", "(LChestnutLine$Line;II)V"⟩
abbrev cX9_keepGains : ByteArray := prog_1_method_44_code
def yX9_keepGains : MethodName := ⟨RX9, "keepGains", "(LChestnutLine$Line;I)V"⟩
abbrev cX9_isAtRest : ByteArray := prog_1_method_45_code
def yX9_isAtRest : MethodName := ⟨RX9, "isAtRest", "(LChestnutLine$Line;I)Z"⟩
abbrev cX9_votesFor : ByteArray := prog_1_method_46_code
def yX9_votesFor : MethodName := ⟨RX9, "votesFor", "(LChestnutLine$Line;I)I"⟩
abbrev cX9_lawOf : ByteArray := prog_1_method_47_code
def yX9_lawOf : MethodName := ⟨RX9, "lawOf", "(I)I"⟩
abbrev cX9_isCalm : ByteArray := prog_1_method_48_code
def yX9_isCalm : MethodName := ⟨RX9, "isCalm", "(LChestnutLine$Line;III)Z"⟩
abbrev cX9_sparePost : ByteArray := prog_1_method_49_code
def yX9_sparePost : MethodName := ⟨RX9, "sparePost", "(LChestnutLine$Line;III)I"⟩
abbrev cX9_bestChoice : ByteArray := prog_1_method_50_code
def yX9_bestChoice : MethodName := ⟨RX9, "bestChoice", "(III[III)I"⟩
abbrev cX9_tenfoldMean : ByteArray := prog_1_method_51_code
def yX9_tenfoldMean : MethodName := ⟨RX9, "tenfoldMean", "(LChestnutLine$Line;)J"⟩
abbrev cX9_leastTerm : ByteArray := prog_1_method_52_code
def yX9_leastTerm : MethodName := ⟨RX9, "leastTerm", "(JJZ)J"⟩
abbrev cX9_commonDivisor : ByteArray := prog_1_method_53_code
def yX9_commonDivisor : MethodName := ⟨RX9, "commonDivisor", "(JJ)J"⟩
def RX10 : String := "ChestnutLineModel"
def TX10 : u_T := fun k => match k with
  | 0 => ("ChestnutLineModel", "code", "I", false)
  | 1 => ("ChestnutLineModel", "tape", "[B", true)
  | 2 => ("ChestnutLineModel", "size", "[I", true)
  | 3 => ("ChestnutLineModel", "fault", "[I", true)
  | 4 => ("ChestnutLineModel", "faultPlace", "[I", true)
  | 5 => ("ChestnutLineModel", "many", "[I", true)
  | 6 => ("ChestnutLineModel", "lines", "[I", true)
  | 7 => ("ChestnutLineModel", "plans", "[I", true)
  | 8 => ("ChestnutLineModel", "logs", "[I", true)
  | 9 => ("ChestnutLineModel", "reached", "I", false)
  | 10 => ("ChestnutLineModel", "length", "I", false)
  | 11 => ("ChestnutLineModel", "begins", "I", false)
  | 12 => ("ChestnutLineModel", "sort", "I", false)
  | 13 => ("ChestnutLineModel", "value", "I", false)
  | 14 => ("ChestnutLineModel", "word", "J", false)
  | 15 => ("ChestnutLineModel", "wrongAt", "I", false)
  | 16 => ("ChestnutLineModel", "laterFault", "I", false)
  | 17 => ("ChestnutLineModel", "laterPlace", "I", false)
  | 18 => ("ChestnutLineModel", "told", "[I", true)
  | 19 => ("ChestnutLineModel", "read", "[I", true)
  | 20 => ("ChestnutLineModel", "oddsTold", "[I", true)
  | 21 => ("ChestnutLineModel", "printed", "[I", true)
  | 22 => ("ChestnutLineModel", "greatest", "I", false)
  | 23 => ("ChestnutLineModel", "line", "I", false)
  | 24 => ("ChestnutLineModel", "posts", "I", false)
  | 25 => ("ChestnutLineModel", "last", "I", false)
  | 26 => ("ChestnutLineModel", "riders", "I", false)
  | 27 => ("ChestnutLineModel", "minutes", "[I", true)
  | 28 => ("ChestnutLineModel", "cost", "[I", true)
  | 29 => ("ChestnutLineModel", "pounds", "[I", true)
  | 30 => ("ChestnutLineModel", "seed", "I", false)
  | 31 => ("ChestnutLineModel", "delay", "I", false)
  | 32 => ("ChestnutLineModel", "stove", "I", false)
  | 33 => ("ChestnutLineModel", "fines", "I", false)
  | 34 => ("ChestnutLineModel", "bishopAt", "I", false)
  | 35 => ("ChestnutLineModel", "comes", "[I", true)
  | 36 => ("ChestnutLineModel", "puller", "[I", true)
  | 37 => ("ChestnutLineModel", "taken", "[I", true)
  | 38 => ("ChestnutLineModel", "takenAt", "[I", true)
  | 39 => ("ChestnutLineModel", "kept", "[I", true)
  | 40 => ("ChestnutLineModel", "pulled", "[Z", true)
  | 41 => ("ChestnutLineModel", "ways", "[J", true)
  | 42 => ("ChestnutLineModel", "allWays", "J", false)
  | 43 => ("ChestnutLineModel", "met", "I", false)
  | 44 => ("ChestnutLineModel", "wait", "[I", true)
  | 45 => ("ChestnutLineModel", "otherAt", "[I", true)
  | 46 => ("ChestnutLineModel", "plan", "I", false)
  | 47 => ("ChestnutLineModel", "log", "I", false)
  | 48 => ("ChestnutLineModel", "votes", "[I", true)
  | _ => ("ChestnutLineModel", "savedOnce", "[Z", true)
def tyX10 : Nat → FieldType := fun k => match k with
  | 0 => .int
  | 1 => .array .byte
  | 2 => .array .int
  | 3 => .array .int
  | 4 => .array .int
  | 5 => .array .int
  | 6 => .array .int
  | 7 => .array .int
  | 8 => .array .int
  | 9 => .int
  | 10 => .int
  | 11 => .int
  | 12 => .int
  | 13 => .int
  | 14 => .long
  | 15 => .int
  | 16 => .int
  | 17 => .int
  | 18 => .array .int
  | 19 => .array .int
  | 20 => .array .int
  | 21 => .array .int
  | 22 => .int
  | 23 => .int
  | 24 => .int
  | 25 => .int
  | 26 => .int
  | 27 => .array .int
  | 28 => .array .int
  | 29 => .array .int
  | 30 => .int
  | 31 => .int
  | 32 => .int
  | 33 => .int
  | 34 => .int
  | 35 => .array .int
  | 36 => .array .int
  | 37 => .array .int
  | 38 => .array .int
  | 39 => .array .int
  | 40 => .array .boolean
  | 41 => .array .long
  | 42 => .long
  | 43 => .int
  | 44 => .array .int
  | 45 => .array .int
  | 46 => .int
  | 47 => .int
  | 48 => .array .int
  | _ => .array .boolean
abbrev wsX100 : List Cond := u_ws RX10 TX10 50
theorem nmX10 : ∀ a, a < 50 → ∀ b, b < 50 → a ≠ b → (TX10 a).2.1 ≠ (TX10 b).2.1 := by decide +kernel
theorem tyX10_ok : ∀ k, k < 50 → parseFieldDescriptor (TX10 k).2.2.1 = some (tyX10 k) := by decide +kernel
abbrev cX10_init : ByteArray := prog_12_method_1_code
def yX10_init : MethodName := ⟨RX10, "<init>", "()V"⟩
abbrev cX10_in : ByteArray := prog_12_method_3_code
def yX10_in : MethodName := ⟨RX10, "in", "(III)Z"⟩
abbrev cX10_has : ByteArray := prog_12_method_4_code
def yX10_has : MethodName := ⟨RX10, "has", "(II)Z"⟩
abbrev cX10_ones : ByteArray := prog_12_method_5_code
def yX10_ones : MethodName := ⟨RX10, "ones", "(I)I"⟩
abbrev cX10_greater : ByteArray := prog_12_method_6_code
def yX10_greater : MethodName := ⟨RX10, "greater", "(II)I"⟩
abbrev cX10_copyRow : ByteArray := prog_12_method_7_code
def yX10_copyRow : MethodName := ⟨RX10, "copyRow", "([IIII)V"⟩
abbrev cX10_copyAll : ByteArray := prog_12_method_8_code
def yX10_copyAll : MethodName := ⟨RX10, "copyAll", "(II)V"⟩
abbrev cX10_is : ByteArray := prog_12_method_9_code
def yX10_is : MethodName := ⟨RX10, "is", "(II)Z"⟩
abbrev cX10_feed : ByteArray := prog_12_method_10_code
def yX10_feed : MethodName := ⟨RX10, "feed", "(IIIII)I"⟩
abbrev cX10_four : ByteArray := prog_12_method_11_code
def yX10_four : MethodName := ⟨RX10, "four", "(I)V"⟩
abbrev cX10_end : ByteArray := prog_12_method_12_code
def yX10_end : MethodName := ⟨RX10, "end", "(I)I"⟩
abbrev cX10_see : ByteArray := prog_12_method_13_code
def yX10_see : MethodName := ⟨RX10, "see", "()I"⟩
abbrev cX10_token : ByteArray := prog_12_method_14_code
def yX10_token : MethodName := ⟨RX10, "token", "()V"⟩
abbrev cX10_fails : ByteArray := prog_12_method_15_code
def yX10_fails : MethodName := ⟨RX10, "fails", "()Z"⟩
abbrev cX10_later : ByteArray := prog_12_method_16_code
def yX10_later : MethodName := ⟨RX10, "later", "(II)V"⟩
abbrev cX10_take : ByteArray := prog_12_method_17_code
def yX10_take : MethodName := ⟨RX10, "take", "(III)Z"⟩
abbrev cX10_takePost : ByteArray := prog_12_method_18_code
def yX10_takePost : MethodName := ⟨RX10, "takePost", "(II)Z"⟩
abbrev cX10_full : ByteArray := prog_12_method_19_code
def yX10_full : MethodName := ⟨RX10, "full", "(III)V"⟩
abbrev cX10_keep : ByteArray := prog_12_method_20_code
def yX10_keep : MethodName := ⟨RX10, "keep", "(IIIII)V"⟩
abbrev cX10_riderLine : ByteArray := prog_12_method_21_code
def yX10_riderLine : MethodName := ⟨RX10, "riderLine", "()Z"⟩
abbrev cX10_postLine : ByteArray := prog_12_method_22_code
def yX10_postLine : MethodName := ⟨RX10, "postLine", "()Z"⟩
abbrev cX10_ofPost : ByteArray := prog_12_method_23_code
def yX10_ofPost : MethodName := ⟨RX10, "ofPost", "(Z)Z"⟩
abbrev cX10_plainOf : ByteArray := prog_12_method_24_code
def yX10_plainOf : MethodName := ⟨RX10, "plainOf", "(J)I"⟩
abbrev cX10_lineLine : ByteArray := prog_12_method_25_code
def yX10_lineLine : MethodName := ⟨RX10, "lineLine", "(JI)Z"⟩
abbrev cX10_planLine : ByteArray := prog_12_method_26_code
def yX10_planLine : MethodName := ⟨RX10, "planLine", "(JI)Z"⟩
abbrev cX10_logLine : ByteArray := prog_12_method_27_code
def yX10_logLine : MethodName := ⟨RX10, "logLine", "(JI)Z"⟩
abbrev cX10_textLines : ByteArray := prog_12_method_28_code
def yX10_textLines : MethodName := ⟨RX10, "textLines", "(I)Z"⟩
abbrev cX10_readText : ByteArray := prog_12_method_29_code
def yX10_readText : MethodName := ⟨RX10, "readText", "(I)Z"⟩
abbrev cX10_store : ByteArray := prog_12_method_30_code
def yX10_store : MethodName := ⟨RX10, "store", "([III)V"⟩
abbrev cX10_text : ByteArray := prog_12_method_31_code
def yX10_text : MethodName := ⟨RX10, "text", "(II)I"⟩
abbrev cX10_fault : ByteArray := prog_12_method_32_code
def yX10_fault : MethodName := ⟨RX10, "fault", "(I)I"⟩
abbrev cX10_of : ByteArray := prog_12_method_33_code
def yX10_of : MethodName := ⟨RX10, "of", "(I)I"⟩
abbrev cX10_postOf : ByteArray := prog_12_method_34_code
def yX10_postOf : MethodName := ⟨RX10, "postOf", "(II)I"⟩
abbrev cX10_riderOf : ByteArray := prog_12_method_35_code
def yX10_riderOf : MethodName := ⟨RX10, "riderOf", "(II)I"⟩
abbrev cX10_poundsIn : ByteArray := prog_12_method_36_code
def yX10_poundsIn : MethodName := ⟨RX10, "poundsIn", "(II)I"⟩
abbrev cX10_hand : ByteArray := prog_12_method_37_code
def yX10_hand : MethodName := ⟨RX10, "hand", "(II)Z"⟩
abbrev cX10_line : ByteArray := prog_12_method_38_code
def yX10_line : MethodName := ⟨RX10, "line", "(II)I"⟩
abbrev cX10_isPost : ByteArray := prog_12_method_39_code
def yX10_isPost : MethodName := ⟨RX10, "isPost", "(I)Z"⟩
abbrev cX10_isRider : ByteArray := prog_12_method_40_code
def yX10_isRider : MethodName := ⟨RX10, "isRider", "(I)Z"⟩
abbrev cX10_post : ByteArray := prog_12_method_41_code
def yX10_post : MethodName := ⟨RX10, "post", "(III)I"⟩
abbrev cX10_rider : ByteArray := prog_12_method_42_code
def yX10_rider : MethodName := ⟨RX10, "rider", "(III)I"⟩
abbrev cX10_draw : ByteArray := prog_12_method_43_code
def yX10_draw : MethodName := ⟨RX10, "draw", "(I)I"⟩
abbrev cX10_isOn : ByteArray := prog_12_method_44_code
def yX10_isOn : MethodName := ⟨RX10, "isOn", "(II)Z"⟩
abbrev cX10_wants : ByteArray := prog_12_method_45_code
def yX10_wants : MethodName := ⟨RX10, "wants", "(II)Z"⟩
abbrev cX10_pullerAt : ByteArray := prog_12_method_46_code
def yX10_pullerAt : MethodName := ⟨RX10, "pullerAt", "(III)I"⟩
abbrev cX10_begin : ByteArray := prog_12_method_47_code
def yX10_begin : MethodName := ⟨RX10, "begin", "()V"⟩
abbrev cX10_pullsAt : ByteArray := prog_12_method_48_code
def yX10_pullsAt : MethodName := ⟨RX10, "pullsAt", "(II)V"⟩
abbrev cX10_timesBy : ByteArray := prog_12_method_49_code
def yX10_timesBy : MethodName := ⟨RX10, "timesBy", "()V"⟩
abbrev cX10_go : ByteArray := prog_12_method_50_code
def yX10_go : MethodName := ⟨RX10, "go", "(III)V"⟩
abbrev cX10_everyone : ByteArray := prog_12_method_51_code
def yX10_everyone : MethodName := ⟨RX10, "everyone", "()I"⟩
abbrev cX10_layRun : ByteArray := prog_12_method_52_code
def yX10_layRun : MethodName := ⟨RX10, "layRun", "(IIII)Z"⟩
abbrev cX10_gathered : ByteArray := prog_12_method_53_code
def yX10_gathered : MethodName := ⟨RX10, "gathered", "()I"⟩
abbrev cX10_stopsOf : ByteArray := prog_12_method_54_code
def yX10_stopsOf : MethodName := ⟨RX10, "stopsOf", "()I"⟩
abbrev cX10_run : ByteArray := prog_12_method_55_code
def yX10_run : MethodName := ⟨RX10, "run", "(IIIII)I"⟩
abbrev cX10_who : ByteArray := prog_12_method_56_code
def yX10_who : MethodName := ⟨RX10, "who", "(IIIII)I"⟩
abbrev cX10_late : ByteArray := prog_12_method_57_code
def yX10_late : MethodName := ⟨RX10, "late", "(IIIII)I"⟩
abbrev cX10_poundsOf : ByteArray := prog_12_method_58_code
def yX10_poundsOf : MethodName := ⟨RX10, "poundsOf", "(I)I"⟩
abbrev cX10_costsOf : ByteArray := prog_12_method_59_code
def yX10_costsOf : MethodName := ⟨RX10, "costsOf", "(I)I"⟩
abbrev cX10_bearing : ByteArray := prog_12_method_60_code
def yX10_bearing : MethodName := ⟨RX10, "bearing", "()I"⟩
abbrev cX10_purse : ByteArray := prog_12_method_61_code
def yX10_purse : MethodName := ⟨RX10, "purse", "(IIII)I"⟩
abbrev cX10_gainOf : ByteArray := prog_12_method_62_code
def yX10_gainOf : MethodName := ⟨RX10, "gainOf", "(II)I"⟩
abbrev cX10_gainNow : ByteArray := prog_12_method_63_code
def yX10_gainNow : MethodName := ⟨RX10, "gainNow", "(I)I"⟩
abbrev cX10_isRest : ByteArray := prog_12_method_64_code
def yX10_isRest : MethodName := ⟨RX10, "isRest", "(I)Z"⟩
abbrev cX10_rest : ByteArray := prog_12_method_65_code
def yX10_rest : MethodName := ⟨RX10, "rest", "(III)I"⟩
abbrev cX10_gain : ByteArray := prog_12_method_66_code
def yX10_gain : MethodName := ⟨RX10, "gain", "(IIII)I"⟩
abbrev cX10_findOdds : ByteArray := prog_12_method_67_code
def yX10_findOdds : MethodName := ⟨RX10, "findOdds", "(I)V"⟩
abbrev cX10_common : ByteArray := prog_12_method_68_code
def yX10_common : MethodName := ⟨RX10, "common", "(JJ)J"⟩
abbrev cX10_part : ByteArray := prog_12_method_69_code
def yX10_part : MethodName := ⟨RX10, "part", "(JJZ)J"⟩
abbrev cX10_chance : ByteArray := prog_12_method_70_code
def yX10_chance : MethodName := ⟨RX10, "chance", "(IIZ)J"⟩
abbrev cX10_enough : ByteArray := prog_12_method_71_code
def yX10_enough : MethodName := ⟨RX10, "enough", "(I)I"⟩
abbrev cX10_slack : ByteArray := prog_12_method_72_code
def yX10_slack : MethodName := ⟨RX10, "slack", "(II)I"⟩
abbrev cX10_shells : ByteArray := prog_12_method_73_code
def yX10_shells : MethodName := ⟨RX10, "shells", "(IIIII)I"⟩
abbrev cX10_nextStation : ByteArray := prog_12_method_74_code
def yX10_nextStation : MethodName := ⟨RX10, "nextStation", "(I)I"⟩
abbrev cX10_waitAt : ByteArray := prog_12_method_75_code
def yX10_waitAt : MethodName := ⟨RX10, "waitAt", "(II)I"⟩
abbrev cX10_meetOther : ByteArray := prog_12_method_76_code
def yX10_meetOther : MethodName := ⟨RX10, "meetOther", "()V"⟩
abbrev cX10_meet : ByteArray := prog_12_method_77_code
def yX10_meet : MethodName := ⟨RX10, "meet", "(IIIII)I"⟩
abbrev cX10_pulls : ByteArray := prog_12_method_78_code
def yX10_pulls : MethodName := ⟨RX10, "pulls", "()I"⟩
abbrev cX10_pullOf : ByteArray := prog_12_method_79_code
def yX10_pullOf : MethodName := ⟨RX10, "pullOf", "(II)I"⟩
abbrev cX10_hasPlan : ByteArray := prog_12_method_80_code
def yX10_hasPlan : MethodName := ⟨RX10, "hasPlan", "(I)Z"⟩
abbrev cX10_pull : ByteArray := prog_12_method_81_code
def yX10_pull : MethodName := ⟨RX10, "pull", "(III)I"⟩
abbrev cX10_canPull : ByteArray := prog_12_method_82_code
def yX10_canPull : MethodName := ⟨RX10, "canPull", "(I)Z"⟩
abbrev cX10_doPlan : ByteArray := prog_12_method_83_code
def yX10_doPlan : MethodName := ⟨RX10, "doPlan", "()I"⟩
abbrev cX10_played : ByteArray := prog_12_method_84_code
def yX10_played : MethodName := ⟨RX10, "played", "(IIII)I"⟩
abbrev cX10_print : ByteArray := prog_12_method_85_code
def yX10_print : MethodName := ⟨RX10, "print", "(III)I"⟩
abbrev cX10_most : ByteArray := prog_12_method_86_code
def yX10_most : MethodName := ⟨RX10, "most", "(IIIZ)I"⟩
abbrev cX10_weeks : ByteArray := prog_12_method_87_code
def yX10_weeks : MethodName := ⟨RX10, "weeks", "(IIIZ)I"⟩
abbrev cX10_isCalm : ByteArray := prog_12_method_88_code
def yX10_isCalm : MethodName := ⟨RX10, "isCalm", "(II)Z"⟩
abbrev cX10_calm : ByteArray := prog_12_method_89_code
def yX10_calm : MethodName := ⟨RX10, "calm", "(III)I"⟩
abbrev cX10_richest : ByteArray := prog_12_method_90_code
def yX10_richest : MethodName := ⟨RX10, "richest", "()I"⟩
abbrev cX10_spare : ByteArray := prog_12_method_91_code
def yX10_spare : MethodName := ⟨RX10, "spare", "(II)I"⟩
abbrev cX10_rich : ByteArray := prog_12_method_92_code
def yX10_rich : MethodName := ⟨RX10, "rich", "(IIIIZ)I"⟩
abbrev cX10_lots : ByteArray := prog_12_method_93_code
def yX10_lots : MethodName := ⟨RX10, "lots", "(IIIII)I"⟩
abbrev cX10_hasLog : ByteArray := prog_12_method_94_code
def yX10_hasLog : MethodName := ⟨RX10, "hasLog", "(I)Z"⟩
abbrev cX10_seenOf : ByteArray := prog_12_method_95_code
def yX10_seenOf : MethodName := ⟨RX10, "seenOf", "(II)I"⟩
abbrev cX10_seen : ByteArray := prog_12_method_96_code
def yX10_seen : MethodName := ⟨RX10, "seen", "(III)I"⟩
abbrev cX10_holds : ByteArray := prog_12_method_97_code
def yX10_holds : MethodName := ⟨RX10, "holds", "(I)Z"⟩
abbrev cX10_hold : ByteArray := prog_12_method_98_code
def yX10_hold : MethodName := ⟨RX10, "hold", "(III)I"⟩
abbrev cX10_allWaits : ByteArray := prog_12_method_99_code
def yX10_allWaits : MethodName := ⟨RX10, "allWaits", "()I"⟩
abbrev cX10_risk : ByteArray := prog_12_method_100_code
def yX10_risk : MethodName := ⟨RX10, "risk", "(II)I"⟩
abbrev cX10_lawFor : ByteArray := prog_12_method_101_code
def yX10_lawFor : MethodName := ⟨RX10, "lawFor", "(II)I"⟩
abbrev cX10_vote : ByteArray := prog_12_method_102_code
def yX10_vote : MethodName := ⟨RX10, "vote", "(IIIZ)I"⟩
abbrev cX10_left : ByteArray := prog_12_method_103_code
def yX10_left : MethodName := ⟨RX10, "left", "(IIIII)I"⟩
abbrev cX10_bid : ByteArray := prog_12_method_104_code
def yX10_bid : MethodName := ⟨RX10, "bid", "(IIII)I"⟩
abbrev cX10_count : ByteArray := prog_12_method_105_code
def yX10_count : MethodName := ⟨RX10, "count", "(I)I"⟩
abbrev cX10_image : ByteArray := prog_12_method_106_code
def yX10_image : MethodName := ⟨RX10, "image", "(I)Z"⟩
abbrev cX10_again : ByteArray := prog_12_method_107_code
def yX10_again : MethodName := ⟨RX10, "again", "(I)Z"⟩
def RJ6 : String := "java/lang/Integer"
def TJ6 : u_T := fun k => match k with
  | _ => ("", "", "", false)
def tyJ6 : Nat → FieldType := fun k => match k with
  | _ => .int
abbrev wsJ60 : List Cond := u_ws RJ6 TJ6 0
theorem nmJ6 : ∀ a, a < 0 → ∀ b, b < 0 → a ≠ b → (TJ6 a).2.1 ≠ (TJ6 b).2.1 := by decide +kernel
theorem tyJ6_ok : ∀ k, k < 0 → parseFieldDescriptor (TJ6 k).2.2.1 = some (tyJ6 k) := by decide +kernel
abbrev cJ6_bitCount_0f7a4 : ByteArray := prog_13_method_49_code
def yJ6_bitCount_0f7a4 : MethodName := ⟨RJ6, "bitCount", "(I)I"⟩
def RJ9 : String := "java/lang/Math"
def TJ9 : u_T := fun k => match k with
  | _ => ("", "", "", false)
def tyJ9 : Nat → FieldType := fun k => match k with
  | _ => .int
abbrev wsJ90 : List Cond := u_ws RJ9 TJ9 0
theorem nmJ9 : ∀ a, a < 0 → ∀ b, b < 0 → a ≠ b → (TJ9 a).2.1 ≠ (TJ9 b).2.1 := by decide +kernel
theorem tyJ9_ok : ∀ k, k < 0 → parseFieldDescriptor (TJ9 k).2.2.1 = some (tyJ9 k) := by decide +kernel
abbrev cJ9_max_7cf53 : ByteArray := prog_14_method_65_code
def yJ9_max_7cf53 : MethodName := ⟨RJ9, "max", "(II)I"⟩
abbrev cJ9_min_7cf53 : ByteArray := prog_14_method_69_code
def yJ9_min_7cf53 : MethodName := ⟨RJ9, "min", "(II)I"⟩
def RJ0 : String := "java/lang/String"
def TJ0 : u_T := fun k => match k with
  | _ => ("", "", "", false)
def tyJ0 : Nat → FieldType := fun k => match k with
  | _ => .int
abbrev wsJ00 : List Cond := u_ws RJ0 TJ0 0
theorem nmJ0 : ∀ a, a < 0 → ∀ b, b < 0 → a ≠ b → (TJ0 a).2.1 ≠ (TJ0 b).2.1 := by decide +kernel
theorem tyJ0_ok : ∀ k, k < 0 → parseFieldDescriptor (TJ0 k).2.2.1 = some (tyJ0 k) := by decide +kernel
abbrev cJ0_length_8abf5 : ByteArray := prog_15_method_54_code
def yJ0_length_8abf5 : MethodName := ⟨RJ0, "length", "()I"⟩
abbrev cJ0_charAt_5068e : ByteArray := prog_15_method_56_code
def yJ0_charAt_5068e : MethodName := ⟨RJ0, "charAt", "(I)C"⟩
abbrev cJ0_coder_7d493 : ByteArray := prog_15_method_152_code
def yJ0_coder_7d493 : MethodName := ⟨RJ0, "coder", "()B"⟩
abbrev cJ0_isLatin1_aae02 : ByteArray := prog_15_method_154_code
def yJ0_isLatin1_aae02 : MethodName := ⟨RJ0, "isLatin1", "()Z"⟩
abbrev cJ0_checkIndex_df160 : ByteArray := prog_15_method_155_code
def yJ0_checkIndex_df160 : MethodName := ⟨RJ0, "checkIndex", "(II)V"⟩
def RJ1 : String := "java/lang/StringLatin1"
def TJ1 : u_T := fun k => match k with
  | _ => ("", "", "", false)
def tyJ1 : Nat → FieldType := fun k => match k with
  | _ => .int
abbrev wsJ10 : List Cond := u_ws RJ1 TJ1 0
theorem nmJ1 : ∀ a, a < 0 → ∀ b, b < 0 → a ≠ b → (TJ1 a).2.1 ≠ (TJ1 b).2.1 := by decide +kernel
theorem tyJ1_ok : ∀ k, k < 0 → parseFieldDescriptor (TJ1 k).2.2.1 = some (tyJ1 k) := by decide +kernel
abbrev cJ1_charAt_3b067 : ByteArray := prog_16_method_2_code
def yJ1_charAt_3b067 : MethodName := ⟨RJ1, "charAt", "([BI)C"⟩
def RJ2 : String := "java/lang/StringUTF16"
def TJ2 : u_T := fun k => match k with
  | _ => ("", "", "", false)
def tyJ2 : Nat → FieldType := fun k => match k with
  | _ => .int
abbrev wsJ20 : List Cond := u_ws RJ2 TJ2 0
theorem nmJ2 : ∀ a, a < 0 → ∀ b, b < 0 → a ≠ b → (TJ2 a).2.1 ≠ (TJ2 b).2.1 := by decide +kernel
theorem tyJ2_ok : ∀ k, k < 0 → parseFieldDescriptor (TJ2 k).2.2.1 = some (tyJ2 k) := by decide +kernel
abbrev cJ2_getChar_3b067 : ByteArray := prog_17_method_5_code
def yJ2_getChar_3b067 : MethodName := ⟨RJ2, "getChar", "([BI)C"⟩
abbrev cJ2_length_9d52b : ByteArray := prog_17_method_6_code
def yJ2_length_9d52b : MethodName := ⟨RJ2, "length", "([B)I"⟩
abbrev cJ2_charAt_3b067 : ByteArray := prog_17_method_83_code
def yJ2_charAt_3b067 : MethodName := ⟨RJ2, "charAt", "([BI)C"⟩
abbrev cJ2_checkIndex_2214a : ByteArray := prog_17_method_91_code
def yJ2_checkIndex_2214a : MethodName := ⟨RJ2, "checkIndex", "(I[B)V"⟩
def RJ10 : String := "java/lang/System"
def TJ10 : u_T := fun k => match k with
  | _ => ("", "", "", false)
def tyJ10 : Nat → FieldType := fun k => match k with
  | _ => .int
abbrev wsJ100 : List Cond := u_ws RJ10 TJ10 0
theorem nmJ10 : ∀ a, a < 0 → ∀ b, b < 0 → a ≠ b → (TJ10 a).2.1 ≠ (TJ10 b).2.1 := by decide +kernel
theorem tyJ10_ok : ∀ k, k < 0 → parseFieldDescriptor (TJ10 k).2.2.1 = some (tyJ10 k) := by decide +kernel
def RJ3 : String := "jdk/internal/util/Preconditions"
def TJ3 : u_T := fun k => match k with
  | _ => ("", "", "", false)
def tyJ3 : Nat → FieldType := fun k => match k with
  | _ => .int
abbrev wsJ30 : List Cond := u_ws RJ3 TJ3 0
theorem nmJ3 : ∀ a, a < 0 → ∀ b, b < 0 → a ≠ b → (TJ3 a).2.1 ≠ (TJ3 b).2.1 := by decide +kernel
theorem tyJ3_ok : ∀ k, k < 0 → parseFieldDescriptor (TJ3 k).2.2.1 = some (tyJ3 k) := by decide +kernel
abbrev cJ3_checkIndex_8e157 : ByteArray := prog_19_method_11_code
def yJ3_checkIndex_8e157 : MethodName := ⟨RJ3, "checkIndex", "(IILjava/util/function/BiFunction;)I"⟩
def RL : String := "ChestnutLineLaw"
abbrev cL_law : ByteArray := code
def yL_law : MethodName := ⟨RL, "law", "([I)Z"⟩
theorem inJ6 : ∀ w ∈ wsJ60, w ∈ lw_tbl := by decide +kernel
theorem inJ9 : ∀ w ∈ wsJ90, w ∈ lw_tbl := by decide +kernel
theorem inJ0 : ∀ w ∈ wsJ00, w ∈ lw_tbl := by decide +kernel
theorem inJ1 : ∀ w ∈ wsJ10, w ∈ lw_tbl := by decide +kernel
theorem inJ2 : ∀ w ∈ wsJ20, w ∈ lw_tbl := by decide +kernel
theorem inJ10 : ∀ w ∈ wsJ100, w ∈ lw_tbl := by decide +kernel
theorem inJ3 : ∀ w ∈ wsJ30, w ∈ lw_tbl := by decide +kernel
abbrev vwCl : List vw_C := [(RX0, TX0, 18), (RX1, TX1, 4), (RX2, TX2, 3), (RX3, TX3, 2), (RX4, TX4, 13), (RX5, TX5, 12), (RX6, TX6, 11), (RX7, TX7, 3), (RX8, TX8, 8), (RX9, TX9, 11), (RX10, TX10, 50)]
end
section
/-! the words of the tables that are used, by their places -/
def zUU : List Cond := lw_tbl.filter goodWord
theorem zUU_of {w : Cond} (h : w ∈ tables_1) (hg : goodWord w = true) : w ∈ zUU := List.mem_filter.mpr ⟨List.mem_append_right _ h, hg⟩
theorem zUA_1 {w : Cond} (i : Nat) (h : tables_1_1[i]? = some w) (hg : goodWord w = true) : w ∈ zUU := zUU_of (List.mem_append_left _ (List.mem_of_getElem? h)) hg
theorem zUA_2 {w : Cond} (i : Nat) (h : tables_1_2[i]? = some w) (hg : goodWord w = true) : w ∈ zUU := zUU_of (List.mem_append_right _ (List.mem_append_left _ (List.mem_of_getElem? h))) hg
theorem zUA_3 {w : Cond} (i : Nat) (h : tables_1_3[i]? = some w) (hg : goodWord w = true) : w ∈ zUU := zUU_of (List.mem_append_right _ (List.mem_append_right _ (List.mem_append_left _ (List.mem_of_getElem? h)))) hg
theorem zUA_4 {w : Cond} (i : Nat) (h : tables_1_4[i]? = some w) (hg : goodWord w = true) : w ∈ zUU := zUU_of (List.mem_append_right _ (List.mem_append_right _ (List.mem_append_right _ (List.mem_append_left _ (List.mem_of_getElem? h))))) hg
theorem zUA_5 {w : Cond} (i : Nat) (h : tables_1_5[i]? = some w) (hg : goodWord w = true) : w ∈ zUU := zUU_of (List.mem_append_right _ (List.mem_append_right _ (List.mem_append_right _ (List.mem_append_right _ (List.mem_append_left _ (List.mem_of_getElem? h)))))) hg
theorem zUA_6 {w : Cond} (i : Nat) (h : tables_1_6[i]? = some w) (hg : goodWord w = true) : w ∈ zUU := zUU_of (List.mem_append_right _ (List.mem_append_right _ (List.mem_append_right _ (List.mem_append_right _ (List.mem_append_right _ (List.mem_append_left _ (List.mem_of_getElem? h))))))) hg
theorem zUA_7 {w : Cond} (i : Nat) (h : tables_1_7[i]? = some w) (hg : goodWord w = true) : w ∈ zUU := zUU_of (List.mem_append_right _ (List.mem_append_right _ (List.mem_append_right _ (List.mem_append_right _ (List.mem_append_right _ (List.mem_append_right _ (List.mem_of_getElem? h))))))) hg
theorem zUU_pr {y : MethodName} {n : Nat} (i : Nat) (h : lw_privs[i]? = some (y, n)) : Cond.selects y.cls y y ∈ zUU := List.mem_filter.mpr ⟨List.mem_append_left _ (List.mem_map.mpr ⟨(y, n), List.mem_of_getElem? h, rfl⟩), rfl⟩
theorem zUU_good {w : Cond} (h : w ∈ zUU) : goodWord w = true := (List.mem_filter.mp h).2
theorem zUU_tbl {w : Cond} (h : w ∈ zUU) : w ∈ lw_tbl := (List.mem_filter.mp h).1
theorem ini_L : Cond.initialized RL ∈ zUU := zUA_1 0 rfl rfl
theorem ini_X9 : Cond.initialized RX9 ∈ zUU := zUA_1 1 rfl rfl
theorem ini_X8 : Cond.initialized RX8 ∈ zUU := zUA_1 2 rfl rfl
theorem ini_X0 : Cond.initialized RX0 ∈ zUU := zUA_1 3 rfl rfl
theorem ini_X2 : Cond.initialized RX2 ∈ zUU := zUA_1 4 rfl rfl
theorem ini_X4 : Cond.initialized RX4 ∈ zUU := zUA_1 5 rfl rfl
theorem ini_X5 : Cond.initialized RX5 ∈ zUU := zUA_1 6 rfl rfl
theorem ini_X1 : Cond.initialized RX1 ∈ zUU := zUA_1 7 rfl rfl
theorem ini_X7 : Cond.initialized RX7 ∈ zUU := zUA_1 8 rfl rfl
theorem ini_X6 : Cond.initialized RX6 ∈ zUU := zUA_1 9 rfl rfl
theorem ini_X3 : Cond.initialized RX3 ∈ zUU := zUA_1 10 rfl rfl
theorem ini_X10 : Cond.initialized RX10 ∈ zUU := zUA_1 11 rfl rfl
theorem ini_J9 : Cond.initialized "java/lang/Math" ∈ zUU := zUA_1 12 rfl rfl
theorem ini_J10 : Cond.initialized "java/lang/System" ∈ zUU := zUA_1 13 rfl rfl
theorem ini_J0 : Cond.initialized "java/lang/String" ∈ zUU := zUA_1 14 rfl rfl
theorem ini_J1 : Cond.initialized "java/lang/StringLatin1" ∈ zUU := zUA_1 15 rfl rfl
theorem ini_J3 : Cond.initialized "jdk/internal/util/Preconditions" ∈ zUU := zUA_1 16 rfl rfl
theorem ini_J2 : Cond.initialized "java/lang/StringUTF16" ∈ zUU := zUA_1 17 rfl rfl
theorem ini_J6 : Cond.initialized RJ6 ∈ zUU := zUA_1 18 rfl rfl
theorem cl_L_7 : Cond.classLink RL 7 RX9 ∈ zUU := zUA_1 19 rfl rfl
theorem ia_X9 : Cond.instantiable RX9 11 ∈ zUU := zUA_1 20 rfl rfl
theorem ml_L_9 : Cond.methodLink RL 9 yX9_init ∈ zUU := zUA_1 21 rfl rfl
theorem im_X9_init : Cond.instanceMethod yX9_init ∈ zUU := zUA_1 22 rfl rfl
theorem cd_X9_init : Cond.code yX9_init cX9_init 1 none ∈ zUU := zUA_1 23 rfl rfl
theorem ml_X9_3 : Cond.methodLink RX9 3 objectInit ∈ zUU := zUA_1 24 rfl rfl
theorem im_object : Cond.instanceMethod objectInit ∈ zUU := zUA_1 25 rfl rfl
theorem cd_object : Cond.code objectInit ⟨#[0xb1]⟩ 1 none ∈ zUU := zUA_1 26 rfl rfl
theorem cl_X9_9 : Cond.classLink RX9 9 RX8 ∈ zUU := zUA_1 27 rfl rfl
theorem ia_X8 : Cond.instantiable RX8 8 ∈ zUU := zUA_1 28 rfl rfl
theorem im_X8_init : Cond.instanceMethod yX8_init ∈ zUU := zUA_1 30 rfl rfl
theorem cd_X8_init : Cond.code yX8_init cX8_init 1 none ∈ zUU := zUA_1 31 rfl rfl
theorem ml_X8_3 : Cond.methodLink RX8 3 objectInit ∈ zUU := zUA_1 32 rfl rfl
theorem cl_X8_15 : Cond.classLink RX8 15 RX0 ∈ zUU := zUA_1 33 rfl rfl
theorem ia_X0 : Cond.instantiable RX0 18 ∈ zUU := zUA_1 35 rfl rfl
theorem im_X0_init : Cond.instanceMethod yX0_init ∈ zUU := zUA_1 37 rfl rfl
theorem cd_X0_init : Cond.code yX0_init cX0_init 1 none ∈ zUU := zUA_1 38 rfl rfl
theorem ml_X0_3 : Cond.methodLink RX0 3 objectInit ∈ zUU := zUA_1 39 rfl rfl
theorem fl_X0_9 : Cond.fieldLink RX0 9 "ChestnutLine$Line" "minutes" "[I" ∈ zUU := zUA_1 40 rfl rfl
theorem fl_X1_44 : Cond.fieldLink RX1 44 "ChestnutLine$Line" "minutes" "[I" ∈ zUU := zUA_1 41 rfl rfl
theorem fl_X9_156 : Cond.fieldLink RX9 156 "ChestnutLine$Line" "minutes" "[I" ∈ zUU := zUA_1 42 rfl rfl
theorem fl_X4_190 : Cond.fieldLink RX4 190 "ChestnutLine$Line" "minutes" "[I" ∈ zUU := zUA_1 43 rfl rfl
theorem fl_X0_15 : Cond.fieldLink RX0 15 "ChestnutLine$Line" "grade" "[I" ∈ zUU := zUA_1 44 rfl rfl
theorem fl_X9_159 : Cond.fieldLink RX9 159 "ChestnutLine$Line" "grade" "[I" ∈ zUU := zUA_1 45 rfl rfl
theorem fl_X4_193 : Cond.fieldLink RX4 193 "ChestnutLine$Line" "grade" "[I" ∈ zUU := zUA_1 46 rfl rfl
theorem fl_X0_18 : Cond.fieldLink RX0 18 "ChestnutLine$Line" "pounds" "[I" ∈ zUU := zUA_1 47 rfl rfl
theorem fl_X9_162 : Cond.fieldLink RX9 162 "ChestnutLine$Line" "pounds" "[I" ∈ zUU := zUA_1 48 rfl rfl
theorem fl_X4_196 : Cond.fieldLink RX4 196 "ChestnutLine$Line" "pounds" "[I" ∈ zUU := zUA_1 49 rfl rfl
theorem fl_X0_21 : Cond.fieldLink RX0 21 "ChestnutLine$Line" "odds" "[I" ∈ zUU := zUA_1 50 rfl rfl
theorem fl_X7_29 : Cond.fieldLink RX7 29 "ChestnutLine$Line" "odds" "[I" ∈ zUU := zUA_1 51 rfl rfl
theorem fl_X9_165 : Cond.fieldLink RX9 165 "ChestnutLine$Line" "odds" "[I" ∈ zUU := zUA_1 52 rfl rfl
theorem fl_X4_170 : Cond.fieldLink RX4 170 "ChestnutLine$Line" "odds" "[I" ∈ zUU := zUA_1 53 rfl rfl
theorem fl_X0_24 : Cond.fieldLink RX0 24 "ChestnutLine$Line" "printed" "[I" ∈ zUU := zUA_1 54 rfl rfl
theorem fl_X9_168 : Cond.fieldLink RX9 168 "ChestnutLine$Line" "printed" "[I" ∈ zUU := zUA_1 55 rfl rfl
theorem fl_X4_163 : Cond.fieldLink RX4 163 "ChestnutLine$Line" "printed" "[I" ∈ zUU := zUA_1 56 rfl rfl
theorem fl_X5_151 : Cond.fieldLink RX5 151 "ChestnutLine$Line" "printed" "[I" ∈ zUU := zUA_1 57 rfl rfl
theorem fl_X0_27 : Cond.fieldLink RX0 27 "ChestnutLine$Line" "on" "[I" ∈ zUU := zUA_1 58 rfl rfl
theorem fl_X9_177 : Cond.fieldLink RX9 177 "ChestnutLine$Line" "on" "[I" ∈ zUU := zUA_1 59 rfl rfl
theorem fl_X4_202 : Cond.fieldLink RX4 202 "ChestnutLine$Line" "on" "[I" ∈ zUU := zUA_1 60 rfl rfl
theorem fl_X0_30 : Cond.fieldLink RX0 30 "ChestnutLine$Line" "off" "[I" ∈ zUU := zUA_1 61 rfl rfl
theorem fl_X9_180 : Cond.fieldLink RX9 180 "ChestnutLine$Line" "off" "[I" ∈ zUU := zUA_1 62 rfl rfl
theorem fl_X4_205 : Cond.fieldLink RX4 205 "ChestnutLine$Line" "off" "[I" ∈ zUU := zUA_1 63 rfl rfl
theorem fl_X5_166 : Cond.fieldLink RX5 166 "ChestnutLine$Line" "off" "[I" ∈ zUU := zUA_1 64 rfl rfl
theorem fl_X0_33 : Cond.fieldLink RX0 33 "ChestnutLine$Line" "pocket" "[I" ∈ zUU := zUA_1 65 rfl rfl
theorem fl_X5_71 : Cond.fieldLink RX5 71 "ChestnutLine$Line" "pocket" "[I" ∈ zUU := zUA_1 66 rfl rfl
theorem fl_X9_183 : Cond.fieldLink RX9 183 "ChestnutLine$Line" "pocket" "[I" ∈ zUU := zUA_1 67 rfl rfl
theorem fl_X4_208 : Cond.fieldLink RX4 208 "ChestnutLine$Line" "pocket" "[I" ∈ zUU := zUA_1 68 rfl rfl
theorem fl_X0_36 : Cond.fieldLink RX0 36 "ChestnutLine$Line" "wish" "[I" ∈ zUU := zUA_1 69 rfl rfl
theorem fl_X5_107 : Cond.fieldLink RX5 107 "ChestnutLine$Line" "wish" "[I" ∈ zUU := zUA_1 70 rfl rfl
theorem fl_X9_186 : Cond.fieldLink RX9 186 "ChestnutLine$Line" "wish" "[I" ∈ zUU := zUA_1 71 rfl rfl
theorem fl_X4_211 : Cond.fieldLink RX4 211 "ChestnutLine$Line" "wish" "[I" ∈ zUU := zUA_1 72 rfl rfl
theorem fl_X0_39 : Cond.fieldLink RX0 39 "ChestnutLine$Line" "patience" "[I" ∈ zUU := zUA_1 73 rfl rfl
theorem fl_X5_110 : Cond.fieldLink RX5 110 "ChestnutLine$Line" "patience" "[I" ∈ zUU := zUA_1 74 rfl rfl
theorem fl_X9_189 : Cond.fieldLink RX9 189 "ChestnutLine$Line" "patience" "[I" ∈ zUU := zUA_1 75 rfl rfl
theorem fl_X4_214 : Cond.fieldLink RX4 214 "ChestnutLine$Line" "patience" "[I" ∈ zUU := zUA_1 76 rfl rfl
theorem fl_X0_42 : Cond.fieldLink RX0 42 "ChestnutLine$Line" "fare" "[I" ∈ zUU := zUA_1 77 rfl rfl
theorem fl_X5_130 : Cond.fieldLink RX5 130 "ChestnutLine$Line" "fare" "[I" ∈ zUU := zUA_1 78 rfl rfl
theorem fl_X9_192 : Cond.fieldLink RX9 192 "ChestnutLine$Line" "fare" "[I" ∈ zUU := zUA_1 79 rfl rfl
theorem fl_X4_217 : Cond.fieldLink RX4 217 "ChestnutLine$Line" "fare" "[I" ∈ zUU := zUA_1 80 rfl rfl
theorem fl_X0_45 : Cond.fieldLink RX0 45 "ChestnutLine$Line" "posts" "I" ∈ zUU := zUA_1 81 rfl rfl
theorem fl_X1_24 : Cond.fieldLink RX1 24 "ChestnutLine$Line" "posts" "I" ∈ zUU := zUA_1 82 rfl rfl
theorem fl_X5_32 : Cond.fieldLink RX5 32 "ChestnutLine$Line" "posts" "I" ∈ zUU := zUA_1 83 rfl rfl
theorem fl_X3_18 : Cond.fieldLink RX3 18 "ChestnutLine$Line" "posts" "I" ∈ zUU := zUA_1 84 rfl rfl
theorem fl_X4_77 : Cond.fieldLink RX4 77 "ChestnutLine$Line" "posts" "I" ∈ zUU := zUA_1 85 rfl rfl
theorem fl_X6_67 : Cond.fieldLink RX6 67 "ChestnutLine$Line" "posts" "I" ∈ zUU := zUA_1 86 rfl rfl
theorem fl_X9_125 : Cond.fieldLink RX9 125 "ChestnutLine$Line" "posts" "I" ∈ zUU := zUA_1 87 rfl rfl
theorem fl_X0_49 : Cond.fieldLink RX0 49 "ChestnutLine$Line" "riders" "I" ∈ zUU := zUA_1 88 rfl rfl
theorem fl_X5_68 : Cond.fieldLink RX5 68 "ChestnutLine$Line" "riders" "I" ∈ zUU := zUA_1 89 rfl rfl
theorem fl_X9_128 : Cond.fieldLink RX9 128 "ChestnutLine$Line" "riders" "I" ∈ zUU := zUA_1 90 rfl rfl
theorem fl_X4_199 : Cond.fieldLink RX4 199 "ChestnutLine$Line" "riders" "I" ∈ zUU := zUA_1 91 rfl rfl
theorem fl_X0_52 : Cond.fieldLink RX0 52 "ChestnutLine$Line" "halt" "I" ∈ zUU := zUA_1 92 rfl rfl
theorem fl_X9_131 : Cond.fieldLink RX9 131 "ChestnutLine$Line" "halt" "I" ∈ zUU := zUA_1 93 rfl rfl
theorem fl_X4_176 : Cond.fieldLink RX4 176 "ChestnutLine$Line" "halt" "I" ∈ zUU := zUA_1 94 rfl rfl
theorem fl_X0_55 : Cond.fieldLink RX0 55 "ChestnutLine$Line" "eat" "I" ∈ zUU := zUA_1 95 rfl rfl
theorem fl_X9_134 : Cond.fieldLink RX9 134 "ChestnutLine$Line" "eat" "I" ∈ zUU := zUA_1 96 rfl rfl
theorem fl_X4_178 : Cond.fieldLink RX4 178 "ChestnutLine$Line" "eat" "I" ∈ zUU := zUA_1 97 rfl rfl
theorem fl_X0_58 : Cond.fieldLink RX0 58 "ChestnutLine$Line" "grace" "I" ∈ zUU := zUA_1 98 rfl rfl
theorem fl_X9_137 : Cond.fieldLink RX9 137 "ChestnutLine$Line" "grace" "I" ∈ zUU := zUA_1 99 rfl rfl
theorem fl_X4_180 : Cond.fieldLink RX4 180 "ChestnutLine$Line" "grace" "I" ∈ zUU := zUA_1 100 rfl rfl
theorem fl_X5_163 : Cond.fieldLink RX5 163 "ChestnutLine$Line" "grace" "I" ∈ zUU := zUA_1 101 rfl rfl
theorem fl_X0_61 : Cond.fieldLink RX0 61 "ChestnutLine$Line" "bishop" "I" ∈ zUU := zUA_1 102 rfl rfl
theorem fl_X9_140 : Cond.fieldLink RX9 140 "ChestnutLine$Line" "bishop" "I" ∈ zUU := zUA_1 103 rfl rfl
theorem fl_X5_139 : Cond.fieldLink RX5 139 "ChestnutLine$Line" "bishop" "I" ∈ zUU := zUA_1 104 rfl rfl
theorem fl_X4_182 : Cond.fieldLink RX4 182 "ChestnutLine$Line" "bishop" "I" ∈ zUU := zUA_1 105 rfl rfl
theorem fl_X1_18 : Cond.fieldLink RX1 18 "ChestnutLine$Line" "other" "I" ∈ zUU := zUA_1 106 rfl rfl
theorem fl_X0_64 : Cond.fieldLink RX0 64 "ChestnutLine$Line" "other" "I" ∈ zUU := zUA_1 107 rfl rfl
theorem fl_X9_143 : Cond.fieldLink RX9 143 "ChestnutLine$Line" "other" "I" ∈ zUU := zUA_1 108 rfl rfl
theorem fl_X4_184 : Cond.fieldLink RX4 184 "ChestnutLine$Line" "other" "I" ∈ zUU := zUA_1 109 rfl rfl
theorem ac_byte : Cond.arrayClass .byte ∈ zUU := zUA_1 147 rfl rfl
theorem ac_int : Cond.arrayClass .int ∈ zUU := zUA_1 148 rfl rfl
theorem cl_X8_22 : Cond.classLink RX8 22 RX2 ∈ zUU := zUA_1 149 rfl rfl
theorem ia_X2 : Cond.instantiable RX2 3 ∈ zUU := zUA_1 151 rfl rfl
theorem im_X2_init : Cond.instanceMethod yX2_init ∈ zUU := zUA_1 153 rfl rfl
theorem cd_X2_init : Cond.code yX2_init cX2_init 1 none ∈ zUU := zUA_1 154 rfl rfl
theorem ml_X2_3 : Cond.methodLink RX2 3 objectInit ∈ zUU := zUA_1 155 rfl rfl
theorem fl_X2_9 : Cond.fieldLink RX2 9 "ChestnutLine$Pairs" "first" "[I" ∈ zUU := zUA_1 156 rfl rfl
theorem fl_X5_54 : Cond.fieldLink RX5 54 "ChestnutLine$Pairs" "first" "[I" ∈ zUU := zUA_1 157 rfl rfl
theorem fl_X6_94 : Cond.fieldLink RX6 94 "ChestnutLine$Pairs" "first" "[I" ∈ zUU := zUA_1 158 rfl rfl
theorem fl_X9_398 : Cond.fieldLink RX9 398 "ChestnutLine$Pairs" "first" "[I" ∈ zUU := zUA_1 159 rfl rfl
theorem fl_X2_15 : Cond.fieldLink RX2 15 "ChestnutLine$Pairs" "second" "[I" ∈ zUU := zUA_1 160 rfl rfl
theorem fl_X5_57 : Cond.fieldLink RX5 57 "ChestnutLine$Pairs" "second" "[I" ∈ zUU := zUA_1 161 rfl rfl
theorem fl_X6_100 : Cond.fieldLink RX6 100 "ChestnutLine$Pairs" "second" "[I" ∈ zUU := zUA_1 162 rfl rfl
theorem fl_X9_400 : Cond.fieldLink RX9 400 "ChestnutLine$Pairs" "second" "[I" ∈ zUU := zUA_1 163 rfl rfl
theorem fl_X2_24 : Cond.fieldLink RX2 24 "ChestnutLine$Pairs" "size" "I" ∈ zUU := zUA_1 164 rfl rfl
theorem fl_X4_70 : Cond.fieldLink RX4 70 "ChestnutLine$Pairs" "size" "I" ∈ zUU := zUA_1 165 rfl rfl
theorem fl_X5_49 : Cond.fieldLink RX5 49 "ChestnutLine$Pairs" "size" "I" ∈ zUU := zUA_1 166 rfl rfl
theorem fl_X6_91 : Cond.fieldLink RX6 91 "ChestnutLine$Pairs" "size" "I" ∈ zUU := zUA_1 167 rfl rfl
theorem fl_X9_393 : Cond.fieldLink RX9 393 "ChestnutLine$Pairs" "size" "I" ∈ zUU := zUA_1 168 rfl rfl
theorem fl_X8_9 : Cond.fieldLink RX8 9 "ChestnutLine$State" "tape" "[B" ∈ zUU := zUA_1 176 rfl rfl
theorem fl_X9_95 : Cond.fieldLink RX9 95 "ChestnutLine$State" "tape" "[B" ∈ zUU := zUA_1 177 rfl rfl
theorem fl_X8_18 : Cond.fieldLink RX8 18 "ChestnutLine$State" "lines" "[LChestnutLine$Line;" ∈ zUU := zUA_1 178 rfl rfl
theorem fl_X8_25 : Cond.fieldLink RX8 25 "ChestnutLine$State" "plans" "[LChestnutLine$Pairs;" ∈ zUU := zUA_1 179 rfl rfl
theorem fl_X8_29 : Cond.fieldLink RX8 29 "ChestnutLine$State" "logs" "[LChestnutLine$Pairs;" ∈ zUU := zUA_1 180 rfl rfl
theorem fl_X8_32 : Cond.fieldLink RX8 32 "ChestnutLine$State" "counts" "[I" ∈ zUU := zUA_1 181 rfl rfl
theorem fl_X9_77 : Cond.fieldLink RX9 77 "ChestnutLine$State" "length" "I" ∈ zUU := zUA_1 182 rfl rfl
theorem fl_X8_53 : Cond.fieldLink RX8 53 "ChestnutLine$State" "length" "I" ∈ zUU := zUA_1 183 rfl rfl
theorem fl_X8_56 : Cond.fieldLink RX8 56 "ChestnutLine$State" "fault" "I" ∈ zUU := zUA_1 184 rfl rfl
theorem fl_X9_89 : Cond.fieldLink RX9 89 "ChestnutLine$State" "fault" "I" ∈ zUU := zUA_1 185 rfl rfl
theorem fl_X8_36 : Cond.fieldLink RX8 36 "ChestnutLine$State" "place" "I" ∈ zUU := zUA_1 186 rfl rfl
theorem fl_X9_92 : Cond.fieldLink RX9 92 "ChestnutLine$State" "place" "I" ∈ zUU := zUA_1 187 rfl rfl
theorem cl_X9_24 : Cond.classLink RX9 24 RX4 ∈ zUU := zUA_1 206 rfl rfl
theorem ia_X4 : Cond.instantiable RX4 13 ∈ zUU := zUA_1 207 rfl rfl
theorem im_X4_init : Cond.instanceMethod yX4_init ∈ zUU := zUA_1 209 rfl rfl
theorem cd_X4_init : Cond.code yX4_init cX4_init 1 none ∈ zUU := zUA_1 210 rfl rfl
theorem ml_X4_3 : Cond.methodLink RX4 3 objectInit ∈ zUU := zUA_1 211 rfl rfl
theorem cl_X4_9 : Cond.classLink RX4 9 RX0 ∈ zUU := zUA_1 212 rfl rfl
theorem cl_X4_18 : Cond.classLink RX4 18 RX2 ∈ zUU := zUA_1 214 rfl rfl
theorem fl_X4_12 : Cond.fieldLink RX4 12 "ChestnutLine$Reader" "line" "LChestnutLine$Line;" ∈ zUU := zUA_1 216 rfl rfl
theorem fl_X8_67 : Cond.fieldLink RX8 67 "ChestnutLine$Reader" "line" "LChestnutLine$Line;" ∈ zUU := zUA_1 217 rfl rfl
theorem fl_X4_21 : Cond.fieldLink RX4 21 "ChestnutLine$Reader" "pairs" "LChestnutLine$Pairs;" ∈ zUU := zUA_1 218 rfl rfl
theorem fl_X8_73 : Cond.fieldLink RX8 73 "ChestnutLine$Reader" "pairs" "LChestnutLine$Pairs;" ∈ zUU := zUA_1 219 rfl rfl
theorem fl_X4_25 : Cond.fieldLink RX4 25 "ChestnutLine$Reader" "numbers" "[I" ∈ zUU := zUA_1 220 rfl rfl
theorem fl_X4_29 : Cond.fieldLink RX4 29 "ChestnutLine$Reader" "places" "[I" ∈ zUU := zUA_1 221 rfl rfl
theorem fl_X4_32 : Cond.fieldLink RX4 32 "ChestnutLine$Reader" "tape" "[B" ∈ zUU := zUA_1 222 rfl rfl
theorem fl_X4_45 : Cond.fieldLink RX4 45 "ChestnutLine$Reader" "length" "I" ∈ zUU := zUA_1 223 rfl rfl
theorem fl_X4_55 : Cond.fieldLink RX4 55 "ChestnutLine$Reader" "at" "I" ∈ zUU := zUA_1 224 rfl rfl
theorem fl_X4_87 : Cond.fieldLink RX4 87 "ChestnutLine$Reader" "kind" "I" ∈ zUU := zUA_1 225 rfl rfl
theorem fl_X4_90 : Cond.fieldLink RX4 90 "ChestnutLine$Reader" "start" "I" ∈ zUU := zUA_1 226 rfl rfl
theorem fl_X4_113 : Cond.fieldLink RX4 113 "ChestnutLine$Reader" "value" "I" ∈ zUU := zUA_1 227 rfl rfl
theorem fl_X4_64 : Cond.fieldLink RX4 64 "ChestnutLine$Reader" "highestPost" "I" ∈ zUU := zUA_1 228 rfl rfl
theorem fl_X4_58 : Cond.fieldLink RX4 58 "ChestnutLine$Reader" "fault" "I" ∈ zUU := zUA_1 229 rfl rfl
theorem fl_X9_103 : Cond.fieldLink RX9 103 "ChestnutLine$Reader" "fault" "I" ∈ zUU := zUA_1 230 rfl rfl
theorem fl_X4_61 : Cond.fieldLink RX4 61 "ChestnutLine$Reader" "place" "I" ∈ zUU := zUA_1 231 rfl rfl
theorem fl_X9_104 : Cond.fieldLink RX9 104 "ChestnutLine$Reader" "place" "I" ∈ zUU := zUA_1 232 rfl rfl
theorem ac_boolean : Cond.arrayClass .boolean ∈ zUU := zUA_2 20 rfl rfl
theorem cl_X9_31 : Cond.classLink RX9 31 RX5 ∈ zUU := zUA_2 21 rfl rfl
theorem ia_X5 : Cond.instantiable RX5 12 ∈ zUU := zUA_2 22 rfl rfl
theorem im_X5_init : Cond.instanceMethod yX5_init ∈ zUU := zUA_2 24 rfl rfl
theorem cd_X5_init : Cond.code yX5_init cX5_init 1 none ∈ zUU := zUA_2 25 rfl rfl
theorem ml_X5_3 : Cond.methodLink RX5 3 objectInit ∈ zUU := zUA_2 26 rfl rfl
theorem fl_X5_9 : Cond.fieldLink RX5 9 "ChestnutLine$Ride" "puller" "[I" ∈ zUU := zUA_2 27 rfl rfl
theorem fl_X9_239 : Cond.fieldLink RX9 239 "ChestnutLine$Ride" "puller" "[I" ∈ zUU := zUA_2 28 rfl rfl
theorem fl_X5_15 : Cond.fieldLink RX5 15 "ChestnutLine$Ride" "remains" "[I" ∈ zUU := zUA_2 29 rfl rfl
theorem fl_X9_251 : Cond.fieldLink RX9 251 "ChestnutLine$Ride" "remains" "[I" ∈ zUU := zUA_2 30 rfl rfl
theorem fl_X5_18 : Cond.fieldLink RX5 18 "ChestnutLine$Ride" "kept" "[I" ∈ zUU := zUA_2 31 rfl rfl
theorem fl_X9_214 : Cond.fieldLink RX9 214 "ChestnutLine$Ride" "kept" "[I" ∈ zUU := zUA_2 32 rfl rfl
theorem fl_X5_21 : Cond.fieldLink RX5 21 "ChestnutLine$Ride" "room" "[I" ∈ zUU := zUA_2 33 rfl rfl
theorem fl_X5_74 : Cond.fieldLink RX5 74 "ChestnutLine$Ride" "pulledBefore" "I" ∈ zUU := zUA_2 34 rfl rfl
theorem fl_X5_28 : Cond.fieldLink RX5 28 "ChestnutLine$Ride" "drawn" "I" ∈ zUU := zUA_2 35 rfl rfl
theorem fl_X5_77 : Cond.fieldLink RX5 77 "ChestnutLine$Ride" "stops" "I" ∈ zUU := zUA_2 36 rfl rfl
theorem fl_X9_236 : Cond.fieldLink RX9 236 "ChestnutLine$Ride" "stops" "I" ∈ zUU := zUA_2 37 rfl rfl
theorem fl_X5_80 : Cond.fieldLink RX5 80 "ChestnutLine$Ride" "stopCount" "I" ∈ zUU := zUA_2 38 rfl rfl
theorem fl_X9_220 : Cond.fieldLink RX9 220 "ChestnutLine$Ride" "stopCount" "I" ∈ zUU := zUA_2 39 rfl rfl
theorem fl_X5_83 : Cond.fieldLink RX5 83 "ChestnutLine$Ride" "delay" "I" ∈ zUU := zUA_2 40 rfl rfl
theorem fl_X9_223 : Cond.fieldLink RX9 223 "ChestnutLine$Ride" "delay" "I" ∈ zUU := zUA_2 41 rfl rfl
theorem fl_X5_86 : Cond.fieldLink RX5 86 "ChestnutLine$Ride" "gathered" "I" ∈ zUU := zUA_2 42 rfl rfl
theorem fl_X9_217 : Cond.fieldLink RX9 217 "ChestnutLine$Ride" "gathered" "I" ∈ zUU := zUA_2 43 rfl rfl
theorem fl_X5_89 : Cond.fieldLink RX5 89 "ChestnutLine$Ride" "stove" "I" ∈ zUU := zUA_2 44 rfl rfl
theorem fl_X9_226 : Cond.fieldLink RX9 226 "ChestnutLine$Ride" "stove" "I" ∈ zUU := zUA_2 45 rfl rfl
theorem fl_X5_92 : Cond.fieldLink RX5 92 "ChestnutLine$Ride" "bishopOut" "I" ∈ zUU := zUA_2 46 rfl rfl
theorem fl_X9_233 : Cond.fieldLink RX9 233 "ChestnutLine$Ride" "bishopOut" "I" ∈ zUU := zUA_2 47 rfl rfl
theorem cl_X9_38 : Cond.classLink RX9 38 RX1 ∈ zUU := zUA_2 73 rfl rfl
theorem ia_X1 : Cond.instantiable RX1 4 ∈ zUU := zUA_2 74 rfl rfl
theorem im_X1_init : Cond.instanceMethod yX1_init ∈ zUU := zUA_2 76 rfl rfl
theorem cd_X1_init : Cond.code yX1_init cX1_init 1 none ∈ zUU := zUA_2 77 rfl rfl
theorem ml_X1_3 : Cond.methodLink RX1 3 objectInit ∈ zUU := zUA_2 78 rfl rfl
theorem fl_X1_9 : Cond.fieldLink RX1 9 "ChestnutLine$Meeting" "arrivals" "[I" ∈ zUU := zUA_2 79 rfl rfl
theorem fl_X9_381 : Cond.fieldLink RX9 381 "ChestnutLine$Meeting" "arrivals" "[I" ∈ zUU := zUA_2 80 rfl rfl
theorem fl_X1_15 : Cond.fieldLink RX1 15 "ChestnutLine$Meeting" "waits" "[I" ∈ zUU := zUA_2 81 rfl rfl
theorem fl_X9_384 : Cond.fieldLink RX9 384 "ChestnutLine$Meeting" "waits" "[I" ∈ zUU := zUA_2 82 rfl rfl
theorem fl_X1_31 : Cond.fieldLink RX1 31 "ChestnutLine$Meeting" "allWaits" "I" ∈ zUU := zUA_2 83 rfl rfl
theorem fl_X9_387 : Cond.fieldLink RX9 387 "ChestnutLine$Meeting" "allWaits" "I" ∈ zUU := zUA_2 84 rfl rfl
theorem fl_X1_34 : Cond.fieldLink RX1 34 "ChestnutLine$Meeting" "met" "I" ∈ zUU := zUA_2 85 rfl rfl
theorem fl_X9_390 : Cond.fieldLink RX9 390 "ChestnutLine$Meeting" "met" "I" ∈ zUU := zUA_2 86 rfl rfl
theorem cl_X9_45 : Cond.classLink RX9 45 RX7 ∈ zUU := zUA_2 96 rfl rfl
theorem ia_X7 : Cond.instantiable RX7 3 ∈ zUU := zUA_2 97 rfl rfl
theorem im_X7_init : Cond.instanceMethod yX7_init ∈ zUU := zUA_2 99 rfl rfl
theorem cd_X7_init : Cond.code yX7_init cX7_init 1 none ∈ zUU := zUA_2 100 rfl rfl
theorem ml_X7_3 : Cond.methodLink RX7 3 objectInit ∈ zUU := zUA_2 101 rfl rfl
theorem fl_X7_9 : Cond.fieldLink RX7 9 "ChestnutLine$Spread" "weights" "[J" ∈ zUU := zUA_2 102 rfl rfl
theorem fl_X7_15 : Cond.fieldLink RX7 15 "ChestnutLine$Spread" "top" "I" ∈ zUU := zUA_2 103 rfl rfl
theorem fl_X7_19 : Cond.fieldLink RX7 19 "ChestnutLine$Spread" "whole" "J" ∈ zUU := zUA_2 104 rfl rfl
theorem fl_X9_365 : Cond.fieldLink RX9 365 "ChestnutLine$Spread" "whole" "J" ∈ zUU := zUA_2 105 rfl rfl
theorem ac_long : Cond.arrayClass .long ∈ zUU := zUA_2 113 rfl rfl
theorem cl_X9_52 : Cond.classLink RX9 52 RX6 ∈ zUU := zUA_2 114 rfl rfl
theorem ia_X6 : Cond.instantiable RX6 11 ∈ zUU := zUA_2 115 rfl rfl
theorem im_X6_init : Cond.instanceMethod yX6_init ∈ zUU := zUA_2 117 rfl rfl
theorem cd_X6_init : Cond.code yX6_init cX6_init 1 none ∈ zUU := zUA_2 118 rfl rfl
theorem ml_X6_3 : Cond.methodLink RX6 3 objectInit ∈ zUU := zUA_2 119 rfl rfl
theorem fl_X6_9 : Cond.fieldLink RX6 9 "ChestnutLine$Sets" "bits" "[I" ∈ zUU := zUA_2 120 rfl rfl
theorem fl_X6_15 : Cond.fieldLink RX6 15 "ChestnutLine$Sets" "pounds" "[I" ∈ zUU := zUA_2 121 rfl rfl
theorem fl_X6_18 : Cond.fieldLink RX6 18 "ChestnutLine$Sets" "costs" "[I" ∈ zUU := zUA_2 122 rfl rfl
theorem fl_X6_21 : Cond.fieldLink RX6 21 "ChestnutLine$Sets" "restPounds" "[I" ∈ zUU := zUA_2 123 rfl rfl
theorem fl_X6_24 : Cond.fieldLink RX6 24 "ChestnutLine$Sets" "restCosts" "[I" ∈ zUU := zUA_2 124 rfl rfl
theorem fl_X6_27 : Cond.fieldLink RX6 27 "ChestnutLine$Sets" "dues" "[I" ∈ zUU := zUA_2 125 rfl rfl
theorem fl_X6_30 : Cond.fieldLink RX6 30 "ChestnutLine$Sets" "size" "I" ∈ zUU := zUA_2 126 rfl rfl
theorem fl_X6_34 : Cond.fieldLink RX6 34 "ChestnutLine$Sets" "found" "I" ∈ zUU := zUA_2 127 rfl rfl
theorem fl_X9_330 : Cond.fieldLink RX9 330 "ChestnutLine$Sets" "found" "I" ∈ zUU := zUA_2 128 rfl rfl
theorem fl_X6_37 : Cond.fieldLink RX6 37 "ChestnutLine$Sets" "sure" "I" ∈ zUU := zUA_2 129 rfl rfl
theorem fl_X6_40 : Cond.fieldLink RX6 40 "ChestnutLine$Sets" "maybe" "I" ∈ zUU := zUA_2 130 rfl rfl
theorem fl_X9_336 : Cond.fieldLink RX9 336 "ChestnutLine$Sets" "maybe" "I" ∈ zUU := zUA_2 131 rfl rfl
theorem fl_X6_43 : Cond.fieldLink RX6 43 "ChestnutLine$Sets" "first" "I" ∈ zUU := zUA_2 132 rfl rfl
theorem fl_X9_343 : Cond.fieldLink RX9 343 "ChestnutLine$Sets" "first" "I" ∈ zUU := zUA_2 133 rfl rfl
theorem cl_X9_59 : Cond.classLink RX9 59 RX3 ∈ zUU := zUA_2 157 rfl rfl
theorem ia_X3 : Cond.instantiable RX3 2 ∈ zUU := zUA_2 158 rfl rfl
theorem im_X3_init : Cond.instanceMethod yX3_init ∈ zUU := zUA_2 160 rfl rfl
theorem cd_X3_init : Cond.code yX3_init cX3_init 1 none ∈ zUU := zUA_2 161 rfl rfl
theorem ml_X3_3 : Cond.methodLink RX3 3 objectInit ∈ zUU := zUA_2 162 rfl rfl
theorem fl_X3_9 : Cond.fieldLink RX3 9 "ChestnutLine$Purse" "pounds" "[I" ∈ zUU := zUA_2 163 rfl rfl
theorem fl_X9_316 : Cond.fieldLink RX9 316 "ChestnutLine$Purse" "pounds" "[I" ∈ zUU := zUA_2 164 rfl rfl
theorem fl_X3_15 : Cond.fieldLink RX3 15 "ChestnutLine$Purse" "posts" "[I" ∈ zUU := zUA_2 165 rfl rfl
theorem fl_X9_317 : Cond.fieldLink RX9 317 "ChestnutLine$Purse" "posts" "[I" ∈ zUU := zUA_2 166 rfl rfl
theorem cl_X9_66 : Cond.classLink RX9 66 RX0 ∈ zUU := zUA_2 172 rfl rfl
theorem fl_X9_12 : Cond.fieldLink RX9 12 "ChestnutLine" "now" "LChestnutLine$State;" ∈ zUU := zUA_2 174 rfl rfl
theorem fl_X9_16 : Cond.fieldLink RX9 16 "ChestnutLine" "images" "[LChestnutLine$State;" ∈ zUU := zUA_2 175 rfl rfl
theorem fl_X9_20 : Cond.fieldLink RX9 20 "ChestnutLine" "imageMade" "[Z" ∈ zUU := zUA_2 176 rfl rfl
theorem fl_X9_27 : Cond.fieldLink RX9 27 "ChestnutLine" "reader" "LChestnutLine$Reader;" ∈ zUU := zUA_2 177 rfl rfl
theorem fl_X9_34 : Cond.fieldLink RX9 34 "ChestnutLine" "ride" "LChestnutLine$Ride;" ∈ zUU := zUA_2 178 rfl rfl
theorem fl_X9_41 : Cond.fieldLink RX9 41 "ChestnutLine" "meeting" "LChestnutLine$Meeting;" ∈ zUU := zUA_2 179 rfl rfl
theorem fl_X9_48 : Cond.fieldLink RX9 48 "ChestnutLine" "spread" "LChestnutLine$Spread;" ∈ zUU := zUA_2 180 rfl rfl
theorem fl_X9_55 : Cond.fieldLink RX9 55 "ChestnutLine" "sets" "LChestnutLine$Sets;" ∈ zUU := zUA_2 181 rfl rfl
theorem fl_X9_62 : Cond.fieldLink RX9 62 "ChestnutLine" "bestPurse" "LChestnutLine$Purse;" ∈ zUU := zUA_2 182 rfl rfl
theorem fl_X9_69 : Cond.fieldLink RX9 69 "ChestnutLine" "trial" "LChestnutLine$Line;" ∈ zUU := zUA_2 183 rfl rfl
theorem fl_X9_73 : Cond.fieldLink RX9 73 "ChestnutLine" "gains" "[I" ∈ zUU := zUA_2 184 rfl rfl
theorem ml_L_13 : Cond.methodLink RL 13 yX9_feed ∈ zUU := zUA_2 208 rfl rfl
theorem im_X9_feed : Cond.instanceMethod yX9_feed ∈ zUU := zUA_2 209 rfl rfl
theorem se_X9_feed : Cond.selects RX9 yX9_feed yX9_feed ∈ zUU := zUA_2 210 rfl rfl
theorem cd_X9_feed : Cond.code yX9_feed cX9_feed 6 (some .int) ∈ zUU := zUA_2 211 rfl rfl
theorem ml_X9_81 : Cond.methodLink RX9 81 yX8_append ∈ zUU := zUA_2 212 rfl rfl
theorem im_X8_append : Cond.instanceMethod yX8_append ∈ zUU := zUA_2 213 rfl rfl
theorem se_X8_append : Cond.selects RX8 yX8_append yX8_append ∈ zUU := zUA_2 214 rfl rfl
theorem cd_X8_append : Cond.code yX8_append cX8_append 3 none ∈ zUU := zUA_2 215 rfl rfl
theorem ml_L_18 : Cond.methodLink RL 18 yX9_end ∈ zUU := zUA_2 216 rfl rfl
theorem im_X9_end : Cond.instanceMethod yX9_end ∈ zUU := zUA_2 217 rfl rfl
theorem se_X9_end : Cond.selects RX9 yX9_end yX9_end ∈ zUU := zUA_2 218 rfl rfl
theorem cd_X9_end : Cond.code yX9_end cX9_end 2 (some .int) ∈ zUU := zUA_2 219 rfl rfl
theorem ml_L_23 : Cond.methodLink RL 23 yX9_text ∈ zUU := zUA_2 220 rfl rfl
theorem im_X9_text : Cond.instanceMethod yX9_text ∈ zUU := zUA_2 221 rfl rfl
theorem se_X9_text : Cond.selects RX9 yX9_text yX9_text ∈ zUU := zUA_2 222 rfl rfl
theorem cd_X9_text : Cond.code yX9_text cX9_text 5 (some .int) ∈ zUU := zUA_2 223 rfl rfl
theorem ml_X9_85 : Cond.methodLink RX9 85 yX9_placeFor ∈ zUU := zUA_2 224 rfl rfl
theorem im_X9_placeFor : Cond.instanceMethod yX9_placeFor ∈ zUU := zUA_2 226 rfl rfl
theorem cd_X9_placeFor : Cond.code yX9_placeFor cX9_placeFor 4 (some .int) ∈ zUU := zUA_2 227 rfl rfl
theorem ml_X9_109 : Cond.methodLink RX9 109 yX9_isSort ∈ zUU := zUA_2 228 rfl rfl
theorem st_X9_isSort : Cond.static yX9_isSort ∈ zUU := zUA_2 229 rfl rfl
theorem cd_X9_isSort : Cond.code yX9_isSort cX9_isSort 1 (some .boolean) ∈ zUU := zUA_2 230 rfl rfl
theorem ml_X9_113 : Cond.methodLink RX9 113 yX8_howMany ∈ zUU := zUA_2 231 rfl rfl
theorem im_X8_howMany : Cond.instanceMethod yX8_howMany ∈ zUU := zUA_2 232 rfl rfl
theorem se_X8_howMany : Cond.selects RX8 yX8_howMany yX8_howMany ∈ zUU := zUA_2 233 rfl rfl
theorem cd_X8_howMany : Cond.code yX8_howMany cX8_howMany 2 (some .int) ∈ zUU := zUA_2 234 rfl rfl
theorem ml_X9_99 : Cond.methodLink RX9 99 yX4_readTape ∈ zUU := zUA_2 236 rfl rfl
theorem im_X4_readTape : Cond.instanceMethod yX4_readTape ∈ zUU := zUA_2 237 rfl rfl
theorem se_X4_readTape : Cond.selects RX4 yX4_readTape yX4_readTape ∈ zUU := zUA_2 238 rfl rfl
theorem cd_X4_readTape : Cond.code yX4_readTape cX4_readTape 4 none ∈ zUU := zUA_2 239 rfl rfl
theorem ml_X4_36 : Cond.methodLink RX4 36 Lib.Math.min.name ∈ zUU := zUA_3 0 rfl rfl
theorem st_math_min : Cond.static Lib.Math.min.name ∈ zUU := zUA_3 1 rfl rfl
theorem cd_math_min : Cond.code Lib.Math.min.name Lib.Math.min.code 2 (some .int) ∈ zUU := zUA_3 2 rfl rfl
theorem ml_X4_42 : Cond.methodLink RX4 42 Lib.Math.max.name ∈ zUU := zUA_3 3 rfl rfl
theorem st_math_max : Cond.static Lib.Math.max.name ∈ zUU := zUA_3 4 rfl rfl
theorem cd_math_max : Cond.code Lib.Math.max.name Lib.Math.max.code 2 (some .int) ∈ zUU := zUA_3 5 rfl rfl
theorem ml_X4_49 : Cond.methodLink RX4 49 arraycopyName ∈ zUU := zUA_3 6 rfl rfl
theorem st_arraycopy : Cond.static arraycopyName ∈ zUU := zUA_3 7 rfl rfl
theorem na_arraycopy : Cond.native arraycopyName ∈ zUU := zUA_3 8 rfl rfl
theorem ml_X4_67 : Cond.methodLink RX4 67 yX0_clear ∈ zUU := zUA_3 9 rfl rfl
theorem im_X0_clear : Cond.instanceMethod yX0_clear ∈ zUU := zUA_3 10 rfl rfl
theorem se_X0_clear : Cond.selects RX0 yX0_clear yX0_clear ∈ zUU := zUA_3 11 rfl rfl
theorem cd_X0_clear : Cond.code yX0_clear cX0_clear 2 none ∈ zUU := zUA_3 12 rfl rfl
theorem ml_X4_73 : Cond.methodLink RX4 73 yX4_readRows ∈ zUU := zUA_3 13 rfl rfl
theorem im_X4_readRows : Cond.instanceMethod yX4_readRows ∈ zUU := zUA_3 15 rfl rfl
theorem cd_X4_readRows : Cond.code yX4_readRows cX4_readRows 5 none ∈ zUU := zUA_3 16 rfl rfl
theorem ml_X4_84 : Cond.methodLink RX4 84 yX4_nextToken ∈ zUU := zUA_3 17 rfl rfl
theorem im_X4_nextToken : Cond.instanceMethod yX4_nextToken ∈ zUU := zUA_3 19 rfl rfl
theorem cd_X4_nextToken : Cond.code yX4_nextToken cX4_nextToken 1 none ∈ zUU := zUA_3 20 rfl rfl
theorem ml_X4_104 : Cond.methodLink RX4 104 yX4_isLetter ∈ zUU := zUA_3 21 rfl rfl
theorem im_X4_isLetter : Cond.instanceMethod yX4_isLetter ∈ zUU := zUA_3 23 rfl rfl
theorem cd_X4_isLetter : Cond.code yX4_isLetter cX4_isLetter 2 (some .boolean) ∈ zUU := zUA_3 24 rfl rfl
theorem ml_X4_107 : Cond.methodLink RX4 107 yX4_isDigit ∈ zUU := zUA_3 25 rfl rfl
theorem im_X4_isDigit : Cond.instanceMethod yX4_isDigit ∈ zUU := zUA_3 27 rfl rfl
theorem cd_X4_isDigit : Cond.code yX4_isDigit cX4_isDigit 2 (some .boolean) ∈ zUU := zUA_3 28 rfl rfl
theorem ml_X4_110 : Cond.methodLink RX4 110 yX4_takeDigits ∈ zUU := zUA_3 29 rfl rfl
theorem im_X4_takeDigits : Cond.instanceMethod yX4_takeDigits ∈ zUU := zUA_3 31 rfl rfl
theorem cd_X4_takeDigits : Cond.code yX4_takeDigits cX4_takeDigits 1 none ∈ zUU := zUA_3 32 rfl rfl
theorem ml_X4_93 : Cond.methodLink RX4 93 yX4_wordOf ∈ zUU := zUA_3 33 rfl rfl
theorem im_X4_wordOf : Cond.instanceMethod yX4_wordOf ∈ zUU := zUA_3 35 rfl rfl
theorem cd_X4_wordOf : Cond.code yX4_wordOf cX4_wordOf 2 (some .int) ∈ zUU := zUA_3 36 rfl rfl
theorem ml_X4_118 : Cond.methodLink RX4 118 yX4_isWord ∈ zUU := zUA_3 38 rfl rfl
theorem im_X4_isWord : Cond.instanceMethod yX4_isWord ∈ zUU := zUA_3 40 rfl rfl
theorem cd_X4_isWord : Cond.code yX4_isWord cX4_isWord 3 (some .boolean) ∈ zUU := zUA_3 41 rfl rfl
theorem ml_X4_124 : Cond.methodLink RX4 124 yX4_lineWord ∈ zUU := zUA_3 91 rfl rfl
theorem im_X4_lineWord : Cond.instanceMethod yX4_lineWord ∈ zUU := zUA_3 93 rfl rfl
theorem cd_X4_lineWord : Cond.code yX4_lineWord cX4_lineWord 1 (some .int) ∈ zUU := zUA_3 94 rfl rfl
theorem ml_X4_97 : Cond.methodLink RX4 97 yX4_readNumbers ∈ zUU := zUA_3 104 rfl rfl
theorem im_X4_readNumbers : Cond.instanceMethod yX4_readNumbers ∈ zUU := zUA_3 106 rfl rfl
theorem cd_X4_readNumbers : Cond.code yX4_readNumbers cX4_readNumbers 4 (some .boolean) ∈ zUU := zUA_3 107 rfl rfl
theorem ml_X4_154 : Cond.methodLink RX4 154 yX4_howManyNumbers ∈ zUU := zUA_3 108 rfl rfl
theorem st_X4_howManyNumbers : Cond.static yX4_howManyNumbers ∈ zUU := zUA_3 109 rfl rfl
theorem cd_X4_howManyNumbers : Cond.code yX4_howManyNumbers cX4_howManyNumbers 1 (some .int) ∈ zUU := zUA_3 110 rfl rfl
theorem ml_X4_101 : Cond.methodLink RX4 101 yX4_tell ∈ zUU := zUA_3 111 rfl rfl
theorem im_X4_tell : Cond.instanceMethod yX4_tell ∈ zUU := zUA_3 113 rfl rfl
theorem cd_X4_tell : Cond.code yX4_tell cX4_tell 3 none ∈ zUU := zUA_3 114 rfl rfl
theorem ml_X4_157 : Cond.methodLink RX4 157 yX4_tellPost ∈ zUU := zUA_3 115 rfl rfl
theorem im_X4_tellPost : Cond.instanceMethod yX4_tellPost ∈ zUU := zUA_3 117 rfl rfl
theorem cd_X4_tellPost : Cond.code yX4_tellPost cX4_tellPost 3 none ∈ zUU := zUA_3 118 rfl rfl
theorem ml_X4_80 : Cond.methodLink RX4 80 yX4_note ∈ zUU := zUA_3 119 rfl rfl
theorem im_X4_note : Cond.instanceMethod yX4_note ∈ zUU := zUA_3 121 rfl rfl
theorem cd_X4_note : Cond.code yX4_note cX4_note 3 none ∈ zUU := zUA_3 122 rfl rfl
theorem ml_X4_172 : Cond.methodLink RX4 172 yX4_number ∈ zUU := zUA_3 123 rfl rfl
theorem im_X4_number : Cond.instanceMethod yX4_number ∈ zUU := zUA_3 125 rfl rfl
theorem cd_X4_number : Cond.code yX4_number cX4_number 4 (some .int) ∈ zUU := zUA_3 126 rfl rfl
theorem ml_X4_160 : Cond.methodLink RX4 160 yX4_tellRider ∈ zUU := zUA_3 127 rfl rfl
theorem im_X4_tellRider : Cond.instanceMethod yX4_tellRider ∈ zUU := zUA_3 129 rfl rfl
theorem cd_X4_tellRider : Cond.code yX4_tellRider cX4_tellRider 3 none ∈ zUU := zUA_3 130 rfl rfl
theorem ml_X4_166 : Cond.methodLink RX4 166 yX4_tellOfPost ∈ zUU := zUA_3 131 rfl rfl
theorem im_X4_tellOfPost : Cond.instanceMethod yX4_tellOfPost ∈ zUU := zUA_3 133 rfl rfl
theorem cd_X4_tellOfPost : Cond.code yX4_tellOfPost cX4_tellOfPost 5 none ∈ zUU := zUA_3 134 rfl rfl
theorem ml_X4_186 : Cond.methodLink RX4 186 yX4_tellPair ∈ zUU := zUA_3 135 rfl rfl
theorem im_X4_tellPair : Cond.instanceMethod yX4_tellPair ∈ zUU := zUA_3 137 rfl rfl
theorem cd_X4_tellPair : Cond.code yX4_tellPair cX4_tellPair 5 none ∈ zUU := zUA_3 138 rfl rfl
theorem ml_X4_220 : Cond.methodLink RX4 220 yX2_add ∈ zUU := zUA_3 139 rfl rfl
theorem im_X2_add : Cond.instanceMethod yX2_add ∈ zUU := zUA_3 140 rfl rfl
theorem se_X2_add : Cond.selects RX2 yX2_add yX2_add ∈ zUU := zUA_3 141 rfl rfl
theorem cd_X2_add : Cond.code yX2_add cX2_add 3 none ∈ zUU := zUA_3 142 rfl rfl
theorem ml_X9_105 : Cond.methodLink RX9 105 yX8_put ∈ zUU := zUA_3 143 rfl rfl
theorem im_X8_put : Cond.instanceMethod yX8_put ∈ zUU := zUA_3 144 rfl rfl
theorem se_X8_put : Cond.selects RX8 yX8_put yX8_put ∈ zUU := zUA_3 145 rfl rfl
theorem cd_X8_put : Cond.code yX8_put cX8_put 4 none ∈ zUU := zUA_3 146 rfl rfl
theorem ml_X8_46 : Cond.methodLink RX8 46 yX0_copyFrom ∈ zUU := zUA_3 147 rfl rfl
theorem im_X0_copyFrom : Cond.instanceMethod yX0_copyFrom ∈ zUU := zUA_3 148 rfl rfl
theorem se_X0_copyFrom : Cond.selects RX0 yX0_copyFrom yX0_copyFrom ∈ zUU := zUA_3 149 rfl rfl
theorem cd_X0_copyFrom : Cond.code yX0_copyFrom cX0_copyFrom 2 none ∈ zUU := zUA_3 150 rfl rfl
theorem ml_X0_67 : Cond.methodLink RX0 67 arraycopyName ∈ zUU := zUA_3 151 rfl rfl
theorem ml_X8_50 : Cond.methodLink RX8 50 yX2_copyFrom ∈ zUU := zUA_3 152 rfl rfl
theorem im_X2_copyFrom : Cond.instanceMethod yX2_copyFrom ∈ zUU := zUA_3 153 rfl rfl
theorem se_X2_copyFrom : Cond.selects RX2 yX2_copyFrom yX2_copyFrom ∈ zUU := zUA_3 154 rfl rfl
theorem cd_X2_copyFrom : Cond.code yX2_copyFrom cX2_copyFrom 2 none ∈ zUU := zUA_3 155 rfl rfl
theorem ml_X2_18 : Cond.methodLink RX2 18 arraycopyName ∈ zUU := zUA_3 156 rfl rfl
theorem ml_X8_77 : Cond.methodLink RX8 77 Lib.Math.max.name ∈ zUU := zUA_3 157 rfl rfl
theorem ml_L_28 : Cond.methodLink RL 28 yX9_fault ∈ zUU := zUA_3 158 rfl rfl
theorem im_X9_fault : Cond.instanceMethod yX9_fault ∈ zUU := zUA_3 159 rfl rfl
theorem se_X9_fault : Cond.selects RX9 yX9_fault yX9_fault ∈ zUU := zUA_3 160 rfl rfl
theorem cd_X9_fault : Cond.code yX9_fault cX9_fault 2 (some .int) ∈ zUU := zUA_3 161 rfl rfl
theorem ml_L_145 : Cond.methodLink RL 145 yX9_count ∈ zUU := zUA_3 162 rfl rfl
theorem im_X9_count : Cond.instanceMethod yX9_count ∈ zUU := zUA_3 163 rfl rfl
theorem se_X9_count : Cond.selects RX9 yX9_count yX9_count ∈ zUU := zUA_3 164 rfl rfl
theorem cd_X9_count : Cond.code yX9_count cX9_count 2 (some .int) ∈ zUU := zUA_3 165 rfl rfl
theorem ml_L_149 : Cond.methodLink RL 149 yX9_image ∈ zUU := zUA_3 166 rfl rfl
theorem im_X9_image : Cond.instanceMethod yX9_image ∈ zUU := zUA_3 167 rfl rfl
theorem se_X9_image : Cond.selects RX9 yX9_image yX9_image ∈ zUU := zUA_3 168 rfl rfl
theorem cd_X9_image : Cond.code yX9_image cX9_image 2 (some .boolean) ∈ zUU := zUA_3 169 rfl rfl
theorem ml_X9_117 : Cond.methodLink RX9 117 yX8_copyFrom ∈ zUU := zUA_3 170 rfl rfl
theorem im_X8_copyFrom : Cond.instanceMethod yX8_copyFrom ∈ zUU := zUA_3 171 rfl rfl
theorem se_X8_copyFrom : Cond.selects RX8 yX8_copyFrom yX8_copyFrom ∈ zUU := zUA_3 172 rfl rfl
theorem cd_X8_copyFrom : Cond.code yX8_copyFrom cX8_copyFrom 3 none ∈ zUU := zUA_3 173 rfl rfl
theorem ml_X8_40 : Cond.methodLink RX8 40 arraycopyName ∈ zUU := zUA_3 174 rfl rfl
theorem ml_L_154 : Cond.methodLink RL 154 yX9_again ∈ zUU := zUA_3 175 rfl rfl
theorem im_X9_again : Cond.instanceMethod yX9_again ∈ zUU := zUA_3 176 rfl rfl
theorem se_X9_again : Cond.selects RX9 yX9_again yX9_again ∈ zUU := zUA_3 177 rfl rfl
theorem cd_X9_again : Cond.code yX9_again cX9_again 2 (some .boolean) ∈ zUU := zUA_3 178 rfl rfl
theorem ml_L_32 : Cond.methodLink RL 32 yX9_line ∈ zUU := zUA_3 179 rfl rfl
theorem im_X9_line : Cond.instanceMethod yX9_line ∈ zUU := zUA_3 180 rfl rfl
theorem se_X9_line : Cond.selects RX9 yX9_line yX9_line ∈ zUU := zUA_3 181 rfl rfl
theorem cd_X9_line : Cond.code yX9_line cX9_line 4 (some .int) ∈ zUU := zUA_3 182 rfl rfl
theorem ml_X9_121 : Cond.methodLink RX9 121 yX8_lineAt ∈ zUU := zUA_3 183 rfl rfl
theorem im_X8_lineAt : Cond.instanceMethod yX8_lineAt ∈ zUU := zUA_3 184 rfl rfl
theorem se_X8_lineAt : Cond.selects RX8 yX8_lineAt yX8_lineAt ∈ zUU := zUA_3 185 rfl rfl
theorem cd_X8_lineAt : Cond.code yX8_lineAt cX8_lineAt 2 (some (.object "ChestnutLine$Line")) ∈ zUU := zUA_3 186 rfl rfl
theorem ml_X8_63 : Cond.methodLink RX8 63 yX8_has ∈ zUU := zUA_3 187 rfl rfl
theorem im_X8_has : Cond.instanceMethod yX8_has ∈ zUU := zUA_3 189 rfl rfl
theorem cd_X8_has : Cond.code yX8_has cX8_has 3 (some .boolean) ∈ zUU := zUA_3 190 rfl rfl
theorem ml_X9_146 : Cond.methodLink RX9 146 yX0_stations ∈ zUU := zUA_3 191 rfl rfl
theorem im_X0_stations : Cond.instanceMethod yX0_stations ∈ zUU := zUA_3 192 rfl rfl
theorem se_X0_stations : Cond.selects RX0 yX0_stations yX0_stations ∈ zUU := zUA_3 193 rfl rfl
theorem cd_X0_stations : Cond.code yX0_stations cX0_stations 3 (some .int) ∈ zUU := zUA_3 194 rfl rfl
theorem ml_L_36 : Cond.methodLink RL 36 yX9_post ∈ zUU := zUA_3 195 rfl rfl
theorem im_X9_post : Cond.instanceMethod yX9_post ∈ zUU := zUA_3 196 rfl rfl
theorem se_X9_post : Cond.selects RX9 yX9_post yX9_post ∈ zUU := zUA_3 197 rfl rfl
theorem cd_X9_post : Cond.code yX9_post cX9_post 5 (some .int) ∈ zUU := zUA_3 198 rfl rfl
theorem ml_X9_150 : Cond.methodLink RX9 150 yX0_hasPost ∈ zUU := zUA_3 199 rfl rfl
theorem im_X0_hasPost : Cond.instanceMethod yX0_hasPost ∈ zUU := zUA_3 200 rfl rfl
theorem se_X0_hasPost : Cond.selects RX0 yX0_hasPost yX0_hasPost ∈ zUU := zUA_3 201 rfl rfl
theorem cd_X0_hasPost : Cond.code yX0_hasPost cX0_hasPost 2 (some .boolean) ∈ zUU := zUA_3 202 rfl rfl
theorem ml_X9_153 : Cond.methodLink RX9 153 yX0_poundsIn ∈ zUU := zUA_3 203 rfl rfl
theorem im_X0_poundsIn : Cond.instanceMethod yX0_poundsIn ∈ zUU := zUA_3 204 rfl rfl
theorem se_X0_poundsIn : Cond.selects RX0 yX0_poundsIn yX0_poundsIn ∈ zUU := zUA_3 205 rfl rfl
theorem cd_X0_poundsIn : Cond.code yX0_poundsIn cX0_poundsIn 3 (some .int) ∈ zUU := zUA_3 206 rfl rfl
theorem ml_X0_77 : Cond.methodLink RX0 77 Lib.Math.max.name ∈ zUU := zUA_3 207 rfl rfl
theorem ml_X9_171 : Cond.methodLink RX9 171 yX0_cost ∈ zUU := zUA_3 208 rfl rfl
theorem im_X0_cost : Cond.instanceMethod yX0_cost ∈ zUU := zUA_3 209 rfl rfl
theorem se_X0_cost : Cond.selects RX0 yX0_cost yX0_cost ∈ zUU := zUA_3 210 rfl rfl
theorem cd_X0_cost : Cond.code yX0_cost cX0_cost 3 (some .int) ∈ zUU := zUA_3 211 rfl rfl
theorem ml_L_41 : Cond.methodLink RL 41 yX9_rider ∈ zUU := zUA_3 212 rfl rfl
theorem im_X9_rider : Cond.instanceMethod yX9_rider ∈ zUU := zUA_3 213 rfl rfl
theorem se_X9_rider : Cond.selects RX9 yX9_rider yX9_rider ∈ zUU := zUA_3 214 rfl rfl
theorem cd_X9_rider : Cond.code yX9_rider cX9_rider 5 (some .int) ∈ zUU := zUA_3 215 rfl rfl
theorem ml_X9_174 : Cond.methodLink RX9 174 yX0_hasRider ∈ zUU := zUA_3 216 rfl rfl
theorem im_X0_hasRider : Cond.instanceMethod yX0_hasRider ∈ zUU := zUA_3 217 rfl rfl
theorem se_X0_hasRider : Cond.selects RX0 yX0_hasRider yX0_hasRider ∈ zUU := zUA_3 218 rfl rfl
theorem cd_X0_hasRider : Cond.code yX0_hasRider cX0_hasRider 2 (some .boolean) ∈ zUU := zUA_3 219 rfl rfl
theorem ml_L_87 : Cond.methodLink RL 87 yX9_pull ∈ zUU := zUA_3 220 rfl rfl
theorem im_X9_pull : Cond.instanceMethod yX9_pull ∈ zUU := zUA_3 221 rfl rfl
theorem se_X9_pull : Cond.selects RX9 yX9_pull yX9_pull ∈ zUU := zUA_3 222 rfl rfl
theorem cd_X9_pull : Cond.code yX9_pull cX9_pull 4 (some .int) ∈ zUU := zUA_3 223 rfl rfl
theorem ml_X9_195 : Cond.methodLink RX9 195 yX8_planAt ∈ zUU := zUA_3 224 rfl rfl
theorem im_X8_planAt : Cond.instanceMethod yX8_planAt ∈ zUU := zUA_3 225 rfl rfl
theorem se_X8_planAt : Cond.selects RX8 yX8_planAt yX8_planAt ∈ zUU := zUA_3 226 rfl rfl
theorem cd_X8_planAt : Cond.code yX8_planAt cX8_planAt 2 (some (.object "ChestnutLine$Pairs")) ∈ zUU := zUA_3 227 rfl rfl
theorem ml_X9_199 : Cond.methodLink RX9 199 yX9_pairAnswer ∈ zUU := zUA_3 228 rfl rfl
theorem st_X9_pairAnswer : Cond.static yX9_pairAnswer ∈ zUU := zUA_3 229 rfl rfl
theorem cd_X9_pairAnswer : Cond.code yX9_pairAnswer cX9_pairAnswer 3 (some .int) ∈ zUU := zUA_3 230 rfl rfl
theorem ml_L_121 : Cond.methodLink RL 121 yX9_seen ∈ zUU := zUA_3 231 rfl rfl
theorem im_X9_seen : Cond.instanceMethod yX9_seen ∈ zUU := zUA_3 232 rfl rfl
theorem se_X9_seen : Cond.selects RX9 yX9_seen yX9_seen ∈ zUU := zUA_3 233 rfl rfl
theorem cd_X9_seen : Cond.code yX9_seen cX9_seen 4 (some .int) ∈ zUU := zUA_3 234 rfl rfl
theorem ml_X9_203 : Cond.methodLink RX9 203 yX8_logAt ∈ zUU := zUA_3 235 rfl rfl
theorem im_X8_logAt : Cond.instanceMethod yX8_logAt ∈ zUU := zUA_3 236 rfl rfl
theorem se_X8_logAt : Cond.selects RX8 yX8_logAt yX8_logAt ∈ zUU := zUA_3 237 rfl rfl
theorem cd_X8_logAt : Cond.code yX8_logAt cX8_logAt 2 (some (.object "ChestnutLine$Pairs")) ∈ zUU := zUA_3 238 rfl rfl
theorem ml_L_45 : Cond.methodLink RL 45 yX9_run ∈ zUU := zUA_3 239 rfl rfl
theorem im_X9_run : Cond.instanceMethod yX9_run ∈ zUU := zUA_4 0 rfl rfl
theorem se_X9_run : Cond.selects RX9 yX9_run yX9_run ∈ zUU := zUA_4 1 rfl rfl
theorem cd_X9_run : Cond.code yX9_run cX9_run 7 (some .int) ∈ zUU := zUA_4 2 rfl rfl
theorem ml_X9_206 : Cond.methodLink RX9 206 yX9_ridden ∈ zUU := zUA_4 3 rfl rfl
theorem im_X9_ridden : Cond.instanceMethod yX9_ridden ∈ zUU := zUA_4 5 rfl rfl
theorem cd_X9_ridden : Cond.code yX9_ridden cX9_ridden 6 (some (.object "ChestnutLine$Line")) ∈ zUU := zUA_4 6 rfl rfl
theorem ml_X9_254 : Cond.methodLink RX9 254 yX9_isWeek ∈ zUU := zUA_4 7 rfl rfl
theorem st_X9_isWeek : Cond.static yX9_isWeek ∈ zUU := zUA_4 8 rfl rfl
theorem cd_X9_isWeek : Cond.code yX9_isWeek cX9_isWeek 1 (some .boolean) ∈ zUU := zUA_4 9 rfl rfl
theorem ml_X9_261 : Cond.methodLink RX9 261 yX5_byLaw ∈ zUU := zUA_4 10 rfl rfl
theorem im_X5_byLaw : Cond.instanceMethod yX5_byLaw ∈ zUU := zUA_4 11 rfl rfl
theorem se_X5_byLaw : Cond.selects RX5 yX5_byLaw yX5_byLaw ∈ zUU := zUA_4 12 rfl rfl
theorem cd_X5_byLaw : Cond.code yX5_byLaw cX5_byLaw 8 none ∈ zUU := zUA_4 13 rfl rfl
theorem ml_X5_24 : Cond.methodLink RX5 24 yX5_begin ∈ zUU := zUA_4 14 rfl rfl
theorem im_X5_begin : Cond.instanceMethod yX5_begin ∈ zUU := zUA_4 16 rfl rfl
theorem cd_X5_begin : Cond.code yX5_begin cX5_begin 4 none ∈ zUU := zUA_4 17 rfl rfl
theorem ml_X5_64 : Cond.methodLink RX5 64 yX0_poundsIn ∈ zUU := zUA_4 18 rfl rfl
theorem ml_X5_37 : Cond.methodLink RX5 37 yX5_wantingAt ∈ zUU := zUA_4 19 rfl rfl
theorem im_X5_wantingAt : Cond.instanceMethod yX5_wantingAt ∈ zUU := zUA_4 21 rfl rfl
theorem cd_X5_wantingAt : Cond.code yX5_wantingAt cX5_wantingAt 6 (some .int) ∈ zUU := zUA_4 22 rfl rfl
theorem ml_X5_103 : Cond.methodLink RX5 103 yX0_cost ∈ zUU := zUA_4 23 rfl rfl
theorem ml_X5_60 : Cond.methodLink RX5 60 yX5_canPull ∈ zUU := zUA_4 24 rfl rfl
theorem im_X5_canPull : Cond.instanceMethod yX5_canPull ∈ zUU := zUA_4 26 rfl rfl
theorem cd_X5_canPull : Cond.code yX5_canPull cX5_canPull 4 (some .boolean) ∈ zUU := zUA_4 27 rfl rfl
theorem ml_X5_95 : Cond.methodLink RX5 95 yX0_hasRider ∈ zUU := zUA_4 28 rfl rfl
theorem ml_X5_99 : Cond.methodLink RX5 99 yX0_carries ∈ zUU := zUA_4 29 rfl rfl
theorem im_X0_carries : Cond.instanceMethod yX0_carries ∈ zUU := zUA_4 30 rfl rfl
theorem se_X0_carries : Cond.selects RX0 yX0_carries yX0_carries ∈ zUU := zUA_4 31 rfl rfl
theorem cd_X0_carries : Cond.code yX0_carries cX0_carries 3 (some .boolean) ∈ zUU := zUA_4 32 rfl rfl
theorem ml_X5_41 : Cond.methodLink RX5 41 yX5_chosen ∈ zUU := zUA_4 33 rfl rfl
theorem im_X5_chosen : Cond.instanceMethod yX5_chosen ∈ zUU := zUA_4 35 rfl rfl
theorem cd_X5_chosen : Cond.code yX5_chosen cX5_chosen 4 (some .int) ∈ zUU := zUA_4 36 rfl rfl
theorem ml_X5_113 : Cond.methodLink RX5 113 yX5_leastOf ∈ zUU := zUA_4 37 rfl rfl
theorem st_X5_leastOf : Cond.static yX5_leastOf ∈ zUU := zUA_4 38 rfl rfl
theorem cd_X5_leastOf : Cond.code yX5_leastOf cX5_leastOf 1 (some .int) ∈ zUU := zUA_4 39 rfl rfl
theorem ml_X5_124 : Cond.methodLink RX5 124 yX5_nthOf ∈ zUU := zUA_4 40 rfl rfl
theorem st_X5_nthOf : Cond.static yX5_nthOf ∈ zUU := zUA_4 41 rfl rfl
theorem cd_X5_nthOf : Cond.code yX5_nthOf cX5_nthOf 4 (some .int) ∈ zUU := zUA_4 42 rfl rfl
theorem ml_X5_116 : Cond.methodLink RX5 116 yJ6_bitCount_0f7a4 ∈ zUU := zUA_4 43 rfl rfl
theorem st_J6_bitCount_0f7a4 : Cond.static yJ6_bitCount_0f7a4 ∈ zUU := zUA_4 44 rfl rfl
theorem cd_J6_bitCount_0f7a4 : Cond.code yJ6_bitCount_0f7a4 cJ6_bitCount_0f7a4 1 (some .int) ∈ zUU := zUA_4 45 rfl rfl
theorem co_J6_265 : Cond.constant RJ6 265 (1431655765) ∈ zUU := zUA_4 46 rfl rfl
theorem co_J6_266 : Cond.constant RJ6 266 (858993459) ∈ zUU := zUA_4 47 rfl rfl
theorem co_J6_267 : Cond.constant RJ6 267 (252645135) ∈ zUU := zUA_4 48 rfl rfl
theorem ml_X5_121 : Cond.methodLink RX5 121 yX5_drawBelow ∈ zUU := zUA_4 49 rfl rfl
theorem im_X5_drawBelow : Cond.instanceMethod yX5_drawBelow ∈ zUU := zUA_4 51 rfl rfl
theorem cd_X5_drawBelow : Cond.code yX5_drawBelow cX5_drawBelow 2 (some .int) ∈ zUU := zUA_4 52 rfl rfl
theorem co_X5_133 : Cond.constant RX5 133 (1103515245) ∈ zUU := zUA_4 53 rfl rfl
theorem ml_X5_127 : Cond.methodLink RX5 127 yX5_highestFare ∈ zUU := zUA_4 54 rfl rfl
theorem st_X5_highestFare : Cond.static yX5_highestFare ∈ zUU := zUA_4 55 rfl rfl
theorem cd_X5_highestFare : Cond.code yX5_highestFare cX5_highestFare 5 (some .int) ∈ zUU := zUA_4 56 rfl rfl
theorem ml_X5_45 : Cond.methodLink RX5 45 yX5_stopAt ∈ zUU := zUA_4 57 rfl rfl
theorem im_X5_stopAt : Cond.instanceMethod yX5_stopAt ∈ zUU := zUA_4 59 rfl rfl
theorem cd_X5_stopAt : Cond.code yX5_stopAt cX5_stopAt 6 none ∈ zUU := zUA_4 60 rfl rfl
theorem ml_X5_134 : Cond.methodLink RX5 134 Lib.Math.min.name ∈ zUU := zUA_4 61 rfl rfl
theorem ml_X9_210 : Cond.methodLink RX9 210 yX5_arrival ∈ zUU := zUA_4 62 rfl rfl
theorem im_X5_arrival : Cond.instanceMethod yX5_arrival ∈ zUU := zUA_4 63 rfl rfl
theorem se_X5_arrival : Cond.selects RX5 yX5_arrival yX5_arrival ∈ zUU := zUA_4 64 rfl rfl
theorem cd_X5_arrival : Cond.code yX5_arrival cX5_arrival 3 (some .int) ∈ zUU := zUA_4 65 rfl rfl
theorem ml_X5_142 : Cond.methodLink RX5 142 yX0_minutesTo ∈ zUU := zUA_4 66 rfl rfl
theorem im_X0_minutesTo : Cond.instanceMethod yX0_minutesTo ∈ zUU := zUA_4 67 rfl rfl
theorem se_X0_minutesTo : Cond.selects RX0 yX0_minutesTo yX0_minutesTo ∈ zUU := zUA_4 68 rfl rfl
theorem cd_X0_minutesTo : Cond.code yX0_minutesTo cX0_minutesTo 4 (some .int) ∈ zUU := zUA_4 69 rfl rfl
theorem ml_X5_145 : Cond.methodLink RX5 145 yX0_costsBefore ∈ zUU := zUA_4 70 rfl rfl
theorem im_X0_costsBefore : Cond.instanceMethod yX0_costsBefore ∈ zUU := zUA_4 71 rfl rfl
theorem se_X0_costsBefore : Cond.selects RX0 yX0_costsBefore yX0_costsBefore ∈ zUU := zUA_4 72 rfl rfl
theorem cd_X0_costsBefore : Cond.code yX0_costsBefore cX0_costsBefore 5 (some .int) ∈ zUU := zUA_4 73 rfl rfl
theorem ml_X0_83 : Cond.methodLink RX0 83 yX0_cost ∈ zUU := zUA_4 74 rfl rfl
theorem ml_X9_229 : Cond.methodLink RX9 229 yX5_fines ∈ zUU := zUA_4 75 rfl rfl
theorem im_X5_fines : Cond.instanceMethod yX5_fines ∈ zUU := zUA_4 76 rfl rfl
theorem se_X5_fines : Cond.selects RX5 yX5_fines yX5_fines ∈ zUU := zUA_4 77 rfl rfl
theorem cd_X5_fines : Cond.code yX5_fines cX5_fines 4 (some .int) ∈ zUU := zUA_4 78 rfl rfl
theorem ml_X5_157 : Cond.methodLink RX5 157 yX0_isStation ∈ zUU := zUA_4 79 rfl rfl
theorem im_X0_isStation : Cond.instanceMethod yX0_isStation ∈ zUU := zUA_4 80 rfl rfl
theorem se_X0_isStation : Cond.selects RX0 yX0_isStation yX0_isStation ∈ zUU := zUA_4 81 rfl rfl
theorem cd_X0_isStation : Cond.code yX0_isStation cX0_isStation 2 (some .boolean) ∈ zUU := zUA_4 82 rfl rfl
theorem ml_X0_73 : Cond.methodLink RX0 73 yX0_hasPost ∈ zUU := zUA_4 83 rfl rfl
theorem ml_X5_160 : Cond.methodLink RX5 160 yX5_lateAt ∈ zUU := zUA_4 84 rfl rfl
theorem im_X5_lateAt : Cond.instanceMethod yX5_lateAt ∈ zUU := zUA_4 85 rfl rfl
theorem se_X5_lateAt : Cond.selects RX5 yX5_lateAt yX5_lateAt ∈ zUU := zUA_4 86 rfl rfl
theorem cd_X5_lateAt : Cond.code yX5_lateAt cX5_lateAt 3 (some .int) ∈ zUU := zUA_4 87 rfl rfl
theorem ml_X5_148 : Cond.methodLink RX5 148 yX5_arrival ∈ zUU := zUA_4 88 rfl rfl
theorem ml_X5_154 : Cond.methodLink RX5 154 Lib.Math.max.name ∈ zUU := zUA_4 89 rfl rfl
theorem ml_L_49 : Cond.methodLink RL 49 yX9_who ∈ zUU := zUA_4 90 rfl rfl
theorem im_X9_who : Cond.instanceMethod yX9_who ∈ zUU := zUA_4 91 rfl rfl
theorem se_X9_who : Cond.selects RX9 yX9_who yX9_who ∈ zUU := zUA_4 92 rfl rfl
theorem cd_X9_who : Cond.code yX9_who cX9_who 7 (some .int) ∈ zUU := zUA_4 93 rfl rfl
theorem ml_L_53 : Cond.methodLink RL 53 yX9_late ∈ zUU := zUA_4 94 rfl rfl
theorem im_X9_late : Cond.instanceMethod yX9_late ∈ zUU := zUA_4 95 rfl rfl
theorem se_X9_late : Cond.selects RX9 yX9_late yX9_late ∈ zUU := zUA_4 96 rfl rfl
theorem cd_X9_late : Cond.code yX9_late cX9_late 7 (some .int) ∈ zUU := zUA_4 97 rfl rfl
theorem ml_X9_242 : Cond.methodLink RX9 242 yX0_isStation ∈ zUU := zUA_4 98 rfl rfl
theorem ml_X9_245 : Cond.methodLink RX9 245 yX5_lateAt ∈ zUU := zUA_4 99 rfl rfl
theorem ml_L_137 : Cond.methodLink RL 137 yX9_left ∈ zUU := zUA_4 100 rfl rfl
theorem im_X9_left : Cond.instanceMethod yX9_left ∈ zUU := zUA_4 101 rfl rfl
theorem se_X9_left : Cond.selects RX9 yX9_left yX9_left ∈ zUU := zUA_4 102 rfl rfl
theorem cd_X9_left : Cond.code yX9_left cX9_left 7 (some .int) ∈ zUU := zUA_4 103 rfl rfl
theorem ml_X9_248 : Cond.methodLink RX9 248 yX5_remainsInAll ∈ zUU := zUA_4 104 rfl rfl
theorem im_X5_remainsInAll : Cond.instanceMethod yX5_remainsInAll ∈ zUU := zUA_4 105 rfl rfl
theorem se_X5_remainsInAll : Cond.selects RX5 yX5_remainsInAll yX5_remainsInAll ∈ zUU := zUA_4 106 rfl rfl
theorem cd_X5_remainsInAll : Cond.code yX5_remainsInAll cX5_remainsInAll 4 (some .int) ∈ zUU := zUA_4 107 rfl rfl
theorem ml_L_91 : Cond.methodLink RL 91 yX9_played ∈ zUU := zUA_4 108 rfl rfl
theorem im_X9_played : Cond.instanceMethod yX9_played ∈ zUU := zUA_4 109 rfl rfl
theorem se_X9_played : Cond.selects RX9 yX9_played yX9_played ∈ zUU := zUA_4 110 rfl rfl
theorem cd_X9_played : Cond.code yX9_played cX9_played 8 (some .int) ∈ zUU := zUA_4 111 rfl rfl
theorem ml_X9_257 : Cond.methodLink RX9 257 yX5_byPlan ∈ zUU := zUA_4 112 rfl rfl
theorem im_X5_byPlan : Cond.instanceMethod yX5_byPlan ∈ zUU := zUA_4 113 rfl rfl
theorem se_X5_byPlan : Cond.selects RX5 yX5_byPlan yX5_byPlan ∈ zUU := zUA_4 114 rfl rfl
theorem cd_X5_byPlan : Cond.code yX5_byPlan cX5_byPlan 8 (some .int) ∈ zUU := zUA_4 115 rfl rfl
theorem ml_L_99 : Cond.methodLink RL 99 yX9_most ∈ zUU := zUA_4 116 rfl rfl
theorem im_X9_most : Cond.instanceMethod yX9_most ∈ zUU := zUA_4 117 rfl rfl
theorem se_X9_most : Cond.selects RX9 yX9_most yX9_most ∈ zUU := zUA_4 118 rfl rfl
theorem cd_X9_most : Cond.code yX9_most cX9_most 10 (some .int) ∈ zUU := zUA_4 119 rfl rfl
theorem ml_L_104 : Cond.methodLink RL 104 yX9_weeks ∈ zUU := zUA_4 120 rfl rfl
theorem im_X9_weeks : Cond.instanceMethod yX9_weeks ∈ zUU := zUA_4 121 rfl rfl
theorem se_X9_weeks : Cond.selects RX9 yX9_weeks yX9_weeks ∈ zUU := zUA_4 122 rfl rfl
theorem cd_X9_weeks : Cond.code yX9_weeks cX9_weeks 10 (some .int) ∈ zUU := zUA_4 123 rfl rfl
theorem ml_L_117 : Cond.methodLink RL 117 yX9_lots ∈ zUU := zUA_4 124 rfl rfl
theorem im_X9_lots : Cond.instanceMethod yX9_lots ∈ zUU := zUA_4 125 rfl rfl
theorem se_X9_lots : Cond.selects RX9 yX9_lots yX9_lots ∈ zUU := zUA_4 126 rfl rfl
theorem cd_X9_lots : Cond.code yX9_lots cX9_lots 11 (some .int) ∈ zUU := zUA_4 127 rfl rfl
theorem ml_L_62 : Cond.methodLink RL 62 yX9_rest ∈ zUU := zUA_4 128 rfl rfl
theorem im_X9_rest : Cond.instanceMethod yX9_rest ∈ zUU := zUA_4 129 rfl rfl
theorem se_X9_rest : Cond.selects RX9 yX9_rest yX9_rest ∈ zUU := zUA_4 130 rfl rfl
theorem cd_X9_rest : Cond.code yX9_rest cX9_rest 7 (some .int) ∈ zUU := zUA_4 131 rfl rfl
theorem ml_X9_265 : Cond.methodLink RX9 265 yX9_fillGains ∈ zUU := zUA_4 132 rfl rfl
theorem im_X9_fillGains : Cond.instanceMethod yX9_fillGains ∈ zUU := zUA_4 134 rfl rfl
theorem cd_X9_fillGains : Cond.code yX9_fillGains cX9_fillGains 4 none ∈ zUU := zUA_4 135 rfl rfl
theorem ml_X9_269 : Cond.methodLink RX9 269 yX0_riderSets ∈ zUU := zUA_4 136 rfl rfl
theorem im_X0_riderSets : Cond.instanceMethod yX0_riderSets ∈ zUU := zUA_4 137 rfl rfl
theorem se_X0_riderSets : Cond.selects RX0 yX0_riderSets yX0_riderSets ∈ zUU := zUA_4 138 rfl rfl
theorem cd_X0_riderSets : Cond.code yX0_riderSets cX0_riderSets 1 (some .int) ∈ zUU := zUA_4 139 rfl rfl
theorem ml_X9_403 : Cond.methodLink RX9 403 yX9_keepGains ∈ zUU := zUA_4 140 rfl rfl
theorem im_X9_keepGains : Cond.instanceMethod yX9_keepGains ∈ zUU := zUA_4 142 rfl rfl
theorem cd_X9_keepGains : Cond.code yX9_keepGains cX9_keepGains 4 none ∈ zUU := zUA_4 143 rfl rfl
theorem ml_X9_277 : Cond.methodLink RX9 277 yX5_gainOf ∈ zUU := zUA_4 144 rfl rfl
theorem im_X5_gainOf : Cond.instanceMethod yX5_gainOf ∈ zUU := zUA_4 145 rfl rfl
theorem se_X5_gainOf : Cond.selects RX5 yX5_gainOf yX5_gainOf ∈ zUU := zUA_4 146 rfl rfl
theorem cd_X5_gainOf : Cond.code yX5_gainOf cX5_gainOf 3 (some .int) ∈ zUU := zUA_4 147 rfl rfl
theorem ml_X9_272 : Cond.methodLink RX9 272 yX9_isAtRest ∈ zUU := zUA_4 148 rfl rfl
theorem im_X9_isAtRest : Cond.instanceMethod yX9_isAtRest ∈ zUU := zUA_4 150 rfl rfl
theorem cd_X9_isAtRest : Cond.code yX9_isAtRest cX9_isAtRest 5 (some .boolean) ∈ zUU := zUA_4 151 rfl rfl
theorem ml_L_66 : Cond.methodLink RL 66 yX9_gain ∈ zUU := zUA_4 152 rfl rfl
theorem im_X9_gain : Cond.instanceMethod yX9_gain ∈ zUU := zUA_4 153 rfl rfl
theorem se_X9_gain : Cond.selects RX9 yX9_gain yX9_gain ∈ zUU := zUA_4 154 rfl rfl
theorem cd_X9_gain : Cond.code yX9_gain cX9_gain 6 (some .int) ∈ zUU := zUA_4 155 rfl rfl
theorem co_X9_276 : Cond.constant RX9 276 (-1000000) ∈ zUU := zUA_4 156 rfl rfl
theorem ml_L_108 : Cond.methodLink RL 108 yX9_calm ∈ zUU := zUA_4 157 rfl rfl
theorem im_X9_calm : Cond.instanceMethod yX9_calm ∈ zUU := zUA_4 158 rfl rfl
theorem se_X9_calm : Cond.selects RX9 yX9_calm yX9_calm ∈ zUU := zUA_4 159 rfl rfl
theorem cd_X9_calm : Cond.code yX9_calm cX9_calm 8 (some .int) ∈ zUU := zUA_4 160 rfl rfl
theorem ml_X9_280 : Cond.methodLink RX9 280 yJ6_bitCount_0f7a4 ∈ zUU := zUA_4 161 rfl rfl
theorem ml_X9_285 : Cond.methodLink RX9 285 yX9_isCalm ∈ zUU := zUA_4 162 rfl rfl
theorem im_X9_isCalm : Cond.instanceMethod yX9_isCalm ∈ zUU := zUA_4 164 rfl rfl
theorem cd_X9_isCalm : Cond.code yX9_isCalm cX9_isCalm 5 (some .boolean) ∈ zUU := zUA_4 165 rfl rfl
theorem ml_L_112 : Cond.methodLink RL 112 yX9_rich ∈ zUU := zUA_4 166 rfl rfl
theorem im_X9_rich : Cond.instanceMethod yX9_rich ∈ zUU := zUA_4 167 rfl rfl
theorem se_X9_rich : Cond.selects RX9 yX9_rich yX9_rich ∈ zUU := zUA_4 168 rfl rfl
theorem cd_X9_rich : Cond.code yX9_rich cX9_rich 7 (some .int) ∈ zUU := zUA_4 169 rfl rfl
theorem ml_X9_289 : Cond.methodLink RX9 289 yX9_sparePost ∈ zUU := zUA_4 170 rfl rfl
theorem im_X9_sparePost : Cond.instanceMethod yX9_sparePost ∈ zUU := zUA_4 172 rfl rfl
theorem cd_X9_sparePost : Cond.code yX9_sparePost cX9_sparePost 8 (some .int) ∈ zUU := zUA_4 173 rfl rfl
theorem ml_X9_303 : Cond.methodLink RX9 303 yX0_copyFrom ∈ zUU := zUA_4 174 rfl rfl
theorem ml_X9_293 : Cond.methodLink RX9 293 yX5_richest ∈ zUU := zUA_4 175 rfl rfl
theorem im_X5_richest : Cond.instanceMethod yX5_richest ∈ zUU := zUA_4 176 rfl rfl
theorem se_X5_richest : Cond.selects RX5 yX5_richest yX5_richest ∈ zUU := zUA_4 177 rfl rfl
theorem cd_X5_richest : Cond.code yX5_richest cX5_richest 5 (some .int) ∈ zUU := zUA_4 178 rfl rfl
theorem ml_L_133 : Cond.methodLink RL 133 yX9_vote ∈ zUU := zUA_4 179 rfl rfl
theorem im_X9_vote : Cond.instanceMethod yX9_vote ∈ zUU := zUA_4 180 rfl rfl
theorem se_X9_vote : Cond.selects RX9 yX9_vote yX9_vote ∈ zUU := zUA_4 181 rfl rfl
theorem cd_X9_vote : Cond.code yX9_vote cX9_vote 10 (some .int) ∈ zUU := zUA_4 182 rfl rfl
theorem ml_X9_296 : Cond.methodLink RX9 296 yX9_fillGainsByLaw ∈ zUU := zUA_4 183 rfl rfl
theorem im_X9_fillGainsByLaw : Cond.instanceMethod yX9_fillGainsByLaw ∈ zUU := zUA_4 185 rfl rfl
theorem cd_X9_fillGainsByLaw : Cond.code yX9_fillGainsByLaw cX9_fillGainsByLaw 5 none ∈ zUU := zUA_4 186 rfl rfl
theorem ml_X9_300 : Cond.methodLink RX9 300 yX9_votesFor ∈ zUU := zUA_4 187 rfl rfl
theorem im_X9_votesFor : Cond.instanceMethod yX9_votesFor ∈ zUU := zUA_4 189 rfl rfl
theorem cd_X9_votesFor : Cond.code yX9_votesFor cX9_votesFor 5 (some .int) ∈ zUU := zUA_4 190 rfl rfl
theorem ml_X9_406 : Cond.methodLink RX9 406 yX9_lawOf ∈ zUU := zUA_4 191 rfl rfl
theorem im_X9_lawOf : Cond.instanceMethod yX9_lawOf ∈ zUU := zUA_4 193 rfl rfl
theorem cd_X9_lawOf : Cond.code yX9_lawOf cX9_lawOf 4 (some .int) ∈ zUU := zUA_4 194 rfl rfl
theorem ml_L_141 : Cond.methodLink RL 141 yX9_bid ∈ zUU := zUA_4 195 rfl rfl
theorem im_X9_bid : Cond.instanceMethod yX9_bid ∈ zUU := zUA_4 196 rfl rfl
theorem se_X9_bid : Cond.selects RX9 yX9_bid yX9_bid ∈ zUU := zUA_4 197 rfl rfl
theorem cd_X9_bid : Cond.code yX9_bid cX9_bid 6 (some .int) ∈ zUU := zUA_4 198 rfl rfl
theorem ml_X9_306 : Cond.methodLink RX9 306 yX9_bestChoice ∈ zUU := zUA_4 199 rfl rfl
theorem im_X9_bestChoice : Cond.instanceMethod yX9_bestChoice ∈ zUU := zUA_4 201 rfl rfl
theorem cd_X9_bestChoice : Cond.code yX9_bestChoice cX9_bestChoice 10 (some .int) ∈ zUU := zUA_4 202 rfl rfl
theorem ml_L_57 : Cond.methodLink RL 57 yX9_purse ∈ zUU := zUA_4 203 rfl rfl
theorem im_X9_purse : Cond.instanceMethod yX9_purse ∈ zUU := zUA_4 204 rfl rfl
theorem se_X9_purse : Cond.selects RX9 yX9_purse yX9_purse ∈ zUU := zUA_4 205 rfl rfl
theorem cd_X9_purse : Cond.code yX9_purse cX9_purse 7 (some .int) ∈ zUU := zUA_4 206 rfl rfl
theorem ml_X9_310 : Cond.methodLink RX9 310 yX3_fill ∈ zUU := zUA_4 207 rfl rfl
theorem im_X3_fill : Cond.instanceMethod yX3_fill ∈ zUU := zUA_4 208 rfl rfl
theorem se_X3_fill : Cond.selects RX3 yX3_fill yX3_fill ∈ zUU := zUA_4 209 rfl rfl
theorem cd_X3_fill : Cond.code yX3_fill cX3_fill 6 none ∈ zUU := zUA_4 210 rfl rfl
theorem ml_X3_23 : Cond.methodLink RX3 23 yX0_poundsIn ∈ zUU := zUA_4 211 rfl rfl
theorem ml_X3_27 : Cond.methodLink RX3 27 yX0_cost ∈ zUU := zUA_4 212 rfl rfl
theorem ml_X3_31 : Cond.methodLink RX3 31 yX3_addPost ∈ zUU := zUA_4 213 rfl rfl
theorem im_X3_addPost : Cond.instanceMethod yX3_addPost ∈ zUU := zUA_4 215 rfl rfl
theorem cd_X3_addPost : Cond.code yX3_addPost cX3_addPost 7 none ∈ zUU := zUA_4 216 rfl rfl
theorem ml_X3_35 : Cond.methodLink RX3 35 Lib.Math.min.name ∈ zUU := zUA_4 217 rfl rfl
theorem ml_X9_313 : Cond.methodLink RX9 313 yX3_bestCosts ∈ zUU := zUA_4 218 rfl rfl
theorem im_X3_bestCosts : Cond.instanceMethod yX3_bestCosts ∈ zUU := zUA_4 219 rfl rfl
theorem se_X3_bestCosts : Cond.selects RX3 yX3_bestCosts yX3_bestCosts ∈ zUU := zUA_4 220 rfl rfl
theorem cd_X3_bestCosts : Cond.code yX3_bestCosts cX3_bestCosts 4 (some .int) ∈ zUU := zUA_4 221 rfl rfl
theorem ml_L_79 : Cond.methodLink RL 79 yX9_shells ∈ zUU := zUA_4 222 rfl rfl
theorem im_X9_shells : Cond.instanceMethod yX9_shells ∈ zUU := zUA_4 223 rfl rfl
theorem se_X9_shells : Cond.selects RX9 yX9_shells yX9_shells ∈ zUU := zUA_4 224 rfl rfl
theorem cd_X9_shells : Cond.code yX9_shells cX9_shells 9 (some .int) ∈ zUU := zUA_4 225 rfl rfl
theorem ml_X9_319 : Cond.methodLink RX9 319 yX6_clear ∈ zUU := zUA_4 226 rfl rfl
theorem im_X6_clear : Cond.instanceMethod yX6_clear ∈ zUU := zUA_4 227 rfl rfl
theorem se_X6_clear : Cond.selects RX6 yX6_clear yX6_clear ∈ zUU := zUA_4 228 rfl rfl
theorem cd_X6_clear : Cond.code yX6_clear cX6_clear 1 none ∈ zUU := zUA_4 229 rfl rfl
theorem ml_X9_322 : Cond.methodLink RX9 322 yX6_add ∈ zUU := zUA_4 230 rfl rfl
theorem im_X6_add : Cond.instanceMethod yX6_add ∈ zUU := zUA_4 231 rfl rfl
theorem se_X6_add : Cond.selects RX6 yX6_add yX6_add ∈ zUU := zUA_4 232 rfl rfl
theorem cd_X6_add : Cond.code yX6_add cX6_add 4 none ∈ zUU := zUA_4 233 rfl rfl
theorem ml_X9_326 : Cond.methodLink RX9 326 yX6_find ∈ zUU := zUA_4 234 rfl rfl
theorem im_X6_find : Cond.instanceMethod yX6_find ∈ zUU := zUA_4 235 rfl rfl
theorem se_X6_find : Cond.selects RX6 yX6_find yX6_find ∈ zUU := zUA_4 236 rfl rfl
theorem cd_X6_find : Cond.code yX6_find cX6_find 4 none ∈ zUU := zUA_4 237 rfl rfl
theorem ml_X6_46 : Cond.methodLink RX6 46 yX6_search ∈ zUU := zUA_4 238 rfl rfl
theorem st_X6_search : Cond.static yX6_search ∈ zUU := zUA_4 239 rfl rfl
theorem cd_X6_search : Cond.code yX6_search cX6_search 5 none ∈ zUU := zUA_5 0 rfl rfl
theorem ml_X6_50 : Cond.methodLink RX6 50 yX6_keep ∈ zUU := zUA_5 1 rfl rfl
theorem im_X6_keep : Cond.instanceMethod yX6_keep ∈ zUU := zUA_5 3 rfl rfl
theorem cd_X6_keep : Cond.code yX6_keep cX6_keep 2 none ∈ zUU := zUA_5 4 rfl rfl
theorem ml_X6_54 : Cond.methodLink RX6 54 Lib.Math.min.name ∈ zUU := zUA_5 5 rfl rfl
theorem ml_X9_333 : Cond.methodLink RX9 333 yX6_surePosts ∈ zUU := zUA_5 6 rfl rfl
theorem im_X6_surePosts : Cond.instanceMethod yX6_surePosts ∈ zUU := zUA_5 7 rfl rfl
theorem se_X6_surePosts : Cond.selects RX6 yX6_surePosts yX6_surePosts ∈ zUU := zUA_5 8 rfl rfl
theorem cd_X6_surePosts : Cond.code yX6_surePosts cX6_surePosts 1 (some .int) ∈ zUU := zUA_5 9 rfl rfl
theorem ml_L_125 : Cond.methodLink RL 125 yX9_hold ∈ zUU := zUA_5 10 rfl rfl
theorem im_X9_hold : Cond.instanceMethod yX9_hold ∈ zUU := zUA_5 11 rfl rfl
theorem se_X9_hold : Cond.selects RX9 yX9_hold yX9_hold ∈ zUU := zUA_5 12 rfl rfl
theorem cd_X9_hold : Cond.code yX9_hold cX9_hold 6 (some .int) ∈ zUU := zUA_5 13 rfl rfl
theorem ml_X9_339 : Cond.methodLink RX9 339 yX6_findHolding ∈ zUU := zUA_5 14 rfl rfl
theorem im_X6_findHolding : Cond.instanceMethod yX6_findHolding ∈ zUU := zUA_5 15 rfl rfl
theorem se_X6_findHolding : Cond.selects RX6 yX6_findHolding yX6_findHolding ∈ zUU := zUA_5 16 rfl rfl
theorem cd_X6_findHolding : Cond.code yX6_findHolding cX6_findHolding 9 none ∈ zUU := zUA_5 17 rfl rfl
theorem ml_X6_60 : Cond.methodLink RX6 60 yX6_fillDues ∈ zUU := zUA_5 18 rfl rfl
theorem im_X6_fillDues : Cond.instanceMethod yX6_fillDues ∈ zUU := zUA_5 20 rfl rfl
theorem cd_X6_fillDues : Cond.code yX6_fillDues cX6_fillDues 5 (some .boolean) ∈ zUU := zUA_5 21 rfl rfl
theorem ml_X6_96 : Cond.methodLink RX6 96 yX0_hasPost ∈ zUU := zUA_5 22 rfl rfl
theorem ml_X6_64 : Cond.methodLink RX6 64 yX6_clear ∈ zUU := zUA_5 23 rfl rfl
theorem ml_X6_72 : Cond.methodLink RX6 72 yX0_minutesTo ∈ zUU := zUA_5 24 rfl rfl
theorem ml_X6_76 : Cond.methodLink RX6 76 yX6_find ∈ zUU := zUA_5 25 rfl rfl
theorem ml_X6_80 : Cond.methodLink RX6 80 yX0_cost ∈ zUU := zUA_5 26 rfl rfl
theorem ml_X6_83 : Cond.methodLink RX6 83 yX6_add ∈ zUU := zUA_5 27 rfl rfl
theorem ml_X6_87 : Cond.methodLink RX6 87 yX6_allBits ∈ zUU := zUA_5 28 rfl rfl
theorem im_X6_allBits : Cond.instanceMethod yX6_allBits ∈ zUU := zUA_5 30 rfl rfl
theorem cd_X6_allBits : Cond.code yX6_allBits cX6_allBits 3 (some .int) ∈ zUU := zUA_5 31 rfl rfl
theorem ml_L_70 : Cond.methodLink RL 70 yX9_chance ∈ zUU := zUA_5 32 rfl rfl
theorem im_X9_chance : Cond.instanceMethod yX9_chance ∈ zUU := zUA_5 33 rfl rfl
theorem se_X9_chance : Cond.selects RX9 yX9_chance yX9_chance ∈ zUU := zUA_5 34 rfl rfl
theorem cd_X9_chance : Cond.code yX9_chance cX9_chance 5 (some .long) ∈ zUU := zUA_5 35 rfl rfl
theorem co_X9_346 : Cond.constantLong RX9 346 (-1) ∈ zUU := zUA_5 36 rfl rfl
theorem ml_X9_348 : Cond.methodLink RX9 348 yX9_tenfoldMean ∈ zUU := zUA_5 37 rfl rfl
theorem st_X9_tenfoldMean : Cond.static yX9_tenfoldMean ∈ zUU := zUA_5 38 rfl rfl
theorem cd_X9_tenfoldMean : Cond.code yX9_tenfoldMean cX9_tenfoldMean 4 (some .long) ∈ zUU := zUA_5 39 rfl rfl
theorem co_X9_352 : Cond.constantLong RX9 352 (10) ∈ zUU := zUA_5 40 rfl rfl
theorem ml_X9_354 : Cond.methodLink RX9 354 yX9_leastTerm ∈ zUU := zUA_5 41 rfl rfl
theorem st_X9_leastTerm : Cond.static yX9_leastTerm ∈ zUU := zUA_5 42 rfl rfl
theorem cd_X9_leastTerm : Cond.code yX9_leastTerm cX9_leastTerm 9 (some .long) ∈ zUU := zUA_5 43 rfl rfl
theorem ml_X9_409 : Cond.methodLink RX9 409 yX9_commonDivisor ∈ zUU := zUA_5 44 rfl rfl
theorem st_X9_commonDivisor : Cond.static yX9_commonDivisor ∈ zUU := zUA_5 45 rfl rfl
theorem cd_X9_commonDivisor : Cond.code yX9_commonDivisor cX9_commonDivisor 11 (some .long) ∈ zUU := zUA_5 46 rfl rfl
theorem ml_X9_358 : Cond.methodLink RX9 358 yX7_overPosts ∈ zUU := zUA_5 47 rfl rfl
theorem im_X7_overPosts : Cond.instanceMethod yX7_overPosts ∈ zUU := zUA_5 48 rfl rfl
theorem se_X7_overPosts : Cond.selects RX7 yX7_overPosts yX7_overPosts ∈ zUU := zUA_5 49 rfl rfl
theorem cd_X7_overPosts : Cond.code yX7_overPosts cX7_overPosts 4 none ∈ zUU := zUA_5 50 rfl rfl
theorem ml_X7_23 : Cond.methodLink RX7 23 yX0_cost ∈ zUU := zUA_5 51 rfl rfl
theorem ml_X7_33 : Cond.methodLink RX7 33 yX7_addStop ∈ zUU := zUA_5 52 rfl rfl
theorem im_X7_addStop : Cond.instanceMethod yX7_addStop ∈ zUU := zUA_5 54 rfl rfl
theorem cd_X7_addStop : Cond.code yX7_addStop cX7_addStop 7 none ∈ zUU := zUA_5 55 rfl rfl
theorem ml_X7_37 : Cond.methodLink RX7 37 Lib.Math.min.name ∈ zUU := zUA_5 56 rfl rfl
theorem co_X7_43 : Cond.constantLong RX7 43 (10) ∈ zUU := zUA_5 57 rfl rfl
theorem ml_X9_361 : Cond.methodLink RX9 361 yX7_weightUpTo ∈ zUU := zUA_5 58 rfl rfl
theorem im_X7_weightUpTo : Cond.instanceMethod yX7_weightUpTo ∈ zUU := zUA_5 59 rfl rfl
theorem se_X7_weightUpTo : Cond.selects RX7 yX7_weightUpTo yX7_weightUpTo ∈ zUU := zUA_5 60 rfl rfl
theorem cd_X7_weightUpTo : Cond.code yX7_weightUpTo cX7_weightUpTo 5 (some .long) ∈ zUU := zUA_5 61 rfl rfl
theorem ml_L_75 : Cond.methodLink RL 75 yX9_slack ∈ zUU := zUA_5 62 rfl rfl
theorem im_X9_slack : Cond.instanceMethod yX9_slack ∈ zUU := zUA_5 63 rfl rfl
theorem se_X9_slack : Cond.selects RX9 yX9_slack yX9_slack ∈ zUU := zUA_5 64 rfl rfl
theorem cd_X9_slack : Cond.code yX9_slack cX9_slack 4 (some .int) ∈ zUU := zUA_5 65 rfl rfl
theorem ml_X9_369 : Cond.methodLink RX9 369 yX9_isHundredths ∈ zUU := zUA_5 66 rfl rfl
theorem st_X9_isHundredths : Cond.static yX9_isHundredths ∈ zUU := zUA_5 67 rfl rfl
theorem cd_X9_isHundredths : Cond.code yX9_isHundredths cX9_isHundredths 1 (some .boolean) ∈ zUU := zUA_5 68 rfl rfl
theorem ml_X9_372 : Cond.methodLink RX9 372 yX7_leastCosts ∈ zUU := zUA_5 69 rfl rfl
theorem im_X7_leastCosts : Cond.instanceMethod yX7_leastCosts ∈ zUU := zUA_5 70 rfl rfl
theorem se_X7_leastCosts : Cond.selects RX7 yX7_leastCosts yX7_leastCosts ∈ zUU := zUA_5 71 rfl rfl
theorem cd_X7_leastCosts : Cond.code yX7_leastCosts cX7_leastCosts 5 (some .int) ∈ zUU := zUA_5 72 rfl rfl
theorem co_X7_45 : Cond.constantLong RX7 45 (100) ∈ zUU := zUA_5 73 rfl rfl
theorem ml_L_95 : Cond.methodLink RL 95 yX9_print ∈ zUU := zUA_5 74 rfl rfl
theorem im_X9_print : Cond.instanceMethod yX9_print ∈ zUU := zUA_5 75 rfl rfl
theorem se_X9_print : Cond.selects RX9 yX9_print yX9_print ∈ zUU := zUA_5 76 rfl rfl
theorem cd_X9_print : Cond.code yX9_print cX9_print 5 (some .int) ∈ zUU := zUA_5 77 rfl rfl
theorem ml_X9_375 : Cond.methodLink RX9 375 yX0_minutesTo ∈ zUU := zUA_5 78 rfl rfl
theorem ml_L_83 : Cond.methodLink RL 83 yX9_meet ∈ zUU := zUA_5 79 rfl rfl
theorem im_X9_meet : Cond.instanceMethod yX9_meet ∈ zUU := zUA_5 80 rfl rfl
theorem se_X9_meet : Cond.selects RX9 yX9_meet yX9_meet ∈ zUU := zUA_5 81 rfl rfl
theorem cd_X9_meet : Cond.code yX9_meet cX9_meet 7 (some .int) ∈ zUU := zUA_5 82 rfl rfl
theorem ml_X9_378 : Cond.methodLink RX9 378 yX1_follow ∈ zUU := zUA_5 83 rfl rfl
theorem im_X1_follow : Cond.instanceMethod yX1_follow ∈ zUU := zUA_5 84 rfl rfl
theorem se_X1_follow : Cond.selects RX1 yX1_follow yX1_follow ∈ zUU := zUA_5 85 rfl rfl
theorem cd_X1_follow : Cond.code yX1_follow cX1_follow 9 none ∈ zUU := zUA_5 86 rfl rfl
theorem ml_X1_27 : Cond.methodLink RX1 27 yX0_minutesTo ∈ zUU := zUA_5 87 rfl rfl
theorem ml_X1_37 : Cond.methodLink RX1 37 yX0_cost ∈ zUU := zUA_5 88 rfl rfl
theorem ml_X1_40 : Cond.methodLink RX1 40 yX1_waitAt ∈ zUU := zUA_5 89 rfl rfl
theorem st_X1_waitAt : Cond.static yX1_waitAt ∈ zUU := zUA_5 90 rfl rfl
theorem cd_X1_waitAt : Cond.code yX1_waitAt cX1_waitAt 6 (some .int) ∈ zUU := zUA_5 91 rfl rfl
theorem ml_X1_47 : Cond.methodLink RX1 47 yX0_isStation ∈ zUU := zUA_5 92 rfl rfl
theorem ml_X1_51 : Cond.methodLink RX1 51 yX0_stationBehind ∈ zUU := zUA_5 93 rfl rfl
theorem im_X0_stationBehind : Cond.instanceMethod yX0_stationBehind ∈ zUU := zUA_5 94 rfl rfl
theorem se_X0_stationBehind : Cond.selects RX0 yX0_stationBehind yX0_stationBehind ∈ zUU := zUA_5 95 rfl rfl
theorem cd_X0_stationBehind : Cond.code yX0_stationBehind cX0_stationBehind 3 (some .int) ∈ zUU := zUA_5 96 rfl rfl
theorem ml_L_129 : Cond.methodLink RL 129 yX9_risk ∈ zUU := zUA_5 97 rfl rfl
theorem im_X9_risk : Cond.instanceMethod yX9_risk ∈ zUU := zUA_5 98 rfl rfl
theorem se_X9_risk : Cond.selects RX9 yX9_risk yX9_risk ∈ zUU := zUA_5 99 rfl rfl
theorem cd_X9_risk : Cond.code yX9_risk cX9_risk 8 (some .int) ∈ zUU := zUA_5 100 rfl rfl
theorem cl_L_10 : Cond.classLink RL 10 RX10 ∈ zUU := zUA_5 101 rfl rfl
theorem ia_X10 : Cond.instantiable RX10 50 ∈ zUU := zUA_5 102 rfl rfl
theorem ml_L_12 : Cond.methodLink RL 12 yX10_init ∈ zUU := zUA_5 103 rfl rfl
theorem im_X10_init : Cond.instanceMethod yX10_init ∈ zUU := zUA_5 104 rfl rfl
theorem cd_X10_init : Cond.code yX10_init cX10_init 1 none ∈ zUU := zUA_5 105 rfl rfl
theorem ml_X10_1 : Cond.methodLink RX10 1 objectInit ∈ zUU := zUA_5 106 rfl rfl
theorem fl_X10_91 : Cond.fieldLink RX10 91 "ChestnutLineModel" "code" "I" ∈ zUU := zUA_5 107 rfl rfl
theorem fl_X10_7 : Cond.fieldLink RX10 7 "ChestnutLineModel" "tape" "[B" ∈ zUU := zUA_5 108 rfl rfl
theorem fl_X10_13 : Cond.fieldLink RX10 13 "ChestnutLineModel" "size" "[I" ∈ zUU := zUA_5 109 rfl rfl
theorem fl_X10_17 : Cond.fieldLink RX10 17 "ChestnutLineModel" "fault" "[I" ∈ zUU := zUA_5 110 rfl rfl
theorem fl_X10_20 : Cond.fieldLink RX10 20 "ChestnutLineModel" "faultPlace" "[I" ∈ zUU := zUA_5 111 rfl rfl
theorem fl_X10_23 : Cond.fieldLink RX10 23 "ChestnutLineModel" "many" "[I" ∈ zUU := zUA_5 112 rfl rfl
theorem fl_X10_26 : Cond.fieldLink RX10 26 "ChestnutLineModel" "lines" "[I" ∈ zUU := zUA_5 113 rfl rfl
theorem fl_X10_29 : Cond.fieldLink RX10 29 "ChestnutLineModel" "plans" "[I" ∈ zUU := zUA_5 114 rfl rfl
theorem fl_X10_32 : Cond.fieldLink RX10 32 "ChestnutLineModel" "logs" "[I" ∈ zUU := zUA_5 115 rfl rfl
theorem fl_X10_111 : Cond.fieldLink RX10 111 "ChestnutLineModel" "reached" "I" ∈ zUU := zUA_5 116 rfl rfl
theorem fl_X10_114 : Cond.fieldLink RX10 114 "ChestnutLineModel" "length" "I" ∈ zUU := zUA_5 117 rfl rfl
theorem fl_X10_121 : Cond.fieldLink RX10 121 "ChestnutLineModel" "begins" "I" ∈ zUU := zUA_5 118 rfl rfl
theorem fl_X10_128 : Cond.fieldLink RX10 128 "ChestnutLineModel" "sort" "I" ∈ zUU := zUA_5 119 rfl rfl
theorem fl_X10_131 : Cond.fieldLink RX10 131 "ChestnutLineModel" "value" "I" ∈ zUU := zUA_5 120 rfl rfl
theorem fl_X10_124 : Cond.fieldLink RX10 124 "ChestnutLineModel" "word" "J" ∈ zUU := zUA_5 121 rfl rfl
theorem fl_X10_134 : Cond.fieldLink RX10 134 "ChestnutLineModel" "wrongAt" "I" ∈ zUU := zUA_5 122 rfl rfl
theorem fl_X10_137 : Cond.fieldLink RX10 137 "ChestnutLineModel" "laterFault" "I" ∈ zUU := zUA_5 123 rfl rfl
theorem fl_X10_140 : Cond.fieldLink RX10 140 "ChestnutLineModel" "laterPlace" "I" ∈ zUU := zUA_5 124 rfl rfl
theorem fl_X10_35 : Cond.fieldLink RX10 35 "ChestnutLineModel" "told" "[I" ∈ zUU := zUA_5 125 rfl rfl
theorem fl_X10_38 : Cond.fieldLink RX10 38 "ChestnutLineModel" "read" "[I" ∈ zUU := zUA_5 126 rfl rfl
theorem fl_X10_41 : Cond.fieldLink RX10 41 "ChestnutLineModel" "oddsTold" "[I" ∈ zUU := zUA_5 127 rfl rfl
theorem fl_X10_44 : Cond.fieldLink RX10 44 "ChestnutLineModel" "printed" "[I" ∈ zUU := zUA_5 128 rfl rfl
theorem fl_X10_157 : Cond.fieldLink RX10 157 "ChestnutLineModel" "greatest" "I" ∈ zUU := zUA_5 129 rfl rfl
theorem fl_X10_235 : Cond.fieldLink RX10 235 "ChestnutLineModel" "line" "I" ∈ zUU := zUA_5 130 rfl rfl
theorem fl_X10_245 : Cond.fieldLink RX10 245 "ChestnutLineModel" "posts" "I" ∈ zUU := zUA_5 131 rfl rfl
theorem fl_X10_248 : Cond.fieldLink RX10 248 "ChestnutLineModel" "last" "I" ∈ zUU := zUA_5 132 rfl rfl
theorem fl_X10_251 : Cond.fieldLink RX10 251 "ChestnutLineModel" "riders" "I" ∈ zUU := zUA_5 133 rfl rfl
theorem fl_X10_47 : Cond.fieldLink RX10 47 "ChestnutLineModel" "minutes" "[I" ∈ zUU := zUA_5 134 rfl rfl
theorem fl_X10_50 : Cond.fieldLink RX10 50 "ChestnutLineModel" "cost" "[I" ∈ zUU := zUA_5 135 rfl rfl
theorem fl_X10_53 : Cond.fieldLink RX10 53 "ChestnutLineModel" "pounds" "[I" ∈ zUU := zUA_5 136 rfl rfl
theorem fl_X10_269 : Cond.fieldLink RX10 269 "ChestnutLineModel" "seed" "I" ∈ zUU := zUA_5 137 rfl rfl
theorem fl_X10_276 : Cond.fieldLink RX10 276 "ChestnutLineModel" "delay" "I" ∈ zUU := zUA_5 138 rfl rfl
theorem fl_X10_285 : Cond.fieldLink RX10 285 "ChestnutLineModel" "stove" "I" ∈ zUU := zUA_5 139 rfl rfl
theorem fl_X10_288 : Cond.fieldLink RX10 288 "ChestnutLineModel" "fines" "I" ∈ zUU := zUA_5 140 rfl rfl
theorem fl_X10_291 : Cond.fieldLink RX10 291 "ChestnutLineModel" "bishopAt" "I" ∈ zUU := zUA_5 141 rfl rfl
theorem fl_X10_56 : Cond.fieldLink RX10 56 "ChestnutLineModel" "comes" "[I" ∈ zUU := zUA_5 142 rfl rfl
theorem fl_X10_59 : Cond.fieldLink RX10 59 "ChestnutLineModel" "puller" "[I" ∈ zUU := zUA_5 143 rfl rfl
theorem fl_X10_62 : Cond.fieldLink RX10 62 "ChestnutLineModel" "taken" "[I" ∈ zUU := zUA_5 144 rfl rfl
theorem fl_X10_65 : Cond.fieldLink RX10 65 "ChestnutLineModel" "takenAt" "[I" ∈ zUU := zUA_5 145 rfl rfl
theorem fl_X10_68 : Cond.fieldLink RX10 68 "ChestnutLineModel" "kept" "[I" ∈ zUU := zUA_5 146 rfl rfl
theorem fl_X10_71 : Cond.fieldLink RX10 71 "ChestnutLineModel" "pulled" "[Z" ∈ zUU := zUA_5 147 rfl rfl
theorem fl_X10_75 : Cond.fieldLink RX10 75 "ChestnutLineModel" "ways" "[J" ∈ zUU := zUA_5 148 rfl rfl
theorem fl_X10_345 : Cond.fieldLink RX10 345 "ChestnutLineModel" "allWays" "J" ∈ zUU := zUA_5 149 rfl rfl
theorem fl_X10_371 : Cond.fieldLink RX10 371 "ChestnutLineModel" "met" "I" ∈ zUU := zUA_5 150 rfl rfl
theorem fl_X10_79 : Cond.fieldLink RX10 79 "ChestnutLineModel" "wait" "[I" ∈ zUU := zUA_5 151 rfl rfl
theorem fl_X10_82 : Cond.fieldLink RX10 82 "ChestnutLineModel" "otherAt" "[I" ∈ zUU := zUA_5 152 rfl rfl
theorem fl_X10_380 : Cond.fieldLink RX10 380 "ChestnutLineModel" "plan" "I" ∈ zUU := zUA_5 153 rfl rfl
theorem fl_X10_407 : Cond.fieldLink RX10 407 "ChestnutLineModel" "log" "I" ∈ zUU := zUA_5 154 rfl rfl
theorem fl_X10_85 : Cond.fieldLink RX10 85 "ChestnutLineModel" "votes" "[I" ∈ zUU := zUA_5 155 rfl rfl
theorem fl_X10_88 : Cond.fieldLink RX10 88 "ChestnutLineModel" "savedOnce" "[Z" ∈ zUU := zUA_5 156 rfl rfl
theorem ml_L_17 : Cond.methodLink RL 17 yX10_feed ∈ zUU := zUA_6 18 rfl rfl
theorem im_X10_feed : Cond.instanceMethod yX10_feed ∈ zUU := zUA_6 19 rfl rfl
theorem se_X10_feed : Cond.selects RX10 yX10_feed yX10_feed ∈ zUU := zUA_6 20 rfl rfl
theorem cd_X10_feed : Cond.code yX10_feed cX10_feed 6 (some .int) ∈ zUU := zUA_6 21 rfl rfl
theorem ml_X10_107 : Cond.methodLink RX10 107 yX10_four ∈ zUU := zUA_6 22 rfl rfl
theorem im_X10_four : Cond.instanceMethod yX10_four ∈ zUU := zUA_6 24 rfl rfl
theorem cd_X10_four : Cond.code yX10_four cX10_four 3 none ∈ zUU := zUA_6 25 rfl rfl
theorem ml_L_22 : Cond.methodLink RL 22 yX10_end ∈ zUU := zUA_6 26 rfl rfl
theorem im_X10_end : Cond.instanceMethod yX10_end ∈ zUU := zUA_6 27 rfl rfl
theorem se_X10_end : Cond.selects RX10 yX10_end yX10_end ∈ zUU := zUA_6 28 rfl rfl
theorem cd_X10_end : Cond.code yX10_end cX10_end 2 (some .int) ∈ zUU := zUA_6 29 rfl rfl
theorem ml_X10_103 : Cond.methodLink RX10 103 yX10_in ∈ zUU := zUA_6 30 rfl rfl
theorem st_X10_in : Cond.static yX10_in ∈ zUU := zUA_6 31 rfl rfl
theorem cd_X10_in : Cond.code yX10_in cX10_in 3 (some .boolean) ∈ zUU := zUA_6 32 rfl rfl
theorem ml_L_27 : Cond.methodLink RL 27 yX10_text ∈ zUU := zUA_6 33 rfl rfl
theorem im_X10_text : Cond.instanceMethod yX10_text ∈ zUU := zUA_6 34 rfl rfl
theorem se_X10_text : Cond.selects RX10 yX10_text yX10_text ∈ zUU := zUA_6 35 rfl rfl
theorem cd_X10_text : Cond.code yX10_text cX10_text 4 (some .int) ∈ zUU := zUA_6 36 rfl rfl
theorem ml_X10_225 : Cond.methodLink RX10 225 yX10_is ∈ zUU := zUA_6 37 rfl rfl
theorem im_X10_is : Cond.instanceMethod yX10_is ∈ zUU := zUA_6 39 rfl rfl
theorem cd_X10_is : Cond.code yX10_is cX10_is 3 (some .boolean) ∈ zUU := zUA_6 40 rfl rfl
theorem ml_X10_228 : Cond.methodLink RX10 228 yX10_readText ∈ zUU := zUA_6 41 rfl rfl
theorem im_X10_readText : Cond.instanceMethod yX10_readText ∈ zUU := zUA_6 43 rfl rfl
theorem cd_X10_readText : Cond.code yX10_readText cX10_readText 4 (some .boolean) ∈ zUU := zUA_6 44 rfl rfl
theorem ml_X10_151 : Cond.methodLink RX10 151 yX10_token ∈ zUU := zUA_6 45 rfl rfl
theorem im_X10_token : Cond.instanceMethod yX10_token ∈ zUU := zUA_6 47 rfl rfl
theorem cd_X10_token : Cond.code yX10_token cX10_token 3 none ∈ zUU := zUA_6 48 rfl rfl
theorem ml_X10_117 : Cond.methodLink RX10 117 yX10_see ∈ zUU := zUA_6 49 rfl rfl
theorem im_X10_see : Cond.instanceMethod yX10_see ∈ zUU := zUA_6 51 rfl rfl
theorem cd_X10_see : Cond.code yX10_see cX10_see 1 (some .int) ∈ zUU := zUA_6 52 rfl rfl
theorem ml_X10_221 : Cond.methodLink RX10 221 yX10_textLines ∈ zUU := zUA_6 53 rfl rfl
theorem im_X10_textLines : Cond.instanceMethod yX10_textLines ∈ zUU := zUA_6 55 rfl rfl
theorem cd_X10_textLines : Cond.code yX10_textLines cX10_textLines 6 (some .boolean) ∈ zUU := zUA_6 56 rfl rfl
theorem ml_X10_211 : Cond.methodLink RX10 211 yX10_lineLine ∈ zUU := zUA_6 57 rfl rfl
theorem im_X10_lineLine : Cond.instanceMethod yX10_lineLine ∈ zUU := zUA_6 59 rfl rfl
theorem cd_X10_lineLine : Cond.code yX10_lineLine cX10_lineLine 5 (some .boolean) ∈ zUU := zUA_6 60 rfl rfl
theorem ml_X10_181 : Cond.methodLink RX10 181 yX10_plainOf ∈ zUU := zUA_6 61 rfl rfl
theorem st_X10_plainOf : Cond.static yX10_plainOf ∈ zUU := zUA_6 62 rfl rfl
theorem cd_X10_plainOf : Cond.code yX10_plainOf cX10_plainOf 2 (some .int) ∈ zUU := zUA_6 63 rfl rfl
theorem co_X10_171 : Cond.constantLong RX10 171 (1751215220) ∈ zUU := zUA_6 64 rfl rfl
theorem co_X10_173 : Cond.constantLong RX10 173 (6644084) ∈ zUU := zUA_6 65 rfl rfl
theorem co_X10_175 : Cond.constantLong RX10 175 (444300616549) ∈ zUU := zUA_6 66 rfl rfl
theorem co_X10_177 : Cond.constantLong RX10 177 (108205047312240) ∈ zUU := zUA_6 67 rfl rfl
theorem co_X10_179 : Cond.constantLong RX10 179 (478694368626) ∈ zUU := zUA_6 68 rfl rfl
theorem co_X10_185 : Cond.constantLong RX10 185 (1886352244) ∈ zUU := zUA_6 69 rfl rfl
theorem co_X10_187 : Cond.constantLong RX10 187 (491394458994) ∈ zUU := zUA_6 70 rfl rfl
theorem co_X10_189 : Cond.constantLong RX10 189 (32497584235442030) ∈ zUU := zUA_6 71 rfl rfl
theorem co_X10_191 : Cond.constantLong RX10 191 (1868850291) ∈ zUU := zUA_6 72 rfl rfl
theorem ml_X10_143 : Cond.methodLink RX10 143 yX10_fails ∈ zUU := zUA_6 73 rfl rfl
theorem im_X10_fails : Cond.instanceMethod yX10_fails ∈ zUU := zUA_6 75 rfl rfl
theorem cd_X10_fails : Cond.code yX10_fails cX10_fails 1 (some .boolean) ∈ zUU := zUA_6 76 rfl rfl
theorem ml_X10_193 : Cond.methodLink RX10 193 yX10_full ∈ zUU := zUA_6 77 rfl rfl
theorem im_X10_full : Cond.instanceMethod yX10_full ∈ zUU := zUA_6 79 rfl rfl
theorem cd_X10_full : Cond.code yX10_full cX10_full 4 none ∈ zUU := zUA_6 80 rfl rfl
theorem ml_X10_147 : Cond.methodLink RX10 147 yX10_later ∈ zUU := zUA_6 81 rfl rfl
theorem im_X10_later : Cond.instanceMethod yX10_later ∈ zUU := zUA_6 83 rfl rfl
theorem cd_X10_later : Cond.code yX10_later cX10_later 3 none ∈ zUU := zUA_6 84 rfl rfl
theorem ml_X10_197 : Cond.methodLink RX10 197 yX10_postLine ∈ zUU := zUA_6 85 rfl rfl
theorem im_X10_postLine : Cond.instanceMethod yX10_postLine ∈ zUU := zUA_6 87 rfl rfl
theorem cd_X10_postLine : Cond.code yX10_postLine cX10_postLine 1 (some .boolean) ∈ zUU := zUA_6 88 rfl rfl
theorem ml_X10_154 : Cond.methodLink RX10 154 yX10_take ∈ zUU := zUA_6 89 rfl rfl
theorem im_X10_take : Cond.instanceMethod yX10_take ∈ zUU := zUA_6 91 rfl rfl
theorem cd_X10_take : Cond.code yX10_take cX10_take 4 (some .boolean) ∈ zUU := zUA_6 92 rfl rfl
theorem ml_X10_167 : Cond.methodLink RX10 167 yX10_keep ∈ zUU := zUA_6 93 rfl rfl
theorem im_X10_keep : Cond.instanceMethod yX10_keep ∈ zUU := zUA_6 95 rfl rfl
theorem cd_X10_keep : Cond.code yX10_keep cX10_keep 8 none ∈ zUU := zUA_6 96 rfl rfl
theorem ml_X10_200 : Cond.methodLink RX10 200 yX10_riderLine ∈ zUU := zUA_6 97 rfl rfl
theorem im_X10_riderLine : Cond.instanceMethod yX10_riderLine ∈ zUU := zUA_6 99 rfl rfl
theorem cd_X10_riderLine : Cond.code yX10_riderLine cX10_riderLine 1 (some .boolean) ∈ zUU := zUA_6 100 rfl rfl
theorem ml_X10_164 : Cond.methodLink RX10 164 yX10_takePost ∈ zUU := zUA_6 101 rfl rfl
theorem im_X10_takePost : Cond.instanceMethod yX10_takePost ∈ zUU := zUA_6 103 rfl rfl
theorem cd_X10_takePost : Cond.code yX10_takePost cX10_takePost 4 (some .boolean) ∈ zUU := zUA_6 104 rfl rfl
theorem ml_X10_160 : Cond.methodLink RX10 160 yX10_greater ∈ zUU := zUA_6 105 rfl rfl
theorem st_X10_greater : Cond.static yX10_greater ∈ zUU := zUA_6 106 rfl rfl
theorem cd_X10_greater : Cond.code yX10_greater cX10_greater 2 (some .int) ∈ zUU := zUA_6 107 rfl rfl
theorem ml_X10_203 : Cond.methodLink RX10 203 yX10_ofPost ∈ zUU := zUA_6 108 rfl rfl
theorem im_X10_ofPost : Cond.instanceMethod yX10_ofPost ∈ zUU := zUA_6 110 rfl rfl
theorem cd_X10_ofPost : Cond.code yX10_ofPost cX10_ofPost 2 (some .boolean) ∈ zUU := zUA_6 111 rfl rfl
theorem ml_X10_215 : Cond.methodLink RX10 215 yX10_planLine ∈ zUU := zUA_6 112 rfl rfl
theorem im_X10_planLine : Cond.instanceMethod yX10_planLine ∈ zUU := zUA_6 114 rfl rfl
theorem cd_X10_planLine : Cond.code yX10_planLine cX10_planLine 4 (some .boolean) ∈ zUU := zUA_6 115 rfl rfl
theorem co_X10_207 : Cond.constantLong RX10 207 (1886743660) ∈ zUU := zUA_6 116 rfl rfl
theorem ml_X10_218 : Cond.methodLink RX10 218 yX10_logLine ∈ zUU := zUA_6 117 rfl rfl
theorem im_X10_logLine : Cond.instanceMethod yX10_logLine ∈ zUU := zUA_6 119 rfl rfl
theorem cd_X10_logLine : Cond.code yX10_logLine cX10_logLine 4 (some .boolean) ∈ zUU := zUA_6 120 rfl rfl
theorem co_X10_209 : Cond.constantLong RX10 209 (1936024942) ∈ zUU := zUA_6 121 rfl rfl
theorem ml_X10_231 : Cond.methodLink RX10 231 yX10_store ∈ zUU := zUA_6 122 rfl rfl
theorem im_X10_store : Cond.instanceMethod yX10_store ∈ zUU := zUA_6 124 rfl rfl
theorem cd_X10_store : Cond.code yX10_store cX10_store 5 none ∈ zUU := zUA_6 125 rfl rfl
theorem ml_L_31 : Cond.methodLink RL 31 yX10_fault ∈ zUU := zUA_6 126 rfl rfl
theorem im_X10_fault : Cond.instanceMethod yX10_fault ∈ zUU := zUA_6 127 rfl rfl
theorem se_X10_fault : Cond.selects RX10 yX10_fault yX10_fault ∈ zUU := zUA_6 128 rfl rfl
theorem cd_X10_fault : Cond.code yX10_fault cX10_fault 2 (some .int) ∈ zUU := zUA_6 129 rfl rfl
theorem ml_L_35 : Cond.methodLink RL 35 yX10_line ∈ zUU := zUA_6 130 rfl rfl
theorem im_X10_line : Cond.instanceMethod yX10_line ∈ zUU := zUA_6 131 rfl rfl
theorem se_X10_line : Cond.selects RX10 yX10_line yX10_line ∈ zUU := zUA_6 132 rfl rfl
theorem cd_X10_line : Cond.code yX10_line cX10_line 5 (some .int) ∈ zUU := zUA_6 133 rfl rfl
theorem ml_X10_257 : Cond.methodLink RX10 257 yX10_hand ∈ zUU := zUA_6 134 rfl rfl
theorem im_X10_hand : Cond.instanceMethod yX10_hand ∈ zUU := zUA_6 136 rfl rfl
theorem cd_X10_hand : Cond.code yX10_hand cX10_hand 4 (some .boolean) ∈ zUU := zUA_6 137 rfl rfl
theorem ml_X10_238 : Cond.methodLink RX10 238 yX10_of ∈ zUU := zUA_6 138 rfl rfl
theorem im_X10_of : Cond.instanceMethod yX10_of ∈ zUU := zUA_6 140 rfl rfl
theorem cd_X10_of : Cond.code yX10_of cX10_of 2 (some .int) ∈ zUU := zUA_6 141 rfl rfl
theorem ml_X10_242 : Cond.methodLink RX10 242 yX10_postOf ∈ zUU := zUA_6 142 rfl rfl
theorem im_X10_postOf : Cond.instanceMethod yX10_postOf ∈ zUU := zUA_6 144 rfl rfl
theorem cd_X10_postOf : Cond.code yX10_postOf cX10_postOf 3 (some .int) ∈ zUU := zUA_6 145 rfl rfl
theorem ml_X10_254 : Cond.methodLink RX10 254 yX10_poundsIn ∈ zUU := zUA_6 146 rfl rfl
theorem im_X10_poundsIn : Cond.instanceMethod yX10_poundsIn ∈ zUU := zUA_6 148 rfl rfl
theorem cd_X10_poundsIn : Cond.code yX10_poundsIn cX10_poundsIn 3 (some .int) ∈ zUU := zUA_6 149 rfl rfl
theorem ml_L_40 : Cond.methodLink RL 40 yX10_post ∈ zUU := zUA_6 150 rfl rfl
theorem im_X10_post : Cond.instanceMethod yX10_post ∈ zUU := zUA_6 151 rfl rfl
theorem se_X10_post : Cond.selects RX10 yX10_post yX10_post ∈ zUU := zUA_6 152 rfl rfl
theorem cd_X10_post : Cond.code yX10_post cX10_post 4 (some .int) ∈ zUU := zUA_6 153 rfl rfl
theorem ml_X10_260 : Cond.methodLink RX10 260 yX10_isPost ∈ zUU := zUA_6 154 rfl rfl
theorem im_X10_isPost : Cond.instanceMethod yX10_isPost ∈ zUU := zUA_6 156 rfl rfl
theorem cd_X10_isPost : Cond.code yX10_isPost cX10_isPost 2 (some .boolean) ∈ zUU := zUA_6 157 rfl rfl
theorem ml_L_44 : Cond.methodLink RL 44 yX10_rider ∈ zUU := zUA_6 158 rfl rfl
theorem im_X10_rider : Cond.instanceMethod yX10_rider ∈ zUU := zUA_6 159 rfl rfl
theorem se_X10_rider : Cond.selects RX10 yX10_rider yX10_rider ∈ zUU := zUA_6 160 rfl rfl
theorem cd_X10_rider : Cond.code yX10_rider cX10_rider 4 (some .int) ∈ zUU := zUA_6 161 rfl rfl
theorem ml_X10_263 : Cond.methodLink RX10 263 yX10_isRider ∈ zUU := zUA_6 162 rfl rfl
theorem im_X10_isRider : Cond.instanceMethod yX10_isRider ∈ zUU := zUA_6 164 rfl rfl
theorem cd_X10_isRider : Cond.code yX10_isRider cX10_isRider 2 (some .boolean) ∈ zUU := zUA_6 165 rfl rfl
theorem ml_X10_266 : Cond.methodLink RX10 266 yX10_riderOf ∈ zUU := zUA_6 166 rfl rfl
theorem im_X10_riderOf : Cond.instanceMethod yX10_riderOf ∈ zUU := zUA_6 168 rfl rfl
theorem cd_X10_riderOf : Cond.code yX10_riderOf cX10_riderOf 3 (some .int) ∈ zUU := zUA_6 169 rfl rfl
theorem ml_L_48 : Cond.methodLink RL 48 yX10_run ∈ zUU := zUA_6 170 rfl rfl
theorem im_X10_run : Cond.instanceMethod yX10_run ∈ zUU := zUA_6 171 rfl rfl
theorem se_X10_run : Cond.selects RX10 yX10_run yX10_run ∈ zUU := zUA_6 172 rfl rfl
theorem cd_X10_run : Cond.code yX10_run cX10_run 6 (some .int) ∈ zUU := zUA_6 173 rfl rfl
theorem ml_X10_313 : Cond.methodLink RX10 313 yX10_layRun ∈ zUU := zUA_6 174 rfl rfl
theorem im_X10_layRun : Cond.instanceMethod yX10_layRun ∈ zUU := zUA_6 176 rfl rfl
theorem cd_X10_layRun : Cond.code yX10_layRun cX10_layRun 5 (some .boolean) ∈ zUU := zUA_6 177 rfl rfl
theorem ml_X10_307 : Cond.methodLink RX10 307 yX10_everyone ∈ zUU := zUA_6 178 rfl rfl
theorem im_X10_everyone : Cond.instanceMethod yX10_everyone ∈ zUU := zUA_6 180 rfl rfl
theorem cd_X10_everyone : Cond.code yX10_everyone cX10_everyone 1 (some .int) ∈ zUU := zUA_6 181 rfl rfl
theorem ml_X10_310 : Cond.methodLink RX10 310 yX10_go ∈ zUU := zUA_6 182 rfl rfl
theorem im_X10_go : Cond.instanceMethod yX10_go ∈ zUU := zUA_6 184 rfl rfl
theorem cd_X10_go : Cond.code yX10_go cX10_go 5 none ∈ zUU := zUA_6 185 rfl rfl
theorem ml_X10_294 : Cond.methodLink RX10 294 yX10_begin ∈ zUU := zUA_6 186 rfl rfl
theorem im_X10_begin : Cond.instanceMethod yX10_begin ∈ zUU := zUA_6 188 rfl rfl
theorem cd_X10_begin : Cond.code yX10_begin cX10_begin 2 none ∈ zUU := zUA_6 189 rfl rfl
theorem ml_X10_297 : Cond.methodLink RX10 297 yX10_pullerAt ∈ zUU := zUA_6 190 rfl rfl
theorem im_X10_pullerAt : Cond.instanceMethod yX10_pullerAt ∈ zUU := zUA_6 192 rfl rfl
theorem cd_X10_pullerAt : Cond.code yX10_pullerAt cX10_pullerAt 9 (some .int) ∈ zUU := zUA_6 193 rfl rfl
theorem ml_X10_95 : Cond.methodLink RX10 95 yX10_has ∈ zUU := zUA_6 194 rfl rfl
theorem st_X10_has : Cond.static yX10_has ∈ zUU := zUA_6 195 rfl rfl
theorem cd_X10_has : Cond.code yX10_has cX10_has 2 (some .boolean) ∈ zUU := zUA_6 196 rfl rfl
theorem ml_X10_279 : Cond.methodLink RX10 279 yX10_wants ∈ zUU := zUA_6 197 rfl rfl
theorem im_X10_wants : Cond.instanceMethod yX10_wants ∈ zUU := zUA_6 199 rfl rfl
theorem cd_X10_wants : Cond.code yX10_wants cX10_wants 3 (some .boolean) ∈ zUU := zUA_6 200 rfl rfl
theorem ml_X10_273 : Cond.methodLink RX10 273 yX10_isOn ∈ zUU := zUA_6 201 rfl rfl
theorem im_X10_isOn : Cond.instanceMethod yX10_isOn ∈ zUU := zUA_6 203 rfl rfl
theorem cd_X10_isOn : Cond.code yX10_isOn cX10_isOn 3 (some .boolean) ∈ zUU := zUA_6 204 rfl rfl
theorem ml_X10_282 : Cond.methodLink RX10 282 yX10_draw ∈ zUU := zUA_6 205 rfl rfl
theorem im_X10_draw : Cond.instanceMethod yX10_draw ∈ zUU := zUA_6 207 rfl rfl
theorem cd_X10_draw : Cond.code yX10_draw cX10_draw 2 (some .int) ∈ zUU := zUA_6 208 rfl rfl
theorem co_X10_272 : Cond.constant RX10 272 (1103515245) ∈ zUU := zUA_6 209 rfl rfl
theorem ml_X10_301 : Cond.methodLink RX10 301 yX10_pullsAt ∈ zUU := zUA_6 210 rfl rfl
theorem im_X10_pullsAt : Cond.instanceMethod yX10_pullsAt ∈ zUU := zUA_6 212 rfl rfl
theorem cd_X10_pullsAt : Cond.code yX10_pullsAt cX10_pullsAt 5 none ∈ zUU := zUA_6 213 rfl rfl
theorem ml_X10_304 : Cond.methodLink RX10 304 yX10_timesBy ∈ zUU := zUA_6 214 rfl rfl
theorem im_X10_timesBy : Cond.instanceMethod yX10_timesBy ∈ zUU := zUA_6 216 rfl rfl
theorem cd_X10_timesBy : Cond.code yX10_timesBy cX10_timesBy 4 none ∈ zUU := zUA_6 217 rfl rfl
theorem ml_X10_317 : Cond.methodLink RX10 317 yX10_gathered ∈ zUU := zUA_6 218 rfl rfl
theorem im_X10_gathered : Cond.instanceMethod yX10_gathered ∈ zUU := zUA_6 220 rfl rfl
theorem cd_X10_gathered : Cond.code yX10_gathered cX10_gathered 3 (some .int) ∈ zUU := zUA_6 221 rfl rfl
theorem ml_X10_320 : Cond.methodLink RX10 320 yX10_stopsOf ∈ zUU := zUA_6 222 rfl rfl
theorem im_X10_stopsOf : Cond.instanceMethod yX10_stopsOf ∈ zUU := zUA_6 224 rfl rfl
theorem cd_X10_stopsOf : Cond.code yX10_stopsOf cX10_stopsOf 3 (some .int) ∈ zUU := zUA_6 225 rfl rfl
theorem ml_X10_323 : Cond.methodLink RX10 323 yX10_ones ∈ zUU := zUA_6 226 rfl rfl
theorem st_X10_ones : Cond.static yX10_ones ∈ zUU := zUA_6 227 rfl rfl
theorem cd_X10_ones : Cond.code yX10_ones cX10_ones 3 (some .int) ∈ zUU := zUA_6 228 rfl rfl
theorem ml_L_52 : Cond.methodLink RL 52 yX10_who ∈ zUU := zUA_6 229 rfl rfl
theorem im_X10_who : Cond.instanceMethod yX10_who ∈ zUU := zUA_6 230 rfl rfl
theorem se_X10_who : Cond.selects RX10 yX10_who yX10_who ∈ zUU := zUA_6 231 rfl rfl
theorem cd_X10_who : Cond.code yX10_who cX10_who 6 (some .int) ∈ zUU := zUA_6 232 rfl rfl
theorem ml_L_56 : Cond.methodLink RL 56 yX10_late ∈ zUU := zUA_6 233 rfl rfl
theorem im_X10_late : Cond.instanceMethod yX10_late ∈ zUU := zUA_6 234 rfl rfl
theorem se_X10_late : Cond.selects RX10 yX10_late yX10_late ∈ zUU := zUA_6 235 rfl rfl
theorem cd_X10_late : Cond.code yX10_late cX10_late 6 (some .int) ∈ zUU := zUA_6 236 rfl rfl
theorem ml_L_61 : Cond.methodLink RL 61 yX10_purse ∈ zUU := zUA_6 237 rfl rfl
theorem im_X10_purse : Cond.instanceMethod yX10_purse ∈ zUU := zUA_6 238 rfl rfl
theorem se_X10_purse : Cond.selects RX10 yX10_purse yX10_purse ∈ zUU := zUA_6 239 rfl rfl
theorem cd_X10_purse : Cond.code yX10_purse cX10_purse 12 (some .int) ∈ zUU := zUA_7 0 rfl rfl
theorem ml_X10_326 : Cond.methodLink RX10 326 yX10_bearing ∈ zUU := zUA_7 1 rfl rfl
theorem im_X10_bearing : Cond.instanceMethod yX10_bearing ∈ zUU := zUA_7 3 rfl rfl
theorem cd_X10_bearing : Cond.code yX10_bearing cX10_bearing 3 (some .int) ∈ zUU := zUA_7 4 rfl rfl
theorem ml_X10_329 : Cond.methodLink RX10 329 yX10_poundsOf ∈ zUU := zUA_7 5 rfl rfl
theorem im_X10_poundsOf : Cond.instanceMethod yX10_poundsOf ∈ zUU := zUA_7 7 rfl rfl
theorem cd_X10_poundsOf : Cond.code yX10_poundsOf cX10_poundsOf 4 (some .int) ∈ zUU := zUA_7 8 rfl rfl
theorem ml_X10_332 : Cond.methodLink RX10 332 yX10_costsOf ∈ zUU := zUA_7 9 rfl rfl
theorem im_X10_costsOf : Cond.instanceMethod yX10_costsOf ∈ zUU := zUA_7 11 rfl rfl
theorem cd_X10_costsOf : Cond.code yX10_costsOf cX10_costsOf 4 (some .int) ∈ zUU := zUA_7 12 rfl rfl
theorem ml_L_65 : Cond.methodLink RL 65 yX10_rest ∈ zUU := zUA_7 13 rfl rfl
theorem im_X10_rest : Cond.instanceMethod yX10_rest ∈ zUU := zUA_7 14 rfl rfl
theorem se_X10_rest : Cond.selects RX10 yX10_rest yX10_rest ∈ zUU := zUA_7 15 rfl rfl
theorem cd_X10_rest : Cond.code yX10_rest cX10_rest 6 (some .int) ∈ zUU := zUA_7 16 rfl rfl
theorem ml_X10_341 : Cond.methodLink RX10 341 yX10_isRest ∈ zUU := zUA_7 17 rfl rfl
theorem im_X10_isRest : Cond.instanceMethod yX10_isRest ∈ zUU := zUA_7 19 rfl rfl
theorem cd_X10_isRest : Cond.code yX10_isRest cX10_isRest 3 (some .boolean) ∈ zUU := zUA_7 20 rfl rfl
theorem ml_X10_338 : Cond.methodLink RX10 338 yX10_gainOf ∈ zUU := zUA_7 21 rfl rfl
theorem im_X10_gainOf : Cond.instanceMethod yX10_gainOf ∈ zUU := zUA_7 23 rfl rfl
theorem cd_X10_gainOf : Cond.code yX10_gainOf cX10_gainOf 3 (some .int) ∈ zUU := zUA_7 24 rfl rfl
theorem ml_X10_335 : Cond.methodLink RX10 335 yX10_gainNow ∈ zUU := zUA_7 25 rfl rfl
theorem im_X10_gainNow : Cond.instanceMethod yX10_gainNow ∈ zUU := zUA_7 27 rfl rfl
theorem cd_X10_gainNow : Cond.code yX10_gainNow cX10_gainNow 4 (some .int) ∈ zUU := zUA_7 28 rfl rfl
theorem ml_L_69 : Cond.methodLink RL 69 yX10_gain ∈ zUU := zUA_7 29 rfl rfl
theorem im_X10_gain : Cond.instanceMethod yX10_gain ∈ zUU := zUA_7 30 rfl rfl
theorem se_X10_gain : Cond.selects RX10 yX10_gain yX10_gain ∈ zUU := zUA_7 31 rfl rfl
theorem cd_X10_gain : Cond.code yX10_gain cX10_gain 5 (some .int) ∈ zUU := zUA_7 32 rfl rfl
theorem co_X10_344 : Cond.constant RX10 344 (-1000000) ∈ zUU := zUA_7 33 rfl rfl
theorem ml_L_74 : Cond.methodLink RL 74 yX10_chance ∈ zUU := zUA_7 34 rfl rfl
theorem im_X10_chance : Cond.instanceMethod yX10_chance ∈ zUU := zUA_7 35 rfl rfl
theorem se_X10_chance : Cond.selects RX10 yX10_chance yX10_chance ∈ zUU := zUA_7 36 rfl rfl
theorem cd_X10_chance : Cond.code yX10_chance cX10_chance 7 (some .long) ∈ zUU := zUA_7 37 rfl rfl
theorem co_X10_354 : Cond.constantLong RX10 354 (-1) ∈ zUU := zUA_7 38 rfl rfl
theorem co_X10_348 : Cond.constantLong RX10 348 (10) ∈ zUU := zUA_7 39 rfl rfl
theorem ml_X10_356 : Cond.methodLink RX10 356 yX10_part ∈ zUU := zUA_7 40 rfl rfl
theorem st_X10_part : Cond.static yX10_part ∈ zUU := zUA_7 41 rfl rfl
theorem cd_X10_part : Cond.code yX10_part cX10_part 7 (some .long) ∈ zUU := zUA_7 42 rfl rfl
theorem ml_X10_350 : Cond.methodLink RX10 350 yX10_common ∈ zUU := zUA_7 43 rfl rfl
theorem st_X10_common : Cond.static yX10_common ∈ zUU := zUA_7 44 rfl rfl
theorem cd_X10_common : Cond.code yX10_common cX10_common 10 (some .long) ∈ zUU := zUA_7 45 rfl rfl
theorem ml_X10_360 : Cond.methodLink RX10 360 yX10_findOdds ∈ zUU := zUA_7 46 rfl rfl
theorem im_X10_findOdds : Cond.instanceMethod yX10_findOdds ∈ zUU := zUA_7 48 rfl rfl
theorem cd_X10_findOdds : Cond.code yX10_findOdds cX10_findOdds 5 none ∈ zUU := zUA_7 49 rfl rfl
theorem ml_L_78 : Cond.methodLink RL 78 yX10_slack ∈ zUU := zUA_7 50 rfl rfl
theorem im_X10_slack : Cond.instanceMethod yX10_slack ∈ zUU := zUA_7 51 rfl rfl
theorem se_X10_slack : Cond.selects RX10 yX10_slack yX10_slack ∈ zUU := zUA_7 52 rfl rfl
theorem cd_X10_slack : Cond.code yX10_slack cX10_slack 3 (some .int) ∈ zUU := zUA_7 53 rfl rfl
theorem ml_X10_365 : Cond.methodLink RX10 365 yX10_enough ∈ zUU := zUA_7 54 rfl rfl
theorem im_X10_enough : Cond.instanceMethod yX10_enough ∈ zUU := zUA_7 56 rfl rfl
theorem cd_X10_enough : Cond.code yX10_enough cX10_enough 5 (some .int) ∈ zUU := zUA_7 57 rfl rfl
theorem co_X10_363 : Cond.constantLong RX10 363 (100) ∈ zUU := zUA_7 58 rfl rfl
theorem ml_L_82 : Cond.methodLink RL 82 yX10_shells ∈ zUU := zUA_7 59 rfl rfl
theorem im_X10_shells : Cond.instanceMethod yX10_shells ∈ zUU := zUA_7 60 rfl rfl
theorem se_X10_shells : Cond.selects RX10 yX10_shells yX10_shells ∈ zUU := zUA_7 61 rfl rfl
theorem cd_X10_shells : Cond.code yX10_shells cX10_shells 11 (some .int) ∈ zUU := zUA_7 62 rfl rfl
theorem ml_L_86 : Cond.methodLink RL 86 yX10_meet ∈ zUU := zUA_7 63 rfl rfl
theorem im_X10_meet : Cond.instanceMethod yX10_meet ∈ zUU := zUA_7 64 rfl rfl
theorem se_X10_meet : Cond.selects RX10 yX10_meet yX10_meet ∈ zUU := zUA_7 65 rfl rfl
theorem cd_X10_meet : Cond.code yX10_meet cX10_meet 8 (some .int) ∈ zUU := zUA_7 66 rfl rfl
theorem ml_X10_377 : Cond.methodLink RX10 377 yX10_meetOther ∈ zUU := zUA_7 67 rfl rfl
theorem im_X10_meetOther : Cond.instanceMethod yX10_meetOther ∈ zUU := zUA_7 69 rfl rfl
theorem cd_X10_meetOther : Cond.code yX10_meetOther cX10_meetOther 5 none ∈ zUU := zUA_7 70 rfl rfl
theorem ml_X10_374 : Cond.methodLink RX10 374 yX10_waitAt ∈ zUU := zUA_7 71 rfl rfl
theorem im_X10_waitAt : Cond.instanceMethod yX10_waitAt ∈ zUU := zUA_7 73 rfl rfl
theorem cd_X10_waitAt : Cond.code yX10_waitAt cX10_waitAt 6 (some .int) ∈ zUU := zUA_7 74 rfl rfl
theorem ml_X10_368 : Cond.methodLink RX10 368 yX10_nextStation ∈ zUU := zUA_7 75 rfl rfl
theorem im_X10_nextStation : Cond.instanceMethod yX10_nextStation ∈ zUU := zUA_7 77 rfl rfl
theorem cd_X10_nextStation : Cond.code yX10_nextStation cX10_nextStation 3 (some .int) ∈ zUU := zUA_7 78 rfl rfl
theorem ml_L_90 : Cond.methodLink RL 90 yX10_pull ∈ zUU := zUA_7 79 rfl rfl
theorem im_X10_pull : Cond.instanceMethod yX10_pull ∈ zUU := zUA_7 80 rfl rfl
theorem se_X10_pull : Cond.selects RX10 yX10_pull yX10_pull ∈ zUU := zUA_7 81 rfl rfl
theorem cd_X10_pull : Cond.code yX10_pull cX10_pull 4 (some .int) ∈ zUU := zUA_7 82 rfl rfl
theorem ml_X10_383 : Cond.methodLink RX10 383 yX10_hasPlan ∈ zUU := zUA_7 83 rfl rfl
theorem im_X10_hasPlan : Cond.instanceMethod yX10_hasPlan ∈ zUU := zUA_7 85 rfl rfl
theorem cd_X10_hasPlan : Cond.code yX10_hasPlan cX10_hasPlan 2 (some .boolean) ∈ zUU := zUA_7 86 rfl rfl
theorem ml_X10_386 : Cond.methodLink RX10 386 yX10_pulls ∈ zUU := zUA_7 87 rfl rfl
theorem im_X10_pulls : Cond.instanceMethod yX10_pulls ∈ zUU := zUA_7 89 rfl rfl
theorem cd_X10_pulls : Cond.code yX10_pulls cX10_pulls 1 (some .int) ∈ zUU := zUA_7 90 rfl rfl
theorem ml_X10_389 : Cond.methodLink RX10 389 yX10_pullOf ∈ zUU := zUA_7 91 rfl rfl
theorem im_X10_pullOf : Cond.instanceMethod yX10_pullOf ∈ zUU := zUA_7 93 rfl rfl
theorem cd_X10_pullOf : Cond.code yX10_pullOf cX10_pullOf 3 (some .int) ∈ zUU := zUA_7 94 rfl rfl
theorem ml_L_94 : Cond.methodLink RL 94 yX10_played ∈ zUU := zUA_7 95 rfl rfl
theorem im_X10_played : Cond.instanceMethod yX10_played ∈ zUU := zUA_7 96 rfl rfl
theorem se_X10_played : Cond.selects RX10 yX10_played yX10_played ∈ zUU := zUA_7 97 rfl rfl
theorem cd_X10_played : Cond.code yX10_played cX10_played 6 (some .int) ∈ zUU := zUA_7 98 rfl rfl
theorem ml_X10_395 : Cond.methodLink RX10 395 yX10_doPlan ∈ zUU := zUA_7 99 rfl rfl
theorem im_X10_doPlan : Cond.instanceMethod yX10_doPlan ∈ zUU := zUA_7 101 rfl rfl
theorem cd_X10_doPlan : Cond.code yX10_doPlan cX10_doPlan 2 (some .int) ∈ zUU := zUA_7 102 rfl rfl
theorem ml_X10_392 : Cond.methodLink RX10 392 yX10_canPull ∈ zUU := zUA_7 103 rfl rfl
theorem im_X10_canPull : Cond.instanceMethod yX10_canPull ∈ zUU := zUA_7 105 rfl rfl
theorem cd_X10_canPull : Cond.code yX10_canPull cX10_canPull 4 (some .boolean) ∈ zUU := zUA_7 106 rfl rfl
theorem ml_L_98 : Cond.methodLink RL 98 yX10_print ∈ zUU := zUA_7 107 rfl rfl
theorem im_X10_print : Cond.instanceMethod yX10_print ∈ zUU := zUA_7 108 rfl rfl
theorem se_X10_print : Cond.selects RX10 yX10_print yX10_print ∈ zUU := zUA_7 109 rfl rfl
theorem cd_X10_print : Cond.code yX10_print cX10_print 6 (some .int) ∈ zUU := zUA_7 110 rfl rfl
theorem ml_L_103 : Cond.methodLink RL 103 yX10_most ∈ zUU := zUA_7 111 rfl rfl
theorem im_X10_most : Cond.instanceMethod yX10_most ∈ zUU := zUA_7 112 rfl rfl
theorem se_X10_most : Cond.selects RX10 yX10_most yX10_most ∈ zUU := zUA_7 113 rfl rfl
theorem cd_X10_most : Cond.code yX10_most cX10_most 9 (some .int) ∈ zUU := zUA_7 114 rfl rfl
theorem ml_L_107 : Cond.methodLink RL 107 yX10_weeks ∈ zUU := zUA_7 115 rfl rfl
theorem im_X10_weeks : Cond.instanceMethod yX10_weeks ∈ zUU := zUA_7 116 rfl rfl
theorem se_X10_weeks : Cond.selects RX10 yX10_weeks yX10_weeks ∈ zUU := zUA_7 117 rfl rfl
theorem cd_X10_weeks : Cond.code yX10_weeks cX10_weeks 11 (some .int) ∈ zUU := zUA_7 118 rfl rfl
theorem ml_L_111 : Cond.methodLink RL 111 yX10_calm ∈ zUU := zUA_7 119 rfl rfl
theorem im_X10_calm : Cond.instanceMethod yX10_calm ∈ zUU := zUA_7 120 rfl rfl
theorem se_X10_calm : Cond.selects RX10 yX10_calm yX10_calm ∈ zUU := zUA_7 121 rfl rfl
theorem cd_X10_calm : Cond.code yX10_calm cX10_calm 6 (some .int) ∈ zUU := zUA_7 122 rfl rfl
theorem ml_X10_398 : Cond.methodLink RX10 398 yX10_isCalm ∈ zUU := zUA_7 123 rfl rfl
theorem im_X10_isCalm : Cond.instanceMethod yX10_isCalm ∈ zUU := zUA_7 125 rfl rfl
theorem cd_X10_isCalm : Cond.code yX10_isCalm cX10_isCalm 3 (some .boolean) ∈ zUU := zUA_7 126 rfl rfl
theorem ml_L_116 : Cond.methodLink RL 116 yX10_rich ∈ zUU := zUA_7 127 rfl rfl
theorem im_X10_rich : Cond.instanceMethod yX10_rich ∈ zUU := zUA_7 128 rfl rfl
theorem se_X10_rich : Cond.selects RX10 yX10_rich yX10_rich ∈ zUU := zUA_7 129 rfl rfl
theorem cd_X10_rich : Cond.code yX10_rich cX10_rich 6 (some .int) ∈ zUU := zUA_7 130 rfl rfl
theorem ml_X10_401 : Cond.methodLink RX10 401 yX10_spare ∈ zUU := zUA_7 131 rfl rfl
theorem im_X10_spare : Cond.instanceMethod yX10_spare ∈ zUU := zUA_7 133 rfl rfl
theorem cd_X10_spare : Cond.code yX10_spare cX10_spare 7 (some .int) ∈ zUU := zUA_7 134 rfl rfl
theorem ml_X10_404 : Cond.methodLink RX10 404 yX10_richest ∈ zUU := zUA_7 135 rfl rfl
theorem im_X10_richest : Cond.instanceMethod yX10_richest ∈ zUU := zUA_7 137 rfl rfl
theorem cd_X10_richest : Cond.code yX10_richest cX10_richest 4 (some .int) ∈ zUU := zUA_7 138 rfl rfl
theorem ml_L_120 : Cond.methodLink RL 120 yX10_lots ∈ zUU := zUA_7 139 rfl rfl
theorem im_X10_lots : Cond.instanceMethod yX10_lots ∈ zUU := zUA_7 140 rfl rfl
theorem se_X10_lots : Cond.selects RX10 yX10_lots yX10_lots ∈ zUU := zUA_7 141 rfl rfl
theorem cd_X10_lots : Cond.code yX10_lots cX10_lots 8 (some .int) ∈ zUU := zUA_7 142 rfl rfl
theorem ml_L_124 : Cond.methodLink RL 124 yX10_seen ∈ zUU := zUA_7 143 rfl rfl
theorem im_X10_seen : Cond.instanceMethod yX10_seen ∈ zUU := zUA_7 144 rfl rfl
theorem se_X10_seen : Cond.selects RX10 yX10_seen yX10_seen ∈ zUU := zUA_7 145 rfl rfl
theorem cd_X10_seen : Cond.code yX10_seen cX10_seen 5 (some .int) ∈ zUU := zUA_7 146 rfl rfl
theorem ml_X10_410 : Cond.methodLink RX10 410 yX10_hasLog ∈ zUU := zUA_7 147 rfl rfl
theorem im_X10_hasLog : Cond.instanceMethod yX10_hasLog ∈ zUU := zUA_7 149 rfl rfl
theorem cd_X10_hasLog : Cond.code yX10_hasLog cX10_hasLog 2 (some .boolean) ∈ zUU := zUA_7 150 rfl rfl
theorem ml_X10_413 : Cond.methodLink RX10 413 yX10_seenOf ∈ zUU := zUA_7 151 rfl rfl
theorem im_X10_seenOf : Cond.instanceMethod yX10_seenOf ∈ zUU := zUA_7 153 rfl rfl
theorem cd_X10_seenOf : Cond.code yX10_seenOf cX10_seenOf 3 (some .int) ∈ zUU := zUA_7 154 rfl rfl
theorem ml_L_128 : Cond.methodLink RL 128 yX10_hold ∈ zUU := zUA_7 155 rfl rfl
theorem im_X10_hold : Cond.instanceMethod yX10_hold ∈ zUU := zUA_7 156 rfl rfl
theorem se_X10_hold : Cond.selects RX10 yX10_hold yX10_hold ∈ zUU := zUA_7 157 rfl rfl
theorem cd_X10_hold : Cond.code yX10_hold cX10_hold 9 (some .int) ∈ zUU := zUA_7 158 rfl rfl
theorem ml_X10_416 : Cond.methodLink RX10 416 yX10_holds ∈ zUU := zUA_7 159 rfl rfl
theorem im_X10_holds : Cond.instanceMethod yX10_holds ∈ zUU := zUA_7 161 rfl rfl
theorem cd_X10_holds : Cond.code yX10_holds cX10_holds 4 (some .boolean) ∈ zUU := zUA_7 162 rfl rfl
theorem ml_L_132 : Cond.methodLink RL 132 yX10_risk ∈ zUU := zUA_7 163 rfl rfl
theorem im_X10_risk : Cond.instanceMethod yX10_risk ∈ zUU := zUA_7 164 rfl rfl
theorem se_X10_risk : Cond.selects RX10 yX10_risk yX10_risk ∈ zUU := zUA_7 165 rfl rfl
theorem cd_X10_risk : Cond.code yX10_risk cX10_risk 7 (some .int) ∈ zUU := zUA_7 166 rfl rfl
theorem ml_X10_419 : Cond.methodLink RX10 419 yX10_allWaits ∈ zUU := zUA_7 167 rfl rfl
theorem im_X10_allWaits : Cond.instanceMethod yX10_allWaits ∈ zUU := zUA_7 169 rfl rfl
theorem cd_X10_allWaits : Cond.code yX10_allWaits cX10_allWaits 3 (some .int) ∈ zUU := zUA_7 170 rfl rfl
theorem ml_L_136 : Cond.methodLink RL 136 yX10_vote ∈ zUU := zUA_7 171 rfl rfl
theorem im_X10_vote : Cond.instanceMethod yX10_vote ∈ zUU := zUA_7 172 rfl rfl
theorem se_X10_vote : Cond.selects RX10 yX10_vote yX10_vote ∈ zUU := zUA_7 173 rfl rfl
theorem cd_X10_vote : Cond.code yX10_vote cX10_vote 7 (some .int) ∈ zUU := zUA_7 174 rfl rfl
theorem ml_X10_422 : Cond.methodLink RX10 422 yX10_lawFor ∈ zUU := zUA_7 175 rfl rfl
theorem im_X10_lawFor : Cond.instanceMethod yX10_lawFor ∈ zUU := zUA_7 177 rfl rfl
theorem cd_X10_lawFor : Cond.code yX10_lawFor cX10_lawFor 7 (some .int) ∈ zUU := zUA_7 178 rfl rfl
theorem ml_L_140 : Cond.methodLink RL 140 yX10_left ∈ zUU := zUA_7 179 rfl rfl
theorem im_X10_left : Cond.instanceMethod yX10_left ∈ zUU := zUA_7 180 rfl rfl
theorem se_X10_left : Cond.selects RX10 yX10_left yX10_left ∈ zUU := zUA_7 181 rfl rfl
theorem cd_X10_left : Cond.code yX10_left cX10_left 8 (some .int) ∈ zUU := zUA_7 182 rfl rfl
theorem ml_L_144 : Cond.methodLink RL 144 yX10_bid ∈ zUU := zUA_7 183 rfl rfl
theorem im_X10_bid : Cond.instanceMethod yX10_bid ∈ zUU := zUA_7 184 rfl rfl
theorem se_X10_bid : Cond.selects RX10 yX10_bid yX10_bid ∈ zUU := zUA_7 185 rfl rfl
theorem cd_X10_bid : Cond.code yX10_bid cX10_bid 10 (some .int) ∈ zUU := zUA_7 186 rfl rfl
theorem ml_L_148 : Cond.methodLink RL 148 yX10_count ∈ zUU := zUA_7 187 rfl rfl
theorem im_X10_count : Cond.instanceMethod yX10_count ∈ zUU := zUA_7 188 rfl rfl
theorem se_X10_count : Cond.selects RX10 yX10_count yX10_count ∈ zUU := zUA_7 189 rfl rfl
theorem cd_X10_count : Cond.code yX10_count cX10_count 2 (some .int) ∈ zUU := zUA_7 190 rfl rfl
theorem ml_L_153 : Cond.methodLink RL 153 yX10_image ∈ zUU := zUA_7 191 rfl rfl
theorem im_X10_image : Cond.instanceMethod yX10_image ∈ zUU := zUA_7 192 rfl rfl
theorem se_X10_image : Cond.selects RX10 yX10_image yX10_image ∈ zUU := zUA_7 193 rfl rfl
theorem cd_X10_image : Cond.code yX10_image cX10_image 2 (some .boolean) ∈ zUU := zUA_7 194 rfl rfl
theorem ml_X10_425 : Cond.methodLink RX10 425 yX10_copyAll ∈ zUU := zUA_7 195 rfl rfl
theorem im_X10_copyAll : Cond.instanceMethod yX10_copyAll ∈ zUU := zUA_7 197 rfl rfl
theorem cd_X10_copyAll : Cond.code yX10_copyAll cX10_copyAll 4 none ∈ zUU := zUA_7 198 rfl rfl
theorem ml_X10_99 : Cond.methodLink RX10 99 yX10_copyRow ∈ zUU := zUA_7 199 rfl rfl
theorem st_X10_copyRow : Cond.static yX10_copyRow ∈ zUU := zUA_7 200 rfl rfl
theorem cd_X10_copyRow : Cond.code yX10_copyRow cX10_copyRow 5 none ∈ zUU := zUA_7 201 rfl rfl
theorem ml_L_157 : Cond.methodLink RL 157 yX10_again ∈ zUU := zUA_7 202 rfl rfl
theorem im_X10_again : Cond.instanceMethod yX10_again ∈ zUU := zUA_7 203 rfl rfl
theorem se_X10_again : Cond.selects RX10 yX10_again yX10_again ∈ zUU := zUA_7 204 rfl rfl
theorem cd_X10_again : Cond.code yX10_again cX10_again 2 (some .boolean) ∈ zUU := zUA_7 205 rfl rfl
theorem se_X9_placeFor : Cond.selects RX9 yX9_placeFor yX9_placeFor ∈ zUU := zUU_pr (y := yX9_placeFor) (n := 11) 0 (by decide +kernel)
theorem se_X4_readRows : Cond.selects RX4 yX4_readRows yX4_readRows ∈ zUU := zUU_pr (y := yX4_readRows) (n := 13) 1 (by decide +kernel)
theorem se_X4_nextToken : Cond.selects RX4 yX4_nextToken yX4_nextToken ∈ zUU := zUU_pr (y := yX4_nextToken) (n := 13) 2 (by decide +kernel)
theorem se_X4_isLetter : Cond.selects RX4 yX4_isLetter yX4_isLetter ∈ zUU := zUU_pr (y := yX4_isLetter) (n := 13) 3 (by decide +kernel)
theorem se_X4_isDigit : Cond.selects RX4 yX4_isDigit yX4_isDigit ∈ zUU := zUU_pr (y := yX4_isDigit) (n := 13) 4 (by decide +kernel)
theorem se_X4_takeDigits : Cond.selects RX4 yX4_takeDigits yX4_takeDigits ∈ zUU := zUU_pr (y := yX4_takeDigits) (n := 13) 5 (by decide +kernel)
theorem se_X4_wordOf : Cond.selects RX4 yX4_wordOf yX4_wordOf ∈ zUU := zUU_pr (y := yX4_wordOf) (n := 13) 6 (by decide +kernel)
theorem se_X4_isWord : Cond.selects RX4 yX4_isWord yX4_isWord ∈ zUU := zUU_pr (y := yX4_isWord) (n := 13) 7 (by decide +kernel)
theorem se_X4_lineWord : Cond.selects RX4 yX4_lineWord yX4_lineWord ∈ zUU := zUU_pr (y := yX4_lineWord) (n := 13) 8 (by decide +kernel)
theorem se_X4_readNumbers : Cond.selects RX4 yX4_readNumbers yX4_readNumbers ∈ zUU := zUU_pr (y := yX4_readNumbers) (n := 13) 9 (by decide +kernel)
theorem se_X4_tell : Cond.selects RX4 yX4_tell yX4_tell ∈ zUU := zUU_pr (y := yX4_tell) (n := 13) 10 (by decide +kernel)
theorem se_X4_tellPost : Cond.selects RX4 yX4_tellPost yX4_tellPost ∈ zUU := zUU_pr (y := yX4_tellPost) (n := 13) 11 (by decide +kernel)
theorem se_X4_note : Cond.selects RX4 yX4_note yX4_note ∈ zUU := zUU_pr (y := yX4_note) (n := 13) 12 (by decide +kernel)
theorem se_X4_number : Cond.selects RX4 yX4_number yX4_number ∈ zUU := zUU_pr (y := yX4_number) (n := 13) 13 (by decide +kernel)
theorem se_X4_tellRider : Cond.selects RX4 yX4_tellRider yX4_tellRider ∈ zUU := zUU_pr (y := yX4_tellRider) (n := 13) 14 (by decide +kernel)
theorem se_X4_tellOfPost : Cond.selects RX4 yX4_tellOfPost yX4_tellOfPost ∈ zUU := zUU_pr (y := yX4_tellOfPost) (n := 13) 15 (by decide +kernel)
theorem se_X4_tellPair : Cond.selects RX4 yX4_tellPair yX4_tellPair ∈ zUU := zUU_pr (y := yX4_tellPair) (n := 13) 16 (by decide +kernel)
theorem se_X8_has : Cond.selects RX8 yX8_has yX8_has ∈ zUU := zUU_pr (y := yX8_has) (n := 8) 17 (by decide +kernel)
theorem se_X9_ridden : Cond.selects RX9 yX9_ridden yX9_ridden ∈ zUU := zUU_pr (y := yX9_ridden) (n := 11) 18 (by decide +kernel)
theorem se_X5_begin : Cond.selects RX5 yX5_begin yX5_begin ∈ zUU := zUU_pr (y := yX5_begin) (n := 12) 19 (by decide +kernel)
theorem se_X5_wantingAt : Cond.selects RX5 yX5_wantingAt yX5_wantingAt ∈ zUU := zUU_pr (y := yX5_wantingAt) (n := 12) 20 (by decide +kernel)
theorem se_X5_canPull : Cond.selects RX5 yX5_canPull yX5_canPull ∈ zUU := zUU_pr (y := yX5_canPull) (n := 12) 21 (by decide +kernel)
theorem se_X5_chosen : Cond.selects RX5 yX5_chosen yX5_chosen ∈ zUU := zUU_pr (y := yX5_chosen) (n := 12) 22 (by decide +kernel)
theorem se_X5_drawBelow : Cond.selects RX5 yX5_drawBelow yX5_drawBelow ∈ zUU := zUU_pr (y := yX5_drawBelow) (n := 12) 23 (by decide +kernel)
theorem se_X5_stopAt : Cond.selects RX5 yX5_stopAt yX5_stopAt ∈ zUU := zUU_pr (y := yX5_stopAt) (n := 12) 24 (by decide +kernel)
theorem se_X9_fillGains : Cond.selects RX9 yX9_fillGains yX9_fillGains ∈ zUU := zUU_pr (y := yX9_fillGains) (n := 11) 25 (by decide +kernel)
theorem se_X9_keepGains : Cond.selects RX9 yX9_keepGains yX9_keepGains ∈ zUU := zUU_pr (y := yX9_keepGains) (n := 11) 26 (by decide +kernel)
theorem se_X9_isAtRest : Cond.selects RX9 yX9_isAtRest yX9_isAtRest ∈ zUU := zUU_pr (y := yX9_isAtRest) (n := 11) 27 (by decide +kernel)
theorem se_X9_isCalm : Cond.selects RX9 yX9_isCalm yX9_isCalm ∈ zUU := zUU_pr (y := yX9_isCalm) (n := 11) 28 (by decide +kernel)
theorem se_X9_sparePost : Cond.selects RX9 yX9_sparePost yX9_sparePost ∈ zUU := zUU_pr (y := yX9_sparePost) (n := 11) 29 (by decide +kernel)
theorem se_X9_fillGainsByLaw : Cond.selects RX9 yX9_fillGainsByLaw yX9_fillGainsByLaw ∈ zUU := zUU_pr (y := yX9_fillGainsByLaw) (n := 11) 30 (by decide +kernel)
theorem se_X9_votesFor : Cond.selects RX9 yX9_votesFor yX9_votesFor ∈ zUU := zUU_pr (y := yX9_votesFor) (n := 11) 31 (by decide +kernel)
theorem se_X9_lawOf : Cond.selects RX9 yX9_lawOf yX9_lawOf ∈ zUU := zUU_pr (y := yX9_lawOf) (n := 11) 32 (by decide +kernel)
theorem se_X9_bestChoice : Cond.selects RX9 yX9_bestChoice yX9_bestChoice ∈ zUU := zUU_pr (y := yX9_bestChoice) (n := 11) 33 (by decide +kernel)
theorem se_X3_addPost : Cond.selects RX3 yX3_addPost yX3_addPost ∈ zUU := zUU_pr (y := yX3_addPost) (n := 2) 34 (by decide +kernel)
theorem se_X6_keep : Cond.selects RX6 yX6_keep yX6_keep ∈ zUU := zUU_pr (y := yX6_keep) (n := 11) 35 (by decide +kernel)
theorem se_X6_fillDues : Cond.selects RX6 yX6_fillDues yX6_fillDues ∈ zUU := zUU_pr (y := yX6_fillDues) (n := 11) 36 (by decide +kernel)
theorem se_X6_allBits : Cond.selects RX6 yX6_allBits yX6_allBits ∈ zUU := zUU_pr (y := yX6_allBits) (n := 11) 37 (by decide +kernel)
theorem se_X7_addStop : Cond.selects RX7 yX7_addStop yX7_addStop ∈ zUU := zUU_pr (y := yX7_addStop) (n := 3) 38 (by decide +kernel)
theorem se_X10_four : Cond.selects RX10 yX10_four yX10_four ∈ zUU := zUU_pr (y := yX10_four) (n := 50) 39 (by decide +kernel)
theorem se_X10_is : Cond.selects RX10 yX10_is yX10_is ∈ zUU := zUU_pr (y := yX10_is) (n := 50) 40 (by decide +kernel)
theorem se_X10_readText : Cond.selects RX10 yX10_readText yX10_readText ∈ zUU := zUU_pr (y := yX10_readText) (n := 50) 41 (by decide +kernel)
theorem se_X10_token : Cond.selects RX10 yX10_token yX10_token ∈ zUU := zUU_pr (y := yX10_token) (n := 50) 42 (by decide +kernel)
theorem se_X10_see : Cond.selects RX10 yX10_see yX10_see ∈ zUU := zUU_pr (y := yX10_see) (n := 50) 43 (by decide +kernel)
theorem se_X10_textLines : Cond.selects RX10 yX10_textLines yX10_textLines ∈ zUU := zUU_pr (y := yX10_textLines) (n := 50) 44 (by decide +kernel)
theorem se_X10_lineLine : Cond.selects RX10 yX10_lineLine yX10_lineLine ∈ zUU := zUU_pr (y := yX10_lineLine) (n := 50) 45 (by decide +kernel)
theorem se_X10_fails : Cond.selects RX10 yX10_fails yX10_fails ∈ zUU := zUU_pr (y := yX10_fails) (n := 50) 46 (by decide +kernel)
theorem se_X10_full : Cond.selects RX10 yX10_full yX10_full ∈ zUU := zUU_pr (y := yX10_full) (n := 50) 47 (by decide +kernel)
theorem se_X10_later : Cond.selects RX10 yX10_later yX10_later ∈ zUU := zUU_pr (y := yX10_later) (n := 50) 48 (by decide +kernel)
theorem se_X10_postLine : Cond.selects RX10 yX10_postLine yX10_postLine ∈ zUU := zUU_pr (y := yX10_postLine) (n := 50) 49 (by decide +kernel)
theorem se_X10_take : Cond.selects RX10 yX10_take yX10_take ∈ zUU := zUU_pr (y := yX10_take) (n := 50) 50 (by decide +kernel)
theorem se_X10_keep : Cond.selects RX10 yX10_keep yX10_keep ∈ zUU := zUU_pr (y := yX10_keep) (n := 50) 51 (by decide +kernel)
theorem se_X10_riderLine : Cond.selects RX10 yX10_riderLine yX10_riderLine ∈ zUU := zUU_pr (y := yX10_riderLine) (n := 50) 52 (by decide +kernel)
theorem se_X10_takePost : Cond.selects RX10 yX10_takePost yX10_takePost ∈ zUU := zUU_pr (y := yX10_takePost) (n := 50) 53 (by decide +kernel)
theorem se_X10_ofPost : Cond.selects RX10 yX10_ofPost yX10_ofPost ∈ zUU := zUU_pr (y := yX10_ofPost) (n := 50) 54 (by decide +kernel)
theorem se_X10_planLine : Cond.selects RX10 yX10_planLine yX10_planLine ∈ zUU := zUU_pr (y := yX10_planLine) (n := 50) 55 (by decide +kernel)
theorem se_X10_logLine : Cond.selects RX10 yX10_logLine yX10_logLine ∈ zUU := zUU_pr (y := yX10_logLine) (n := 50) 56 (by decide +kernel)
theorem se_X10_store : Cond.selects RX10 yX10_store yX10_store ∈ zUU := zUU_pr (y := yX10_store) (n := 50) 57 (by decide +kernel)
theorem se_X10_hand : Cond.selects RX10 yX10_hand yX10_hand ∈ zUU := zUU_pr (y := yX10_hand) (n := 50) 58 (by decide +kernel)
theorem se_X10_of : Cond.selects RX10 yX10_of yX10_of ∈ zUU := zUU_pr (y := yX10_of) (n := 50) 59 (by decide +kernel)
theorem se_X10_postOf : Cond.selects RX10 yX10_postOf yX10_postOf ∈ zUU := zUU_pr (y := yX10_postOf) (n := 50) 60 (by decide +kernel)
theorem se_X10_poundsIn : Cond.selects RX10 yX10_poundsIn yX10_poundsIn ∈ zUU := zUU_pr (y := yX10_poundsIn) (n := 50) 61 (by decide +kernel)
theorem se_X10_isPost : Cond.selects RX10 yX10_isPost yX10_isPost ∈ zUU := zUU_pr (y := yX10_isPost) (n := 50) 62 (by decide +kernel)
theorem se_X10_isRider : Cond.selects RX10 yX10_isRider yX10_isRider ∈ zUU := zUU_pr (y := yX10_isRider) (n := 50) 63 (by decide +kernel)
theorem se_X10_riderOf : Cond.selects RX10 yX10_riderOf yX10_riderOf ∈ zUU := zUU_pr (y := yX10_riderOf) (n := 50) 64 (by decide +kernel)
theorem se_X10_layRun : Cond.selects RX10 yX10_layRun yX10_layRun ∈ zUU := zUU_pr (y := yX10_layRun) (n := 50) 65 (by decide +kernel)
theorem se_X10_everyone : Cond.selects RX10 yX10_everyone yX10_everyone ∈ zUU := zUU_pr (y := yX10_everyone) (n := 50) 66 (by decide +kernel)
theorem se_X10_go : Cond.selects RX10 yX10_go yX10_go ∈ zUU := zUU_pr (y := yX10_go) (n := 50) 67 (by decide +kernel)
theorem se_X10_begin : Cond.selects RX10 yX10_begin yX10_begin ∈ zUU := zUU_pr (y := yX10_begin) (n := 50) 68 (by decide +kernel)
theorem se_X10_pullerAt : Cond.selects RX10 yX10_pullerAt yX10_pullerAt ∈ zUU := zUU_pr (y := yX10_pullerAt) (n := 50) 69 (by decide +kernel)
theorem se_X10_wants : Cond.selects RX10 yX10_wants yX10_wants ∈ zUU := zUU_pr (y := yX10_wants) (n := 50) 70 (by decide +kernel)
theorem se_X10_isOn : Cond.selects RX10 yX10_isOn yX10_isOn ∈ zUU := zUU_pr (y := yX10_isOn) (n := 50) 71 (by decide +kernel)
theorem se_X10_draw : Cond.selects RX10 yX10_draw yX10_draw ∈ zUU := zUU_pr (y := yX10_draw) (n := 50) 72 (by decide +kernel)
theorem se_X10_pullsAt : Cond.selects RX10 yX10_pullsAt yX10_pullsAt ∈ zUU := zUU_pr (y := yX10_pullsAt) (n := 50) 73 (by decide +kernel)
theorem se_X10_timesBy : Cond.selects RX10 yX10_timesBy yX10_timesBy ∈ zUU := zUU_pr (y := yX10_timesBy) (n := 50) 74 (by decide +kernel)
theorem se_X10_gathered : Cond.selects RX10 yX10_gathered yX10_gathered ∈ zUU := zUU_pr (y := yX10_gathered) (n := 50) 75 (by decide +kernel)
theorem se_X10_stopsOf : Cond.selects RX10 yX10_stopsOf yX10_stopsOf ∈ zUU := zUU_pr (y := yX10_stopsOf) (n := 50) 76 (by decide +kernel)
theorem se_X10_bearing : Cond.selects RX10 yX10_bearing yX10_bearing ∈ zUU := zUU_pr (y := yX10_bearing) (n := 50) 77 (by decide +kernel)
theorem se_X10_poundsOf : Cond.selects RX10 yX10_poundsOf yX10_poundsOf ∈ zUU := zUU_pr (y := yX10_poundsOf) (n := 50) 78 (by decide +kernel)
theorem se_X10_costsOf : Cond.selects RX10 yX10_costsOf yX10_costsOf ∈ zUU := zUU_pr (y := yX10_costsOf) (n := 50) 79 (by decide +kernel)
theorem se_X10_isRest : Cond.selects RX10 yX10_isRest yX10_isRest ∈ zUU := zUU_pr (y := yX10_isRest) (n := 50) 80 (by decide +kernel)
theorem se_X10_gainOf : Cond.selects RX10 yX10_gainOf yX10_gainOf ∈ zUU := zUU_pr (y := yX10_gainOf) (n := 50) 81 (by decide +kernel)
theorem se_X10_gainNow : Cond.selects RX10 yX10_gainNow yX10_gainNow ∈ zUU := zUU_pr (y := yX10_gainNow) (n := 50) 82 (by decide +kernel)
theorem se_X10_findOdds : Cond.selects RX10 yX10_findOdds yX10_findOdds ∈ zUU := zUU_pr (y := yX10_findOdds) (n := 50) 83 (by decide +kernel)
theorem se_X10_enough : Cond.selects RX10 yX10_enough yX10_enough ∈ zUU := zUU_pr (y := yX10_enough) (n := 50) 84 (by decide +kernel)
theorem se_X10_meetOther : Cond.selects RX10 yX10_meetOther yX10_meetOther ∈ zUU := zUU_pr (y := yX10_meetOther) (n := 50) 85 (by decide +kernel)
theorem se_X10_waitAt : Cond.selects RX10 yX10_waitAt yX10_waitAt ∈ zUU := zUU_pr (y := yX10_waitAt) (n := 50) 86 (by decide +kernel)
theorem se_X10_nextStation : Cond.selects RX10 yX10_nextStation yX10_nextStation ∈ zUU := zUU_pr (y := yX10_nextStation) (n := 50) 87 (by decide +kernel)
theorem se_X10_hasPlan : Cond.selects RX10 yX10_hasPlan yX10_hasPlan ∈ zUU := zUU_pr (y := yX10_hasPlan) (n := 50) 88 (by decide +kernel)
theorem se_X10_pulls : Cond.selects RX10 yX10_pulls yX10_pulls ∈ zUU := zUU_pr (y := yX10_pulls) (n := 50) 89 (by decide +kernel)
theorem se_X10_pullOf : Cond.selects RX10 yX10_pullOf yX10_pullOf ∈ zUU := zUU_pr (y := yX10_pullOf) (n := 50) 90 (by decide +kernel)
theorem se_X10_doPlan : Cond.selects RX10 yX10_doPlan yX10_doPlan ∈ zUU := zUU_pr (y := yX10_doPlan) (n := 50) 91 (by decide +kernel)
theorem se_X10_canPull : Cond.selects RX10 yX10_canPull yX10_canPull ∈ zUU := zUU_pr (y := yX10_canPull) (n := 50) 92 (by decide +kernel)
theorem se_X10_isCalm : Cond.selects RX10 yX10_isCalm yX10_isCalm ∈ zUU := zUU_pr (y := yX10_isCalm) (n := 50) 93 (by decide +kernel)
theorem se_X10_spare : Cond.selects RX10 yX10_spare yX10_spare ∈ zUU := zUU_pr (y := yX10_spare) (n := 50) 94 (by decide +kernel)
theorem se_X10_richest : Cond.selects RX10 yX10_richest yX10_richest ∈ zUU := zUU_pr (y := yX10_richest) (n := 50) 95 (by decide +kernel)
theorem se_X10_hasLog : Cond.selects RX10 yX10_hasLog yX10_hasLog ∈ zUU := zUU_pr (y := yX10_hasLog) (n := 50) 96 (by decide +kernel)
theorem se_X10_seenOf : Cond.selects RX10 yX10_seenOf yX10_seenOf ∈ zUU := zUU_pr (y := yX10_seenOf) (n := 50) 97 (by decide +kernel)
theorem se_X10_holds : Cond.selects RX10 yX10_holds yX10_holds ∈ zUU := zUU_pr (y := yX10_holds) (n := 50) 98 (by decide +kernel)
theorem se_X10_allWaits : Cond.selects RX10 yX10_allWaits yX10_allWaits ∈ zUU := zUU_pr (y := yX10_allWaits) (n := 50) 99 (by decide +kernel)
theorem se_X10_lawFor : Cond.selects RX10 yX10_lawFor yX10_lawFor ∈ zUU := zUU_pr (y := yX10_lawFor) (n := 50) 100 (by decide +kernel)
theorem se_X10_copyAll : Cond.selects RX10 yX10_copyAll yX10_copyAll ∈ zUU := zUU_pr (y := yX10_copyAll) (n := 50) 101 (by decide +kernel)
theorem lay_X0 : ∀ w ∈ u_ws RX0 TX0 18, w ∈ zUU := List.forall_mem_cons.mpr ⟨zUA_1 110 rfl rfl, List.forall_mem_cons.mpr ⟨zUA_1 112 rfl rfl, List.forall_mem_cons.mpr ⟨zUA_1 114 rfl rfl, List.forall_mem_cons.mpr ⟨zUA_1 116 rfl rfl, List.forall_mem_cons.mpr ⟨zUA_1 118 rfl rfl, List.forall_mem_cons.mpr ⟨zUA_1 120 rfl rfl, List.forall_mem_cons.mpr ⟨zUA_1 122 rfl rfl, List.forall_mem_cons.mpr ⟨zUA_1 124 rfl rfl, List.forall_mem_cons.mpr ⟨zUA_1 126 rfl rfl, List.forall_mem_cons.mpr ⟨zUA_1 128 rfl rfl, List.forall_mem_cons.mpr ⟨zUA_1 130 rfl rfl, List.forall_mem_cons.mpr ⟨zUA_1 132 rfl rfl, List.forall_mem_cons.mpr ⟨zUA_1 134 rfl rfl, List.forall_mem_cons.mpr ⟨zUA_1 136 rfl rfl, List.forall_mem_cons.mpr ⟨zUA_1 138 rfl rfl, List.forall_mem_cons.mpr ⟨zUA_1 140 rfl rfl, List.forall_mem_cons.mpr ⟨zUA_1 142 rfl rfl, List.forall_mem_cons.mpr ⟨zUA_1 144 rfl rfl, fun _ h => absurd h List.not_mem_nil⟩⟩⟩⟩⟩⟩⟩⟩⟩⟩⟩⟩⟩⟩⟩⟩⟩⟩
theorem lay_X1 : ∀ w ∈ u_ws RX1 TX1 4, w ∈ zUU := List.forall_mem_cons.mpr ⟨zUA_2 87 rfl rfl, List.forall_mem_cons.mpr ⟨zUA_2 89 rfl rfl, List.forall_mem_cons.mpr ⟨zUA_2 91 rfl rfl, List.forall_mem_cons.mpr ⟨zUA_2 93 rfl rfl, fun _ h => absurd h List.not_mem_nil⟩⟩⟩⟩
theorem lay_X2 : ∀ w ∈ u_ws RX2 TX2 3, w ∈ zUU := List.forall_mem_cons.mpr ⟨zUA_1 169 rfl rfl, List.forall_mem_cons.mpr ⟨zUA_1 171 rfl rfl, List.forall_mem_cons.mpr ⟨zUA_1 173 rfl rfl, fun _ h => absurd h List.not_mem_nil⟩⟩⟩
theorem lay_X3 : ∀ w ∈ u_ws RX3 TX3 2, w ∈ zUU := List.forall_mem_cons.mpr ⟨zUA_2 167 rfl rfl, List.forall_mem_cons.mpr ⟨zUA_2 169 rfl rfl, fun _ h => absurd h List.not_mem_nil⟩⟩
theorem lay_X4 : ∀ w ∈ u_ws RX4 TX4 13, w ∈ zUU := List.forall_mem_cons.mpr ⟨zUA_1 233 rfl rfl, List.forall_mem_cons.mpr ⟨zUA_1 235 rfl rfl, List.forall_mem_cons.mpr ⟨zUA_1 237 rfl rfl, List.forall_mem_cons.mpr ⟨zUA_1 239 rfl rfl, List.forall_mem_cons.mpr ⟨zUA_2 1 rfl rfl, List.forall_mem_cons.mpr ⟨zUA_2 3 rfl rfl, List.forall_mem_cons.mpr ⟨zUA_2 5 rfl rfl, List.forall_mem_cons.mpr ⟨zUA_2 7 rfl rfl, List.forall_mem_cons.mpr ⟨zUA_2 9 rfl rfl, List.forall_mem_cons.mpr ⟨zUA_2 11 rfl rfl, List.forall_mem_cons.mpr ⟨zUA_2 13 rfl rfl, List.forall_mem_cons.mpr ⟨zUA_2 15 rfl rfl, List.forall_mem_cons.mpr ⟨zUA_2 17 rfl rfl, fun _ h => absurd h List.not_mem_nil⟩⟩⟩⟩⟩⟩⟩⟩⟩⟩⟩⟩⟩
theorem lay_X5 : ∀ w ∈ u_ws RX5 TX5 12, w ∈ zUU := List.forall_mem_cons.mpr ⟨zUA_2 48 rfl rfl, List.forall_mem_cons.mpr ⟨zUA_2 50 rfl rfl, List.forall_mem_cons.mpr ⟨zUA_2 52 rfl rfl, List.forall_mem_cons.mpr ⟨zUA_2 54 rfl rfl, List.forall_mem_cons.mpr ⟨zUA_2 56 rfl rfl, List.forall_mem_cons.mpr ⟨zUA_2 58 rfl rfl, List.forall_mem_cons.mpr ⟨zUA_2 60 rfl rfl, List.forall_mem_cons.mpr ⟨zUA_2 62 rfl rfl, List.forall_mem_cons.mpr ⟨zUA_2 64 rfl rfl, List.forall_mem_cons.mpr ⟨zUA_2 66 rfl rfl, List.forall_mem_cons.mpr ⟨zUA_2 68 rfl rfl, List.forall_mem_cons.mpr ⟨zUA_2 70 rfl rfl, fun _ h => absurd h List.not_mem_nil⟩⟩⟩⟩⟩⟩⟩⟩⟩⟩⟩⟩
theorem lay_X6 : ∀ w ∈ u_ws RX6 TX6 11, w ∈ zUU := List.forall_mem_cons.mpr ⟨zUA_2 134 rfl rfl, List.forall_mem_cons.mpr ⟨zUA_2 136 rfl rfl, List.forall_mem_cons.mpr ⟨zUA_2 138 rfl rfl, List.forall_mem_cons.mpr ⟨zUA_2 140 rfl rfl, List.forall_mem_cons.mpr ⟨zUA_2 142 rfl rfl, List.forall_mem_cons.mpr ⟨zUA_2 144 rfl rfl, List.forall_mem_cons.mpr ⟨zUA_2 146 rfl rfl, List.forall_mem_cons.mpr ⟨zUA_2 148 rfl rfl, List.forall_mem_cons.mpr ⟨zUA_2 150 rfl rfl, List.forall_mem_cons.mpr ⟨zUA_2 152 rfl rfl, List.forall_mem_cons.mpr ⟨zUA_2 154 rfl rfl, fun _ h => absurd h List.not_mem_nil⟩⟩⟩⟩⟩⟩⟩⟩⟩⟩⟩
theorem lay_X7 : ∀ w ∈ u_ws RX7 TX7 3, w ∈ zUU := List.forall_mem_cons.mpr ⟨zUA_2 106 rfl rfl, List.forall_mem_cons.mpr ⟨zUA_2 108 rfl rfl, List.forall_mem_cons.mpr ⟨zUA_2 110 rfl rfl, fun _ h => absurd h List.not_mem_nil⟩⟩⟩
theorem lay_X8 : ∀ w ∈ u_ws RX8 TX8 8, w ∈ zUU := List.forall_mem_cons.mpr ⟨zUA_1 188 rfl rfl, List.forall_mem_cons.mpr ⟨zUA_1 190 rfl rfl, List.forall_mem_cons.mpr ⟨zUA_1 192 rfl rfl, List.forall_mem_cons.mpr ⟨zUA_1 194 rfl rfl, List.forall_mem_cons.mpr ⟨zUA_1 196 rfl rfl, List.forall_mem_cons.mpr ⟨zUA_1 198 rfl rfl, List.forall_mem_cons.mpr ⟨zUA_1 200 rfl rfl, List.forall_mem_cons.mpr ⟨zUA_1 202 rfl rfl, fun _ h => absurd h List.not_mem_nil⟩⟩⟩⟩⟩⟩⟩⟩
theorem lay_X9 : ∀ w ∈ u_ws RX9 TX9 11, w ∈ zUU := List.forall_mem_cons.mpr ⟨zUA_2 185 rfl rfl, List.forall_mem_cons.mpr ⟨zUA_2 187 rfl rfl, List.forall_mem_cons.mpr ⟨zUA_2 189 rfl rfl, List.forall_mem_cons.mpr ⟨zUA_2 191 rfl rfl, List.forall_mem_cons.mpr ⟨zUA_2 193 rfl rfl, List.forall_mem_cons.mpr ⟨zUA_2 195 rfl rfl, List.forall_mem_cons.mpr ⟨zUA_2 197 rfl rfl, List.forall_mem_cons.mpr ⟨zUA_2 199 rfl rfl, List.forall_mem_cons.mpr ⟨zUA_2 201 rfl rfl, List.forall_mem_cons.mpr ⟨zUA_2 203 rfl rfl, List.forall_mem_cons.mpr ⟨zUA_2 205 rfl rfl, fun _ h => absurd h List.not_mem_nil⟩⟩⟩⟩⟩⟩⟩⟩⟩⟩⟩
theorem lay_X10 : ∀ w ∈ u_ws RX10 TX10 50, w ∈ zUU := List.forall_mem_cons.mpr ⟨zUA_5 157 rfl rfl, List.forall_mem_cons.mpr ⟨zUA_5 159 rfl rfl, List.forall_mem_cons.mpr ⟨zUA_5 161 rfl rfl, List.forall_mem_cons.mpr ⟨zUA_5 163 rfl rfl, List.forall_mem_cons.mpr ⟨zUA_5 165 rfl rfl, List.forall_mem_cons.mpr ⟨zUA_5 167 rfl rfl, List.forall_mem_cons.mpr ⟨zUA_5 169 rfl rfl, List.forall_mem_cons.mpr ⟨zUA_5 171 rfl rfl, List.forall_mem_cons.mpr ⟨zUA_5 173 rfl rfl, List.forall_mem_cons.mpr ⟨zUA_5 175 rfl rfl, List.forall_mem_cons.mpr ⟨zUA_5 177 rfl rfl, List.forall_mem_cons.mpr ⟨zUA_5 179 rfl rfl, List.forall_mem_cons.mpr ⟨zUA_5 181 rfl rfl, List.forall_mem_cons.mpr ⟨zUA_5 183 rfl rfl, List.forall_mem_cons.mpr ⟨zUA_5 185 rfl rfl, List.forall_mem_cons.mpr ⟨zUA_5 187 rfl rfl, List.forall_mem_cons.mpr ⟨zUA_5 189 rfl rfl, List.forall_mem_cons.mpr ⟨zUA_5 191 rfl rfl, List.forall_mem_cons.mpr ⟨zUA_5 193 rfl rfl, List.forall_mem_cons.mpr ⟨zUA_5 195 rfl rfl, List.forall_mem_cons.mpr ⟨zUA_5 197 rfl rfl, List.forall_mem_cons.mpr ⟨zUA_5 199 rfl rfl, List.forall_mem_cons.mpr ⟨zUA_5 201 rfl rfl, List.forall_mem_cons.mpr ⟨zUA_5 203 rfl rfl, List.forall_mem_cons.mpr ⟨zUA_5 205 rfl rfl, List.forall_mem_cons.mpr ⟨zUA_5 207 rfl rfl, List.forall_mem_cons.mpr ⟨zUA_5 209 rfl rfl, List.forall_mem_cons.mpr ⟨zUA_5 211 rfl rfl, List.forall_mem_cons.mpr ⟨zUA_5 213 rfl rfl, List.forall_mem_cons.mpr ⟨zUA_5 215 rfl rfl, List.forall_mem_cons.mpr ⟨zUA_5 217 rfl rfl, List.forall_mem_cons.mpr ⟨zUA_5 219 rfl rfl, List.forall_mem_cons.mpr ⟨zUA_5 221 rfl rfl, List.forall_mem_cons.mpr ⟨zUA_5 223 rfl rfl, List.forall_mem_cons.mpr ⟨zUA_5 225 rfl rfl, List.forall_mem_cons.mpr ⟨zUA_5 227 rfl rfl, List.forall_mem_cons.mpr ⟨zUA_5 229 rfl rfl, List.forall_mem_cons.mpr ⟨zUA_5 231 rfl rfl, List.forall_mem_cons.mpr ⟨zUA_5 233 rfl rfl, List.forall_mem_cons.mpr ⟨zUA_5 235 rfl rfl, List.forall_mem_cons.mpr ⟨zUA_5 237 rfl rfl, List.forall_mem_cons.mpr ⟨zUA_5 239 rfl rfl, List.forall_mem_cons.mpr ⟨zUA_6 1 rfl rfl, List.forall_mem_cons.mpr ⟨zUA_6 3 rfl rfl, List.forall_mem_cons.mpr ⟨zUA_6 5 rfl rfl, List.forall_mem_cons.mpr ⟨zUA_6 7 rfl rfl, List.forall_mem_cons.mpr ⟨zUA_6 9 rfl rfl, List.forall_mem_cons.mpr ⟨zUA_6 11 rfl rfl, List.forall_mem_cons.mpr ⟨zUA_6 13 rfl rfl, List.forall_mem_cons.mpr ⟨zUA_6 15 rfl rfl, fun _ h => absurd h List.not_mem_nil⟩⟩⟩⟩⟩⟩⟩⟩⟩⟩⟩⟩⟩⟩⟩⟩⟩⟩⟩⟩⟩⟩⟩⟩⟩⟩⟩⟩⟩⟩⟩⟩⟩⟩⟩⟩⟩⟩⟩⟩⟩⟩⟩⟩⟩⟩⟩⟩⟩⟩
end
section
/-! THE STORE. Every cell of the class (0..222) and of the reference (223..249) has a number; its ints and longs stand in a store; where it points never changes. -/
abbrev zSto : Type := (Nat → Nat → Int32) × (Nat → Nat → Int64)
abbrev zShp : Type := Nat × Nat × Nat × List (Nat × Nat)
def zI (σ : zSto) (k j : Nat) (v : Int32) : zSto := (va_up σ.1 k (upd (σ.1 k) j v), σ.2)
def zJ (σ : zSto) (k j : Nat) (v : Int64) : zSto := (σ.1, va_up σ.2 k (vp_updL (σ.2 k) j v))
def zR (σ : zSto) (k : Nat) (f : Nat → Int32) : zSto := (va_up σ.1 k f, σ.2)
def zo (ci : Nat) (fds : List (Nat × Nat)) : zShp := (0, ci, 0, fds)
def za (a n : Nat) : zShp := (1, a, n, [])
def zl (n : Nat) : zShp := (2, 3, n, [])
def zr (a n : Nat) (fds : List (Nat × Nat)) : zShp := (3, a, n, fds)
def zLine : List zShp := [zo 0 [(0, 1), (0, 2), (0, 3), (0, 4), (0, 5), (0, 6), (0, 7), (0, 8), (0, 9), (0, 10), (0, 11), (1, 0), (1, 0), (1, 0), (1, 0), (1, 0), (1, 0), (1, 0)], za 0 16, za 0 16, za 0 16, za 0 16, za 0 16, za 0 6, za 0 6, za 0 6, za 0 6, za 0 6, za 0 6]
def zPairs : List zShp := [zo 2 [(0, 1), (0, 2), (1, 0)], za 0 16, za 0 16]
def zState : List zShp := [zo 8 [(0, 1), (0, 2), (0, 27), (0, 34), (0, 41), (1, 0), (1, 0), (1, 0)], za 1 600, zr 4 2 [(0, 1), (0, 13)]] ++ zLine ++ zLine ++ [zr 5 2 [(0, 1), (0, 4)]] ++ zPairs ++ zPairs ++ [zr 5 2 [(0, 1), (0, 4)]] ++ zPairs ++ zPairs ++ [za 0 3]
def zMine : List zShp := [zo 9 [(0, 1), (0, 43), (0, 170), (0, 171), (0, 190), (0, 195), (0, 198), (0, 200), (0, 207), (0, 210), (0, 222)]] ++ zState ++ [zr 6 3 [(0, 1), (0, 43), (0, 85)]] ++ zState ++ zState ++ zState ++ [za 2 3] ++ [zo 4 [(0, 1), (0, 13), (0, 16), (0, 17), (0, 18), (1, 0), (1, 0), (1, 0), (1, 0), (1, 0), (1, 0), (1, 0), (1, 0)]] ++ zLine ++ zPairs ++ [za 0 6, za 0 6, za 1 600] ++ [zo 5 [(0, 1), (0, 2), (0, 3), (0, 4), (1, 0), (1, 0), (1, 0), (1, 0), (1, 0), (1, 0), (1, 0), (1, 0)], za 0 16, za 0 16, za 0 6, za 0 6] ++ [zo 1 [(0, 1), (0, 2), (1, 0), (1, 0)], za 0 16, za 0 16] ++ [zo 7 [(0, 1), (1, 0), (2, 0)], zl 1126] ++ [zo 6 [(0, 1), (0, 2), (0, 3), (0, 4), (0, 5), (0, 6), (1, 0), (1, 0), (1, 0), (1, 0), (1, 0)], za 0 16, za 0 16, za 0 16, za 0 17, za 0 17, za 0 16] ++ [zo 3 [(0, 1), (0, 2)], za 0 1000, za 0 1000] ++ zLine ++ [za 0 384]
def zTwin : List zShp := [zo 10 [(1, 0), (0, 1), (0, 2), (0, 3), (0, 4), (0, 5), (0, 6), (0, 7), (0, 8), (1, 0), (1, 0), (1, 0), (1, 0), (1, 0), (2, 0), (1, 0), (1, 0), (1, 0), (0, 9), (0, 10), (0, 11), (0, 12), (1, 0), (1, 0), (1, 0), (1, 0), (1, 0), (0, 13), (0, 14), (0, 15), (1, 0), (1, 0), (1, 0), (1, 0), (1, 0), (0, 16), (0, 17), (0, 18), (0, 19), (0, 20), (0, 21), (0, 22), (2, 0), (1, 0), (0, 23), (0, 24), (1, 0), (1, 0), (0, 25), (0, 26)], za 1 2400, za 0 4, za 0 4, za 0 4, za 0 12, za 0 984, za 0 264, za 0 168, za 0 123, za 0 6, za 0 16, za 0 16, za 0 16, za 0 16, za 0 16, za 0 16, za 0 16, za 0 6, za 0 16, za 0 6, za 2 6, zl 1200, za 0 16, za 0 16, za 0 4, za 2 3]
def zAll : List zShp := zMine ++ zTwin
def zsh (k : Nat) : zShp := zAll.getD k (9, 0, 0, [])
def zel (fds : List (Nat × Nat)) (i : Int32) : Nat := (fds.getD i.toNatClampNeg (0, 0)).2
theorem zAll_len : zAll.length = 250 := by decide +kernel
def zV (g : Nat → Nat) (k : Nat) (r : Nat → Int32) (w : Nat → Int64) (j : Nat) (fd : Nat × Nat) : Value := if fd.1 = 0 then .ref (g (k + fd.2)) else if fd.1 = 1 then .int (r j) else .long (w j)
def zE (cy : Nat → ClassId) (g : Nat → Nat) (k : Nat) (r : Nat → Int32) (w : Nat → Int64) (h : zShp) : va_E :=
  if h.1 = 0 then .inr (h.2.1, h.2.2.2.mapIdx (zV g k r w)) else if h.1 = 1 then .inl (cy h.2.1, h.2.2.1, .inl r) else if h.1 = 2 then .inl (cy h.2.1, h.2.2.1, .inr (.inl w)) else .inl (cy h.2.1, h.2.2.1, .inr (.inr (.inr (.inr (fun i => (h.2.2.2[i]?).map (fun fd => g (k + fd.2)))))))
def zW (cy : Nat → ClassId) (g : Nat → Nat) (σ : zSto) : va_W := (List.range 250).map (fun k => (g k, zE cy g k (σ.1 k) (σ.2 k) (zsh k)))
def zin (g : Nat → Nat) : Prop := ∀ i j, i < 250 → j < 250 → g i = g j → i = j
def zA (g : Nat → Nat) (sz : Nat) : Nat → Prop := fun q => (∃ k, k < 250 ∧ q = g k) ∨ sz ≤ q
def zty (cy : Nat → ClassId) : List (ClassId × FieldType) := [(cy 0, .int), (cy 1, .byte), (cy 2, .boolean), (cy 3, .long), (cy 4, .object RX0), (cy 5, .object RX2), (cy 6, .object RX8)]
theorem zW_get {cy : Nat → ClassId} {g : Nat → Nat} {σ : zSto} {k : Nat} (h : k < 250) : (zW cy g σ)[k]? = some (g k, zE cy g k (σ.1 k) (σ.2 k) (zsh k)) := by
  simp [zW, List.getElem?_map, List.getElem?_range, h]
theorem zW_lt {cy : Nat → ClassId} {g : Nat → Nat} {σ : zSto} {k : Nat} {q : Nat × va_E} (h : (zW cy g σ)[k]? = some q) : k < 250 ∧ q.1 = g k := by
  have h1 : k < 250 := by
    have := (List.getElem?_eq_some_iff.mp h).1
    simpa [zW] using this
  rw [zW_get h1] at h
  cases h
  exact ⟨h1, rfl⟩
theorem zW_D {cy : Nat → ClassId} {g : Nat → Nat} (h : zin g) {A : Nat → Prop} (hA : ∀ k, k < 250 → A (g k)) (σ : zSto) : va_D A (zW cy g σ) := by
  refine ⟨fun i j p q hp hq e => ?_, fun k q hq => ?_⟩
  · obtain ⟨h1, e1⟩ := zW_lt hp
    obtain ⟨h2, e2⟩ := zW_lt hq
    exact h i j h1 h2 (by rw [← e1, ← e2]; exact e)
  · obtain ⟨h1, e1⟩ := zW_lt hq
    rw [e1]
    exact hA k h1
theorem zW_set {cy : Nat → ClassId} {g : Nat → Nat} {σ σ' : zSto} {k : Nat} {e : va_E} (he : e = zE cy g k (σ'.1 k) (σ'.2 k) (zsh k)) (h1 : ∀ j, j ≠ k → σ'.1 j = σ.1 j) (h2 : ∀ j, j ≠ k → σ'.2 j = σ.2 j) : (zW cy g σ).set k (g k, e) = zW cy g σ' := by
  apply List.ext_getElem?
  intro i
  by_cases hi : i < 250
  · by_cases hk : k = i
    · subst hk
      rw [zW_get hi, List.getElem?_set_self (by simpa [zW] using hi), he]
    · rw [List.getElem?_set_ne hk, zW_get hi, zW_get hi, h1 i (fun q => hk q.symm), h2 i (fun q => hk q.symm)]
  · rw [List.getElem?_eq_none (by simpa [zW] using hi), List.getElem?_eq_none (by simpa [zW] using hi)]
theorem zV_set {g : Nat → Nat} {k : Nat} {r : Nat → Int32} {w : Nat → Int64} {fds : List (Nat × Nat)} {j d : Nat} (h : fds[j]? = some (1, d)) (v : Int32) : (fds.mapIdx (zV g k r w)).set j (.int v) = fds.mapIdx (zV g k (upd r j v) w) := by
  apply List.ext_getElem?
  intro i
  have hj : j < fds.length := (List.getElem?_eq_some_iff.mp h).1
  by_cases hk : j = i
  · subst hk
    rw [List.getElem?_set_self (by simpa using hj), List.getElem?_mapIdx, h]
    simp [zV, upd]
  · rw [List.getElem?_set_ne hk, List.getElem?_mapIdx, List.getElem?_mapIdx]
    congr 1
    funext fd
    have hne : ¬ i = j := fun q => hk q.symm
    simp [zV, upd, hne]
theorem zV_setL {g : Nat → Nat} {k : Nat} {r : Nat → Int32} {w : Nat → Int64} {fds : List (Nat × Nat)} {j d : Nat} (h : fds[j]? = some (2, d)) (v : Int64) : (fds.mapIdx (zV g k r w)).set j (.long v) = fds.mapIdx (zV g k r (vp_updL w j v)) := by
  apply List.ext_getElem?
  intro i
  have hj : j < fds.length := (List.getElem?_eq_some_iff.mp h).1
  by_cases hk : j = i
  · subst hk
    rw [List.getElem?_set_self (by simpa using hj), List.getElem?_mapIdx, h]
    simp [zV, vp_updL]
  · rw [List.getElem?_set_ne hk, List.getElem?_mapIdx, List.getElem?_mapIdx]
    congr 1
    funext fd
    have hne : ¬ i = j := fun q => hk q.symm
    simp [zV, vp_updL, hne]
theorem zup_s {α : Type} (f : Nat → α) (k : Nat) (v : α) : va_up f k v k = v := by simp [va_up]
theorem zup_n {α : Type} (f : Nat → α) (k : Nat) (v : α) {j : Nat} (h : j ≠ k) : va_up f k v j = f j := by simp [va_up, h]
theorem zE_o {cy : Nat → ClassId} {g : Nat → Nat} {k : Nat} {r : Nat → Int32} {w : Nat → Int64} {ci : Nat} {fds : List (Nat × Nat)} : zE cy g k r w (zo ci fds) = .inr (ci, fds.mapIdx (zV g k r w)) := rfl
theorem zE_a {cy : Nat → ClassId} {g : Nat → Nat} {k : Nat} {r : Nat → Int32} {w : Nat → Int64} {a n : Nat} : zE cy g k r w (za a n) = .inl (cy a, n, .inl r) := rfl
theorem zE_l {cy : Nat → ClassId} {g : Nat → Nat} {k : Nat} {r : Nat → Int32} {w : Nat → Int64} {n : Nat} : zE cy g k r w (zl n) = .inl (cy 3, n, .inr (.inl w)) := rfl
theorem zE_r {cy : Nat → ClassId} {g : Nat → Nat} {k : Nat} {r : Nat → Int32} {w : Nat → Int64} {a n : Nat} {fds : List (Nat × Nat)} : zE cy g k r w (zr a n fds) = .inl (cy a, n, .inr (.inr (.inr (.inr (fun i => (fds[i]?).map (fun fd => g (k + fd.2))))))) := rfl
theorem zsh_lt {k : Nat} {h : zShp} (e : zsh k = h) (hh : h.1 ≠ 9) : k < 250 := by
  rcases Nat.lt_or_ge k 250 with q | q
  · exact q
  · exfalso
    apply hh
    rw [← e]
    unfold zsh
    rw [List.getD_eq_getElem?_getD, List.getElem?_eq_none (by rw [zAll_len]; exact q)]
    rfl
theorem zlt_o {k ci : Nat} {fds : List (Nat × Nat)} (e : zsh k = zo ci fds) : k < 250 := zsh_lt e (by show (0 : Nat) ≠ 9; decide)
theorem zlt_a {k a n : Nat} (e : zsh k = za a n) : k < 250 := zsh_lt e (by show (1 : Nat) ≠ 9; decide)
theorem zlt_l {k n : Nat} (e : zsh k = zl n) : k < 250 := zsh_lt e (by show (2 : Nat) ≠ 9; decide)
theorem zlt_r {k a n : Nat} {fds : List (Nat × Nat)} (e : zsh k = zr a n fds) : k < 250 := zsh_lt e (by show (3 : Nat) ≠ 9; decide)
theorem zg_o {cy : Nat → ClassId} {g : Nat → Nat} {σ : zSto} {k ci : Nat} {fds : List (Nat × Nat)} (e : zsh k = zo ci fds) : (zW cy g σ)[k]? = some (g k, .inr (ci, fds.mapIdx (zV g k (σ.1 k) (σ.2 k)))) := by rw [zW_get (zlt_o e), e, zE_o]
theorem zg_a {cy : Nat → ClassId} {g : Nat → Nat} {σ : zSto} {k a n : Nat} (e : zsh k = za a n) : (zW cy g σ)[k]? = some (g k, .inl (cy a, n, .inl (σ.1 k))) := by rw [zW_get (zlt_a e), e, zE_a]
theorem zg_l {cy : Nat → ClassId} {g : Nat → Nat} {σ : zSto} {k n : Nat} (e : zsh k = zl n) : (zW cy g σ)[k]? = some (g k, .inl (cy 3, n, .inr (.inl (σ.2 k)))) := by rw [zW_get (zlt_l e), e, zE_l]
theorem zg_r {cy : Nat → ClassId} {g : Nat → Nat} {σ : zSto} {k a n : Nat} {fds : List (Nat × Nat)} (e : zsh k = zr a n fds) : (zW cy g σ)[k]? = some (g k, .inl (cy a, n, .inr (.inr (.inr (.inr (fun i => (fds[i]?).map (fun fd => g (k + fd.2)))))))) := by rw [zW_get (zlt_r e), e, zE_r]
/-! CONTRACTS over the store -/
theorem zU_good : GoodIn zUU zUU := fun _ h => ⟨h, good_of_word (zUU_good h)⟩
def zU (y : MethodName) (bytes : ByteArray) (maxL : Nat) (ret : Option FieldType) : List Cond := .code y bytes maxL ret :: zUU
theorem zU_in {y : MethodName} {bytes : ByteArray} {maxL : Nat} {ret : Option FieldType} (h : Cond.code y bytes maxL ret ∈ zUU) : GoodIn zUU (zU y bytes maxL ret) := fun w hw => by
  rcases List.mem_cons.mp hw with e | e
  · subst e; exact zU_good _ h
  · exact zU_good _ e
def zLV (own : String) (i : Nat) (Cn : String) (y : MethodName) (bytes : ByteArray) (maxL : Nat) (ret : Option FieldType) (n : Nat) : Prop := GoodIn zUU (wsV own i Cn y (zU y bytes maxL ret)) ∧ (y.cls = Cn ∧ y.cls ≠ "java/lang/invoke/MethodHandle" ∧ y.cls ≠ "java/lang/invoke/VarHandle" ∧ (parseMethodDescriptor y.desc).map (fun d => d.parameters.length) = some n)
def zLS (own : String) (i : Nat) (y : MethodName) (bytes : ByteArray) (maxL : Nat) (ret : Option FieldType) (n : Nat) : Prop := GoodIn zUU (va_wsS own i y (zU y bytes maxL ret)) ∧ (y.cls ≠ "java/lang/invoke/MethodHandle" ∧ y.cls ≠ "java/lang/invoke/VarHandle" ∧ (parseMethodDescriptor y.desc).map (fun d => d.parameters.length) = some n)
theorem zLV_of {own : String} {i : Nat} {Cn : String} {y : MethodName} {bytes : ByteArray} {maxL : Nat} {ret : Option FieldType} {n : Nat} (h1 : Cond.methodLink own i y ∈ zUU) (h2 : Cond.instanceMethod y ∈ zUU) (h3 : Cond.selects Cn y y ∈ zUU) (h4 : Cond.initialized Cn ∈ zUU) (h5 : Cond.code y bytes maxL ret ∈ zUU) (h6 : y.cls = Cn ∧ y.cls ≠ "java/lang/invoke/MethodHandle" ∧ y.cls ≠ "java/lang/invoke/VarHandle" ∧ (parseMethodDescriptor y.desc).map (fun d => d.parameters.length) = some n) : zLV own i Cn y bytes maxL ret n := by
  refine ⟨fun w hw => ?_, h6⟩
  unfold wsV at hw
  rcases List.mem_append.mp hw with e | e
  · simp only [List.mem_cons, List.not_mem_nil, or_false] at e
    rcases e with e | e | e | e <;> subst e
    · exact zU_good _ h1
    · exact zU_good _ h2
    · exact zU_good _ h3
    · exact zU_good _ h4
  · exact zU_in h5 _ e
theorem zLS_of {own : String} {i : Nat} {y : MethodName} {bytes : ByteArray} {maxL : Nat} {ret : Option FieldType} {n : Nat} (h1 : Cond.methodLink own i y ∈ zUU) (h2 : Cond.static y ∈ zUU) (h4 : Cond.initialized y.cls ∈ zUU) (h5 : Cond.code y bytes maxL ret ∈ zUU) (h6 : y.cls ≠ "java/lang/invoke/MethodHandle" ∧ y.cls ≠ "java/lang/invoke/VarHandle" ∧ (parseMethodDescriptor y.desc).map (fun d => d.parameters.length) = some n) : zLS own i y bytes maxL ret n := by
  refine ⟨fun w hw => ?_, h6⟩
  unfold va_wsS at hw
  rcases List.mem_append.mp hw with e | e
  · simp only [List.mem_cons, List.not_mem_nil, or_false] at e
    rcases e with e | e | e <;> subst e
    · exact zU_good _ h1
    · exact zU_good _ h2
    · exact zU_good _ h4
  · exact zU_in h5 _ e
theorem zW_Ds {cy : Nat → ClassId} {g : Nat → Nat} (h : zin g) (sz : Nat) (σ : zSto) : va_D (zA g sz) (zW cy g σ) := zW_D h (fun k hk => Or.inl ⟨k, hk, rfl⟩) σ
theorem zA_mono {g : Nat → Nat} {a b q : Nat} (h : a ≤ b) (hq : zA g b q) : zA g a q := by
  rcases hq with ⟨k, h1, h2⟩ | h1
  · exact Or.inl ⟨k, h1, h2⟩
  · exact Or.inr (Nat.le_trans h h1)
/-- the links to nest mates, which are no words -/
def zN (U : State) : Prop := va_Nw (.methodLinkNest RX8 59 yX9_isSort "ChestnutLine") U
theorem zN.warm {s U : State} (h : zN s) (hW : s.WarmedH U.vm) : zN U := va_Nw.warmM hW h
theorem zN.same {s U : State} (h : zN s) (e : s.vm = U.vm) : zN U := va_Nw.same rfl e h
def zPre (D : va_G) (cy : Nat → ClassId) (g : Nat → Nat) (σ : zSto) (sz : Nat) (U : State) : Prop := U.heap.size = sz ∧ va_P D vwCl (zW cy g σ) U.heap ∧ va_K D vwCl (zty cy) U ∧ zin g ∧ zN U
theorem zPre_blind {D : va_G} {cy : Nat → ClassId} {g : Nat → Nat} {σ : zSto} {sz : Nat} {av : List Value} : FrameBlind (va_Pc av (zPre D cy g σ sz)) := fun a U f mk q => by
  obtain ⟨q0, q1, q2, q3, q4, q5⟩ := q
  exact ⟨q0, q1, q2, va_K.moved (u := U) (U := U.calling f mk a) (Vm.Alike.refl U.vm) q3, q4, q5.same rfl⟩
/-- what holds in a method's body -/
def zC (p : Program) (s : State) (m : MethodId) (args : Array Value) (meth : Method) (c : Code) (cc : ByteArray) (own : String) (nL : Nat) (D : va_G) (cy : Nat → ClassId) (g : Nat → Nat) : Prop :=
  CallFix p m c cc nL s args zUU own ∧ va_K D vwCl (zty cy) s ∧ zin g ∧ zN s ∧ meth.locks = false
/-- a contract over the store (i) -/
def zMi (l : Launch) (y : MethodName) (bytes : ByteArray) (maxL : Nat) (ret : Option FieldType) (rm : Room) (D : va_G) (cy : Nat → ClassId) (g : Nat → Nat) (av : List Value) (σ : zSto) (P : Int32 → zSto → Prop) : Prop := ∀ sz : Nat, Met l y (zU y bytes maxL ret) rm (va_Pc av (zPre D cy g σ sz)) (va_Qi P (fun (σ' : zSto) (t : State) => va_P D vwCl (zW cy g σ') t.heap) (zA g sz)) 0 0 (zA g sz)
/-- a contract over the store (b) -/
def zMb (l : Launch) (y : MethodName) (bytes : ByteArray) (maxL : Nat) (ret : Option FieldType) (rm : Room) (D : va_G) (cy : Nat → ClassId) (g : Nat → Nat) (av : List Value) (σ : zSto) (P : Int32 → zSto → Prop) : Prop := ∀ sz : Nat, Met l y (zU y bytes maxL ret) rm (va_Pc av (zPre D cy g σ sz)) (va_Qi (fun r u => (r = 0 ∨ r = 1) ∧ P r u) (fun (σ' : zSto) (t : State) => va_P D vwCl (zW cy g σ') t.heap) (zA g sz)) 0 0 (zA g sz)
/-- a contract over the store (l) -/
def zMl (l : Launch) (y : MethodName) (bytes : ByteArray) (maxL : Nat) (ret : Option FieldType) (rm : Room) (D : va_G) (cy : Nat → ClassId) (g : Nat → Nat) (av : List Value) (σ : zSto) (P : Int64 → zSto → Prop) : Prop := ∀ sz : Nat, Met l y (zU y bytes maxL ret) rm (va_Pc av (zPre D cy g σ sz)) (va_Ql P (fun (σ' : zSto) (t : State) => va_P D vwCl (zW cy g σ') t.heap) (zA g sz)) 0 0 (zA g sz)
/-- a contract over the store (v) -/
def zMv (l : Launch) (y : MethodName) (bytes : ByteArray) (maxL : Nat) (ret : Option FieldType) (rm : Room) (D : va_G) (cy : Nat → ClassId) (g : Nat → Nat) (av : List Value) (σ : zSto) (P : zSto → Prop) : Prop := ∀ sz : Nat, Met l y (zU y bytes maxL ret) rm (va_Pc av (zPre D cy g σ sz)) (va_Qv P (fun (σ' : zSto) (t : State) => va_P D vwCl (zW cy g σ') t.heap) (zA g sz)) 0 0 (zA g sz)
/-- a contract over the store (q) -/
def zMq (l : Launch) (y : MethodName) (bytes : ByteArray) (maxL : Nat) (ret : Option FieldType) (rm : Room) (D : va_G) (cy : Nat → ClassId) (g : Nat → Nat) (av : List Value) (σ : zSto) (P : Option Nat → zSto → Prop) : Prop := ∀ sz : Nat, Met l y (zU y bytes maxL ret) rm (va_Pc av (zPre D cy g σ sz)) (va_Qq (fun r u => ∃ i : Option Nat, r = i.map g ∧ P i u) (fun (σ' : zSto) (t : State) => va_P D vwCl (zW cy g σ') t.heap) (zA g sz)) 0 0 (zA g sz)
/-! THE WALK OVER THE STORE -/
section ZR
variable {p : Program} {l : Launch} {e : Env} {R : Room} {s : State} {m : MethodId} {args : Array Value} {below : List Frame} {meth : Method} {c : Code} {nc ns : Nat} {Q : State → Prop}
variable {cc : ByteArray} {own : String} {nL : Nat} {D : va_G} {cy : Nat → ClassId} {g : Nat → Nat}
variable {pc : Nat} {lv lv' : List (Nat × Value)} {st : List Value} {σ : zSto}
/-- the machine stands at pc with these locals, this stack, the world of this store, and comes to Q -/
def zX (p : Program) (l : Launch) (e : Env) (R : Room) (s : State) (m : MethodId) (args : Array Value) (below : List Frame) (meth : Method) (c : Code) (nc ns : Nat) (Q : State → Prop) (nL : Nat) (D : va_G) (cy : Nat → ClassId) (g : Nat → Nat) (pc : Nat) (lv : List (Nat × Value)) (st : List Value) (σ : zSto) : Prop :=
  ∀ (ls : Array Slot) (H : Heap) (locs : List Loc), lv_has ls nL lv → va_P D vwCl (zW cy g σ) H → va_S (zA g s.heap.size) s.heap H locs → W p l e R s m args below meth c H locs nc ns Q (F0 m pc ls st)
theorem zx_lv (ks : List Nat) (h : lv_pick lv ks = lv') (k : zX p l e R s m args below meth c nc ns Q nL D cy g pc lv' st σ) : zX p l e R s m args below meth c nc ns Q nL D cy g pc lv st σ := fun ls H locs h1 h2 h3 => k ls H locs (lv_sub h1 ks h) h2 h3
theorem zx_topi {x : Int32} (k : ∀ y : Int32, y = x → zX p l e R s m args below meth c nc ns Q nL D cy g pc lv (.int y :: st) σ) : zX p l e R s m args below meth c nc ns Q nL D cy g pc lv (.int x :: st) σ := k x rfl
theorem zx_topl {x : Int64} (k : ∀ y : Int64, y = x → zX p l e R s m args below meth c nc ns Q nL D cy g pc lv (.long y :: st) σ) : zX p l e R s m args below meth c nc ns Q nL D cy g pc lv (.long x :: st) σ := k x rfl
theorem zx_topr {x : Nat} (k : ∀ y : Nat, y = x → zX p l e R s m args below meth c nc ns Q nL D cy g pc lv (.ref (g y) :: st) σ) : zX p l e R s m args below meth c nc ns Q nL D cy g pc lv (.ref (g x) :: st) σ := k x rfl
theorem zx_sig (k : ∀ τ : zSto, τ = σ → zX p l e R s m args below meth c nc ns Q nL D cy g pc lv st τ) : zX p l e R s m args below meth c nc ns Q nL D cy g pc lv st σ := k σ rfl
theorem zx_st {σ' : zSto} (h : σ = σ') (k : zX p l e R s m args below meth c nc ns Q nL D cy g pc lv st σ') : zX p l e R s m args below meth c nc ns Q nL D cy g pc lv st σ := h ▸ k
theorem zx_iconst (C : zC p s m args meth c cc own nL D cy g) {n : Int} {v : Int32} (hd : decode cc pc = .ok (.iconst n, 1)) (hv : Int32.ofInt n = v) (k : zX p l e R s m args below meth c nc ns Q nL D cy g (pc + 1) lv (.int v :: st) σ) : zX p l e R s m args below meth c nc ns Q nL D cy g pc lv st σ := fun ls H locs h1 h2 h3 => lv_iconst C.1.1 C.1.2.1 hd hv (k ls H locs h1 h2 h3)
theorem zx_bipush (C : zC p s m args meth c cc own nL D cy g) {n : Int} {v : Int32} (hd : decode cc pc = .ok (.bipush n, 2)) (hv : (Int8.ofInt n).toInt32 = v) (k : zX p l e R s m args below meth c nc ns Q nL D cy g (pc + 2) lv (.int v :: st) σ) : zX p l e R s m args below meth c nc ns Q nL D cy g pc lv st σ := fun ls H locs h1 h2 h3 => lv_bipush C.1.1 C.1.2.1 hd hv (k ls H locs h1 h2 h3)
theorem zx_sipush (C : zC p s m args meth c cc own nL D cy g) {n : Int} {v : Int32} (hd : decode cc pc = .ok (.sipush n, 3)) (hv : (Int16.ofInt n).toInt32 = v) (k : zX p l e R s m args below meth c nc ns Q nL D cy g (pc + 3) lv (.int v :: st) σ) : zX p l e R s m args below meth c nc ns Q nL D cy g pc lv st σ := fun ls H locs h1 h2 h3 => lv_sipush C.1.1 C.1.2.1 hd hv (k ls H locs h1 h2 h3)
theorem zx_lconst (C : zC p s m args meth c cc own nL D cy g) {n : Fin 2} {v : Int64} (hd : decode cc pc = .ok (.lconst n, 1)) (hv : Int64.ofNat (n : Nat) = v) (k : zX p l e R s m args below meth c nc ns Q nL D cy g (pc + 1) lv (.long v :: st) σ) : zX p l e R s m args below meth c nc ns Q nL D cy g pc lv st σ := fun ls H locs h1 h2 h3 => lv_lconst C.1.1 C.1.2.1 hd hv (k ls H locs h1 h2 h3)
theorem zx_ldc (C : zC p s m args meth c cc own nL D cy g) {i : Nat} {v : Int32} (hd : decode cc pc = .ok (.ldc i, 2)) (hc : Cond.constant own i v ∈ zUU) (k : zX p l e R s m args below meth c nc ns Q nL D cy g (pc + 2) lv (.int v :: st) σ) : zX p l e R s m args below meth c nc ns Q nL D cy g pc lv st σ := fun ls H locs h1 h2 h3 => lv_ldc C.1.1 C.1.2.1 C.1.2.2.2.1 (C.1.2.2.2.2 _ hc) hd (k ls H locs h1 h2 h3)
theorem zx_ldcw (C : zC p s m args meth c cc own nL D cy g) {i : Nat} {v : Int32} (hd : decode cc pc = .ok (.ldc_w i, 3)) (hc : Cond.constant own i v ∈ zUU) (k : zX p l e R s m args below meth c nc ns Q nL D cy g (pc + 3) lv (.int v :: st) σ) : zX p l e R s m args below meth c nc ns Q nL D cy g pc lv st σ := fun ls H locs h1 h2 h3 => lv_ldcw C.1.1 C.1.2.1 C.1.2.2.2.1 (C.1.2.2.2.2 _ hc) hd (k ls H locs h1 h2 h3)
theorem zx_ldc2 (C : zC p s m args meth c cc own nL D cy g) {i : Nat} {v : Int64} (hd : decode cc pc = .ok (.ldc2_w i, 3)) (hc : Cond.constantLong own i v ∈ zUU) (k : zX p l e R s m args below meth c nc ns Q nL D cy g (pc + 3) lv (.long v :: st) σ) : zX p l e R s m args below meth c nc ns Q nL D cy g pc lv st σ := fun ls H locs h1 h2 h3 => lv_ldc2 C.1.1 C.1.2.1 C.1.2.2.2.1 (C.1.2.2.2.2 _ hc) hd (k ls H locs h1 h2 h3)
theorem zx_null (C : zC p s m args meth c cc own nL D cy g) (hd : decode cc pc = .ok (.aconst_null, 1)) (k : zX p l e R s m args below meth c nc ns Q nL D cy g (pc + 1) lv (.null :: st) σ) : zX p l e R s m args below meth c nc ns Q nL D cy g pc lv st σ := fun ls H locs h1 h2 h3 => lv_null C.1.1 C.1.2.1 hd (k ls H locs h1 h2 h3)
theorem zx_iload_n (C : zC p s m args meth c cc own nL D cy g) {i : Fin 4} {x : Int32} (hd : decode cc pc = .ok (.iload_n i, 1)) (j : Nat) (hl : lv[j]? = some ((i : Nat), .int x)) (k : zX p l e R s m args below meth c nc ns Q nL D cy g (pc + 1) lv (.int x :: st) σ) : zX p l e R s m args below meth c nc ns Q nL D cy g pc lv st σ := fun ls H locs h1 h2 h3 => lv_iload_n C.1.1 C.1.2.1 hd rfl (lv_at h1 j hl) (k ls H locs h1 h2 h3)
theorem zx_iload (C : zC p s m args meth c cc own nL D cy g) {i : Nat} {x : Int32} (hd : decode cc pc = .ok (.iload i, 2)) (j : Nat) (hl : lv[j]? = some (i, .int x)) (k : zX p l e R s m args below meth c nc ns Q nL D cy g (pc + 2) lv (.int x :: st) σ) : zX p l e R s m args below meth c nc ns Q nL D cy g pc lv st σ := fun ls H locs h1 h2 h3 => lv_iload C.1.1 C.1.2.1 hd (lv_at h1 j hl) (k ls H locs h1 h2 h3)
theorem zx_lload_n (C : zC p s m args meth c cc own nL D cy g) {i : Fin 4} {x : Int64} (hd : decode cc pc = .ok (.lload_n i, 1)) (j : Nat) (hl : lv[j]? = some ((i : Nat), .long x)) (k : zX p l e R s m args below meth c nc ns Q nL D cy g (pc + 1) lv (.long x :: st) σ) : zX p l e R s m args below meth c nc ns Q nL D cy g pc lv st σ := fun ls H locs h1 h2 h3 => lv_lload_n C.1.1 C.1.2.1 hd rfl (lv_at h1 j hl) (k ls H locs h1 h2 h3)
theorem zx_lload (C : zC p s m args meth c cc own nL D cy g) {i : Nat} {x : Int64} (hd : decode cc pc = .ok (.lload i, 2)) (j : Nat) (hl : lv[j]? = some (i, .long x)) (k : zX p l e R s m args below meth c nc ns Q nL D cy g (pc + 2) lv (.long x :: st) σ) : zX p l e R s m args below meth c nc ns Q nL D cy g pc lv st σ := fun ls H locs h1 h2 h3 => lv_lload C.1.1 C.1.2.1 hd (lv_at h1 j hl) (k ls H locs h1 h2 h3)
theorem zx_aload_n (C : zC p s m args meth c cc own nL D cy g) {i : Fin 4} {x : Nat} (hd : decode cc pc = .ok (.aload_n i, 1)) (j : Nat) (hl : lv[j]? = some ((i : Nat), .ref x)) (k : zX p l e R s m args below meth c nc ns Q nL D cy g (pc + 1) lv (.ref x :: st) σ) : zX p l e R s m args below meth c nc ns Q nL D cy g pc lv st σ := fun ls H locs h1 h2 h3 => lv_aload_n C.1.1 C.1.2.1 hd rfl (lv_at h1 j hl) (k ls H locs h1 h2 h3)
theorem zx_aload (C : zC p s m args meth c cc own nL D cy g) {i : Nat} {x : Nat} (hd : decode cc pc = .ok (.aload i, 2)) (j : Nat) (hl : lv[j]? = some (i, .ref x)) (k : zX p l e R s m args below meth c nc ns Q nL D cy g (pc + 2) lv (.ref x :: st) σ) : zX p l e R s m args below meth c nc ns Q nL D cy g pc lv st σ := fun ls H locs h1 h2 h3 => lv_aload C.1.1 C.1.2.1 hd (lv_at h1 j hl) (k ls H locs h1 h2 h3)
theorem zx_aload_nN (C : zC p s m args meth c cc own nL D cy g) {i : Fin 4} (hd : decode cc pc = .ok (.aload_n i, 1)) (j : Nat) (hl : lv[j]? = some ((i : Nat), .null)) (k : zX p l e R s m args below meth c nc ns Q nL D cy g (pc + 1) lv (.null :: st) σ) : zX p l e R s m args below meth c nc ns Q nL D cy g pc lv st σ := fun ls H locs h1 h2 h3 => lv_aload_nN C.1.1 C.1.2.1 hd rfl (lv_at h1 j hl) (k ls H locs h1 h2 h3)
theorem zx_aloadN (C : zC p s m args meth c cc own nL D cy g) {i : Nat} (hd : decode cc pc = .ok (.aload i, 2)) (j : Nat) (hl : lv[j]? = some (i, .null)) (k : zX p l e R s m args below meth c nc ns Q nL D cy g (pc + 2) lv (.null :: st) σ) : zX p l e R s m args below meth c nc ns Q nL D cy g pc lv st σ := fun ls H locs h1 h2 h3 => lv_aloadN C.1.1 C.1.2.1 hd (lv_at h1 j hl) (k ls H locs h1 h2 h3)
theorem zx_istore_n (C : zC p s m args meth c cc own nL D cy g) {i : Fin 4} {x : Int32} (hd : decode cc pc = .ok (.istore_n i, 1)) (hn : (i : Nat) < nL) (hl : ((i : Nat), Value.int x) :: lv.filter (fun q => !(q.1 == (i : Nat)) && !(q.1 + 1 == (i : Nat) && q.2.category == 2)) = lv') (k : zX p l e R s m args below meth c nc ns Q nL D cy g (pc + 1) lv' st σ) : zX p l e R s m args below meth c nc ns Q nL D cy g pc lv (.int x :: st) σ := fun ls H locs h1 h2 h3 => lv_istore_n C.1.1 C.1.2.1 hd rfl h1 hn hl (fun ls h1 => k ls H locs h1 h2 h3)
theorem zx_istore (C : zC p s m args meth c cc own nL D cy g) {i : Nat} {x : Int32} (hd : decode cc pc = .ok (.istore i, 2)) (hn : i < nL) (hl : (i, Value.int x) :: lv.filter (fun q => !(q.1 == i) && !(q.1 + 1 == i && q.2.category == 2)) = lv') (k : zX p l e R s m args below meth c nc ns Q nL D cy g (pc + 2) lv' st σ) : zX p l e R s m args below meth c nc ns Q nL D cy g pc lv (.int x :: st) σ := fun ls H locs h1 h2 h3 => lv_istore C.1.1 C.1.2.1 hd h1 hn hl (fun ls h1 => k ls H locs h1 h2 h3)
theorem zx_lstore_n (C : zC p s m args meth c cc own nL D cy g) {i : Fin 4} {x : Int64} (hd : decode cc pc = .ok (.lstore_n i, 1)) (hn : (i : Nat) + 1 < nL) (hl : ((i : Nat), Value.long x) :: lv.filter (fun q => !(q.1 == (i : Nat)) && (!(q.1 == (i : Nat) + 1) && !(q.1 + 1 == (i : Nat) && q.2.category == 2))) = lv') (k : zX p l e R s m args below meth c nc ns Q nL D cy g (pc + 1) lv' st σ) : zX p l e R s m args below meth c nc ns Q nL D cy g pc lv (.long x :: st) σ := fun ls H locs h1 h2 h3 => lv_lstore_n C.1.1 C.1.2.1 hd rfl h1 hn hl (fun ls h1 => k ls H locs h1 h2 h3)
theorem zx_lstore (C : zC p s m args meth c cc own nL D cy g) {i : Nat} {x : Int64} (hd : decode cc pc = .ok (.lstore i, 2)) (hn : i + 1 < nL) (hl : (i, Value.long x) :: lv.filter (fun q => !(q.1 == i) && (!(q.1 == i + 1) && !(q.1 + 1 == i && q.2.category == 2))) = lv') (k : zX p l e R s m args below meth c nc ns Q nL D cy g (pc + 2) lv' st σ) : zX p l e R s m args below meth c nc ns Q nL D cy g pc lv (.long x :: st) σ := fun ls H locs h1 h2 h3 => lv_lstore C.1.1 C.1.2.1 hd h1 hn hl (fun ls h1 => k ls H locs h1 h2 h3)
theorem zx_astore_n (C : zC p s m args meth c cc own nL D cy g) {i : Fin 4} {x : Nat} (hd : decode cc pc = .ok (.astore_n i, 1)) (hn : (i : Nat) < nL) (hl : ((i : Nat), Value.ref x) :: lv.filter (fun q => !(q.1 == (i : Nat)) && !(q.1 + 1 == (i : Nat) && q.2.category == 2)) = lv') (k : zX p l e R s m args below meth c nc ns Q nL D cy g (pc + 1) lv' st σ) : zX p l e R s m args below meth c nc ns Q nL D cy g pc lv (.ref x :: st) σ := fun ls H locs h1 h2 h3 => lv_astore_n C.1.1 C.1.2.1 hd rfl h1 hn hl (fun ls h1 => k ls H locs h1 h2 h3)
theorem zx_astore (C : zC p s m args meth c cc own nL D cy g) {i : Nat} {x : Nat} (hd : decode cc pc = .ok (.astore i, 2)) (hn : i < nL) (hl : (i, Value.ref x) :: lv.filter (fun q => !(q.1 == i) && !(q.1 + 1 == i && q.2.category == 2)) = lv') (k : zX p l e R s m args below meth c nc ns Q nL D cy g (pc + 2) lv' st σ) : zX p l e R s m args below meth c nc ns Q nL D cy g pc lv (.ref x :: st) σ := fun ls H locs h1 h2 h3 => lv_astore C.1.1 C.1.2.1 hd h1 hn hl (fun ls h1 => k ls H locs h1 h2 h3)
theorem zx_astore_nN (C : zC p s m args meth c cc own nL D cy g) {i : Fin 4} (hd : decode cc pc = .ok (.astore_n i, 1)) (hn : (i : Nat) < nL) (hl : ((i : Nat), Value.null) :: lv.filter (fun q => !(q.1 == (i : Nat)) && !(q.1 + 1 == (i : Nat) && q.2.category == 2)) = lv') (k : zX p l e R s m args below meth c nc ns Q nL D cy g (pc + 1) lv' st σ) : zX p l e R s m args below meth c nc ns Q nL D cy g pc lv (.null :: st) σ := fun ls H locs h1 h2 h3 => lv_astore_nN C.1.1 C.1.2.1 hd rfl h1 hn hl (fun ls h1 => k ls H locs h1 h2 h3)
theorem zx_astoreN (C : zC p s m args meth c cc own nL D cy g) {i : Nat} (hd : decode cc pc = .ok (.astore i, 2)) (hn : i < nL) (hl : (i, Value.null) :: lv.filter (fun q => !(q.1 == i) && !(q.1 + 1 == i && q.2.category == 2)) = lv') (k : zX p l e R s m args below meth c nc ns Q nL D cy g (pc + 2) lv' st σ) : zX p l e R s m args below meth c nc ns Q nL D cy g pc lv (.null :: st) σ := fun ls H locs h1 h2 h3 => lv_astoreN C.1.1 C.1.2.1 hd h1 hn hl (fun ls h1 => k ls H locs h1 h2 h3)
theorem zx_iinc (C : zC p s m args meth c cc own nL D cy g) {i : Nat} {n : Int} {x v : Int32} (hd : decode cc pc = .ok (.iinc i n, 3)) (j : Nat) (hj : lv[j]? = some (i, .int x)) (hv : x + Int32.ofInt n = v) (hn : i < nL) (hl : (i, Value.int v) :: lv.filter (fun q => !(q.1 == i) && !(q.1 + 1 == i && q.2.category == 2)) = lv') (k : zX p l e R s m args below meth c nc ns Q nL D cy g (pc + 3) lv' st σ) : zX p l e R s m args below meth c nc ns Q nL D cy g pc lv st σ := fun ls H locs h1 h2 h3 => lv_iinc C.1.1 C.1.2.1 hd h1 hj hv hn hl (fun ls h1 => k ls H locs h1 h2 h3)
theorem zx_iadd (C : zC p s m args meth c cc own nL D cy g) {x y : Int32} (hd : decode cc pc = .ok (.iadd, 1)) (k : zX p l e R s m args below meth c nc ns Q nL D cy g (pc + 1) lv (.int (x + y) :: st) σ) : zX p l e R s m args below meth c nc ns Q nL D cy g pc lv (.int y :: .int x :: st) σ := fun ls H locs h1 h2 h3 => lv_iadd C.1.1 C.1.2.1 hd (k ls H locs h1 h2 h3)
theorem zx_isub (C : zC p s m args meth c cc own nL D cy g) {x y : Int32} (hd : decode cc pc = .ok (.isub, 1)) (k : zX p l e R s m args below meth c nc ns Q nL D cy g (pc + 1) lv (.int (x - y) :: st) σ) : zX p l e R s m args below meth c nc ns Q nL D cy g pc lv (.int y :: .int x :: st) σ := fun ls H locs h1 h2 h3 => lv_isub C.1.1 C.1.2.1 hd (k ls H locs h1 h2 h3)
theorem zx_imul (C : zC p s m args meth c cc own nL D cy g) {x y : Int32} (hd : decode cc pc = .ok (.imul, 1)) (k : zX p l e R s m args below meth c nc ns Q nL D cy g (pc + 1) lv (.int (x * y) :: st) σ) : zX p l e R s m args below meth c nc ns Q nL D cy g pc lv (.int y :: .int x :: st) σ := fun ls H locs h1 h2 h3 => lv_imul C.1.1 C.1.2.1 hd (k ls H locs h1 h2 h3)
theorem zx_iand (C : zC p s m args meth c cc own nL D cy g) {x y : Int32} (hd : decode cc pc = .ok (.iand, 1)) (k : zX p l e R s m args below meth c nc ns Q nL D cy g (pc + 1) lv (.int (x &&& y) :: st) σ) : zX p l e R s m args below meth c nc ns Q nL D cy g pc lv (.int y :: .int x :: st) σ := fun ls H locs h1 h2 h3 => lv_iand C.1.1 C.1.2.1 hd (k ls H locs h1 h2 h3)
theorem zx_ior (C : zC p s m args meth c cc own nL D cy g) {x y : Int32} (hd : decode cc pc = .ok (.ior, 1)) (k : zX p l e R s m args below meth c nc ns Q nL D cy g (pc + 1) lv (.int (x ||| y) :: st) σ) : zX p l e R s m args below meth c nc ns Q nL D cy g pc lv (.int y :: .int x :: st) σ := fun ls H locs h1 h2 h3 => lv_ior C.1.1 C.1.2.1 hd (k ls H locs h1 h2 h3)
theorem zx_ixor (C : zC p s m args meth c cc own nL D cy g) {x y : Int32} (hd : decode cc pc = .ok (.ixor, 1)) (k : zX p l e R s m args below meth c nc ns Q nL D cy g (pc + 1) lv (.int (x ^^^ y) :: st) σ) : zX p l e R s m args below meth c nc ns Q nL D cy g pc lv (.int y :: .int x :: st) σ := fun ls H locs h1 h2 h3 => lv_ixor C.1.1 C.1.2.1 hd (k ls H locs h1 h2 h3)
theorem zx_ladd (C : zC p s m args meth c cc own nL D cy g) {x y : Int64} (hd : decode cc pc = .ok (.ladd, 1)) (k : zX p l e R s m args below meth c nc ns Q nL D cy g (pc + 1) lv (.long (x + y) :: st) σ) : zX p l e R s m args below meth c nc ns Q nL D cy g pc lv (.long y :: .long x :: st) σ := fun ls H locs h1 h2 h3 => lv_ladd C.1.1 C.1.2.1 hd (k ls H locs h1 h2 h3)
theorem zx_lsub (C : zC p s m args meth c cc own nL D cy g) {x y : Int64} (hd : decode cc pc = .ok (.lsub, 1)) (k : zX p l e R s m args below meth c nc ns Q nL D cy g (pc + 1) lv (.long (x - y) :: st) σ) : zX p l e R s m args below meth c nc ns Q nL D cy g pc lv (.long y :: .long x :: st) σ := fun ls H locs h1 h2 h3 => lv_lsub C.1.1 C.1.2.1 hd (k ls H locs h1 h2 h3)
theorem zx_lmul (C : zC p s m args meth c cc own nL D cy g) {x y : Int64} (hd : decode cc pc = .ok (.lmul, 1)) (k : zX p l e R s m args below meth c nc ns Q nL D cy g (pc + 1) lv (.long (x * y) :: st) σ) : zX p l e R s m args below meth c nc ns Q nL D cy g pc lv (.long y :: .long x :: st) σ := fun ls H locs h1 h2 h3 => lv_lmul C.1.1 C.1.2.1 hd (k ls H locs h1 h2 h3)
theorem zx_lor (C : zC p s m args meth c cc own nL D cy g) {x y : Int64} (hd : decode cc pc = .ok (.lor, 1)) (k : zX p l e R s m args below meth c nc ns Q nL D cy g (pc + 1) lv (.long (x ||| y) :: st) σ) : zX p l e R s m args below meth c nc ns Q nL D cy g pc lv (.long y :: .long x :: st) σ := fun ls H locs h1 h2 h3 => lv_lor C.1.1 C.1.2.1 hd (k ls H locs h1 h2 h3)
theorem zx_ishl (C : zC p s m args meth c cc own nL D cy g) {x y : Int32} (hd : decode cc pc = .ok (.ishl, 1)) (k : zX p l e R s m args below meth c nc ns Q nL D cy g (pc + 1) lv (.int (x <<< (y &&& 31)) :: st) σ) : zX p l e R s m args below meth c nc ns Q nL D cy g pc lv (.int y :: .int x :: st) σ := fun ls H locs h1 h2 h3 => lv_ishl C.1.1 C.1.2.1 hd (k ls H locs h1 h2 h3)
theorem zx_ishr (C : zC p s m args meth c cc own nL D cy g) {x y : Int32} (hd : decode cc pc = .ok (.ishr, 1)) (k : zX p l e R s m args below meth c nc ns Q nL D cy g (pc + 1) lv (.int (x >>> (y &&& 31)) :: st) σ) : zX p l e R s m args below meth c nc ns Q nL D cy g pc lv (.int y :: .int x :: st) σ := fun ls H locs h1 h2 h3 => lv_ishr C.1.1 C.1.2.1 hd (k ls H locs h1 h2 h3)
theorem zx_ineg (C : zC p s m args meth c cc own nL D cy g) {x : Int32} (hd : decode cc pc = .ok (.ineg, 1)) (k : zX p l e R s m args below meth c nc ns Q nL D cy g (pc + 1) lv (.int (-x) :: st) σ) : zX p l e R s m args below meth c nc ns Q nL D cy g pc lv (.int x :: st) σ := fun ls H locs h1 h2 h3 => lv_ineg C.1.1 C.1.2.1 hd (k ls H locs h1 h2 h3)
theorem zx_idiv (C : zC p s m args meth c cc own nL D cy g) {x y : Int32} (hd : decode cc pc = .ok (.idiv, 1)) (hne : ¬ y = 0) (k : zX p l e R s m args below meth c nc ns Q nL D cy g (pc + 1) lv (.int (x / y) :: st) σ) : zX p l e R s m args below meth c nc ns Q nL D cy g pc lv (.int y :: .int x :: st) σ := fun ls H locs h1 h2 h3 => lv_idiv C.1.1 C.1.2.1 hd hne (k ls H locs h1 h2 h3)
theorem zx_irem (C : zC p s m args meth c cc own nL D cy g) {x y : Int32} (hd : decode cc pc = .ok (.irem, 1)) (hne : ¬ y = 0) (k : zX p l e R s m args below meth c nc ns Q nL D cy g (pc + 1) lv (.int (x - x / y * y) :: st) σ) : zX p l e R s m args below meth c nc ns Q nL D cy g pc lv (.int y :: .int x :: st) σ := fun ls H locs h1 h2 h3 => lv_irem C.1.1 C.1.2.1 hd hne (k ls H locs h1 h2 h3)
theorem zx_ldiv (C : zC p s m args meth c cc own nL D cy g) {x y : Int64} (hd : decode cc pc = .ok (.ldiv, 1)) (hne : ¬ y = 0) (k : zX p l e R s m args below meth c nc ns Q nL D cy g (pc + 1) lv (.long (x / y) :: st) σ) : zX p l e R s m args below meth c nc ns Q nL D cy g pc lv (.long y :: .long x :: st) σ := fun ls H locs h1 h2 h3 => lv_ldiv C.1.1 C.1.2.1 hd hne (k ls H locs h1 h2 h3)
theorem zx_lrem (C : zC p s m args meth c cc own nL D cy g) {x y : Int64} (hd : decode cc pc = .ok (.lrem, 1)) (hne : ¬ y = 0) (k : zX p l e R s m args below meth c nc ns Q nL D cy g (pc + 1) lv (.long (x - x / y * y) :: st) σ) : zX p l e R s m args below meth c nc ns Q nL D cy g pc lv (.long y :: .long x :: st) σ := fun ls H locs h1 h2 h3 => lv_lrem C.1.1 C.1.2.1 hd hne (k ls H locs h1 h2 h3)
theorem zx_iushr (C : zC p s m args meth c cc own nL D cy g) {x y : Int32} (hd : decode cc pc = .ok (.iushr, 1)) (k : zX p l e R s m args below meth c nc ns Q nL D cy g (pc + 1) lv (.int (x.toUInt32 >>> (y.toUInt32 &&& Int32.toUInt32 31)).toInt32 :: st) σ) : zX p l e R s m args below meth c nc ns Q nL D cy g pc lv (.int y :: .int x :: st) σ := fun ls H locs h1 h2 h3 => lv_iushr C.1.1 C.1.2.1 hd rfl (k ls H locs h1 h2 h3)
theorem zx_lshl (C : zC p s m args meth c cc own nL D cy g) {x : Int64} {y : Int32} (hd : decode cc pc = .ok (.lshl, 1)) (k : zX p l e R s m args below meth c nc ns Q nL D cy g (pc + 1) lv (.long (x <<< (y.toInt64 &&& 63)) :: st) σ) : zX p l e R s m args below meth c nc ns Q nL D cy g pc lv (.int y :: .long x :: st) σ := fun ls H locs h1 h2 h3 => lv_lshl C.1.1 C.1.2.1 hd rfl (k ls H locs h1 h2 h3)
theorem zx_i2l (C : zC p s m args meth c cc own nL D cy g) {x : Int32} (hd : decode cc pc = .ok (.i2l, 1)) (k : zX p l e R s m args below meth c nc ns Q nL D cy g (pc + 1) lv (.long x.toInt64 :: st) σ) : zX p l e R s m args below meth c nc ns Q nL D cy g pc lv (.int x :: st) σ := fun ls H locs h1 h2 h3 => lv_i2l C.1.1 C.1.2.1 hd rfl (k ls H locs h1 h2 h3)
theorem zx_i2b (C : zC p s m args meth c cc own nL D cy g) {x : Int32} (hd : decode cc pc = .ok (.i2b, 1)) (k : zX p l e R s m args below meth c nc ns Q nL D cy g (pc + 1) lv (.int x.toInt8.toInt32 :: st) σ) : zX p l e R s m args below meth c nc ns Q nL D cy g pc lv (.int x :: st) σ := fun ls H locs h1 h2 h3 => lv_i2b C.1.1 C.1.2.1 hd rfl (k ls H locs h1 h2 h3)
theorem zx_lcmp (C : zC p s m args meth c cc own nL D cy g) {x y : Int64} (hd : decode cc pc = .ok (.lcmp, 1)) (k : zX p l e R s m args below meth c nc ns Q nL D cy g (pc + 1) lv (.int (lg_cmp x y) :: st) σ) : zX p l e R s m args below meth c nc ns Q nL D cy g pc lv (.long y :: .long x :: st) σ := fun ls H locs h1 h2 h3 => W.lcmp C.1.1 C.1.2.1 hd (k ls H locs h1 h2 h3)
theorem zx_dup (C : zC p s m args meth c cc own nL D cy g) {v : Value} (hd : decode cc pc = .ok (.dup, 1)) (hv : v.category = 1) (k : zX p l e R s m args below meth c nc ns Q nL D cy g (pc + 1) lv (v :: v :: st) σ) : zX p l e R s m args below meth c nc ns Q nL D cy g pc lv (v :: st) σ := fun ls H locs h1 h2 h3 => lv_dup C.1.1 C.1.2.1 hd hv (k ls H locs h1 h2 h3)
theorem zx_dup2 (C : zC p s m args meth c cc own nL D cy g) {v w : Value} (hd : decode cc pc = .ok (.dup2, 1)) (hv : v.category = 1) (hw : w.category = 1) (k : zX p l e R s m args below meth c nc ns Q nL D cy g (pc + 1) lv (v :: w :: v :: w :: st) σ) : zX p l e R s m args below meth c nc ns Q nL D cy g pc lv (v :: w :: st) σ := fun ls H locs h1 h2 h3 => lv_dup2_11 C.1.1 C.1.2.1 hd hv hw (k ls H locs h1 h2 h3)
theorem zx_pop (C : zC p s m args meth c cc own nL D cy g) {v : Value} (hd : decode cc pc = .ok (.pop, 1)) (hv : v.category = 1) (k : zX p l e R s m args below meth c nc ns Q nL D cy g (pc + 1) lv st σ) : zX p l e R s m args below meth c nc ns Q nL D cy g pc lv (v :: st) σ := fun ls H locs h1 h2 h3 => lv_pop C.1.1 C.1.2.1 hd hv (k ls H locs h1 h2 h3)
theorem zx_goto (C : zC p s m args meth c cc own nL D cy g) {off : Int} (tgt : Nat) (hd : decode cc pc = .ok (.goto off, 3)) (ht : (pc : Int) + off = (tgt : Int)) (k : zX p l e R s m args below meth c nc ns Q nL D cy g tgt lv st σ) : zX p l e R s m args below meth c nc ns Q nL D cy g pc lv st σ := fun ls H locs h1 h2 h3 => lv_goto C.1.1 C.1.2.1 hd ht (k ls H locs h1 h2 h3)
theorem zx_if_eq (C : zC p s m args meth c cc own nL D cy g) {x : Int32} {off : Int} (tgt : Nat) (hd : decode cc pc = .ok (.ifCond .eq off, 3)) (ht : (pc : Int) + off = (tgt : Int)) (kt : x = 0 → zX p l e R s m args below meth c nc ns Q nL D cy g tgt lv st σ) (kf : ¬ (x = 0) → zX p l e R s m args below meth c nc ns Q nL D cy g (pc + 3) lv st σ) : zX p l e R s m args below meth c nc ns Q nL D cy g pc lv (.int x :: st) σ := fun ls H locs h1 h2 h3 => lv_if_eq C.1.1 C.1.2.1 hd ht (fun q => kt q ls H locs h1 h2 h3) (fun q => kf q ls H locs h1 h2 h3)
theorem zx_icmp_eq (C : zC p s m args meth c cc own nL D cy g) {x y : Int32} {off : Int} (tgt : Nat) (hd : decode cc pc = .ok (.if_icmp .eq off, 3)) (ht : (pc : Int) + off = (tgt : Int)) (kt : x = y → zX p l e R s m args below meth c nc ns Q nL D cy g tgt lv st σ) (kf : ¬ (x = y) → zX p l e R s m args below meth c nc ns Q nL D cy g (pc + 3) lv st σ) : zX p l e R s m args below meth c nc ns Q nL D cy g pc lv (.int y :: .int x :: st) σ := fun ls H locs h1 h2 h3 => lv_icmp_eq C.1.1 C.1.2.1 hd ht (fun q => kt q ls H locs h1 h2 h3) (fun q => kf q ls H locs h1 h2 h3)
theorem zx_if_ne (C : zC p s m args meth c cc own nL D cy g) {x : Int32} {off : Int} (tgt : Nat) (hd : decode cc pc = .ok (.ifCond .ne off, 3)) (ht : (pc : Int) + off = (tgt : Int)) (kt : ¬ x = 0 → zX p l e R s m args below meth c nc ns Q nL D cy g tgt lv st σ) (kf : x = 0 → zX p l e R s m args below meth c nc ns Q nL D cy g (pc + 3) lv st σ) : zX p l e R s m args below meth c nc ns Q nL D cy g pc lv (.int x :: st) σ := fun ls H locs h1 h2 h3 => lv_if_ne C.1.1 C.1.2.1 hd ht (fun q => kt q ls H locs h1 h2 h3) (fun q => kf q ls H locs h1 h2 h3)
theorem zx_icmp_ne (C : zC p s m args meth c cc own nL D cy g) {x y : Int32} {off : Int} (tgt : Nat) (hd : decode cc pc = .ok (.if_icmp .ne off, 3)) (ht : (pc : Int) + off = (tgt : Int)) (kt : ¬ x = y → zX p l e R s m args below meth c nc ns Q nL D cy g tgt lv st σ) (kf : x = y → zX p l e R s m args below meth c nc ns Q nL D cy g (pc + 3) lv st σ) : zX p l e R s m args below meth c nc ns Q nL D cy g pc lv (.int y :: .int x :: st) σ := fun ls H locs h1 h2 h3 => lv_icmp_ne C.1.1 C.1.2.1 hd ht (fun q => kt q ls H locs h1 h2 h3) (fun q => kf q ls H locs h1 h2 h3)
theorem zx_if_lt (C : zC p s m args meth c cc own nL D cy g) {x : Int32} {off : Int} (tgt : Nat) (hd : decode cc pc = .ok (.ifCond .lt off, 3)) (ht : (pc : Int) + off = (tgt : Int)) (kt : x < 0 → zX p l e R s m args below meth c nc ns Q nL D cy g tgt lv st σ) (kf : ¬ (x < 0) → zX p l e R s m args below meth c nc ns Q nL D cy g (pc + 3) lv st σ) : zX p l e R s m args below meth c nc ns Q nL D cy g pc lv (.int x :: st) σ := fun ls H locs h1 h2 h3 => lv_if_lt C.1.1 C.1.2.1 hd ht (fun q => kt q ls H locs h1 h2 h3) (fun q => kf q ls H locs h1 h2 h3)
theorem zx_icmp_lt (C : zC p s m args meth c cc own nL D cy g) {x y : Int32} {off : Int} (tgt : Nat) (hd : decode cc pc = .ok (.if_icmp .lt off, 3)) (ht : (pc : Int) + off = (tgt : Int)) (kt : x < y → zX p l e R s m args below meth c nc ns Q nL D cy g tgt lv st σ) (kf : ¬ (x < y) → zX p l e R s m args below meth c nc ns Q nL D cy g (pc + 3) lv st σ) : zX p l e R s m args below meth c nc ns Q nL D cy g pc lv (.int y :: .int x :: st) σ := fun ls H locs h1 h2 h3 => lv_icmp_lt C.1.1 C.1.2.1 hd ht (fun q => kt q ls H locs h1 h2 h3) (fun q => kf q ls H locs h1 h2 h3)
theorem zx_if_ge (C : zC p s m args meth c cc own nL D cy g) {x : Int32} {off : Int} (tgt : Nat) (hd : decode cc pc = .ok (.ifCond .ge off, 3)) (ht : (pc : Int) + off = (tgt : Int)) (kt : 0 ≤ x → zX p l e R s m args below meth c nc ns Q nL D cy g tgt lv st σ) (kf : ¬ (0 ≤ x) → zX p l e R s m args below meth c nc ns Q nL D cy g (pc + 3) lv st σ) : zX p l e R s m args below meth c nc ns Q nL D cy g pc lv (.int x :: st) σ := fun ls H locs h1 h2 h3 => lv_if_ge C.1.1 C.1.2.1 hd ht (fun q => kt q ls H locs h1 h2 h3) (fun q => kf q ls H locs h1 h2 h3)
theorem zx_icmp_ge (C : zC p s m args meth c cc own nL D cy g) {x y : Int32} {off : Int} (tgt : Nat) (hd : decode cc pc = .ok (.if_icmp .ge off, 3)) (ht : (pc : Int) + off = (tgt : Int)) (kt : y ≤ x → zX p l e R s m args below meth c nc ns Q nL D cy g tgt lv st σ) (kf : ¬ (y ≤ x) → zX p l e R s m args below meth c nc ns Q nL D cy g (pc + 3) lv st σ) : zX p l e R s m args below meth c nc ns Q nL D cy g pc lv (.int y :: .int x :: st) σ := fun ls H locs h1 h2 h3 => lv_icmp_ge C.1.1 C.1.2.1 hd ht (fun q => kt q ls H locs h1 h2 h3) (fun q => kf q ls H locs h1 h2 h3)
theorem zx_if_gt (C : zC p s m args meth c cc own nL D cy g) {x : Int32} {off : Int} (tgt : Nat) (hd : decode cc pc = .ok (.ifCond .gt off, 3)) (ht : (pc : Int) + off = (tgt : Int)) (kt : 0 < x → zX p l e R s m args below meth c nc ns Q nL D cy g tgt lv st σ) (kf : ¬ (0 < x) → zX p l e R s m args below meth c nc ns Q nL D cy g (pc + 3) lv st σ) : zX p l e R s m args below meth c nc ns Q nL D cy g pc lv (.int x :: st) σ := fun ls H locs h1 h2 h3 => lv_if_gt C.1.1 C.1.2.1 hd ht (fun q => kt q ls H locs h1 h2 h3) (fun q => kf q ls H locs h1 h2 h3)
theorem zx_icmp_gt (C : zC p s m args meth c cc own nL D cy g) {x y : Int32} {off : Int} (tgt : Nat) (hd : decode cc pc = .ok (.if_icmp .gt off, 3)) (ht : (pc : Int) + off = (tgt : Int)) (kt : y < x → zX p l e R s m args below meth c nc ns Q nL D cy g tgt lv st σ) (kf : ¬ (y < x) → zX p l e R s m args below meth c nc ns Q nL D cy g (pc + 3) lv st σ) : zX p l e R s m args below meth c nc ns Q nL D cy g pc lv (.int y :: .int x :: st) σ := fun ls H locs h1 h2 h3 => lv_icmp_gt C.1.1 C.1.2.1 hd ht (fun q => kt q ls H locs h1 h2 h3) (fun q => kf q ls H locs h1 h2 h3)
theorem zx_if_le (C : zC p s m args meth c cc own nL D cy g) {x : Int32} {off : Int} (tgt : Nat) (hd : decode cc pc = .ok (.ifCond .le off, 3)) (ht : (pc : Int) + off = (tgt : Int)) (kt : x ≤ 0 → zX p l e R s m args below meth c nc ns Q nL D cy g tgt lv st σ) (kf : ¬ (x ≤ 0) → zX p l e R s m args below meth c nc ns Q nL D cy g (pc + 3) lv st σ) : zX p l e R s m args below meth c nc ns Q nL D cy g pc lv (.int x :: st) σ := fun ls H locs h1 h2 h3 => lv_if_le C.1.1 C.1.2.1 hd ht (fun q => kt q ls H locs h1 h2 h3) (fun q => kf q ls H locs h1 h2 h3)
theorem zx_icmp_le (C : zC p s m args meth c cc own nL D cy g) {x y : Int32} {off : Int} (tgt : Nat) (hd : decode cc pc = .ok (.if_icmp .le off, 3)) (ht : (pc : Int) + off = (tgt : Int)) (kt : x ≤ y → zX p l e R s m args below meth c nc ns Q nL D cy g tgt lv st σ) (kf : ¬ (x ≤ y) → zX p l e R s m args below meth c nc ns Q nL D cy g (pc + 3) lv st σ) : zX p l e R s m args below meth c nc ns Q nL D cy g pc lv (.int y :: .int x :: st) σ := fun ls H locs h1 h2 h3 => lv_icmp_le C.1.1 C.1.2.1 hd ht (fun q => kt q ls H locs h1 h2 h3) (fun q => kf q ls H locs h1 h2 h3)
theorem zx_ifnull (C : zC p s m args meth c cc own nL D cy g) {x : Nat} {off : Int} (hd : decode cc pc = .ok (.ifnull off, 3)) (k : zX p l e R s m args below meth c nc ns Q nL D cy g (pc + 3) lv st σ) : zX p l e R s m args below meth c nc ns Q nL D cy g pc lv (.ref x :: st) σ := fun ls H locs h1 h2 h3 => lv_ifnull C.1.1 C.1.2.1 hd (k ls H locs h1 h2 h3)
theorem zx_ifnullN (C : zC p s m args meth c cc own nL D cy g) {off : Int} (tgt : Nat) (hd : decode cc pc = .ok (.ifnull off, 3)) (ht : (pc : Int) + off = (tgt : Int)) (k : zX p l e R s m args below meth c nc ns Q nL D cy g tgt lv st σ) : zX p l e R s m args below meth c nc ns Q nL D cy g pc lv (.null :: st) σ := fun ls H locs h1 h2 h3 => lv_ifnullN C.1.1 C.1.2.1 hd ht (k ls H locs h1 h2 h3)
theorem zx_ifnonnull (C : zC p s m args meth c cc own nL D cy g) {x : Nat} {off : Int} (tgt : Nat) (hd : decode cc pc = .ok (.ifnonnull off, 3)) (ht : (pc : Int) + off = (tgt : Int)) (k : zX p l e R s m args below meth c nc ns Q nL D cy g tgt lv st σ) : zX p l e R s m args below meth c nc ns Q nL D cy g pc lv (.ref x :: st) σ := fun ls H locs h1 h2 h3 => lv_ifnonnull C.1.1 C.1.2.1 hd ht (k ls H locs h1 h2 h3)
theorem zx_ifnonnullN (C : zC p s m args meth c cc own nL D cy g) {off : Int} (hd : decode cc pc = .ok (.ifnonnull off, 3)) (k : zX p l e R s m args below meth c nc ns Q nL D cy g (pc + 3) lv st σ) : zX p l e R s m args below meth c nc ns Q nL D cy g pc lv (.null :: st) σ := fun ls H locs h1 h2 h3 => lv_ifnonnullN C.1.1 C.1.2.1 hd (k ls H locs h1 h2 h3)
theorem zx_tableOut (C : zC p s m args meth c cc own nL D cy g) {dflt lo hi : Int} {offs : Array Int} {len : Nat} {x : Int32} (tgt : Nat) (hd : decode cc pc = .ok (.tableswitch dflt lo hi offs, len)) (h : x.toInt < lo ∨ hi < x.toInt) (ht : (pc : Int) + dflt = (tgt : Int)) (k : zX p l e R s m args below meth c nc ns Q nL D cy g tgt lv st σ) : zX p l e R s m args below meth c nc ns Q nL D cy g pc lv (.int x :: st) σ := fun ls H locs h1 h2 h3 => lv_tableOut C.1.1 C.1.2.1 hd h ht (k ls H locs h1 h2 h3)
theorem zx_tableIn (C : zC p s m args meth c cc own nL D cy g) {dflt lo hi off : Int} {offs : Array Int} {len : Nat} {x : Int32} (tgt : Nat) (v : Int32) (hx : x = v) (hd : decode cc pc = .ok (.tableswitch dflt lo hi offs, len)) (h1 : ¬ v.toInt < lo) (h2 : ¬ hi < v.toInt) (ho : offs[(v.toInt - lo).toNat]? = some off) (ht : (pc : Int) + off = (tgt : Int)) (k : zX p l e R s m args below meth c nc ns Q nL D cy g tgt lv st σ) : zX p l e R s m args below meth c nc ns Q nL D cy g pc lv (.int x :: st) σ := fun ls H locs q1 q2 q3 => lv_tableIn C.1.1 C.1.2.1 hd (by rw [hx]; exact h1) (by rw [hx]; exact h2) (by rw [hx]; exact ho) ht (k ls H locs q1 q2 q3)
/-- a field of an object: a reference that never changes, an int, a long -/
theorem zx_getR (C : zC p s m args meth c cc own nL D cy g) {k0 ci N i d j : Nat} {T : u_T} {Cn : String} {fds : List (Nat × Nat)} (hs : zsh k0 = zo ci fds) (hc : vwCl[ci]? = some (Cn, T, N)) (hin : ∀ w ∈ u_ws Cn T N, w ∈ zUU) (hk : j < N) (hl : Cond.fieldLink own i (T j).1 (T j).2.1 (T j).2.2.1 ∈ zUU) (hf : fds[j]? = some (0, d)) (k1 : Nat) (e1 : k0 + d = k1) (hd : decode cc pc = .ok (.getfield i, 3)) (k : zX p l e R s m args below meth c nc ns Q nL D cy g (pc + 3) lv (.ref (g k1) :: st) σ) : zX p l e R s m args below meth c nc ns Q nL D cy g pc lv (.ref (g k0) :: st) σ := fun ls H locs h1 h2 h3 => va_get C.1.1 C.1.2.1 C.1.2.2.2.2 hin C.1.2.2.2.1 C.2.1 h2 k0 (zg_o hs) hc j hk (C.1.2.2.2.2 _ hl) (fun _ h => h) (by rw [List.getElem?_mapIdx, hf]; subst e1; rfl) hd (k ls H locs h1 h2 h3)
theorem zx_getI (C : zC p s m args meth c cc own nL D cy g) {k0 ci N i d j : Nat} {T : u_T} {Cn : String} {fds : List (Nat × Nat)} (hs : zsh k0 = zo ci fds) (hc : vwCl[ci]? = some (Cn, T, N)) (hin : ∀ w ∈ u_ws Cn T N, w ∈ zUU) (hk : j < N) (hl : Cond.fieldLink own i (T j).1 (T j).2.1 (T j).2.2.1 ∈ zUU) (hf : fds[j]? = some (1, d)) (hd : decode cc pc = .ok (.getfield i, 3)) (k : zX p l e R s m args below meth c nc ns Q nL D cy g (pc + 3) lv (.int (σ.1 k0 j) :: st) σ) : zX p l e R s m args below meth c nc ns Q nL D cy g pc lv (.ref (g k0) :: st) σ := fun ls H locs h1 h2 h3 => va_get C.1.1 C.1.2.1 C.1.2.2.2.2 hin C.1.2.2.2.1 C.2.1 h2 k0 (zg_o hs) hc j hk (C.1.2.2.2.2 _ hl) (fun _ h => h) (by rw [List.getElem?_mapIdx, hf]; rfl) hd (k ls H locs h1 h2 h3)
theorem zx_getL (C : zC p s m args meth c cc own nL D cy g) {k0 ci N i d j : Nat} {T : u_T} {Cn : String} {fds : List (Nat × Nat)} (hs : zsh k0 = zo ci fds) (hc : vwCl[ci]? = some (Cn, T, N)) (hin : ∀ w ∈ u_ws Cn T N, w ∈ zUU) (hk : j < N) (hl : Cond.fieldLink own i (T j).1 (T j).2.1 (T j).2.2.1 ∈ zUU) (hf : fds[j]? = some (2, d)) (hd : decode cc pc = .ok (.getfield i, 3)) (k : zX p l e R s m args below meth c nc ns Q nL D cy g (pc + 3) lv (.long (σ.2 k0 j) :: st) σ) : zX p l e R s m args below meth c nc ns Q nL D cy g pc lv (.ref (g k0) :: st) σ := fun ls H locs h1 h2 h3 => va_get C.1.1 C.1.2.1 C.1.2.2.2.2 hin C.1.2.2.2.1 C.2.1 h2 k0 (zg_o hs) hc j hk (C.1.2.2.2.2 _ hl) (fun _ h => h) (by rw [List.getElem?_mapIdx, hf]; rfl) hd (k ls H locs h1 h2 h3)
theorem zx_putI (C : zC p s m args meth c cc own nL D cy g) {k0 ci N i d j : Nat} {T : u_T} {Cn : String} {fds : List (Nat × Nat)} (ty0 : Nat → FieldType) (hty : ∀ k, k < N → parseFieldDescriptor (T k).2.2.1 = some (ty0 k)) (hnm : ∀ a, a < N → ∀ b, b < N → a ≠ b → (T a).2.1 ≠ (T b).2.1) (hs : zsh k0 = zo ci fds) (hc : vwCl[ci]? = some (Cn, T, N)) (hin : ∀ w ∈ u_ws Cn T N, w ∈ zUU) (hk : j < N) (hl : Cond.fieldLink own i (T j).1 (T j).2.1 (T j).2.2.1 ∈ zUU) (hf : fds[j]? = some (1, d)) (hfin : (T j).2.2.2 = false) (hpd : parseFieldDescriptor (T j).2.2.1 = some .int) (hd : decode cc pc = .ok (.putfield i, 3)) {v : Int32} (k : zX p l e R s m args below meth c nc ns Q nL D cy g (pc + 3) lv st (zI σ k0 j v)) : zX p l e R s m args below meth c nc ns Q nL D cy g pc lv (.int v :: .ref (g k0) :: st) σ := by
  intro ls H locs h1 h2 h3
  refine va_put (ty := .int) C.1.1 C.1.2.1 C.1.2.2.2.2 hin ty0 hty hnm C.1.2.2.2.1 C.2.1 h2 (zW_Ds C.2.2.1 _ σ) h3 k0 (zg_o hs) hc j hk (C.1.2.2.2.2 _ hl) (fun _ h => h) hfin hpd rfl rfl (by rw [List.length_mapIdx]; exact (List.getElem?_eq_some_iff.mp hf).1) hd (fun H1 locs1 q1 _ q3 => k ls H1 locs1 h1 ?_ q3)
  rw [zV_set hf, zW_set (σ := σ) (σ' := zI σ k0 j v) (by rw [hs, zE_o]; show _ = Sum.inr (ci, fds.mapIdx (zV g k0 (va_up σ.1 k0 (upd (σ.1 k0) j v) k0) (σ.2 k0))); rw [zup_s]) (fun a ha => zup_n _ _ _ ha) (fun a _ => rfl)] at q1
  exact q1
theorem zx_putL (C : zC p s m args meth c cc own nL D cy g) {k0 ci N i d j : Nat} {T : u_T} {Cn : String} {fds : List (Nat × Nat)} (ty0 : Nat → FieldType) (hty : ∀ k, k < N → parseFieldDescriptor (T k).2.2.1 = some (ty0 k)) (hnm : ∀ a, a < N → ∀ b, b < N → a ≠ b → (T a).2.1 ≠ (T b).2.1) (hs : zsh k0 = zo ci fds) (hc : vwCl[ci]? = some (Cn, T, N)) (hin : ∀ w ∈ u_ws Cn T N, w ∈ zUU) (hk : j < N) (hl : Cond.fieldLink own i (T j).1 (T j).2.1 (T j).2.2.1 ∈ zUU) (hf : fds[j]? = some (2, d)) (hfin : (T j).2.2.2 = false) (hpd : parseFieldDescriptor (T j).2.2.1 = some .long) (hd : decode cc pc = .ok (.putfield i, 3)) {v : Int64} (k : zX p l e R s m args below meth c nc ns Q nL D cy g (pc + 3) lv st (zJ σ k0 j v)) : zX p l e R s m args below meth c nc ns Q nL D cy g pc lv (.long v :: .ref (g k0) :: st) σ := by
  intro ls H locs h1 h2 h3
  refine va_put (ty := .long) C.1.1 C.1.2.1 C.1.2.2.2.2 hin ty0 hty hnm C.1.2.2.2.1 C.2.1 h2 (zW_Ds C.2.2.1 _ σ) h3 k0 (zg_o hs) hc j hk (C.1.2.2.2.2 _ hl) (fun _ h => h) hfin hpd rfl rfl (by rw [List.length_mapIdx]; exact (List.getElem?_eq_some_iff.mp hf).1) hd (fun H1 locs1 q1 _ q3 => k ls H1 locs1 h1 ?_ q3)
  rw [zV_setL hf, zW_set (σ := σ) (σ' := zJ σ k0 j v) (by rw [hs, zE_o]; show _ = Sum.inr (ci, fds.mapIdx (zV g k0 (σ.1 k0) (va_up σ.2 k0 (vp_updL (σ.2 k0) j v) k0))); rw [zup_s]) (fun a _ => rfl) (fun a ha => zup_n _ _ _ ha)] at q1
  exact q1
theorem zx_iald (C : zC p s m args meth c cc own nL D cy g) {k0 n : Nat} {i : Int32} (hs : zsh k0 = za 0 n) (hi : vp_in i n) (hd : decode cc pc = .ok (.iaload, 1)) (k : zX p l e R s m args below meth c nc ns Q nL D cy g (pc + 1) lv (.int (σ.1 k0 i.toNatClampNeg) :: st) σ) : zX p l e R s m args below meth c nc ns Q nL D cy g pc lv (.int i :: .ref (g k0) :: st) σ := fun ls H locs h1 h2 h3 => va_iald C.1.1 C.1.2.1 C.2.1 h2 k0 0 (zg_a hs) rfl hi hd (k ls H locs h1 h2 h3)
theorem zx_bald (C : zC p s m args meth c cc own nL D cy g) {k0 n : Nat} {i : Int32} (hs : zsh k0 = za 1 n) (hi : vp_in i n) (hd : decode cc pc = .ok (.baload, 1)) (k : zX p l e R s m args below meth c nc ns Q nL D cy g (pc + 1) lv (.int (σ.1 k0 i.toNatClampNeg) :: st) σ) : zX p l e R s m args below meth c nc ns Q nL D cy g pc lv (.int i :: .ref (g k0) :: st) σ := fun ls H locs h1 h2 h3 => va_bald C.1.1 C.1.2.1 C.2.1 h2 k0 1 (zg_a hs) rfl hi hd (k ls H locs h1 h2 h3)
theorem zx_zald (C : zC p s m args meth c cc own nL D cy g) {k0 n : Nat} {i : Int32} (hs : zsh k0 = za 2 n) (hi : vp_in i n) (hd : decode cc pc = .ok (.baload, 1)) (k : zX p l e R s m args below meth c nc ns Q nL D cy g (pc + 1) lv (.int (σ.1 k0 i.toNatClampNeg) :: st) σ) : zX p l e R s m args below meth c nc ns Q nL D cy g pc lv (.int i :: .ref (g k0) :: st) σ := fun ls H locs h1 h2 h3 => va_zald C.1.1 C.1.2.1 C.2.1 h2 k0 2 (zg_a hs) rfl hi hd (k ls H locs h1 h2 h3)
theorem zx_lald (C : zC p s m args meth c cc own nL D cy g) {k0 n : Nat} {i : Int32} (hs : zsh k0 = zl n) (hi : vp_in i n) (hd : decode cc pc = .ok (.laload, 1)) (k : zX p l e R s m args below meth c nc ns Q nL D cy g (pc + 1) lv (.long (σ.2 k0 i.toNatClampNeg) :: st) σ) : zX p l e R s m args below meth c nc ns Q nL D cy g pc lv (.int i :: .ref (g k0) :: st) σ := fun ls H locs h1 h2 h3 => va_lald C.1.1 C.1.2.1 C.2.1 h2 k0 3 (zg_l hs) rfl hi hd (k ls H locs h1 h2 h3)
theorem zx_aald (C : zC p s m args meth c cc own nL D cy g) {k0 n a : Nat} {Cn : String} {fds : List (Nat × Nat)} {i : Int32} (hs : zsh k0 = zr a n fds) (ht : (zty cy)[a]? = some (cy a, .object Cn)) (hi : vp_in i n) (hf : fds.length = n) (hd : decode cc pc = .ok (.aaload, 1)) (k : zX p l e R s m args below meth c nc ns Q nL D cy g (pc + 1) lv (.ref (g (k0 + zel fds i)) :: st) σ) : zX p l e R s m args below meth c nc ns Q nL D cy g pc lv (.int i :: .ref (g k0) :: st) σ := fun ls H locs h1 h2 h3 => va_aldq C.1.1 C.1.2.1 C.2.1 h2 k0 a (zg_r hs) ht hi hd (by
  have hlt : i.toNatClampNeg < fds.length := by rw [hf]; exact Nat.not_le.mp fun q => hi (Or.inr q)
  have : (fds[i.toNatClampNeg]?).map (fun fd => g (k0 + fd.2)) = some (g (k0 + zel fds i)) := by
    unfold zel
    rw [List.getD_eq_getElem?_getD, List.getElem?_eq_getElem hlt]
    rfl
  rw [this]
  exact k ls H locs h1 h2 h3)
theorem zx_iast (C : zC p s m args meth c cc own nL D cy g) {k0 n : Nat} {i v : Int32} (hs : zsh k0 = za 0 n) (hi : vp_in i n) (hd : decode cc pc = .ok (.iastore, 1)) (k : zX p l e R s m args below meth c nc ns Q nL D cy g (pc + 1) lv st (zI σ k0 i.toNatClampNeg v)) : zX p l e R s m args below meth c nc ns Q nL D cy g pc lv (.int v :: .int i :: .ref (g k0) :: st) σ := by
  intro ls H locs h1 h2 h3
  refine va_iast C.1.1 C.1.2.1 C.2.1 h2 (zW_Ds C.2.2.1 _ σ) h3 k0 0 (zg_a hs) rfl hi hd (fun H1 locs1 q1 _ q3 => k ls H1 locs1 h1 ?_ q3)
  rw [zW_set (σ := σ) (σ' := zI σ k0 i.toNatClampNeg v) (by rw [hs, zE_a]; show _ = Sum.inl (cy 0, n, Sum.inl (va_up σ.1 k0 (upd (σ.1 k0) i.toNatClampNeg v) k0)); rw [zup_s]) (fun a ha => zup_n _ _ _ ha) (fun a _ => rfl)] at q1
  exact q1
theorem zx_bast (C : zC p s m args meth c cc own nL D cy g) {k0 n : Nat} {i v : Int32} (hs : zsh k0 = za 1 n) (hi : vp_in i n) (hd : decode cc pc = .ok (.bastore, 1)) (k : zX p l e R s m args below meth c nc ns Q nL D cy g (pc + 1) lv st (zI σ k0 i.toNatClampNeg (vp_nar .byte v))) : zX p l e R s m args below meth c nc ns Q nL D cy g pc lv (.int v :: .int i :: .ref (g k0) :: st) σ := by
  intro ls H locs h1 h2 h3
  refine va_bast C.1.1 C.1.2.1 C.2.1 h2 (zW_Ds C.2.2.1 _ σ) h3 k0 1 (zg_a hs) rfl hi hd (fun H1 locs1 q1 _ q3 => k ls H1 locs1 h1 ?_ q3)
  rw [zW_set (σ := σ) (σ' := zI σ k0 i.toNatClampNeg (vp_nar .byte v)) (by rw [hs, zE_a]; show _ = Sum.inl (cy 1, n, Sum.inl (va_up σ.1 k0 (upd (σ.1 k0) i.toNatClampNeg (vp_nar .byte v)) k0)); rw [zup_s]) (fun a ha => zup_n _ _ _ ha) (fun a _ => rfl)] at q1
  exact q1
theorem zx_zast (C : zC p s m args meth c cc own nL D cy g) {k0 n : Nat} {i v : Int32} (hs : zsh k0 = za 2 n) (hi : vp_in i n) (hd : decode cc pc = .ok (.bastore, 1)) (k : zX p l e R s m args below meth c nc ns Q nL D cy g (pc + 1) lv st (zI σ k0 i.toNatClampNeg (vp_nar .boolean v))) : zX p l e R s m args below meth c nc ns Q nL D cy g pc lv (.int v :: .int i :: .ref (g k0) :: st) σ := by
  intro ls H locs h1 h2 h3
  refine va_zast C.1.1 C.1.2.1 C.2.1 h2 (zW_Ds C.2.2.1 _ σ) h3 k0 2 (zg_a hs) rfl hi hd (fun H1 locs1 q1 _ q3 => k ls H1 locs1 h1 ?_ q3)
  rw [zW_set (σ := σ) (σ' := zI σ k0 i.toNatClampNeg (vp_nar .boolean v)) (by rw [hs, zE_a]; show _ = Sum.inl (cy 2, n, Sum.inl (va_up σ.1 k0 (upd (σ.1 k0) i.toNatClampNeg (vp_nar .boolean v)) k0)); rw [zup_s]) (fun a ha => zup_n _ _ _ ha) (fun a _ => rfl)] at q1
  exact q1
theorem zx_last (C : zC p s m args meth c cc own nL D cy g) {k0 n : Nat} {i : Int32} {v : Int64} (hs : zsh k0 = zl n) (hi : vp_in i n) (hd : decode cc pc = .ok (.lastore, 1)) (k : zX p l e R s m args below meth c nc ns Q nL D cy g (pc + 1) lv st (zJ σ k0 i.toNatClampNeg v)) : zX p l e R s m args below meth c nc ns Q nL D cy g pc lv (.long v :: .int i :: .ref (g k0) :: st) σ := by
  intro ls H locs h1 h2 h3
  refine va_last C.1.1 C.1.2.1 C.2.1 h2 (zW_Ds C.2.2.1 _ σ) h3 k0 3 (zg_l hs) rfl hi hd (fun H1 locs1 q1 _ q3 => k ls H1 locs1 h1 ?_ q3)
  rw [zW_set (σ := σ) (σ' := zJ σ k0 i.toNatClampNeg v) (by rw [hs, zE_l]; show _ = Sum.inl (cy 3, n, Sum.inr (Sum.inl (va_up σ.2 k0 (vp_updL (σ.2 k0) i.toNatClampNeg v) k0))); rw [zup_s]) (fun a _ => rfl) (fun a ha => zup_n _ _ _ ha)] at q1
  exact q1
theorem zx_alen (C : zC p s m args meth c cc own nL D cy g) {k0 a n : Nat} {ty : FieldType} (hs : zsh k0 = za a n) (ht : (zty cy)[a]? = some (cy a, ty)) {v : Int32} (hv : Int32.ofNat n = v) (hd : decode cc pc = .ok (.arraylength, 1)) (k : zX p l e R s m args below meth c nc ns Q nL D cy g (pc + 1) lv (.int v :: st) σ) : zX p l e R s m args below meth c nc ns Q nL D cy g pc lv (.ref (g k0) :: st) σ := fun ls H locs h1 h2 h3 => va_alen C.1.1 C.1.2.1 C.2.1 h2 k0 a (zg_a hs) ht hv hd (k ls H locs h1 h2 h3)
theorem zx_copy (C : zC p s m args meth c cc own nL D cy g) {k0 k1 a n0 n1 i : Nat} {ty : FieldType} (hs0 : zsh k0 = za a n0) (hs1 : zsh k1 = za a n1) (ht : (zty cy)[a]? = some (cy a, ty)) (hprim : refKind ty = false) (hl : Cond.methodLink own i arraycopyName ∈ zUU) (hn : Cond.native arraycopyName ∈ zUU) (hst : Cond.static arraycopyName ∈ zUU) (hi : Cond.initialized "java/lang/System" ∈ zUU)
    {sp dp n : Int32} (h1 : ¬ sp < 0) (h2 : ¬ dp < 0) (h3 : ¬ n < 0) (h4 : sp.toNatClampNeg + n.toNatClampNeg ≤ n0) (h5 : dp.toNatClampNeg + n.toNatClampNeg ≤ n1) (hfit : ∀ i, i < n.toNatClampNeg → fits ty (.int (σ.1 k0 (sp.toNatClampNeg + i))) = true)
    (hfr : 1 ≤ R.frames) (hlo : (st.map fun v => v.category).sum + (nativeFrameWords "java/lang/System" "arraycopy" 5 + 11) ≤ R.locals) (hd : decode cc pc = .ok (.invokestatic i, 3)) (k : zX p l e R s m args below meth c nc ns Q nL D cy g (pc + 3) lv st (zR σ k1 (va_cpy (σ.1 k0) (σ.1 k1) sp.toNatClampNeg dp.toNatClampNeg n.toNatClampNeg))) : zX p l e R s m args below meth c nc ns Q nL D cy g pc lv (.int n :: .int dp :: .ref (g k1) :: .int sp :: .ref (g k0) :: st) σ := by
  intro ls H locs q1 q2 q3
  have hT := C.1.2.2.2.2
  refine va_copyi C.1.1 C.1.2.1 (by rw [C.1.2.2.1]; exact q1.1.symm) C.1.2.2.2.1 (hT _ hl) (hT _ hn) (hT _ hst) (hT _ hi) C.2.1 q2 (zW_Ds C.2.2.1 _ σ) q3 k0 k1 a a (zg_a hs0) (zg_a hs1) ht ht hprim h1 h2 h3 h4 h5 hfit hfr hlo hd (fun H1 locs1 r1 _ r3 => k ls H1 locs1 q1 ?_ r3)
  rw [zW_set (σ := σ) (σ' := zR σ k1 (va_cpy (σ.1 k0) (σ.1 k1) sp.toNatClampNeg dp.toNatClampNeg n.toNatClampNeg)) (by rw [hs1, zE_a]; show _ = Sum.inl (cy a, n1, Sum.inl (va_up σ.1 k1 (va_cpy (σ.1 k0) (σ.1 k1) sp.toNatClampNeg dp.toNatClampNeg n.toNatClampNeg) k1)); rw [zup_s]) (fun a ha => zup_n _ _ _ ha) (fun a _ => rfl)] at r1
  exact r1
theorem zx_max (C : zC p s m args meth c cc own nL D cy g) {i : Nat} {x y : Int32} (hl : Cond.methodLink own i Lib.Math.max.name ∈ zUU) (hst : Cond.static Lib.Math.max.name ∈ zUU) (hi : Cond.initialized "java/lang/Math" ∈ zUU) (hc : Cond.code Lib.Math.max.name Lib.Math.max.code 2 (some .int) ∈ zUU) (hfr : 1 ≤ R.frames) (hlo : (st.map fun v => v.category).sum + 13 ≤ R.locals) (hf : nc ≤ R.cells ∧ ns ≤ R.slots) (hd : decode cc pc = .ok (.invokestatic i, 3)) (k : zX p l e R s m args below meth c nc ns Q nL D cy g (pc + 3) lv (.int (if x < y then y else x) :: st) σ) : zX p l e R s m args below meth c nc ns Q nL D cy g pc lv (.int y :: .int x :: st) σ := fun ls H locs h1 h2 h3 => va_mmax C.1.1 C.1.2.1 (by rw [C.1.2.2.1]; exact h1.1.symm) C.1.2.2.2.1 (C.1.2.2.2.2 _ hl) (C.1.2.2.2.2 _ hst) (C.1.2.2.2.2 _ hi) (C.1.2.2.2.2 _ hc) hfr hlo hf.1 hf.2 hd (k ls H locs h1 h2 h3)
theorem zx_min (C : zC p s m args meth c cc own nL D cy g) {i : Nat} {x y : Int32} (hl : Cond.methodLink own i Lib.Math.min.name ∈ zUU) (hst : Cond.static Lib.Math.min.name ∈ zUU) (hi : Cond.initialized "java/lang/Math" ∈ zUU) (hc : Cond.code Lib.Math.min.name Lib.Math.min.code 2 (some .int) ∈ zUU) (hfr : 1 ≤ R.frames) (hlo : (st.map fun v => v.category).sum + 13 ≤ R.locals) (hf : nc ≤ R.cells ∧ ns ≤ R.slots) (hd : decode cc pc = .ok (.invokestatic i, 3)) (k : zX p l e R s m args below meth c nc ns Q nL D cy g (pc + 3) lv (.int (if y < x then y else x) :: st) σ) : zX p l e R s m args below meth c nc ns Q nL D cy g pc lv (.int y :: .int x :: st) σ := fun ls H locs h1 h2 h3 => va_mmin C.1.1 C.1.2.1 (by rw [C.1.2.2.1]; exact h1.1.symm) C.1.2.2.2.1 (C.1.2.2.2.2 _ hl) (C.1.2.2.2.2 _ hst) (C.1.2.2.2.2 _ hi) (C.1.2.2.2.2 _ hc) hfr hlo hf.1 hf.2 hd (k ls H locs h1 h2 h3)
theorem zx_iret (C : zC p s m args meth c cc own nL D cy g) {P : Int32 → zSto → Prop} {v : Int32} (hr : meth.sig.returnType = some .int) (hd : decode cc pc = .ok (.ireturn, 1)) (hP : P v σ) : zX p l e R s m args below meth c 0 0 (MQ below (va_Qi P (fun (σ' : zSto) (t : State) => va_P D vwCl (zW cy g σ') t.heap) (zA g s.heap.size)) args s 0 0 (zA g s.heap.size)) nL D cy g pc lv [.int v] σ := fun ls H locs h1 h2 h3 => W.iret C.1.1 C.1.2.1 hr (fun t ht hW => ⟨⟨v, σ, rfl, hP, by show va_P _ _ _ t.heap; rw [ht]; exact h2⟩, h3.F ht⟩) h3.2.2 hd C.2.2.2.2
theorem zx_zret (C : zC p s m args meth c cc own nL D cy g) {P : Int32 → zSto → Prop} {v : Int32} (hr : meth.sig.returnType = some .boolean) (hd : decode cc pc = .ok (.ireturn, 1)) (hv : v = 0 ∨ v = 1) (hP : P v σ) : zX p l e R s m args below meth c 0 0 (MQ below (va_Qi (fun r u => (r = 0 ∨ r = 1) ∧ P r u) (fun (σ' : zSto) (t : State) => va_P D vwCl (zW cy g σ') t.heap) (zA g s.heap.size)) args s 0 0 (zA g s.heap.size)) nL D cy g pc lv [.int v] σ := fun ls H locs h1 h2 h3 => W.zret C.1.1 C.1.2.1 hr (by rcases hv with h | h <;> subst h <;> rfl) (fun t ht hW => ⟨⟨v, σ, rfl, ⟨hv, hP⟩, by show va_P _ _ _ t.heap; rw [ht]; exact h2⟩, h3.F ht⟩) h3.2.2 hd C.2.2.2.2
theorem zx_lret (C : zC p s m args meth c cc own nL D cy g) {P : Int64 → zSto → Prop} {v : Int64} (hr : meth.sig.returnType = some .long) (hd : decode cc pc = .ok (.lreturn, 1)) (hP : P v σ) : zX p l e R s m args below meth c 0 0 (MQ below (va_Ql P (fun (σ' : zSto) (t : State) => va_P D vwCl (zW cy g σ') t.heap) (zA g s.heap.size)) args s 0 0 (zA g s.heap.size)) nL D cy g pc lv [.long v] σ := fun ls H locs h1 h2 h3 => W.lret C.1.1 C.1.2.1 hr (fun t ht hW => ⟨⟨v, σ, rfl, hP, by show va_P _ _ _ t.heap; rw [ht]; exact h2⟩, h3.F ht⟩) h3.2.2 hd C.2.2.2.2
theorem zx_vret (C : zC p s m args meth c cc own nL D cy g) {P : zSto → Prop} (hr : meth.sig.returnType = none) (hd : decode cc pc = .ok (.return_, 1)) (hP : P σ) : zX p l e R s m args below meth c 0 0 (MQ below (va_Qv P (fun (σ' : zSto) (t : State) => va_P D vwCl (zW cy g σ') t.heap) (zA g s.heap.size)) args s 0 0 (zA g s.heap.size)) nL D cy g pc lv [] σ := fun ls H locs h1 h2 h3 => W.vret C.1.1 C.1.2.1 hr (fun t ht hW => ⟨⟨σ, rfl, hP, by show va_P _ _ _ t.heap; rw [ht]; exact h2⟩, h3.F ht⟩) h3.2.2 hd C.2.2.2.2
theorem zx_aret (C : zC p s m args meth c cc own nL D cy g) {P : Option Nat → zSto → Prop} {k0 : Nat} {Cn : String} (hr : meth.sig.returnType = some (.object Cn)) (hd : decode cc pc = .ok (.areturn, 1)) (hP : P (some k0) σ) : zX p l e R s m args below meth c 0 0 (MQ below (va_Qq (fun r u => ∃ i : Option Nat, r = i.map g ∧ P i u) (fun (σ' : zSto) (t : State) => va_P D vwCl (zW cy g σ') t.heap) (zA g s.heap.size)) args s 0 0 (zA g s.heap.size)) nL D cy g pc lv [.ref (g k0)] σ := fun ls H locs h1 h2 h3 => W.aret C.1.1 C.1.2.1 hr (Or.inl ⟨_, rfl⟩) (Or.inr ⟨_, rfl⟩) (fun t ht hW => ⟨⟨some (g k0), σ, rfl, ⟨some k0, rfl, hP⟩, by show va_P _ _ _ t.heap; rw [ht]; exact h2⟩, h3.F ht⟩) h3.2.2 hd C.2.2.2.2
theorem zx_aretN (C : zC p s m args meth c cc own nL D cy g) {P : Option Nat → zSto → Prop} {Cn : String} (hr : meth.sig.returnType = some (.object Cn)) (hd : decode cc pc = .ok (.areturn, 1)) (hP : P none σ) : zX p l e R s m args below meth c 0 0 (MQ below (va_Qq (fun r u => ∃ i : Option Nat, r = i.map g ∧ P i u) (fun (σ' : zSto) (t : State) => va_P D vwCl (zW cy g σ') t.heap) (zA g s.heap.size)) args s 0 0 (zA g s.heap.size)) nL D cy g pc lv [.null] σ := fun ls H locs h1 h2 h3 => W.aret C.1.1 C.1.2.1 hr (Or.inl ⟨_, rfl⟩) (Or.inl rfl) (fun t ht hW => ⟨⟨none, σ, rfl, ⟨none, rfl, hP⟩, by show va_P _ _ _ t.heap; rw [ht]; exact h2⟩, h3.F ht⟩) h3.2.2 hd C.2.2.2.2
theorem zx_cVi (C : zC p s m args meth c cc own nL D cy g) {y : MethodName} {bytes : ByteArray} {maxL i n : Nat} {ret : Option FieldType} {rm : Room} {P : Int32 → zSto → Prop} (As : List Value) {k0 ci N : Nat} {T : u_T} {Cn : String} {fds : List (Nat × Nat)} {st0 : List Value} (hL : zLV own i Cn y bytes maxL ret n) (hM : zMi l y bytes maxL ret rm D cy g (.ref (g k0) :: As) σ P) (hs : zsh k0 = zo ci fds) (hc : vwCl[ci]? = some (Cn, T, N)) (hR : rm.frames + 1 ≤ R.frames ∧ 8 + (maxL + 11) + rm.locals ≤ R.locals) (hc0 : rm.cells = 0 ∧ rm.slots = 0) (hf : nc ≤ R.cells ∧ ns ≤ R.slots) (hn : As.length = n) (h0 : st0 = As.reverse ++ .ref (g k0) :: st) (hw8 : (st.map fun v => v.category).sum ≤ 8) (hd : decode cc pc = .ok (.invokevirtual i, 3)) (k : ∀ (r : Int32) (σ' : zSto), P r σ' → zX p l e R s m args below meth c nc ns Q nL D cy g (pc + 3) lv (.int r :: st) σ') : zX p l e R s m args below meth c nc ns Q nL D cy g pc lv st0 σ := by
  intro ls H locs h1 h2 h3
  subst h0
  exact va_calli (va_runV (As := As) (rest := st) C.1 (hM H.size) (cwV n C.1.2.2.2.2 hL.1 rfl hc0.1 hc0.2 hL.2 hR) ⟨zPre_blind, va_recv C.2.1 h2 hc (zg_o hs), fun U hU hW => ⟨rfl, by rw [hU], by rw [hU]; exact h2, va_K.moved hW.alike C.2.1, C.2.2.1, C.2.2.2.1.warm hW⟩⟩ rfl hn h1.1 rfl (lv_room hw8) hd hf) h3 (fun q _ h => zA_mono h3.1 h) (fun q h => zA_mono h3.1 h) (fun r u t H1 locs1 ht _ hw hB _ _ hS => k r u hw ls H1 locs1 h1 (by rw [← ht]; exact hB) hS)
theorem zx_cSi (C : zC p s m args meth c cc own nL D cy g) {y : MethodName} {bytes : ByteArray} {maxL i n : Nat} {ret : Option FieldType} {rm : Room} {P : Int32 → zSto → Prop} (As : List Value) {st0 : List Value} (hL : zLS own i y bytes maxL ret n) (hM : zMi l y bytes maxL ret rm D cy g As σ P) (hR : rm.frames + 1 ≤ R.frames ∧ 8 + (maxL + 11) + rm.locals ≤ R.locals) (hc0 : rm.cells = 0 ∧ rm.slots = 0) (hf : nc ≤ R.cells ∧ ns ≤ R.slots) (hn : As.length = n) (h0 : st0 = As.reverse ++ st) (hw8 : (st.map fun v => v.category).sum ≤ 8) (hd : decode cc pc = .ok (.invokestatic i, 3)) (k : ∀ (r : Int32) (σ' : zSto), P r σ' → zX p l e R s m args below meth c nc ns Q nL D cy g (pc + 3) lv (.int r :: st) σ') : zX p l e R s m args below meth c nc ns Q nL D cy g pc lv st0 σ := by
  intro ls H locs h1 h2 h3
  subst h0
  exact va_calli (va_runS (As := As) (rest := st) C.1 (hM H.size) (va_cwS n C.1.2.2.2.2 hL.1 rfl hc0.1 hc0.2 hL.2 hR) ⟨zPre_blind, fun U hU hW => ⟨rfl, by rw [hU], by rw [hU]; exact h2, va_K.moved hW.alike C.2.1, C.2.2.1, C.2.2.2.1.warm hW⟩⟩ rfl hn h1.1 rfl (lv_room hw8) hd hf) h3 (fun q _ h => zA_mono h3.1 h) (fun q h => zA_mono h3.1 h) (fun r u t H1 locs1 ht _ hw hB _ _ hS => k r u hw ls H1 locs1 h1 (by rw [← ht]; exact hB) hS)
theorem zx_cVb (C : zC p s m args meth c cc own nL D cy g) {y : MethodName} {bytes : ByteArray} {maxL i n : Nat} {ret : Option FieldType} {rm : Room} {P : Int32 → zSto → Prop} (As : List Value) {k0 ci N : Nat} {T : u_T} {Cn : String} {fds : List (Nat × Nat)} {st0 : List Value} (hL : zLV own i Cn y bytes maxL ret n) (hM : zMb l y bytes maxL ret rm D cy g (.ref (g k0) :: As) σ P) (hs : zsh k0 = zo ci fds) (hc : vwCl[ci]? = some (Cn, T, N)) (hR : rm.frames + 1 ≤ R.frames ∧ 8 + (maxL + 11) + rm.locals ≤ R.locals) (hc0 : rm.cells = 0 ∧ rm.slots = 0) (hf : nc ≤ R.cells ∧ ns ≤ R.slots) (hn : As.length = n) (h0 : st0 = As.reverse ++ .ref (g k0) :: st) (hw8 : (st.map fun v => v.category).sum ≤ 8) (hd : decode cc pc = .ok (.invokevirtual i, 3)) (k : ∀ (r : Int32) (σ' : zSto), (r = 0 ∨ r = 1) → P r σ' → zX p l e R s m args below meth c nc ns Q nL D cy g (pc + 3) lv (.int r :: st) σ') : zX p l e R s m args below meth c nc ns Q nL D cy g pc lv st0 σ := by
  intro ls H locs h1 h2 h3
  subst h0
  exact va_calli (va_runV (As := As) (rest := st) C.1 (hM H.size) (cwV n C.1.2.2.2.2 hL.1 rfl hc0.1 hc0.2 hL.2 hR) ⟨zPre_blind, va_recv C.2.1 h2 hc (zg_o hs), fun U hU hW => ⟨rfl, by rw [hU], by rw [hU]; exact h2, va_K.moved hW.alike C.2.1, C.2.2.1, C.2.2.2.1.warm hW⟩⟩ rfl hn h1.1 rfl (lv_room hw8) hd hf) h3 (fun q _ h => zA_mono h3.1 h) (fun q h => zA_mono h3.1 h) (fun r u t H1 locs1 ht _ hw hB _ _ hS => k r u hw.1 hw.2 ls H1 locs1 h1 (by rw [← ht]; exact hB) hS)
theorem zx_cSb (C : zC p s m args meth c cc own nL D cy g) {y : MethodName} {bytes : ByteArray} {maxL i n : Nat} {ret : Option FieldType} {rm : Room} {P : Int32 → zSto → Prop} (As : List Value) {st0 : List Value} (hL : zLS own i y bytes maxL ret n) (hM : zMb l y bytes maxL ret rm D cy g As σ P) (hR : rm.frames + 1 ≤ R.frames ∧ 8 + (maxL + 11) + rm.locals ≤ R.locals) (hc0 : rm.cells = 0 ∧ rm.slots = 0) (hf : nc ≤ R.cells ∧ ns ≤ R.slots) (hn : As.length = n) (h0 : st0 = As.reverse ++ st) (hw8 : (st.map fun v => v.category).sum ≤ 8) (hd : decode cc pc = .ok (.invokestatic i, 3)) (k : ∀ (r : Int32) (σ' : zSto), (r = 0 ∨ r = 1) → P r σ' → zX p l e R s m args below meth c nc ns Q nL D cy g (pc + 3) lv (.int r :: st) σ') : zX p l e R s m args below meth c nc ns Q nL D cy g pc lv st0 σ := by
  intro ls H locs h1 h2 h3
  subst h0
  exact va_calli (va_runS (As := As) (rest := st) C.1 (hM H.size) (va_cwS n C.1.2.2.2.2 hL.1 rfl hc0.1 hc0.2 hL.2 hR) ⟨zPre_blind, fun U hU hW => ⟨rfl, by rw [hU], by rw [hU]; exact h2, va_K.moved hW.alike C.2.1, C.2.2.1, C.2.2.2.1.warm hW⟩⟩ rfl hn h1.1 rfl (lv_room hw8) hd hf) h3 (fun q _ h => zA_mono h3.1 h) (fun q h => zA_mono h3.1 h) (fun r u t H1 locs1 ht _ hw hB _ _ hS => k r u hw.1 hw.2 ls H1 locs1 h1 (by rw [← ht]; exact hB) hS)
theorem zx_cNb (C : zC p s m args meth c cc own nL D cy g) {y : MethodName} {bytes : ByteArray} {maxL i n : Nat} {ret : Option FieldType} {rm : Room} {P : Int32 → zSto → Prop} (As : List Value) {st0 : List Value} {host : String} (hL : GoodIn zUU (zU y bytes maxL ret) ∧ (y.cls ≠ "java/lang/invoke/MethodHandle" ∧ y.cls ≠ "java/lang/invoke/VarHandle" ∧ (parseMethodDescriptor y.desc).map (fun d => d.parameters.length) = some n) ∧ Cond.initialized y.cls ∈ zUU ∧ Cond.static y ∈ zUU) (hNw : va_Nw (.methodLinkNest own i y host) s) (hM : zMb l y bytes maxL ret rm D cy g As σ P) (hR : rm.frames + 1 ≤ R.frames ∧ 8 + (maxL + 11) + rm.locals ≤ R.locals) (hc0 : rm.cells = 0 ∧ rm.slots = 0) (hf : nc ≤ R.cells ∧ ns ≤ R.slots) (hn : As.length = n) (h0 : st0 = As.reverse ++ st) (hw8 : (st.map fun v => v.category).sum ≤ 8) (hd : decode cc pc = .ok (.invokestatic i, 3)) (k : ∀ (r : Int32) (σ' : zSto), (r = 0 ∨ r = 1) → P r σ' → zX p l e R s m args below meth c nc ns Q nL D cy g (pc + 3) lv (.int r :: st) σ') : zX p l e R s m args below meth c nc ns Q nL D cy g pc lv st0 σ := by
  intro ls H locs h1 h2 h3
  subst h0
  exact va_calli (va_runSN (As := As) (rest := st) C.1 (hM H.size) ⟨va_cnB n C.1.2.2.2.2 hL.1 rfl hc0.1 hc0.2 hNw (C.1.2.2.2.2 _ hL.2.2.1) hL.2.1 hR, C.1.2.2.2.2 _ hL.2.2.2, trivial⟩ ⟨zPre_blind, fun U hU hW => ⟨rfl, by rw [hU], by rw [hU]; exact h2, va_K.moved hW.alike C.2.1, C.2.2.1, C.2.2.2.1.warm hW⟩⟩ rfl hn h1.1 rfl (lv_room hw8) hd hf) h3 (fun q _ h => zA_mono h3.1 h) (fun q h => zA_mono h3.1 h) (fun r u t H1 locs1 ht _ hw hB _ _ hS => k r u hw.1 hw.2 ls H1 locs1 h1 (by rw [← ht]; exact hB) hS)
theorem zx_cVl (C : zC p s m args meth c cc own nL D cy g) {y : MethodName} {bytes : ByteArray} {maxL i n : Nat} {ret : Option FieldType} {rm : Room} {P : Int64 → zSto → Prop} (As : List Value) {k0 ci N : Nat} {T : u_T} {Cn : String} {fds : List (Nat × Nat)} {st0 : List Value} (hL : zLV own i Cn y bytes maxL ret n) (hM : zMl l y bytes maxL ret rm D cy g (.ref (g k0) :: As) σ P) (hs : zsh k0 = zo ci fds) (hc : vwCl[ci]? = some (Cn, T, N)) (hR : rm.frames + 1 ≤ R.frames ∧ 8 + (maxL + 11) + rm.locals ≤ R.locals) (hc0 : rm.cells = 0 ∧ rm.slots = 0) (hf : nc ≤ R.cells ∧ ns ≤ R.slots) (hn : As.length = n) (h0 : st0 = As.reverse ++ .ref (g k0) :: st) (hw8 : (st.map fun v => v.category).sum ≤ 8) (hd : decode cc pc = .ok (.invokevirtual i, 3)) (k : ∀ (r : Int64) (σ' : zSto), P r σ' → zX p l e R s m args below meth c nc ns Q nL D cy g (pc + 3) lv (.long r :: st) σ') : zX p l e R s m args below meth c nc ns Q nL D cy g pc lv st0 σ := by
  intro ls H locs h1 h2 h3
  subst h0
  exact va_calll (va_runV (As := As) (rest := st) C.1 (hM H.size) (cwV n C.1.2.2.2.2 hL.1 rfl hc0.1 hc0.2 hL.2 hR) ⟨zPre_blind, va_recv C.2.1 h2 hc (zg_o hs), fun U hU hW => ⟨rfl, by rw [hU], by rw [hU]; exact h2, va_K.moved hW.alike C.2.1, C.2.2.1, C.2.2.2.1.warm hW⟩⟩ rfl hn h1.1 rfl (lv_room hw8) hd hf) h3 (fun q _ h => zA_mono h3.1 h) (fun q h => zA_mono h3.1 h) (fun r u t H1 locs1 ht _ hw hB _ _ hS => k r u hw ls H1 locs1 h1 (by rw [← ht]; exact hB) hS)
theorem zx_cSl (C : zC p s m args meth c cc own nL D cy g) {y : MethodName} {bytes : ByteArray} {maxL i n : Nat} {ret : Option FieldType} {rm : Room} {P : Int64 → zSto → Prop} (As : List Value) {st0 : List Value} (hL : zLS own i y bytes maxL ret n) (hM : zMl l y bytes maxL ret rm D cy g As σ P) (hR : rm.frames + 1 ≤ R.frames ∧ 8 + (maxL + 11) + rm.locals ≤ R.locals) (hc0 : rm.cells = 0 ∧ rm.slots = 0) (hf : nc ≤ R.cells ∧ ns ≤ R.slots) (hn : As.length = n) (h0 : st0 = As.reverse ++ st) (hw8 : (st.map fun v => v.category).sum ≤ 8) (hd : decode cc pc = .ok (.invokestatic i, 3)) (k : ∀ (r : Int64) (σ' : zSto), P r σ' → zX p l e R s m args below meth c nc ns Q nL D cy g (pc + 3) lv (.long r :: st) σ') : zX p l e R s m args below meth c nc ns Q nL D cy g pc lv st0 σ := by
  intro ls H locs h1 h2 h3
  subst h0
  exact va_calll (va_runS (As := As) (rest := st) C.1 (hM H.size) (va_cwS n C.1.2.2.2.2 hL.1 rfl hc0.1 hc0.2 hL.2 hR) ⟨zPre_blind, fun U hU hW => ⟨rfl, by rw [hU], by rw [hU]; exact h2, va_K.moved hW.alike C.2.1, C.2.2.1, C.2.2.2.1.warm hW⟩⟩ rfl hn h1.1 rfl (lv_room hw8) hd hf) h3 (fun q _ h => zA_mono h3.1 h) (fun q h => zA_mono h3.1 h) (fun r u t H1 locs1 ht _ hw hB _ _ hS => k r u hw ls H1 locs1 h1 (by rw [← ht]; exact hB) hS)
theorem zx_cVv (C : zC p s m args meth c cc own nL D cy g) {y : MethodName} {bytes : ByteArray} {maxL i n : Nat} {ret : Option FieldType} {rm : Room} {P : zSto → Prop} (As : List Value) {k0 ci N : Nat} {T : u_T} {Cn : String} {fds : List (Nat × Nat)} {st0 : List Value} (hL : zLV own i Cn y bytes maxL ret n) (hM : zMv l y bytes maxL ret rm D cy g (.ref (g k0) :: As) σ P) (hs : zsh k0 = zo ci fds) (hc : vwCl[ci]? = some (Cn, T, N)) (hR : rm.frames + 1 ≤ R.frames ∧ 8 + (maxL + 11) + rm.locals ≤ R.locals) (hc0 : rm.cells = 0 ∧ rm.slots = 0) (hf : nc ≤ R.cells ∧ ns ≤ R.slots) (hn : As.length = n) (h0 : st0 = As.reverse ++ .ref (g k0) :: st) (hw8 : (st.map fun v => v.category).sum ≤ 8) (hd : decode cc pc = .ok (.invokevirtual i, 3)) (k : ∀ σ' : zSto, P σ' → zX p l e R s m args below meth c nc ns Q nL D cy g (pc + 3) lv st σ') : zX p l e R s m args below meth c nc ns Q nL D cy g pc lv st0 σ := by
  intro ls H locs h1 h2 h3
  subst h0
  exact va_callv (va_runV (As := As) (rest := st) C.1 (hM H.size) (cwV n C.1.2.2.2.2 hL.1 rfl hc0.1 hc0.2 hL.2 hR) ⟨zPre_blind, va_recv C.2.1 h2 hc (zg_o hs), fun U hU hW => ⟨rfl, by rw [hU], by rw [hU]; exact h2, va_K.moved hW.alike C.2.1, C.2.2.1, C.2.2.2.1.warm hW⟩⟩ rfl hn h1.1 rfl (lv_room hw8) hd hf) h3 (fun q _ h => zA_mono h3.1 h) (fun q h => zA_mono h3.1 h) (fun u t H1 locs1 ht _ hw hB _ _ hS => k u hw ls H1 locs1 h1 (by rw [← ht]; exact hB) hS)
theorem zx_cSv (C : zC p s m args meth c cc own nL D cy g) {y : MethodName} {bytes : ByteArray} {maxL i n : Nat} {ret : Option FieldType} {rm : Room} {P : zSto → Prop} (As : List Value) {st0 : List Value} (hL : zLS own i y bytes maxL ret n) (hM : zMv l y bytes maxL ret rm D cy g As σ P) (hR : rm.frames + 1 ≤ R.frames ∧ 8 + (maxL + 11) + rm.locals ≤ R.locals) (hc0 : rm.cells = 0 ∧ rm.slots = 0) (hf : nc ≤ R.cells ∧ ns ≤ R.slots) (hn : As.length = n) (h0 : st0 = As.reverse ++ st) (hw8 : (st.map fun v => v.category).sum ≤ 8) (hd : decode cc pc = .ok (.invokestatic i, 3)) (k : ∀ σ' : zSto, P σ' → zX p l e R s m args below meth c nc ns Q nL D cy g (pc + 3) lv st σ') : zX p l e R s m args below meth c nc ns Q nL D cy g pc lv st0 σ := by
  intro ls H locs h1 h2 h3
  subst h0
  exact va_callv (va_runS (As := As) (rest := st) C.1 (hM H.size) (va_cwS n C.1.2.2.2.2 hL.1 rfl hc0.1 hc0.2 hL.2 hR) ⟨zPre_blind, fun U hU hW => ⟨rfl, by rw [hU], by rw [hU]; exact h2, va_K.moved hW.alike C.2.1, C.2.2.1, C.2.2.2.1.warm hW⟩⟩ rfl hn h1.1 rfl (lv_room hw8) hd hf) h3 (fun q _ h => zA_mono h3.1 h) (fun q h => zA_mono h3.1 h) (fun u t H1 locs1 ht _ hw hB _ _ hS => k u hw ls H1 locs1 h1 (by rw [← ht]; exact hB) hS)
theorem zx_cVq (C : zC p s m args meth c cc own nL D cy g) {y : MethodName} {bytes : ByteArray} {maxL i n : Nat} {ret : Option FieldType} {rm : Room} {P : Option Nat → zSto → Prop} (As : List Value) {k0 ci N : Nat} {T : u_T} {Cn : String} {fds : List (Nat × Nat)} {st0 : List Value} (hL : zLV own i Cn y bytes maxL ret n) (hM : zMq l y bytes maxL ret rm D cy g (.ref (g k0) :: As) σ P) (hs : zsh k0 = zo ci fds) (hc : vwCl[ci]? = some (Cn, T, N)) (hR : rm.frames + 1 ≤ R.frames ∧ 8 + (maxL + 11) + rm.locals ≤ R.locals) (hc0 : rm.cells = 0 ∧ rm.slots = 0) (hf : nc ≤ R.cells ∧ ns ≤ R.slots) (hn : As.length = n) (h0 : st0 = As.reverse ++ .ref (g k0) :: st) (hw8 : (st.map fun v => v.category).sum ≤ 8) (hd : decode cc pc = .ok (.invokevirtual i, 3)) (kn : ∀ σ' : zSto, P none σ' → zX p l e R s m args below meth c nc ns Q nL D cy g (pc + 3) lv (.null :: st) σ') (k : ∀ (i : Nat) (σ' : zSto), P (some i) σ' → zX p l e R s m args below meth c nc ns Q nL D cy g (pc + 3) lv (.ref (g i) :: st) σ') : zX p l e R s m args below meth c nc ns Q nL D cy g pc lv st0 σ := by
  intro ls H locs h1 h2 h3
  subst h0
  exact va_callq (va_runV (As := As) (rest := st) C.1 (hM H.size) (cwV n C.1.2.2.2.2 hL.1 rfl hc0.1 hc0.2 hL.2 hR) ⟨zPre_blind, va_recv C.2.1 h2 hc (zg_o hs), fun U hU hW => ⟨rfl, by rw [hU], by rw [hU]; exact h2, va_K.moved hW.alike C.2.1, C.2.2.1, C.2.2.2.1.warm hW⟩⟩ rfl hn h1.1 rfl (lv_room hw8) hd hf) h3 (fun q _ h => zA_mono h3.1 h) (fun q h => zA_mono h3.1 h) (fun r u t H1 locs1 ht _ hw hB _ _ hS => by
    obtain ⟨i, hi, hw⟩ := hw
    subst hi
    cases i with
    | none => exact kn u hw ls H1 locs1 h1 (by rw [← ht]; exact hB) hS
    | some i => exact k i u hw ls H1 locs1 h1 (by rw [← ht]; exact hB) hS)
theorem zx_cSq (C : zC p s m args meth c cc own nL D cy g) {y : MethodName} {bytes : ByteArray} {maxL i n : Nat} {ret : Option FieldType} {rm : Room} {P : Option Nat → zSto → Prop} (As : List Value) {st0 : List Value} (hL : zLS own i y bytes maxL ret n) (hM : zMq l y bytes maxL ret rm D cy g As σ P) (hR : rm.frames + 1 ≤ R.frames ∧ 8 + (maxL + 11) + rm.locals ≤ R.locals) (hc0 : rm.cells = 0 ∧ rm.slots = 0) (hf : nc ≤ R.cells ∧ ns ≤ R.slots) (hn : As.length = n) (h0 : st0 = As.reverse ++ st) (hw8 : (st.map fun v => v.category).sum ≤ 8) (hd : decode cc pc = .ok (.invokestatic i, 3)) (kn : ∀ σ' : zSto, P none σ' → zX p l e R s m args below meth c nc ns Q nL D cy g (pc + 3) lv (.null :: st) σ') (k : ∀ (i : Nat) (σ' : zSto), P (some i) σ' → zX p l e R s m args below meth c nc ns Q nL D cy g (pc + 3) lv (.ref (g i) :: st) σ') : zX p l e R s m args below meth c nc ns Q nL D cy g pc lv st0 σ := by
  intro ls H locs h1 h2 h3
  subst h0
  exact va_callq (va_runS (As := As) (rest := st) C.1 (hM H.size) (va_cwS n C.1.2.2.2.2 hL.1 rfl hc0.1 hc0.2 hL.2 hR) ⟨zPre_blind, fun U hU hW => ⟨rfl, by rw [hU], by rw [hU]; exact h2, va_K.moved hW.alike C.2.1, C.2.2.1, C.2.2.2.1.warm hW⟩⟩ rfl hn h1.1 rfl (lv_room hw8) hd hf) h3 (fun q _ h => zA_mono h3.1 h) (fun q h => zA_mono h3.1 h) (fun r u t H1 locs1 ht _ hw hB _ _ hS => by
    obtain ⟨i, hi, hw⟩ := hw
    subst hi
    cases i with
    | none => exact kn u hw ls H1 locs1 h1 (by rw [← ht]; exact hB) hS
    | some i => exact k i u hw ls H1 locs1 h1 (by rw [← ht]; exact hB) hS)
end ZR

theorem zm_i {l : Launch} {y : MethodName} {bytes : ByteArray} {maxL : Nat} {ret : Option FieldType} {rm : Room} {D : va_G} {cy : Nat → ClassId} {g : Nat → Nat} {av : List Value} {σ : zSto} {P : Int32 → zSto → Prop} (own : String) (hown : y.cls = own) (hy : plainName y.cls = true) (hlen : (lg_sl av).length ≤ maxL)
    (body : ∀ (p : Program) (e : Env) (s : State) (m : MethodId) (below : List Frame) (meth : Method) (c : Code), zC p s m av.toArray meth c bytes own maxL D cy g → meth.sig.returnType = ret → zX p l e rm s m av.toArray below meth c 0 0 (MQ below (va_Qi P (fun (σ' : zSto) (t : State) => va_P D vwCl (zW cy g σ') t.heap) (zA g s.heap.size)) av.toArray s 0 0 (zA g s.heap.size)) maxL D cy g 0 (lv_args 0 av) [] σ) : zMi l y bytes maxL ret rm D cy g av σ P := by
  intro sz
  refine Met.ofW (cc := bytes) (maxL := maxL) (ret := ret) hy rfl ?_
  intro p e s m args below meth c s₁ B hml hv
  obtain ⟨rfl, rfl, hP, hK, hin, hN⟩ := hv
  have hts := atoms_spec (ws := zU y bytes maxL ret) B.pre
  have C : zC p s m av.toArray meth c bytes own maxL D cy g := ⟨⟨B.exec, B.bytes, hml, hown ▸ findClass_of_methodNamed B.named, fun w hw => hts w (List.mem_cons_of_mem _ hw)⟩, hK, hin, hN, B.notSynchronized⟩
  rw [lg_entry_eq]
  exact body p e s m below meth c C B.returns _ s.heap [] (lv_entry av hlen) hP va_S.rf
theorem zm_b {l : Launch} {y : MethodName} {bytes : ByteArray} {maxL : Nat} {ret : Option FieldType} {rm : Room} {D : va_G} {cy : Nat → ClassId} {g : Nat → Nat} {av : List Value} {σ : zSto} {P : Int32 → zSto → Prop} (own : String) (hown : y.cls = own) (hy : plainName y.cls = true) (hlen : (lg_sl av).length ≤ maxL)
    (body : ∀ (p : Program) (e : Env) (s : State) (m : MethodId) (below : List Frame) (meth : Method) (c : Code), zC p s m av.toArray meth c bytes own maxL D cy g → meth.sig.returnType = ret → zX p l e rm s m av.toArray below meth c 0 0 (MQ below (va_Qi (fun r u => (r = 0 ∨ r = 1) ∧ P r u) (fun (σ' : zSto) (t : State) => va_P D vwCl (zW cy g σ') t.heap) (zA g s.heap.size)) av.toArray s 0 0 (zA g s.heap.size)) maxL D cy g 0 (lv_args 0 av) [] σ) : zMb l y bytes maxL ret rm D cy g av σ P := by
  intro sz
  refine Met.ofW (cc := bytes) (maxL := maxL) (ret := ret) hy rfl ?_
  intro p e s m args below meth c s₁ B hml hv
  obtain ⟨rfl, rfl, hP, hK, hin, hN⟩ := hv
  have hts := atoms_spec (ws := zU y bytes maxL ret) B.pre
  have C : zC p s m av.toArray meth c bytes own maxL D cy g := ⟨⟨B.exec, B.bytes, hml, hown ▸ findClass_of_methodNamed B.named, fun w hw => hts w (List.mem_cons_of_mem _ hw)⟩, hK, hin, hN, B.notSynchronized⟩
  rw [lg_entry_eq]
  exact body p e s m below meth c C B.returns _ s.heap [] (lv_entry av hlen) hP va_S.rf
theorem zm_l {l : Launch} {y : MethodName} {bytes : ByteArray} {maxL : Nat} {ret : Option FieldType} {rm : Room} {D : va_G} {cy : Nat → ClassId} {g : Nat → Nat} {av : List Value} {σ : zSto} {P : Int64 → zSto → Prop} (own : String) (hown : y.cls = own) (hy : plainName y.cls = true) (hlen : (lg_sl av).length ≤ maxL)
    (body : ∀ (p : Program) (e : Env) (s : State) (m : MethodId) (below : List Frame) (meth : Method) (c : Code), zC p s m av.toArray meth c bytes own maxL D cy g → meth.sig.returnType = ret → zX p l e rm s m av.toArray below meth c 0 0 (MQ below (va_Ql P (fun (σ' : zSto) (t : State) => va_P D vwCl (zW cy g σ') t.heap) (zA g s.heap.size)) av.toArray s 0 0 (zA g s.heap.size)) maxL D cy g 0 (lv_args 0 av) [] σ) : zMl l y bytes maxL ret rm D cy g av σ P := by
  intro sz
  refine Met.ofW (cc := bytes) (maxL := maxL) (ret := ret) hy rfl ?_
  intro p e s m args below meth c s₁ B hml hv
  obtain ⟨rfl, rfl, hP, hK, hin, hN⟩ := hv
  have hts := atoms_spec (ws := zU y bytes maxL ret) B.pre
  have C : zC p s m av.toArray meth c bytes own maxL D cy g := ⟨⟨B.exec, B.bytes, hml, hown ▸ findClass_of_methodNamed B.named, fun w hw => hts w (List.mem_cons_of_mem _ hw)⟩, hK, hin, hN, B.notSynchronized⟩
  rw [lg_entry_eq]
  exact body p e s m below meth c C B.returns _ s.heap [] (lv_entry av hlen) hP va_S.rf
theorem zm_v {l : Launch} {y : MethodName} {bytes : ByteArray} {maxL : Nat} {ret : Option FieldType} {rm : Room} {D : va_G} {cy : Nat → ClassId} {g : Nat → Nat} {av : List Value} {σ : zSto} {P : zSto → Prop} (own : String) (hown : y.cls = own) (hy : plainName y.cls = true) (hlen : (lg_sl av).length ≤ maxL)
    (body : ∀ (p : Program) (e : Env) (s : State) (m : MethodId) (below : List Frame) (meth : Method) (c : Code), zC p s m av.toArray meth c bytes own maxL D cy g → meth.sig.returnType = ret → zX p l e rm s m av.toArray below meth c 0 0 (MQ below (va_Qv P (fun (σ' : zSto) (t : State) => va_P D vwCl (zW cy g σ') t.heap) (zA g s.heap.size)) av.toArray s 0 0 (zA g s.heap.size)) maxL D cy g 0 (lv_args 0 av) [] σ) : zMv l y bytes maxL ret rm D cy g av σ P := by
  intro sz
  refine Met.ofW (cc := bytes) (maxL := maxL) (ret := ret) hy rfl ?_
  intro p e s m args below meth c s₁ B hml hv
  obtain ⟨rfl, rfl, hP, hK, hin, hN⟩ := hv
  have hts := atoms_spec (ws := zU y bytes maxL ret) B.pre
  have C : zC p s m av.toArray meth c bytes own maxL D cy g := ⟨⟨B.exec, B.bytes, hml, hown ▸ findClass_of_methodNamed B.named, fun w hw => hts w (List.mem_cons_of_mem _ hw)⟩, hK, hin, hN, B.notSynchronized⟩
  rw [lg_entry_eq]
  exact body p e s m below meth c C B.returns _ s.heap [] (lv_entry av hlen) hP va_S.rf
theorem zm_q {l : Launch} {y : MethodName} {bytes : ByteArray} {maxL : Nat} {ret : Option FieldType} {rm : Room} {D : va_G} {cy : Nat → ClassId} {g : Nat → Nat} {av : List Value} {σ : zSto} {P : Option Nat → zSto → Prop} (own : String) (hown : y.cls = own) (hy : plainName y.cls = true) (hlen : (lg_sl av).length ≤ maxL)
    (body : ∀ (p : Program) (e : Env) (s : State) (m : MethodId) (below : List Frame) (meth : Method) (c : Code), zC p s m av.toArray meth c bytes own maxL D cy g → meth.sig.returnType = ret → zX p l e rm s m av.toArray below meth c 0 0 (MQ below (va_Qq (fun r u => ∃ i : Option Nat, r = i.map g ∧ P i u) (fun (σ' : zSto) (t : State) => va_P D vwCl (zW cy g σ') t.heap) (zA g s.heap.size)) av.toArray s 0 0 (zA g s.heap.size)) maxL D cy g 0 (lv_args 0 av) [] σ) : zMq l y bytes maxL ret rm D cy g av σ P := by
  intro sz
  refine Met.ofW (cc := bytes) (maxL := maxL) (ret := ret) hy rfl ?_
  intro p e s m args below meth c s₁ B hml hv
  obtain ⟨rfl, rfl, hP, hK, hin, hN⟩ := hv
  have hts := atoms_spec (ws := zU y bytes maxL ret) B.pre
  have C : zC p s m av.toArray meth c bytes own maxL D cy g := ⟨⟨B.exec, B.bytes, hml, hown ▸ findClass_of_methodNamed B.named, fun w hw => hts w (List.mem_cons_of_mem _ hw)⟩, hK, hin, hN, B.notSynchronized⟩
  rw [lg_entry_eq]
  exact body p e s m below meth c C B.returns _ s.heap [] (lv_entry av hlen) hP va_S.rf
end
