-- ===== PART A: goes FIRST, ahead of the names: the tables' words, and 'selects' of the private methods out of them =====
/-- a private method of a class that the tables say can be made, by its rows of tables_1 -/
def lw_okq (q : MethodName × Nat) : Prop := (q.1.cls ≠ "java/lang/invoke/MethodHandle" ∧ q.1.cls ≠ "java/lang/invoke/VarHandle") ∧ Cond.instantiable q.1.cls q.2 ∈ tables_1 ∧ Cond.privateMethod q.1 ∈ tables_1 ∧ Cond.instanceMethod q.1 ∈ tables_1
theorem lw_p0 : lw_okq (⟨"LuckyStolen$Text", "lookThrough", "()V"⟩, 4) := ⟨⟨by decide +kernel, by decide +kernel⟩, List.mem_of_getElem? (i := 22) (by decide +kernel), List.mem_of_getElem? (i := 253) (by decide +kernel), List.mem_of_getElem? (i := 254) (by decide +kernel)⟩
theorem lw_p1 : lw_okq (⟨"LuckyStolen$Text", "firstFault", "()I"⟩, 4) := ⟨⟨by decide +kernel, by decide +kernel⟩, List.mem_of_getElem? (i := 22) (by decide +kernel), List.mem_of_getElem? (i := 257) (by decide +kernel), List.mem_of_getElem? (i := 258) (by decide +kernel)⟩
theorem lw_p2 : lw_okq (⟨"LuckyStolen$Text", "fits", "(I)Z"⟩, 4) := ⟨⟨by decide +kernel, by decide +kernel⟩, List.mem_of_getElem? (i := 22) (by decide +kernel), List.mem_of_getElem? (i := 261) (by decide +kernel), List.mem_of_getElem? (i := 262) (by decide +kernel)⟩
theorem lw_p3 : lw_okq (⟨"LuckyStolen", "found", "(I)I"⟩, 8) := ⟨⟨by decide +kernel, by decide +kernel⟩, List.mem_of_getElem? (i := 14) (by decide +kernel), List.mem_of_getElem? (i := 333) (by decide +kernel), List.mem_of_getElem? (i := 334) (by decide +kernel)⟩
theorem lw_p4 : lw_okq (⟨"LuckyStolen$Yard", "tell", "(I)V"⟩, 11) := ⟨⟨by decide +kernel, by decide +kernel⟩, List.mem_of_getElem? (i := 79) (by decide +kernel), List.mem_of_getElem? (i := 372) (by decide +kernel), List.mem_of_getElem? (i := 373) (by decide +kernel)⟩
theorem lw_p5 : lw_okq (⟨"LuckyStolen$Yard", "isLawful", "(I)Z"⟩, 11) := ⟨⟨by decide +kernel, by decide +kernel⟩, List.mem_of_getElem? (i := 79) (by decide +kernel), List.mem_of_getElem? (i := 376) (by decide +kernel), List.mem_of_getElem? (i := 377) (by decide +kernel)⟩
theorem lw_p6 : lw_okq (⟨"LuckyStolen$Books", "comesOut", "(I)Z"⟩, 10) := ⟨⟨by decide +kernel, by decide +kernel⟩, List.mem_of_getElem? (i := 144) (by decide +kernel), List.mem_of_getElem? (i := 476) (by decide +kernel), List.mem_of_getElem? (i := 477) (by decide +kernel)⟩
theorem lw_p7 : lw_okq (⟨"LuckyStolen$Lets", "ceiling", "(II)I"⟩, 2) := ⟨⟨by decide +kernel, by decide +kernel⟩, List.mem_of_getElem? (i := 130) (by decide +kernel), List.mem_of_getElem? (i := 490) (by decide +kernel), List.mem_of_getElem? (i := 491) (by decide +kernel)⟩
theorem lw_p8 : lw_okq (⟨"LuckyStolen$Lets", "isWorthStealing", "(I)Z"⟩, 2) := ⟨⟨by decide +kernel, by decide +kernel⟩, List.mem_of_getElem? (i := 130) (by decide +kernel), List.mem_of_getElem? (i := 494) (by decide +kernel), List.mem_of_getElem? (i := 495) (by decide +kernel)⟩
theorem lw_p9 : lw_okq (⟨"LuckyStolen$Lets", "nightsFrom", "(II)I"⟩, 2) := ⟨⟨by decide +kernel, by decide +kernel⟩, List.mem_of_getElem? (i := 130) (by decide +kernel), List.mem_of_getElem? (i := 504) (by decide +kernel), List.mem_of_getElem? (i := 505) (by decide +kernel)⟩
theorem lw_p10 : lw_okq (⟨"LuckyStolen$Lets", "mostInLast", "(I)I"⟩, 2) := ⟨⟨by decide +kernel, by decide +kernel⟩, List.mem_of_getElem? (i := 130) (by decide +kernel), List.mem_of_getElem? (i := 508) (by decide +kernel), List.mem_of_getElem? (i := 509) (by decide +kernel)⟩
theorem lw_p11 : lw_okq (⟨"LuckyStolen$Lets", "nightsWith", "(IIII)I"⟩, 2) := ⟨⟨by decide +kernel, by decide +kernel⟩, List.mem_of_getElem? (i := 130) (by decide +kernel), List.mem_of_getElem? (i := 514) (by decide +kernel), List.mem_of_getElem? (i := 515) (by decide +kernel)⟩
theorem lw_p12 : lw_okq (⟨"LuckyStolen", "withStone", "(JI)J"⟩, 8) := ⟨⟨by decide +kernel, by decide +kernel⟩, List.mem_of_getElem? (i := 14) (by decide +kernel), List.mem_of_getElem? (i := 634) (by decide +kernel), List.mem_of_getElem? (i := 635) (by decide +kernel)⟩
theorem lw_p13 : lw_okq (⟨"LuckyStolen", "withHouse", "(JI)J"⟩, 8) := ⟨⟨by decide +kernel, by decide +kernel⟩, List.mem_of_getElem? (i := 14) (by decide +kernel), List.mem_of_getElem? (i := 640) (by decide +kernel), List.mem_of_getElem? (i := 641) (by decide +kernel)⟩
theorem lw_p14 : lw_okq (⟨"LuckyStolenModel", "met", "(I)I"⟩, 26) := ⟨⟨by decide +kernel, by decide +kernel⟩, List.mem_of_getElem? (i := 655) (by decide +kernel), List.mem_of_getElem? (i := 752) (by decide +kernel), List.mem_of_getElem? (i := 753) (by decide +kernel)⟩
theorem lw_p15 : lw_okq (⟨"LuckyStolenModel", "lacks", "(III)I"⟩, 26) := ⟨⟨by decide +kernel, by decide +kernel⟩, List.mem_of_getElem? (i := 655) (by decide +kernel), List.mem_of_getElem? (i := 764) (by decide +kernel), List.mem_of_getElem? (i := 765) (by decide +kernel)⟩
def lw_privs_1 : List (MethodName × Nat) := [(⟨"LuckyStolen$Text", "lookThrough", "()V"⟩, 4), (⟨"LuckyStolen$Text", "firstFault", "()I"⟩, 4), (⟨"LuckyStolen$Text", "fits", "(I)Z"⟩, 4), (⟨"LuckyStolen", "found", "(I)I"⟩, 8), (⟨"LuckyStolen$Yard", "tell", "(I)V"⟩, 11), (⟨"LuckyStolen$Yard", "isLawful", "(I)Z"⟩, 11), (⟨"LuckyStolen$Books", "comesOut", "(I)Z"⟩, 10), (⟨"LuckyStolen$Lets", "ceiling", "(II)I"⟩, 2), (⟨"LuckyStolen$Lets", "isWorthStealing", "(I)Z"⟩, 2), (⟨"LuckyStolen$Lets", "nightsFrom", "(II)I"⟩, 2), (⟨"LuckyStolen$Lets", "mostInLast", "(I)I"⟩, 2), (⟨"LuckyStolen$Lets", "nightsWith", "(IIII)I"⟩, 2), (⟨"LuckyStolen", "withStone", "(JI)J"⟩, 8), (⟨"LuckyStolen", "withHouse", "(JI)J"⟩, 8), (⟨"LuckyStolenModel", "met", "(I)I"⟩, 26), (⟨"LuckyStolenModel", "lacks", "(III)I"⟩, 26)]
theorem lw_r1 : ∀ q ∈ lw_privs_1, lw_okq q := List.forall_mem_cons.mpr ⟨lw_p0, List.forall_mem_cons.mpr ⟨lw_p1, List.forall_mem_cons.mpr ⟨lw_p2, List.forall_mem_cons.mpr ⟨lw_p3, List.forall_mem_cons.mpr ⟨lw_p4, List.forall_mem_cons.mpr ⟨lw_p5, List.forall_mem_cons.mpr ⟨lw_p6, List.forall_mem_cons.mpr ⟨lw_p7, List.forall_mem_cons.mpr ⟨lw_p8, List.forall_mem_cons.mpr ⟨lw_p9, List.forall_mem_cons.mpr ⟨lw_p10, List.forall_mem_cons.mpr ⟨lw_p11, List.forall_mem_cons.mpr ⟨lw_p12, List.forall_mem_cons.mpr ⟨lw_p13, List.forall_mem_cons.mpr ⟨lw_p14, List.forall_mem_cons.mpr ⟨lw_p15, fun _ h => absurd h List.not_mem_nil⟩⟩⟩⟩⟩⟩⟩⟩⟩⟩⟩⟩⟩⟩⟩⟩
theorem lw_p16 : lw_okq (⟨"LuckyStolenModel", "reads", "()I"⟩, 26) := ⟨⟨by decide +kernel, by decide +kernel⟩, List.mem_of_getElem? (i := 655) (by decide +kernel), List.mem_of_getElem? (i := 793) (by decide +kernel), List.mem_of_getElem? (i := 794) (by decide +kernel)⟩
theorem lw_p17 : lw_okq (⟨"LuckyStolenModel", "here", "()I"⟩, 26) := ⟨⟨by decide +kernel, by decide +kernel⟩, List.mem_of_getElem? (i := 655) (by decide +kernel), List.mem_of_getElem? (i := 797) (by decide +kernel), List.mem_of_getElem? (i := 798) (by decide +kernel)⟩
theorem lw_p18 : lw_okq (⟨"LuckyStolenModel", "none", "()I"⟩, 26) := ⟨⟨by decide +kernel, by decide +kernel⟩, List.mem_of_getElem? (i := 655) (by decide +kernel), List.mem_of_getElem? (i := 805) (by decide +kernel), List.mem_of_getElem? (i := 806) (by decide +kernel)⟩
theorem lw_p19 : lw_okq (⟨"LuckyStolenModel", "isStone", "(I)Z"⟩, 26) := ⟨⟨by decide +kernel, by decide +kernel⟩, List.mem_of_getElem? (i := 655) (by decide +kernel), List.mem_of_getElem? (i := 813) (by decide +kernel), List.mem_of_getElem? (i := 814) (by decide +kernel)⟩
theorem lw_p20 : lw_okq (⟨"LuckyStolenModel", "stoneOf", "(II)I"⟩, 26) := ⟨⟨by decide +kernel, by decide +kernel⟩, List.mem_of_getElem? (i := 655) (by decide +kernel), List.mem_of_getElem? (i := 820) (by decide +kernel), List.mem_of_getElem? (i := 821) (by decide +kernel)⟩
theorem lw_p21 : lw_okq (⟨"LuckyStolenModel", "isLate", "(I)Z"⟩, 26) := ⟨⟨by decide +kernel, by decide +kernel⟩, List.mem_of_getElem? (i := 655) (by decide +kernel), List.mem_of_getElem? (i := 834) (by decide +kernel), List.mem_of_getElem? (i := 835) (by decide +kernel)⟩
theorem lw_p22 : lw_okq (⟨"LuckyStolenModel", "goes", "(II)V"⟩, 26) := ⟨⟨by decide +kernel, by decide +kernel⟩, List.mem_of_getElem? (i := 655) (by decide +kernel), List.mem_of_getElem? (i := 854) (by decide +kernel), List.mem_of_getElem? (i := 855) (by decide +kernel)⟩
theorem lw_p23 : lw_okq (⟨"LuckyStolenModel", "begins", "()V"⟩, 26) := ⟨⟨by decide +kernel, by decide +kernel⟩, List.mem_of_getElem? (i := 655) (by decide +kernel), List.mem_of_getElem? (i := 858) (by decide +kernel), List.mem_of_getElem? (i := 859) (by decide +kernel)⟩
theorem lw_p24 : lw_okq (⟨"LuckyStolenModel", "isLawful", "(I)Z"⟩, 26) := ⟨⟨by decide +kernel, by decide +kernel⟩, List.mem_of_getElem? (i := 655) (by decide +kernel), List.mem_of_getElem? (i := 862) (by decide +kernel), List.mem_of_getElem? (i := 863) (by decide +kernel)⟩
theorem lw_p25 : lw_okq (⟨"LuckyStolenModel", "does", "(I)V"⟩, 26) := ⟨⟨by decide +kernel, by decide +kernel⟩, List.mem_of_getElem? (i := 655) (by decide +kernel), List.mem_of_getElem? (i := 866) (by decide +kernel), List.mem_of_getElem? (i := 867) (by decide +kernel)⟩
theorem lw_p26 : lw_okq (⟨"LuckyStolenModel", "isTrue", "(I)Z"⟩, 26) := ⟨⟨by decide +kernel, by decide +kernel⟩, List.mem_of_getElem? (i := 655) (by decide +kernel), List.mem_of_getElem? (i := 870) (by decide +kernel), List.mem_of_getElem? (i := 871) (by decide +kernel)⟩
theorem lw_p27 : lw_okq (⟨"LuckyStolenModel", "stateOf", "(III)I"⟩, 26) := ⟨⟨by decide +kernel, by decide +kernel⟩, List.mem_of_getElem? (i := 655) (by decide +kernel), List.mem_of_getElem? (i := 882) (by decide +kernel), List.mem_of_getElem? (i := 883) (by decide +kernel)⟩
theorem lw_p28 : lw_okq (⟨"LuckyStolenModel", "isLucky", "(II)Z"⟩, 26) := ⟨⟨by decide +kernel, by decide +kernel⟩, List.mem_of_getElem? (i := 655) (by decide +kernel), List.mem_of_getElem? (i := 886) (by decide +kernel), List.mem_of_getElem? (i := 887) (by decide +kernel)⟩
theorem lw_p29 : lw_okq (⟨"LuckyStolenModel", "leftAt", "(II)I"⟩, 26) := ⟨⟨by decide +kernel, by decide +kernel⟩, List.mem_of_getElem? (i := 655) (by decide +kernel), List.mem_of_getElem? (i := 890) (by decide +kernel), List.mem_of_getElem? (i := 891) (by decide +kernel)⟩
theorem lw_p30 : lw_okq (⟨"LuckyStolenModel", "luckOf", "(III)I"⟩, 26) := ⟨⟨by decide +kernel, by decide +kernel⟩, List.mem_of_getElem? (i := 655) (by decide +kernel), List.mem_of_getElem? (i := 898) (by decide +kernel), List.mem_of_getElem? (i := 899) (by decide +kernel)⟩
theorem lw_p31 : lw_okq (⟨"LuckyStolenModel", "luckNow", "(II)I"⟩, 26) := ⟨⟨by decide +kernel, by decide +kernel⟩, List.mem_of_getElem? (i := 655) (by decide +kernel), List.mem_of_getElem? (i := 902) (by decide +kernel), List.mem_of_getElem? (i := 903) (by decide +kernel)⟩
def lw_privs_2 : List (MethodName × Nat) := [(⟨"LuckyStolenModel", "reads", "()I"⟩, 26), (⟨"LuckyStolenModel", "here", "()I"⟩, 26), (⟨"LuckyStolenModel", "none", "()I"⟩, 26), (⟨"LuckyStolenModel", "isStone", "(I)Z"⟩, 26), (⟨"LuckyStolenModel", "stoneOf", "(II)I"⟩, 26), (⟨"LuckyStolenModel", "isLate", "(I)Z"⟩, 26), (⟨"LuckyStolenModel", "goes", "(II)V"⟩, 26), (⟨"LuckyStolenModel", "begins", "()V"⟩, 26), (⟨"LuckyStolenModel", "isLawful", "(I)Z"⟩, 26), (⟨"LuckyStolenModel", "does", "(I)V"⟩, 26), (⟨"LuckyStolenModel", "isTrue", "(I)Z"⟩, 26), (⟨"LuckyStolenModel", "stateOf", "(III)I"⟩, 26), (⟨"LuckyStolenModel", "isLucky", "(II)Z"⟩, 26), (⟨"LuckyStolenModel", "leftAt", "(II)I"⟩, 26), (⟨"LuckyStolenModel", "luckOf", "(III)I"⟩, 26), (⟨"LuckyStolenModel", "luckNow", "(II)I"⟩, 26)]
theorem lw_r2 : ∀ q ∈ lw_privs_2, lw_okq q := List.forall_mem_cons.mpr ⟨lw_p16, List.forall_mem_cons.mpr ⟨lw_p17, List.forall_mem_cons.mpr ⟨lw_p18, List.forall_mem_cons.mpr ⟨lw_p19, List.forall_mem_cons.mpr ⟨lw_p20, List.forall_mem_cons.mpr ⟨lw_p21, List.forall_mem_cons.mpr ⟨lw_p22, List.forall_mem_cons.mpr ⟨lw_p23, List.forall_mem_cons.mpr ⟨lw_p24, List.forall_mem_cons.mpr ⟨lw_p25, List.forall_mem_cons.mpr ⟨lw_p26, List.forall_mem_cons.mpr ⟨lw_p27, List.forall_mem_cons.mpr ⟨lw_p28, List.forall_mem_cons.mpr ⟨lw_p29, List.forall_mem_cons.mpr ⟨lw_p30, List.forall_mem_cons.mpr ⟨lw_p31, fun _ h => absurd h List.not_mem_nil⟩⟩⟩⟩⟩⟩⟩⟩⟩⟩⟩⟩⟩⟩⟩⟩
theorem lw_p32 : lw_okq (⟨"LuckyStolenModel", "daysOf", "(IIII)I"⟩, 26) := ⟨⟨by decide +kernel, by decide +kernel⟩, List.mem_of_getElem? (i := 655) (by decide +kernel), List.mem_of_getElem? (i := 911) (by decide +kernel), List.mem_of_getElem? (i := 912) (by decide +kernel)⟩
theorem lw_p33 : lw_okq (⟨"LuckyStolenModel", "ledOf", "(III)I"⟩, 26) := ⟨⟨by decide +kernel, by decide +kernel⟩, List.mem_of_getElem? (i := 655) (by decide +kernel), List.mem_of_getElem? (i := 919) (by decide +kernel), List.mem_of_getElem? (i := 920) (by decide +kernel)⟩
theorem lw_p34 : lw_okq (⟨"LuckyStolenModel", "withoutOf", "(II)I"⟩, 26) := ⟨⟨by decide +kernel, by decide +kernel⟩, List.mem_of_getElem? (i := 655) (by decide +kernel), List.mem_of_getElem? (i := 927) (by decide +kernel), List.mem_of_getElem? (i := 928) (by decide +kernel)⟩
theorem lw_p35 : lw_okq (⟨"LuckyStolenModel", "fittingOf", "(I)I"⟩, 26) := ⟨⟨by decide +kernel, by decide +kernel⟩, List.mem_of_getElem? (i := 655) (by decide +kernel), List.mem_of_getElem? (i := 944) (by decide +kernel), List.mem_of_getElem? (i := 945) (by decide +kernel)⟩
theorem lw_p36 : lw_okq (⟨"LuckyStolenModel", "letsOf", "(III)I"⟩, 26) := ⟨⟨by decide +kernel, by decide +kernel⟩, List.mem_of_getElem? (i := 655) (by decide +kernel), List.mem_of_getElem? (i := 955) (by decide +kernel), List.mem_of_getElem? (i := 956) (by decide +kernel)⟩
theorem lw_p37 : lw_okq (⟨"LuckyStolenModel", "mayPick", "(II)Z"⟩, 26) := ⟨⟨by decide +kernel, by decide +kernel⟩, List.mem_of_getElem? (i := 655) (by decide +kernel), List.mem_of_getElem? (i := 959) (by decide +kernel), List.mem_of_getElem? (i := 960) (by decide +kernel)⟩
theorem lw_p38 : lw_okq (⟨"LuckyStolenModel", "copies", "(I)V"⟩, 26) := ⟨⟨by decide +kernel, by decide +kernel⟩, List.mem_of_getElem? (i := 655) (by decide +kernel), List.mem_of_getElem? (i := 963) (by decide +kernel), List.mem_of_getElem? (i := 964) (by decide +kernel)⟩
theorem lw_p39 : lw_okq (⟨"LuckyStolenModel", "lucky", "(II)I"⟩, 26) := ⟨⟨by decide +kernel, by decide +kernel⟩, List.mem_of_getElem? (i := 655) (by decide +kernel), List.mem_of_getElem? (i := 967) (by decide +kernel), List.mem_of_getElem? (i := 968) (by decide +kernel)⟩
theorem lw_p40 : lw_okq (⟨"LuckyStolenModel", "robsOf", "(III)I"⟩, 26) := ⟨⟨by decide +kernel, by decide +kernel⟩, List.mem_of_getElem? (i := 655) (by decide +kernel), List.mem_of_getElem? (i := 977) (by decide +kernel), List.mem_of_getElem? (i := 978) (by decide +kernel)⟩
theorem lw_p41 : lw_okq (⟨"LuckyStolenModel", "chanceOf", "(III)J"⟩, 26) := ⟨⟨by decide +kernel, by decide +kernel⟩, List.mem_of_getElem? (i := 655) (by decide +kernel), List.mem_of_getElem? (i := 991) (by decide +kernel), List.mem_of_getElem? (i := 992) (by decide +kernel)⟩
theorem lw_p42 : lw_okq (⟨"LuckyStolenModel", "waitsOf", "(II)J"⟩, 26) := ⟨⟨by decide +kernel, by decide +kernel⟩, List.mem_of_getElem? (i := 655) (by decide +kernel), List.mem_of_getElem? (i := 1009) (by decide +kernel), List.mem_of_getElem? (i := 1010) (by decide +kernel)⟩
theorem lw_p43 : lw_okq (⟨"LuckyStolenModel", "thiefOf", "(III)I"⟩, 26) := ⟨⟨by decide +kernel, by decide +kernel⟩, List.mem_of_getElem? (i := 655) (by decide +kernel), List.mem_of_getElem? (i := 1025) (by decide +kernel), List.mem_of_getElem? (i := 1026) (by decide +kernel)⟩
def lw_privs_3 : List (MethodName × Nat) := [(⟨"LuckyStolenModel", "daysOf", "(IIII)I"⟩, 26), (⟨"LuckyStolenModel", "ledOf", "(III)I"⟩, 26), (⟨"LuckyStolenModel", "withoutOf", "(II)I"⟩, 26), (⟨"LuckyStolenModel", "fittingOf", "(I)I"⟩, 26), (⟨"LuckyStolenModel", "letsOf", "(III)I"⟩, 26), (⟨"LuckyStolenModel", "mayPick", "(II)Z"⟩, 26), (⟨"LuckyStolenModel", "copies", "(I)V"⟩, 26), (⟨"LuckyStolenModel", "lucky", "(II)I"⟩, 26), (⟨"LuckyStolenModel", "robsOf", "(III)I"⟩, 26), (⟨"LuckyStolenModel", "chanceOf", "(III)J"⟩, 26), (⟨"LuckyStolenModel", "waitsOf", "(II)J"⟩, 26), (⟨"LuckyStolenModel", "thiefOf", "(III)I"⟩, 26)]
theorem lw_r3 : ∀ q ∈ lw_privs_3, lw_okq q := List.forall_mem_cons.mpr ⟨lw_p32, List.forall_mem_cons.mpr ⟨lw_p33, List.forall_mem_cons.mpr ⟨lw_p34, List.forall_mem_cons.mpr ⟨lw_p35, List.forall_mem_cons.mpr ⟨lw_p36, List.forall_mem_cons.mpr ⟨lw_p37, List.forall_mem_cons.mpr ⟨lw_p38, List.forall_mem_cons.mpr ⟨lw_p39, List.forall_mem_cons.mpr ⟨lw_p40, List.forall_mem_cons.mpr ⟨lw_p41, List.forall_mem_cons.mpr ⟨lw_p42, List.forall_mem_cons.mpr ⟨lw_p43, fun _ h => absurd h List.not_mem_nil⟩⟩⟩⟩⟩⟩⟩⟩⟩⟩⟩⟩
def lw_privs : List (MethodName × Nat) := lw_privs_1 ++ (lw_privs_2 ++ (lw_privs_3))
def lw_tbl : List Cond := k2_sels lw_privs ++ tables_1
theorem lw_privs_ok : ∀ q ∈ lw_privs, lw_okq q := by
  show ∀ q ∈ lw_privs_1 ++ (lw_privs_2 ++ (lw_privs_3)), lw_okq q
  exact List.forall_mem_append.mpr ⟨lw_r1, List.forall_mem_append.mpr ⟨lw_r2, lw_r3⟩⟩

def RX0 : String := "LuckyStolen$Books"
def TX0 : u_T := fun k => match k with
  | 0 => ("LuckyStolen$Books", "yard", "LLuckyStolen$Yard;", true)
  | 1 => ("LuckyStolen$Books", "houses", "[I", true)
  | 2 => ("LuckyStolen$Books", "nights", "[I", true)
  | 3 => ("LuckyStolen$Books", "eggs", "[I", true)
  | 4 => ("LuckyStolen$Books", "luckyIfReal", "[I", true)
  | 5 => ("LuckyStolen$Books", "size", "I", false)
  | 6 => ("LuckyStolen$Books", "sets", "I", false)
  | 7 => ("LuckyStolen$Books", "least", "I", false)
  | 8 => ("LuckyStolen$Books", "inAll", "I", false)
  | _ => ("LuckyStolen$Books", "inNone", "I", false)
def tyX0 : Nat → FieldType := fun k => match k with
  | 0 => .object "LuckyStolen$Yard"
  | 1 => .array .int
  | 2 => .array .int
  | 3 => .array .int
  | 4 => .array .int
  | 5 => .int
  | 6 => .int
  | 7 => .int
  | 8 => .int
  | _ => .int
abbrev wsX00 : List Cond := u_ws RX0 TX0 10
theorem nmX0 : ∀ a, a < 10 → ∀ b, b < 10 → a ≠ b → (TX0 a).2.1 ≠ (TX0 b).2.1 := by decide +kernel
theorem tyX0_ok : ∀ k, k < 10 → parseFieldDescriptor (TX0 k).2.2.1 = some (tyX0 k) := by decide +kernel
abbrev cX0_init : ByteArray := prog_2_method_1_code
def yX0_init : MethodName := ⟨RX0, "<init>", "(LLuckyStolen$Yard;)V"⟩
abbrev cX0_isFull : ByteArray := prog_2_method_2_code
def yX0_isFull : MethodName := ⟨RX0, "isFull", "()Z"⟩
abbrev cX0_put : ByteArray := prog_2_method_3_code
def yX0_put : MethodName := ⟨RX0, "put", "(III)I"⟩
abbrev cX0_empty : ByteArray := prog_2_method_4_code
def yX0_empty : MethodName := ⟨RX0, "empty", "()I"⟩
abbrev cX0_tryAllSets : ByteArray := prog_2_method_5_code
def yX0_tryAllSets : MethodName := ⟨RX0, "tryAllSets", "()V"⟩
abbrev cX0_comesOut : ByteArray := prog_2_method_6_code
def yX0_comesOut : MethodName := ⟨RX0, "comesOut", "(I)Z"⟩
def RX1 : String := "LuckyStolen$Guards"
def TX1 : u_T := fun k => match k with
  | _ => ("LuckyStolen$Guards", "awake", "[I", true)
def tyX1 : Nat → FieldType := fun k => match k with
  | _ => .array .int
abbrev wsX10 : List Cond := u_ws RX1 TX1 1
theorem nmX1 : ∀ a, a < 1 → ∀ b, b < 1 → a ≠ b → (TX1 a).2.1 ≠ (TX1 b).2.1 := by decide +kernel
theorem tyX1_ok : ∀ k, k < 1 → parseFieldDescriptor (TX1 k).2.2.1 = some (tyX1 k) := by decide +kernel
abbrev cX1_init : ByteArray := prog_3_method_1_code
def yX1_init : MethodName := ⟨RX1, "<init>", "()V"⟩
abbrev cX1_power : ByteArray := prog_3_method_2_code
def yX1_power : MethodName := ⟨RX1, "power", "(JI)J"⟩
abbrev cX1_lowest : ByteArray := prog_3_method_3_code
def yX1_lowest : MethodName := ⟨RX1, "lowest", "(JJI)J"⟩
abbrev cX1_leastFor : ByteArray := prog_3_method_4_code
def yX1_leastFor : MethodName := ⟨RX1, "leastFor", "(II)I"⟩
abbrev cX1_nightOfTheft : ByteArray := prog_3_method_5_code
def yX1_nightOfTheft : MethodName := ⟨RX1, "nightOfTheft", "(III)I"⟩
def RX2 : String := "LuckyStolen$Lets"
def TX2 : u_T := fun k => match k with
  | 0 => ("LuckyStolen$Lets", "yard", "LLuckyStolen$Yard;", true)
  | _ => ("LuckyStolen$Lets", "picked", "I", false)
def tyX2 : Nat → FieldType := fun k => match k with
  | 0 => .object "LuckyStolen$Yard"
  | _ => .int
abbrev wsX20 : List Cond := u_ws RX2 TX2 2
theorem nmX2 : ∀ a, a < 2 → ∀ b, b < 2 → a ≠ b → (TX2 a).2.1 ≠ (TX2 b).2.1 := by decide +kernel
theorem tyX2_ok : ∀ k, k < 2 → parseFieldDescriptor (TX2 k).2.2.1 = some (tyX2 k) := by decide +kernel
abbrev cX2_init : ByteArray := prog_4_method_1_code
def yX2_init : MethodName := ⟨RX2, "<init>", "(LLuckyStolen$Yard;)V"⟩
abbrev cX2_mostNights : ByteArray := prog_4_method_2_code
def yX2_mostNights : MethodName := ⟨RX2, "mostNights", "(II)I"⟩
abbrev cX2_isWorthStealing : ByteArray := prog_4_method_3_code
def yX2_isWorthStealing : MethodName := ⟨RX2, "isWorthStealing", "(I)Z"⟩
abbrev cX2_ceiling : ByteArray := prog_4_method_4_code
def yX2_ceiling : MethodName := ⟨RX2, "ceiling", "(II)I"⟩
abbrev cX2_nightsWith : ByteArray := prog_4_method_5_code
def yX2_nightsWith : MethodName := ⟨RX2, "nightsWith", "(IIII)I"⟩
abbrev cX2_nightsFrom : ByteArray := prog_4_method_6_code
def yX2_nightsFrom : MethodName := ⟨RX2, "nightsFrom", "(II)I"⟩
abbrev cX2_mostInLast : ByteArray := prog_4_method_7_code
def yX2_mostInLast : MethodName := ⟨RX2, "mostInLast", "(I)I"⟩
def RX3 : String := "LuckyStolen$Sheet"
def TX3 : u_T := fun k => match k with
  | 0 => ("LuckyStolen$Sheet", "items", "[I", true)
  | 1 => ("LuckyStolen$Sheet", "form", "I", false)
  | _ => ("LuckyStolen$Sheet", "size", "I", false)
def tyX3 : Nat → FieldType := fun k => match k with
  | 0 => .array .int
  | 1 => .int
  | _ => .int
abbrev wsX30 : List Cond := u_ws RX3 TX3 3
theorem nmX3 : ∀ a, a < 3 → ∀ b, b < 3 → a ≠ b → (TX3 a).2.1 ≠ (TX3 b).2.1 := by decide +kernel
theorem tyX3_ok : ∀ k, k < 3 → parseFieldDescriptor (TX3 k).2.2.1 = some (tyX3 k) := by decide +kernel
abbrev cX3_init : ByteArray := prog_5_method_1_code
def yX3_init : MethodName := ⟨RX3, "<init>", "()V"⟩
abbrev cX3_isForm : ByteArray := prog_5_method_2_code
def yX3_isForm : MethodName := ⟨RX3, "isForm", "(I)Z"⟩
abbrev cX3_isLost : ByteArray := prog_5_method_3_code
def yX3_isLost : MethodName := ⟨RX3, "isLost", "()Z"⟩
abbrev cX3_begin : ByteArray := prog_5_method_4_code
def yX3_begin : MethodName := ⟨RX3, "begin", "(II)I"⟩
abbrev cX3_end : ByteArray := prog_5_method_5_code
def yX3_end : MethodName := ⟨RX3, "end", "()I"⟩
abbrev cX3_flawOf : ByteArray := prog_5_method_6_code
def yX3_flawOf : MethodName := ⟨RX3, "flawOf", "(II)I"⟩
abbrev cX3_hasSpan : ByteArray := prog_5_method_7_code
def yX3_hasSpan : MethodName := ⟨RX3, "hasSpan", "(II)Z"⟩
abbrev cX3_put : ByteArray := prog_5_method_8_code
def yX3_put : MethodName := ⟨RX3, "put", "(II)V"⟩
def RX4 : String := "LuckyStolen$Tale"
def TX4 : u_T := fun k => match k with
  | 0 => ("LuckyStolen$Tale", "kinds", "[I", true)
  | 1 => ("LuckyStolen$Tale", "nights", "[I", true)
  | 2 => ("LuckyStolen$Tale", "stones", "[I", true)
  | 3 => ("LuckyStolen$Tale", "houses", "[I", true)
  | 4 => ("LuckyStolen$Tale", "knowings", "[I", true)
  | _ => ("LuckyStolen$Tale", "size", "I", false)
def tyX4 : Nat → FieldType := fun k => match k with
  | 0 => .array .int
  | 1 => .array .int
  | 2 => .array .int
  | 3 => .array .int
  | 4 => .array .int
  | _ => .int
abbrev wsX40 : List Cond := u_ws RX4 TX4 6
theorem nmX4 : ∀ a, a < 6 → ∀ b, b < 6 → a ≠ b → (TX4 a).2.1 ≠ (TX4 b).2.1 := by decide +kernel
theorem tyX4_ok : ∀ k, k < 6 → parseFieldDescriptor (TX4 k).2.2.1 = some (tyX4 k) := by decide +kernel
abbrev cX4_init : ByteArray := prog_6_method_1_code
def yX4_init : MethodName := ⟨RX4, "<init>", "()V"⟩
abbrev cX4_mayBe : ByteArray := prog_6_method_2_code
def yX4_mayBe : MethodName := ⟨RX4, "mayBe", "(IIIII)Z"⟩
abbrev cX4_isFull : ByteArray := prog_6_method_3_code
def yX4_isFull : MethodName := ⟨RX4, "isFull", "()Z"⟩
abbrev cX4_put : ByteArray := prog_6_method_4_code
def yX4_put : MethodName := ⟨RX4, "put", "(IIIII)I"⟩
abbrev cX4_takeLast : ByteArray := prog_6_method_5_code
def yX4_takeLast : MethodName := ⟨RX4, "takeLast", "()I"⟩
abbrev cX4_lastNight : ByteArray := prog_6_method_6_code
def yX4_lastNight : MethodName := ⟨RX4, "lastNight", "()I"⟩
abbrev cX4_isTrueTheft : ByteArray := prog_6_method_7_code
def yX4_isTrueTheft : MethodName := ⟨RX4, "isTrueTheft", "(I)Z"⟩
def RX5 : String := "LuckyStolen$Text"
def TX5 : u_T := fun k => match k with
  | 0 => ("LuckyStolen$Text", "bytes", "[I", true)
  | 1 => ("LuckyStolen$Text", "length", "I", false)
  | 2 => ("LuckyStolen$Text", "faultPlace", "I", false)
  | _ => ("LuckyStolen$Text", "stones", "I", false)
def tyX5 : Nat → FieldType := fun k => match k with
  | 0 => .array .int
  | 1 => .int
  | 2 => .int
  | _ => .int
abbrev wsX50 : List Cond := u_ws RX5 TX5 4
theorem nmX5 : ∀ a, a < 4 → ∀ b, b < 4 → a ≠ b → (TX5 a).2.1 ≠ (TX5 b).2.1 := by decide +kernel
theorem tyX5_ok : ∀ k, k < 4 → parseFieldDescriptor (TX5 k).2.2.1 = some (tyX5 k) := by decide +kernel
abbrev cX5_init : ByteArray := prog_7_method_1_code
def yX5_init : MethodName := ⟨RX5, "<init>", "()V"⟩
abbrev cX5_put : ByteArray := prog_7_method_2_code
def yX5_put : MethodName := ⟨RX5, "put", "(I)I"⟩
abbrev cX5_empty : ByteArray := prog_7_method_3_code
def yX5_empty : MethodName := ⟨RX5, "empty", "()I"⟩
abbrev cX5_has : ByteArray := prog_7_method_4_code
def yX5_has : MethodName := ⟨RX5, "has", "(I)Z"⟩
abbrev cX5_houseOf : ByteArray := prog_7_method_5_code
def yX5_houseOf : MethodName := ⟨RX5, "houseOf", "(I)I"⟩
abbrev cX5_isForged : ByteArray := prog_7_method_6_code
def yX5_isForged : MethodName := ⟨RX5, "isForged", "(I)Z"⟩
abbrev cX5_realStones : ByteArray := prog_7_method_7_code
def yX5_realStones : MethodName := ⟨RX5, "realStones", "()I"⟩
abbrev cX5_lookThrough : ByteArray := prog_7_method_8_code
def yX5_lookThrough : MethodName := ⟨RX5, "lookThrough", "()V"⟩
abbrev cX5_firstFault : ByteArray := prog_7_method_9_code
def yX5_firstFault : MethodName := ⟨RX5, "firstFault", "()I"⟩
abbrev cX5_fits : ByteArray := prog_7_method_10_code
def yX5_fits : MethodName := ⟨RX5, "fits", "(I)Z"⟩
def RX6 : String := "LuckyStolen$Yard"
def TX6 : u_T := fun k => match k with
  | 0 => ("LuckyStolen$Yard", "text", "LLuckyStolen$Text;", true)
  | 1 => ("LuckyStolen$Yard", "tale", "LLuckyStolen$Tale;", true)
  | 2 => ("LuckyStolen$Yard", "owner", "[I", true)
  | 3 => ("LuckyStolen$Yard", "until", "[I", true)
  | 4 => ("LuckyStolen$Yard", "thefts", "[I", true)
  | 5 => ("LuckyStolen$Yard", "real", "I", false)
  | 6 => ("LuckyStolen$Yard", "nightsOfLuck", "I", false)
  | 7 => ("LuckyStolen$Yard", "told", "I", false)
  | 8 => ("LuckyStolen$Yard", "against", "I", false)
  | 9 => ("LuckyStolen$Yard", "firstAgainst", "I", false)
  | _ => ("LuckyStolen$Yard", "trueThefts", "I", false)
def tyX6 : Nat → FieldType := fun k => match k with
  | 0 => .object "LuckyStolen$Text"
  | 1 => .object "LuckyStolen$Tale"
  | 2 => .array .int
  | 3 => .array .int
  | 4 => .array .int
  | 5 => .int
  | 6 => .int
  | 7 => .int
  | 8 => .int
  | 9 => .int
  | _ => .int
abbrev wsX60 : List Cond := u_ws RX6 TX6 11
theorem nmX6 : ∀ a, a < 11 → ∀ b, b < 11 → a ≠ b → (TX6 a).2.1 ≠ (TX6 b).2.1 := by decide +kernel
theorem tyX6_ok : ∀ k, k < 11 → parseFieldDescriptor (TX6 k).2.2.1 = some (tyX6 k) := by decide +kernel
abbrev cX6_init : ByteArray := prog_8_method_1_code
def yX6_init : MethodName := ⟨RX6, "<init>", "(LLuckyStolen$Text;LLuckyStolen$Tale;)V"⟩
abbrev cX6_begin : ByteArray := prog_8_method_2_code
def yX6_begin : MethodName := ⟨RX6, "begin", "()V"⟩
abbrev cX6_tellTo : ByteArray := prog_8_method_3_code
def yX6_tellTo : MethodName := ⟨RX6, "tellTo", "(II)V"⟩
abbrev cX6_tellFromStart : ByteArray := prog_8_method_4_code
def yX6_tellFromStart : MethodName := ⟨RX6, "tellFromStart", "(I)V"⟩
abbrev cX6_tellAll : ByteArray := prog_8_method_5_code
def yX6_tellAll : MethodName := ⟨RX6, "tellAll", "()V"⟩
abbrev cX6_tell : ByteArray := prog_8_method_6_code
def yX6_tell : MethodName := ⟨RX6, "tell", "(I)V"⟩
abbrev cX6_isLawful : ByteArray := prog_8_method_7_code
def yX6_isLawful : MethodName := ⟨RX6, "isLawful", "(I)Z"⟩
abbrev cX6_isReal : ByteArray := prog_8_method_8_code
def yX6_isReal : MethodName := ⟨RX6, "isReal", "(I)Z"⟩
abbrev cX6_isLucky : ByteArray := prog_8_method_9_code
def yX6_isLucky : MethodName := ⟨RX6, "isLucky", "(II)Z"⟩
abbrev cX6_luckOf : ByteArray := prog_8_method_10_code
def yX6_luckOf : MethodName := ⟨RX6, "luckOf", "(II)I"⟩
abbrev cX6_eggsOf : ByteArray := prog_8_method_11_code
def yX6_eggsOf : MethodName := ⟨RX6, "eggsOf", "(II)I"⟩
abbrev cX6_theftBehind : ByteArray := prog_8_method_12_code
def yX6_theftBehind : MethodName := ⟨RX6, "theftBehind", "(III)I"⟩
abbrev cX6_luckyHouses : ByteArray := prog_8_method_13_code
def yX6_luckyHouses : MethodName := ⟨RX6, "luckyHouses", "(I)I"⟩
abbrev cX6_luckyDays : ByteArray := prog_8_method_14_code
def yX6_luckyDays : MethodName := ⟨RX6, "luckyDays", "(IIII)I"⟩
abbrev cX6_luckyIfReal : ByteArray := prog_8_method_15_code
def yX6_luckyIfReal : MethodName := ⟨RX6, "luckyIfReal", "(II)I"⟩
def RX7 : String := "LuckyStolen"
def TX7 : u_T := fun k => match k with
  | 0 => ("LuckyStolen", "text", "LLuckyStolen$Text;", true)
  | 1 => ("LuckyStolen", "tale", "LLuckyStolen$Tale;", true)
  | 2 => ("LuckyStolen", "yard", "LLuckyStolen$Yard;", true)
  | 3 => ("LuckyStolen", "letting", "LLuckyStolen$Lets;", true)
  | 4 => ("LuckyStolen", "books", "LLuckyStolen$Books;", true)
  | 5 => ("LuckyStolen", "guards", "LLuckyStolen$Guards;", true)
  | 6 => ("LuckyStolen", "sheets", "[LLuckyStolen$Sheet;", true)
  | _ => ("LuckyStolen", "finding", "I", false)
def tyX7 : Nat → FieldType := fun k => match k with
  | 0 => .object "LuckyStolen$Text"
  | 1 => .object "LuckyStolen$Tale"
  | 2 => .object "LuckyStolen$Yard"
  | 3 => .object "LuckyStolen$Lets"
  | 4 => .object "LuckyStolen$Books"
  | 5 => .object "LuckyStolen$Guards"
  | 6 => .array (.object "LuckyStolen$Sheet")
  | _ => .int
abbrev wsX70 : List Cond := u_ws RX7 TX7 8
theorem nmX7 : ∀ a, a < 8 → ∀ b, b < 8 → a ≠ b → (TX7 a).2.1 ≠ (TX7 b).2.1 := by decide +kernel
theorem tyX7_ok : ∀ k, k < 8 → parseFieldDescriptor (TX7 k).2.2.1 = some (tyX7 k) := by decide +kernel
abbrev cX7_init : ByteArray := prog_1_method_1_code
def yX7_init : MethodName := ⟨RX7, "<init>", "()V"⟩
abbrev cX7_type : ByteArray := prog_1_method_2_code
def yX7_type : MethodName := ⟨RX7, "type", "(I)I"⟩
abbrev cX7_wipe : ByteArray := prog_1_method_3_code
def yX7_wipe : MethodName := ⟨RX7, "wipe", "()I"⟩
abbrev cX7_fault : ByteArray := prog_1_method_4_code
def yX7_fault : MethodName := ⟨RX7, "fault", "()I"⟩
abbrev cX7_stone : ByteArray := prog_1_method_5_code
def yX7_stone : MethodName := ⟨RX7, "stone", "(II)I"⟩
abbrev cX7_lasts : ByteArray := prog_1_method_6_code
def yX7_lasts : MethodName := ⟨RX7, "lasts", "(I)I"⟩
abbrev cX7_event : ByteArray := prog_1_method_7_code
def yX7_event : MethodName := ⟨RX7, "event", "(IIIII)I"⟩
abbrev cX7_read : ByteArray := prog_1_method_8_code
def yX7_read : MethodName := ⟨RX7, "read", "(I)I"⟩
abbrev cX7_undo : ByteArray := prog_1_method_9_code
def yX7_undo : MethodName := ⟨RX7, "undo", "()I"⟩
abbrev cX7_judged : ByteArray := prog_1_method_10_code
def yX7_judged : MethodName := ⟨RX7, "judged", "()I"⟩
abbrev cX7_at : ByteArray := prog_1_method_11_code
def yX7_at : MethodName := ⟨RX7, "at", "(III)I"⟩
abbrev cX7_luck : ByteArray := prog_1_method_12_code
def yX7_luck : MethodName := ⟨RX7, "luck", "(III)I"⟩
abbrev cX7_days : ByteArray := prog_1_method_13_code
def yX7_days : MethodName := ⟨RX7, "days", "(III)I"⟩
abbrev cX7_led : ByteArray := prog_1_method_14_code
def yX7_led : MethodName := ⟨RX7, "led", "(III)I"⟩
abbrev cX7_without : ByteArray := prog_1_method_15_code
def yX7_without : MethodName := ⟨RX7, "without", "(II)I"⟩
abbrev cX7_book : ByteArray := prog_1_method_16_code
def yX7_book : MethodName := ⟨RX7, "book", "(III)I"⟩
abbrev cX7_forget : ByteArray := prog_1_method_17_code
def yX7_forget : MethodName := ⟨RX7, "forget", "()I"⟩
abbrev cX7_fitting : ByteArray := prog_1_method_18_code
def yX7_fitting : MethodName := ⟨RX7, "fitting", "(I)I"⟩
abbrev cX7_lets : ByteArray := prog_1_method_19_code
def yX7_lets : MethodName := ⟨RX7, "lets", "(III)I"⟩
abbrev cX7_robs : ByteArray := prog_1_method_20_code
def yX7_robs : MethodName := ⟨RX7, "robs", "(III)I"⟩
abbrev cX7_guard : ByteArray := prog_1_method_21_code
def yX7_guard : MethodName := ⟨RX7, "guard", "(II)I"⟩
abbrev cX7_chance : ByteArray := prog_1_method_22_code
def yX7_chance : MethodName := ⟨RX7, "chance", "(III)J"⟩
abbrev cX7_waits : ByteArray := prog_1_method_23_code
def yX7_waits : MethodName := ⟨RX7, "waits", "(II)J"⟩
abbrev cX7_careless : ByteArray := prog_1_method_24_code
def yX7_careless : MethodName := ⟨RX7, "careless", "(II)I"⟩
abbrev cX7_thief : ByteArray := prog_1_method_25_code
def yX7_thief : MethodName := ⟨RX7, "thief", "(III)I"⟩
abbrev cX7_sheet : ByteArray := prog_1_method_26_code
def yX7_sheet : MethodName := ⟨RX7, "sheet", "(III)I"⟩
abbrev cX7_lose : ByteArray := prog_1_method_27_code
def yX7_lose : MethodName := ⟨RX7, "lose", "(I)I"⟩
abbrev cX7_lay : ByteArray := prog_1_method_28_code
def yX7_lay : MethodName := ⟨RX7, "lay", "(IIII)I"⟩
abbrev cX7_get : ByteArray := prog_1_method_29_code
def yX7_get : MethodName := ⟨RX7, "get", "(III)I"⟩
abbrev cX7_copy : ByteArray := prog_1_method_30_code
def yX7_copy : MethodName := ⟨RX7, "copy", "(IIIII)I"⟩
abbrev cX7_write : ByteArray := prog_1_method_31_code
def yX7_write : MethodName := ⟨RX7, "write", "(III)I"⟩
abbrev cX7_count : ByteArray := prog_1_method_32_code
def yX7_count : MethodName := ⟨RX7, "count", "(I)I"⟩
abbrev cX7_digest : ByteArray := prog_1_method_33_code
def yX7_digest : MethodName := ⟨RX7, "digest", "()J"⟩
abbrev cX7_withStone : ByteArray := prog_1_method_34_code
def yX7_withStone : MethodName := ⟨RX7, "withStone", "(JI)J"⟩
abbrev cX7_withHouse : ByteArray := prog_1_method_35_code
def yX7_withHouse : MethodName := ⟨RX7, "withHouse", "(JI)J"⟩
abbrev cX7_found : ByteArray := prog_1_method_36_code
def yX7_found : MethodName := ⟨RX7, "found", "(I)I"⟩
abbrev cX7_within : ByteArray := prog_1_method_37_code
def yX7_within : MethodName := ⟨RX7, "within", "(II)Z"⟩
abbrev cX7_isHouse : ByteArray := prog_1_method_38_code
def yX7_isHouse : MethodName := ⟨RX7, "isHouse", "(I)Z"⟩
abbrev cX7_isSheet : ByteArray := prog_1_method_39_code
def yX7_isSheet : MethodName := ⟨RX7, "isSheet", "(I)Z"⟩
def RX8 : String := "LuckyStolenModel"
def TX8 : u_T := fun k => match k with
  | 0 => ("LuckyStolenModel", "forms", "[I", true)
  | 1 => ("LuckyStolenModel", "sizes", "[I", true)
  | 2 => ("LuckyStolenModel", "items", "[I", true)
  | 3 => ("LuckyStolenModel", "moved", "[I", true)
  | 4 => ("LuckyStolenModel", "latest", "I", false)
  | 5 => ("LuckyStolenModel", "text", "[I", true)
  | 6 => ("LuckyStolenModel", "typed", "I", false)
  | 7 => ("LuckyStolenModel", "at", "I", false)
  | 8 => ("LuckyStolenModel", "stones", "I", false)
  | 9 => ("LuckyStolenModel", "first", "[I", true)
  | 10 => ("LuckyStolenModel", "forged", "I", false)
  | 11 => ("LuckyStolenModel", "lasting", "I", false)
  | 12 => ("LuckyStolenModel", "events", "I", false)
  | 13 => ("LuckyStolenModel", "told", "[I", true)
  | 14 => ("LuckyStolenModel", "where", "[I", true)
  | 15 => ("LuckyStolenModel", "since", "[I", true)
  | 16 => ("LuckyStolenModel", "by", "[I", true)
  | 17 => ("LuckyStolenModel", "against", "I", false)
  | 18 => ("LuckyStolenModel", "firstAgainst", "I", false)
  | 19 => ("LuckyStolenModel", "thefts", "I", false)
  | 20 => ("LuckyStolenModel", "books", "I", false)
  | 21 => ("LuckyStolenModel", "written", "[I", true)
  | 22 => ("LuckyStolenModel", "would", "[I", true)
  | 23 => ("LuckyStolenModel", "pick", "[I", true)
  | 24 => ("LuckyStolenModel", "sumTo", "[I", true)
  | _ => ("LuckyStolenModel", "guards", "[I", true)
def tyX8 : Nat → FieldType := fun k => match k with
  | 0 => .array .int
  | 1 => .array .int
  | 2 => .array .int
  | 3 => .array .int
  | 4 => .int
  | 5 => .array .int
  | 6 => .int
  | 7 => .int
  | 8 => .int
  | 9 => .array .int
  | 10 => .int
  | 11 => .int
  | 12 => .int
  | 13 => .array .int
  | 14 => .array .int
  | 15 => .array .int
  | 16 => .array .int
  | 17 => .int
  | 18 => .int
  | 19 => .int
  | 20 => .int
  | 21 => .array .int
  | 22 => .array .int
  | 23 => .array .int
  | 24 => .array .int
  | _ => .array .int
abbrev wsX80 : List Cond := u_ws RX8 TX8 26
theorem nmX8 : ∀ a, a < 26 → ∀ b, b < 26 → a ≠ b → (TX8 a).2.1 ≠ (TX8 b).2.1 := by decide +kernel
theorem tyX8_ok : ∀ k, k < 26 → parseFieldDescriptor (TX8 k).2.2.1 = some (tyX8 k) := by decide +kernel
abbrev cX8_init : ByteArray := prog_10_method_1_code
def yX8_init : MethodName := ⟨RX8, "<init>", "()V"⟩
abbrev cX8_in : ByteArray := prog_10_method_3_code
def yX8_in : MethodName := ⟨RX8, "in", "(JJJ)Z"⟩
abbrev cX8_no : ByteArray := prog_10_method_4_code
def yX8_no : MethodName := ⟨RX8, "no", "(I)J"⟩
abbrev cX8_isTwo : ByteArray := prog_10_method_5_code
def yX8_isTwo : MethodName := ⟨RX8, "isTwo", "(I)Z"⟩
abbrev cX8_ones : ByteArray := prog_10_method_6_code
def yX8_ones : MethodName := ⟨RX8, "ones", "(I)I"⟩
abbrev cX8_met : ByteArray := prog_10_method_7_code
def yX8_met : MethodName := ⟨RX8, "met", "(I)I"⟩
abbrev cX8_isSheet : ByteArray := prog_10_method_8_code
def yX8_isSheet : MethodName := ⟨RX8, "isSheet", "(I)Z"⟩
abbrev cX8_sheet : ByteArray := prog_10_method_9_code
def yX8_sheet : MethodName := ⟨RX8, "sheet", "(III)I"⟩
abbrev cX8_lose : ByteArray := prog_10_method_10_code
def yX8_lose : MethodName := ⟨RX8, "lose", "(I)I"⟩
abbrev cX8_lacks : ByteArray := prog_10_method_11_code
def yX8_lacks : MethodName := ⟨RX8, "lacks", "(III)I"⟩
abbrev cX8_cut : ByteArray := prog_10_method_12_code
def yX8_cut : MethodName := ⟨RX8, "cut", "(II)I"⟩
abbrev cX8_lay : ByteArray := prog_10_method_13_code
def yX8_lay : MethodName := ⟨RX8, "lay", "(IIII)I"⟩
abbrev cX8_get : ByteArray := prog_10_method_14_code
def yX8_get : MethodName := ⟨RX8, "get", "(III)I"⟩
abbrev cX8_copy : ByteArray := prog_10_method_15_code
def yX8_copy : MethodName := ⟨RX8, "copy", "(IIIII)I"⟩
abbrev cX8_type : ByteArray := prog_10_method_16_code
def yX8_type : MethodName := ⟨RX8, "type", "(I)I"⟩
abbrev cX8_wipe : ByteArray := prog_10_method_17_code
def yX8_wipe : MethodName := ⟨RX8, "wipe", "()I"⟩
abbrev cX8_here : ByteArray := prog_10_method_18_code
def yX8_here : MethodName := ⟨RX8, "here", "()I"⟩
abbrev cX8_isHouse : ByteArray := prog_10_method_19_code
def yX8_isHouse : MethodName := ⟨RX8, "isHouse", "(I)Z"⟩
abbrev cX8_none : ByteArray := prog_10_method_20_code
def yX8_none : MethodName := ⟨RX8, "none", "()I"⟩
abbrev cX8_reads : ByteArray := prog_10_method_21_code
def yX8_reads : MethodName := ⟨RX8, "reads", "()I"⟩
abbrev cX8_fault : ByteArray := prog_10_method_22_code
def yX8_fault : MethodName := ⟨RX8, "fault", "()I"⟩
abbrev cX8_isStone : ByteArray := prog_10_method_23_code
def yX8_isStone : MethodName := ⟨RX8, "isStone", "(I)Z"⟩
abbrev cX8_stoneOf : ByteArray := prog_10_method_24_code
def yX8_stoneOf : MethodName := ⟨RX8, "stoneOf", "(II)I"⟩
abbrev cX8_stone : ByteArray := prog_10_method_25_code
def yX8_stone : MethodName := ⟨RX8, "stone", "(II)I"⟩
abbrev cX8_lasts : ByteArray := prog_10_method_26_code
def yX8_lasts : MethodName := ⟨RX8, "lasts", "(I)I"⟩
abbrev cX8_isLate : ByteArray := prog_10_method_27_code
def yX8_isLate : MethodName := ⟨RX8, "isLate", "(I)Z"⟩
abbrev cX8_event : ByteArray := prog_10_method_28_code
def yX8_event : MethodName := ⟨RX8, "event", "(IIIII)I"⟩
abbrev cX8_read : ByteArray := prog_10_method_29_code
def yX8_read : MethodName := ⟨RX8, "read", "(I)I"⟩
abbrev cX8_undo : ByteArray := prog_10_method_30_code
def yX8_undo : MethodName := ⟨RX8, "undo", "()I"⟩
abbrev cX8_begins : ByteArray := prog_10_method_31_code
def yX8_begins : MethodName := ⟨RX8, "begins", "()V"⟩
abbrev cX8_isLawful : ByteArray := prog_10_method_32_code
def yX8_isLawful : MethodName := ⟨RX8, "isLawful", "(I)Z"⟩
abbrev cX8_isTrue : ByteArray := prog_10_method_33_code
def yX8_isTrue : MethodName := ⟨RX8, "isTrue", "(I)Z"⟩
abbrev cX8_does : ByteArray := prog_10_method_34_code
def yX8_does : MethodName := ⟨RX8, "does", "(I)V"⟩
abbrev cX8_goes : ByteArray := prog_10_method_35_code
def yX8_goes : MethodName := ⟨RX8, "goes", "(II)V"⟩
abbrev cX8_judged : ByteArray := prog_10_method_36_code
def yX8_judged : MethodName := ⟨RX8, "judged", "()I"⟩
abbrev cX8_leftAt : ByteArray := prog_10_method_37_code
def yX8_leftAt : MethodName := ⟨RX8, "leftAt", "(II)I"⟩
abbrev cX8_isLucky : ByteArray := prog_10_method_38_code
def yX8_isLucky : MethodName := ⟨RX8, "isLucky", "(II)Z"⟩
abbrev cX8_isNight : ByteArray := prog_10_method_39_code
def yX8_isNight : MethodName := ⟨RX8, "isNight", "(I)Z"⟩
abbrev cX8_stateOf : ByteArray := prog_10_method_40_code
def yX8_stateOf : MethodName := ⟨RX8, "stateOf", "(III)I"⟩
abbrev cX8_at : ByteArray := prog_10_method_41_code
def yX8_at : MethodName := ⟨RX8, "at", "(III)I"⟩
abbrev cX8_luckNow : ByteArray := prog_10_method_42_code
def yX8_luckNow : MethodName := ⟨RX8, "luckNow", "(II)I"⟩
abbrev cX8_luckOf : ByteArray := prog_10_method_43_code
def yX8_luckOf : MethodName := ⟨RX8, "luckOf", "(III)I"⟩
abbrev cX8_luck : ByteArray := prog_10_method_44_code
def yX8_luck : MethodName := ⟨RX8, "luck", "(III)I"⟩
abbrev cX8_daysOf : ByteArray := prog_10_method_45_code
def yX8_daysOf : MethodName := ⟨RX8, "daysOf", "(IIII)I"⟩
abbrev cX8_days : ByteArray := prog_10_method_46_code
def yX8_days : MethodName := ⟨RX8, "days", "(III)I"⟩
abbrev cX8_ledOf : ByteArray := prog_10_method_47_code
def yX8_ledOf : MethodName := ⟨RX8, "ledOf", "(III)I"⟩
abbrev cX8_led : ByteArray := prog_10_method_48_code
def yX8_led : MethodName := ⟨RX8, "led", "(III)I"⟩
abbrev cX8_withoutOf : ByteArray := prog_10_method_49_code
def yX8_withoutOf : MethodName := ⟨RX8, "withoutOf", "(II)I"⟩
abbrev cX8_without : ByteArray := prog_10_method_50_code
def yX8_without : MethodName := ⟨RX8, "without", "(II)I"⟩
abbrev cX8_book : ByteArray := prog_10_method_51_code
def yX8_book : MethodName := ⟨RX8, "book", "(III)I"⟩
abbrev cX8_forget : ByteArray := prog_10_method_52_code
def yX8_forget : MethodName := ⟨RX8, "forget", "()I"⟩
abbrev cX8_fittingOf : ByteArray := prog_10_method_53_code
def yX8_fittingOf : MethodName := ⟨RX8, "fittingOf", "(I)I"⟩
abbrev cX8_fitting : ByteArray := prog_10_method_54_code
def yX8_fitting : MethodName := ⟨RX8, "fitting", "(I)I"⟩
abbrev cX8_copies : ByteArray := prog_10_method_55_code
def yX8_copies : MethodName := ⟨RX8, "copies", "(I)V"⟩
abbrev cX8_lucky : ByteArray := prog_10_method_56_code
def yX8_lucky : MethodName := ⟨RX8, "lucky", "(II)I"⟩
abbrev cX8_mayPick : ByteArray := prog_10_method_57_code
def yX8_mayPick : MethodName := ⟨RX8, "mayPick", "(II)Z"⟩
abbrev cX8_letsOf : ByteArray := prog_10_method_58_code
def yX8_letsOf : MethodName := ⟨RX8, "letsOf", "(III)I"⟩
abbrev cX8_lets : ByteArray := prog_10_method_59_code
def yX8_lets : MethodName := ⟨RX8, "lets", "(III)I"⟩
abbrev cX8_robsOf : ByteArray := prog_10_method_60_code
def yX8_robsOf : MethodName := ⟨RX8, "robsOf", "(III)I"⟩
abbrev cX8_robs : ByteArray := prog_10_method_61_code
def yX8_robs : MethodName := ⟨RX8, "robs", "(III)I"⟩
abbrev cX8_guard : ByteArray := prog_10_method_62_code
def yX8_guard : MethodName := ⟨RX8, "guard", "(II)I"⟩
abbrev cX8_power : ByteArray := prog_10_method_63_code
def yX8_power : MethodName := ⟨RX8, "power", "(JI)J"⟩
abbrev cX8_part : ByteArray := prog_10_method_64_code
def yX8_part : MethodName := ⟨RX8, "part", "(JJI)J"⟩
abbrev cX8_chanceOf : ByteArray := prog_10_method_65_code
def yX8_chanceOf : MethodName := ⟨RX8, "chanceOf", "(III)J"⟩
abbrev cX8_chance : ByteArray := prog_10_method_66_code
def yX8_chance : MethodName := ⟨RX8, "chance", "(III)J"⟩
abbrev cX8_waitsOf : ByteArray := prog_10_method_67_code
def yX8_waitsOf : MethodName := ⟨RX8, "waitsOf", "(II)J"⟩
abbrev cX8_waits : ByteArray := prog_10_method_68_code
def yX8_waits : MethodName := ⟨RX8, "waits", "(II)J"⟩
abbrev cX8_carelessOf : ByteArray := prog_10_method_69_code
def yX8_carelessOf : MethodName := ⟨RX8, "carelessOf", "(II)I"⟩
abbrev cX8_careless : ByteArray := prog_10_method_70_code
def yX8_careless : MethodName := ⟨RX8, "careless", "(II)I"⟩
abbrev cX8_thiefOf : ByteArray := prog_10_method_71_code
def yX8_thiefOf : MethodName := ⟨RX8, "thiefOf", "(III)I"⟩
abbrev cX8_thief : ByteArray := prog_10_method_72_code
def yX8_thief : MethodName := ⟨RX8, "thief", "(III)I"⟩
abbrev cX8_write : ByteArray := prog_10_method_73_code
def yX8_write : MethodName := ⟨RX8, "write", "(III)I"⟩
abbrev cX8_count : ByteArray := prog_10_method_74_code
def yX8_count : MethodName := ⟨RX8, "count", "(I)I"⟩
abbrev cX8_digest : ByteArray := prog_10_method_75_code
def yX8_digest : MethodName := ⟨RX8, "digest", "()J"⟩
def RJ6 : String := "java/lang/Integer"
def TJ6 : u_T := fun k => match k with
  | _ => ("", "", "", false)
def tyJ6 : Nat → FieldType := fun k => match k with
  | _ => .int
abbrev wsJ60 : List Cond := u_ws RJ6 TJ6 0
theorem nmJ6 : ∀ a, a < 0 → ∀ b, b < 0 → a ≠ b → (TJ6 a).2.1 ≠ (TJ6 b).2.1 := by decide +kernel
theorem tyJ6_ok : ∀ k, k < 0 → parseFieldDescriptor (TJ6 k).2.2.1 = some (tyJ6 k) := by decide +kernel
abbrev cJ6_bitCount_0f7a4 : ByteArray := prog_11_method_49_code
def yJ6_bitCount_0f7a4 : MethodName := ⟨RJ6, "bitCount", "(I)I"⟩
def RJ9 : String := "java/lang/Math"
def TJ9 : u_T := fun k => match k with
  | _ => ("", "", "", false)
def tyJ9 : Nat → FieldType := fun k => match k with
  | _ => .int
abbrev wsJ90 : List Cond := u_ws RJ9 TJ9 0
theorem nmJ9 : ∀ a, a < 0 → ∀ b, b < 0 → a ≠ b → (TJ9 a).2.1 ≠ (TJ9 b).2.1 := by decide +kernel
theorem tyJ9_ok : ∀ k, k < 0 → parseFieldDescriptor (TJ9 k).2.2.1 = some (tyJ9 k) := by decide +kernel
abbrev cJ9_min_7cf53 : ByteArray := prog_12_method_69_code
def yJ9_min_7cf53 : MethodName := ⟨RJ9, "min", "(II)I"⟩
def RJ10 : String := "java/lang/System"
def TJ10 : u_T := fun k => match k with
  | _ => ("", "", "", false)
def tyJ10 : Nat → FieldType := fun k => match k with
  | _ => .int
abbrev wsJ100 : List Cond := u_ws RJ10 TJ10 0
theorem nmJ10 : ∀ a, a < 0 → ∀ b, b < 0 → a ≠ b → (TJ10 a).2.1 ≠ (TJ10 b).2.1 := by decide +kernel
theorem tyJ10_ok : ∀ k, k < 0 → parseFieldDescriptor (TJ10 k).2.2.1 = some (tyJ10 k) := by decide +kernel
def RL : String := "LuckyStolenLaw"
abbrev cL_law : ByteArray := code
def yL_law : MethodName := ⟨RL, "law", "([I)Z"⟩
abbrev vwCl : List vw_C := [(RX0, TX0, 10), (RX1, TX1, 1), (RX2, TX2, 2), (RX3, TX3, 3), (RX4, TX4, 6), (RX5, TX5, 4), (RX6, TX6, 11), (RX7, TX7, 8), (RX8, TX8, 26)]
