section
-- ===== PART A: goes FIRST, ahead of the names: the tables' words, and 'selects' of the private methods out of them =====
/-- a private method of a class that the tables say can be made, by its rows of tables_1 -/
def lw_okq (q : MethodName × Nat) : Prop := (q.1.cls ≠ "java/lang/invoke/MethodHandle" ∧ q.1.cls ≠ "java/lang/invoke/VarHandle") ∧ Cond.instantiable q.1.cls q.2 ∈ tables_1 ∧ Cond.privateMethod q.1 ∈ tables_1 ∧ Cond.instanceMethod q.1 ∈ tables_1
theorem lw_p0 : lw_okq (⟨"LuckyStolen$Text", "lookThrough", "()V"⟩, 4) := ⟨⟨by decide +kernel, by decide +kernel⟩, List.mem_of_getElem? (i := 22) (by decide +kernel), List.mem_of_getElem? (i := 253) (by decide +kernel), List.mem_of_getElem? (i := 254) (by decide +kernel)⟩
theorem lw_p1 : lw_okq (⟨"LuckyStolen$Text", "firstFault", "()I"⟩, 4) := ⟨⟨by decide +kernel, by decide +kernel⟩, List.mem_of_getElem? (i := 22) (by decide +kernel), List.mem_of_getElem? (i := 257) (by decide +kernel), List.mem_of_getElem? (i := 258) (by decide +kernel)⟩
theorem lw_p2 : lw_okq (⟨"LuckyStolen$Text", "fits", "(I)Z"⟩, 4) := ⟨⟨by decide +kernel, by decide +kernel⟩, List.mem_of_getElem? (i := 22) (by decide +kernel), List.mem_of_getElem? (i := 261) (by decide +kernel), List.mem_of_getElem? (i := 262) (by decide +kernel)⟩
theorem lw_p3 : lw_okq (⟨"LuckyStolen", "found", "(I)I"⟩, 8) := ⟨⟨by decide +kernel, by decide +kernel⟩, List.mem_of_getElem? (i := 14) (by decide +kernel), List.mem_of_getElem? (i := 333) (by decide +kernel), List.mem_of_getElem? (i := 334) (by decide +kernel)⟩
theorem lw_p4 : lw_okq (⟨"LuckyStolen$Yard", "tell", "(I)V"⟩, 11) := ⟨⟨by decide +kernel, by decide +kernel⟩, List.mem_of_getElem? (i := 79) (by decide +kernel), List.mem_of_getElem? (i := 372) (by decide +kernel), List.mem_of_getElem? (i := 373) (by decide +kernel)⟩
theorem lw_p5 : lw_okq (⟨"LuckyStolen$Yard", "isLawful", "(I)Z"⟩, 11) := ⟨⟨by decide +kernel, by decide +kernel⟩, List.mem_of_getElem? (i := 79) (by decide +kernel), List.mem_of_getElem? (i := 376) (by decide +kernel), List.mem_of_getElem? (i := 377) (by decide +kernel)⟩
theorem lw_p6 : lw_okq (⟨"LuckyStolen$Books", "comesOut", "(I)Z"⟩, 10) := ⟨⟨by decide +kernel, by decide +kernel⟩, List.mem_of_getElem? (i := 144) (by decide +kernel), List.mem_of_getElem? (i := 476) (by decide +kernel), List.mem_of_getElem? (i := 477) (by decide +kernel)⟩
theorem lw_p7 : lw_okq (⟨"LuckyStolen$Lets", "ceiling", "(II)I"⟩, 2) := ⟨⟨by decide +kernel, by decide +kernel⟩, List.mem_of_getElem? (i := 130) (by decide +kernel), List.mem_of_getElem? (i := 490) (by decide +kernel), List.mem_of_getElem? (i := 491) (by decide +kernel)⟩
theorem lw_p8 : lw_okq (⟨"LuckyStolen$Lets", "isWorthStealing", "(I)Z"⟩, 2) := ⟨⟨by decide +kernel, by decide +kernel⟩, List.mem_of_getElem? (i := 130) (by decide +kernel), List.mem_of_getElem? (i := 494) (by decide +kernel), List.mem_of_getElem? (i := 495) (by decide +kernel)⟩
theorem lw_p9 : lw_okq (⟨"LuckyStolen$Lets", "nightsFrom", "(II)I"⟩, 2) := ⟨⟨by decide +kernel, by decide +kernel⟩, List.mem_of_getElem? (i := 130) (by decide +kernel), List.mem_of_getElem? (i := 504) (by decide +kernel), List.mem_of_getElem? (i := 505) (by decide +kernel)⟩
theorem lw_p10 : lw_okq (⟨"LuckyStolen$Lets", "mostInLast", "(I)I"⟩, 2) := ⟨⟨by decide +kernel, by decide +kernel⟩, List.mem_of_getElem? (i := 130) (by decide +kernel), List.mem_of_getElem? (i := 508) (by decide +kernel), List.mem_of_getElem? (i := 509) (by decide +kernel)⟩
theorem lw_p11 : lw_okq (⟨"LuckyStolen$Lets", "nightsWith", "(IIII)I"⟩, 2) := ⟨⟨by decide +kernel, by decide +kernel⟩, List.mem_of_getElem? (i := 130) (by decide +kernel), List.mem_of_getElem? (i := 514) (by decide +kernel), List.mem_of_getElem? (i := 515) (by decide +kernel)⟩
theorem lw_p12 : lw_okq (⟨"LuckyStolen", "withStone", "(JI)J"⟩, 8) := ⟨⟨by decide +kernel, by decide +kernel⟩, List.mem_of_getElem? (i := 14) (by decide +kernel), List.mem_of_getElem? (i := 634) (by decide +kernel), List.mem_of_getElem? (i := 635) (by decide +kernel)⟩
theorem lw_p13 : lw_okq (⟨"LuckyStolen", "withHouse", "(JI)J"⟩, 8) := ⟨⟨by decide +kernel, by decide +kernel⟩, List.mem_of_getElem? (i := 14) (by decide +kernel), List.mem_of_getElem? (i := 640) (by decide +kernel), List.mem_of_getElem? (i := 641) (by decide +kernel)⟩
theorem lw_p14 : lw_okq (⟨"LuckyStolenModel", "met", "(I)I"⟩, 26) := ⟨⟨by decide +kernel, by decide +kernel⟩, List.mem_of_getElem? (i := 655) (by decide +kernel), List.mem_of_getElem? (i := 752) (by decide +kernel), List.mem_of_getElem? (i := 753) (by decide +kernel)⟩
theorem lw_p15 : lw_okq (⟨"LuckyStolenModel", "lacks", "(III)I"⟩, 26) := ⟨⟨by decide +kernel, by decide +kernel⟩, List.mem_of_getElem? (i := 655) (by decide +kernel), List.mem_of_getElem? (i := 764) (by decide +kernel), List.mem_of_getElem? (i := 765) (by decide +kernel)⟩
def lw_privs_1 : List (MethodName × Nat) := [(⟨"LuckyStolen$Text", "lookThrough", "()V"⟩, 4), (⟨"LuckyStolen$Text", "firstFault", "()I"⟩, 4), (⟨"LuckyStolen$Text", "fits", "(I)Z"⟩, 4), (⟨"LuckyStolen", "found", "(I)I"⟩, 8), (⟨"LuckyStolen$Yard", "tell", "(I)V"⟩, 11), (⟨"LuckyStolen$Yard", "isLawful", "(I)Z"⟩, 11), (⟨"LuckyStolen$Books", "comesOut", "(I)Z"⟩, 10), (⟨"LuckyStolen$Lets", "ceiling", "(II)I"⟩, 2), (⟨"LuckyStolen$Lets", "isWorthStealing", "(I)Z"⟩, 2), (⟨"LuckyStolen$Lets", "nightsFrom", "(II)I"⟩, 2), (⟨"LuckyStolen$Lets", "mostInLast", "(I)I"⟩, 2), (⟨"LuckyStolen$Lets", "nightsWith", "(IIII)I"⟩, 2), (⟨"LuckyStolen", "withStone", "(JI)J"⟩, 8), (⟨"LuckyStolen", "withHouse", "(JI)J"⟩, 8), (⟨"LuckyStolenModel", "met", "(I)I"⟩, 26), (⟨"LuckyStolenModel", "lacks", "(III)I"⟩, 26)]
theorem lw_r1 : ∀ q ∈ lw_privs_1, lw_okq q := List.forall_mem_cons.mpr ⟨lw_p0, List.forall_mem_cons.mpr ⟨lw_p1, List.forall_mem_cons.mpr ⟨lw_p2, List.forall_mem_cons.mpr ⟨lw_p3, List.forall_mem_cons.mpr ⟨lw_p4, List.forall_mem_cons.mpr ⟨lw_p5, List.forall_mem_cons.mpr ⟨lw_p6, List.forall_mem_cons.mpr ⟨lw_p7, List.forall_mem_cons.mpr ⟨lw_p8, List.forall_mem_cons.mpr ⟨lw_p9, List.forall_mem_cons.mpr ⟨lw_p10, List.forall_mem_cons.mpr ⟨lw_p11, List.forall_mem_cons.mpr ⟨lw_p12, List.forall_mem_cons.mpr ⟨lw_p13, List.forall_mem_cons.mpr ⟨lw_p14, List.forall_mem_cons.mpr ⟨lw_p15, fun _ h => absurd h List.not_mem_nil⟩⟩⟩⟩⟩⟩⟩⟩⟩⟩⟩⟩⟩⟩⟩⟩
theorem lw_p16 : lw_okq (⟨"LuckyStolenModel", "reads", "()I"⟩, 26) := ⟨⟨by decide +kernel, by decide +kernel⟩, List.mem_of_getElem? (i := 655) (by decide +kernel), List.mem_of_getElem? (i := 793) (by decide +kernel), List.mem_of_getElem? (i := 794) (by decide +kernel)⟩
theorem lw_p17 : lw_okq (⟨"LuckyStolenModel", "here", "()I"⟩, 26) := ⟨⟨by decide +kernel, by decide +kernel⟩, List.mem_of_getElem? (i := 655) (by decide +kernel), List.mem_of_getElem? (i := 797) (by decide +kernel), List.mem_of_getElem? (i := 798) (by decide +kernel)⟩
theorem lw_p18 : lw_okq (⟨"LuckyStolenModel", "none", "()I"⟩, 26) := ⟨⟨by decide +kernel, by decide +kernel⟩, List.mem_of_getElem? (i := 655) (by decide +kernel), List.mem_of_getElem? (i := 805) (by decide +kernel), List.mem_of_getElem? (i := 806) (by decide +kernel)⟩
theorem lw_p19 : lw_okq (⟨"LuckyStolenModel", "isStone", "(I)Z"⟩, 26) := ⟨⟨by decide +kernel, by decide +kernel⟩, List.mem_of_getElem? (i := 655) (by decide +kernel), List.mem_of_getElem? (i := 813) (by decide +kernel), List.mem_of_getElem? (i := 814) (by decide +kernel)⟩
theorem lw_p20 : lw_okq (⟨"LuckyStolenModel", "stoneOf", "(II)I"⟩, 26) := ⟨⟨by decide +kernel, by decide +kernel⟩, List.mem_of_getElem? (i := 655) (by decide +kernel), List.mem_of_getElem? (i := 820) (by decide +kernel), List.mem_of_getElem? (i := 821) (by decide +kernel)⟩
theorem lw_p21 : lw_okq (⟨"LuckyStolenModel", "isLate", "(I)Z"⟩, 26) := ⟨⟨by decide +kernel, by decide +kernel⟩, List.mem_of_getElem? (i := 655) (by decide +kernel), List.mem_of_getElem? (i := 834) (by decide +kernel), List.mem_of_getElem? (i := 835) (by decide +kernel)⟩
theorem lw_p22 : lw_okq (⟨"LuckyStolenModel", "goes", "(II)V"⟩, 26) := ⟨⟨by decide +kernel, by decide +kernel⟩, List.mem_of_getElem? (i := 655) (by decide +kernel), List.mem_of_getElem? (i := 854) (by decide +kernel), List.mem_of_getElem? (i := 855) (by decide +kernel)⟩
theorem lw_p23 : lw_okq (⟨"LuckyStolenModel", "begins", "()V"⟩, 26) := ⟨⟨by decide +kernel, by decide +kernel⟩, List.mem_of_getElem? (i := 655) (by decide +kernel), List.mem_of_getElem? (i := 858) (by decide +kernel), List.mem_of_getElem? (i := 859) (by decide +kernel)⟩
theorem lw_p24 : lw_okq (⟨"LuckyStolenModel", "isLawful", "(I)Z"⟩, 26) := ⟨⟨by decide +kernel, by decide +kernel⟩, List.mem_of_getElem? (i := 655) (by decide +kernel), List.mem_of_getElem? (i := 862) (by decide +kernel), List.mem_of_getElem? (i := 863) (by decide +kernel)⟩
theorem lw_p25 : lw_okq (⟨"LuckyStolenModel", "does", "(I)V"⟩, 26) := ⟨⟨by decide +kernel, by decide +kernel⟩, List.mem_of_getElem? (i := 655) (by decide +kernel), List.mem_of_getElem? (i := 866) (by decide +kernel), List.mem_of_getElem? (i := 867) (by decide +kernel)⟩
theorem lw_p26 : lw_okq (⟨"LuckyStolenModel", "isTrue", "(I)Z"⟩, 26) := ⟨⟨by decide +kernel, by decide +kernel⟩, List.mem_of_getElem? (i := 655) (by decide +kernel), List.mem_of_getElem? (i := 870) (by decide +kernel), List.mem_of_getElem? (i := 871) (by decide +kernel)⟩
theorem lw_p27 : lw_okq (⟨"LuckyStolenModel", "stateOf", "(III)I"⟩, 26) := ⟨⟨by decide +kernel, by decide +kernel⟩, List.mem_of_getElem? (i := 655) (by decide +kernel), List.mem_of_getElem? (i := 882) (by decide +kernel), List.mem_of_getElem? (i := 883) (by decide +kernel)⟩
theorem lw_p28 : lw_okq (⟨"LuckyStolenModel", "isLucky", "(II)Z"⟩, 26) := ⟨⟨by decide +kernel, by decide +kernel⟩, List.mem_of_getElem? (i := 655) (by decide +kernel), List.mem_of_getElem? (i := 886) (by decide +kernel), List.mem_of_getElem? (i := 887) (by decide +kernel)⟩
theorem lw_p29 : lw_okq (⟨"LuckyStolenModel", "leftAt", "(II)I"⟩, 26) := ⟨⟨by decide +kernel, by decide +kernel⟩, List.mem_of_getElem? (i := 655) (by decide +kernel), List.mem_of_getElem? (i := 890) (by decide +kernel), List.mem_of_getElem? (i := 891) (by decide +kernel)⟩
theorem lw_p30 : lw_okq (⟨"LuckyStolenModel", "luckOf", "(III)I"⟩, 26) := ⟨⟨by decide +kernel, by decide +kernel⟩, List.mem_of_getElem? (i := 655) (by decide +kernel), List.mem_of_getElem? (i := 898) (by decide +kernel), List.mem_of_getElem? (i := 899) (by decide +kernel)⟩
theorem lw_p31 : lw_okq (⟨"LuckyStolenModel", "luckNow", "(II)I"⟩, 26) := ⟨⟨by decide +kernel, by decide +kernel⟩, List.mem_of_getElem? (i := 655) (by decide +kernel), List.mem_of_getElem? (i := 902) (by decide +kernel), List.mem_of_getElem? (i := 903) (by decide +kernel)⟩
def lw_privs_2 : List (MethodName × Nat) := [(⟨"LuckyStolenModel", "reads", "()I"⟩, 26), (⟨"LuckyStolenModel", "here", "()I"⟩, 26), (⟨"LuckyStolenModel", "none", "()I"⟩, 26), (⟨"LuckyStolenModel", "isStone", "(I)Z"⟩, 26), (⟨"LuckyStolenModel", "stoneOf", "(II)I"⟩, 26), (⟨"LuckyStolenModel", "isLate", "(I)Z"⟩, 26), (⟨"LuckyStolenModel", "goes", "(II)V"⟩, 26), (⟨"LuckyStolenModel", "begins", "()V"⟩, 26), (⟨"LuckyStolenModel", "isLawful", "(I)Z"⟩, 26), (⟨"LuckyStolenModel", "does", "(I)V"⟩, 26), (⟨"LuckyStolenModel", "isTrue", "(I)Z"⟩, 26), (⟨"LuckyStolenModel", "stateOf", "(III)I"⟩, 26), (⟨"LuckyStolenModel", "isLucky", "(II)Z"⟩, 26), (⟨"LuckyStolenModel", "leftAt", "(II)I"⟩, 26), (⟨"LuckyStolenModel", "luckOf", "(III)I"⟩, 26), (⟨"LuckyStolenModel", "luckNow", "(II)I"⟩, 26)]
theorem lw_r2 : ∀ q ∈ lw_privs_2, lw_okq q := List.forall_mem_cons.mpr ⟨lw_p16, List.forall_mem_cons.mpr ⟨lw_p17, List.forall_mem_cons.mpr ⟨lw_p18, List.forall_mem_cons.mpr ⟨lw_p19, List.forall_mem_cons.mpr ⟨lw_p20, List.forall_mem_cons.mpr ⟨lw_p21, List.forall_mem_cons.mpr ⟨lw_p22, List.forall_mem_cons.mpr ⟨lw_p23, List.forall_mem_cons.mpr ⟨lw_p24, List.forall_mem_cons.mpr ⟨lw_p25, List.forall_mem_cons.mpr ⟨lw_p26, List.forall_mem_cons.mpr ⟨lw_p27, List.forall_mem_cons.mpr ⟨lw_p28, List.forall_mem_cons.mpr ⟨lw_p29, List.forall_mem_cons.mpr ⟨lw_p30, List.forall_mem_cons.mpr ⟨lw_p31, fun _ h => absurd h List.not_mem_nil⟩⟩⟩⟩⟩⟩⟩⟩⟩⟩⟩⟩⟩⟩⟩⟩
theorem lw_p32 : lw_okq (⟨"LuckyStolenModel", "daysOf", "(IIII)I"⟩, 26) := ⟨⟨by decide +kernel, by decide +kernel⟩, List.mem_of_getElem? (i := 655) (by decide +kernel), List.mem_of_getElem? (i := 911) (by decide +kernel), List.mem_of_getElem? (i := 912) (by decide +kernel)⟩
theorem lw_p33 : lw_okq (⟨"LuckyStolenModel", "ledOf", "(III)I"⟩, 26) := ⟨⟨by decide +kernel, by decide +kernel⟩, List.mem_of_getElem? (i := 655) (by decide +kernel), List.mem_of_getElem? (i := 919) (by decide +kernel), List.mem_of_getElem? (i := 920) (by decide +kernel)⟩
theorem lw_p34 : lw_okq (⟨"LuckyStolenModel", "withoutOf", "(II)I"⟩, 26) := ⟨⟨by decide +kernel, by decide +kernel⟩, List.mem_of_getElem? (i := 655) (by decide +kernel), List.mem_of_getElem? (i := 927) (by decide +kernel), List.mem_of_getElem? (i := 928) (by decide +kernel)⟩
theorem lw_p35 : lw_okq (⟨"LuckyStolenModel", "fittingOf", "(I)I"⟩, 26) := ⟨⟨by decide +kernel, by decide +kernel⟩, List.mem_of_getElem? (i := 655) (by decide +kernel), List.mem_of_getElem? (i := 944) (by decide +kernel), List.mem_of_getElem? (i := 945) (by decide +kernel)⟩
theorem lw_p36 : lw_okq (⟨"LuckyStolenModel", "letsOf", "(III)I"⟩, 26) := ⟨⟨by decide +kernel, by decide +kernel⟩, List.mem_of_getElem? (i := 655) (by decide +kernel), List.mem_of_getElem? (i := 955) (by decide +kernel), List.mem_of_getElem? (i := 956) (by decide +kernel)⟩
theorem lw_p37 : lw_okq (⟨"LuckyStolenModel", "mayPick", "(II)Z"⟩, 26) := ⟨⟨by decide +kernel, by decide +kernel⟩, List.mem_of_getElem? (i := 655) (by decide +kernel), List.mem_of_getElem? (i := 959) (by decide +kernel), List.mem_of_getElem? (i := 960) (by decide +kernel)⟩
theorem lw_p38 : lw_okq (⟨"LuckyStolenModel", "copies", "(I)V"⟩, 26) := ⟨⟨by decide +kernel, by decide +kernel⟩, List.mem_of_getElem? (i := 655) (by decide +kernel), List.mem_of_getElem? (i := 963) (by decide +kernel), List.mem_of_getElem? (i := 964) (by decide +kernel)⟩
theorem lw_p39 : lw_okq (⟨"LuckyStolenModel", "lucky", "(II)I"⟩, 26) := ⟨⟨by decide +kernel, by decide +kernel⟩, List.mem_of_getElem? (i := 655) (by decide +kernel), List.mem_of_getElem? (i := 967) (by decide +kernel), List.mem_of_getElem? (i := 968) (by decide +kernel)⟩
theorem lw_p40 : lw_okq (⟨"LuckyStolenModel", "robsOf", "(III)I"⟩, 26) := ⟨⟨by decide +kernel, by decide +kernel⟩, List.mem_of_getElem? (i := 655) (by decide +kernel), List.mem_of_getElem? (i := 977) (by decide +kernel), List.mem_of_getElem? (i := 978) (by decide +kernel)⟩
theorem lw_p41 : lw_okq (⟨"LuckyStolenModel", "chanceOf", "(III)J"⟩, 26) := ⟨⟨by decide +kernel, by decide +kernel⟩, List.mem_of_getElem? (i := 655) (by decide +kernel), List.mem_of_getElem? (i := 991) (by decide +kernel), List.mem_of_getElem? (i := 992) (by decide +kernel)⟩
theorem lw_p42 : lw_okq (⟨"LuckyStolenModel", "waitsOf", "(II)J"⟩, 26) := ⟨⟨by decide +kernel, by decide +kernel⟩, List.mem_of_getElem? (i := 655) (by decide +kernel), List.mem_of_getElem? (i := 1009) (by decide +kernel), List.mem_of_getElem? (i := 1010) (by decide +kernel)⟩
theorem lw_p43 : lw_okq (⟨"LuckyStolenModel", "thiefOf", "(III)I"⟩, 26) := ⟨⟨by decide +kernel, by decide +kernel⟩, List.mem_of_getElem? (i := 655) (by decide +kernel), List.mem_of_getElem? (i := 1025) (by decide +kernel), List.mem_of_getElem? (i := 1026) (by decide +kernel)⟩
def lw_privs_3 : List (MethodName × Nat) := [(⟨"LuckyStolenModel", "daysOf", "(IIII)I"⟩, 26), (⟨"LuckyStolenModel", "ledOf", "(III)I"⟩, 26), (⟨"LuckyStolenModel", "withoutOf", "(II)I"⟩, 26), (⟨"LuckyStolenModel", "fittingOf", "(I)I"⟩, 26), (⟨"LuckyStolenModel", "letsOf", "(III)I"⟩, 26), (⟨"LuckyStolenModel", "mayPick", "(II)Z"⟩, 26), (⟨"LuckyStolenModel", "copies", "(I)V"⟩, 26), (⟨"LuckyStolenModel", "lucky", "(II)I"⟩, 26), (⟨"LuckyStolenModel", "robsOf", "(III)I"⟩, 26), (⟨"LuckyStolenModel", "chanceOf", "(III)J"⟩, 26), (⟨"LuckyStolenModel", "waitsOf", "(II)J"⟩, 26), (⟨"LuckyStolenModel", "thiefOf", "(III)I"⟩, 26)]
theorem lw_r3 : ∀ q ∈ lw_privs_3, lw_okq q := List.forall_mem_cons.mpr ⟨lw_p32, List.forall_mem_cons.mpr ⟨lw_p33, List.forall_mem_cons.mpr ⟨lw_p34, List.forall_mem_cons.mpr ⟨lw_p35, List.forall_mem_cons.mpr ⟨lw_p36, List.forall_mem_cons.mpr ⟨lw_p37, List.forall_mem_cons.mpr ⟨lw_p38, List.forall_mem_cons.mpr ⟨lw_p39, List.forall_mem_cons.mpr ⟨lw_p40, List.forall_mem_cons.mpr ⟨lw_p41, List.forall_mem_cons.mpr ⟨lw_p42, List.forall_mem_cons.mpr ⟨lw_p43, fun _ h => absurd h List.not_mem_nil⟩⟩⟩⟩⟩⟩⟩⟩⟩⟩⟩⟩
def lw_privs : List (MethodName × Nat) := lw_privs_1 ++ (lw_privs_2 ++ (lw_privs_3))
def lw_tbl : List Cond := k2_sels lw_privs ++ tables_1
theorem lw_privs_ok : ∀ q ∈ lw_privs, lw_okq q := by
  show ∀ q ∈ lw_privs_1 ++ (lw_privs_2 ++ (lw_privs_3)), lw_okq q
  exact List.forall_mem_append.mpr ⟨lw_r1, List.forall_mem_append.mpr ⟨lw_r2, lw_r3⟩⟩

def RX0 : String := "LuckyStolen$Books"
def TX0 : u_T := fun k => match k with
  | 0 => ("LuckyStolen$Books", "yard", "LLuckyStolen$Yard;", true)
  | 1 => ("LuckyStolen$Books", "houses", "[I", true)
  | 2 => ("LuckyStolen$Books", "nights", "[I", true)
  | 3 => ("LuckyStolen$Books", "eggs", "[I", true)
  | 4 => ("LuckyStolen$Books", "luckyIfReal", "[I", true)
  | 5 => ("LuckyStolen$Books", "size", "I", false)
  | 6 => ("LuckyStolen$Books", "sets", "I", false)
  | 7 => ("LuckyStolen$Books", "least", "I", false)
  | 8 => ("LuckyStolen$Books", "inAll", "I", false)
  | _ => ("LuckyStolen$Books", "inNone", "I", false)
def tyX0 : Nat → FieldType := fun k => match k with
  | 0 => .object "LuckyStolen$Yard"
  | 1 => .array .int
  | 2 => .array .int
  | 3 => .array .int
  | 4 => .array .int
  | 5 => .int
  | 6 => .int
  | 7 => .int
  | 8 => .int
  | _ => .int
abbrev wsX00 : List Cond := u_ws RX0 TX0 10
theorem nmX0 : ∀ a, a < 10 → ∀ b, b < 10 → a ≠ b → (TX0 a).2.1 ≠ (TX0 b).2.1 := by decide +kernel
theorem tyX0_ok : ∀ k, k < 10 → parseFieldDescriptor (TX0 k).2.2.1 = some (tyX0 k) := by decide +kernel
abbrev cX0_init : ByteArray := prog_2_method_1_code
def yX0_init : MethodName := ⟨RX0, "<init>", "(LLuckyStolen$Yard;)V"⟩
abbrev cX0_isFull : ByteArray := prog_2_method_2_code
def yX0_isFull : MethodName := ⟨RX0, "isFull", "()Z"⟩
abbrev cX0_put : ByteArray := prog_2_method_3_code
def yX0_put : MethodName := ⟨RX0, "put", "(III)I"⟩
abbrev cX0_empty : ByteArray := prog_2_method_4_code
def yX0_empty : MethodName := ⟨RX0, "empty", "()I"⟩
abbrev cX0_tryAllSets : ByteArray := prog_2_method_5_code
def yX0_tryAllSets : MethodName := ⟨RX0, "tryAllSets", "()V"⟩
abbrev cX0_comesOut : ByteArray := prog_2_method_6_code
def yX0_comesOut : MethodName := ⟨RX0, "comesOut", "(I)Z"⟩
def RX1 : String := "LuckyStolen$Guards"
def TX1 : u_T := fun k => match k with
  | _ => ("LuckyStolen$Guards", "awake", "[I", true)
def tyX1 : Nat → FieldType := fun k => match k with
  | _ => .array .int
abbrev wsX10 : List Cond := u_ws RX1 TX1 1
theorem nmX1 : ∀ a, a < 1 → ∀ b, b < 1 → a ≠ b → (TX1 a).2.1 ≠ (TX1 b).2.1 := by decide +kernel
theorem tyX1_ok : ∀ k, k < 1 → parseFieldDescriptor (TX1 k).2.2.1 = some (tyX1 k) := by decide +kernel
abbrev cX1_init : ByteArray := prog_3_method_1_code
def yX1_init : MethodName := ⟨RX1, "<init>", "()V"⟩
abbrev cX1_power : ByteArray := prog_3_method_2_code
def yX1_power : MethodName := ⟨RX1, "power", "(JI)J"⟩
abbrev cX1_lowest : ByteArray := prog_3_method_3_code
def yX1_lowest : MethodName := ⟨RX1, "lowest", "(JJI)J"⟩
abbrev cX1_leastFor : ByteArray := prog_3_method_4_code
def yX1_leastFor : MethodName := ⟨RX1, "leastFor", "(II)I"⟩
abbrev cX1_nightOfTheft : ByteArray := prog_3_method_5_code
def yX1_nightOfTheft : MethodName := ⟨RX1, "nightOfTheft", "(III)I"⟩
def RX2 : String := "LuckyStolen$Lets"
def TX2 : u_T := fun k => match k with
  | 0 => ("LuckyStolen$Lets", "yard", "LLuckyStolen$Yard;", true)
  | _ => ("LuckyStolen$Lets", "picked", "I", false)
def tyX2 : Nat → FieldType := fun k => match k with
  | 0 => .object "LuckyStolen$Yard"
  | _ => .int
abbrev wsX20 : List Cond := u_ws RX2 TX2 2
theorem nmX2 : ∀ a, a < 2 → ∀ b, b < 2 → a ≠ b → (TX2 a).2.1 ≠ (TX2 b).2.1 := by decide +kernel
theorem tyX2_ok : ∀ k, k < 2 → parseFieldDescriptor (TX2 k).2.2.1 = some (tyX2 k) := by decide +kernel
abbrev cX2_init : ByteArray := prog_4_method_1_code
def yX2_init : MethodName := ⟨RX2, "<init>", "(LLuckyStolen$Yard;)V"⟩
abbrev cX2_mostNights : ByteArray := prog_4_method_2_code
def yX2_mostNights : MethodName := ⟨RX2, "mostNights", "(II)I"⟩
abbrev cX2_isWorthStealing : ByteArray := prog_4_method_3_code
def yX2_isWorthStealing : MethodName := ⟨RX2, "isWorthStealing", "(I)Z"⟩
abbrev cX2_ceiling : ByteArray := prog_4_method_4_code
def yX2_ceiling : MethodName := ⟨RX2, "ceiling", "(II)I"⟩
abbrev cX2_nightsWith : ByteArray := prog_4_method_5_code
def yX2_nightsWith : MethodName := ⟨RX2, "nightsWith", "(IIII)I"⟩
abbrev cX2_nightsFrom : ByteArray := prog_4_method_6_code
def yX2_nightsFrom : MethodName := ⟨RX2, "nightsFrom", "(II)I"⟩
abbrev cX2_mostInLast : ByteArray := prog_4_method_7_code
def yX2_mostInLast : MethodName := ⟨RX2, "mostInLast", "(I)I"⟩
def RX3 : String := "LuckyStolen$Sheet"
def TX3 : u_T := fun k => match k with
  | 0 => ("LuckyStolen$Sheet", "items", "[I", true)
  | 1 => ("LuckyStolen$Sheet", "form", "I", false)
  | _ => ("LuckyStolen$Sheet", "size", "I", false)
def tyX3 : Nat → FieldType := fun k => match k with
  | 0 => .array .int
  | 1 => .int
  | _ => .int
abbrev wsX30 : List Cond := u_ws RX3 TX3 3
theorem nmX3 : ∀ a, a < 3 → ∀ b, b < 3 → a ≠ b → (TX3 a).2.1 ≠ (TX3 b).2.1 := by decide +kernel
theorem tyX3_ok : ∀ k, k < 3 → parseFieldDescriptor (TX3 k).2.2.1 = some (tyX3 k) := by decide +kernel
abbrev cX3_init : ByteArray := prog_5_method_1_code
def yX3_init : MethodName := ⟨RX3, "<init>", "()V"⟩
abbrev cX3_isForm : ByteArray := prog_5_method_2_code
def yX3_isForm : MethodName := ⟨RX3, "isForm", "(I)Z"⟩
abbrev cX3_isLost : ByteArray := prog_5_method_3_code
def yX3_isLost : MethodName := ⟨RX3, "isLost", "()Z"⟩
abbrev cX3_begin : ByteArray := prog_5_method_4_code
def yX3_begin : MethodName := ⟨RX3, "begin", "(II)I"⟩
abbrev cX3_end : ByteArray := prog_5_method_5_code
def yX3_end : MethodName := ⟨RX3, "end", "()I"⟩
abbrev cX3_flawOf : ByteArray := prog_5_method_6_code
def yX3_flawOf : MethodName := ⟨RX3, "flawOf", "(II)I"⟩
abbrev cX3_hasSpan : ByteArray := prog_5_method_7_code
def yX3_hasSpan : MethodName := ⟨RX3, "hasSpan", "(II)Z"⟩
abbrev cX3_put : ByteArray := prog_5_method_8_code
def yX3_put : MethodName := ⟨RX3, "put", "(II)V"⟩
def RX4 : String := "LuckyStolen$Tale"
def TX4 : u_T := fun k => match k with
  | 0 => ("LuckyStolen$Tale", "kinds", "[I", true)
  | 1 => ("LuckyStolen$Tale", "nights", "[I", true)
  | 2 => ("LuckyStolen$Tale", "stones", "[I", true)
  | 3 => ("LuckyStolen$Tale", "houses", "[I", true)
  | 4 => ("LuckyStolen$Tale", "knowings", "[I", true)
  | _ => ("LuckyStolen$Tale", "size", "I", false)
def tyX4 : Nat → FieldType := fun k => match k with
  | 0 => .array .int
  | 1 => .array .int
  | 2 => .array .int
  | 3 => .array .int
  | 4 => .array .int
  | _ => .int
abbrev wsX40 : List Cond := u_ws RX4 TX4 6
theorem nmX4 : ∀ a, a < 6 → ∀ b, b < 6 → a ≠ b → (TX4 a).2.1 ≠ (TX4 b).2.1 := by decide +kernel
theorem tyX4_ok : ∀ k, k < 6 → parseFieldDescriptor (TX4 k).2.2.1 = some (tyX4 k) := by decide +kernel
abbrev cX4_init : ByteArray := prog_6_method_1_code
def yX4_init : MethodName := ⟨RX4, "<init>", "()V"⟩
abbrev cX4_mayBe : ByteArray := prog_6_method_2_code
def yX4_mayBe : MethodName := ⟨RX4, "mayBe", "(IIIII)Z"⟩
abbrev cX4_isFull : ByteArray := prog_6_method_3_code
def yX4_isFull : MethodName := ⟨RX4, "isFull", "()Z"⟩
abbrev cX4_put : ByteArray := prog_6_method_4_code
def yX4_put : MethodName := ⟨RX4, "put", "(IIIII)I"⟩
abbrev cX4_takeLast : ByteArray := prog_6_method_5_code
def yX4_takeLast : MethodName := ⟨RX4, "takeLast", "()I"⟩
abbrev cX4_lastNight : ByteArray := prog_6_method_6_code
def yX4_lastNight : MethodName := ⟨RX4, "lastNight", "()I"⟩
abbrev cX4_isTrueTheft : ByteArray := prog_6_method_7_code
def yX4_isTrueTheft : MethodName := ⟨RX4, "isTrueTheft", "(I)Z"⟩
def RX5 : String := "LuckyStolen$Text"
def TX5 : u_T := fun k => match k with
  | 0 => ("LuckyStolen$Text", "bytes", "[I", true)
  | 1 => ("LuckyStolen$Text", "length", "I", false)
  | 2 => ("LuckyStolen$Text", "faultPlace", "I", false)
  | _ => ("LuckyStolen$Text", "stones", "I", false)
def tyX5 : Nat → FieldType := fun k => match k with
  | 0 => .array .int
  | 1 => .int
  | 2 => .int
  | _ => .int
abbrev wsX50 : List Cond := u_ws RX5 TX5 4
theorem nmX5 : ∀ a, a < 4 → ∀ b, b < 4 → a ≠ b → (TX5 a).2.1 ≠ (TX5 b).2.1 := by decide +kernel
theorem tyX5_ok : ∀ k, k < 4 → parseFieldDescriptor (TX5 k).2.2.1 = some (tyX5 k) := by decide +kernel
abbrev cX5_init : ByteArray := prog_7_method_1_code
def yX5_init : MethodName := ⟨RX5, "<init>", "()V"⟩
abbrev cX5_put : ByteArray := prog_7_method_2_code
def yX5_put : MethodName := ⟨RX5, "put", "(I)I"⟩
abbrev cX5_empty : ByteArray := prog_7_method_3_code
def yX5_empty : MethodName := ⟨RX5, "empty", "()I"⟩
abbrev cX5_has : ByteArray := prog_7_method_4_code
def yX5_has : MethodName := ⟨RX5, "has", "(I)Z"⟩
abbrev cX5_houseOf : ByteArray := prog_7_method_5_code
def yX5_houseOf : MethodName := ⟨RX5, "houseOf", "(I)I"⟩
abbrev cX5_isForged : ByteArray := prog_7_method_6_code
def yX5_isForged : MethodName := ⟨RX5, "isForged", "(I)Z"⟩
abbrev cX5_realStones : ByteArray := prog_7_method_7_code
def yX5_realStones : MethodName := ⟨RX5, "realStones", "()I"⟩
abbrev cX5_lookThrough : ByteArray := prog_7_method_8_code
def yX5_lookThrough : MethodName := ⟨RX5, "lookThrough", "()V"⟩
abbrev cX5_firstFault : ByteArray := prog_7_method_9_code
def yX5_firstFault : MethodName := ⟨RX5, "firstFault", "()I"⟩
abbrev cX5_fits : ByteArray := prog_7_method_10_code
def yX5_fits : MethodName := ⟨RX5, "fits", "(I)Z"⟩
def RX6 : String := "LuckyStolen$Yard"
def TX6 : u_T := fun k => match k with
  | 0 => ("LuckyStolen$Yard", "text", "LLuckyStolen$Text;", true)
  | 1 => ("LuckyStolen$Yard", "tale", "LLuckyStolen$Tale;", true)
  | 2 => ("LuckyStolen$Yard", "owner", "[I", true)
  | 3 => ("LuckyStolen$Yard", "until", "[I", true)
  | 4 => ("LuckyStolen$Yard", "thefts", "[I", true)
  | 5 => ("LuckyStolen$Yard", "real", "I", false)
  | 6 => ("LuckyStolen$Yard", "nightsOfLuck", "I", false)
  | 7 => ("LuckyStolen$Yard", "told", "I", false)
  | 8 => ("LuckyStolen$Yard", "against", "I", false)
  | 9 => ("LuckyStolen$Yard", "firstAgainst", "I", false)
  | _ => ("LuckyStolen$Yard", "trueThefts", "I", false)
def tyX6 : Nat → FieldType := fun k => match k with
  | 0 => .object "LuckyStolen$Text"
  | 1 => .object "LuckyStolen$Tale"
  | 2 => .array .int
  | 3 => .array .int
  | 4 => .array .int
  | 5 => .int
  | 6 => .int
  | 7 => .int
  | 8 => .int
  | 9 => .int
  | _ => .int
abbrev wsX60 : List Cond := u_ws RX6 TX6 11
theorem nmX6 : ∀ a, a < 11 → ∀ b, b < 11 → a ≠ b → (TX6 a).2.1 ≠ (TX6 b).2.1 := by decide +kernel
theorem tyX6_ok : ∀ k, k < 11 → parseFieldDescriptor (TX6 k).2.2.1 = some (tyX6 k) := by decide +kernel
abbrev cX6_init : ByteArray := prog_8_method_1_code
def yX6_init : MethodName := ⟨RX6, "<init>", "(LLuckyStolen$Text;LLuckyStolen$Tale;)V"⟩
abbrev cX6_begin : ByteArray := prog_8_method_2_code
def yX6_begin : MethodName := ⟨RX6, "begin", "()V"⟩
abbrev cX6_tellTo : ByteArray := prog_8_method_3_code
def yX6_tellTo : MethodName := ⟨RX6, "tellTo", "(II)V"⟩
abbrev cX6_tellFromStart : ByteArray := prog_8_method_4_code
def yX6_tellFromStart : MethodName := ⟨RX6, "tellFromStart", "(I)V"⟩
abbrev cX6_tellAll : ByteArray := prog_8_method_5_code
def yX6_tellAll : MethodName := ⟨RX6, "tellAll", "()V"⟩
abbrev cX6_tell : ByteArray := prog_8_method_6_code
def yX6_tell : MethodName := ⟨RX6, "tell", "(I)V"⟩
abbrev cX6_isLawful : ByteArray := prog_8_method_7_code
def yX6_isLawful : MethodName := ⟨RX6, "isLawful", "(I)Z"⟩
abbrev cX6_isReal : ByteArray := prog_8_method_8_code
def yX6_isReal : MethodName := ⟨RX6, "isReal", "(I)Z"⟩
abbrev cX6_isLucky : ByteArray := prog_8_method_9_code
def yX6_isLucky : MethodName := ⟨RX6, "isLucky", "(II)Z"⟩
abbrev cX6_luckOf : ByteArray := prog_8_method_10_code
def yX6_luckOf : MethodName := ⟨RX6, "luckOf", "(II)I"⟩
abbrev cX6_eggsOf : ByteArray := prog_8_method_11_code
def yX6_eggsOf : MethodName := ⟨RX6, "eggsOf", "(II)I"⟩
abbrev cX6_theftBehind : ByteArray := prog_8_method_12_code
def yX6_theftBehind : MethodName := ⟨RX6, "theftBehind", "(III)I"⟩
abbrev cX6_luckyHouses : ByteArray := prog_8_method_13_code
def yX6_luckyHouses : MethodName := ⟨RX6, "luckyHouses", "(I)I"⟩
abbrev cX6_luckyDays : ByteArray := prog_8_method_14_code
def yX6_luckyDays : MethodName := ⟨RX6, "luckyDays", "(IIII)I"⟩
abbrev cX6_luckyIfReal : ByteArray := prog_8_method_15_code
def yX6_luckyIfReal : MethodName := ⟨RX6, "luckyIfReal", "(II)I"⟩
def RX7 : String := "LuckyStolen"
def TX7 : u_T := fun k => match k with
  | 0 => ("LuckyStolen", "text", "LLuckyStolen$Text;", true)
  | 1 => ("LuckyStolen", "tale", "LLuckyStolen$Tale;", true)
  | 2 => ("LuckyStolen", "yard", "LLuckyStolen$Yard;", true)
  | 3 => ("LuckyStolen", "letter", "LLuckyStolen$Lets;", true)
  | 4 => ("LuckyStolen", "books", "LLuckyStolen$Books;", true)
  | 5 => ("LuckyStolen", "guards", "LLuckyStolen$Guards;", true)
  | 6 => ("LuckyStolen", "sheets", "[LLuckyStolen$Sheet;", true)
  | _ => ("LuckyStolen", "finding", "I", false)
def tyX7 : Nat → FieldType := fun k => match k with
  | 0 => .object "LuckyStolen$Text"
  | 1 => .object "LuckyStolen$Tale"
  | 2 => .object "LuckyStolen$Yard"
  | 3 => .object "LuckyStolen$Lets"
  | 4 => .object "LuckyStolen$Books"
  | 5 => .object "LuckyStolen$Guards"
  | 6 => .array (.object "LuckyStolen$Sheet")
  | _ => .int
abbrev wsX70 : List Cond := u_ws RX7 TX7 8
theorem nmX7 : ∀ a, a < 8 → ∀ b, b < 8 → a ≠ b → (TX7 a).2.1 ≠ (TX7 b).2.1 := by decide +kernel
theorem tyX7_ok : ∀ k, k < 8 → parseFieldDescriptor (TX7 k).2.2.1 = some (tyX7 k) := by decide +kernel
abbrev cX7_init : ByteArray := prog_1_method_1_code
def yX7_init : MethodName := ⟨RX7, "<init>", "()V"⟩
abbrev cX7_type : ByteArray := prog_1_method_2_code
def yX7_type : MethodName := ⟨RX7, "type", "(I)I"⟩
abbrev cX7_wipe : ByteArray := prog_1_method_3_code
def yX7_wipe : MethodName := ⟨RX7, "wipe", "()I"⟩
abbrev cX7_fault : ByteArray := prog_1_method_4_code
def yX7_fault : MethodName := ⟨RX7, "fault", "()I"⟩
abbrev cX7_stone : ByteArray := prog_1_method_5_code
def yX7_stone : MethodName := ⟨RX7, "stone", "(II)I"⟩
abbrev cX7_lasts : ByteArray := prog_1_method_6_code
def yX7_lasts : MethodName := ⟨RX7, "lasts", "(I)I"⟩
abbrev cX7_event : ByteArray := prog_1_method_7_code
def yX7_event : MethodName := ⟨RX7, "event", "(IIIII)I"⟩
abbrev cX7_read : ByteArray := prog_1_method_8_code
def yX7_read : MethodName := ⟨RX7, "read", "(I)I"⟩
abbrev cX7_undo : ByteArray := prog_1_method_9_code
def yX7_undo : MethodName := ⟨RX7, "undo", "()I"⟩
abbrev cX7_judged : ByteArray := prog_1_method_10_code
def yX7_judged : MethodName := ⟨RX7, "judged", "()I"⟩
abbrev cX7_at : ByteArray := prog_1_method_11_code
def yX7_at : MethodName := ⟨RX7, "at", "(III)I"⟩
abbrev cX7_luck : ByteArray := prog_1_method_12_code
def yX7_luck : MethodName := ⟨RX7, "luck", "(III)I"⟩
abbrev cX7_days : ByteArray := prog_1_method_13_code
def yX7_days : MethodName := ⟨RX7, "days", "(III)I"⟩
abbrev cX7_led : ByteArray := prog_1_method_14_code
def yX7_led : MethodName := ⟨RX7, "led", "(III)I"⟩
abbrev cX7_without : ByteArray := prog_1_method_15_code
def yX7_without : MethodName := ⟨RX7, "without", "(II)I"⟩
abbrev cX7_book : ByteArray := prog_1_method_16_code
def yX7_book : MethodName := ⟨RX7, "book", "(III)I"⟩
abbrev cX7_forget : ByteArray := prog_1_method_17_code
def yX7_forget : MethodName := ⟨RX7, "forget", "()I"⟩
abbrev cX7_fitting : ByteArray := prog_1_method_18_code
def yX7_fitting : MethodName := ⟨RX7, "fitting", "(I)I"⟩
abbrev cX7_lets : ByteArray := prog_1_method_19_code
def yX7_lets : MethodName := ⟨RX7, "lets", "(III)I"⟩
abbrev cX7_robs : ByteArray := prog_1_method_20_code
def yX7_robs : MethodName := ⟨RX7, "robs", "(III)I"⟩
abbrev cX7_guard : ByteArray := prog_1_method_21_code
def yX7_guard : MethodName := ⟨RX7, "guard", "(II)I"⟩
abbrev cX7_chance : ByteArray := prog_1_method_22_code
def yX7_chance : MethodName := ⟨RX7, "chance", "(III)J"⟩
abbrev cX7_waits : ByteArray := prog_1_method_23_code
def yX7_waits : MethodName := ⟨RX7, "waits", "(II)J"⟩
abbrev cX7_careless : ByteArray := prog_1_method_24_code
def yX7_careless : MethodName := ⟨RX7, "careless", "(II)I"⟩
abbrev cX7_thief : ByteArray := prog_1_method_25_code
def yX7_thief : MethodName := ⟨RX7, "thief", "(III)I"⟩
abbrev cX7_sheet : ByteArray := prog_1_method_26_code
def yX7_sheet : MethodName := ⟨RX7, "sheet", "(III)I"⟩
abbrev cX7_lose : ByteArray := prog_1_method_27_code
def yX7_lose : MethodName := ⟨RX7, "lose", "(I)I"⟩
abbrev cX7_lay : ByteArray := prog_1_method_28_code
def yX7_lay : MethodName := ⟨RX7, "lay", "(IIII)I"⟩
abbrev cX7_get : ByteArray := prog_1_method_29_code
def yX7_get : MethodName := ⟨RX7, "get", "(III)I"⟩
abbrev cX7_copy : ByteArray := prog_1_method_30_code
def yX7_copy : MethodName := ⟨RX7, "copy", "(IIIII)I"⟩
abbrev cX7_write : ByteArray := prog_1_method_31_code
def yX7_write : MethodName := ⟨RX7, "write", "(III)I"⟩
abbrev cX7_count : ByteArray := prog_1_method_32_code
def yX7_count : MethodName := ⟨RX7, "count", "(I)I"⟩
abbrev cX7_digest : ByteArray := prog_1_method_33_code
def yX7_digest : MethodName := ⟨RX7, "digest", "()J"⟩
abbrev cX7_withStone : ByteArray := prog_1_method_34_code
def yX7_withStone : MethodName := ⟨RX7, "withStone", "(JI)J"⟩
abbrev cX7_withHouse : ByteArray := prog_1_method_35_code
def yX7_withHouse : MethodName := ⟨RX7, "withHouse", "(JI)J"⟩
abbrev cX7_found : ByteArray := prog_1_method_36_code
def yX7_found : MethodName := ⟨RX7, "found", "(I)I"⟩
abbrev cX7_within : ByteArray := prog_1_method_37_code
def yX7_within : MethodName := ⟨RX7, "within", "(II)Z"⟩
abbrev cX7_isHouse : ByteArray := prog_1_method_38_code
def yX7_isHouse : MethodName := ⟨RX7, "isHouse", "(I)Z"⟩
abbrev cX7_isSheet : ByteArray := prog_1_method_39_code
def yX7_isSheet : MethodName := ⟨RX7, "isSheet", "(I)Z"⟩
def RX8 : String := "LuckyStolenModel"
def TX8 : u_T := fun k => match k with
  | 0 => ("LuckyStolenModel", "forms", "[I", true)
  | 1 => ("LuckyStolenModel", "sizes", "[I", true)
  | 2 => ("LuckyStolenModel", "items", "[I", true)
  | 3 => ("LuckyStolenModel", "moved", "[I", true)
  | 4 => ("LuckyStolenModel", "latest", "I", false)
  | 5 => ("LuckyStolenModel", "text", "[I", true)
  | 6 => ("LuckyStolenModel", "typed", "I", false)
  | 7 => ("LuckyStolenModel", "at", "I", false)
  | 8 => ("LuckyStolenModel", "stones", "I", false)
  | 9 => ("LuckyStolenModel", "first", "[I", true)
  | 10 => ("LuckyStolenModel", "forged", "I", false)
  | 11 => ("LuckyStolenModel", "lasting", "I", false)
  | 12 => ("LuckyStolenModel", "events", "I", false)
  | 13 => ("LuckyStolenModel", "told", "[I", true)
  | 14 => ("LuckyStolenModel", "where", "[I", true)
  | 15 => ("LuckyStolenModel", "since", "[I", true)
  | 16 => ("LuckyStolenModel", "by", "[I", true)
  | 17 => ("LuckyStolenModel", "against", "I", false)
  | 18 => ("LuckyStolenModel", "firstAgainst", "I", false)
  | 19 => ("LuckyStolenModel", "thefts", "I", false)
  | 20 => ("LuckyStolenModel", "books", "I", false)
  | 21 => ("LuckyStolenModel", "written", "[I", true)
  | 22 => ("LuckyStolenModel", "would", "[I", true)
  | 23 => ("LuckyStolenModel", "pick", "[I", true)
  | 24 => ("LuckyStolenModel", "sumTo", "[I", true)
  | _ => ("LuckyStolenModel", "guards", "[I", true)
def tyX8 : Nat → FieldType := fun k => match k with
  | 0 => .array .int
  | 1 => .array .int
  | 2 => .array .int
  | 3 => .array .int
  | 4 => .int
  | 5 => .array .int
  | 6 => .int
  | 7 => .int
  | 8 => .int
  | 9 => .array .int
  | 10 => .int
  | 11 => .int
  | 12 => .int
  | 13 => .array .int
  | 14 => .array .int
  | 15 => .array .int
  | 16 => .array .int
  | 17 => .int
  | 18 => .int
  | 19 => .int
  | 20 => .int
  | 21 => .array .int
  | 22 => .array .int
  | 23 => .array .int
  | 24 => .array .int
  | _ => .array .int
abbrev wsX80 : List Cond := u_ws RX8 TX8 26
theorem nmX8 : ∀ a, a < 26 → ∀ b, b < 26 → a ≠ b → (TX8 a).2.1 ≠ (TX8 b).2.1 := by decide +kernel
theorem tyX8_ok : ∀ k, k < 26 → parseFieldDescriptor (TX8 k).2.2.1 = some (tyX8 k) := by decide +kernel
abbrev cX8_init : ByteArray := prog_10_method_1_code
def yX8_init : MethodName := ⟨RX8, "<init>", "()V"⟩
abbrev cX8_in : ByteArray := prog_10_method_3_code
def yX8_in : MethodName := ⟨RX8, "in", "(JJJ)Z"⟩
abbrev cX8_no : ByteArray := prog_10_method_4_code
def yX8_no : MethodName := ⟨RX8, "no", "(I)J"⟩
abbrev cX8_isTwo : ByteArray := prog_10_method_5_code
def yX8_isTwo : MethodName := ⟨RX8, "isTwo", "(I)Z"⟩
abbrev cX8_ones : ByteArray := prog_10_method_6_code
def yX8_ones : MethodName := ⟨RX8, "ones", "(I)I"⟩
abbrev cX8_met : ByteArray := prog_10_method_7_code
def yX8_met : MethodName := ⟨RX8, "met", "(I)I"⟩
abbrev cX8_isSheet : ByteArray := prog_10_method_8_code
def yX8_isSheet : MethodName := ⟨RX8, "isSheet", "(I)Z"⟩
abbrev cX8_sheet : ByteArray := prog_10_method_9_code
def yX8_sheet : MethodName := ⟨RX8, "sheet", "(III)I"⟩
abbrev cX8_lose : ByteArray := prog_10_method_10_code
def yX8_lose : MethodName := ⟨RX8, "lose", "(I)I"⟩
abbrev cX8_lacks : ByteArray := prog_10_method_11_code
def yX8_lacks : MethodName := ⟨RX8, "lacks", "(III)I"⟩
abbrev cX8_cut : ByteArray := prog_10_method_12_code
def yX8_cut : MethodName := ⟨RX8, "cut", "(II)I"⟩
abbrev cX8_lay : ByteArray := prog_10_method_13_code
def yX8_lay : MethodName := ⟨RX8, "lay", "(IIII)I"⟩
abbrev cX8_get : ByteArray := prog_10_method_14_code
def yX8_get : MethodName := ⟨RX8, "get", "(III)I"⟩
abbrev cX8_copy : ByteArray := prog_10_method_15_code
def yX8_copy : MethodName := ⟨RX8, "copy", "(IIIII)I"⟩
abbrev cX8_type : ByteArray := prog_10_method_16_code
def yX8_type : MethodName := ⟨RX8, "type", "(I)I"⟩
abbrev cX8_wipe : ByteArray := prog_10_method_17_code
def yX8_wipe : MethodName := ⟨RX8, "wipe", "()I"⟩
abbrev cX8_here : ByteArray := prog_10_method_18_code
def yX8_here : MethodName := ⟨RX8, "here", "()I"⟩
abbrev cX8_isHouse : ByteArray := prog_10_method_19_code
def yX8_isHouse : MethodName := ⟨RX8, "isHouse", "(I)Z"⟩
abbrev cX8_none : ByteArray := prog_10_method_20_code
def yX8_none : MethodName := ⟨RX8, "none", "()I"⟩
abbrev cX8_reads : ByteArray := prog_10_method_21_code
def yX8_reads : MethodName := ⟨RX8, "reads", "()I"⟩
abbrev cX8_fault : ByteArray := prog_10_method_22_code
def yX8_fault : MethodName := ⟨RX8, "fault", "()I"⟩
abbrev cX8_isStone : ByteArray := prog_10_method_23_code
def yX8_isStone : MethodName := ⟨RX8, "isStone", "(I)Z"⟩
abbrev cX8_stoneOf : ByteArray := prog_10_method_24_code
def yX8_stoneOf : MethodName := ⟨RX8, "stoneOf", "(II)I"⟩
abbrev cX8_stone : ByteArray := prog_10_method_25_code
def yX8_stone : MethodName := ⟨RX8, "stone", "(II)I"⟩
abbrev cX8_lasts : ByteArray := prog_10_method_26_code
def yX8_lasts : MethodName := ⟨RX8, "lasts", "(I)I"⟩
abbrev cX8_isLate : ByteArray := prog_10_method_27_code
def yX8_isLate : MethodName := ⟨RX8, "isLate", "(I)Z"⟩
abbrev cX8_event : ByteArray := prog_10_method_28_code
def yX8_event : MethodName := ⟨RX8, "event", "(IIIII)I"⟩
abbrev cX8_read : ByteArray := prog_10_method_29_code
def yX8_read : MethodName := ⟨RX8, "read", "(I)I"⟩
abbrev cX8_undo : ByteArray := prog_10_method_30_code
def yX8_undo : MethodName := ⟨RX8, "undo", "()I"⟩
abbrev cX8_begins : ByteArray := prog_10_method_31_code
def yX8_begins : MethodName := ⟨RX8, "begins", "()V"⟩
abbrev cX8_isLawful : ByteArray := prog_10_method_32_code
def yX8_isLawful : MethodName := ⟨RX8, "isLawful", "(I)Z"⟩
abbrev cX8_isTrue : ByteArray := prog_10_method_33_code
def yX8_isTrue : MethodName := ⟨RX8, "isTrue", "(I)Z"⟩
abbrev cX8_does : ByteArray := prog_10_method_34_code
def yX8_does : MethodName := ⟨RX8, "does", "(I)V"⟩
abbrev cX8_goes : ByteArray := prog_10_method_35_code
def yX8_goes : MethodName := ⟨RX8, "goes", "(II)V"⟩
abbrev cX8_judged : ByteArray := prog_10_method_36_code
def yX8_judged : MethodName := ⟨RX8, "judged", "()I"⟩
abbrev cX8_leftAt : ByteArray := prog_10_method_37_code
def yX8_leftAt : MethodName := ⟨RX8, "leftAt", "(II)I"⟩
abbrev cX8_isLucky : ByteArray := prog_10_method_38_code
def yX8_isLucky : MethodName := ⟨RX8, "isLucky", "(II)Z"⟩
abbrev cX8_isNight : ByteArray := prog_10_method_39_code
def yX8_isNight : MethodName := ⟨RX8, "isNight", "(I)Z"⟩
abbrev cX8_stateOf : ByteArray := prog_10_method_40_code
def yX8_stateOf : MethodName := ⟨RX8, "stateOf", "(III)I"⟩
abbrev cX8_at : ByteArray := prog_10_method_41_code
def yX8_at : MethodName := ⟨RX8, "at", "(III)I"⟩
abbrev cX8_luckNow : ByteArray := prog_10_method_42_code
def yX8_luckNow : MethodName := ⟨RX8, "luckNow", "(II)I"⟩
abbrev cX8_luckOf : ByteArray := prog_10_method_43_code
def yX8_luckOf : MethodName := ⟨RX8, "luckOf", "(III)I"⟩
abbrev cX8_luck : ByteArray := prog_10_method_44_code
def yX8_luck : MethodName := ⟨RX8, "luck", "(III)I"⟩
abbrev cX8_daysOf : ByteArray := prog_10_method_45_code
def yX8_daysOf : MethodName := ⟨RX8, "daysOf", "(IIII)I"⟩
abbrev cX8_days : ByteArray := prog_10_method_46_code
def yX8_days : MethodName := ⟨RX8, "days", "(III)I"⟩
abbrev cX8_ledOf : ByteArray := prog_10_method_47_code
def yX8_ledOf : MethodName := ⟨RX8, "ledOf", "(III)I"⟩
abbrev cX8_led : ByteArray := prog_10_method_48_code
def yX8_led : MethodName := ⟨RX8, "led", "(III)I"⟩
abbrev cX8_withoutOf : ByteArray := prog_10_method_49_code
def yX8_withoutOf : MethodName := ⟨RX8, "withoutOf", "(II)I"⟩
abbrev cX8_without : ByteArray := prog_10_method_50_code
def yX8_without : MethodName := ⟨RX8, "without", "(II)I"⟩
abbrev cX8_book : ByteArray := prog_10_method_51_code
def yX8_book : MethodName := ⟨RX8, "book", "(III)I"⟩
abbrev cX8_forget : ByteArray := prog_10_method_52_code
def yX8_forget : MethodName := ⟨RX8, "forget", "()I"⟩
abbrev cX8_fittingOf : ByteArray := prog_10_method_53_code
def yX8_fittingOf : MethodName := ⟨RX8, "fittingOf", "(I)I"⟩
abbrev cX8_fitting : ByteArray := prog_10_method_54_code
def yX8_fitting : MethodName := ⟨RX8, "fitting", "(I)I"⟩
abbrev cX8_copies : ByteArray := prog_10_method_55_code
def yX8_copies : MethodName := ⟨RX8, "copies", "(I)V"⟩
abbrev cX8_lucky : ByteArray := prog_10_method_56_code
def yX8_lucky : MethodName := ⟨RX8, "lucky", "(II)I"⟩
abbrev cX8_mayPick : ByteArray := prog_10_method_57_code
def yX8_mayPick : MethodName := ⟨RX8, "mayPick", "(II)Z"⟩
abbrev cX8_letsOf : ByteArray := prog_10_method_58_code
def yX8_letsOf : MethodName := ⟨RX8, "letsOf", "(III)I"⟩
abbrev cX8_lets : ByteArray := prog_10_method_59_code
def yX8_lets : MethodName := ⟨RX8, "lets", "(III)I"⟩
abbrev cX8_robsOf : ByteArray := prog_10_method_60_code
def yX8_robsOf : MethodName := ⟨RX8, "robsOf", "(III)I"⟩
abbrev cX8_robs : ByteArray := prog_10_method_61_code
def yX8_robs : MethodName := ⟨RX8, "robs", "(III)I"⟩
abbrev cX8_guard : ByteArray := prog_10_method_62_code
def yX8_guard : MethodName := ⟨RX8, "guard", "(II)I"⟩
abbrev cX8_power : ByteArray := prog_10_method_63_code
def yX8_power : MethodName := ⟨RX8, "power", "(JI)J"⟩
abbrev cX8_part : ByteArray := prog_10_method_64_code
def yX8_part : MethodName := ⟨RX8, "part", "(JJI)J"⟩
abbrev cX8_chanceOf : ByteArray := prog_10_method_65_code
def yX8_chanceOf : MethodName := ⟨RX8, "chanceOf", "(III)J"⟩
abbrev cX8_chance : ByteArray := prog_10_method_66_code
def yX8_chance : MethodName := ⟨RX8, "chance", "(III)J"⟩
abbrev cX8_waitsOf : ByteArray := prog_10_method_67_code
def yX8_waitsOf : MethodName := ⟨RX8, "waitsOf", "(II)J"⟩
abbrev cX8_waits : ByteArray := prog_10_method_68_code
def yX8_waits : MethodName := ⟨RX8, "waits", "(II)J"⟩
abbrev cX8_carelessOf : ByteArray := prog_10_method_69_code
def yX8_carelessOf : MethodName := ⟨RX8, "carelessOf", "(II)I"⟩
abbrev cX8_careless : ByteArray := prog_10_method_70_code
def yX8_careless : MethodName := ⟨RX8, "careless", "(II)I"⟩
abbrev cX8_thiefOf : ByteArray := prog_10_method_71_code
def yX8_thiefOf : MethodName := ⟨RX8, "thiefOf", "(III)I"⟩
abbrev cX8_thief : ByteArray := prog_10_method_72_code
def yX8_thief : MethodName := ⟨RX8, "thief", "(III)I"⟩
abbrev cX8_write : ByteArray := prog_10_method_73_code
def yX8_write : MethodName := ⟨RX8, "write", "(III)I"⟩
abbrev cX8_count : ByteArray := prog_10_method_74_code
def yX8_count : MethodName := ⟨RX8, "count", "(I)I"⟩
abbrev cX8_digest : ByteArray := prog_10_method_75_code
def yX8_digest : MethodName := ⟨RX8, "digest", "()J"⟩
def RJ6 : String := "java/lang/Integer"
def TJ6 : u_T := fun k => match k with
  | _ => ("", "", "", false)
def tyJ6 : Nat → FieldType := fun k => match k with
  | _ => .int
abbrev wsJ60 : List Cond := u_ws RJ6 TJ6 0
theorem nmJ6 : ∀ a, a < 0 → ∀ b, b < 0 → a ≠ b → (TJ6 a).2.1 ≠ (TJ6 b).2.1 := by decide +kernel
theorem tyJ6_ok : ∀ k, k < 0 → parseFieldDescriptor (TJ6 k).2.2.1 = some (tyJ6 k) := by decide +kernel
abbrev cJ6_bitCount_0f7a4 : ByteArray := prog_11_method_49_code
def yJ6_bitCount_0f7a4 : MethodName := ⟨RJ6, "bitCount", "(I)I"⟩
def RJ9 : String := "java/lang/Math"
def TJ9 : u_T := fun k => match k with
  | _ => ("", "", "", false)
def tyJ9 : Nat → FieldType := fun k => match k with
  | _ => .int
abbrev wsJ90 : List Cond := u_ws RJ9 TJ9 0
theorem nmJ9 : ∀ a, a < 0 → ∀ b, b < 0 → a ≠ b → (TJ9 a).2.1 ≠ (TJ9 b).2.1 := by decide +kernel
theorem tyJ9_ok : ∀ k, k < 0 → parseFieldDescriptor (TJ9 k).2.2.1 = some (tyJ9 k) := by decide +kernel
abbrev cJ9_min_7cf53 : ByteArray := prog_12_method_69_code
def yJ9_min_7cf53 : MethodName := ⟨RJ9, "min", "(II)I"⟩
def RJ10 : String := "java/lang/System"
def TJ10 : u_T := fun k => match k with
  | _ => ("", "", "", false)
def tyJ10 : Nat → FieldType := fun k => match k with
  | _ => .int
abbrev wsJ100 : List Cond := u_ws RJ10 TJ10 0
theorem nmJ10 : ∀ a, a < 0 → ∀ b, b < 0 → a ≠ b → (TJ10 a).2.1 ≠ (TJ10 b).2.1 := by decide +kernel
theorem tyJ10_ok : ∀ k, k < 0 → parseFieldDescriptor (TJ10 k).2.2.1 = some (tyJ10 k) := by decide +kernel
def RL : String := "LuckyStolenLaw"
abbrev cL_law : ByteArray := code
def yL_law : MethodName := ⟨RL, "law", "([I)Z"⟩
abbrev vwCl : List vw_C := [(RX0, TX0, 10), (RX1, TX1, 1), (RX2, TX2, 2), (RX3, TX3, 3), (RX4, TX4, 6), (RX5, TX5, 4), (RX6, TX6, 11), (RX7, TX7, 8), (RX8, TX8, 26)]
end
section
/-! the good words of the tables -/
def sy_gT : List Cond := lw_tbl.filter goodWord
theorem sy_in (ws : List Cond) (ps : List Nat) (hp : ws = ps.filterMap (fun i => lw_tbl[i]?)) (h : ws.all goodWord = true) : ∀ w ∈ ws, w ∈ sy_gT := by
  intro w hw
  have h1 := List.all_eq_true.mp h w hw
  rw [hp] at hw
  obtain ⟨i, -, hi⟩ := List.mem_filterMap.mp hw
  have hm : w ∈ lw_tbl := by first | exact List.mem_of_getElem? hi | exact List.getElem?_mem hi
  exact List.mem_filter.mpr ⟨hm, h1⟩
theorem sy_gT_good (ws : List Cond) (h : ∀ w ∈ ws, w ∈ sy_gT) : GoodIn sy_gT ws := fun w hw => ⟨h w hw, good_of_word (List.mem_filter.mp (h w hw)).2⟩
abbrev sy_En : Type := Nat × Instr × Nat × Nat × Int32
/-- a class: its name; links of fields (entry, class, place); links of methods (entry, method, kind); int constants; long constants -/
abbrev sy_CI : Type := String × List (Nat × Nat × Nat) × List (Nat × Nat × Nat) × List (Nat × Int32) × List (Nat × Int64)
/-- a method: its code; bytes; locals; what it returns; its class; static; how many arguments; its name -/
abbrev sy_MI : Type := List sy_En × ByteArray × Nat × Option FieldType × Nat × Bool × Nat × MethodName
def sy_lk (l : List sy_En) (pc : Nat) : Option (Instr × Nat × Nat × Int32) := match l with
  | [] => none
  | q :: r => cond (Nat.beq q.1 pc) (some q.2) (sy_lk r pc)
def sy_okT (pc : Nat) (i : Instr) (tg : Nat) (z : Int32) : Bool := match i with
  | .ifCond _ off => decide ((pc : Int) + off = (tg : Int))
  | .if_icmp _ off => decide ((pc : Int) + off = (tg : Int))
  | .goto off => decide ((pc : Int) + off = (tg : Int))
  | .iconst n => decide (Int32.ofInt n = z)
  | .bipush n => decide ((Int8.ofInt n).toInt32 = z)
  | .sipush n => decide ((Int16.ofInt n).toInt32 = z)
  | .iinc _ n => decide (Int32.ofInt n = z)
  | _ => true
def sy_okE (b : ByteArray) (q : sy_En) : Bool := decide (decode b q.1 = .ok (q.2.1, q.2.2.1 - q.1)) && (Nat.blt q.1 q.2.2.1 && sy_okT q.1 q.2.1 q.2.2.2.1 q.2.2.2.2)
def sy_c0 : List sy_En := [(0, .aload_n 0, 1, 0, 0), (1, .getfield 24, 4, 0, 0), (4, .bipush 8, 6, 0, 8), (6, .if_icmp .lt 7, 9, 13, 0), (9, .iconst 1, 10, 0, 1), (10, .goto 4, 13, 14, 0), (13, .iconst 0, 14, 0, 0), (14, .ireturn, 15, 0, 0)]
def sy_m0 : sy_MI := (sy_c0, cX0_isFull, 1, some .boolean, 0, false, 0, yX0_isFull)
def sy_c1 : List sy_En := [(0, .aload_n 0, 1, 0, 0), (1, .invokevirtual 44, 4, 0, 0), (4, .ifCond .eq 6, 7, 10, 0), (7, .bipush (-4), 9, 0, (-4)), (9, .ireturn, 10, 0, 0), (10, .aload_n 0, 11, 0, 0), (11, .getfield 11, 14, 0, 0), (14, .aload_n 0, 15, 0, 0), (15, .getfield 24, 18, 0, 0), (18, .iload_n 1, 19, 0, 0), (19, .iastore, 20, 0, 0), (20, .aload_n 0, 21, 0, 0), (21, .getfield 15, 24, 0, 0), (24, .aload_n 0, 25, 0, 0), (25, .getfield 24, 28, 0, 0), (28, .iload_n 2, 29, 0, 0), (29, .iastore, 30, 0, 0), (30, .aload_n 0, 31, 0, 0), (31, .getfield 18, 34, 0, 0), (34, .aload_n 0, 35, 0, 0), (35, .getfield 24, 38, 0, 0), (38, .iload_n 3, 39, 0, 0), (39, .iastore, 40, 0, 0), (40, .aload_n 0, 41, 0, 0), (41, .dup, 42, 0, 0), (42, .getfield 24, 45, 0, 0), (45, .iconst 1, 46, 0, 1), (46, .iadd, 47, 0, 0), (47, .putfield 24, 50, 0, 0), (50, .aload_n 0, 51, 0, 0), (51, .getfield 24, 54, 0, 0), (54, .ireturn, 55, 0, 0)]
def sy_m1 : sy_MI := (sy_c1, cX0_put, 4, some .int, 0, false, 3, yX0_put)
def sy_c2 : List sy_En := [(0, .aload_n 0, 1, 0, 0), (1, .getfield 24, 4, 0, 0), (4, .istore_n 1, 5, 0, 0), (5, .aload_n 0, 6, 0, 0), (6, .iconst 0, 7, 0, 0), (7, .putfield 24, 10, 0, 0), (10, .iload_n 1, 11, 0, 0), (11, .ireturn, 12, 0, 0)]
def sy_m2 : sy_MI := (sy_c2, cX0_empty, 2, some .int, 0, false, 0, yX0_empty)
def sy_c3 : List sy_En := [(0, .iconst 0, 1, 0, 0), (1, .istore_n 1, 2, 0, 0), (2, .iload_n 1, 3, 0, 0), (3, .aload_n 0, 4, 0, 0), (4, .getfield 24, 7, 0, 0), (7, .if_icmp .ge 47, 10, 54, 0), (10, .aload_n 0, 11, 0, 0), (11, .getfield 40, 14, 0, 0), (14, .aload_n 0, 15, 0, 0), (15, .getfield 15, 18, 0, 0), (18, .iload_n 1, 19, 0, 0), (19, .iaload, 20, 0, 0), (20, .invokevirtual 48, 23, 0, 0), (23, .aload_n 0, 24, 0, 0), (24, .getfield 21, 27, 0, 0), (27, .iload_n 1, 28, 0, 0), (28, .aload_n 0, 29, 0, 0), (29, .getfield 40, 32, 0, 0), (32, .aload_n 0, 33, 0, 0), (33, .getfield 11, 36, 0, 0), (36, .iload_n 1, 37, 0, 0), (37, .iaload, 38, 0, 0), (38, .aload_n 0, 39, 0, 0), (39, .getfield 15, 42, 0, 0), (42, .iload_n 1, 43, 0, 0), (43, .iaload, 44, 0, 0), (44, .invokevirtual 54, 47, 0, 0), (47, .iastore, 48, 0, 0), (48, .iinc 1 1, 51, 0, 1), (51, .goto (-49), 54, 2, 0), (54, .iconst 1, 55, 0, 1), (55, .aload_n 0, 56, 0, 0), (56, .getfield 40, 59, 0, 0), (59, .getfield 57, 62, 0, 0), (62, .getfield 61, 65, 0, 0), (65, .ishl, 66, 0, 0), (66, .iconst 1, 67, 0, 1), (67, .isub, 68, 0, 0), (68, .istore_n 1, 69, 0, 0), (69, .aload_n 0, 70, 0, 0), (70, .iconst 0, 71, 0, 0), (71, .putfield 28, 74, 0, 0), (74, .aload_n 0, 75, 0, 0), (75, .iconst (-1), 76, 0, (-1)), (76, .putfield 31, 79, 0, 0), (79, .aload_n 0, 80, 0, 0), (80, .iload_n 1, 81, 0, 0), (81, .putfield 34, 84, 0, 0), (84, .aload_n 0, 85, 0, 0), (85, .iload_n 1, 86, 0, 0), (86, .putfield 37, 89, 0, 0), (89, .iconst 0, 90, 0, 0), (90, .istore_n 2, 91, 0, 0), (91, .iload_n 2, 92, 0, 0), (92, .iload_n 1, 93, 0, 0), (93, .if_icmp .gt 68, 96, 161, 0), (96, .aload_n 0, 97, 0, 0), (97, .iload_n 2, 98, 0, 0), (98, .invokevirtual 66, 101, 0, 0), (101, .ifCond .eq 54, 104, 155, 0), (104, .aload_n 0, 105, 0, 0), (105, .aload_n 0, 106, 0, 0), (106, .getfield 28, 109, 0, 0), (109, .ifCond .ne 7, 112, 116, 0), (112, .iload_n 2, 113, 0, 0), (113, .goto 7, 116, 120, 0), (116, .aload_n 0, 117, 0, 0), (117, .getfield 31, 120, 0, 0), (120, .putfield 31, 123, 0, 0), (123, .aload_n 0, 124, 0, 0), (124, .dup, 125, 0, 0), (125, .getfield 28, 128, 0, 0), (128, .iconst 1, 129, 0, 1), (129, .iadd, 130, 0, 0), (130, .putfield 28, 133, 0, 0), (133, .aload_n 0, 134, 0, 0), (134, .dup, 135, 0, 0), (135, .getfield 34, 138, 0, 0), (138, .iload_n 2, 139, 0, 0), (139, .iand, 140, 0, 0), (140, .putfield 34, 143, 0, 0), (143, .aload_n 0, 144, 0, 0), (144, .dup, 145, 0, 0), (145, .getfield 37, 148, 0, 0), (148, .iload_n 2, 149, 0, 0), (149, .iconst (-1), 150, 0, (-1)), (150, .ixor, 151, 0, 0), (151, .iand, 152, 0, 0), (152, .putfield 37, 155, 0, 0), (155, .iinc 2 1, 158, 0, 1), (158, .goto (-67), 161, 91, 0), (161, .return_, 162, 0, 0)]
def sy_m3 : sy_MI := (sy_c3, cX0_tryAllSets, 3, none, 0, false, 0, yX0_tryAllSets)
def sy_c4 : List sy_En := [(0, .iconst 0, 1, 0, 0), (1, .istore_n 2, 2, 0, 0), (2, .iload_n 2, 3, 0, 0), (3, .aload_n 0, 4, 0, 0), (4, .getfield 24, 7, 0, 0), (7, .if_icmp .ge 37, 10, 44, 0), (10, .iconst 1, 11, 0, 1), (11, .iconst 2, 12, 0, 2), (12, .aload_n 0, 13, 0, 0), (13, .getfield 21, 16, 0, 0), (16, .iload_n 2, 17, 0, 0), (17, .iaload, 18, 0, 0), (18, .iload_n 1, 19, 0, 0), (19, .iconst (-1), 20, 0, (-1)), (20, .ixor, 21, 0, 0), (21, .iand, 22, 0, 0), (22, .invokestatic 70, 25, 0, 0), (25, .imul, 26, 0, 0), (26, .iadd, 27, 0, 0), (27, .aload_n 0, 28, 0, 0), (28, .getfield 18, 31, 0, 0), (31, .iload_n 2, 32, 0, 0), (32, .iaload, 33, 0, 0), (33, .if_icmp .eq 5, 36, 38, 0), (36, .iconst 0, 37, 0, 0), (37, .ireturn, 38, 0, 0), (38, .iinc 2 1, 41, 0, 1), (41, .goto (-39), 44, 2, 0), (44, .iconst 1, 45, 0, 1), (45, .ireturn, 46, 0, 0)]
def sy_m4 : sy_MI := (sy_c4, cX0_comesOut, 3, some .boolean, 0, false, 1, yX0_comesOut)
def sy_c5 : List sy_En := [(0, .lconst 1, 1, 0, 0), (1, .lstore_n 3, 2, 0, 0), (2, .iconst 0, 3, 0, 0), (3, .istore 5, 5, 0, 0), (5, .iload 5, 7, 0, 0), (7, .iload_n 2, 8, 0, 0), (8, .if_icmp .ge 13, 11, 21, 0), (11, .lload_n 3, 12, 0, 0), (12, .lload_n 0, 13, 0, 0), (13, .lmul, 14, 0, 0), (14, .lstore_n 3, 15, 0, 0), (15, .iinc 5 1, 18, 0, 1), (18, .goto (-13), 21, 5, 0), (21, .lload_n 3, 22, 0, 0), (22, .lreturn, 23, 0, 0)]
def sy_m5 : sy_MI := (sy_c5, cX1_power, 6, some .long, 1, true, 2, yX1_power)
def sy_c6 : List sy_En := [(0, .lload_n 0, 1, 0, 0), (1, .lstore 5, 3, 0, 0), (3, .lload_n 2, 4, 0, 0), (4, .lstore 7, 6, 0, 0), (6, .iconst 0, 7, 0, 0), (7, .istore 9, 9, 0, 0), (9, .iload 9, 11, 0, 0), (11, .bipush 64, 13, 0, 64), (13, .if_icmp .ge 47, 16, 60, 0), (16, .lload 5, 18, 0, 0), (18, .ldc2_w 15, 21, 0, 0), (21, .lrem, 22, 0, 0), (22, .lconst 0, 23, 0, 0), (23, .lcmp, 24, 0, 0), (24, .ifCond .ne 36, 27, 60, 0), (27, .lload 7, 29, 0, 0), (29, .ldc2_w 15, 32, 0, 0), (32, .lrem, 33, 0, 0), (33, .lconst 0, 34, 0, 0), (34, .lcmp, 35, 0, 0), (35, .ifCond .ne 25, 38, 60, 0), (38, .lload 5, 40, 0, 0), (40, .ldc2_w 15, 43, 0, 0), (43, .ldiv, 44, 0, 0), (44, .lstore 5, 46, 0, 0), (46, .lload 7, 48, 0, 0), (48, .ldc2_w 15, 51, 0, 0), (51, .ldiv, 52, 0, 0), (52, .lstore 7, 54, 0, 0), (54, .iinc 9 1, 57, 0, 1), (57, .goto (-48), 60, 9, 0), (60, .iload 4, 62, 0, 0), (62, .ifCond .ne 8, 65, 70, 0), (65, .lload 5, 67, 0, 0), (67, .goto 5, 70, 72, 0), (70, .lload 7, 72, 0, 0), (72, .lreturn, 73, 0, 0)]
def sy_m6 : sy_MI := (sy_c6, cX1_lowest, 10, some .long, 1, true, 3, yX1_lowest)
def sy_c7 : List sy_En := [(0, .ldc2_w 17, 3, 0, 0), (3, .iload_n 0, 4, 0, 0), (4, .invokestatic 19, 7, 0, 0), (7, .lstore_n 2, 8, 0, 0), (8, .iconst 0, 9, 0, 0), (9, .istore 4, 11, 0, 0), (11, .iload 4, 13, 0, 0), (13, .bipush 16, 15, 0, 16), (15, .if_icmp .ge 33, 18, 48, 0), (18, .ldc2_w 23, 21, 0, 0), (21, .lload_n 2, 22, 0, 0), (22, .iload 4, 24, 0, 0), (24, .i2l, 25, 0, 0), (25, .iload_n 0, 26, 0, 0), (26, .invokestatic 19, 29, 0, 0), (29, .lsub, 30, 0, 0), (30, .lmul, 31, 0, 0), (31, .iload_n 1, 32, 0, 0), (32, .i2l, 33, 0, 0), (33, .lload_n 2, 34, 0, 0), (34, .lmul, 35, 0, 0), (35, .lcmp, 36, 0, 0), (36, .ifCond .gt 6, 39, 42, 0), (39, .iload 4, 41, 0, 0), (41, .ireturn, 42, 0, 0), (42, .iinc 4 1, 45, 0, 1), (45, .goto (-34), 48, 11, 0), (48, .bipush 16, 50, 0, 16), (50, .ireturn, 51, 0, 0)]
def sy_m7 : sy_MI := (sy_c7, cX1_leastFor, 5, some .int, 1, true, 2, yX1_leastFor)
def sy_c8 : List sy_En := [(0, .iload_n 2, 1, 0, 0), (1, .istore 4, 3, 0, 0), (3, .iconst 0, 4, 0, 0), (4, .istore 5, 6, 0, 0), (6, .iload 5, 8, 0, 0), (8, .iload_n 3, 9, 0, 0), (9, .if_icmp .ge 40, 12, 49, 0), (12, .ldc 25, 14, 0, 0), (14, .iload 4, 16, 0, 0), (16, .imul, 17, 0, 0), (17, .sipush 12345, 20, 0, 12345), (20, .iadd, 21, 0, 0), (21, .istore 4, 23, 0, 0), (23, .iload 4, 25, 0, 0), (25, .bipush 16, 27, 0, 16), (27, .iushr, 28, 0, 0), (28, .bipush 16, 30, 0, 16), (30, .irem, 31, 0, 0), (31, .aload_n 0, 32, 0, 0), (32, .getfield 9, 35, 0, 0), (35, .iload_n 1, 36, 0, 0), (36, .iaload, 37, 0, 0), (37, .if_icmp .lt 6, 40, 43, 0), (40, .iload 5, 42, 0, 0), (42, .ireturn, 43, 0, 0), (43, .iinc 5 1, 46, 0, 1), (46, .goto (-40), 49, 6, 0), (49, .iconst (-1), 50, 0, (-1)), (50, .ireturn, 51, 0, 0)]
def sy_m8 : sy_MI := (sy_c8, cX1_nightOfTheft, 6, some .int, 1, false, 3, yX1_nightOfTheft)
def sy_c9 : List sy_En := [(0, .aload_n 0, 1, 0, 0), (1, .iconst (-1), 2, 0, (-1)), (2, .putfield 9, 5, 0, 0), (5, .iload_n 2, 6, 0, 0), (6, .iconst 1, 7, 0, 1), (7, .if_icmp .lt 8, 10, 15, 0), (10, .iload_n 2, 11, 0, 0), (11, .iconst 3, 12, 0, 3), (12, .if_icmp .le 5, 15, 17, 0), (15, .iconst 0, 16, 0, 0), (16, .ireturn, 17, 0, 0), (17, .aload_n 0, 18, 0, 0), (18, .iload_n 1, 19, 0, 0), (19, .iload_n 2, 20, 0, 0), (20, .invokevirtual 19, 23, 0, 0), (23, .istore_n 3, 24, 0, 0), (24, .aload_n 0, 25, 0, 0), (25, .iload_n 1, 26, 0, 0), (26, .iload_n 2, 27, 0, 0), (27, .invokevirtual 23, 30, 0, 0), (30, .istore 4, 32, 0, 0), (32, .iconst (-1), 33, 0, (-1)), (33, .istore 5, 35, 0, 0), (35, .iconst 0, 36, 0, 0), (36, .istore 6, 38, 0, 0), (38, .iload 6, 40, 0, 0), (40, .aload_n 0, 41, 0, 0), (41, .getfield 15, 44, 0, 0), (44, .getfield 26, 47, 0, 0), (47, .getfield 32, 50, 0, 0), (50, .if_icmp .ge 95, 53, 145, 0), (53, .iload 4, 55, 0, 0), (55, .iload_n 3, 56, 0, 0), (56, .if_icmp .ge 89, 59, 145, 0), (59, .aload_n 0, 60, 0, 0), (60, .iload 6, 62, 0, 0), (62, .invokevirtual 37, 65, 0, 0), (65, .ifCond .ne 6, 68, 71, 0), (68, .goto 71, 71, 139, 0), (71, .iconst 0, 72, 0, 0), (72, .istore 7, 74, 0, 0), (74, .iload 7, 76, 0, 0), (76, .bipush 8, 78, 0, 8), (78, .if_icmp .ge 61, 81, 139, 0), (81, .iload 7, 83, 0, 0), (83, .aload_n 0, 84, 0, 0), (84, .getfield 15, 87, 0, 0), (87, .getfield 41, 90, 0, 0), (90, .iload 6, 92, 0, 0), (92, .iaload, 93, 0, 0), (93, .if_icmp .ne 7, 96, 100, 0), (96, .iconst 0, 97, 0, 0), (97, .goto 13, 100, 110, 0), (100, .aload_n 0, 101, 0, 0), (101, .iload 6, 103, 0, 0), (103, .iload 7, 105, 0, 0), (105, .iload_n 1, 106, 0, 0), (106, .iload_n 2, 107, 0, 0), (107, .invokevirtual 45, 110, 0, 0), (110, .istore 8, 112, 0, 0), (112, .iload 8, 114, 0, 0), (114, .iload 4, 116, 0, 0), (116, .if_icmp .le 17, 119, 133, 0), (119, .iload 8, 121, 0, 0), (121, .istore 4, 123, 0, 0), (123, .bipush 8, 125, 0, 8), (125, .iload 6, 127, 0, 0), (127, .imul, 128, 0, 0), (128, .iload 7, 130, 0, 0), (130, .iadd, 131, 0, 0), (131, .istore 5, 133, 0, 0), (133, .iinc 7 1, 136, 0, 1), (136, .goto (-62), 139, 74, 0), (139, .iinc 6 1, 142, 0, 1), (142, .goto (-104), 145, 38, 0), (145, .aload_n 0, 146, 0, 0), (146, .iload 5, 148, 0, 0), (148, .putfield 9, 151, 0, 0), (151, .iload 4, 153, 0, 0), (153, .ireturn, 154, 0, 0)]
def sy_m9 : sy_MI := (sy_c9, cX2_mostNights, 9, some .int, 2, false, 2, yX2_mostNights)
def sy_c10 : List sy_En := [(0, .aload_n 0, 1, 0, 0), (1, .getfield 15, 4, 0, 0), (4, .getfield 41, 7, 0, 0), (7, .iload_n 1, 8, 0, 0), (8, .iaload, 9, 0, 0), (9, .iconst (-1), 10, 0, (-1)), (10, .if_icmp .eq 18, 13, 28, 0), (13, .aload_n 0, 14, 0, 0), (14, .getfield 15, 17, 0, 0), (17, .iload_n 1, 18, 0, 0), (18, .invokevirtual 49, 21, 0, 0), (21, .ifCond .eq 7, 24, 28, 0), (24, .iconst 1, 25, 0, 1), (25, .goto 4, 28, 29, 0), (28, .iconst 0, 29, 0, 0), (29, .ireturn, 30, 0, 0)]
def sy_m10 : sy_MI := (sy_c10, cX2_isWorthStealing, 2, some .boolean, 2, false, 1, yX2_isWorthStealing)
def sy_c11 : List sy_En := [(0, .iconst 0, 1, 0, 0), (1, .istore_n 3, 2, 0, 0), (2, .iconst 0, 3, 0, 0), (3, .istore 4, 5, 0, 0), (5, .iload 4, 7, 0, 0), (7, .aload_n 0, 8, 0, 0), (8, .getfield 15, 11, 0, 0), (11, .getfield 26, 14, 0, 0), (14, .getfield 32, 17, 0, 0), (17, .if_icmp .ge 26, 20, 43, 0), (20, .iload_n 3, 21, 0, 0), (21, .aload_n 0, 22, 0, 0), (22, .iload 4, 24, 0, 0), (24, .invokevirtual 37, 27, 0, 0), (27, .ifCond .eq 7, 30, 34, 0), (30, .iconst 1, 31, 0, 1), (31, .goto 4, 34, 35, 0), (34, .iconst 0, 35, 0, 0), (35, .iadd, 36, 0, 0), (36, .istore_n 3, 37, 0, 0), (37, .iinc 4 1, 40, 0, 1), (40, .goto (-35), 43, 5, 0), (43, .iconst 0, 44, 0, 0), (44, .istore 4, 46, 0, 0), (46, .iconst 0, 47, 0, 0), (47, .istore 5, 49, 0, 0), (49, .iload 5, 51, 0, 0), (51, .iload_n 2, 52, 0, 0), (52, .if_icmp .ge 60, 55, 112, 0), (55, .aload_n 0, 56, 0, 0), (56, .getfield 15, 59, 0, 0), (59, .iload_n 1, 60, 0, 0), (60, .iload 5, 62, 0, 0), (62, .iadd, 63, 0, 0), (63, .invokevirtual 52, 66, 0, 0), (66, .invokestatic 56, 69, 0, 0), (69, .istore 6, 71, 0, 0), (71, .iload 5, 73, 0, 0), (73, .iconst 1, 74, 0, 1), (74, .iadd, 75, 0, 0), (75, .aload_n 0, 76, 0, 0), (76, .getfield 15, 79, 0, 0), (79, .getfield 61, 82, 0, 0), (82, .invokestatic 64, 85, 0, 0), (85, .istore 7, 87, 0, 0), (87, .iload 4, 89, 0, 0), (89, .iload_n 3, 90, 0, 0), (90, .bipush 8, 92, 0, 8), (92, .invokestatic 64, 95, 0, 0), (95, .iload 6, 97, 0, 0), (97, .iload 7, 99, 0, 0), (99, .iadd, 100, 0, 0), (100, .invokestatic 64, 103, 0, 0), (103, .iadd, 104, 0, 0), (104, .istore 4, 106, 0, 0), (106, .iinc 5 1, 109, 0, 1), (109, .goto (-60), 112, 49, 0), (112, .iload 4, 114, 0, 0), (114, .ireturn, 115, 0, 0)]
def sy_m11 : sy_MI := (sy_c11, cX2_ceiling, 8, some .int, 2, false, 2, yX2_ceiling)
def sy_c12 : List sy_En := [(0, .aload_n 0, 1, 0, 0), (1, .getfield 15, 4, 0, 0), (4, .getfield 41, 7, 0, 0), (7, .iload_n 1, 8, 0, 0), (8, .iaload, 9, 0, 0), (9, .istore 5, 11, 0, 0), (11, .aload_n 0, 12, 0, 0), (12, .getfield 15, 15, 0, 0), (15, .getfield 69, 18, 0, 0), (18, .iload_n 1, 19, 0, 0), (19, .iaload, 20, 0, 0), (20, .istore 6, 22, 0, 0), (22, .aload_n 0, 23, 0, 0), (23, .getfield 15, 26, 0, 0), (26, .getfield 41, 29, 0, 0), (29, .iload_n 1, 30, 0, 0), (30, .iload_n 2, 31, 0, 0), (31, .iastore, 32, 0, 0), (32, .aload_n 0, 33, 0, 0), (33, .getfield 15, 36, 0, 0), (36, .getfield 69, 39, 0, 0), (39, .iload_n 1, 40, 0, 0), (40, .iload_n 3, 41, 0, 0), (41, .aload_n 0, 42, 0, 0), (42, .getfield 15, 45, 0, 0), (45, .getfield 61, 48, 0, 0), (48, .iadd, 49, 0, 0), (49, .iastore, 50, 0, 0), (50, .aload_n 0, 51, 0, 0), (51, .iload_n 3, 52, 0, 0), (52, .iload 4, 54, 0, 0), (54, .invokevirtual 23, 57, 0, 0), (57, .istore 7, 59, 0, 0), (59, .aload_n 0, 60, 0, 0), (60, .getfield 15, 63, 0, 0), (63, .getfield 41, 66, 0, 0), (66, .iload_n 1, 67, 0, 0), (67, .iload 5, 69, 0, 0), (69, .iastore, 70, 0, 0), (70, .aload_n 0, 71, 0, 0), (71, .getfield 15, 74, 0, 0), (74, .getfield 69, 77, 0, 0), (77, .iload_n 1, 78, 0, 0), (78, .iload 6, 80, 0, 0), (80, .iastore, 81, 0, 0), (81, .iload 7, 83, 0, 0), (83, .ireturn, 84, 0, 0)]
def sy_m12 : sy_MI := (sy_c12, cX2_nightsWith, 8, some .int, 2, false, 4, yX2_nightsWith)
def sy_c13 : List sy_En := [(0, .aload_n 0, 1, 0, 0), (1, .getfield 15, 4, 0, 0), (4, .iload_n 1, 5, 0, 0), (5, .invokevirtual 52, 8, 0, 0), (8, .invokestatic 56, 11, 0, 0), (11, .istore_n 3, 12, 0, 0), (12, .iload_n 2, 13, 0, 0), (13, .iconst 1, 14, 0, 1), (14, .if_icmp .gt 5, 17, 19, 0), (17, .iload_n 3, 18, 0, 0), (18, .ireturn, 19, 0, 0), (19, .iload_n 3, 20, 0, 0), (20, .iload_n 2, 21, 0, 0), (21, .iconst 2, 22, 0, 2), (22, .if_icmp .ne 13, 25, 35, 0), (25, .aload_n 0, 26, 0, 0), (26, .iload_n 1, 27, 0, 0), (27, .iconst 1, 28, 0, 1), (28, .iadd, 29, 0, 0), (29, .invokevirtual 72, 32, 0, 0), (32, .goto 13, 35, 45, 0), (35, .aload_n 0, 36, 0, 0), (36, .iload_n 1, 37, 0, 0), (37, .iconst 1, 38, 0, 1), (38, .iadd, 39, 0, 0), (39, .iload_n 2, 40, 0, 0), (40, .iconst 1, 41, 0, 1), (41, .isub, 42, 0, 0), (42, .invokevirtual 75, 45, 0, 0), (45, .iadd, 46, 0, 0), (46, .ireturn, 47, 0, 0)]
def sy_m13 : sy_MI := (sy_c13, cX2_nightsFrom, 4, some .int, 2, false, 2, yX2_nightsFrom)
def sy_c14 : List sy_En := [(0, .iconst 0, 1, 0, 0), (1, .istore_n 2, 2, 0, 0), (2, .iconst 0, 3, 0, 0), (3, .istore_n 3, 4, 0, 0), (4, .iconst 0, 5, 0, 0), (5, .istore 4, 7, 0, 0), (7, .iload 4, 9, 0, 0), (9, .aload_n 0, 10, 0, 0), (10, .getfield 15, 13, 0, 0), (13, .getfield 26, 16, 0, 0), (16, .getfield 32, 19, 0, 0), (19, .if_icmp .ge 62, 22, 81, 0), (22, .aload_n 0, 23, 0, 0), (23, .getfield 15, 26, 0, 0), (26, .getfield 41, 29, 0, 0), (29, .iload 4, 31, 0, 0), (31, .iaload, 32, 0, 0), (32, .iconst (-1), 33, 0, (-1)), (33, .if_icmp .eq 42, 36, 75, 0), (36, .aload_n 0, 37, 0, 0), (37, .getfield 15, 40, 0, 0), (40, .iload 4, 42, 0, 0), (42, .iload_n 1, 43, 0, 0), (43, .invokevirtual 78, 46, 0, 0), (46, .ifCond .eq 29, 49, 75, 0), (49, .iconst 1, 50, 0, 1), (50, .aload_n 0, 51, 0, 0), (51, .getfield 15, 54, 0, 0), (54, .getfield 41, 57, 0, 0), (57, .iload 4, 59, 0, 0), (59, .iaload, 60, 0, 0), (60, .ishl, 61, 0, 0), (61, .istore 5, 63, 0, 0), (63, .iload_n 3, 64, 0, 0), (64, .iload_n 2, 65, 0, 0), (65, .iload 5, 67, 0, 0), (67, .iand, 68, 0, 0), (68, .ior, 69, 0, 0), (69, .istore_n 3, 70, 0, 0), (70, .iload_n 2, 71, 0, 0), (71, .iload 5, 73, 0, 0), (73, .ior, 74, 0, 0), (74, .istore_n 2, 75, 0, 0), (75, .iinc 4 1, 78, 0, 1), (78, .goto (-71), 81, 7, 0), (81, .iload_n 2, 82, 0, 0), (82, .invokestatic 56, 85, 0, 0), (85, .istore 4, 87, 0, 0), (87, .iconst 0, 88, 0, 0), (88, .istore 5, 90, 0, 0), (90, .iload 5, 92, 0, 0), (92, .aload_n 0, 93, 0, 0), (93, .getfield 15, 96, 0, 0), (96, .getfield 26, 99, 0, 0), (99, .getfield 32, 102, 0, 0), (102, .if_icmp .ge 84, 105, 186, 0), (105, .aload_n 0, 106, 0, 0), (106, .iload 5, 108, 0, 0), (108, .invokevirtual 37, 111, 0, 0), (111, .ifCond .eq 69, 114, 180, 0), (114, .iconst 1, 115, 0, 1), (115, .aload_n 0, 116, 0, 0), (116, .getfield 15, 119, 0, 0), (119, .getfield 41, 122, 0, 0), (122, .iload 5, 124, 0, 0), (124, .iaload, 125, 0, 0), (125, .ishl, 126, 0, 0), (126, .istore 6, 128, 0, 0), (128, .aload_n 0, 129, 0, 0), (129, .getfield 15, 132, 0, 0), (132, .iload 5, 134, 0, 0), (134, .iload_n 1, 135, 0, 0), (135, .invokevirtual 78, 138, 0, 0), (138, .ifCond .eq 10, 141, 148, 0), (141, .iload_n 3, 142, 0, 0), (142, .iload 6, 144, 0, 0), (144, .iand, 145, 0, 0), (145, .ifCond .eq 7, 148, 152, 0), (148, .iconst 1, 149, 0, 1), (149, .goto 4, 152, 153, 0), (152, .iconst 0, 153, 0, 0), (153, .istore 7, 155, 0, 0), (155, .iload 7, 157, 0, 0), (157, .ifCond .eq 23, 160, 180, 0), (160, .sipush 255, 163, 0, 255), (163, .iload_n 2, 164, 0, 0), (164, .iconst (-1), 165, 0, (-1)), (165, .ixor, 166, 0, 0), (166, .iand, 167, 0, 0), (167, .iload 6, 169, 0, 0), (169, .iconst (-1), 170, 0, (-1)), (170, .ixor, 171, 0, 0), (171, .iand, 172, 0, 0), (172, .ifCond .eq 8, 175, 180, 0), (175, .iload 4, 177, 0, 0), (177, .iconst 1, 178, 0, 1), (178, .iadd, 179, 0, 0), (179, .ireturn, 180, 0, 0), (180, .iinc 5 1, 183, 0, 1), (183, .goto (-93), 186, 90, 0), (186, .iload 4, 188, 0, 0), (188, .ireturn, 189, 0, 0)]
def sy_m14 : sy_MI := (sy_c14, cX2_mostInLast, 8, some .int, 2, false, 1, yX2_mostInLast)
def sy_c15 : List sy_En := [(0, .iload_n 0, 1, 0, 0), (1, .iconst 2, 2, 0, 2), (2, .invokestatic 22, 5, 0, 0), (5, .ireturn, 6, 0, 0)]
def sy_m15 : sy_MI := (sy_c15, cX3_isForm, 1, some .boolean, 3, true, 1, yX3_isForm)
def sy_c16 : List sy_En := [(0, .aload_n 0, 1, 0, 0), (1, .getfield 15, 4, 0, 0), (4, .iconst (-1), 5, 0, (-1)), (5, .if_icmp .ne 7, 8, 12, 0), (8, .iconst 1, 9, 0, 1), (9, .goto 4, 12, 13, 0), (12, .iconst 0, 13, 0, 0), (13, .ireturn, 14, 0, 0)]
def sy_m16 : sy_MI := (sy_c16, cX3_isLost, 1, some .boolean, 3, false, 0, yX3_isLost)
def sy_c17 : List sy_En := [(0, .aload_n 0, 1, 0, 0), (1, .iload_n 1, 2, 0, 0), (2, .putfield 15, 5, 0, 0), (5, .aload_n 0, 6, 0, 0), (6, .iload_n 2, 7, 0, 0), (7, .putfield 19, 10, 0, 0), (10, .iconst 0, 11, 0, 0), (11, .istore_n 3, 12, 0, 0), (12, .iload_n 3, 13, 0, 0), (13, .bipush 60, 15, 0, 60), (15, .if_icmp .ge 16, 18, 31, 0), (18, .aload_n 0, 19, 0, 0), (19, .getfield 11, 22, 0, 0), (22, .iload_n 3, 23, 0, 0), (23, .iconst 0, 24, 0, 0), (24, .iastore, 25, 0, 0), (25, .iinc 3 1, 28, 0, 1), (28, .goto (-16), 31, 12, 0), (31, .iload_n 2, 32, 0, 0), (32, .ireturn, 33, 0, 0)]
def sy_m17 : sy_MI := (sy_c17, cX3_begin, 4, some .int, 3, false, 2, yX3_begin)
def sy_c18 : List sy_En := [(0, .aload_n 0, 1, 0, 0), (1, .getfield 19, 4, 0, 0), (4, .istore_n 1, 5, 0, 0), (5, .aload_n 0, 6, 0, 0), (6, .iconst (-1), 7, 0, (-1)), (7, .putfield 15, 10, 0, 0), (10, .aload_n 0, 11, 0, 0), (11, .iconst 0, 12, 0, 0), (12, .putfield 19, 15, 0, 0), (15, .iload_n 1, 16, 0, 0), (16, .ireturn, 17, 0, 0)]
def sy_m18 : sy_MI := (sy_c18, cX3_end, 2, some .int, 3, false, 0, yX3_end)
def sy_c19 : List sy_En := [(0, .aload_n 0, 1, 0, 0), (1, .invokevirtual 26, 4, 0, 0), (4, .ifCond .eq 5, 7, 9, 0), (7, .iconst 1, 8, 0, 1), (8, .ireturn, 9, 0, 0), (9, .iload_n 1, 10, 0, 0), (10, .aload_n 0, 11, 0, 0), (11, .getfield 15, 14, 0, 0), (14, .if_icmp .eq 5, 17, 19, 0), (17, .iconst 3, 18, 0, 3), (18, .ireturn, 19, 0, 0), (19, .iload_n 2, 20, 0, 0), (20, .ifCond .lt 15, 23, 35, 0), (23, .iload_n 2, 24, 0, 0), (24, .aload_n 0, 25, 0, 0), (25, .getfield 19, 28, 0, 0), (28, .if_icmp .ge 7, 31, 35, 0), (31, .iconst 0, 32, 0, 0), (32, .goto 4, 35, 36, 0), (35, .iconst 2, 36, 0, 2), (36, .ireturn, 37, 0, 0)]
def sy_m19 : sy_MI := (sy_c19, cX3_flawOf, 3, some .int, 3, false, 2, yX3_flawOf)
def sy_c20 : List sy_En := [(0, .iload_n 1, 1, 0, 0), (1, .ifCond .lt 29, 4, 30, 0), (4, .iload_n 2, 5, 0, 0), (5, .ifCond .lt 25, 8, 30, 0), (8, .iload_n 2, 9, 0, 0), (9, .aload_n 0, 10, 0, 0), (10, .getfield 19, 13, 0, 0), (13, .if_icmp .gt 17, 16, 30, 0), (16, .iload_n 1, 17, 0, 0), (17, .aload_n 0, 18, 0, 0), (18, .getfield 19, 21, 0, 0), (21, .iload_n 2, 22, 0, 0), (22, .isub, 23, 0, 0), (23, .if_icmp .gt 7, 26, 30, 0), (26, .iconst 1, 27, 0, 1), (27, .goto 4, 30, 31, 0), (30, .iconst 0, 31, 0, 0), (31, .ireturn, 32, 0, 0)]
def sy_m20 : sy_MI := (sy_c20, cX3_hasSpan, 3, some .boolean, 3, false, 2, yX3_hasSpan)
def sy_c21 : List sy_En := [(0, .aload_n 0, 1, 0, 0), (1, .getfield 11, 4, 0, 0), (4, .iload_n 1, 5, 0, 0), (5, .aload_n 0, 6, 0, 0), (6, .getfield 15, 9, 0, 0), (9, .ifCond .ne 8, 12, 17, 0), (12, .iload_n 2, 13, 0, 0), (13, .i2b, 14, 0, 0), (14, .goto 17, 17, 31, 0), (17, .aload_n 0, 18, 0, 0), (18, .getfield 15, 21, 0, 0), (21, .iconst 1, 22, 0, 1), (22, .if_icmp .ne 8, 25, 30, 0), (25, .iload_n 2, 26, 0, 0), (26, .i2s, 27, 0, 0), (27, .goto 4, 30, 31, 0), (30, .iload_n 2, 31, 0, 0), (31, .iastore, 32, 0, 0), (32, .return_, 33, 0, 0)]
def sy_m21 : sy_MI := (sy_c21, cX3_put, 3, none, 3, false, 2, yX3_put)
def sy_c22 : List sy_En := [(0, .iload_n 1, 1, 0, 0), (1, .iconst 5, 2, 0, 5), (2, .invokestatic 31, 5, 0, 0), (5, .ifCond .eq 60, 8, 65, 0), (8, .iload_n 2, 9, 0, 0), (9, .sipush 199, 12, 0, 199), (12, .invokestatic 31, 15, 0, 0), (15, .ifCond .eq 50, 18, 65, 0), (18, .iload_n 2, 19, 0, 0), (19, .aload_n 0, 20, 0, 0), (20, .invokevirtual 35, 23, 0, 0), (23, .if_icmp .lt 42, 26, 65, 0), (26, .iload_n 3, 27, 0, 0), (27, .bipush 8, 29, 0, 8), (29, .invokestatic 31, 32, 0, 0), (32, .ifCond .eq 33, 35, 65, 0), (35, .iload 4, 37, 0, 0), (37, .invokestatic 39, 40, 0, 0), (40, .ifCond .eq 25, 43, 65, 0), (43, .iload 5, 45, 0, 0), (45, .iload_n 1, 46, 0, 0), (46, .ifCond .ne 8, 49, 54, 0), (49, .bipush 9, 51, 0, 9), (51, .goto 4, 54, 55, 0), (54, .iconst 0, 55, 0, 0), (55, .invokestatic 31, 58, 0, 0), (58, .ifCond .eq 7, 61, 65, 0), (61, .iconst 1, 62, 0, 1), (62, .goto 4, 65, 66, 0), (65, .iconst 0, 66, 0, 0), (66, .ireturn, 67, 0, 0)]
def sy_m22 : sy_MI := (sy_c22, cX4_mayBe, 6, some .boolean, 4, false, 5, yX4_mayBe)
def sy_c23 : List sy_En := [(0, .aload_n 0, 1, 0, 0), (1, .getfield 27, 4, 0, 0), (4, .bipush 40, 6, 0, 40), (6, .if_icmp .lt 7, 9, 13, 0), (9, .iconst 1, 10, 0, 1), (10, .goto 4, 13, 14, 0), (13, .iconst 0, 14, 0, 0), (14, .ireturn, 15, 0, 0)]
def sy_m23 : sy_MI := (sy_c23, cX4_isFull, 1, some .boolean, 4, false, 0, yX4_isFull)
def sy_c24 : List sy_En := [(0, .aload_n 0, 1, 0, 0), (1, .invokevirtual 43, 4, 0, 0), (4, .ifCond .eq 6, 7, 10, 0), (7, .bipush (-4), 9, 0, (-4)), (9, .ireturn, 10, 0, 0), (10, .aload_n 0, 11, 0, 0), (11, .getfield 11, 14, 0, 0), (14, .aload_n 0, 15, 0, 0), (15, .getfield 27, 18, 0, 0), (18, .iload_n 1, 19, 0, 0), (19, .iastore, 20, 0, 0), (20, .aload_n 0, 21, 0, 0), (21, .getfield 15, 24, 0, 0), (24, .aload_n 0, 25, 0, 0), (25, .getfield 27, 28, 0, 0), (28, .iload_n 2, 29, 0, 0), (29, .iastore, 30, 0, 0), (30, .aload_n 0, 31, 0, 0), (31, .getfield 18, 34, 0, 0), (34, .aload_n 0, 35, 0, 0), (35, .getfield 27, 38, 0, 0), (38, .iload_n 3, 39, 0, 0), (39, .iastore, 40, 0, 0), (40, .aload_n 0, 41, 0, 0), (41, .getfield 21, 44, 0, 0), (44, .aload_n 0, 45, 0, 0), (45, .getfield 27, 48, 0, 0), (48, .iload 4, 50, 0, 0), (50, .iastore, 51, 0, 0), (51, .aload_n 0, 52, 0, 0), (52, .getfield 24, 55, 0, 0), (55, .aload_n 0, 56, 0, 0), (56, .getfield 27, 59, 0, 0), (59, .iload 5, 61, 0, 0), (61, .iastore, 62, 0, 0), (62, .aload_n 0, 63, 0, 0), (63, .dup, 64, 0, 0), (64, .getfield 27, 67, 0, 0), (67, .iconst 1, 68, 0, 1), (68, .iadd, 69, 0, 0), (69, .putfield 27, 72, 0, 0), (72, .aload_n 0, 73, 0, 0), (73, .getfield 27, 76, 0, 0), (76, .ireturn, 77, 0, 0)]
def sy_m24 : sy_MI := (sy_c24, cX4_put, 6, some .int, 4, false, 5, yX4_put)
def sy_c25 : List sy_En := [(0, .aload_n 0, 1, 0, 0), (1, .getfield 27, 4, 0, 0), (4, .ifCond .le 13, 7, 17, 0), (7, .aload_n 0, 8, 0, 0), (8, .dup, 9, 0, 0), (9, .getfield 27, 12, 0, 0), (12, .iconst 1, 13, 0, 1), (13, .isub, 14, 0, 0), (14, .putfield 27, 17, 0, 0), (17, .aload_n 0, 18, 0, 0), (18, .getfield 27, 21, 0, 0), (21, .ireturn, 22, 0, 0)]
def sy_m25 : sy_MI := (sy_c25, cX4_takeLast, 1, some .int, 4, false, 0, yX4_takeLast)
def sy_c26 : List sy_En := [(0, .aload_n 0, 1, 0, 0), (1, .getfield 27, 4, 0, 0), (4, .ifCond .ne 7, 7, 11, 0), (7, .iconst 0, 8, 0, 0), (8, .goto 14, 11, 22, 0), (11, .aload_n 0, 12, 0, 0), (12, .getfield 15, 15, 0, 0), (15, .aload_n 0, 16, 0, 0), (16, .getfield 27, 19, 0, 0), (19, .iconst 1, 20, 0, 1), (20, .isub, 21, 0, 0), (21, .iaload, 22, 0, 0), (22, .ireturn, 23, 0, 0)]
def sy_m26 : sy_MI := (sy_c26, cX4_lastNight, 1, some .int, 4, false, 0, yX4_lastNight)
def sy_c27 : List sy_En := [(0, .aload_n 0, 1, 0, 0), (1, .getfield 11, 4, 0, 0), (4, .iload_n 1, 5, 0, 0), (5, .iaload, 6, 0, 0), (6, .ifCond .ne 28, 9, 34, 0), (9, .aload_n 0, 10, 0, 0), (10, .getfield 24, 13, 0, 0), (13, .iload_n 1, 14, 0, 0), (14, .iaload, 15, 0, 0), (15, .ifCond .eq 15, 18, 30, 0), (18, .aload_n 0, 19, 0, 0), (19, .getfield 24, 22, 0, 0), (22, .iload_n 1, 23, 0, 0), (23, .iaload, 24, 0, 0), (24, .iconst 2, 25, 0, 2), (25, .irem, 26, 0, 0), (26, .iconst 1, 27, 0, 1), (27, .if_icmp .ne 7, 30, 34, 0), (30, .iconst 1, 31, 0, 1), (31, .goto 4, 34, 35, 0), (34, .iconst 0, 35, 0, 0), (35, .ireturn, 36, 0, 0)]
def sy_m27 : sy_MI := (sy_c27, cX4_isTrueTheft, 2, some .boolean, 4, false, 1, yX4_isTrueTheft)
def sy_c28 : List sy_En := [(0, .aload_n 0, 1, 0, 0), (1, .getfield 15, 4, 0, 0), (4, .bipush 30, 6, 0, 30), (6, .if_icmp .lt 6, 9, 12, 0), (9, .bipush (-4), 11, 0, (-4)), (11, .ireturn, 12, 0, 0), (12, .aload_n 0, 13, 0, 0), (13, .getfield 11, 16, 0, 0), (16, .aload_n 0, 17, 0, 0), (17, .getfield 15, 20, 0, 0), (20, .iload_n 1, 21, 0, 0), (21, .iastore, 22, 0, 0), (22, .aload_n 0, 23, 0, 0), (23, .dup, 24, 0, 0), (24, .getfield 15, 27, 0, 0), (27, .iconst 1, 28, 0, 1), (28, .iadd, 29, 0, 0), (29, .putfield 15, 32, 0, 0), (32, .aload_n 0, 33, 0, 0), (33, .invokevirtual 25, 36, 0, 0), (36, .aload_n 0, 37, 0, 0), (37, .getfield 15, 40, 0, 0), (40, .ireturn, 41, 0, 0)]
def sy_m28 : sy_MI := (sy_c28, cX5_put, 2, some .int, 5, false, 1, yX5_put)
def sy_c29 : List sy_En := [(0, .aload_n 0, 1, 0, 0), (1, .getfield 15, 4, 0, 0), (4, .istore_n 1, 5, 0, 0), (5, .aload_n 0, 6, 0, 0), (6, .iconst 0, 7, 0, 0), (7, .putfield 15, 10, 0, 0), (10, .aload_n 0, 11, 0, 0), (11, .invokevirtual 25, 14, 0, 0), (14, .iload_n 1, 15, 0, 0), (15, .ireturn, 16, 0, 0)]
def sy_m29 : sy_MI := (sy_c29, cX5_empty, 2, some .int, 5, false, 0, yX5_empty)
def sy_c30 : List sy_En := [(0, .iload_n 1, 1, 0, 0), (1, .ifCond .lt 15, 4, 16, 0), (4, .iload_n 1, 5, 0, 0), (5, .aload_n 0, 6, 0, 0), (6, .getfield 22, 9, 0, 0), (9, .if_icmp .ge 7, 12, 16, 0), (12, .iconst 1, 13, 0, 1), (13, .goto 4, 16, 17, 0), (16, .iconst 0, 17, 0, 0), (17, .ireturn, 18, 0, 0)]
def sy_m30 : sy_MI := (sy_c30, cX5_has, 2, some .boolean, 5, false, 1, yX5_has)
def sy_c31 : List sy_En := [(0, .aload_n 0, 1, 0, 0), (1, .getfield 11, 4, 0, 0), (4, .iconst 2, 5, 0, 2), (5, .iload_n 1, 6, 0, 0), (6, .imul, 7, 0, 0), (7, .iaload, 8, 0, 0), (8, .bipush 48, 10, 0, 48), (10, .isub, 11, 0, 0), (11, .ireturn, 12, 0, 0)]
def sy_m31 : sy_MI := (sy_c31, cX5_houseOf, 2, some .int, 5, false, 1, yX5_houseOf)
def sy_c32 : List sy_En := [(0, .aload_n 0, 1, 0, 0), (1, .getfield 11, 4, 0, 0), (4, .iconst 2, 5, 0, 2), (5, .iload_n 1, 6, 0, 0), (6, .imul, 7, 0, 0), (7, .iconst 1, 8, 0, 1), (8, .iadd, 9, 0, 0), (9, .iaload, 10, 0, 0), (10, .bipush 102, 12, 0, 102), (12, .if_icmp .ne 7, 15, 19, 0), (15, .iconst 1, 16, 0, 1), (16, .goto 4, 19, 20, 0), (19, .iconst 0, 20, 0, 0), (20, .ireturn, 21, 0, 0)]
def sy_m32 : sy_MI := (sy_c32, cX5_isForged, 2, some .boolean, 5, false, 1, yX5_isForged)
def sy_c33 : List sy_En := [(0, .iconst 0, 1, 0, 0), (1, .istore_n 1, 2, 0, 0), (2, .iconst 0, 3, 0, 0), (3, .istore_n 2, 4, 0, 0), (4, .iload_n 2, 5, 0, 0), (5, .aload_n 0, 6, 0, 0), (6, .getfield 22, 9, 0, 0), (9, .if_icmp .ge 23, 12, 32, 0), (12, .aload_n 0, 13, 0, 0), (13, .iload_n 2, 14, 0, 0), (14, .invokevirtual 28, 17, 0, 0), (17, .ifCond .ne 9, 20, 26, 0), (20, .iload_n 1, 21, 0, 0), (21, .iconst 1, 22, 0, 1), (22, .iload_n 2, 23, 0, 0), (23, .ishl, 24, 0, 0), (24, .ior, 25, 0, 0), (25, .istore_n 1, 26, 0, 0), (26, .iinc 2 1, 29, 0, 1), (29, .goto (-25), 32, 4, 0), (32, .iload_n 1, 33, 0, 0), (33, .ireturn, 34, 0, 0)]
def sy_m33 : sy_MI := (sy_c33, cX5_realStones, 3, some .int, 5, false, 0, yX5_realStones)
def sy_c34 : List sy_En := [(0, .aload_n 0, 1, 0, 0), (1, .aload_n 0, 2, 0, 0), (2, .invokevirtual 32, 5, 0, 0), (5, .putfield 19, 8, 0, 0), (8, .aload_n 0, 9, 0, 0), (9, .aload_n 0, 10, 0, 0), (10, .getfield 19, 13, 0, 0), (13, .iconst (-1), 14, 0, (-1)), (14, .if_icmp .ne 12, 17, 26, 0), (17, .aload_n 0, 18, 0, 0), (18, .getfield 15, 21, 0, 0), (21, .iconst 2, 22, 0, 2), (22, .idiv, 23, 0, 0), (23, .goto 4, 26, 27, 0), (26, .iconst 0, 27, 0, 0), (27, .putfield 22, 30, 0, 0), (30, .return_, 31, 0, 0)]
def sy_m34 : sy_MI := (sy_c34, cX5_lookThrough, 1, none, 5, false, 0, yX5_lookThrough)
def sy_c35 : List sy_En := [(0, .iconst 0, 1, 0, 0), (1, .istore_n 1, 2, 0, 0), (2, .iload_n 1, 3, 0, 0), (3, .aload_n 0, 4, 0, 0), (4, .getfield 15, 7, 0, 0), (7, .if_icmp .ge 19, 10, 26, 0), (10, .aload_n 0, 11, 0, 0), (11, .iload_n 1, 12, 0, 0), (12, .invokevirtual 36, 15, 0, 0), (15, .ifCond .ne 5, 18, 20, 0), (18, .iload_n 1, 19, 0, 0), (19, .ireturn, 20, 0, 0), (20, .iinc 1 1, 23, 0, 1), (23, .goto (-21), 26, 2, 0), (26, .aload_n 0, 27, 0, 0), (27, .getfield 15, 30, 0, 0), (30, .iconst 2, 31, 0, 2), (31, .irem, 32, 0, 0), (32, .ifCond .ne 7, 35, 39, 0), (35, .iconst (-1), 36, 0, (-1)), (36, .goto 7, 39, 43, 0), (39, .aload_n 0, 40, 0, 0), (40, .getfield 15, 43, 0, 0), (43, .ireturn, 44, 0, 0)]
def sy_m35 : sy_MI := (sy_c35, cX5_firstFault, 2, some .int, 5, false, 0, yX5_firstFault)
def sy_c36 : List sy_En := [(0, .iload_n 1, 1, 0, 0), (1, .bipush 18, 3, 0, 18), (3, .if_icmp .lt 5, 6, 8, 0), (6, .iconst 0, 7, 0, 0), (7, .ireturn, 8, 0, 0), (8, .aload_n 0, 9, 0, 0), (9, .getfield 11, 12, 0, 0), (12, .iload_n 1, 13, 0, 0), (13, .iaload, 14, 0, 0), (14, .istore_n 2, 15, 0, 0), (15, .iload_n 1, 16, 0, 0), (16, .iconst 2, 17, 0, 2), (17, .irem, 18, 0, 0), (18, .ifCond .ne 23, 21, 41, 0), (21, .iload_n 2, 22, 0, 0), (22, .bipush 48, 24, 0, 48), (24, .if_icmp .lt 13, 27, 37, 0), (27, .iload_n 2, 28, 0, 0), (28, .bipush 55, 30, 0, 55), (30, .if_icmp .gt 7, 33, 37, 0), (33, .iconst 1, 34, 0, 1), (34, .goto 24, 37, 58, 0), (37, .iconst 0, 38, 0, 0), (38, .goto 20, 41, 58, 0), (41, .iload_n 2, 42, 0, 0), (42, .bipush 114, 44, 0, 114), (44, .if_icmp .eq 9, 47, 53, 0), (47, .iload_n 2, 48, 0, 0), (48, .bipush 102, 50, 0, 102), (50, .if_icmp .ne 7, 53, 57, 0), (53, .iconst 1, 54, 0, 1), (54, .goto 4, 57, 58, 0), (57, .iconst 0, 58, 0, 0), (58, .ireturn, 59, 0, 0)]
def sy_m36 : sy_MI := (sy_c36, cX5_fits, 3, some .boolean, 5, false, 1, yX5_fits)
def sy_c37 : List sy_En := [(0, .iconst 0, 1, 0, 0), (1, .istore_n 1, 2, 0, 0), (2, .iload_n 1, 3, 0, 0), (3, .aload_n 0, 4, 0, 0), (4, .getfield 40, 7, 0, 0), (7, .getfield 48, 10, 0, 0), (10, .if_icmp .ge 37, 13, 47, 0), (13, .aload_n 0, 14, 0, 0), (14, .getfield 9, 17, 0, 0), (17, .iload_n 1, 18, 0, 0), (18, .aload_n 0, 19, 0, 0), (19, .getfield 40, 22, 0, 0), (22, .iload_n 1, 23, 0, 0), (23, .invokevirtual 53, 26, 0, 0), (26, .iastore, 27, 0, 0), (27, .aload_n 0, 28, 0, 0), (28, .getfield 15, 31, 0, 0), (31, .iload_n 1, 32, 0, 0), (32, .iconst 0, 33, 0, 0), (33, .iastore, 34, 0, 0), (34, .aload_n 0, 35, 0, 0), (35, .getfield 18, 38, 0, 0), (38, .iload_n 1, 39, 0, 0), (39, .iconst (-1), 40, 0, (-1)), (40, .iastore, 41, 0, 0), (41, .iinc 1 1, 44, 0, 1), (44, .goto (-42), 47, 2, 0), (47, .aload_n 0, 48, 0, 0), (48, .aload_n 0, 49, 0, 0), (49, .getfield 40, 52, 0, 0), (52, .invokevirtual 57, 55, 0, 0), (55, .putfield 21, 58, 0, 0), (58, .aload_n 0, 59, 0, 0), (59, .iconst 0, 60, 0, 0), (60, .putfield 28, 63, 0, 0), (63, .aload_n 0, 64, 0, 0), (64, .iconst 0, 65, 0, 0), (65, .putfield 31, 68, 0, 0), (68, .aload_n 0, 69, 0, 0), (69, .iconst (-1), 70, 0, (-1)), (70, .putfield 34, 73, 0, 0), (73, .aload_n 0, 74, 0, 0), (74, .iconst 0, 75, 0, 0), (75, .putfield 37, 78, 0, 0), (78, .return_, 79, 0, 0)]
def sy_m37 : sy_MI := (sy_c37, cX6_begin, 2, none, 6, false, 0, yX6_begin)
def sy_c38 : List sy_En := [(0, .aload_n 0, 1, 0, 0), (1, .getfield 28, 4, 0, 0), (4, .aload_n 0, 5, 0, 0), (5, .getfield 44, 8, 0, 0), (8, .getfield 61, 11, 0, 0), (11, .if_icmp .ge 48, 14, 59, 0), (14, .aload_n 0, 15, 0, 0), (15, .getfield 44, 18, 0, 0), (18, .getfield 66, 21, 0, 0), (21, .aload_n 0, 22, 0, 0), (22, .getfield 28, 25, 0, 0), (25, .iaload, 26, 0, 0), (26, .iload_n 1, 27, 0, 0), (27, .if_icmp .gt 32, 30, 59, 0), (30, .aload_n 0, 31, 0, 0), (31, .getfield 28, 34, 0, 0), (34, .iload_n 2, 35, 0, 0), (35, .if_icmp .eq 11, 38, 46, 0), (38, .aload_n 0, 39, 0, 0), (39, .aload_n 0, 40, 0, 0), (40, .getfield 28, 43, 0, 0), (43, .invokevirtual 69, 46, 0, 0), (46, .aload_n 0, 47, 0, 0), (47, .dup, 48, 0, 0), (48, .getfield 28, 51, 0, 0), (51, .iconst 1, 52, 0, 1), (52, .iadd, 53, 0, 0), (53, .putfield 28, 56, 0, 0), (56, .goto (-56), 59, 0, 0), (59, .return_, 60, 0, 0)]
def sy_m38 : sy_MI := (sy_c38, cX6_tellTo, 3, none, 6, false, 2, yX6_tellTo)
def sy_c39 : List sy_En := [(0, .aload_n 0, 1, 0, 0), (1, .invokevirtual 73, 4, 0, 0), (4, .aload_n 0, 5, 0, 0), (5, .iload_n 1, 6, 0, 0), (6, .iconst (-1), 7, 0, (-1)), (7, .invokevirtual 76, 10, 0, 0), (10, .return_, 11, 0, 0)]
def sy_m39 : sy_MI := (sy_c39, cX6_tellFromStart, 2, none, 6, false, 1, yX6_tellFromStart)
def sy_c40 : List sy_En := [(0, .aload_n 0, 1, 0, 0), (1, .sipush 199, 4, 0, 199), (4, .invokevirtual 80, 7, 0, 0), (7, .return_, 8, 0, 0)]
def sy_m40 : sy_MI := (sy_c40, cX6_tellAll, 1, none, 6, false, 0, yX6_tellAll)
def sy_c41 : List sy_En := [(0, .aload_n 0, 1, 0, 0), (1, .iload_n 1, 2, 0, 0), (2, .invokevirtual 83, 5, 0, 0), (5, .ifCond .ne 26, 8, 31, 0), (8, .aload_n 0, 9, 0, 0), (9, .getfield 31, 12, 0, 0), (12, .ifCond .ne 8, 15, 20, 0), (15, .aload_n 0, 16, 0, 0), (16, .iload_n 1, 17, 0, 0), (17, .putfield 34, 20, 0, 0), (20, .aload_n 0, 21, 0, 0), (21, .dup, 22, 0, 0), (22, .getfield 31, 25, 0, 0), (25, .iconst 1, 26, 0, 1), (26, .iadd, 27, 0, 0), (27, .putfield 31, 30, 0, 0), (30, .return_, 31, 0, 0), (31, .aload_n 0, 32, 0, 0), (32, .getfield 44, 35, 0, 0), (35, .getfield 87, 38, 0, 0), (38, .iload_n 1, 39, 0, 0), (39, .iaload, 40, 0, 0), (40, .istore_n 2, 41, 0, 0), (41, .aload_n 0, 42, 0, 0), (42, .getfield 15, 45, 0, 0), (45, .iload_n 2, 46, 0, 0), (46, .iconst 0, 47, 0, 0), (47, .iastore, 48, 0, 0), (48, .aload_n 0, 49, 0, 0), (49, .getfield 18, 52, 0, 0), (52, .iload_n 2, 53, 0, 0), (53, .iconst (-1), 54, 0, (-1)), (54, .iastore, 55, 0, 0), (55, .aload_n 0, 56, 0, 0), (56, .getfield 44, 59, 0, 0), (59, .getfield 89, 62, 0, 0), (62, .iload_n 1, 63, 0, 0), (63, .iaload, 64, 0, 0), (64, .iconst 5, 65, 0, 5), (65, .if_icmp .eq 35, 68, 100, 0), (68, .aload_n 0, 69, 0, 0), (69, .getfield 9, 72, 0, 0), (72, .iload_n 2, 73, 0, 0), (73, .aload_n 0, 74, 0, 0), (74, .getfield 44, 77, 0, 0), (77, .getfield 89, 80, 0, 0), (80, .iload_n 1, 81, 0, 0), (81, .iaload, 82, 0, 0), (82, .iconst 3, 83, 0, 3), (83, .if_icmp .ne 7, 86, 90, 0), (86, .iconst (-1), 87, 0, (-1)), (87, .goto 12, 90, 99, 0), (90, .aload_n 0, 91, 0, 0), (91, .getfield 44, 94, 0, 0), (94, .getfield 92, 97, 0, 0), (97, .iload_n 1, 98, 0, 0), (98, .iaload, 99, 0, 0), (99, .iastore, 100, 0, 0), (100, .aload_n 0, 101, 0, 0), (101, .getfield 44, 104, 0, 0), (104, .iload_n 1, 105, 0, 0), (105, .invokevirtual 95, 108, 0, 0), (108, .ifCond .eq 40, 111, 148, 0), (111, .aload_n 0, 112, 0, 0), (112, .getfield 15, 115, 0, 0), (115, .iload_n 2, 116, 0, 0), (116, .aload_n 0, 117, 0, 0), (117, .getfield 44, 120, 0, 0), (120, .getfield 66, 123, 0, 0), (123, .iload_n 1, 124, 0, 0), (124, .iaload, 125, 0, 0), (125, .aload_n 0, 126, 0, 0), (126, .getfield 25, 129, 0, 0), (129, .iadd, 130, 0, 0), (130, .iastore, 131, 0, 0), (131, .aload_n 0, 132, 0, 0), (132, .getfield 18, 135, 0, 0), (135, .iload_n 2, 136, 0, 0), (136, .iload_n 1, 137, 0, 0), (137, .iastore, 138, 0, 0), (138, .aload_n 0, 139, 0, 0), (139, .dup, 140, 0, 0), (140, .getfield 37, 143, 0, 0), (143, .iconst 1, 144, 0, 1), (144, .iadd, 145, 0, 0), (145, .putfield 37, 148, 0, 0), (148, .return_, 149, 0, 0)]
def sy_m41 : sy_MI := (sy_c41, cX6_tell, 3, none, 6, false, 1, yX6_tell)
def sy_c42 : List sy_En := [(0, .aload_n 0, 1, 0, 0), (1, .getfield 44, 4, 0, 0), (4, .getfield 87, 7, 0, 0), (7, .iload_n 1, 8, 0, 0), (8, .iaload, 9, 0, 0), (9, .istore_n 2, 10, 0, 0), (10, .iload_n 2, 11, 0, 0), (11, .aload_n 0, 12, 0, 0), (12, .getfield 40, 15, 0, 0), (15, .getfield 48, 18, 0, 0), (18, .if_icmp .lt 5, 21, 23, 0), (21, .iconst 0, 22, 0, 0), (22, .ireturn, 23, 0, 0), (23, .aload_n 0, 24, 0, 0), (24, .getfield 44, 27, 0, 0), (27, .getfield 89, 30, 0, 0), (30, .iload_n 1, 31, 0, 0), (31, .iaload, 32, 0, 0), (32, .tableswitch 86 0 4 #[36, 36, 36, 86, 70], 68, 0, 0), (68, .aload_n 0, 69, 0, 0), (69, .getfield 9, 72, 0, 0), (72, .iload_n 2, 73, 0, 0), (73, .iaload, 74, 0, 0), (74, .iconst (-1), 75, 0, (-1)), (75, .if_icmp .eq 25, 78, 100, 0), (78, .aload_n 0, 79, 0, 0), (79, .getfield 9, 82, 0, 0), (82, .iload_n 2, 83, 0, 0), (83, .iaload, 84, 0, 0), (84, .aload_n 0, 85, 0, 0), (85, .getfield 44, 88, 0, 0), (88, .getfield 92, 91, 0, 0), (91, .iload_n 1, 92, 0, 0), (92, .iaload, 93, 0, 0), (93, .if_icmp .eq 7, 96, 100, 0), (96, .iconst 1, 97, 0, 1), (97, .goto 4, 100, 101, 0), (100, .iconst 0, 101, 0, 0), (101, .ireturn, 102, 0, 0), (102, .aload_n 0, 103, 0, 0), (103, .getfield 9, 106, 0, 0), (106, .iload_n 2, 107, 0, 0), (107, .iaload, 108, 0, 0), (108, .iconst (-1), 109, 0, (-1)), (109, .if_icmp .ne 7, 112, 116, 0), (112, .iconst 1, 113, 0, 1), (113, .goto 4, 116, 117, 0), (116, .iconst 0, 117, 0, 0), (117, .ireturn, 118, 0, 0), (118, .aload_n 0, 119, 0, 0), (119, .getfield 9, 122, 0, 0), (122, .iload_n 2, 123, 0, 0), (123, .iaload, 124, 0, 0), (124, .aload_n 0, 125, 0, 0), (125, .getfield 44, 128, 0, 0), (128, .getfield 92, 131, 0, 0), (131, .iload_n 1, 132, 0, 0), (132, .iaload, 133, 0, 0), (133, .if_icmp .ne 7, 136, 140, 0), (136, .iconst 1, 137, 0, 1), (137, .goto 4, 140, 141, 0), (140, .iconst 0, 141, 0, 0), (141, .ireturn, 142, 0, 0)]
def sy_m42 : sy_MI := (sy_c42, cX6_isLawful, 3, some .boolean, 6, false, 1, yX6_isLawful)
def sy_c43 : List sy_En := [(0, .aload_n 0, 1, 0, 0), (1, .getfield 21, 4, 0, 0), (4, .iload_n 1, 5, 0, 0), (5, .ishr, 6, 0, 0), (6, .iconst 1, 7, 0, 1), (7, .iand, 8, 0, 0), (8, .iconst 1, 9, 0, 1), (9, .if_icmp .ne 7, 12, 16, 0), (12, .iconst 1, 13, 0, 1), (13, .goto 4, 16, 17, 0), (16, .iconst 0, 17, 0, 0), (17, .ireturn, 18, 0, 0)]
def sy_m43 : sy_MI := (sy_c43, cX6_isReal, 2, some .boolean, 6, false, 1, yX6_isReal)
def sy_c44 : List sy_En := [(0, .aload_n 0, 1, 0, 0), (1, .getfield 15, 4, 0, 0), (4, .iload_n 1, 5, 0, 0), (5, .iaload, 6, 0, 0), (6, .iload_n 2, 7, 0, 0), (7, .if_icmp .le 15, 10, 22, 0), (10, .aload_n 0, 11, 0, 0), (11, .iload_n 1, 12, 0, 0), (12, .invokevirtual 98, 15, 0, 0), (15, .ifCond .eq 7, 18, 22, 0), (18, .iconst 1, 19, 0, 1), (19, .goto 4, 22, 23, 0), (22, .iconst 0, 23, 0, 0), (23, .ireturn, 24, 0, 0)]
def sy_m44 : sy_MI := (sy_c44, cX6_isLucky, 3, some .boolean, 6, false, 2, yX6_isLucky)
def sy_c45 : List sy_En := [(0, .iconst 0, 1, 0, 0), (1, .istore_n 3, 2, 0, 0), (2, .iconst 0, 3, 0, 0), (3, .istore 4, 5, 0, 0), (5, .iload 4, 7, 0, 0), (7, .aload_n 0, 8, 0, 0), (8, .getfield 40, 11, 0, 0), (11, .getfield 48, 14, 0, 0), (14, .if_icmp .ge 33, 17, 47, 0), (17, .aload_n 0, 18, 0, 0), (18, .getfield 9, 21, 0, 0), (21, .iload 4, 23, 0, 0), (23, .iaload, 24, 0, 0), (24, .iload_n 1, 25, 0, 0), (25, .if_icmp .ne 16, 28, 41, 0), (28, .aload_n 0, 29, 0, 0), (29, .iload 4, 31, 0, 0), (31, .iload_n 2, 32, 0, 0), (32, .invokevirtual 101, 35, 0, 0), (35, .ifCond .eq 6, 38, 41, 0), (38, .iinc 3 1, 41, 0, 1), (41, .iinc 4 1, 44, 0, 1), (44, .goto (-39), 47, 5, 0), (47, .iload_n 3, 48, 0, 0), (48, .ireturn, 49, 0, 0)]
def sy_m45 : sy_MI := (sy_c45, cX6_luckOf, 5, some .int, 6, false, 2, yX6_luckOf)
def sy_c46 : List sy_En := [(0, .iconst 1, 1, 0, 1), (1, .iconst 2, 2, 0, 2), (2, .aload_n 0, 3, 0, 0), (3, .iload_n 1, 4, 0, 0), (4, .iload_n 2, 5, 0, 0), (5, .invokevirtual 105, 8, 0, 0), (8, .imul, 9, 0, 0), (9, .iadd, 10, 0, 0), (10, .ireturn, 11, 0, 0)]
def sy_m46 : sy_MI := (sy_c46, cX6_eggsOf, 3, some .int, 6, false, 2, yX6_eggsOf)
def sy_c47 : List sy_En := [(0, .iconst 0, 1, 0, 0), (1, .istore 4, 3, 0, 0), (3, .iconst 0, 4, 0, 0), (4, .istore 5, 6, 0, 0), (6, .iload 5, 8, 0, 0), (8, .aload_n 0, 9, 0, 0), (9, .getfield 40, 12, 0, 0), (12, .getfield 48, 15, 0, 0), (15, .if_icmp .ge 47, 18, 62, 0), (18, .aload_n 0, 19, 0, 0), (19, .getfield 9, 22, 0, 0), (22, .iload 5, 24, 0, 0), (24, .iaload, 25, 0, 0), (25, .iload_n 1, 26, 0, 0), (26, .if_icmp .ne 30, 29, 56, 0), (29, .aload_n 0, 30, 0, 0), (30, .iload 5, 32, 0, 0), (32, .iload_n 2, 33, 0, 0), (33, .invokevirtual 101, 36, 0, 0), (36, .ifCond .eq 20, 39, 56, 0), (39, .iload 4, 41, 0, 0), (41, .iload_n 3, 42, 0, 0), (42, .if_icmp .ne 11, 45, 53, 0), (45, .aload_n 0, 46, 0, 0), (46, .getfield 18, 49, 0, 0), (49, .iload 5, 51, 0, 0), (51, .iaload, 52, 0, 0), (52, .ireturn, 53, 0, 0), (53, .iinc 4 1, 56, 0, 1), (56, .iinc 5 1, 59, 0, 1), (59, .goto (-53), 62, 6, 0), (62, .iconst (-1), 63, 0, (-1)), (63, .ireturn, 64, 0, 0)]
def sy_m47 : sy_MI := (sy_c47, cX6_theftBehind, 6, some .int, 6, false, 3, yX6_theftBehind)
def sy_c48 : List sy_En := [(0, .iconst 0, 1, 0, 0), (1, .istore_n 2, 2, 0, 0), (2, .iconst 0, 3, 0, 0), (3, .istore_n 3, 4, 0, 0), (4, .iload_n 3, 5, 0, 0), (5, .aload_n 0, 6, 0, 0), (6, .getfield 40, 9, 0, 0), (9, .getfield 48, 12, 0, 0), (12, .if_icmp .ge 39, 15, 51, 0), (15, .aload_n 0, 16, 0, 0), (16, .getfield 9, 19, 0, 0), (19, .iload_n 3, 20, 0, 0), (20, .iaload, 21, 0, 0), (21, .iconst (-1), 22, 0, (-1)), (22, .if_icmp .eq 23, 25, 45, 0), (25, .aload_n 0, 26, 0, 0), (26, .iload_n 3, 27, 0, 0), (27, .iload_n 1, 28, 0, 0), (28, .invokevirtual 101, 31, 0, 0), (31, .ifCond .eq 14, 34, 45, 0), (34, .iload_n 2, 35, 0, 0), (35, .iconst 1, 36, 0, 1), (36, .aload_n 0, 37, 0, 0), (37, .getfield 9, 40, 0, 0), (40, .iload_n 3, 41, 0, 0), (41, .iaload, 42, 0, 0), (42, .ishl, 43, 0, 0), (43, .ior, 44, 0, 0), (44, .istore_n 2, 45, 0, 0), (45, .iinc 3 1, 48, 0, 1), (48, .goto (-44), 51, 4, 0), (51, .iload_n 2, 52, 0, 0), (52, .ireturn, 53, 0, 0)]
def sy_m48 : sy_MI := (sy_c48, cX6_luckyHouses, 4, some .int, 6, false, 1, yX6_luckyHouses)
def sy_c49 : List sy_En := [(0, .iconst 0, 1, 0, 0), (1, .istore 5, 3, 0, 0), (3, .aload_n 0, 4, 0, 0), (4, .invokevirtual 73, 7, 0, 0), (7, .iload_n 2, 8, 0, 0), (8, .istore 6, 10, 0, 0), (10, .iload 6, 12, 0, 0), (12, .iload_n 3, 13, 0, 0), (13, .if_icmp .gt 33, 16, 46, 0), (16, .aload_n 0, 17, 0, 0), (17, .iload 6, 19, 0, 0), (19, .iload 4, 21, 0, 0), (21, .invokevirtual 76, 24, 0, 0), (24, .iload 5, 26, 0, 0), (26, .aload_n 0, 27, 0, 0), (27, .iload 6, 29, 0, 0), (29, .invokevirtual 109, 32, 0, 0), (32, .iload_n 1, 33, 0, 0), (33, .iand, 34, 0, 0), (34, .invokestatic 112, 37, 0, 0), (37, .iadd, 38, 0, 0), (38, .istore 5, 40, 0, 0), (40, .iinc 6 1, 43, 0, 1), (43, .goto (-33), 46, 10, 0), (46, .iload 5, 48, 0, 0), (48, .ireturn, 49, 0, 0)]
def sy_m49 : sy_MI := (sy_c49, cX6_luckyDays, 7, some .int, 6, false, 4, yX6_luckyDays)
def sy_c50 : List sy_En := [(0, .iconst 0, 1, 0, 0), (1, .istore_n 3, 2, 0, 0), (2, .iconst 0, 3, 0, 0), (3, .istore 4, 5, 0, 0), (5, .iload 4, 7, 0, 0), (7, .aload_n 0, 8, 0, 0), (8, .getfield 40, 11, 0, 0), (11, .getfield 48, 14, 0, 0), (14, .if_icmp .ge 38, 17, 52, 0), (17, .aload_n 0, 18, 0, 0), (18, .getfield 9, 21, 0, 0), (21, .iload 4, 23, 0, 0), (23, .iaload, 24, 0, 0), (24, .iload_n 1, 25, 0, 0), (25, .if_icmp .ne 21, 28, 46, 0), (28, .aload_n 0, 29, 0, 0), (29, .getfield 15, 32, 0, 0), (32, .iload 4, 34, 0, 0), (34, .iaload, 35, 0, 0), (35, .iload_n 2, 36, 0, 0), (36, .if_icmp .le 10, 39, 46, 0), (39, .iload_n 3, 40, 0, 0), (40, .iconst 1, 41, 0, 1), (41, .iload 4, 43, 0, 0), (43, .ishl, 44, 0, 0), (44, .ior, 45, 0, 0), (45, .istore_n 3, 46, 0, 0), (46, .iinc 4 1, 49, 0, 1), (49, .goto (-44), 52, 5, 0), (52, .iload_n 3, 53, 0, 0), (53, .ireturn, 54, 0, 0)]
def sy_m50 : sy_MI := (sy_c50, cX6_luckyIfReal, 5, some .int, 6, false, 2, yX6_luckyIfReal)
def sy_c51 : List sy_En := [(0, .iload_n 1, 1, 0, 0), (1, .sipush 255, 4, 0, 255), (4, .invokestatic 66, 7, 0, 0), (7, .ifCond .eq 14, 10, 21, 0), (10, .aload_n 0, 11, 0, 0), (11, .getfield 10, 14, 0, 0), (14, .iload_n 1, 15, 0, 0), (15, .invokevirtual 70, 18, 0, 0), (18, .goto 5, 21, 23, 0), (21, .bipush (-2), 23, 0, (-2)), (23, .ireturn, 24, 0, 0)]
def sy_m51 : sy_MI := (sy_c51, cX7_type, 2, some .int, 7, false, 1, yX7_type)
def sy_c52 : List sy_En := [(0, .aload_n 0, 1, 0, 0), (1, .getfield 10, 4, 0, 0), (4, .invokevirtual 74, 7, 0, 0), (7, .ireturn, 8, 0, 0)]
def sy_m52 : sy_MI := (sy_c52, cX7_wipe, 1, some .int, 7, false, 0, yX7_wipe)
def sy_c53 : List sy_En := [(0, .aload_n 0, 1, 0, 0), (1, .getfield 10, 4, 0, 0), (4, .getfield 78, 7, 0, 0), (7, .ireturn, 8, 0, 0)]
def sy_m53 : sy_MI := (sy_c53, cX7_fault, 1, some .int, 7, false, 0, yX7_fault)
def sy_c54 : List sy_En := [(0, .aload_n 0, 1, 0, 0), (1, .getfield 10, 4, 0, 0), (4, .iload_n 1, 5, 0, 0), (5, .invokevirtual 81, 8, 0, 0), (8, .ifCond .eq 11, 11, 19, 0), (11, .iload_n 2, 12, 0, 0), (12, .iconst 1, 13, 0, 1), (13, .invokestatic 66, 16, 0, 0), (16, .ifCond .ne 6, 19, 22, 0), (19, .bipush (-2), 21, 0, (-2)), (21, .ireturn, 22, 0, 0), (22, .iload_n 2, 23, 0, 0), (23, .ifCond .ne 14, 26, 37, 0), (26, .aload_n 0, 27, 0, 0), (27, .getfield 10, 30, 0, 0), (30, .iload_n 1, 31, 0, 0), (31, .invokevirtual 85, 34, 0, 0), (34, .goto 19, 37, 53, 0), (37, .aload_n 0, 38, 0, 0), (38, .getfield 10, 41, 0, 0), (41, .iload_n 1, 42, 0, 0), (42, .invokevirtual 88, 45, 0, 0), (45, .ifCond .eq 7, 48, 52, 0), (48, .iconst 1, 49, 0, 1), (49, .goto 4, 52, 53, 0), (52, .iconst 0, 53, 0, 0), (53, .ireturn, 54, 0, 0)]
def sy_m54 : sy_MI := (sy_c54, cX7_stone, 3, some .int, 7, false, 2, yX7_stone)
def sy_c55 : List sy_En := [(0, .iload_n 1, 1, 0, 0), (1, .iconst 1, 2, 0, 1), (2, .if_icmp .lt 9, 5, 11, 0), (5, .iload_n 1, 6, 0, 0), (6, .bipush 99, 8, 0, 99), (8, .if_icmp .le 6, 11, 14, 0), (11, .bipush (-2), 13, 0, (-2)), (13, .ireturn, 14, 0, 0), (14, .aload_n 0, 15, 0, 0), (15, .getfield 28, 18, 0, 0), (18, .getfield 91, 21, 0, 0), (21, .istore_n 2, 22, 0, 0), (22, .aload_n 0, 23, 0, 0), (23, .getfield 28, 26, 0, 0), (26, .iload_n 1, 27, 0, 0), (27, .putfield 91, 30, 0, 0), (30, .iload_n 2, 31, 0, 0), (31, .ireturn, 32, 0, 0)]
def sy_m55 : sy_MI := (sy_c55, cX7_lasts, 3, some .int, 7, false, 1, yX7_lasts)
def sy_c56 : List sy_En := [(0, .aload_n 0, 1, 0, 0), (1, .getfield 19, 4, 0, 0), (4, .iload_n 1, 5, 0, 0), (5, .iload_n 2, 6, 0, 0), (6, .iload_n 3, 7, 0, 0), (7, .iload 4, 9, 0, 0), (9, .iload 5, 11, 0, 0), (11, .invokevirtual 94, 14, 0, 0), (14, .ifCond .ne 6, 17, 20, 0), (17, .bipush (-2), 19, 0, (-2)), (19, .ireturn, 20, 0, 0), (20, .aload_n 0, 21, 0, 0), (21, .getfield 19, 24, 0, 0), (24, .invokevirtual 98, 27, 0, 0), (27, .ifCond .eq 8, 30, 35, 0), (30, .bipush (-4), 32, 0, (-4)), (32, .goto 17, 35, 49, 0), (35, .aload_n 0, 36, 0, 0), (36, .getfield 19, 39, 0, 0), (39, .iload_n 1, 40, 0, 0), (40, .iload_n 2, 41, 0, 0), (41, .iload_n 3, 42, 0, 0), (42, .iload 4, 44, 0, 0), (44, .iload 5, 46, 0, 0), (46, .invokevirtual 102, 49, 0, 0), (49, .ireturn, 50, 0, 0)]
def sy_m56 : sy_MI := (sy_c56, cX7_event, 6, some .int, 7, false, 5, yX7_event)
def sy_c57 : List sy_En := [(0, .iload_n 1, 1, 0, 0), (1, .invokestatic 105, 4, 0, 0), (4, .ifCond .ne 6, 7, 10, 0), (7, .bipush (-2), 9, 0, (-2)), (9, .ireturn, 10, 0, 0), (10, .aload_n 0, 11, 0, 0), (11, .getfield 57, 14, 0, 0), (14, .iload_n 1, 15, 0, 0), (15, .aaload, 16, 0, 0), (16, .astore_n 2, 17, 0, 0), (17, .aload_n 2, 18, 0, 0), (18, .invokevirtual 108, 21, 0, 0), (21, .ifCond .eq 9, 24, 30, 0), (24, .aload_n 0, 25, 0, 0), (25, .iconst 1, 26, 0, 1), (26, .invokevirtual 111, 29, 0, 0), (29, .ireturn, 30, 0, 0), (30, .aload_n 2, 31, 0, 0), (31, .getfield 114, 34, 0, 0), (34, .astore_n 3, 35, 0, 0), (35, .iconst 0, 36, 0, 0), (36, .istore 4, 38, 0, 0), (38, .iconst 0, 39, 0, 0), (39, .istore 5, 41, 0, 0), (41, .iload 5, 43, 0, 0), (43, .iconst 5, 44, 0, 5), (44, .iadd, 45, 0, 0), (45, .aload_n 2, 46, 0, 0), (46, .getfield 118, 49, 0, 0), (49, .if_icmp .gt 50, 52, 99, 0), (52, .aload_n 0, 53, 0, 0), (53, .aload_n 3, 54, 0, 0), (54, .iload 5, 56, 0, 0), (56, .iaload, 57, 0, 0), (57, .aload_n 3, 58, 0, 0), (58, .iload 5, 60, 0, 0), (60, .iconst 1, 61, 0, 1), (61, .iadd, 62, 0, 0), (62, .iaload, 63, 0, 0), (63, .aload_n 3, 64, 0, 0), (64, .iload 5, 66, 0, 0), (66, .iconst 2, 67, 0, 2), (67, .iadd, 68, 0, 0), (68, .iaload, 69, 0, 0), (69, .aload_n 3, 70, 0, 0), (70, .iload 5, 72, 0, 0), (72, .iconst 3, 73, 0, 3), (73, .iadd, 74, 0, 0), (74, .iaload, 75, 0, 0), (75, .aload_n 3, 76, 0, 0), (76, .iload 5, 78, 0, 0), (78, .iconst 4, 79, 0, 4), (79, .iadd, 80, 0, 0), (80, .iaload, 81, 0, 0), (81, .invokevirtual 121, 84, 0, 0), (84, .ifCond .ge 6, 87, 90, 0), (87, .goto 12, 90, 99, 0), (90, .iinc 4 1, 93, 0, 1), (93, .iinc 5 5, 96, 0, 5), (96, .goto (-55), 99, 41, 0), (99, .iload 4, 101, 0, 0), (101, .ireturn, 102, 0, 0)]
def sy_m57 : sy_MI := (sy_c57, cX7_read, 6, some .int, 7, false, 1, yX7_read)
def sy_c58 : List sy_En := [(0, .aload_n 0, 1, 0, 0), (1, .getfield 19, 4, 0, 0), (4, .getfield 124, 7, 0, 0), (7, .ifCond .ne 8, 10, 15, 0), (10, .bipush (-3), 12, 0, (-3)), (12, .goto 10, 15, 22, 0), (15, .aload_n 0, 16, 0, 0), (16, .getfield 19, 19, 0, 0), (19, .invokevirtual 125, 22, 0, 0), (22, .ireturn, 23, 0, 0)]
def sy_m58 : sy_MI := (sy_c58, cX7_undo, 1, some .int, 7, false, 0, yX7_undo)
def sy_c59 : List sy_En := [(0, .aload_n 0, 1, 0, 0), (1, .getfield 28, 4, 0, 0), (4, .invokevirtual 128, 7, 0, 0), (7, .aload_n 0, 8, 0, 0), (8, .getfield 28, 11, 0, 0), (11, .getfield 131, 14, 0, 0), (14, .ireturn, 15, 0, 0)]
def sy_m59 : sy_MI := (sy_c59, cX7_judged, 1, some .int, 7, false, 0, yX7_judged)
def sy_c60 : List sy_En := [(0, .aload_n 0, 1, 0, 0), (1, .getfield 10, 4, 0, 0), (4, .iload_n 1, 5, 0, 0), (5, .invokevirtual 81, 8, 0, 0), (8, .ifCond .eq 21, 11, 29, 0), (11, .iload_n 2, 12, 0, 0), (12, .sipush 299, 15, 0, 299), (15, .invokestatic 66, 18, 0, 0), (18, .ifCond .eq 11, 21, 29, 0), (21, .iload_n 3, 22, 0, 0), (22, .iconst 2, 23, 0, 2), (23, .invokestatic 66, 26, 0, 0), (26, .ifCond .ne 6, 29, 32, 0), (29, .bipush (-2), 31, 0, (-2)), (31, .ireturn, 32, 0, 0), (32, .aload_n 0, 33, 0, 0), (33, .getfield 28, 36, 0, 0), (36, .iload_n 2, 37, 0, 0), (37, .invokevirtual 134, 40, 0, 0), (40, .iload_n 3, 41, 0, 0), (41, .ifCond .ne 13, 44, 54, 0), (44, .aload_n 0, 45, 0, 0), (45, .getfield 28, 48, 0, 0), (48, .getfield 138, 51, 0, 0), (51, .iload_n 1, 52, 0, 0), (52, .iaload, 53, 0, 0), (53, .ireturn, 54, 0, 0), (54, .aload_n 0, 55, 0, 0), (55, .getfield 28, 58, 0, 0), (58, .iload_n 1, 59, 0, 0), (59, .iload_n 2, 60, 0, 0), (60, .invokevirtual 141, 63, 0, 0), (63, .ifCond .ne 5, 66, 68, 0), (66, .iconst 0, 67, 0, 0), (67, .ireturn, 68, 0, 0), (68, .iload_n 3, 69, 0, 0), (69, .iconst 1, 70, 0, 1), (70, .if_icmp .ne 7, 73, 77, 0), (73, .iconst 1, 74, 0, 1), (74, .goto 14, 77, 88, 0), (77, .aload_n 0, 78, 0, 0), (78, .getfield 28, 81, 0, 0), (81, .getfield 144, 84, 0, 0), (84, .iload_n 1, 85, 0, 0), (85, .iaload, 86, 0, 0), (86, .iload_n 2, 87, 0, 0), (87, .isub, 88, 0, 0), (88, .ireturn, 89, 0, 0)]
def sy_m60 : sy_MI := (sy_c60, cX7_at, 4, some .int, 7, false, 3, yX7_at)
def sy_c61 : List sy_En := [(0, .iload_n 1, 1, 0, 0), (1, .invokestatic 147, 4, 0, 0), (4, .ifCond .eq 21, 7, 25, 0), (7, .iload_n 2, 8, 0, 0), (8, .sipush 299, 11, 0, 299), (11, .invokestatic 66, 14, 0, 0), (14, .ifCond .eq 11, 17, 25, 0), (17, .iload_n 3, 18, 0, 0), (18, .iconst 1, 19, 0, 1), (19, .invokestatic 66, 22, 0, 0), (22, .ifCond .ne 6, 25, 28, 0), (25, .bipush (-2), 27, 0, (-2)), (27, .ireturn, 28, 0, 0), (28, .aload_n 0, 29, 0, 0), (29, .getfield 28, 32, 0, 0), (32, .iload_n 2, 33, 0, 0), (33, .invokevirtual 134, 36, 0, 0), (36, .iload_n 3, 37, 0, 0), (37, .ifCond .ne 15, 40, 52, 0), (40, .aload_n 0, 41, 0, 0), (41, .getfield 28, 44, 0, 0), (44, .iload_n 1, 45, 0, 0), (45, .iload_n 2, 46, 0, 0), (46, .invokevirtual 150, 49, 0, 0), (49, .goto 12, 52, 61, 0), (52, .aload_n 0, 53, 0, 0), (53, .getfield 28, 56, 0, 0), (56, .iload_n 1, 57, 0, 0), (57, .iload_n 2, 58, 0, 0), (58, .invokevirtual 154, 61, 0, 0), (61, .ireturn, 62, 0, 0)]
def sy_m61 : sy_MI := (sy_c61, cX7_luck, 4, some .int, 7, false, 3, yX7_luck)
def sy_c62 : List sy_En := [(0, .iload_n 1, 1, 0, 0), (1, .iconst (-1), 2, 0, (-1)), (2, .if_icmp .eq 10, 5, 12, 0), (5, .iload_n 1, 6, 0, 0), (6, .invokestatic 147, 9, 0, 0), (9, .ifCond .eq 7, 12, 16, 0), (12, .iconst 1, 13, 0, 1), (13, .goto 4, 16, 17, 0), (16, .iconst 0, 17, 0, 0), (17, .istore 4, 19, 0, 0), (19, .iload 4, 21, 0, 0), (21, .ifCond .eq 28, 24, 49, 0), (24, .iload_n 2, 25, 0, 0), (25, .sipush 299, 28, 0, 299), (28, .invokestatic 66, 31, 0, 0), (31, .ifCond .eq 18, 34, 49, 0), (34, .iload_n 3, 35, 0, 0), (35, .sipush 299, 38, 0, 299), (38, .invokestatic 66, 41, 0, 0), (41, .ifCond .eq 8, 44, 49, 0), (44, .iload_n 3, 45, 0, 0), (45, .iload_n 2, 46, 0, 0), (46, .if_icmp .ge 6, 49, 52, 0), (49, .bipush (-2), 51, 0, (-2)), (51, .ireturn, 52, 0, 0), (52, .aload_n 0, 53, 0, 0), (53, .getfield 28, 56, 0, 0), (56, .iload_n 1, 57, 0, 0), (57, .iconst (-1), 58, 0, (-1)), (58, .if_icmp .ne 9, 61, 67, 0), (61, .sipush 255, 64, 0, 255), (64, .goto 6, 67, 70, 0), (67, .iconst 1, 68, 0, 1), (68, .iload_n 1, 69, 0, 0), (69, .ishl, 70, 0, 0), (70, .iload_n 2, 71, 0, 0), (71, .iload_n 3, 72, 0, 0), (72, .iconst (-1), 73, 0, (-1)), (73, .invokevirtual 157, 76, 0, 0), (76, .ireturn, 77, 0, 0)]
def sy_m62 : sy_MI := (sy_c62, cX7_days, 5, some .int, 7, false, 3, yX7_days)
def sy_c63 : List sy_En := [(0, .iload_n 1, 1, 0, 0), (1, .invokestatic 147, 4, 0, 0), (4, .ifCond .eq 17, 7, 21, 0), (7, .iload_n 2, 8, 0, 0), (8, .sipush 299, 11, 0, 299), (11, .invokestatic 66, 14, 0, 0), (14, .ifCond .eq 7, 17, 21, 0), (17, .iload_n 3, 18, 0, 0), (18, .ifCond .ge 6, 21, 24, 0), (21, .bipush (-2), 23, 0, (-2)), (23, .ireturn, 24, 0, 0), (24, .aload_n 0, 25, 0, 0), (25, .getfield 28, 28, 0, 0), (28, .iload_n 2, 29, 0, 0), (29, .invokevirtual 134, 32, 0, 0), (32, .aload_n 0, 33, 0, 0), (33, .getfield 28, 36, 0, 0), (36, .iload_n 1, 37, 0, 0), (37, .iload_n 2, 38, 0, 0), (38, .iload_n 3, 39, 0, 0), (39, .invokevirtual 161, 42, 0, 0), (42, .ireturn, 43, 0, 0)]
def sy_m63 : sy_MI := (sy_c63, cX7_led, 4, some .int, 7, false, 3, yX7_led)
def sy_c64 : List sy_En := [(0, .iload_n 1, 1, 0, 0), (1, .ifCond .lt 24, 4, 25, 0), (4, .iload_n 1, 5, 0, 0), (5, .aload_n 0, 6, 0, 0), (6, .getfield 19, 9, 0, 0), (9, .getfield 124, 12, 0, 0), (12, .if_icmp .ge 13, 15, 25, 0), (15, .iload_n 2, 16, 0, 0), (16, .sipush 299, 19, 0, 299), (19, .invokestatic 66, 22, 0, 0), (22, .ifCond .ne 7, 25, 29, 0), (25, .sipush (-10002), 28, 0, (-10002)), (28, .ireturn, 29, 0, 0), (29, .aload_n 0, 30, 0, 0), (30, .getfield 28, 33, 0, 0), (33, .sipush 255, 36, 0, 255), (36, .iconst 0, 37, 0, 0), (37, .iload_n 2, 38, 0, 0), (38, .iload_n 1, 39, 0, 0), (39, .invokevirtual 157, 42, 0, 0), (42, .istore_n 3, 43, 0, 0), (43, .iload_n 3, 44, 0, 0), (44, .aload_n 0, 45, 0, 0), (45, .getfield 28, 48, 0, 0), (48, .sipush 255, 51, 0, 255), (51, .iconst 0, 52, 0, 0), (52, .iload_n 2, 53, 0, 0), (53, .iconst (-1), 54, 0, (-1)), (54, .invokevirtual 157, 57, 0, 0), (57, .isub, 58, 0, 0), (58, .ireturn, 59, 0, 0)]
def sy_m64 : sy_MI := (sy_c64, cX7_without, 4, some .int, 7, false, 2, yX7_without)
def sy_c65 : List sy_En := [(0, .iload_n 1, 1, 0, 0), (1, .invokestatic 147, 4, 0, 0), (4, .ifCond .eq 22, 7, 26, 0), (7, .iload_n 2, 8, 0, 0), (8, .sipush 299, 11, 0, 299), (11, .invokestatic 66, 14, 0, 0), (14, .ifCond .eq 12, 17, 26, 0), (17, .iload_n 3, 18, 0, 0), (18, .bipush 19, 20, 0, 19), (20, .invokestatic 66, 23, 0, 0), (23, .ifCond .ne 6, 26, 29, 0), (26, .bipush (-2), 28, 0, (-2)), (28, .ireturn, 29, 0, 0), (29, .aload_n 0, 30, 0, 0), (30, .getfield 44, 33, 0, 0), (33, .invokevirtual 165, 36, 0, 0), (36, .ifCond .eq 8, 39, 44, 0), (39, .bipush (-4), 41, 0, (-4)), (41, .goto 13, 44, 54, 0), (44, .aload_n 0, 45, 0, 0), (45, .getfield 44, 48, 0, 0), (48, .iload_n 1, 49, 0, 0), (49, .iload_n 2, 50, 0, 0), (50, .iload_n 3, 51, 0, 0), (51, .invokevirtual 166, 54, 0, 0), (54, .ireturn, 55, 0, 0)]
def sy_m65 : sy_MI := (sy_c65, cX7_book, 4, some .int, 7, false, 3, yX7_book)
def sy_c66 : List sy_En := [(0, .aload_n 0, 1, 0, 0), (1, .getfield 44, 4, 0, 0), (4, .invokevirtual 168, 7, 0, 0), (7, .ireturn, 8, 0, 0)]
def sy_m66 : sy_MI := (sy_c66, cX7_forget, 1, some .int, 7, false, 0, yX7_forget)
def sy_c67 : List sy_En := [(0, .iload_n 1, 1, 0, 0), (1, .iconst 3, 2, 0, 3), (2, .invokestatic 66, 5, 0, 0), (5, .ifCond .ne 6, 8, 11, 0), (8, .bipush (-2), 10, 0, (-2)), (10, .ireturn, 11, 0, 0), (11, .aload_n 0, 12, 0, 0), (12, .getfield 44, 15, 0, 0), (15, .invokevirtual 169, 18, 0, 0), (18, .iload_n 1, 19, 0, 0), (19, .ifCond .ne 11, 22, 30, 0), (22, .aload_n 0, 23, 0, 0), (23, .getfield 44, 26, 0, 0), (26, .getfield 172, 29, 0, 0), (29, .ireturn, 30, 0, 0), (30, .aload_n 0, 31, 0, 0), (31, .getfield 44, 34, 0, 0), (34, .getfield 172, 37, 0, 0), (37, .ifCond .ne 5, 40, 42, 0), (40, .iconst (-1), 41, 0, (-1)), (41, .ireturn, 42, 0, 0), (42, .iload_n 1, 43, 0, 0), (43, .iconst 1, 44, 0, 1), (44, .if_icmp .ne 13, 47, 57, 0), (47, .aload_n 0, 48, 0, 0), (48, .getfield 44, 51, 0, 0), (51, .getfield 175, 54, 0, 0), (54, .goto 25, 57, 79, 0), (57, .iload_n 1, 58, 0, 0), (58, .iconst 2, 59, 0, 2), (59, .if_icmp .ne 13, 62, 72, 0), (62, .aload_n 0, 63, 0, 0), (63, .getfield 44, 66, 0, 0), (66, .getfield 178, 69, 0, 0), (69, .goto 10, 72, 79, 0), (72, .aload_n 0, 73, 0, 0), (73, .getfield 44, 76, 0, 0), (76, .getfield 181, 79, 0, 0), (79, .ireturn, 80, 0, 0)]
def sy_m67 : sy_MI := (sy_c67, cX7_fitting, 2, some .int, 7, false, 1, yX7_fitting)
def sy_c68 : List sy_En := [(0, .iload_n 1, 1, 0, 0), (1, .sipush 199, 4, 0, 199), (4, .invokestatic 66, 7, 0, 0), (7, .ifCond .eq 32, 10, 39, 0), (10, .iload_n 1, 11, 0, 0), (11, .aload_n 0, 12, 0, 0), (12, .getfield 19, 15, 0, 0), (15, .invokevirtual 184, 18, 0, 0), (18, .if_icmp .lt 21, 21, 39, 0), (21, .iload_n 2, 22, 0, 0), (22, .iconst 1, 23, 0, 1), (23, .if_icmp .lt 16, 26, 39, 0), (26, .iload_n 2, 27, 0, 0), (27, .iconst 3, 28, 0, 3), (28, .if_icmp .gt 11, 31, 39, 0), (31, .iload_n 3, 32, 0, 0), (32, .iconst 1, 33, 0, 1), (33, .invokestatic 66, 36, 0, 0), (36, .ifCond .ne 6, 39, 42, 0), (39, .bipush (-2), 41, 0, (-2)), (41, .ireturn, 42, 0, 0), (42, .aload_n 0, 43, 0, 0), (43, .getfield 28, 46, 0, 0), (46, .iload_n 1, 47, 0, 0), (47, .invokevirtual 134, 50, 0, 0), (50, .aload_n 0, 51, 0, 0), (51, .getfield 37, 54, 0, 0), (54, .iload_n 1, 55, 0, 0), (55, .iload_n 2, 56, 0, 0), (56, .invokevirtual 187, 59, 0, 0), (59, .istore 4, 61, 0, 0), (61, .iload_n 3, 62, 0, 0), (62, .ifCond .ne 8, 65, 70, 0), (65, .iload 4, 67, 0, 0), (67, .goto 10, 70, 77, 0), (70, .aload_n 0, 71, 0, 0), (71, .getfield 37, 74, 0, 0), (74, .getfield 190, 77, 0, 0), (77, .ireturn, 78, 0, 0)]
def sy_m68 : sy_MI := (sy_c68, cX7_lets, 5, some .int, 7, false, 3, yX7_lets)
def sy_c69 : List sy_En := [(0, .iload_n 1, 1, 0, 0), (1, .iconst 1, 2, 0, 1), (2, .if_icmp .lt 29, 5, 31, 0), (5, .iload_n 1, 6, 0, 0), (6, .bipush 30, 8, 0, 30), (8, .if_icmp .gt 23, 11, 31, 0), (11, .iload_n 2, 12, 0, 0), (12, .iconst 1, 13, 0, 1), (13, .if_icmp .lt 18, 16, 31, 0), (16, .iload_n 2, 17, 0, 0), (17, .sipush 200, 20, 0, 200), (20, .if_icmp .gt 11, 23, 31, 0), (23, .iload_n 3, 24, 0, 0), (24, .iconst 2, 25, 0, 2), (25, .invokestatic 66, 28, 0, 0), (28, .ifCond .ne 6, 31, 34, 0), (31, .bipush (-2), 33, 0, (-2)), (33, .ireturn, 34, 0, 0), (34, .iconst 0, 35, 0, 0), (35, .istore 4, 37, 0, 0), (37, .iconst 0, 38, 0, 0), (38, .istore 5, 40, 0, 0), (40, .iload 5, 42, 0, 0), (42, .iload_n 2, 43, 0, 0), (43, .if_icmp .ge 56, 46, 99, 0), (46, .iload 5, 48, 0, 0), (48, .iload_n 1, 49, 0, 0), (49, .irem, 50, 0, 0), (50, .aload_n 0, 51, 0, 0), (51, .getfield 28, 54, 0, 0), (54, .getfield 91, 57, 0, 0), (57, .if_icmp .ge 7, 60, 64, 0), (60, .iconst 1, 61, 0, 1), (61, .goto 4, 64, 65, 0), (64, .iconst 0, 65, 0, 0), (65, .istore 6, 67, 0, 0), (67, .iload 6, 69, 0, 0), (69, .ifCond .eq 12, 72, 81, 0), (72, .iload 5, 74, 0, 0), (74, .iload_n 1, 75, 0, 0), (75, .idiv, 76, 0, 0), (76, .iconst 2, 77, 0, 2), (77, .irem, 78, 0, 0), (78, .goto 4, 81, 82, 0), (81, .iconst 2, 82, 0, 2), (82, .istore 7, 84, 0, 0), (84, .iload 7, 86, 0, 0), (86, .iload_n 3, 87, 0, 0), (87, .if_icmp .ne 6, 90, 93, 0), (90, .iinc 4 1, 93, 0, 1), (93, .iinc 5 1, 96, 0, 1), (96, .goto (-56), 99, 40, 0), (99, .iload 4, 101, 0, 0), (101, .ireturn, 102, 0, 0)]
def sy_m69 : sy_MI := (sy_c69, cX7_robs, 8, some .int, 7, false, 3, yX7_robs)
def sy_c70 : List sy_En := [(0, .iload_n 1, 1, 0, 0), (1, .invokestatic 147, 4, 0, 0), (4, .ifCond .eq 12, 7, 16, 0), (7, .iload_n 2, 8, 0, 0), (8, .bipush 16, 10, 0, 16), (10, .invokestatic 66, 13, 0, 0), (13, .ifCond .ne 6, 16, 19, 0), (16, .bipush (-2), 18, 0, (-2)), (18, .ireturn, 19, 0, 0), (19, .aload_n 0, 20, 0, 0), (20, .getfield 51, 23, 0, 0), (23, .getfield 193, 26, 0, 0), (26, .iload_n 1, 27, 0, 0), (27, .iaload, 28, 0, 0), (28, .istore_n 3, 29, 0, 0), (29, .aload_n 0, 30, 0, 0), (30, .getfield 51, 33, 0, 0), (33, .getfield 193, 36, 0, 0), (36, .iload_n 1, 37, 0, 0), (37, .iload_n 2, 38, 0, 0), (38, .iastore, 39, 0, 0), (39, .iload_n 3, 40, 0, 0), (40, .ireturn, 41, 0, 0)]
def sy_m70 : sy_MI := (sy_c70, cX7_guard, 4, some .int, 7, false, 2, yX7_guard)
def sy_c71 : List sy_En := [(0, .iload_n 1, 1, 0, 0), (1, .invokestatic 147, 4, 0, 0), (4, .ifCond .eq 20, 7, 24, 0), (7, .iload_n 2, 8, 0, 0), (8, .bipush 12, 10, 0, 12), (10, .invokestatic 66, 13, 0, 0), (13, .ifCond .eq 11, 16, 24, 0), (16, .iload_n 3, 17, 0, 0), (17, .iconst 1, 18, 0, 1), (18, .invokestatic 66, 21, 0, 0), (21, .ifCond .ne 7, 24, 28, 0), (24, .ldc2_w 198, 27, 0, 0), (27, .lreturn, 28, 0, 0), (28, .ldc2_w 200, 31, 0, 0), (31, .iload_n 2, 32, 0, 0), (32, .invokestatic 202, 35, 0, 0), (35, .lstore 4, 37, 0, 0), (37, .lload 4, 39, 0, 0), (39, .aload_n 0, 40, 0, 0), (40, .getfield 51, 43, 0, 0), (43, .getfield 193, 46, 0, 0), (46, .iload_n 1, 47, 0, 0), (47, .iaload, 48, 0, 0), (48, .i2l, 49, 0, 0), (49, .iload_n 2, 50, 0, 0), (50, .invokestatic 202, 53, 0, 0), (53, .lsub, 54, 0, 0), (54, .lload 4, 56, 0, 0), (56, .iload_n 3, 57, 0, 0), (57, .invokestatic 206, 60, 0, 0), (60, .lreturn, 61, 0, 0)]
def sy_m71 : sy_MI := (sy_c71, cX7_chance, 6, some .long, 7, false, 3, yX7_chance)
def sy_c72 : List sy_En := [(0, .iload_n 1, 1, 0, 0), (1, .invokestatic 147, 4, 0, 0), (4, .ifCond .eq 11, 7, 15, 0), (7, .iload_n 2, 8, 0, 0), (8, .iconst 1, 9, 0, 1), (9, .invokestatic 66, 12, 0, 0), (12, .ifCond .ne 7, 15, 19, 0), (15, .ldc2_w 198, 18, 0, 0), (18, .lreturn, 19, 0, 0), (19, .bipush 16, 21, 0, 16), (21, .aload_n 0, 22, 0, 0), (22, .getfield 51, 25, 0, 0), (25, .getfield 193, 28, 0, 0), (28, .iload_n 1, 29, 0, 0), (29, .iaload, 30, 0, 0), (30, .isub, 31, 0, 0), (31, .istore_n 3, 32, 0, 0), (32, .iload_n 3, 33, 0, 0), (33, .ifCond .ne 9, 36, 42, 0), (36, .ldc2_w 210, 39, 0, 0), (39, .goto 12, 42, 51, 0), (42, .ldc2_w 200, 45, 0, 0), (45, .iload_n 3, 46, 0, 0), (46, .i2l, 47, 0, 0), (47, .iload_n 2, 48, 0, 0), (48, .invokestatic 206, 51, 0, 0), (51, .lreturn, 52, 0, 0)]
def sy_m72 : sy_MI := (sy_c72, cX7_waits, 4, some .long, 7, false, 2, yX7_waits)
def sy_c73 : List sy_En := [(0, .iload_n 1, 1, 0, 0), (1, .iconst 1, 2, 0, 1), (2, .if_icmp .lt 18, 5, 20, 0), (5, .iload_n 1, 6, 0, 0), (6, .bipush 12, 8, 0, 12), (8, .if_icmp .gt 12, 11, 20, 0), (11, .iload_n 2, 12, 0, 0), (12, .bipush 100, 14, 0, 100), (14, .invokestatic 66, 17, 0, 0), (17, .ifCond .ne 6, 20, 23, 0), (20, .bipush (-2), 22, 0, (-2)), (22, .ireturn, 23, 0, 0), (23, .iload_n 1, 24, 0, 0), (24, .iload_n 2, 25, 0, 0), (25, .invokestatic 212, 28, 0, 0), (28, .ireturn, 29, 0, 0)]
def sy_m73 : sy_MI := (sy_c73, cX7_careless, 3, some .int, 7, false, 2, yX7_careless)
def sy_c74 : List sy_En := [(0, .iload_n 1, 1, 0, 0), (1, .invokestatic 147, 4, 0, 0), (4, .ifCond .eq 13, 7, 17, 0), (7, .iload_n 3, 8, 0, 0), (8, .sipush 200, 11, 0, 200), (11, .invokestatic 66, 14, 0, 0), (14, .ifCond .ne 6, 17, 20, 0), (17, .bipush (-2), 19, 0, (-2)), (19, .ireturn, 20, 0, 0), (20, .aload_n 0, 21, 0, 0), (21, .getfield 51, 24, 0, 0), (24, .iload_n 1, 25, 0, 0), (25, .iload_n 2, 26, 0, 0), (26, .iload_n 3, 27, 0, 0), (27, .invokevirtual 215, 30, 0, 0), (30, .ireturn, 31, 0, 0)]
def sy_m74 : sy_MI := (sy_c74, cX7_thief, 4, some .int, 7, false, 3, yX7_thief)
def sy_c75 : List sy_En := [(0, .iload_n 1, 1, 0, 0), (1, .invokestatic 105, 4, 0, 0), (4, .ifCond .eq 16, 7, 20, 0), (7, .iload_n 2, 8, 0, 0), (8, .invokestatic 218, 11, 0, 0), (11, .ifCond .eq 9, 14, 20, 0), (14, .iload_n 3, 15, 0, 0), (15, .bipush 60, 17, 0, 60), (17, .if_icmp .le 6, 20, 23, 0), (20, .bipush (-2), 22, 0, (-2)), (22, .ireturn, 23, 0, 0), (23, .iload_n 3, 24, 0, 0), (24, .ifCond .ge 11, 27, 35, 0), (27, .aload_n 0, 28, 0, 0), (28, .iconst 5, 29, 0, 5), (29, .invokevirtual 111, 32, 0, 0), (32, .goto 14, 35, 46, 0), (35, .aload_n 0, 36, 0, 0), (36, .getfield 57, 39, 0, 0), (39, .iload_n 1, 40, 0, 0), (40, .aaload, 41, 0, 0), (41, .iload_n 2, 42, 0, 0), (42, .iload_n 3, 43, 0, 0), (43, .invokevirtual 221, 46, 0, 0), (46, .ireturn, 47, 0, 0)]
def sy_m75 : sy_MI := (sy_c75, cX7_sheet, 4, some .int, 7, false, 3, yX7_sheet)
def sy_c76 : List sy_En := [(0, .iload_n 1, 1, 0, 0), (1, .invokestatic 105, 4, 0, 0), (4, .ifCond .ne 6, 7, 10, 0), (7, .bipush (-2), 9, 0, (-2)), (9, .ireturn, 10, 0, 0), (10, .aload_n 0, 11, 0, 0), (11, .getfield 57, 14, 0, 0), (14, .iload_n 1, 15, 0, 0), (15, .aaload, 16, 0, 0), (16, .invokevirtual 108, 19, 0, 0), (19, .ifCond .eq 11, 22, 30, 0), (22, .aload_n 0, 23, 0, 0), (23, .iconst 1, 24, 0, 1), (24, .invokevirtual 111, 27, 0, 0), (27, .goto 12, 30, 39, 0), (30, .aload_n 0, 31, 0, 0), (31, .getfield 57, 34, 0, 0), (34, .iload_n 1, 35, 0, 0), (35, .aaload, 36, 0, 0), (36, .invokevirtual 224, 39, 0, 0), (39, .ireturn, 40, 0, 0)]
def sy_m76 : sy_MI := (sy_c76, cX7_lose, 2, some .int, 7, false, 1, yX7_lose)
def sy_c77 : List sy_En := [(0, .iload_n 1, 1, 0, 0), (1, .invokestatic 105, 4, 0, 0), (4, .ifCond .eq 10, 7, 14, 0), (7, .iload_n 2, 8, 0, 0), (8, .invokestatic 218, 11, 0, 0), (11, .ifCond .ne 6, 14, 17, 0), (14, .bipush (-2), 16, 0, (-2)), (16, .ireturn, 17, 0, 0), (17, .aload_n 0, 18, 0, 0), (18, .getfield 57, 21, 0, 0), (21, .iload_n 1, 22, 0, 0), (22, .aaload, 23, 0, 0), (23, .iload_n 2, 24, 0, 0), (24, .iload_n 3, 25, 0, 0), (25, .invokevirtual 227, 28, 0, 0), (28, .istore 5, 30, 0, 0), (30, .iload 5, 32, 0, 0), (32, .ifCond .eq 10, 35, 42, 0), (35, .aload_n 0, 36, 0, 0), (36, .iload 5, 38, 0, 0), (38, .invokevirtual 111, 41, 0, 0), (41, .ireturn, 42, 0, 0), (42, .aload_n 0, 43, 0, 0), (43, .getfield 57, 46, 0, 0), (46, .iload_n 1, 47, 0, 0), (47, .aaload, 48, 0, 0), (48, .iload_n 3, 49, 0, 0), (49, .iload 4, 51, 0, 0), (51, .invokevirtual 230, 54, 0, 0), (54, .iconst 1, 55, 0, 1), (55, .ireturn, 56, 0, 0)]
def sy_m77 : sy_MI := (sy_c77, cX7_lay, 6, some .int, 7, false, 4, yX7_lay)
def sy_c78 : List sy_En := [(0, .iload_n 1, 1, 0, 0), (1, .invokestatic 105, 4, 0, 0), (4, .ifCond .eq 10, 7, 14, 0), (7, .iload_n 2, 8, 0, 0), (8, .invokestatic 218, 11, 0, 0), (11, .ifCond .ne 6, 14, 17, 0), (14, .ldc 235, 16, 0, 0), (16, .ireturn, 17, 0, 0), (17, .aload_n 0, 18, 0, 0), (18, .getfield 57, 21, 0, 0), (21, .iload_n 1, 22, 0, 0), (22, .aaload, 23, 0, 0), (23, .iload_n 2, 24, 0, 0), (24, .iload_n 3, 25, 0, 0), (25, .invokevirtual 227, 28, 0, 0), (28, .istore 4, 30, 0, 0), (30, .iload 4, 32, 0, 0), (32, .ifCond .eq 12, 35, 44, 0), (35, .aload_n 0, 36, 0, 0), (36, .iload 4, 38, 0, 0), (38, .putfield 61, 41, 0, 0), (41, .ldc 235, 43, 0, 0), (43, .ireturn, 44, 0, 0), (44, .aload_n 0, 45, 0, 0), (45, .getfield 57, 48, 0, 0), (48, .iload_n 1, 49, 0, 0), (49, .aaload, 50, 0, 0), (50, .getfield 114, 53, 0, 0), (53, .iload_n 3, 54, 0, 0), (54, .iaload, 55, 0, 0), (55, .ireturn, 56, 0, 0)]
def sy_m78 : sy_MI := (sy_c78, cX7_get, 5, some .int, 7, false, 3, yX7_get)
def sy_c79 : List sy_En := [(0, .iload_n 1, 1, 0, 0), (1, .invokestatic 105, 4, 0, 0), (4, .ifCond .eq 10, 7, 14, 0), (7, .iload_n 3, 8, 0, 0), (8, .invokestatic 105, 11, 0, 0), (11, .ifCond .ne 6, 14, 17, 0), (14, .bipush (-2), 16, 0, (-2)), (16, .ireturn, 17, 0, 0), (17, .aload_n 0, 18, 0, 0), (18, .getfield 57, 21, 0, 0), (21, .iload_n 1, 22, 0, 0), (22, .aaload, 23, 0, 0), (23, .astore 6, 25, 0, 0), (25, .aload_n 0, 26, 0, 0), (26, .getfield 57, 29, 0, 0), (29, .iload_n 3, 30, 0, 0), (30, .aaload, 31, 0, 0), (31, .astore 7, 33, 0, 0), (33, .aload 6, 35, 0, 0), (35, .invokevirtual 108, 38, 0, 0), (38, .ifCond .ne 11, 41, 49, 0), (41, .aload 7, 43, 0, 0), (43, .invokevirtual 108, 46, 0, 0), (46, .ifCond .eq 9, 49, 55, 0), (49, .aload_n 0, 50, 0, 0), (50, .iconst 1, 51, 0, 1), (51, .invokevirtual 111, 54, 0, 0), (54, .ireturn, 55, 0, 0), (55, .aload 6, 57, 0, 0), (57, .getfield 236, 60, 0, 0), (60, .aload 7, 62, 0, 0), (62, .getfield 236, 65, 0, 0), (65, .if_icmp .eq 9, 68, 74, 0), (68, .aload_n 0, 69, 0, 0), (69, .iconst 4, 70, 0, 4), (70, .invokevirtual 111, 73, 0, 0), (73, .ireturn, 74, 0, 0), (74, .aload 6, 76, 0, 0), (76, .iload_n 2, 77, 0, 0), (77, .iload 5, 79, 0, 0), (79, .invokevirtual 239, 82, 0, 0), (82, .ifCond .eq 15, 85, 97, 0), (85, .aload 7, 87, 0, 0), (87, .iload 4, 89, 0, 0), (89, .iload 5, 91, 0, 0), (91, .invokevirtual 239, 94, 0, 0), (94, .ifCond .ne 9, 97, 103, 0), (97, .aload_n 0, 98, 0, 0), (98, .iconst 2, 99, 0, 2), (99, .invokevirtual 111, 102, 0, 0), (102, .ireturn, 103, 0, 0), (103, .aload 6, 105, 0, 0), (105, .getfield 114, 108, 0, 0), (108, .iload_n 2, 109, 0, 0), (109, .aload 7, 111, 0, 0), (111, .getfield 114, 114, 0, 0), (114, .iload 4, 116, 0, 0), (116, .iload 5, 118, 0, 0), (118, .invokestatic 242, 121, 0, 0), (121, .iconst 1, 122, 0, 1), (122, .ireturn, 123, 0, 0)]
def sy_m79 : sy_MI := (sy_c79, cX7_copy, 8, some .int, 7, false, 5, yX7_copy)
def sy_c80 : List sy_En := [(0, .iload_n 1, 1, 0, 0), (1, .invokestatic 147, 4, 0, 0), (4, .ifCond .eq 20, 7, 24, 0), (7, .iload_n 2, 8, 0, 0), (8, .sipush 299, 11, 0, 299), (11, .invokestatic 66, 14, 0, 0), (14, .ifCond .eq 10, 17, 24, 0), (17, .iload_n 3, 18, 0, 0), (18, .invokestatic 105, 21, 0, 0), (21, .ifCond .ne 6, 24, 27, 0), (24, .bipush (-2), 26, 0, (-2)), (26, .ireturn, 27, 0, 0), (27, .aload_n 0, 28, 0, 0), (28, .getfield 57, 31, 0, 0), (31, .iload_n 3, 32, 0, 0), (32, .aaload, 33, 0, 0), (33, .astore 4, 35, 0, 0), (35, .aload 4, 37, 0, 0), (37, .invokevirtual 108, 40, 0, 0), (40, .ifCond .eq 9, 43, 49, 0), (43, .aload_n 0, 44, 0, 0), (44, .iconst 1, 45, 0, 1), (45, .invokevirtual 111, 48, 0, 0), (48, .ireturn, 49, 0, 0), (49, .aload 4, 51, 0, 0), (51, .getfield 118, 54, 0, 0), (54, .sipush 300, 57, 0, 300), (57, .iload_n 2, 58, 0, 0), (58, .isub, 59, 0, 0), (59, .invokestatic 248, 62, 0, 0), (62, .istore 5, 64, 0, 0), (64, .aload_n 0, 65, 0, 0), (65, .getfield 28, 68, 0, 0), (68, .invokevirtual 253, 71, 0, 0), (71, .iconst 0, 72, 0, 0), (72, .istore 6, 74, 0, 0), (74, .iload 6, 76, 0, 0), (76, .iload 5, 78, 0, 0), (78, .if_icmp .ge 40, 81, 118, 0), (81, .aload_n 0, 82, 0, 0), (82, .getfield 28, 85, 0, 0), (85, .iload_n 2, 86, 0, 0), (86, .iload 6, 88, 0, 0), (88, .iadd, 89, 0, 0), (89, .iconst (-1), 90, 0, (-1)), (90, .invokevirtual 255, 93, 0, 0), (93, .aload 4, 95, 0, 0), (95, .iload 6, 97, 0, 0), (97, .aload_n 0, 98, 0, 0), (98, .getfield 28, 101, 0, 0), (101, .iload_n 1, 102, 0, 0), (102, .iload_n 2, 103, 0, 0), (103, .iload 6, 105, 0, 0), (105, .iadd, 106, 0, 0), (106, .invokevirtual 154, 109, 0, 0), (109, .invokevirtual 230, 112, 0, 0), (112, .iinc 6 1, 115, 0, 1), (115, .goto (-41), 118, 74, 0), (118, .iload 5, 120, 0, 0), (120, .ireturn, 121, 0, 0)]
def sy_m80 : sy_MI := (sy_c80, cX7_write, 7, some .int, 7, false, 3, yX7_write)
def sy_c81 : List sy_En := [(0, .iload_n 1, 1, 0, 0), (1, .tableswitch 145 0 8 #[51, 59, 67, 75, 90, 105, 113, 121, 140], 52, 0, 0), (52, .aload_n 0, 53, 0, 0), (53, .getfield 10, 56, 0, 0), (56, .getfield 258, 59, 0, 0), (59, .ireturn, 60, 0, 0), (60, .aload_n 0, 61, 0, 0), (61, .getfield 10, 64, 0, 0), (64, .getfield 261, 67, 0, 0), (67, .ireturn, 68, 0, 0), (68, .aload_n 0, 69, 0, 0), (69, .getfield 19, 72, 0, 0), (72, .getfield 124, 75, 0, 0), (75, .ireturn, 76, 0, 0), (76, .aload_n 0, 77, 0, 0), (77, .getfield 28, 80, 0, 0), (80, .invokevirtual 128, 83, 0, 0), (83, .aload_n 0, 84, 0, 0), (84, .getfield 28, 87, 0, 0), (87, .getfield 264, 90, 0, 0), (90, .ireturn, 91, 0, 0), (91, .aload_n 0, 92, 0, 0), (92, .getfield 28, 95, 0, 0), (95, .invokevirtual 128, 98, 0, 0), (98, .aload_n 0, 99, 0, 0), (99, .getfield 28, 102, 0, 0), (102, .getfield 267, 105, 0, 0), (105, .ireturn, 106, 0, 0), (106, .aload_n 0, 107, 0, 0), (107, .getfield 28, 110, 0, 0), (110, .getfield 91, 113, 0, 0), (113, .ireturn, 114, 0, 0), (114, .aload_n 0, 115, 0, 0), (115, .getfield 44, 118, 0, 0), (118, .getfield 270, 121, 0, 0), (121, .ireturn, 122, 0, 0), (122, .aload_n 0, 123, 0, 0), (123, .getfield 10, 126, 0, 0), (126, .getfield 258, 129, 0, 0), (129, .aload_n 0, 130, 0, 0), (130, .getfield 10, 133, 0, 0), (133, .invokevirtual 271, 136, 0, 0), (136, .invokestatic 274, 139, 0, 0), (139, .isub, 140, 0, 0), (140, .ireturn, 141, 0, 0), (141, .aload_n 0, 142, 0, 0), (142, .getfield 61, 145, 0, 0), (145, .ireturn, 146, 0, 0), (146, .bipush (-2), 148, 0, (-2)), (148, .ireturn, 149, 0, 0)]
def sy_m81 : sy_MI := (sy_c81, cX7_count, 2, some .int, 7, false, 1, yX7_count)
def sy_c82 : List sy_En := [(0, .ldc2_w 277, 3, 0, 0), (3, .lstore_n 1, 4, 0, 0), (4, .iconst 0, 5, 0, 0), (5, .istore_n 3, 6, 0, 0), (6, .iload_n 3, 7, 0, 0), (7, .bipush 7, 9, 0, 7), (9, .if_icmp .gt 22, 12, 31, 0), (12, .ldc2_w 279, 15, 0, 0), (15, .lload_n 1, 16, 0, 0), (16, .lmul, 17, 0, 0), (17, .aload_n 0, 18, 0, 0), (18, .iload_n 3, 19, 0, 0), (19, .invokevirtual 281, 22, 0, 0), (22, .i2l, 23, 0, 0), (23, .ladd, 24, 0, 0), (24, .lstore_n 1, 25, 0, 0), (25, .iinc 3 1, 28, 0, 1), (28, .goto (-22), 31, 6, 0), (31, .ldc2_w 279, 34, 0, 0), (34, .lload_n 1, 35, 0, 0), (35, .lmul, 36, 0, 0), (36, .aload_n 0, 37, 0, 0), (37, .invokevirtual 284, 40, 0, 0), (40, .i2l, 41, 0, 0), (41, .ladd, 42, 0, 0), (42, .lstore_n 1, 43, 0, 0), (43, .ldc2_w 279, 46, 0, 0), (46, .lload_n 1, 47, 0, 0), (47, .lmul, 48, 0, 0), (48, .aload_n 0, 49, 0, 0), (49, .invokevirtual 287, 52, 0, 0), (52, .i2l, 53, 0, 0), (53, .ladd, 54, 0, 0), (54, .lstore_n 1, 55, 0, 0), (55, .iconst 0, 56, 0, 0), (56, .istore_n 3, 57, 0, 0), (57, .iload_n 3, 58, 0, 0), (58, .aload_n 0, 59, 0, 0), (59, .getfield 10, 62, 0, 0), (62, .getfield 258, 65, 0, 0), (65, .if_icmp .ge 16, 68, 81, 0), (68, .aload_n 0, 69, 0, 0), (69, .lload_n 1, 70, 0, 0), (70, .iload_n 3, 71, 0, 0), (71, .invokevirtual 290, 74, 0, 0), (74, .lstore_n 1, 75, 0, 0), (75, .iinc 3 1, 78, 0, 1), (78, .goto (-21), 81, 57, 0), (81, .iconst 0, 82, 0, 0), (82, .istore_n 3, 83, 0, 0), (83, .iload_n 3, 84, 0, 0), (84, .bipush 8, 86, 0, 8), (86, .if_icmp .ge 16, 89, 102, 0), (89, .aload_n 0, 90, 0, 0), (90, .lload_n 1, 91, 0, 0), (91, .iload_n 3, 92, 0, 0), (92, .invokevirtual 293, 95, 0, 0), (95, .lstore_n 1, 96, 0, 0), (96, .iinc 3 1, 99, 0, 1), (99, .goto (-16), 102, 83, 0), (102, .ldc2_w 279, 105, 0, 0), (105, .lload_n 1, 106, 0, 0), (106, .lmul, 107, 0, 0), (107, .aload_n 0, 108, 0, 0), (108, .iconst 0, 109, 0, 0), (109, .bipush 99, 111, 0, 99), (111, .invokevirtual 296, 114, 0, 0), (114, .i2l, 115, 0, 0), (115, .ladd, 116, 0, 0), (116, .lstore_n 1, 117, 0, 0), (117, .iconst 0, 118, 0, 0), (118, .istore_n 3, 119, 0, 0), (119, .iload_n 3, 120, 0, 0), (120, .iconst 3, 121, 0, 3), (121, .if_icmp .gt 22, 124, 143, 0), (124, .ldc2_w 279, 127, 0, 0), (127, .lload_n 1, 128, 0, 0), (128, .lmul, 129, 0, 0), (129, .aload_n 0, 130, 0, 0), (130, .iload_n 3, 131, 0, 0), (131, .invokevirtual 299, 134, 0, 0), (134, .i2l, 135, 0, 0), (135, .ladd, 136, 0, 0), (136, .lstore_n 1, 137, 0, 0), (137, .iinc 3 1, 140, 0, 1), (140, .goto (-21), 143, 119, 0), (143, .ldc2_w 279, 146, 0, 0), (146, .lload_n 1, 147, 0, 0), (147, .lmul, 148, 0, 0), (148, .aload_n 0, 149, 0, 0), (149, .sipush 199, 152, 0, 199), (152, .iconst 1, 153, 0, 1), (153, .iconst 0, 154, 0, 0), (154, .invokevirtual 302, 157, 0, 0), (157, .i2l, 158, 0, 0), (158, .ladd, 159, 0, 0), (159, .lstore_n 1, 160, 0, 0), (160, .ldc2_w 279, 163, 0, 0), (163, .lload_n 1, 164, 0, 0), (164, .lmul, 165, 0, 0), (165, .aload_n 0, 166, 0, 0), (166, .sipush 199, 169, 0, 199), (169, .iconst 1, 170, 0, 1), (170, .iconst 1, 171, 0, 1), (171, .invokevirtual 302, 174, 0, 0), (174, .i2l, 175, 0, 0), (175, .ladd, 176, 0, 0), (176, .lstore_n 1, 177, 0, 0), (177, .iconst 0, 178, 0, 0), (178, .istore_n 3, 179, 0, 0), (179, .iload_n 3, 180, 0, 0), (180, .iconst 2, 181, 0, 2), (181, .if_icmp .gt 26, 184, 207, 0), (184, .ldc2_w 279, 187, 0, 0), (187, .lload_n 1, 188, 0, 0), (188, .lmul, 189, 0, 0), (189, .aload_n 0, 190, 0, 0), (190, .bipush 7, 192, 0, 7), (192, .bipush 50, 194, 0, 50), (194, .iload_n 3, 195, 0, 0), (195, .invokevirtual 305, 198, 0, 0), (198, .i2l, 199, 0, 0), (199, .ladd, 200, 0, 0), (200, .lstore_n 1, 201, 0, 0), (201, .iinc 3 1, 204, 0, 1), (204, .goto (-25), 207, 179, 0), (207, .ldc2_w 279, 210, 0, 0), (210, .lload_n 1, 211, 0, 0), (211, .lmul, 212, 0, 0), (212, .aload_n 0, 213, 0, 0), (213, .iconst 5, 214, 0, 5), (214, .bipush 40, 216, 0, 40), (216, .invokevirtual 308, 219, 0, 0), (219, .i2l, 220, 0, 0), (220, .ladd, 221, 0, 0), (221, .lreturn, 222, 0, 0)]
def sy_m82 : sy_MI := (sy_c82, cX7_digest, 4, some .long, 7, false, 0, yX7_digest)
def sy_c83 : List sy_En := [(0, .ldc2_w 279, 3, 0, 0), (3, .lload_n 1, 4, 0, 0), (4, .lmul, 5, 0, 0), (5, .aload_n 0, 6, 0, 0), (6, .iload_n 3, 7, 0, 0), (7, .iconst 0, 8, 0, 0), (8, .invokevirtual 311, 11, 0, 0), (11, .i2l, 12, 0, 0), (12, .ladd, 13, 0, 0), (13, .lstore 4, 15, 0, 0), (15, .ldc2_w 279, 18, 0, 0), (18, .lload 4, 20, 0, 0), (20, .lmul, 21, 0, 0), (21, .aload_n 0, 22, 0, 0), (22, .iload_n 3, 23, 0, 0), (23, .iconst 1, 24, 0, 1), (24, .invokevirtual 311, 27, 0, 0), (27, .i2l, 28, 0, 0), (28, .ladd, 29, 0, 0), (29, .lstore 4, 31, 0, 0), (31, .bipush 20, 33, 0, 20), (33, .istore 6, 35, 0, 0), (35, .iload 6, 37, 0, 0), (37, .bipush 60, 39, 0, 60), (39, .if_icmp .gt 43, 42, 82, 0), (42, .iconst 0, 43, 0, 0), (43, .istore 7, 45, 0, 0), (45, .iload 7, 47, 0, 0), (47, .iconst 2, 48, 0, 2), (48, .if_icmp .gt 28, 51, 76, 0), (51, .ldc2_w 279, 54, 0, 0), (54, .lload 4, 56, 0, 0), (56, .lmul, 57, 0, 0), (57, .aload_n 0, 58, 0, 0), (58, .iload_n 3, 59, 0, 0), (59, .iload 6, 61, 0, 0), (61, .iload 7, 63, 0, 0), (63, .invokevirtual 314, 66, 0, 0), (66, .i2l, 67, 0, 0), (67, .ladd, 68, 0, 0), (68, .lstore 4, 70, 0, 0), (70, .iinc 7 1, 73, 0, 1), (73, .goto (-28), 76, 45, 0), (76, .iinc 6 40, 79, 0, 40), (79, .goto (-44), 82, 35, 0), (82, .lload 4, 84, 0, 0), (84, .lreturn, 85, 0, 0)]
def sy_m83 : sy_MI := (sy_c83, cX7_withStone, 8, some .long, 7, false, 2, yX7_withStone)
def sy_c84 : List sy_En := [(0, .ldc2_w 279, 3, 0, 0), (3, .lload_n 1, 4, 0, 0), (4, .lmul, 5, 0, 0), (5, .aload_n 0, 6, 0, 0), (6, .iload_n 3, 7, 0, 0), (7, .bipush 20, 9, 0, 20), (9, .iconst 0, 10, 0, 0), (10, .invokevirtual 317, 13, 0, 0), (13, .i2l, 14, 0, 0), (14, .ladd, 15, 0, 0), (15, .lstore 4, 17, 0, 0), (17, .ldc2_w 279, 20, 0, 0), (20, .lload 4, 22, 0, 0), (22, .lmul, 23, 0, 0), (23, .aload_n 0, 24, 0, 0), (24, .iload_n 3, 25, 0, 0), (25, .bipush 20, 27, 0, 20), (27, .iconst 1, 28, 0, 1), (28, .invokevirtual 317, 31, 0, 0), (31, .i2l, 32, 0, 0), (32, .ladd, 33, 0, 0), (33, .lstore 4, 35, 0, 0), (35, .ldc2_w 279, 38, 0, 0), (38, .lload 4, 40, 0, 0), (40, .lmul, 41, 0, 0), (41, .aload_n 0, 42, 0, 0), (42, .iload_n 3, 43, 0, 0), (43, .iconst 0, 44, 0, 0), (44, .bipush 99, 46, 0, 99), (46, .invokevirtual 320, 49, 0, 0), (49, .i2l, 50, 0, 0), (50, .ladd, 51, 0, 0), (51, .lstore 4, 53, 0, 0), (53, .ldc2_w 279, 56, 0, 0), (56, .lload 4, 58, 0, 0), (58, .lmul, 59, 0, 0), (59, .aload_n 0, 60, 0, 0), (60, .iload_n 3, 61, 0, 0), (61, .bipush 20, 63, 0, 20), (63, .iconst 0, 64, 0, 0), (64, .invokevirtual 323, 67, 0, 0), (67, .i2l, 68, 0, 0), (68, .ladd, 69, 0, 0), (69, .lstore 4, 71, 0, 0), (71, .ldc2_w 279, 74, 0, 0), (74, .lload 4, 76, 0, 0), (76, .lmul, 77, 0, 0), (77, .aload_n 0, 78, 0, 0), (78, .iload_n 3, 79, 0, 0), (79, .iconst 5, 80, 0, 5), (80, .iconst 0, 81, 0, 0), (81, .invokevirtual 326, 84, 0, 0), (84, .ladd, 85, 0, 0), (85, .lstore 4, 87, 0, 0), (87, .ldc2_w 279, 90, 0, 0), (90, .lload 4, 92, 0, 0), (92, .lmul, 93, 0, 0), (93, .aload_n 0, 94, 0, 0), (94, .iload_n 3, 95, 0, 0), (95, .iconst 5, 96, 0, 5), (96, .iconst 1, 97, 0, 1), (97, .invokevirtual 326, 100, 0, 0), (100, .ladd, 101, 0, 0), (101, .lstore 4, 103, 0, 0), (103, .ldc2_w 279, 106, 0, 0), (106, .lload 4, 108, 0, 0), (108, .lmul, 109, 0, 0), (109, .aload_n 0, 110, 0, 0), (110, .iload_n 3, 111, 0, 0), (111, .iconst 0, 112, 0, 0), (112, .invokevirtual 330, 115, 0, 0), (115, .ladd, 116, 0, 0), (116, .lstore 4, 118, 0, 0), (118, .ldc2_w 279, 121, 0, 0), (121, .lload 4, 123, 0, 0), (123, .lmul, 124, 0, 0), (124, .aload_n 0, 125, 0, 0), (125, .iload_n 3, 126, 0, 0), (126, .iconst 1, 127, 0, 1), (127, .invokevirtual 330, 130, 0, 0), (130, .ladd, 131, 0, 0), (131, .lstore 4, 133, 0, 0), (133, .ldc2_w 279, 136, 0, 0), (136, .lload 4, 138, 0, 0), (138, .lmul, 139, 0, 0), (139, .aload_n 0, 140, 0, 0), (140, .iload_n 3, 141, 0, 0), (141, .bipush 7, 143, 0, 7), (143, .bipush 9, 145, 0, 9), (145, .invokevirtual 334, 148, 0, 0), (148, .i2l, 149, 0, 0), (149, .ladd, 150, 0, 0), (150, .lreturn, 151, 0, 0)]
def sy_m84 : sy_MI := (sy_c84, cX7_withHouse, 6, some .long, 7, false, 2, yX7_withHouse)
def sy_c85 : List sy_En := [(0, .aload_n 0, 1, 0, 0), (1, .iload_n 1, 2, 0, 0), (2, .putfield 61, 5, 0, 0), (5, .bipush (-10), 7, 0, (-10)), (7, .iload_n 1, 8, 0, 0), (8, .isub, 9, 0, 0), (9, .ireturn, 10, 0, 0)]
def sy_m85 : sy_MI := (sy_c85, cX7_found, 2, some .int, 7, false, 1, yX7_found)
def sy_c86 : List sy_En := [(0, .iload_n 0, 1, 0, 0), (1, .ifCond .lt 12, 4, 13, 0), (4, .iload_n 0, 5, 0, 0), (5, .iload_n 1, 6, 0, 0), (6, .if_icmp .gt 7, 9, 13, 0), (9, .iconst 1, 10, 0, 1), (10, .goto 4, 13, 14, 0), (13, .iconst 0, 14, 0, 0), (14, .ireturn, 15, 0, 0)]
def sy_m86 : sy_MI := (sy_c86, cX7_within, 2, some .boolean, 7, true, 2, yX7_within)
def sy_c87 : List sy_En := [(0, .iload_n 0, 1, 0, 0), (1, .ifCond .lt 13, 4, 14, 0), (4, .iload_n 0, 5, 0, 0), (5, .bipush 8, 7, 0, 8), (7, .if_icmp .ge 7, 10, 14, 0), (10, .iconst 1, 11, 0, 1), (11, .goto 4, 14, 15, 0), (14, .iconst 0, 15, 0, 0), (15, .ireturn, 16, 0, 0)]
def sy_m87 : sy_MI := (sy_c87, cX7_isHouse, 1, some .boolean, 7, true, 1, yX7_isHouse)
def sy_c88 : List sy_En := [(0, .iload_n 0, 1, 0, 0), (1, .ifCond .lt 12, 4, 13, 0), (4, .iload_n 0, 5, 0, 0), (5, .iconst 4, 6, 0, 4), (6, .if_icmp .ge 7, 9, 13, 0), (9, .iconst 1, 10, 0, 1), (10, .goto 4, 13, 14, 0), (13, .iconst 0, 14, 0, 0), (14, .ireturn, 15, 0, 0)]
def sy_m88 : sy_MI := (sy_c88, cX7_isSheet, 1, some .boolean, 7, true, 1, yX7_isSheet)
def sy_c89 : List sy_En := [(0, .lload_n 0, 1, 0, 0), (1, .lload_n 2, 2, 0, 0), (2, .lcmp, 3, 0, 0), (3, .ifCond .lt 14, 6, 17, 0), (6, .lload_n 0, 7, 0, 0), (7, .lload 4, 9, 0, 0), (9, .lcmp, 10, 0, 0), (10, .ifCond .gt 7, 13, 17, 0), (13, .iconst 1, 14, 0, 1), (14, .goto 4, 17, 18, 0), (17, .iconst 0, 18, 0, 0), (18, .ireturn, 19, 0, 0)]
def sy_m89 : sy_MI := (sy_c89, cX8_in, 6, some .boolean, 8, true, 3, yX8_in)
def sy_c90 : List sy_En := [(0, .ldc2_w 59, 3, 0, 0), (3, .iload_n 0, 4, 0, 0), (4, .i2l, 5, 0, 0), (5, .lsub, 6, 0, 0), (6, .lreturn, 7, 0, 0)]
def sy_m90 : sy_MI := (sy_c90, cX8_no, 1, some .long, 8, true, 1, yX8_no)
def sy_c91 : List sy_En := [(0, .iload_n 0, 1, 0, 0), (1, .i2l, 2, 0, 0), (2, .lconst 0, 3, 0, 0), (3, .lconst 1, 4, 0, 0), (4, .invokestatic 61, 7, 0, 0), (7, .ireturn, 8, 0, 0)]
def sy_m91 : sy_MI := (sy_c91, cX8_isTwo, 1, some .boolean, 8, true, 1, yX8_isTwo)
def sy_c92 : List sy_En := [(0, .iconst 0, 1, 0, 0), (1, .istore_n 1, 2, 0, 0), (2, .iload_n 0, 3, 0, 0), (3, .istore_n 2, 4, 0, 0), (4, .iload_n 2, 5, 0, 0), (5, .ifCond .eq 15, 8, 20, 0), (8, .iinc 1 1, 11, 0, 1), (11, .iload_n 2, 12, 0, 0), (12, .iload_n 2, 13, 0, 0), (13, .iconst 1, 14, 0, 1), (14, .isub, 15, 0, 0), (15, .iand, 16, 0, 0), (16, .istore_n 2, 17, 0, 0), (17, .goto (-13), 20, 4, 0), (20, .iload_n 1, 21, 0, 0), (21, .ireturn, 22, 0, 0)]
def sy_m92 : sy_MI := (sy_c92, cX8_ones, 3, some .int, 8, true, 1, yX8_ones)
def sy_c93 : List sy_En := [(0, .aload_n 0, 1, 0, 0), (1, .iload_n 1, 2, 0, 0), (2, .putfield 65, 5, 0, 0), (5, .bipush (-10), 7, 0, (-10)), (7, .iload_n 1, 8, 0, 0), (8, .isub, 9, 0, 0), (9, .ireturn, 10, 0, 0)]
def sy_m93 : sy_MI := (sy_c93, cX8_met, 2, some .int, 8, false, 1, yX8_met)
def sy_c94 : List sy_En := [(0, .iload_n 0, 1, 0, 0), (1, .i2l, 2, 0, 0), (2, .lconst 0, 3, 0, 0), (3, .ldc2_w 68, 6, 0, 0), (6, .invokestatic 61, 9, 0, 0), (9, .ireturn, 10, 0, 0)]
def sy_m94 : sy_MI := (sy_c94, cX8_isSheet, 1, some .boolean, 8, true, 1, yX8_isSheet)
def sy_c95 : List sy_En := [(0, .iload_n 1, 1, 0, 0), (1, .invokestatic 70, 4, 0, 0), (4, .ifCond .eq 21, 7, 25, 0), (7, .iload_n 2, 8, 0, 0), (8, .i2l, 9, 0, 0), (9, .lconst 0, 10, 0, 0), (10, .ldc2_w 74, 13, 0, 0), (13, .invokestatic 61, 16, 0, 0), (16, .ifCond .eq 9, 19, 25, 0), (19, .iload_n 3, 20, 0, 0), (20, .bipush 60, 22, 0, 60), (22, .if_icmp .le 6, 25, 28, 0), (25, .bipush (-2), 27, 0, (-2)), (27, .ireturn, 28, 0, 0), (28, .iload_n 3, 29, 0, 0), (29, .ifCond .ge 9, 32, 38, 0), (32, .aload_n 0, 33, 0, 0), (33, .iconst 5, 34, 0, 5), (34, .invokevirtual 76, 37, 0, 0), (37, .ireturn, 38, 0, 0), (38, .aload_n 0, 39, 0, 0), (39, .getfield 7, 42, 0, 0), (42, .iload_n 1, 43, 0, 0), (43, .iload_n 2, 44, 0, 0), (44, .iastore, 45, 0, 0), (45, .aload_n 0, 46, 0, 0), (46, .getfield 13, 49, 0, 0), (49, .iload_n 1, 50, 0, 0), (50, .iload_n 3, 51, 0, 0), (51, .iastore, 52, 0, 0), (52, .iconst 0, 53, 0, 0), (53, .istore 4, 55, 0, 0), (55, .iload 4, 57, 0, 0), (57, .iload_n 3, 58, 0, 0), (58, .if_icmp .ge 22, 61, 80, 0), (61, .aload_n 0, 62, 0, 0), (62, .getfield 16, 65, 0, 0), (65, .bipush 60, 67, 0, 60), (67, .iload_n 1, 68, 0, 0), (68, .imul, 69, 0, 0), (69, .iload 4, 71, 0, 0), (71, .iadd, 72, 0, 0), (72, .iconst 0, 73, 0, 0), (73, .iastore, 74, 0, 0), (74, .iinc 4 1, 77, 0, 1), (77, .goto (-22), 80, 55, 0), (80, .iload_n 3, 81, 0, 0), (81, .ireturn, 82, 0, 0)]
def sy_m95 : sy_MI := (sy_c95, cX8_sheet, 5, some .int, 8, false, 3, yX8_sheet)
def sy_c96 : List sy_En := [(0, .iload_n 1, 1, 0, 0), (1, .invokestatic 70, 4, 0, 0), (4, .ifCond .ne 6, 7, 10, 0), (7, .bipush (-2), 9, 0, (-2)), (9, .ireturn, 10, 0, 0), (10, .aload_n 0, 11, 0, 0), (11, .getfield 7, 14, 0, 0), (14, .iload_n 1, 15, 0, 0), (15, .iaload, 16, 0, 0), (16, .ifCond .ge 9, 19, 25, 0), (19, .aload_n 0, 20, 0, 0), (20, .iconst 1, 21, 0, 1), (21, .invokevirtual 76, 24, 0, 0), (24, .ireturn, 25, 0, 0), (25, .aload_n 0, 26, 0, 0), (26, .getfield 7, 29, 0, 0), (29, .iload_n 1, 30, 0, 0), (30, .iconst (-1), 31, 0, (-1)), (31, .iastore, 32, 0, 0), (32, .aload_n 0, 33, 0, 0), (33, .getfield 13, 36, 0, 0), (36, .iload_n 1, 37, 0, 0), (37, .iaload, 38, 0, 0), (38, .ireturn, 39, 0, 0)]
def sy_m96 : sy_MI := (sy_c96, cX8_lose, 2, some .int, 8, false, 1, yX8_lose)
def sy_c97 : List sy_En := [(0, .aload_n 0, 1, 0, 0), (1, .getfield 7, 4, 0, 0), (4, .iload_n 1, 5, 0, 0), (5, .iaload, 6, 0, 0), (6, .ifCond .ge 9, 9, 15, 0), (9, .aload_n 0, 10, 0, 0), (10, .iconst 1, 11, 0, 1), (11, .invokevirtual 76, 14, 0, 0), (14, .ireturn, 15, 0, 0), (15, .aload_n 0, 16, 0, 0), (16, .getfield 7, 19, 0, 0), (19, .iload_n 1, 20, 0, 0), (20, .iaload, 21, 0, 0), (21, .iload_n 2, 22, 0, 0), (22, .if_icmp .eq 9, 25, 31, 0), (25, .aload_n 0, 26, 0, 0), (26, .iconst 3, 27, 0, 3), (27, .invokevirtual 76, 30, 0, 0), (30, .ireturn, 31, 0, 0), (31, .iload_n 3, 32, 0, 0), (32, .i2l, 33, 0, 0), (33, .lconst 0, 34, 0, 0), (34, .aload_n 0, 35, 0, 0), (35, .getfield 13, 38, 0, 0), (38, .iload_n 1, 39, 0, 0), (39, .iaload, 40, 0, 0), (40, .iconst 1, 41, 0, 1), (41, .isub, 42, 0, 0), (42, .i2l, 43, 0, 0), (43, .invokestatic 61, 46, 0, 0), (46, .ifCond .eq 7, 49, 53, 0), (49, .iconst 0, 50, 0, 0), (50, .goto 8, 53, 58, 0), (53, .aload_n 0, 54, 0, 0), (54, .iconst 2, 55, 0, 2), (55, .invokevirtual 76, 58, 0, 0), (58, .ireturn, 59, 0, 0)]
def sy_m97 : sy_MI := (sy_c97, cX8_lacks, 4, some .int, 8, false, 3, yX8_lacks)
def sy_c98 : List sy_En := [(0, .iload_n 0, 1, 0, 0), (1, .ifCond .ne 8, 4, 9, 0), (4, .iload_n 1, 5, 0, 0), (5, .i2b, 6, 0, 0), (6, .goto 14, 9, 20, 0), (9, .iload_n 0, 10, 0, 0), (10, .iconst 1, 11, 0, 1), (11, .if_icmp .ne 8, 14, 19, 0), (14, .iload_n 1, 15, 0, 0), (15, .i2s, 16, 0, 0), (16, .goto 4, 19, 20, 0), (19, .iload_n 1, 20, 0, 0), (20, .ireturn, 21, 0, 0)]
def sy_m98 : sy_MI := (sy_c98, cX8_cut, 2, some .int, 8, true, 2, yX8_cut)
def sy_c99 : List sy_En := [(0, .iload_n 1, 1, 0, 0), (1, .invokestatic 70, 4, 0, 0), (4, .ifCond .eq 15, 7, 19, 0), (7, .iload_n 2, 8, 0, 0), (8, .i2l, 9, 0, 0), (9, .lconst 0, 10, 0, 0), (10, .ldc2_w 74, 13, 0, 0), (13, .invokestatic 61, 16, 0, 0), (16, .ifCond .ne 6, 19, 22, 0), (19, .bipush (-2), 21, 0, (-2)), (21, .ireturn, 22, 0, 0), (22, .aload_n 0, 23, 0, 0), (23, .iload_n 1, 24, 0, 0), (24, .iload_n 2, 25, 0, 0), (25, .iload_n 3, 26, 0, 0), (26, .invokevirtual 80, 29, 0, 0), (29, .istore 5, 31, 0, 0), (31, .iload 5, 33, 0, 0), (33, .ifCond .eq 6, 36, 39, 0), (36, .iload 5, 38, 0, 0), (38, .ireturn, 39, 0, 0), (39, .aload_n 0, 40, 0, 0), (40, .getfield 16, 43, 0, 0), (43, .bipush 60, 45, 0, 60), (45, .iload_n 1, 46, 0, 0), (46, .imul, 47, 0, 0), (47, .iload_n 3, 48, 0, 0), (48, .iadd, 49, 0, 0), (49, .iload_n 2, 50, 0, 0), (50, .iload 4, 52, 0, 0), (52, .invokestatic 84, 55, 0, 0), (55, .iastore, 56, 0, 0), (56, .iconst 1, 57, 0, 1), (57, .ireturn, 58, 0, 0)]
def sy_m99 : sy_MI := (sy_c99, cX8_lay, 6, some .int, 8, false, 4, yX8_lay)
def sy_c100 : List sy_En := [(0, .iload_n 1, 1, 0, 0), (1, .invokestatic 70, 4, 0, 0), (4, .ifCond .eq 25, 7, 29, 0), (7, .iload_n 2, 8, 0, 0), (8, .i2l, 9, 0, 0), (9, .lconst 0, 10, 0, 0), (10, .ldc2_w 74, 13, 0, 0), (13, .invokestatic 61, 16, 0, 0), (16, .ifCond .eq 13, 19, 29, 0), (19, .aload_n 0, 20, 0, 0), (20, .iload_n 1, 21, 0, 0), (21, .iload_n 2, 22, 0, 0), (22, .iload_n 3, 23, 0, 0), (23, .invokevirtual 80, 26, 0, 0), (26, .ifCond .eq 6, 29, 32, 0), (29, .ldc 88, 31, 0, 0), (31, .ireturn, 32, 0, 0), (32, .aload_n 0, 33, 0, 0), (33, .getfield 16, 36, 0, 0), (36, .bipush 60, 38, 0, 60), (38, .iload_n 1, 39, 0, 0), (39, .imul, 40, 0, 0), (40, .iload_n 3, 41, 0, 0), (41, .iadd, 42, 0, 0), (42, .iaload, 43, 0, 0), (43, .ireturn, 44, 0, 0)]
def sy_m100 : sy_MI := (sy_c100, cX8_get, 4, some .int, 8, false, 3, yX8_get)
def sy_c101 : List sy_En := [(0, .iload_n 1, 1, 0, 0), (1, .invokestatic 70, 4, 0, 0), (4, .ifCond .eq 10, 7, 14, 0), (7, .iload_n 3, 8, 0, 0), (8, .invokestatic 70, 11, 0, 0), (11, .ifCond .ne 6, 14, 17, 0), (14, .bipush (-2), 16, 0, (-2)), (16, .ireturn, 17, 0, 0), (17, .aload_n 0, 18, 0, 0), (18, .getfield 7, 21, 0, 0), (21, .iload_n 1, 22, 0, 0), (22, .iaload, 23, 0, 0), (23, .ifCond .lt 12, 26, 35, 0), (26, .aload_n 0, 27, 0, 0), (27, .getfield 7, 30, 0, 0), (30, .iload_n 3, 31, 0, 0), (31, .iaload, 32, 0, 0), (32, .ifCond .ge 9, 35, 41, 0), (35, .aload_n 0, 36, 0, 0), (36, .iconst 1, 37, 0, 1), (37, .invokevirtual 76, 40, 0, 0), (40, .ireturn, 41, 0, 0), (41, .aload_n 0, 42, 0, 0), (42, .getfield 7, 45, 0, 0), (45, .iload_n 1, 46, 0, 0), (46, .iaload, 47, 0, 0), (47, .aload_n 0, 48, 0, 0), (48, .getfield 7, 51, 0, 0), (51, .iload_n 3, 52, 0, 0), (52, .iaload, 53, 0, 0), (53, .if_icmp .eq 9, 56, 62, 0), (56, .aload_n 0, 57, 0, 0), (57, .iconst 4, 58, 0, 4), (58, .invokevirtual 76, 61, 0, 0), (61, .ireturn, 62, 0, 0), (62, .iload_n 2, 63, 0, 0), (63, .ifCond .lt 48, 66, 111, 0), (66, .iload 4, 68, 0, 0), (68, .ifCond .lt 43, 71, 111, 0), (71, .iload 5, 73, 0, 0), (73, .ifCond .lt 38, 76, 111, 0), (76, .iload_n 2, 77, 0, 0), (77, .i2l, 78, 0, 0), (78, .iload 5, 80, 0, 0), (80, .i2l, 81, 0, 0), (81, .ladd, 82, 0, 0), (82, .aload_n 0, 83, 0, 0), (83, .getfield 13, 86, 0, 0), (86, .iload_n 1, 87, 0, 0), (87, .iaload, 88, 0, 0), (88, .i2l, 89, 0, 0), (89, .lcmp, 90, 0, 0), (90, .ifCond .gt 21, 93, 111, 0), (93, .iload 4, 95, 0, 0), (95, .i2l, 96, 0, 0), (96, .iload 5, 98, 0, 0), (98, .i2l, 99, 0, 0), (99, .ladd, 100, 0, 0), (100, .aload_n 0, 101, 0, 0), (101, .getfield 13, 104, 0, 0), (104, .iload_n 3, 105, 0, 0), (105, .iaload, 106, 0, 0), (106, .i2l, 107, 0, 0), (107, .lcmp, 108, 0, 0), (108, .ifCond .le 9, 111, 117, 0), (111, .aload_n 0, 112, 0, 0), (112, .iconst 2, 113, 0, 2), (113, .invokevirtual 76, 116, 0, 0), (116, .ireturn, 117, 0, 0), (117, .iconst 0, 118, 0, 0), (118, .istore 6, 120, 0, 0), (120, .iload 6, 122, 0, 0), (122, .iload 5, 124, 0, 0), (124, .if_icmp .ge 30, 127, 154, 0), (127, .aload_n 0, 128, 0, 0), (128, .getfield 19, 131, 0, 0), (131, .iload 6, 133, 0, 0), (133, .aload_n 0, 134, 0, 0), (134, .getfield 16, 137, 0, 0), (137, .bipush 60, 139, 0, 60), (139, .iload_n 1, 140, 0, 0), (140, .imul, 141, 0, 0), (141, .iload_n 2, 142, 0, 0), (142, .iadd, 143, 0, 0), (143, .iload 6, 145, 0, 0), (145, .iadd, 146, 0, 0), (146, .iaload, 147, 0, 0), (147, .iastore, 148, 0, 0), (148, .iinc 6 1, 151, 0, 1), (151, .goto (-31), 154, 120, 0), (154, .iconst 0, 155, 0, 0), (155, .istore 6, 157, 0, 0), (157, .iload 6, 159, 0, 0), (159, .iload 5, 161, 0, 0), (161, .if_icmp .ge 31, 164, 192, 0), (164, .aload_n 0, 165, 0, 0), (165, .getfield 16, 168, 0, 0), (168, .bipush 60, 170, 0, 60), (170, .iload_n 3, 171, 0, 0), (171, .imul, 172, 0, 0), (172, .iload 4, 174, 0, 0), (174, .iadd, 175, 0, 0), (175, .iload 6, 177, 0, 0), (177, .iadd, 178, 0, 0), (178, .aload_n 0, 179, 0, 0), (179, .getfield 19, 182, 0, 0), (182, .iload 6, 184, 0, 0), (184, .iaload, 185, 0, 0), (185, .iastore, 186, 0, 0), (186, .iinc 6 1, 189, 0, 1), (189, .goto (-32), 192, 157, 0), (192, .iconst 1, 193, 0, 1), (193, .ireturn, 194, 0, 0)]
def sy_m101 : sy_MI := (sy_c101, cX8_copy, 7, some .int, 8, false, 5, yX8_copy)
def sy_c102 : List sy_En := [(0, .iload_n 1, 1, 0, 0), (1, .i2l, 2, 0, 0), (2, .lconst 0, 3, 0, 0), (3, .ldc2_w 89, 6, 0, 0), (6, .invokestatic 61, 9, 0, 0), (9, .ifCond .ne 6, 12, 15, 0), (12, .bipush (-2), 14, 0, (-2)), (14, .ireturn, 15, 0, 0), (15, .aload_n 0, 16, 0, 0), (16, .getfield 91, 19, 0, 0), (19, .bipush 30, 21, 0, 30), (21, .if_icmp .ne 6, 24, 27, 0), (24, .bipush (-4), 26, 0, (-4)), (26, .ireturn, 27, 0, 0), (27, .aload_n 0, 28, 0, 0), (28, .getfield 22, 31, 0, 0), (31, .aload_n 0, 32, 0, 0), (32, .getfield 91, 35, 0, 0), (35, .iload_n 1, 36, 0, 0), (36, .iastore, 37, 0, 0), (37, .aload_n 0, 38, 0, 0), (38, .dup, 39, 0, 0), (39, .getfield 91, 42, 0, 0), (42, .iconst 1, 43, 0, 1), (43, .iadd, 44, 0, 0), (44, .putfield 91, 47, 0, 0), (47, .aload_n 0, 48, 0, 0), (48, .getfield 91, 51, 0, 0), (51, .ireturn, 52, 0, 0)]
def sy_m102 : sy_MI := (sy_c102, cX8_type, 2, some .int, 8, false, 1, yX8_type)
def sy_c103 : List sy_En := [(0, .aload_n 0, 1, 0, 0), (1, .getfield 91, 4, 0, 0), (4, .istore_n 1, 5, 0, 0), (5, .aload_n 0, 6, 0, 0), (6, .iconst 0, 7, 0, 0), (7, .putfield 91, 10, 0, 0), (10, .iload_n 1, 11, 0, 0), (11, .ireturn, 12, 0, 0)]
def sy_m103 : sy_MI := (sy_c103, cX8_wipe, 2, some .int, 8, false, 0, yX8_wipe)
def sy_c104 : List sy_En := [(0, .aload_n 0, 1, 0, 0), (1, .getfield 94, 4, 0, 0), (4, .aload_n 0, 5, 0, 0), (5, .getfield 91, 8, 0, 0), (8, .if_icmp .ge 15, 11, 23, 0), (11, .aload_n 0, 12, 0, 0), (12, .getfield 22, 15, 0, 0), (15, .aload_n 0, 16, 0, 0), (16, .getfield 94, 19, 0, 0), (19, .iaload, 20, 0, 0), (20, .goto 4, 23, 24, 0), (23, .iconst (-1), 24, 0, (-1)), (24, .ireturn, 25, 0, 0)]
def sy_m104 : sy_MI := (sy_c104, cX8_here, 1, some .int, 8, false, 0, yX8_here)
def sy_c105 : List sy_En := [(0, .iload_n 0, 1, 0, 0), (1, .i2l, 2, 0, 0), (2, .lconst 0, 3, 0, 0), (3, .ldc2_w 97, 6, 0, 0), (6, .invokestatic 61, 9, 0, 0), (9, .ireturn, 10, 0, 0)]
def sy_m105 : sy_MI := (sy_c105, cX8_isHouse, 1, some .boolean, 8, true, 1, yX8_isHouse)
def sy_c106 : List sy_En := [(0, .aload_n 0, 1, 0, 0), (1, .iconst 0, 2, 0, 0), (2, .putfield 99, 5, 0, 0), (5, .aload_n 0, 6, 0, 0), (6, .iconst 0, 7, 0, 0), (7, .putfield 102, 10, 0, 0), (10, .aload_n 0, 11, 0, 0), (11, .getfield 94, 14, 0, 0), (14, .ireturn, 15, 0, 0)]
def sy_m106 : sy_MI := (sy_c106, cX8_none, 1, some .int, 8, false, 0, yX8_none)
def sy_c107 : List sy_En := [(0, .aload_n 0, 1, 0, 0), (1, .iconst 0, 2, 0, 0), (2, .putfield 94, 5, 0, 0), (5, .aload_n 0, 6, 0, 0), (6, .iconst 0, 7, 0, 0), (7, .putfield 99, 10, 0, 0), (10, .aload_n 0, 11, 0, 0), (11, .iconst 0, 12, 0, 0), (12, .putfield 102, 15, 0, 0), (15, .aload_n 0, 16, 0, 0), (16, .getfield 94, 19, 0, 0), (19, .aload_n 0, 20, 0, 0), (20, .getfield 91, 23, 0, 0), (23, .if_icmp .ge 126, 26, 149, 0), (26, .aload_n 0, 27, 0, 0), (27, .invokevirtual 105, 30, 0, 0), (30, .bipush 48, 32, 0, 48), (32, .isub, 33, 0, 0), (33, .istore_n 1, 34, 0, 0), (34, .aload_n 0, 35, 0, 0), (35, .getfield 99, 38, 0, 0), (38, .bipush 9, 40, 0, 9), (40, .if_icmp .eq 10, 43, 50, 0), (43, .iload_n 1, 44, 0, 0), (44, .invokestatic 109, 47, 0, 0), (47, .ifCond .ne 8, 50, 55, 0), (50, .aload_n 0, 51, 0, 0), (51, .invokevirtual 112, 54, 0, 0), (54, .ireturn, 55, 0, 0), (55, .aload_n 0, 56, 0, 0), (56, .dup, 57, 0, 0), (57, .getfield 94, 60, 0, 0), (60, .iconst 1, 61, 0, 1), (61, .iadd, 62, 0, 0), (62, .putfield 94, 65, 0, 0), (65, .aload_n 0, 66, 0, 0), (66, .invokevirtual 105, 69, 0, 0), (69, .bipush 114, 71, 0, 114), (71, .if_icmp .eq 17, 74, 88, 0), (74, .aload_n 0, 75, 0, 0), (75, .invokevirtual 105, 78, 0, 0), (78, .bipush 102, 80, 0, 102), (80, .if_icmp .eq 8, 83, 88, 0), (83, .aload_n 0, 84, 0, 0), (84, .invokevirtual 112, 87, 0, 0), (87, .ireturn, 88, 0, 0), (88, .aload_n 0, 89, 0, 0), (89, .dup, 90, 0, 0), (90, .getfield 102, 93, 0, 0), (93, .aload_n 0, 94, 0, 0), (94, .invokevirtual 105, 97, 0, 0), (97, .bipush 102, 99, 0, 102), (99, .if_icmp .ne 12, 102, 111, 0), (102, .iconst 1, 103, 0, 1), (103, .aload_n 0, 104, 0, 0), (104, .getfield 99, 107, 0, 0), (107, .ishl, 108, 0, 0), (108, .goto 4, 111, 112, 0), (111, .iconst 0, 112, 0, 0), (112, .ior, 113, 0, 0), (113, .putfield 102, 116, 0, 0), (116, .aload_n 0, 117, 0, 0), (117, .getfield 25, 120, 0, 0), (120, .aload_n 0, 121, 0, 0), (121, .getfield 99, 124, 0, 0), (124, .iload_n 1, 125, 0, 0), (125, .iastore, 126, 0, 0), (126, .aload_n 0, 127, 0, 0), (127, .dup, 128, 0, 0), (128, .getfield 99, 131, 0, 0), (131, .iconst 1, 132, 0, 1), (132, .iadd, 133, 0, 0), (133, .putfield 99, 136, 0, 0), (136, .aload_n 0, 137, 0, 0), (137, .dup, 138, 0, 0), (138, .getfield 94, 141, 0, 0), (141, .iconst 1, 142, 0, 1), (142, .iadd, 143, 0, 0), (143, .putfield 94, 146, 0, 0), (146, .goto (-131), 149, 15, 0), (149, .iconst (-1), 150, 0, (-1)), (150, .ireturn, 151, 0, 0)]
def sy_m107 : sy_MI := (sy_c107, cX8_reads, 2, some .int, 8, false, 0, yX8_reads)
def sy_c108 : List sy_En := [(0, .aload_n 0, 1, 0, 0), (1, .invokevirtual 115, 4, 0, 0), (4, .ireturn, 5, 0, 0)]
def sy_m108 : sy_MI := (sy_c108, cX8_fault, 1, some .int, 8, false, 0, yX8_fault)
def sy_c109 : List sy_En := [(0, .aload_n 0, 1, 0, 0), (1, .invokevirtual 115, 4, 0, 0), (4, .pop, 5, 0, 0), (5, .iload_n 1, 6, 0, 0), (6, .i2l, 7, 0, 0), (7, .lconst 0, 8, 0, 0), (8, .aload_n 0, 9, 0, 0), (9, .getfield 99, 12, 0, 0), (12, .iconst 1, 13, 0, 1), (13, .isub, 14, 0, 0), (14, .i2l, 15, 0, 0), (15, .invokestatic 61, 18, 0, 0), (18, .ireturn, 19, 0, 0)]
def sy_m109 : sy_MI := (sy_c109, cX8_isStone, 2, some .boolean, 8, false, 1, yX8_isStone)
def sy_c110 : List sy_En := [(0, .iload_n 2, 1, 0, 0), (1, .ifCond .ne 12, 4, 13, 0), (4, .aload_n 0, 5, 0, 0), (5, .getfield 25, 8, 0, 0), (8, .iload_n 1, 9, 0, 0), (9, .iaload, 10, 0, 0), (10, .goto 11, 13, 21, 0), (13, .aload_n 0, 14, 0, 0), (14, .getfield 102, 17, 0, 0), (17, .iload_n 1, 18, 0, 0), (18, .ishr, 19, 0, 0), (19, .iconst 1, 20, 0, 1), (20, .iand, 21, 0, 0), (21, .ireturn, 22, 0, 0)]
def sy_m110 : sy_MI := (sy_c110, cX8_stoneOf, 3, some .int, 8, false, 2, yX8_stoneOf)
def sy_c111 : List sy_En := [(0, .aload_n 0, 1, 0, 0), (1, .iload_n 1, 2, 0, 0), (2, .invokevirtual 118, 5, 0, 0), (5, .ifCond .eq 19, 8, 24, 0), (8, .iload_n 2, 9, 0, 0), (9, .invokestatic 121, 12, 0, 0), (12, .ifCond .eq 12, 15, 24, 0), (15, .aload_n 0, 16, 0, 0), (16, .iload_n 1, 17, 0, 0), (17, .iload_n 2, 18, 0, 0), (18, .invokevirtual 124, 21, 0, 0), (21, .goto 5, 24, 26, 0), (24, .bipush (-2), 26, 0, (-2)), (26, .ireturn, 27, 0, 0)]
def sy_m111 : sy_MI := (sy_c111, cX8_stone, 3, some .int, 8, false, 2, yX8_stone)
def sy_c112 : List sy_En := [(0, .iload_n 1, 1, 0, 0), (1, .i2l, 2, 0, 0), (2, .lconst 1, 3, 0, 0), (3, .ldc2_w 127, 6, 0, 0), (6, .invokestatic 61, 9, 0, 0), (9, .ifCond .ne 6, 12, 15, 0), (12, .bipush (-2), 14, 0, (-2)), (14, .ireturn, 15, 0, 0), (15, .aload_n 0, 16, 0, 0), (16, .getfield 28, 19, 0, 0), (19, .istore_n 2, 20, 0, 0), (20, .aload_n 0, 21, 0, 0), (21, .iload_n 1, 22, 0, 0), (22, .putfield 28, 25, 0, 0), (25, .iload_n 2, 26, 0, 0), (26, .ireturn, 27, 0, 0)]
def sy_m112 : sy_MI := (sy_c112, cX8_lasts, 3, some .int, 8, false, 1, yX8_lasts)
def sy_c113 : List sy_En := [(0, .iload_n 1, 1, 0, 0), (1, .i2l, 2, 0, 0), (2, .aload_n 0, 3, 0, 0), (3, .getfield 129, 6, 0, 0), (6, .ifCond .ne 7, 9, 13, 0), (9, .lconst 0, 10, 0, 0), (10, .goto 17, 13, 27, 0), (13, .aload_n 0, 14, 0, 0), (14, .getfield 32, 17, 0, 0), (17, .iconst 5, 18, 0, 5), (18, .aload_n 0, 19, 0, 0), (19, .getfield 129, 22, 0, 0), (22, .imul, 23, 0, 0), (23, .iconst 4, 24, 0, 4), (24, .isub, 25, 0, 0), (25, .iaload, 26, 0, 0), (26, .i2l, 27, 0, 0), (27, .ldc2_w 132, 30, 0, 0), (30, .invokestatic 61, 33, 0, 0), (33, .ireturn, 34, 0, 0)]
def sy_m113 : sy_MI := (sy_c113, cX8_isLate, 2, some .boolean, 8, false, 1, yX8_isLate)
def sy_c114 : List sy_En := [(0, .iload_n 1, 1, 0, 0), (1, .i2l, 2, 0, 0), (2, .lconst 0, 3, 0, 0), (3, .ldc2_w 134, 6, 0, 0), (6, .invokestatic 61, 9, 0, 0), (9, .ifCond .eq 35, 12, 44, 0), (12, .aload_n 0, 13, 0, 0), (13, .iload_n 2, 14, 0, 0), (14, .invokevirtual 136, 17, 0, 0), (17, .ifCond .eq 27, 20, 44, 0), (20, .iload_n 3, 21, 0, 0), (21, .i2l, 22, 0, 0), (22, .lconst 0, 23, 0, 0), (23, .ldc2_w 139, 26, 0, 0), (26, .invokestatic 61, 29, 0, 0), (29, .ifCond .eq 15, 32, 44, 0), (32, .iload 4, 34, 0, 0), (34, .invokestatic 109, 37, 0, 0), (37, .ifCond .eq 7, 40, 44, 0), (40, .iconst 1, 41, 0, 1), (41, .goto 4, 44, 45, 0), (44, .iconst 0, 45, 0, 0), (45, .istore 6, 47, 0, 0), (47, .iload 6, 49, 0, 0), (49, .ifCond .eq 24, 52, 73, 0), (52, .iload 5, 54, 0, 0), (54, .i2l, 55, 0, 0), (55, .lconst 0, 56, 0, 0), (56, .iload_n 1, 57, 0, 0), (57, .ifCond .ne 9, 60, 66, 0), (60, .ldc2_w 141, 63, 0, 0), (63, .goto 4, 66, 67, 0), (66, .lconst 0, 67, 0, 0), (67, .invokestatic 61, 70, 0, 0), (70, .ifCond .ne 6, 73, 76, 0), (73, .bipush (-2), 75, 0, (-2)), (75, .ireturn, 76, 0, 0), (76, .aload_n 0, 77, 0, 0), (77, .getfield 129, 80, 0, 0), (80, .bipush 40, 82, 0, 40), (82, .if_icmp .ne 6, 85, 88, 0), (85, .bipush (-4), 87, 0, (-4)), (87, .ireturn, 88, 0, 0), (88, .aload_n 0, 89, 0, 0), (89, .getfield 32, 92, 0, 0), (92, .iconst 5, 93, 0, 5), (93, .aload_n 0, 94, 0, 0), (94, .getfield 129, 97, 0, 0), (97, .imul, 98, 0, 0), (98, .iload_n 1, 99, 0, 0), (99, .iastore, 100, 0, 0), (100, .aload_n 0, 101, 0, 0), (101, .getfield 32, 104, 0, 0), (104, .iconst 5, 105, 0, 5), (105, .aload_n 0, 106, 0, 0), (106, .getfield 129, 109, 0, 0), (109, .imul, 110, 0, 0), (110, .iconst 1, 111, 0, 1), (111, .iadd, 112, 0, 0), (112, .iload_n 2, 113, 0, 0), (113, .iastore, 114, 0, 0), (114, .aload_n 0, 115, 0, 0), (115, .getfield 32, 118, 0, 0), (118, .iconst 5, 119, 0, 5), (119, .aload_n 0, 120, 0, 0), (120, .getfield 129, 123, 0, 0), (123, .imul, 124, 0, 0), (124, .iconst 2, 125, 0, 2), (125, .iadd, 126, 0, 0), (126, .iload_n 3, 127, 0, 0), (127, .iastore, 128, 0, 0), (128, .aload_n 0, 129, 0, 0), (129, .getfield 32, 132, 0, 0), (132, .iconst 5, 133, 0, 5), (133, .aload_n 0, 134, 0, 0), (134, .getfield 129, 137, 0, 0), (137, .imul, 138, 0, 0), (138, .iconst 3, 139, 0, 3), (139, .iadd, 140, 0, 0), (140, .iload 4, 142, 0, 0), (142, .iastore, 143, 0, 0), (143, .aload_n 0, 144, 0, 0), (144, .getfield 32, 147, 0, 0), (147, .iconst 5, 148, 0, 5), (148, .aload_n 0, 149, 0, 0), (149, .getfield 129, 152, 0, 0), (152, .imul, 153, 0, 0), (153, .iconst 4, 154, 0, 4), (154, .iadd, 155, 0, 0), (155, .iload 5, 157, 0, 0), (157, .iastore, 158, 0, 0), (158, .aload_n 0, 159, 0, 0), (159, .dup, 160, 0, 0), (160, .getfield 129, 163, 0, 0), (163, .iconst 1, 164, 0, 1), (164, .iadd, 165, 0, 0), (165, .putfield 129, 168, 0, 0), (168, .aload_n 0, 169, 0, 0), (169, .getfield 129, 172, 0, 0), (172, .ireturn, 173, 0, 0)]
def sy_m114 : sy_MI := (sy_c114, cX8_event, 7, some .int, 8, false, 5, yX8_event)
def sy_c115 : List sy_En := [(0, .iload_n 1, 1, 0, 0), (1, .invokestatic 70, 4, 0, 0), (4, .ifCond .ne 6, 7, 10, 0), (7, .bipush (-2), 9, 0, (-2)), (9, .ireturn, 10, 0, 0), (10, .aload_n 0, 11, 0, 0), (11, .getfield 7, 14, 0, 0), (14, .iload_n 1, 15, 0, 0), (15, .iaload, 16, 0, 0), (16, .ifCond .ge 9, 19, 25, 0), (19, .aload_n 0, 20, 0, 0), (20, .iconst 1, 21, 0, 1), (21, .invokevirtual 76, 24, 0, 0), (24, .ireturn, 25, 0, 0), (25, .iconst 0, 26, 0, 0), (26, .istore_n 2, 27, 0, 0), (27, .iconst 1, 28, 0, 1), (28, .istore_n 3, 29, 0, 0), (29, .iload_n 3, 30, 0, 0), (30, .ifCond .eq 98, 33, 128, 0), (33, .iconst 5, 34, 0, 5), (34, .iload_n 2, 35, 0, 0), (35, .imul, 36, 0, 0), (36, .iconst 5, 37, 0, 5), (37, .iadd, 38, 0, 0), (38, .aload_n 0, 39, 0, 0), (39, .getfield 13, 42, 0, 0), (42, .iload_n 1, 43, 0, 0), (43, .iaload, 44, 0, 0), (44, .if_icmp .gt 84, 47, 128, 0), (47, .bipush 60, 49, 0, 60), (49, .iload_n 1, 50, 0, 0), (50, .imul, 51, 0, 0), (51, .iconst 5, 52, 0, 5), (52, .iload_n 2, 53, 0, 0), (53, .imul, 54, 0, 0), (54, .iadd, 55, 0, 0), (55, .istore 4, 57, 0, 0), (57, .aload_n 0, 58, 0, 0), (58, .aload_n 0, 59, 0, 0), (59, .getfield 16, 62, 0, 0), (62, .iload 4, 64, 0, 0), (64, .iaload, 65, 0, 0), (65, .aload_n 0, 66, 0, 0), (66, .getfield 16, 69, 0, 0), (69, .iload 4, 71, 0, 0), (71, .iconst 1, 72, 0, 1), (72, .iadd, 73, 0, 0), (73, .iaload, 74, 0, 0), (74, .aload_n 0, 75, 0, 0), (75, .getfield 16, 78, 0, 0), (78, .iload 4, 80, 0, 0), (80, .iconst 2, 81, 0, 2), (81, .iadd, 82, 0, 0), (82, .iaload, 83, 0, 0), (83, .aload_n 0, 84, 0, 0), (84, .getfield 16, 87, 0, 0), (87, .iload 4, 89, 0, 0), (89, .iconst 3, 90, 0, 3), (90, .iadd, 91, 0, 0), (91, .iaload, 92, 0, 0), (92, .aload_n 0, 93, 0, 0), (93, .getfield 16, 96, 0, 0), (96, .iload 4, 98, 0, 0), (98, .iconst 4, 99, 0, 4), (99, .iadd, 100, 0, 0), (100, .iaload, 101, 0, 0), (101, .invokevirtual 143, 104, 0, 0), (104, .ifCond .lt 7, 107, 111, 0), (107, .iconst 1, 108, 0, 1), (108, .goto 4, 111, 112, 0), (111, .iconst 0, 112, 0, 0), (112, .istore_n 3, 113, 0, 0), (113, .iload_n 2, 114, 0, 0), (114, .iload_n 3, 115, 0, 0), (115, .ifCond .eq 7, 118, 122, 0), (118, .iconst 1, 119, 0, 1), (119, .goto 4, 122, 123, 0), (122, .iconst 0, 123, 0, 0), (123, .iadd, 124, 0, 0), (124, .istore_n 2, 125, 0, 0), (125, .goto (-96), 128, 29, 0), (128, .iload_n 2, 129, 0, 0), (129, .ireturn, 130, 0, 0)]
def sy_m115 : sy_MI := (sy_c115, cX8_read, 5, some .int, 8, false, 1, yX8_read)
def sy_c116 : List sy_En := [(0, .aload_n 0, 1, 0, 0), (1, .getfield 129, 4, 0, 0), (4, .ifCond .ne 6, 7, 10, 0), (7, .bipush (-3), 9, 0, (-3)), (9, .ireturn, 10, 0, 0), (10, .aload_n 0, 11, 0, 0), (11, .dup, 12, 0, 0), (12, .getfield 129, 15, 0, 0), (15, .iconst 1, 16, 0, 1), (16, .isub, 17, 0, 0), (17, .putfield 129, 20, 0, 0), (20, .aload_n 0, 21, 0, 0), (21, .getfield 129, 24, 0, 0), (24, .ireturn, 25, 0, 0)]
def sy_m116 : sy_MI := (sy_c116, cX8_undo, 1, some .int, 8, false, 0, yX8_undo)
def sy_c117 : List sy_En := [(0, .iconst 0, 1, 0, 0), (1, .istore_n 1, 2, 0, 0), (2, .iload_n 1, 3, 0, 0), (3, .aload_n 0, 4, 0, 0), (4, .getfield 99, 7, 0, 0), (7, .if_icmp .ge 35, 10, 42, 0), (10, .aload_n 0, 11, 0, 0), (11, .getfield 35, 14, 0, 0), (14, .iload_n 1, 15, 0, 0), (15, .aload_n 0, 16, 0, 0), (16, .getfield 25, 19, 0, 0), (19, .iload_n 1, 20, 0, 0), (20, .iaload, 21, 0, 0), (21, .iastore, 22, 0, 0), (22, .aload_n 0, 23, 0, 0), (23, .getfield 38, 26, 0, 0), (26, .iload_n 1, 27, 0, 0), (27, .iconst (-1), 28, 0, (-1)), (28, .iastore, 29, 0, 0), (29, .aload_n 0, 30, 0, 0), (30, .getfield 41, 33, 0, 0), (33, .iload_n 1, 34, 0, 0), (34, .iconst (-1), 35, 0, (-1)), (35, .iastore, 36, 0, 0), (36, .iinc 1 1, 39, 0, 1), (39, .goto (-37), 42, 2, 0), (42, .aload_n 0, 43, 0, 0), (43, .iconst 0, 44, 0, 0), (44, .putfield 147, 47, 0, 0), (47, .aload_n 0, 48, 0, 0), (48, .iconst (-1), 49, 0, (-1)), (49, .putfield 150, 52, 0, 0), (52, .aload_n 0, 53, 0, 0), (53, .iconst 0, 54, 0, 0), (54, .putfield 153, 57, 0, 0), (57, .return_, 58, 0, 0)]
def sy_m117 : sy_MI := (sy_c117, cX8_begins, 2, none, 8, false, 0, yX8_begins)
def sy_c118 : List sy_En := [(0, .aload_n 0, 1, 0, 0), (1, .getfield 32, 4, 0, 0), (4, .iconst 5, 5, 0, 5), (5, .iload_n 1, 6, 0, 0), (6, .imul, 7, 0, 0), (7, .iaload, 8, 0, 0), (8, .istore_n 2, 9, 0, 0), (9, .aload_n 0, 10, 0, 0), (10, .getfield 32, 13, 0, 0), (13, .iconst 5, 14, 0, 5), (14, .iload_n 1, 15, 0, 0), (15, .imul, 16, 0, 0), (16, .iconst 2, 17, 0, 2), (17, .iadd, 18, 0, 0), (18, .iaload, 19, 0, 0), (19, .istore_n 3, 20, 0, 0), (20, .aload_n 0, 21, 0, 0), (21, .getfield 32, 24, 0, 0), (24, .iconst 5, 25, 0, 5), (25, .iload_n 1, 26, 0, 0), (26, .imul, 27, 0, 0), (27, .iconst 3, 28, 0, 3), (28, .iadd, 29, 0, 0), (29, .iaload, 30, 0, 0), (30, .istore 4, 32, 0, 0), (32, .iload_n 3, 33, 0, 0), (33, .aload_n 0, 34, 0, 0), (34, .getfield 99, 37, 0, 0), (37, .if_icmp .lt 5, 40, 42, 0), (40, .iconst 0, 41, 0, 0), (41, .ireturn, 42, 0, 0), (42, .iload_n 2, 43, 0, 0), (43, .iconst 3, 44, 0, 3), (44, .if_icmp .ge 30, 47, 74, 0), (47, .aload_n 0, 48, 0, 0), (48, .getfield 35, 51, 0, 0), (51, .iload_n 3, 52, 0, 0), (52, .iaload, 53, 0, 0), (53, .iconst (-1), 54, 0, (-1)), (54, .if_icmp .eq 18, 57, 72, 0), (57, .aload_n 0, 58, 0, 0), (58, .getfield 35, 61, 0, 0), (61, .iload_n 3, 62, 0, 0), (62, .iaload, 63, 0, 0), (63, .iload 4, 65, 0, 0), (65, .if_icmp .eq 7, 68, 72, 0), (68, .iconst 1, 69, 0, 1), (69, .goto 4, 72, 73, 0), (72, .iconst 0, 73, 0, 0), (73, .ireturn, 74, 0, 0), (74, .iload_n 2, 75, 0, 0), (75, .iconst 4, 76, 0, 4), (76, .if_icmp .ne 21, 79, 97, 0), (79, .aload_n 0, 80, 0, 0), (80, .getfield 35, 83, 0, 0), (83, .iload_n 3, 84, 0, 0), (84, .iaload, 85, 0, 0), (85, .iconst (-1), 86, 0, (-1)), (86, .if_icmp .ne 7, 89, 93, 0), (89, .iconst 1, 90, 0, 1), (90, .goto 23, 93, 113, 0), (93, .iconst 0, 94, 0, 0), (94, .goto 19, 97, 113, 0), (97, .aload_n 0, 98, 0, 0), (98, .getfield 35, 101, 0, 0), (101, .iload_n 3, 102, 0, 0), (102, .iaload, 103, 0, 0), (103, .iload 4, 105, 0, 0), (105, .if_icmp .ne 7, 108, 112, 0), (108, .iconst 1, 109, 0, 1), (109, .goto 4, 112, 113, 0), (112, .iconst 0, 113, 0, 0), (113, .ireturn, 114, 0, 0)]
def sy_m118 : sy_MI := (sy_c118, cX8_isLawful, 5, some .boolean, 8, false, 1, yX8_isLawful)
def sy_c119 : List sy_En := [(0, .aload_n 0, 1, 0, 0), (1, .getfield 32, 4, 0, 0), (4, .iconst 5, 5, 0, 5), (5, .iload_n 1, 6, 0, 0), (6, .imul, 7, 0, 0), (7, .iconst 4, 8, 0, 4), (8, .iadd, 9, 0, 0), (9, .iaload, 10, 0, 0), (10, .istore_n 2, 11, 0, 0), (11, .aload_n 0, 12, 0, 0), (12, .getfield 32, 15, 0, 0), (15, .iconst 5, 16, 0, 5), (16, .iload_n 1, 17, 0, 0), (17, .imul, 18, 0, 0), (18, .iaload, 19, 0, 0), (19, .ifCond .ne 18, 22, 37, 0), (22, .iload_n 2, 23, 0, 0), (23, .ifCond .eq 10, 26, 33, 0), (26, .iload_n 2, 27, 0, 0), (27, .iconst 2, 28, 0, 2), (28, .irem, 29, 0, 0), (29, .iconst 1, 30, 0, 1), (30, .if_icmp .ne 7, 33, 37, 0), (33, .iconst 1, 34, 0, 1), (34, .goto 4, 37, 38, 0), (37, .iconst 0, 38, 0, 0), (38, .ireturn, 39, 0, 0)]
def sy_m119 : sy_MI := (sy_c119, cX8_isTrue, 3, some .boolean, 8, false, 1, yX8_isTrue)
def sy_c120 : List sy_En := [(0, .aload_n 0, 1, 0, 0), (1, .getfield 32, 4, 0, 0), (4, .iconst 5, 5, 0, 5), (5, .iload_n 1, 6, 0, 0), (6, .imul, 7, 0, 0), (7, .iaload, 8, 0, 0), (8, .istore_n 2, 9, 0, 0), (9, .aload_n 0, 10, 0, 0), (10, .getfield 32, 13, 0, 0), (13, .iconst 5, 14, 0, 5), (14, .iload_n 1, 15, 0, 0), (15, .imul, 16, 0, 0), (16, .iconst 2, 17, 0, 2), (17, .iadd, 18, 0, 0), (18, .iaload, 19, 0, 0), (19, .istore_n 3, 20, 0, 0), (20, .aload_n 0, 21, 0, 0), (21, .iload_n 1, 22, 0, 0), (22, .invokevirtual 156, 25, 0, 0), (25, .istore 4, 27, 0, 0), (27, .aload_n 0, 28, 0, 0), (28, .dup, 29, 0, 0), (29, .getfield 153, 32, 0, 0), (32, .iload 4, 34, 0, 0), (34, .ifCond .eq 7, 37, 41, 0), (37, .iconst 1, 38, 0, 1), (38, .goto 4, 41, 42, 0), (41, .iconst 0, 42, 0, 0), (42, .iadd, 43, 0, 0), (43, .putfield 153, 46, 0, 0), (46, .aload_n 0, 47, 0, 0), (47, .getfield 38, 50, 0, 0), (50, .iload_n 3, 51, 0, 0), (51, .iload 4, 53, 0, 0), (53, .ifCond .eq 16, 56, 69, 0), (56, .aload_n 0, 57, 0, 0), (57, .getfield 32, 60, 0, 0), (60, .iconst 5, 61, 0, 5), (61, .iload_n 1, 62, 0, 0), (62, .imul, 63, 0, 0), (63, .iconst 1, 64, 0, 1), (64, .iadd, 65, 0, 0), (65, .iaload, 66, 0, 0), (66, .goto 4, 69, 70, 0), (69, .iconst (-1), 70, 0, (-1)), (70, .iastore, 71, 0, 0), (71, .aload_n 0, 72, 0, 0), (72, .getfield 41, 75, 0, 0), (75, .iload_n 3, 76, 0, 0), (76, .iload 4, 78, 0, 0), (78, .ifCond .eq 7, 81, 85, 0), (81, .iload_n 1, 82, 0, 0), (82, .goto 4, 85, 86, 0), (85, .iconst (-1), 86, 0, (-1)), (86, .iastore, 87, 0, 0), (87, .aload_n 0, 88, 0, 0), (88, .getfield 35, 91, 0, 0), (91, .iload_n 3, 92, 0, 0), (92, .iload_n 2, 93, 0, 0), (93, .iconst 3, 94, 0, 3), (94, .if_icmp .ne 7, 97, 101, 0), (97, .iconst (-1), 98, 0, (-1)), (98, .goto 13, 101, 111, 0), (101, .aload_n 0, 102, 0, 0), (102, .getfield 32, 105, 0, 0), (105, .iconst 5, 106, 0, 5), (106, .iload_n 1, 107, 0, 0), (107, .imul, 108, 0, 0), (108, .iconst 3, 109, 0, 3), (109, .iadd, 110, 0, 0), (110, .iaload, 111, 0, 0), (111, .iastore, 112, 0, 0), (112, .return_, 113, 0, 0)]
def sy_m120 : sy_MI := (sy_c120, cX8_does, 5, none, 8, false, 1, yX8_does)
def sy_c121 : List sy_En := [(0, .aload_n 0, 1, 0, 0), (1, .invokevirtual 159, 4, 0, 0), (4, .iconst 0, 5, 0, 0), (5, .istore_n 3, 6, 0, 0), (6, .iload_n 3, 7, 0, 0), (7, .aload_n 0, 8, 0, 0), (8, .getfield 129, 11, 0, 0), (11, .if_icmp .ge 74, 14, 85, 0), (14, .iload_n 3, 15, 0, 0), (15, .iload_n 2, 16, 0, 0), (16, .if_icmp .eq 63, 19, 79, 0), (19, .aload_n 0, 20, 0, 0), (20, .getfield 32, 23, 0, 0), (23, .iconst 5, 24, 0, 5), (24, .iload_n 3, 25, 0, 0), (25, .imul, 26, 0, 0), (26, .iconst 1, 27, 0, 1), (27, .iadd, 28, 0, 0), (28, .iaload, 29, 0, 0), (29, .iload_n 1, 30, 0, 0), (30, .if_icmp .gt 49, 33, 79, 0), (33, .aload_n 0, 34, 0, 0), (34, .iload_n 3, 35, 0, 0), (35, .invokevirtual 162, 38, 0, 0), (38, .ifCond .eq 11, 41, 49, 0), (41, .aload_n 0, 42, 0, 0), (42, .iload_n 3, 43, 0, 0), (43, .invokevirtual 165, 46, 0, 0), (46, .goto 33, 49, 79, 0), (49, .aload_n 0, 50, 0, 0), (50, .dup, 51, 0, 0), (51, .getfield 147, 54, 0, 0), (54, .iconst 1, 55, 0, 1), (55, .iadd, 56, 0, 0), (56, .putfield 147, 59, 0, 0), (59, .aload_n 0, 60, 0, 0), (60, .aload_n 0, 61, 0, 0), (61, .getfield 150, 64, 0, 0), (64, .iconst (-1), 65, 0, (-1)), (65, .if_icmp .ne 7, 68, 72, 0), (68, .iload_n 3, 69, 0, 0), (69, .goto 7, 72, 76, 0), (72, .aload_n 0, 73, 0, 0), (73, .getfield 150, 76, 0, 0), (76, .putfield 150, 79, 0, 0), (79, .iinc 3 1, 82, 0, 1), (82, .goto (-76), 85, 6, 0), (85, .return_, 86, 0, 0)]
def sy_m121 : sy_MI := (sy_c121, cX8_goes, 4, none, 8, false, 2, yX8_goes)
def sy_c122 : List sy_En := [(0, .aload_n 0, 1, 0, 0), (1, .invokevirtual 115, 4, 0, 0), (4, .pop, 5, 0, 0), (5, .aload_n 0, 6, 0, 0), (6, .sipush 199, 9, 0, 199), (9, .iconst (-1), 10, 0, (-1)), (10, .invokevirtual 169, 13, 0, 0), (13, .aload_n 0, 14, 0, 0), (14, .getfield 150, 17, 0, 0), (17, .ireturn, 18, 0, 0)]
def sy_m122 : sy_MI := (sy_c122, cX8_judged, 1, some .int, 8, false, 0, yX8_judged)
def sy_c123 : List sy_En := [(0, .aload_n 0, 1, 0, 0), (1, .getfield 38, 4, 0, 0), (4, .iload_n 1, 5, 0, 0), (5, .iaload, 6, 0, 0), (6, .iconst (-1), 7, 0, (-1)), (7, .if_icmp .ne 7, 10, 14, 0), (10, .iconst 0, 11, 0, 0), (11, .goto 16, 14, 27, 0), (14, .aload_n 0, 15, 0, 0), (15, .getfield 38, 18, 0, 0), (18, .iload_n 1, 19, 0, 0), (19, .iaload, 20, 0, 0), (20, .aload_n 0, 21, 0, 0), (21, .getfield 28, 24, 0, 0), (24, .iadd, 25, 0, 0), (25, .iload_n 2, 26, 0, 0), (26, .isub, 27, 0, 0), (27, .istore_n 3, 28, 0, 0), (28, .iload_n 3, 29, 0, 0), (29, .ifCond .ge 7, 32, 36, 0), (32, .iconst 0, 33, 0, 0), (33, .goto 4, 36, 37, 0), (36, .iload_n 3, 37, 0, 0), (37, .ireturn, 38, 0, 0)]
def sy_m123 : sy_MI := (sy_c123, cX8_leftAt, 4, some .int, 8, false, 2, yX8_leftAt)
def sy_c124 : List sy_En := [(0, .aload_n 0, 1, 0, 0), (1, .getfield 102, 4, 0, 0), (4, .iload_n 1, 5, 0, 0), (5, .ishr, 6, 0, 0), (6, .iconst 1, 7, 0, 1), (7, .iand, 8, 0, 0), (8, .ifCond .ne 16, 11, 24, 0), (11, .aload_n 0, 12, 0, 0), (12, .iload_n 1, 13, 0, 0), (13, .iload_n 2, 14, 0, 0), (14, .invokevirtual 173, 17, 0, 0), (17, .ifCond .le 7, 20, 24, 0), (20, .iconst 1, 21, 0, 1), (21, .goto 4, 24, 25, 0), (24, .iconst 0, 25, 0, 0), (25, .ireturn, 26, 0, 0)]
def sy_m124 : sy_MI := (sy_c124, cX8_isLucky, 3, some .boolean, 8, false, 2, yX8_isLucky)
def sy_c125 : List sy_En := [(0, .iload_n 0, 1, 0, 0), (1, .i2l, 2, 0, 0), (2, .lconst 0, 3, 0, 0), (3, .ldc2_w 176, 6, 0, 0), (6, .invokestatic 61, 9, 0, 0), (9, .ireturn, 10, 0, 0)]
def sy_m125 : sy_MI := (sy_c125, cX8_isNight, 1, some .boolean, 8, true, 1, yX8_isNight)
def sy_c126 : List sy_En := [(0, .aload_n 0, 1, 0, 0), (1, .iload_n 2, 2, 0, 0), (2, .iconst (-1), 3, 0, (-1)), (3, .invokevirtual 169, 6, 0, 0), (6, .iload_n 3, 7, 0, 0), (7, .ifCond .ne 12, 10, 19, 0), (10, .aload_n 0, 11, 0, 0), (11, .getfield 35, 14, 0, 0), (14, .iload_n 1, 15, 0, 0), (15, .iaload, 16, 0, 0), (16, .goto 31, 19, 47, 0), (19, .aload_n 0, 20, 0, 0), (20, .iload_n 1, 21, 0, 0), (21, .iload_n 2, 22, 0, 0), (22, .invokevirtual 178, 25, 0, 0), (25, .ifCond .ne 7, 28, 32, 0), (28, .iconst 0, 29, 0, 0), (29, .goto 18, 32, 47, 0), (32, .iload_n 3, 33, 0, 0), (33, .iconst 1, 34, 0, 1), (34, .if_icmp .ne 7, 37, 41, 0), (37, .iconst 1, 38, 0, 1), (38, .goto 9, 41, 47, 0), (41, .aload_n 0, 42, 0, 0), (42, .iload_n 1, 43, 0, 0), (43, .iload_n 2, 44, 0, 0), (44, .invokevirtual 173, 47, 0, 0), (47, .ireturn, 48, 0, 0)]
def sy_m126 : sy_MI := (sy_c126, cX8_stateOf, 4, some .int, 8, false, 3, yX8_stateOf)
def sy_c127 : List sy_En := [(0, .aload_n 0, 1, 0, 0), (1, .iload_n 1, 2, 0, 0), (2, .invokevirtual 118, 5, 0, 0), (5, .ifCond .eq 32, 8, 37, 0), (8, .iload_n 2, 9, 0, 0), (9, .invokestatic 182, 12, 0, 0), (12, .ifCond .eq 25, 15, 37, 0), (15, .iload_n 3, 16, 0, 0), (16, .i2l, 17, 0, 0), (17, .lconst 0, 18, 0, 0), (18, .ldc2_w 74, 21, 0, 0), (21, .invokestatic 61, 24, 0, 0), (24, .ifCond .eq 13, 27, 37, 0), (27, .aload_n 0, 28, 0, 0), (28, .iload_n 1, 29, 0, 0), (29, .iload_n 2, 30, 0, 0), (30, .iload_n 3, 31, 0, 0), (31, .invokevirtual 185, 34, 0, 0), (34, .goto 5, 37, 39, 0), (37, .bipush (-2), 39, 0, (-2)), (39, .ireturn, 40, 0, 0)]
def sy_m127 : sy_MI := (sy_c127, cX8_at, 4, some .int, 8, false, 3, yX8_at)
def sy_c128 : List sy_En := [(0, .iconst 0, 1, 0, 0), (1, .istore_n 3, 2, 0, 0), (2, .iconst 0, 3, 0, 0), (3, .istore 4, 5, 0, 0), (5, .iload 4, 7, 0, 0), (7, .aload_n 0, 8, 0, 0), (8, .getfield 99, 11, 0, 0), (11, .if_icmp .ge 38, 14, 49, 0), (14, .iload_n 3, 15, 0, 0), (15, .aload_n 0, 16, 0, 0), (16, .getfield 35, 19, 0, 0), (19, .iload 4, 21, 0, 0), (21, .iaload, 22, 0, 0), (22, .iload_n 1, 23, 0, 0), (23, .if_icmp .ne 17, 26, 40, 0), (26, .aload_n 0, 27, 0, 0), (27, .iload 4, 29, 0, 0), (29, .iload_n 2, 30, 0, 0), (30, .invokevirtual 178, 33, 0, 0), (33, .ifCond .eq 7, 36, 40, 0), (36, .iconst 1, 37, 0, 1), (37, .goto 4, 40, 41, 0), (40, .iconst 0, 41, 0, 0), (41, .iadd, 42, 0, 0), (42, .istore_n 3, 43, 0, 0), (43, .iinc 4 1, 46, 0, 1), (46, .goto (-41), 49, 5, 0), (49, .iload_n 3, 50, 0, 0), (50, .ireturn, 51, 0, 0)]
def sy_m128 : sy_MI := (sy_c128, cX8_luckNow, 5, some .int, 8, false, 2, yX8_luckNow)
def sy_c129 : List sy_En := [(0, .aload_n 0, 1, 0, 0), (1, .iload_n 2, 2, 0, 0), (2, .iconst (-1), 3, 0, (-1)), (3, .invokevirtual 169, 6, 0, 0), (6, .aload_n 0, 7, 0, 0), (7, .iload_n 1, 8, 0, 0), (8, .iload_n 2, 9, 0, 0), (9, .invokevirtual 188, 12, 0, 0), (12, .istore 4, 14, 0, 0), (14, .iload_n 3, 15, 0, 0), (15, .ifCond .ne 8, 18, 23, 0), (18, .iload 4, 20, 0, 0), (20, .goto 9, 23, 29, 0), (23, .iconst 1, 24, 0, 1), (24, .iconst 2, 25, 0, 2), (25, .iload 4, 27, 0, 0), (27, .imul, 28, 0, 0), (28, .iadd, 29, 0, 0), (29, .ireturn, 30, 0, 0)]
def sy_m129 : sy_MI := (sy_c129, cX8_luckOf, 5, some .int, 8, false, 3, yX8_luckOf)
def sy_c130 : List sy_En := [(0, .aload_n 0, 1, 0, 0), (1, .invokevirtual 115, 4, 0, 0), (4, .pop, 5, 0, 0), (5, .iload_n 1, 6, 0, 0), (6, .invokestatic 109, 9, 0, 0), (9, .ifCond .eq 27, 12, 36, 0), (12, .iload_n 2, 13, 0, 0), (13, .invokestatic 182, 16, 0, 0), (16, .ifCond .eq 20, 19, 36, 0), (19, .iload_n 3, 20, 0, 0), (20, .invokestatic 121, 23, 0, 0), (23, .ifCond .eq 13, 26, 36, 0), (26, .aload_n 0, 27, 0, 0), (27, .iload_n 1, 28, 0, 0), (28, .iload_n 2, 29, 0, 0), (29, .iload_n 3, 30, 0, 0), (30, .invokevirtual 191, 33, 0, 0), (33, .goto 5, 36, 38, 0), (36, .bipush (-2), 38, 0, (-2)), (38, .ireturn, 39, 0, 0)]
def sy_m130 : sy_MI := (sy_c130, cX8_luck, 4, some .int, 8, false, 3, yX8_luck)
def sy_c131 : List sy_En := [(0, .iconst 0, 1, 0, 0), (1, .istore 5, 3, 0, 0), (3, .iload_n 2, 4, 0, 0), (4, .istore 6, 6, 0, 0), (6, .iload 6, 8, 0, 0), (8, .iload_n 3, 9, 0, 0), (9, .if_icmp .gt 65, 12, 74, 0), (12, .aload_n 0, 13, 0, 0), (13, .iload 6, 15, 0, 0), (15, .iload 4, 17, 0, 0), (17, .invokevirtual 169, 20, 0, 0), (20, .iconst 0, 21, 0, 0), (21, .istore 7, 23, 0, 0), (23, .iload 7, 25, 0, 0), (25, .bipush 8, 27, 0, 8), (27, .if_icmp .ge 41, 30, 68, 0), (30, .iload 5, 32, 0, 0), (32, .iload_n 1, 33, 0, 0), (33, .iconst (-1), 34, 0, (-1)), (34, .if_icmp .eq 9, 37, 43, 0), (37, .iload_n 1, 38, 0, 0), (38, .iload 7, 40, 0, 0), (40, .if_icmp .ne 18, 43, 58, 0), (43, .aload_n 0, 44, 0, 0), (44, .iload 7, 46, 0, 0), (46, .iload 6, 48, 0, 0), (48, .invokevirtual 188, 51, 0, 0), (51, .ifCond .le 7, 54, 58, 0), (54, .iconst 1, 55, 0, 1), (55, .goto 4, 58, 59, 0), (58, .iconst 0, 59, 0, 0), (59, .iadd, 60, 0, 0), (60, .istore 5, 62, 0, 0), (62, .iinc 7 1, 65, 0, 1), (65, .goto (-42), 68, 23, 0), (68, .iinc 6 1, 71, 0, 1), (71, .goto (-65), 74, 6, 0), (74, .iload 5, 76, 0, 0), (76, .ireturn, 77, 0, 0)]
def sy_m131 : sy_MI := (sy_c131, cX8_daysOf, 8, some .int, 8, false, 4, yX8_daysOf)
def sy_c132 : List sy_En := [(0, .aload_n 0, 1, 0, 0), (1, .invokevirtual 115, 4, 0, 0), (4, .pop, 5, 0, 0), (5, .iload_n 1, 6, 0, 0), (6, .i2l, 7, 0, 0), (7, .ldc2_w 194, 10, 0, 0), (10, .ldc2_w 97, 13, 0, 0), (13, .invokestatic 61, 16, 0, 0), (16, .ifCond .eq 33, 19, 49, 0), (19, .iload_n 2, 20, 0, 0), (20, .invokestatic 182, 23, 0, 0), (23, .ifCond .eq 26, 26, 49, 0), (26, .iload_n 3, 27, 0, 0), (27, .invokestatic 182, 30, 0, 0), (30, .ifCond .eq 19, 33, 49, 0), (33, .iload_n 2, 34, 0, 0), (34, .iload_n 3, 35, 0, 0), (35, .if_icmp .gt 14, 38, 49, 0), (38, .aload_n 0, 39, 0, 0), (39, .iload_n 1, 40, 0, 0), (40, .iload_n 2, 41, 0, 0), (41, .iload_n 3, 42, 0, 0), (42, .iconst (-1), 43, 0, (-1)), (43, .invokevirtual 196, 46, 0, 0), (46, .goto 5, 49, 51, 0), (49, .bipush (-2), 51, 0, (-2)), (51, .ireturn, 52, 0, 0)]
def sy_m132 : sy_MI := (sy_c132, cX8_days, 4, some .int, 8, false, 3, yX8_days)
def sy_c133 : List sy_En := [(0, .aload_n 0, 1, 0, 0), (1, .iload_n 2, 2, 0, 0), (2, .iconst (-1), 3, 0, (-1)), (3, .invokevirtual 169, 6, 0, 0), (6, .iconst 0, 7, 0, 0), (7, .istore 4, 9, 0, 0), (9, .iconst 0, 10, 0, 0), (10, .istore 5, 12, 0, 0), (12, .iload 5, 14, 0, 0), (14, .aload_n 0, 15, 0, 0), (15, .getfield 99, 18, 0, 0), (18, .if_icmp .ge 47, 21, 65, 0), (21, .aload_n 0, 22, 0, 0), (22, .getfield 35, 25, 0, 0), (25, .iload 5, 27, 0, 0), (27, .iaload, 28, 0, 0), (28, .iload_n 1, 29, 0, 0), (29, .if_icmp .ne 30, 32, 59, 0), (32, .aload_n 0, 33, 0, 0), (33, .iload 5, 35, 0, 0), (35, .iload_n 2, 36, 0, 0), (36, .invokevirtual 178, 39, 0, 0), (39, .ifCond .eq 20, 42, 59, 0), (42, .iload 4, 44, 0, 0), (44, .iload_n 3, 45, 0, 0), (45, .if_icmp .ne 11, 48, 56, 0), (48, .aload_n 0, 49, 0, 0), (49, .getfield 41, 52, 0, 0), (52, .iload 5, 54, 0, 0), (54, .iaload, 55, 0, 0), (55, .ireturn, 56, 0, 0), (56, .iinc 4 1, 59, 0, 1), (59, .iinc 5 1, 62, 0, 1), (62, .goto (-50), 65, 12, 0), (65, .iconst (-1), 66, 0, (-1)), (66, .ireturn, 67, 0, 0)]
def sy_m133 : sy_MI := (sy_c133, cX8_ledOf, 6, some .int, 8, false, 3, yX8_ledOf)
def sy_c134 : List sy_En := [(0, .aload_n 0, 1, 0, 0), (1, .invokevirtual 115, 4, 0, 0), (4, .pop, 5, 0, 0), (5, .iload_n 1, 6, 0, 0), (6, .invokestatic 109, 9, 0, 0), (9, .ifCond .eq 24, 12, 33, 0), (12, .iload_n 2, 13, 0, 0), (13, .invokestatic 182, 16, 0, 0), (16, .ifCond .eq 17, 19, 33, 0), (19, .iload_n 3, 20, 0, 0), (20, .ifCond .lt 13, 23, 33, 0), (23, .aload_n 0, 24, 0, 0), (24, .iload_n 1, 25, 0, 0), (25, .iload_n 2, 26, 0, 0), (26, .iload_n 3, 27, 0, 0), (27, .invokevirtual 200, 30, 0, 0), (30, .goto 5, 33, 35, 0), (33, .bipush (-2), 35, 0, (-2)), (35, .ireturn, 36, 0, 0)]
def sy_m134 : sy_MI := (sy_c134, cX8_led, 4, some .int, 8, false, 3, yX8_led)
def sy_c135 : List sy_En := [(0, .aload_n 0, 1, 0, 0), (1, .iconst (-1), 2, 0, (-1)), (2, .iconst 0, 3, 0, 0), (3, .iload_n 2, 4, 0, 0), (4, .iload_n 1, 5, 0, 0), (5, .invokevirtual 196, 8, 0, 0), (8, .aload_n 0, 9, 0, 0), (9, .iconst (-1), 10, 0, (-1)), (10, .iconst 0, 11, 0, 0), (11, .iload_n 2, 12, 0, 0), (12, .iconst (-1), 13, 0, (-1)), (13, .invokevirtual 196, 16, 0, 0), (16, .isub, 17, 0, 0), (17, .ireturn, 18, 0, 0)]
def sy_m135 : sy_MI := (sy_c135, cX8_withoutOf, 3, some .int, 8, false, 2, yX8_withoutOf)
def sy_c136 : List sy_En := [(0, .aload_n 0, 1, 0, 0), (1, .invokevirtual 115, 4, 0, 0), (4, .pop, 5, 0, 0), (5, .iload_n 1, 6, 0, 0), (6, .i2l, 7, 0, 0), (7, .lconst 0, 8, 0, 0), (8, .aload_n 0, 9, 0, 0), (9, .getfield 129, 12, 0, 0), (12, .iconst 1, 13, 0, 1), (13, .isub, 14, 0, 0), (14, .i2l, 15, 0, 0), (15, .invokestatic 61, 18, 0, 0), (18, .ifCond .eq 19, 21, 37, 0), (21, .iload_n 2, 22, 0, 0), (22, .invokestatic 182, 25, 0, 0), (25, .ifCond .eq 12, 28, 37, 0), (28, .aload_n 0, 29, 0, 0), (29, .iload_n 1, 30, 0, 0), (30, .iload_n 2, 31, 0, 0), (31, .invokevirtual 203, 34, 0, 0), (34, .goto 6, 37, 40, 0), (37, .sipush (-10002), 40, 0, (-10002)), (40, .ireturn, 41, 0, 0)]
def sy_m136 : sy_MI := (sy_c136, cX8_without, 3, some .int, 8, false, 2, yX8_without)
def sy_c137 : List sy_En := [(0, .iload_n 1, 1, 0, 0), (1, .invokestatic 109, 4, 0, 0), (4, .ifCond .eq 22, 7, 26, 0), (7, .iload_n 2, 8, 0, 0), (8, .invokestatic 182, 11, 0, 0), (11, .ifCond .eq 15, 14, 26, 0), (14, .iload_n 3, 15, 0, 0), (15, .i2l, 16, 0, 0), (16, .lconst 0, 17, 0, 0), (17, .ldc2_w 206, 20, 0, 0), (20, .invokestatic 61, 23, 0, 0), (23, .ifCond .ne 6, 26, 29, 0), (26, .bipush (-2), 28, 0, (-2)), (28, .ireturn, 29, 0, 0), (29, .aload_n 0, 30, 0, 0), (30, .getfield 208, 33, 0, 0), (33, .bipush 8, 35, 0, 8), (35, .if_icmp .ne 6, 38, 41, 0), (38, .bipush (-4), 40, 0, (-4)), (40, .ireturn, 41, 0, 0), (41, .aload_n 0, 42, 0, 0), (42, .getfield 44, 45, 0, 0), (45, .iconst 3, 46, 0, 3), (46, .aload_n 0, 47, 0, 0), (47, .getfield 208, 50, 0, 0), (50, .imul, 51, 0, 0), (51, .iload_n 1, 52, 0, 0), (52, .iastore, 53, 0, 0), (53, .aload_n 0, 54, 0, 0), (54, .getfield 44, 57, 0, 0), (57, .iconst 3, 58, 0, 3), (58, .aload_n 0, 59, 0, 0), (59, .getfield 208, 62, 0, 0), (62, .imul, 63, 0, 0), (63, .iconst 1, 64, 0, 1), (64, .iadd, 65, 0, 0), (65, .iload_n 2, 66, 0, 0), (66, .iastore, 67, 0, 0), (67, .aload_n 0, 68, 0, 0), (68, .getfield 44, 71, 0, 0), (71, .iconst 3, 72, 0, 3), (72, .aload_n 0, 73, 0, 0), (73, .getfield 208, 76, 0, 0), (76, .imul, 77, 0, 0), (77, .iconst 2, 78, 0, 2), (78, .iadd, 79, 0, 0), (79, .iload_n 3, 80, 0, 0), (80, .iastore, 81, 0, 0), (81, .aload_n 0, 82, 0, 0), (82, .dup, 83, 0, 0), (83, .getfield 208, 86, 0, 0), (86, .iconst 1, 87, 0, 1), (87, .iadd, 88, 0, 0), (88, .putfield 208, 91, 0, 0), (91, .aload_n 0, 92, 0, 0), (92, .getfield 208, 95, 0, 0), (95, .ireturn, 96, 0, 0)]
def sy_m137 : sy_MI := (sy_c137, cX8_book, 4, some .int, 8, false, 3, yX8_book)
def sy_c138 : List sy_En := [(0, .aload_n 0, 1, 0, 0), (1, .getfield 208, 4, 0, 0), (4, .istore_n 1, 5, 0, 0), (5, .aload_n 0, 6, 0, 0), (6, .iconst 0, 7, 0, 0), (7, .putfield 208, 10, 0, 0), (10, .iload_n 1, 11, 0, 0), (11, .ireturn, 12, 0, 0)]
def sy_m138 : sy_MI := (sy_c138, cX8_forget, 2, some .int, 8, false, 0, yX8_forget)
def sy_c139 : List sy_En := [(0, .iconst 0, 1, 0, 0), (1, .istore_n 2, 2, 0, 0), (2, .iload_n 2, 3, 0, 0), (3, .aload_n 0, 4, 0, 0), (4, .getfield 208, 7, 0, 0), (7, .if_icmp .ge 98, 10, 105, 0), (10, .aload_n 0, 11, 0, 0), (11, .aload_n 0, 12, 0, 0), (12, .getfield 44, 15, 0, 0), (15, .iconst 3, 16, 0, 3), (16, .iload_n 2, 17, 0, 0), (17, .imul, 18, 0, 0), (18, .iconst 1, 19, 0, 1), (19, .iadd, 20, 0, 0), (20, .iaload, 21, 0, 0), (21, .iconst (-1), 22, 0, (-1)), (22, .invokevirtual 169, 25, 0, 0), (25, .aload_n 0, 26, 0, 0), (26, .getfield 47, 29, 0, 0), (29, .iload_n 2, 30, 0, 0), (30, .iconst 0, 31, 0, 0), (31, .iastore, 32, 0, 0), (32, .iconst 0, 33, 0, 0), (33, .istore_n 3, 34, 0, 0), (34, .iload_n 3, 35, 0, 0), (35, .aload_n 0, 36, 0, 0), (36, .getfield 99, 39, 0, 0), (39, .if_icmp .ge 60, 42, 99, 0), (42, .aload_n 0, 43, 0, 0), (43, .getfield 47, 46, 0, 0), (46, .iload_n 2, 47, 0, 0), (47, .dup2, 48, 0, 0), (48, .iaload, 49, 0, 0), (49, .aload_n 0, 50, 0, 0), (50, .getfield 35, 53, 0, 0), (53, .iload_n 3, 54, 0, 0), (54, .iaload, 55, 0, 0), (55, .aload_n 0, 56, 0, 0), (56, .getfield 44, 59, 0, 0), (59, .iconst 3, 60, 0, 3), (60, .iload_n 2, 61, 0, 0), (61, .imul, 62, 0, 0), (62, .iaload, 63, 0, 0), (63, .if_icmp .ne 27, 66, 90, 0), (66, .aload_n 0, 67, 0, 0), (67, .iload_n 3, 68, 0, 0), (68, .aload_n 0, 69, 0, 0), (69, .getfield 44, 72, 0, 0), (72, .iconst 3, 73, 0, 3), (73, .iload_n 2, 74, 0, 0), (74, .imul, 75, 0, 0), (75, .iconst 1, 76, 0, 1), (76, .iadd, 77, 0, 0), (77, .iaload, 78, 0, 0), (78, .invokevirtual 173, 81, 0, 0), (81, .ifCond .le 9, 84, 90, 0), (84, .iconst 1, 85, 0, 1), (85, .iload_n 3, 86, 0, 0), (86, .ishl, 87, 0, 0), (87, .goto 4, 90, 91, 0), (90, .iconst 0, 91, 0, 0), (91, .ior, 92, 0, 0), (92, .iastore, 93, 0, 0), (93, .iinc 3 1, 96, 0, 1), (96, .goto (-62), 99, 34, 0), (99, .iinc 2 1, 102, 0, 1), (102, .goto (-100), 105, 2, 0), (105, .iconst 1, 106, 0, 1), (106, .aload_n 0, 107, 0, 0), (107, .getfield 99, 110, 0, 0), (110, .ishl, 111, 0, 0), (111, .iconst 1, 112, 0, 1), (112, .isub, 113, 0, 0), (113, .istore_n 2, 114, 0, 0), (114, .iconst 0, 115, 0, 0), (115, .istore_n 3, 116, 0, 0), (116, .iconst (-1), 117, 0, (-1)), (117, .istore 4, 119, 0, 0), (119, .iload_n 2, 120, 0, 0), (120, .istore 5, 122, 0, 0), (122, .iload_n 2, 123, 0, 0), (123, .istore 6, 125, 0, 0), (125, .iconst 0, 126, 0, 0), (126, .istore 7, 128, 0, 0), (128, .iload 7, 130, 0, 0), (130, .iload_n 2, 131, 0, 0), (131, .if_icmp .gt 114, 134, 245, 0), (134, .iconst 1, 135, 0, 1), (135, .istore 8, 137, 0, 0), (137, .iconst 0, 138, 0, 0), (138, .istore 9, 140, 0, 0), (140, .iload 9, 142, 0, 0), (142, .aload_n 0, 143, 0, 0), (143, .getfield 208, 146, 0, 0), (146, .if_icmp .ge 54, 149, 200, 0), (149, .iload 8, 151, 0, 0), (151, .ifCond .eq 40, 154, 191, 0), (154, .iconst 1, 155, 0, 1), (155, .iconst 2, 156, 0, 2), (156, .aload_n 0, 157, 0, 0), (157, .getfield 47, 160, 0, 0), (160, .iload 9, 162, 0, 0), (162, .iaload, 163, 0, 0), (163, .iload 7, 165, 0, 0), (165, .iconst (-1), 166, 0, (-1)), (166, .ixor, 167, 0, 0), (167, .iand, 168, 0, 0), (168, .invokestatic 211, 171, 0, 0), (171, .imul, 172, 0, 0), (172, .iadd, 173, 0, 0), (173, .aload_n 0, 174, 0, 0), (174, .getfield 44, 177, 0, 0), (177, .iconst 3, 178, 0, 3), (178, .iload 9, 180, 0, 0), (180, .imul, 181, 0, 0), (181, .iconst 2, 182, 0, 2), (182, .iadd, 183, 0, 0), (183, .iaload, 184, 0, 0), (184, .if_icmp .ne 7, 187, 191, 0), (187, .iconst 1, 188, 0, 1), (188, .goto 4, 191, 192, 0), (191, .iconst 0, 192, 0, 0), (192, .istore 8, 194, 0, 0), (194, .iinc 9 1, 197, 0, 1), (197, .goto (-57), 200, 140, 0), (200, .iload 8, 202, 0, 0), (202, .ifCond .eq 37, 205, 239, 0), (205, .iinc 3 1, 208, 0, 1), (208, .iload 4, 210, 0, 0), (210, .iconst (-1), 211, 0, (-1)), (211, .if_icmp .ne 8, 214, 219, 0), (214, .iload 7, 216, 0, 0), (216, .goto 5, 219, 221, 0), (219, .iload 4, 221, 0, 0), (221, .istore 4, 223, 0, 0), (223, .iload 5, 225, 0, 0), (225, .iload 7, 227, 0, 0), (227, .iand, 228, 0, 0), (228, .istore 5, 230, 0, 0), (230, .iload 6, 232, 0, 0), (232, .iload 7, 234, 0, 0), (234, .iconst (-1), 235, 0, (-1)), (235, .ixor, 236, 0, 0), (236, .iand, 237, 0, 0), (237, .istore 6, 239, 0, 0), (239, .iinc 7 1, 242, 0, 1), (242, .goto (-114), 245, 128, 0), (245, .iload_n 1, 246, 0, 0), (246, .ifCond .ne 5, 249, 251, 0), (249, .iload_n 3, 250, 0, 0), (250, .ireturn, 251, 0, 0), (251, .iload_n 3, 252, 0, 0), (252, .ifCond .ne 7, 255, 259, 0), (255, .iconst (-1), 256, 0, (-1)), (256, .goto 25, 259, 281, 0), (259, .iload_n 1, 260, 0, 0), (260, .iconst 1, 261, 0, 1), (261, .if_icmp .ne 8, 264, 269, 0), (264, .iload 4, 266, 0, 0), (266, .goto 15, 269, 281, 0), (269, .iload_n 1, 270, 0, 0), (270, .iconst 2, 271, 0, 2), (271, .if_icmp .ne 8, 274, 279, 0), (274, .iload 5, 276, 0, 0), (276, .goto 5, 279, 281, 0), (279, .iload 6, 281, 0, 0), (281, .ireturn, 282, 0, 0)]
def sy_m139 : sy_MI := (sy_c139, cX8_fittingOf, 10, some .int, 8, false, 1, yX8_fittingOf)
def sy_c140 : List sy_En := [(0, .aload_n 0, 1, 0, 0), (1, .invokevirtual 115, 4, 0, 0), (4, .pop, 5, 0, 0), (5, .iload_n 1, 6, 0, 0), (6, .i2l, 7, 0, 0), (7, .lconst 0, 8, 0, 0), (8, .ldc2_w 68, 11, 0, 0), (11, .invokestatic 61, 14, 0, 0), (14, .ifCond .eq 11, 17, 25, 0), (17, .aload_n 0, 18, 0, 0), (18, .iload_n 1, 19, 0, 0), (19, .invokevirtual 214, 22, 0, 0), (22, .goto 5, 25, 27, 0), (25, .bipush (-2), 27, 0, (-2)), (27, .ireturn, 28, 0, 0)]
def sy_m140 : sy_MI := (sy_c140, cX8_fitting, 2, some .int, 8, false, 1, yX8_fitting)
def sy_c141 : List sy_En := [(0, .iconst 0, 1, 0, 0), (1, .istore_n 2, 2, 0, 0), (2, .iload_n 2, 3, 0, 0), (3, .aload_n 0, 4, 0, 0), (4, .getfield 99, 7, 0, 0), (7, .if_icmp .ge 57, 10, 64, 0), (10, .aload_n 0, 11, 0, 0), (11, .getfield 35, 14, 0, 0), (14, .bipush 9, 16, 0, 9), (16, .iload_n 1, 17, 0, 0), (17, .iconst 1, 18, 0, 1), (18, .iadd, 19, 0, 0), (19, .imul, 20, 0, 0), (20, .iload_n 2, 21, 0, 0), (21, .iadd, 22, 0, 0), (22, .aload_n 0, 23, 0, 0), (23, .getfield 35, 26, 0, 0), (26, .bipush 9, 28, 0, 9), (28, .iload_n 1, 29, 0, 0), (29, .imul, 30, 0, 0), (30, .iload_n 2, 31, 0, 0), (31, .iadd, 32, 0, 0), (32, .iaload, 33, 0, 0), (33, .iastore, 34, 0, 0), (34, .aload_n 0, 35, 0, 0), (35, .getfield 38, 38, 0, 0), (38, .bipush 9, 40, 0, 9), (40, .iload_n 1, 41, 0, 0), (41, .iconst 1, 42, 0, 1), (42, .iadd, 43, 0, 0), (43, .imul, 44, 0, 0), (44, .iload_n 2, 45, 0, 0), (45, .iadd, 46, 0, 0), (46, .aload_n 0, 47, 0, 0), (47, .getfield 38, 50, 0, 0), (50, .bipush 9, 52, 0, 9), (52, .iload_n 1, 53, 0, 0), (53, .imul, 54, 0, 0), (54, .iload_n 2, 55, 0, 0), (55, .iadd, 56, 0, 0), (56, .iaload, 57, 0, 0), (57, .iastore, 58, 0, 0), (58, .iinc 2 1, 61, 0, 1), (61, .goto (-59), 64, 2, 0), (64, .return_, 65, 0, 0)]
def sy_m141 : sy_MI := (sy_c141, cX8_copies, 3, none, 8, false, 1, yX8_copies)
def sy_c142 : List sy_En := [(0, .iconst 0, 1, 0, 0), (1, .istore_n 3, 2, 0, 0), (2, .iconst 0, 3, 0, 0), (3, .istore 4, 5, 0, 0), (5, .iload 4, 7, 0, 0), (7, .aload_n 0, 8, 0, 0), (8, .getfield 99, 11, 0, 0), (11, .if_icmp .ge 101, 14, 112, 0), (14, .aload_n 0, 15, 0, 0), (15, .getfield 38, 18, 0, 0), (18, .bipush 9, 20, 0, 9), (20, .iload_n 1, 21, 0, 0), (21, .imul, 22, 0, 0), (22, .iload 4, 24, 0, 0), (24, .iadd, 25, 0, 0), (25, .iaload, 26, 0, 0), (26, .istore 5, 28, 0, 0), (28, .aload_n 0, 29, 0, 0), (29, .getfield 102, 32, 0, 0), (32, .iload 4, 34, 0, 0), (34, .ishr, 35, 0, 0), (35, .iconst 1, 36, 0, 1), (36, .iand, 37, 0, 0), (37, .ifCond .ne 24, 40, 61, 0), (40, .iload 5, 42, 0, 0), (42, .iconst (-1), 43, 0, (-1)), (43, .if_icmp .eq 18, 46, 61, 0), (46, .iload 5, 48, 0, 0), (48, .aload_n 0, 49, 0, 0), (49, .getfield 28, 52, 0, 0), (52, .iadd, 53, 0, 0), (53, .iload_n 2, 54, 0, 0), (54, .if_icmp .le 7, 57, 61, 0), (57, .iconst 1, 58, 0, 1), (58, .goto 4, 61, 62, 0), (61, .iconst 0, 62, 0, 0), (62, .istore 6, 64, 0, 0), (64, .iload_n 3, 65, 0, 0), (65, .iload 6, 67, 0, 0), (67, .ifCond .eq 36, 70, 103, 0), (70, .aload_n 0, 71, 0, 0), (71, .getfield 35, 74, 0, 0), (74, .bipush 9, 76, 0, 9), (76, .iload_n 1, 77, 0, 0), (77, .imul, 78, 0, 0), (78, .iload 4, 80, 0, 0), (80, .iadd, 81, 0, 0), (81, .iaload, 82, 0, 0), (82, .iconst (-1), 83, 0, (-1)), (83, .if_icmp .eq 20, 86, 103, 0), (86, .iconst 1, 87, 0, 1), (87, .aload_n 0, 88, 0, 0), (88, .getfield 35, 91, 0, 0), (91, .bipush 9, 93, 0, 9), (93, .iload_n 1, 94, 0, 0), (94, .imul, 95, 0, 0), (95, .iload 4, 97, 0, 0), (97, .iadd, 98, 0, 0), (98, .iaload, 99, 0, 0), (99, .ishl, 100, 0, 0), (100, .goto 4, 103, 104, 0), (103, .iconst 0, 104, 0, 0), (104, .ior, 105, 0, 0), (105, .istore_n 3, 106, 0, 0), (106, .iinc 4 1, 109, 0, 1), (109, .goto (-104), 112, 5, 0), (112, .iload_n 3, 113, 0, 0), (113, .invokestatic 211, 116, 0, 0), (116, .ireturn, 117, 0, 0)]
def sy_m142 : sy_MI := (sy_c142, cX8_lucky, 7, some .int, 8, false, 2, yX8_lucky)
def sy_c143 : List sy_En := [(0, .iload_n 2, 1, 0, 0), (1, .bipush 8, 3, 0, 8), (3, .idiv, 4, 0, 0), (4, .istore_n 3, 5, 0, 0), (5, .iload_n 2, 6, 0, 0), (6, .iconst (-1), 7, 0, (-1)), (7, .if_icmp .eq 44, 10, 51, 0), (10, .iload_n 3, 11, 0, 0), (11, .aload_n 0, 12, 0, 0), (12, .getfield 99, 15, 0, 0), (15, .if_icmp .ge 40, 18, 55, 0), (18, .aload_n 0, 19, 0, 0), (19, .getfield 35, 22, 0, 0), (22, .bipush 9, 24, 0, 9), (24, .iload_n 1, 25, 0, 0), (25, .imul, 26, 0, 0), (26, .iload_n 3, 27, 0, 0), (27, .iadd, 28, 0, 0), (28, .iaload, 29, 0, 0), (29, .iconst (-1), 30, 0, (-1)), (30, .if_icmp .eq 25, 33, 55, 0), (33, .aload_n 0, 34, 0, 0), (34, .getfield 35, 37, 0, 0), (37, .bipush 9, 39, 0, 9), (39, .iload_n 1, 40, 0, 0), (40, .imul, 41, 0, 0), (41, .iload_n 3, 42, 0, 0), (42, .iadd, 43, 0, 0), (43, .iaload, 44, 0, 0), (44, .iload_n 2, 45, 0, 0), (45, .bipush 8, 47, 0, 8), (47, .irem, 48, 0, 0), (48, .if_icmp .eq 7, 51, 55, 0), (51, .iconst 1, 52, 0, 1), (52, .goto 4, 55, 56, 0), (55, .iconst 0, 56, 0, 0), (56, .ireturn, 57, 0, 0)]
def sy_m143 : sy_MI := (sy_c143, cX8_mayPick, 4, some .boolean, 8, false, 2, yX8_mayPick)
def sy_c144 : List sy_En := [(0, .aload_n 0, 1, 0, 0), (1, .sipush 199, 4, 0, 199), (4, .iconst (-1), 5, 0, (-1)), (5, .invokevirtual 169, 8, 0, 0), (8, .iconst (-1), 9, 0, (-1)), (9, .istore 4, 11, 0, 0), (11, .iconst (-1), 12, 0, (-1)), (12, .istore 5, 14, 0, 0), (14, .iconst 0, 15, 0, 0), (15, .istore 6, 17, 0, 0), (17, .aload_n 0, 18, 0, 0), (18, .getfield 50, 21, 0, 0), (21, .iconst 0, 22, 0, 0), (22, .bipush (-2), 24, 0, (-2)), (24, .iastore, 25, 0, 0), (25, .aload_n 0, 26, 0, 0), (26, .getfield 53, 29, 0, 0), (29, .iconst 0, 30, 0, 0), (30, .iconst 0, 31, 0, 0), (31, .iastore, 32, 0, 0), (32, .iload 6, 34, 0, 0), (34, .ifCond .lt 244, 37, 278, 0), (37, .aload_n 0, 38, 0, 0), (38, .getfield 50, 41, 0, 0), (41, .iload 6, 43, 0, 0), (43, .dup2, 44, 0, 0), (44, .iaload, 45, 0, 0), (45, .iconst 1, 46, 0, 1), (46, .iadd, 47, 0, 0), (47, .iastore, 48, 0, 0), (48, .aload_n 0, 49, 0, 0), (49, .getfield 50, 52, 0, 0), (52, .iload 6, 54, 0, 0), (54, .iaload, 55, 0, 0), (55, .bipush 72, 57, 0, 72), (57, .if_icmp .ge 33, 60, 90, 0), (60, .aload_n 0, 61, 0, 0), (61, .iload 6, 63, 0, 0), (63, .aload_n 0, 64, 0, 0), (64, .getfield 50, 67, 0, 0), (67, .iload 6, 69, 0, 0), (69, .iaload, 70, 0, 0), (70, .invokevirtual 217, 73, 0, 0), (73, .ifCond .ne 17, 76, 90, 0), (76, .aload_n 0, 77, 0, 0), (77, .getfield 50, 80, 0, 0), (80, .iload 6, 82, 0, 0), (82, .dup2, 83, 0, 0), (83, .iaload, 84, 0, 0), (84, .iconst 1, 85, 0, 1), (85, .iadd, 86, 0, 0), (86, .iastore, 87, 0, 0), (87, .goto (-39), 90, 48, 0), (90, .aload_n 0, 91, 0, 0), (91, .getfield 50, 94, 0, 0), (94, .iload 6, 96, 0, 0), (96, .iaload, 97, 0, 0), (97, .bipush 72, 99, 0, 72), (99, .if_icmp .ne 9, 102, 108, 0), (102, .iinc 6 (-1), 105, 0, (-1)), (105, .goto (-73), 108, 32, 0), (108, .aload_n 0, 109, 0, 0), (109, .iload 6, 111, 0, 0), (111, .invokevirtual 220, 114, 0, 0), (114, .aload_n 0, 115, 0, 0), (115, .getfield 50, 118, 0, 0), (118, .iload 6, 120, 0, 0), (120, .iaload, 121, 0, 0), (121, .iconst (-1), 122, 0, (-1)), (122, .if_icmp .eq 63, 125, 185, 0), (125, .aload_n 0, 126, 0, 0), (126, .getfield 35, 129, 0, 0), (129, .bipush 9, 131, 0, 9), (131, .iload 6, 133, 0, 0), (133, .iconst 1, 134, 0, 1), (134, .iadd, 135, 0, 0), (135, .imul, 136, 0, 0), (136, .aload_n 0, 137, 0, 0), (137, .getfield 50, 140, 0, 0), (140, .iload 6, 142, 0, 0), (142, .iaload, 143, 0, 0), (143, .bipush 8, 145, 0, 8), (145, .idiv, 146, 0, 0), (146, .iadd, 147, 0, 0), (147, .aload_n 0, 148, 0, 0), (148, .getfield 50, 151, 0, 0), (151, .iload 6, 153, 0, 0), (153, .iaload, 154, 0, 0), (154, .bipush 8, 156, 0, 8), (156, .irem, 157, 0, 0), (157, .iastore, 158, 0, 0), (158, .aload_n 0, 159, 0, 0), (159, .getfield 38, 162, 0, 0), (162, .bipush 9, 164, 0, 9), (164, .iload 6, 166, 0, 0), (166, .iconst 1, 167, 0, 1), (167, .iadd, 168, 0, 0), (168, .imul, 169, 0, 0), (169, .aload_n 0, 170, 0, 0), (170, .getfield 50, 173, 0, 0), (173, .iload 6, 175, 0, 0), (175, .iaload, 176, 0, 0), (176, .bipush 8, 178, 0, 8), (178, .idiv, 179, 0, 0), (179, .iadd, 180, 0, 0), (180, .iload_n 1, 181, 0, 0), (181, .iload 6, 183, 0, 0), (183, .iadd, 184, 0, 0), (184, .iastore, 185, 0, 0), (185, .aload_n 0, 186, 0, 0), (186, .getfield 53, 189, 0, 0), (189, .iload 6, 191, 0, 0), (191, .iaload, 192, 0, 0), (192, .aload_n 0, 193, 0, 0), (193, .iload 6, 195, 0, 0), (195, .iconst 1, 196, 0, 1), (196, .iadd, 197, 0, 0), (197, .iload_n 1, 198, 0, 0), (198, .iload 6, 200, 0, 0), (200, .iadd, 201, 0, 0), (201, .invokevirtual 223, 204, 0, 0), (204, .iadd, 205, 0, 0), (205, .istore 7, 207, 0, 0), (207, .iload 6, 209, 0, 0), (209, .iconst 1, 210, 0, 1), (210, .iadd, 211, 0, 0), (211, .iload_n 2, 212, 0, 0), (212, .if_icmp .ne 42, 215, 254, 0), (215, .iload 7, 217, 0, 0), (217, .iload 4, 219, 0, 0), (219, .if_icmp .le 12, 222, 231, 0), (222, .aload_n 0, 223, 0, 0), (223, .getfield 50, 226, 0, 0), (226, .iconst 0, 227, 0, 0), (227, .iaload, 228, 0, 0), (228, .goto 5, 231, 233, 0), (231, .iload 5, 233, 0, 0), (233, .istore 5, 235, 0, 0), (235, .iload 7, 237, 0, 0), (237, .iload 4, 239, 0, 0), (239, .if_icmp .le 8, 242, 247, 0), (242, .iload 7, 244, 0, 0), (244, .goto 5, 247, 249, 0), (247, .iload 4, 249, 0, 0), (249, .istore 4, 251, 0, 0), (251, .goto 24, 254, 275, 0), (254, .iinc 6 1, 257, 0, 1), (257, .aload_n 0, 258, 0, 0), (258, .getfield 50, 261, 0, 0), (261, .iload 6, 263, 0, 0), (263, .bipush (-2), 265, 0, (-2)), (265, .iastore, 266, 0, 0), (266, .aload_n 0, 267, 0, 0), (267, .getfield 53, 270, 0, 0), (270, .iload 6, 272, 0, 0), (272, .iload 7, 274, 0, 0), (274, .iastore, 275, 0, 0), (275, .goto (-243), 278, 32, 0), (278, .iload_n 3, 279, 0, 0), (279, .ifCond .ne 8, 282, 287, 0), (282, .iload 4, 284, 0, 0), (284, .goto 5, 287, 289, 0), (287, .iload 5, 289, 0, 0), (289, .ireturn, 290, 0, 0)]
def sy_m144 : sy_MI := (sy_c144, cX8_letsOf, 8, some .int, 8, false, 3, yX8_letsOf)
def sy_c145 : List sy_En := [(0, .aload_n 0, 1, 0, 0), (1, .invokevirtual 115, 4, 0, 0), (4, .pop, 5, 0, 0), (5, .aload_n 0, 6, 0, 0), (6, .iload_n 1, 7, 0, 0), (7, .invokevirtual 136, 10, 0, 0), (10, .ifCond .eq 32, 13, 42, 0), (13, .iload_n 2, 14, 0, 0), (14, .i2l, 15, 0, 0), (15, .lconst 1, 16, 0, 0), (16, .ldc2_w 68, 19, 0, 0), (19, .invokestatic 61, 22, 0, 0), (22, .ifCond .eq 20, 25, 42, 0), (25, .iload_n 3, 26, 0, 0), (26, .invokestatic 121, 29, 0, 0), (29, .ifCond .eq 13, 32, 42, 0), (32, .aload_n 0, 33, 0, 0), (33, .iload_n 1, 34, 0, 0), (34, .iload_n 2, 35, 0, 0), (35, .iload_n 3, 36, 0, 0), (36, .invokevirtual 226, 39, 0, 0), (39, .goto 5, 42, 44, 0), (42, .bipush (-2), 44, 0, (-2)), (44, .ireturn, 45, 0, 0)]
def sy_m145 : sy_MI := (sy_c145, cX8_lets, 4, some .int, 8, false, 3, yX8_lets)
def sy_c146 : List sy_En := [(0, .iconst 0, 1, 0, 0), (1, .istore 4, 3, 0, 0), (3, .iconst 0, 4, 0, 0), (4, .istore 5, 6, 0, 0), (6, .iload 5, 8, 0, 0), (8, .iload_n 2, 9, 0, 0), (9, .if_icmp .ge 48, 12, 57, 0), (12, .iload 5, 14, 0, 0), (14, .iload_n 1, 15, 0, 0), (15, .irem, 16, 0, 0), (16, .aload_n 0, 17, 0, 0), (17, .getfield 28, 20, 0, 0), (20, .if_icmp .ge 12, 23, 32, 0), (23, .iload 5, 25, 0, 0), (25, .iload_n 1, 26, 0, 0), (26, .idiv, 27, 0, 0), (27, .iconst 2, 28, 0, 2), (28, .irem, 29, 0, 0), (29, .goto 4, 32, 33, 0), (32, .iconst 2, 33, 0, 2), (33, .istore 6, 35, 0, 0), (35, .iload 4, 37, 0, 0), (37, .iload 6, 39, 0, 0), (39, .iload_n 3, 40, 0, 0), (40, .if_icmp .ne 7, 43, 47, 0), (43, .iconst 1, 44, 0, 1), (44, .goto 4, 47, 48, 0), (47, .iconst 0, 48, 0, 0), (48, .iadd, 49, 0, 0), (49, .istore 4, 51, 0, 0), (51, .iinc 5 1, 54, 0, 1), (54, .goto (-48), 57, 6, 0), (57, .iload 4, 59, 0, 0), (59, .ireturn, 60, 0, 0)]
def sy_m146 : sy_MI := (sy_c146, cX8_robsOf, 7, some .int, 8, false, 3, yX8_robsOf)
def sy_c147 : List sy_En := [(0, .iload_n 1, 1, 0, 0), (1, .i2l, 2, 0, 0), (2, .lconst 1, 3, 0, 0), (3, .ldc2_w 229, 6, 0, 0), (6, .invokestatic 61, 9, 0, 0), (9, .ifCond .eq 37, 12, 46, 0), (12, .iload_n 2, 13, 0, 0), (13, .i2l, 14, 0, 0), (14, .lconst 1, 15, 0, 0), (15, .ldc2_w 231, 18, 0, 0), (18, .invokestatic 61, 21, 0, 0), (21, .ifCond .eq 25, 24, 46, 0), (24, .iload_n 3, 25, 0, 0), (25, .i2l, 26, 0, 0), (26, .lconst 0, 27, 0, 0), (27, .ldc2_w 74, 30, 0, 0), (30, .invokestatic 61, 33, 0, 0), (33, .ifCond .eq 13, 36, 46, 0), (36, .aload_n 0, 37, 0, 0), (37, .iload_n 1, 38, 0, 0), (38, .iload_n 2, 39, 0, 0), (39, .iload_n 3, 40, 0, 0), (40, .invokevirtual 233, 43, 0, 0), (43, .goto 5, 46, 48, 0), (46, .bipush (-2), 48, 0, (-2)), (48, .ireturn, 49, 0, 0)]
def sy_m147 : sy_MI := (sy_c147, cX8_robs, 4, some .int, 8, false, 3, yX8_robs)
def sy_c148 : List sy_En := [(0, .iload_n 1, 1, 0, 0), (1, .invokestatic 109, 4, 0, 0), (4, .ifCond .eq 15, 7, 19, 0), (7, .iload_n 2, 8, 0, 0), (8, .i2l, 9, 0, 0), (9, .lconst 0, 10, 0, 0), (10, .ldc2_w 236, 13, 0, 0), (13, .invokestatic 61, 16, 0, 0), (16, .ifCond .ne 6, 19, 22, 0), (19, .bipush (-2), 21, 0, (-2)), (21, .ireturn, 22, 0, 0), (22, .aload_n 0, 23, 0, 0), (23, .getfield 56, 26, 0, 0), (26, .iload_n 1, 27, 0, 0), (27, .iaload, 28, 0, 0), (28, .istore_n 3, 29, 0, 0), (29, .aload_n 0, 30, 0, 0), (30, .getfield 56, 33, 0, 0), (33, .iload_n 1, 34, 0, 0), (34, .iload_n 2, 35, 0, 0), (35, .iastore, 36, 0, 0), (36, .iload_n 3, 37, 0, 0), (37, .ireturn, 38, 0, 0)]
def sy_m148 : sy_MI := (sy_c148, cX8_guard, 4, some .int, 8, false, 2, yX8_guard)
def sy_c149 : List sy_En := [(0, .lconst 1, 1, 0, 0), (1, .lstore_n 3, 2, 0, 0), (2, .iconst 0, 3, 0, 0), (3, .istore 5, 5, 0, 0), (5, .iload 5, 7, 0, 0), (7, .iload_n 2, 8, 0, 0), (8, .if_icmp .ge 13, 11, 21, 0), (11, .lload_n 3, 12, 0, 0), (12, .lload_n 0, 13, 0, 0), (13, .lmul, 14, 0, 0), (14, .lstore_n 3, 15, 0, 0), (15, .iinc 5 1, 18, 0, 1), (18, .goto (-13), 21, 5, 0), (21, .lload_n 3, 22, 0, 0), (22, .lreturn, 23, 0, 0)]
def sy_m149 : sy_MI := (sy_c149, cX8_power, 6, some .long, 8, true, 2, yX8_power)
def sy_c150 : List sy_En := [(0, .lload_n 0, 1, 0, 0), (1, .lstore 5, 3, 0, 0), (3, .lload_n 2, 4, 0, 0), (4, .lstore 7, 6, 0, 0), (6, .lload 7, 8, 0, 0), (8, .lconst 0, 9, 0, 0), (9, .lcmp, 10, 0, 0), (10, .ifCond .eq 21, 13, 31, 0), (13, .lload 5, 15, 0, 0), (15, .lload 7, 17, 0, 0), (17, .lrem, 18, 0, 0), (18, .lstore 9, 20, 0, 0), (20, .lload 7, 22, 0, 0), (22, .lstore 5, 24, 0, 0), (24, .lload 9, 26, 0, 0), (26, .lstore 7, 28, 0, 0), (28, .goto (-22), 31, 6, 0), (31, .iload 4, 33, 0, 0), (33, .ifCond .ne 7, 36, 40, 0), (36, .lload_n 0, 37, 0, 0), (37, .goto 4, 40, 41, 0), (40, .lload_n 2, 41, 0, 0), (41, .lload 5, 43, 0, 0), (43, .ldiv, 44, 0, 0), (44, .lreturn, 45, 0, 0)]
def sy_m150 : sy_MI := (sy_c150, cX8_part, 11, some .long, 8, true, 3, yX8_part)
def sy_c151 : List sy_En := [(0, .ldc2_w 236, 3, 0, 0), (3, .iload_n 2, 4, 0, 0), (4, .invokestatic 238, 7, 0, 0), (7, .lstore 4, 9, 0, 0), (9, .lload 4, 11, 0, 0), (11, .aload_n 0, 12, 0, 0), (12, .getfield 56, 15, 0, 0), (15, .iload_n 1, 16, 0, 0), (16, .iaload, 17, 0, 0), (17, .i2l, 18, 0, 0), (18, .iload_n 2, 19, 0, 0), (19, .invokestatic 238, 22, 0, 0), (22, .lsub, 23, 0, 0), (23, .lload 4, 25, 0, 0), (25, .iload_n 3, 26, 0, 0), (26, .invokestatic 242, 29, 0, 0), (29, .lreturn, 30, 0, 0)]
def sy_m151 : sy_MI := (sy_c151, cX8_chanceOf, 6, some .long, 8, false, 3, yX8_chanceOf)
def sy_c152 : List sy_En := [(0, .iload_n 1, 1, 0, 0), (1, .invokestatic 109, 4, 0, 0), (4, .ifCond .eq 32, 7, 36, 0), (7, .iload_n 2, 8, 0, 0), (8, .i2l, 9, 0, 0), (9, .lconst 0, 10, 0, 0), (10, .ldc2_w 246, 13, 0, 0), (13, .invokestatic 61, 16, 0, 0), (16, .ifCond .eq 20, 19, 36, 0), (19, .iload_n 3, 20, 0, 0), (20, .invokestatic 121, 23, 0, 0), (23, .ifCond .eq 13, 26, 36, 0), (26, .aload_n 0, 27, 0, 0), (27, .iload_n 1, 28, 0, 0), (28, .iload_n 2, 29, 0, 0), (29, .iload_n 3, 30, 0, 0), (30, .invokevirtual 248, 33, 0, 0), (33, .goto 8, 36, 41, 0), (36, .bipush (-2), 38, 0, (-2)), (38, .invokestatic 252, 41, 0, 0), (41, .lreturn, 42, 0, 0)]
def sy_m152 : sy_MI := (sy_c152, cX8_chance, 4, some .long, 8, false, 3, yX8_chance)
def sy_c153 : List sy_En := [(0, .aload_n 0, 1, 0, 0), (1, .getfield 56, 4, 0, 0), (4, .iload_n 1, 5, 0, 0), (5, .iaload, 6, 0, 0), (6, .bipush 16, 8, 0, 16), (8, .if_icmp .ne 11, 11, 19, 0), (11, .bipush (-3), 13, 0, (-3)), (13, .invokestatic 252, 16, 0, 0), (16, .goto 21, 19, 37, 0), (19, .ldc2_w 236, 22, 0, 0), (22, .ldc2_w 236, 25, 0, 0), (25, .aload_n 0, 26, 0, 0), (26, .getfield 56, 29, 0, 0), (29, .iload_n 1, 30, 0, 0), (30, .iaload, 31, 0, 0), (31, .i2l, 32, 0, 0), (32, .lsub, 33, 0, 0), (33, .iload_n 2, 34, 0, 0), (34, .invokestatic 242, 37, 0, 0), (37, .lreturn, 38, 0, 0)]
def sy_m153 : sy_MI := (sy_c153, cX8_waitsOf, 3, some .long, 8, false, 2, yX8_waitsOf)
def sy_c154 : List sy_En := [(0, .iload_n 1, 1, 0, 0), (1, .invokestatic 109, 4, 0, 0), (4, .ifCond .eq 19, 7, 23, 0), (7, .iload_n 2, 8, 0, 0), (8, .invokestatic 121, 11, 0, 0), (11, .ifCond .eq 12, 14, 23, 0), (14, .aload_n 0, 15, 0, 0), (15, .iload_n 1, 16, 0, 0), (16, .iload_n 2, 17, 0, 0), (17, .invokevirtual 256, 20, 0, 0), (20, .goto 8, 23, 28, 0), (23, .bipush (-2), 25, 0, (-2)), (25, .invokestatic 252, 28, 0, 0), (28, .lreturn, 29, 0, 0)]
def sy_m154 : sy_MI := (sy_c154, cX8_waits, 3, some .long, 8, false, 2, yX8_waits)
def sy_c155 : List sy_En := [(0, .ldc2_w 236, 3, 0, 0), (3, .iload_n 0, 4, 0, 0), (4, .invokestatic 238, 7, 0, 0), (7, .lstore_n 2, 8, 0, 0), (8, .iconst 0, 9, 0, 0), (9, .istore 4, 11, 0, 0), (11, .lload_n 2, 12, 0, 0), (12, .iload 4, 14, 0, 0), (14, .i2l, 15, 0, 0), (15, .iload_n 0, 16, 0, 0), (16, .invokestatic 238, 19, 0, 0), (19, .lsub, 20, 0, 0), (20, .ldc2_w 260, 23, 0, 0), (23, .lmul, 24, 0, 0), (24, .iload_n 1, 25, 0, 0), (25, .i2l, 26, 0, 0), (26, .lload_n 2, 27, 0, 0), (27, .lmul, 28, 0, 0), (28, .lcmp, 29, 0, 0), (29, .ifCond .le 9, 32, 38, 0), (32, .iinc 4 1, 35, 0, 1), (35, .goto (-24), 38, 11, 0), (38, .iload 4, 40, 0, 0), (40, .ireturn, 41, 0, 0)]
def sy_m155 : sy_MI := (sy_c155, cX8_carelessOf, 5, some .int, 8, true, 2, yX8_carelessOf)
def sy_c156 : List sy_En := [(0, .iload_n 1, 1, 0, 0), (1, .i2l, 2, 0, 0), (2, .lconst 1, 3, 0, 0), (3, .ldc2_w 246, 6, 0, 0), (6, .invokestatic 61, 9, 0, 0), (9, .ifCond .eq 23, 12, 32, 0), (12, .iload_n 2, 13, 0, 0), (13, .i2l, 14, 0, 0), (14, .lconst 0, 15, 0, 0), (15, .ldc2_w 260, 18, 0, 0), (18, .invokestatic 61, 21, 0, 0), (21, .ifCond .eq 11, 24, 32, 0), (24, .iload_n 1, 25, 0, 0), (25, .iload_n 2, 26, 0, 0), (26, .invokestatic 262, 29, 0, 0), (29, .goto 5, 32, 34, 0), (32, .bipush (-2), 34, 0, (-2)), (34, .ireturn, 35, 0, 0)]
def sy_m156 : sy_MI := (sy_c156, cX8_careless, 3, some .int, 8, false, 2, yX8_careless)
def sy_c157 : List sy_En := [(0, .iload_n 2, 1, 0, 0), (1, .istore 4, 3, 0, 0), (3, .iconst 0, 4, 0, 0), (4, .istore 5, 6, 0, 0), (6, .iload 5, 8, 0, 0), (8, .iload_n 3, 9, 0, 0), (9, .if_icmp .ge 41, 12, 50, 0), (12, .ldc_w 265, 15, 0, 0), (15, .iload 4, 17, 0, 0), (17, .imul, 18, 0, 0), (18, .sipush 12345, 21, 0, 12345), (21, .iadd, 22, 0, 0), (22, .istore 4, 24, 0, 0), (24, .iload 4, 26, 0, 0), (26, .bipush 16, 28, 0, 16), (28, .iushr, 29, 0, 0), (29, .bipush 16, 31, 0, 16), (31, .irem, 32, 0, 0), (32, .aload_n 0, 33, 0, 0), (33, .getfield 56, 36, 0, 0), (36, .iload_n 1, 37, 0, 0), (37, .iaload, 38, 0, 0), (38, .if_icmp .lt 6, 41, 44, 0), (41, .iload 5, 43, 0, 0), (43, .ireturn, 44, 0, 0), (44, .iinc 5 1, 47, 0, 1), (47, .goto (-41), 50, 6, 0), (50, .iconst (-1), 51, 0, (-1)), (51, .ireturn, 52, 0, 0)]
def sy_m157 : sy_MI := (sy_c157, cX8_thiefOf, 6, some .int, 8, false, 3, yX8_thiefOf)
def sy_c158 : List sy_En := [(0, .iload_n 1, 1, 0, 0), (1, .invokestatic 109, 4, 0, 0), (4, .ifCond .eq 25, 7, 29, 0), (7, .iload_n 3, 8, 0, 0), (8, .i2l, 9, 0, 0), (9, .lconst 0, 10, 0, 0), (10, .ldc2_w 231, 13, 0, 0), (13, .invokestatic 61, 16, 0, 0), (16, .ifCond .eq 13, 19, 29, 0), (19, .aload_n 0, 20, 0, 0), (20, .iload_n 1, 21, 0, 0), (21, .iload_n 2, 22, 0, 0), (22, .iload_n 3, 23, 0, 0), (23, .invokevirtual 266, 26, 0, 0), (26, .goto 5, 29, 31, 0), (29, .bipush (-2), 31, 0, (-2)), (31, .ireturn, 32, 0, 0)]
def sy_m158 : sy_MI := (sy_c158, cX8_thief, 4, some .int, 8, false, 3, yX8_thief)
def sy_c159 : List sy_En := [(0, .iload_n 1, 1, 0, 0), (1, .invokestatic 109, 4, 0, 0), (4, .ifCond .eq 17, 7, 21, 0), (7, .iload_n 2, 8, 0, 0), (8, .invokestatic 182, 11, 0, 0), (11, .ifCond .eq 10, 14, 21, 0), (14, .iload_n 3, 15, 0, 0), (15, .invokestatic 70, 18, 0, 0), (18, .ifCond .ne 6, 21, 24, 0), (21, .bipush (-2), 23, 0, (-2)), (23, .ireturn, 24, 0, 0), (24, .aload_n 0, 25, 0, 0), (25, .getfield 7, 28, 0, 0), (28, .iload_n 3, 29, 0, 0), (29, .iaload, 30, 0, 0), (30, .ifCond .ge 9, 33, 39, 0), (33, .aload_n 0, 34, 0, 0), (34, .iconst 1, 35, 0, 1), (35, .invokevirtual 76, 38, 0, 0), (38, .ireturn, 39, 0, 0), (39, .aload_n 0, 40, 0, 0), (40, .invokevirtual 115, 43, 0, 0), (43, .pop, 44, 0, 0), (44, .aload_n 0, 45, 0, 0), (45, .getfield 13, 48, 0, 0), (48, .iload_n 3, 49, 0, 0), (49, .iaload, 50, 0, 0), (50, .sipush 300, 53, 0, 300), (53, .iload_n 2, 54, 0, 0), (54, .isub, 55, 0, 0), (55, .if_icmp .ge 12, 58, 67, 0), (58, .aload_n 0, 59, 0, 0), (59, .getfield 13, 62, 0, 0), (62, .iload_n 3, 63, 0, 0), (63, .iaload, 64, 0, 0), (64, .goto 8, 67, 72, 0), (67, .sipush 300, 70, 0, 300), (70, .iload_n 2, 71, 0, 0), (71, .isub, 72, 0, 0), (72, .istore 4, 74, 0, 0), (74, .iconst 0, 75, 0, 0), (75, .istore 5, 77, 0, 0), (77, .iload 5, 79, 0, 0), (79, .iload 4, 81, 0, 0), (81, .if_icmp .ge 40, 84, 121, 0), (84, .aload_n 0, 85, 0, 0), (85, .getfield 16, 88, 0, 0), (88, .bipush 60, 90, 0, 60), (90, .iload_n 3, 91, 0, 0), (91, .imul, 92, 0, 0), (92, .iload 5, 94, 0, 0), (94, .iadd, 95, 0, 0), (95, .aload_n 0, 96, 0, 0), (96, .getfield 7, 99, 0, 0), (99, .iload_n 3, 100, 0, 0), (100, .iaload, 101, 0, 0), (101, .aload_n 0, 102, 0, 0), (102, .iload_n 1, 103, 0, 0), (103, .iload_n 2, 104, 0, 0), (104, .iload 5, 106, 0, 0), (106, .iadd, 107, 0, 0), (107, .iconst 1, 108, 0, 1), (108, .invokevirtual 191, 111, 0, 0), (111, .invokestatic 84, 114, 0, 0), (114, .iastore, 115, 0, 0), (115, .iinc 5 1, 118, 0, 1), (118, .goto (-41), 121, 77, 0), (121, .iload 4, 123, 0, 0), (123, .ireturn, 124, 0, 0)]
def sy_m159 : sy_MI := (sy_c159, cX8_write, 6, some .int, 8, false, 3, yX8_write)
def sy_c160 : List sy_En := [(0, .aload_n 0, 1, 0, 0), (1, .invokevirtual 115, 4, 0, 0), (4, .pop, 5, 0, 0), (5, .aload_n 0, 6, 0, 0), (6, .sipush 199, 9, 0, 199), (9, .iconst (-1), 10, 0, (-1)), (10, .invokevirtual 169, 13, 0, 0), (13, .iload_n 1, 14, 0, 0), (14, .tableswitch 98 0 8 #[50, 55, 60, 65, 70, 75, 80, 85, 93], 64, 0, 0), (64, .aload_n 0, 65, 0, 0), (65, .getfield 99, 68, 0, 0), (68, .ireturn, 69, 0, 0), (69, .aload_n 0, 70, 0, 0), (70, .getfield 91, 73, 0, 0), (73, .ireturn, 74, 0, 0), (74, .aload_n 0, 75, 0, 0), (75, .getfield 129, 78, 0, 0), (78, .ireturn, 79, 0, 0), (79, .aload_n 0, 80, 0, 0), (80, .getfield 147, 83, 0, 0), (83, .ireturn, 84, 0, 0), (84, .aload_n 0, 85, 0, 0), (85, .getfield 153, 88, 0, 0), (88, .ireturn, 89, 0, 0), (89, .aload_n 0, 90, 0, 0), (90, .getfield 28, 93, 0, 0), (93, .ireturn, 94, 0, 0), (94, .aload_n 0, 95, 0, 0), (95, .getfield 208, 98, 0, 0), (98, .ireturn, 99, 0, 0), (99, .aload_n 0, 100, 0, 0), (100, .getfield 102, 103, 0, 0), (103, .invokestatic 211, 106, 0, 0), (106, .ireturn, 107, 0, 0), (107, .aload_n 0, 108, 0, 0), (108, .getfield 65, 111, 0, 0), (111, .ireturn, 112, 0, 0), (112, .bipush (-2), 114, 0, (-2)), (114, .ireturn, 115, 0, 0)]
def sy_m160 : sy_MI := (sy_c160, cX8_count, 2, some .int, 8, false, 1, yX8_count)
def sy_c161 : List sy_En := [(0, .ldc2_w 269, 3, 0, 0), (3, .lstore_n 1, 4, 0, 0), (4, .iconst 0, 5, 0, 0), (5, .istore_n 3, 6, 0, 0), (6, .iload_n 3, 7, 0, 0), (7, .bipush 8, 9, 0, 8), (9, .if_icmp .ge 22, 12, 31, 0), (12, .ldc2_w 271, 15, 0, 0), (15, .lload_n 1, 16, 0, 0), (16, .lmul, 17, 0, 0), (17, .aload_n 0, 18, 0, 0), (18, .iload_n 3, 19, 0, 0), (19, .invokevirtual 273, 22, 0, 0), (22, .i2l, 23, 0, 0), (23, .ladd, 24, 0, 0), (24, .lstore_n 1, 25, 0, 0), (25, .iinc 3 1, 28, 0, 1), (28, .goto (-22), 31, 6, 0), (31, .ldc2_w 271, 34, 0, 0), (34, .lload_n 1, 35, 0, 0), (35, .lmul, 36, 0, 0), (36, .aload_n 0, 37, 0, 0), (37, .invokevirtual 115, 40, 0, 0), (40, .i2l, 41, 0, 0), (41, .ladd, 42, 0, 0), (42, .lstore_n 1, 43, 0, 0), (43, .aload_n 0, 44, 0, 0), (44, .sipush 199, 47, 0, 199), (47, .iconst (-1), 48, 0, (-1)), (48, .invokevirtual 169, 51, 0, 0), (51, .ldc2_w 271, 54, 0, 0), (54, .lload_n 1, 55, 0, 0), (55, .lmul, 56, 0, 0), (56, .aload_n 0, 57, 0, 0), (57, .getfield 150, 60, 0, 0), (60, .i2l, 61, 0, 0), (61, .ladd, 62, 0, 0), (62, .lstore_n 1, 63, 0, 0), (63, .iconst 0, 64, 0, 0), (64, .istore_n 3, 65, 0, 0), (65, .iload_n 3, 66, 0, 0), (66, .aload_n 0, 67, 0, 0), (67, .getfield 99, 70, 0, 0), (70, .if_icmp .ge 88, 73, 158, 0), (73, .iconst 0, 74, 0, 0), (74, .istore 4, 76, 0, 0), (76, .iload 4, 78, 0, 0), (78, .iconst 2, 79, 0, 2), (79, .if_icmp .ge 24, 82, 103, 0), (82, .ldc2_w 271, 85, 0, 0), (85, .lload_n 1, 86, 0, 0), (86, .lmul, 87, 0, 0), (87, .aload_n 0, 88, 0, 0), (88, .iload_n 3, 89, 0, 0), (89, .iload 4, 91, 0, 0), (91, .invokevirtual 124, 94, 0, 0), (94, .i2l, 95, 0, 0), (95, .ladd, 96, 0, 0), (96, .lstore_n 1, 97, 0, 0), (97, .iinc 4 1, 100, 0, 1), (100, .goto (-24), 103, 76, 0), (103, .bipush 20, 105, 0, 20), (105, .istore 4, 107, 0, 0), (107, .iload 4, 109, 0, 0), (109, .bipush 61, 111, 0, 61), (111, .if_icmp .ge 41, 114, 152, 0), (114, .iconst 0, 115, 0, 0), (115, .istore 5, 117, 0, 0), (117, .iload 5, 119, 0, 0), (119, .iconst 3, 120, 0, 3), (120, .if_icmp .ge 26, 123, 146, 0), (123, .ldc2_w 271, 126, 0, 0), (126, .lload_n 1, 127, 0, 0), (127, .lmul, 128, 0, 0), (128, .aload_n 0, 129, 0, 0), (129, .iload_n 3, 130, 0, 0), (130, .iload 4, 132, 0, 0), (132, .iload 5, 134, 0, 0), (134, .invokevirtual 185, 137, 0, 0), (137, .i2l, 138, 0, 0), (138, .ladd, 139, 0, 0), (139, .lstore_n 1, 140, 0, 0), (140, .iinc 5 1, 143, 0, 1), (143, .goto (-26), 146, 117, 0), (146, .iinc 4 40, 149, 0, 40), (149, .goto (-42), 152, 107, 0), (152, .iinc 3 1, 155, 0, 1), (155, .goto (-90), 158, 65, 0), (158, .iconst 0, 159, 0, 0), (159, .istore_n 3, 160, 0, 0), (160, .iload_n 3, 161, 0, 0), (161, .bipush 8, 163, 0, 8), (163, .if_icmp .ge 150, 166, 313, 0), (166, .iconst 0, 167, 0, 0), (167, .istore 4, 169, 0, 0), (169, .iload 4, 171, 0, 0), (171, .iconst 2, 172, 0, 2), (172, .if_icmp .ge 26, 175, 198, 0), (175, .ldc2_w 271, 178, 0, 0), (178, .lload_n 1, 179, 0, 0), (179, .lmul, 180, 0, 0), (180, .aload_n 0, 181, 0, 0), (181, .iload_n 3, 182, 0, 0), (182, .bipush 20, 184, 0, 20), (184, .iload 4, 186, 0, 0), (186, .invokevirtual 191, 189, 0, 0), (189, .i2l, 190, 0, 0), (190, .ladd, 191, 0, 0), (191, .lstore_n 1, 192, 0, 0), (192, .iinc 4 1, 195, 0, 1), (195, .goto (-26), 198, 169, 0), (198, .ldc2_w 271, 201, 0, 0), (201, .lload_n 1, 202, 0, 0), (202, .lmul, 203, 0, 0), (203, .aload_n 0, 204, 0, 0), (204, .iload_n 3, 205, 0, 0), (205, .iconst 0, 206, 0, 0), (206, .bipush 99, 208, 0, 99), (208, .iconst (-1), 209, 0, (-1)), (209, .invokevirtual 196, 212, 0, 0), (212, .i2l, 213, 0, 0), (213, .ladd, 214, 0, 0), (214, .lstore_n 1, 215, 0, 0), (215, .ldc2_w 271, 218, 0, 0), (218, .lload_n 1, 219, 0, 0), (219, .lmul, 220, 0, 0), (220, .aload_n 0, 221, 0, 0), (221, .iload_n 3, 222, 0, 0), (222, .bipush 20, 224, 0, 20), (224, .iconst 0, 225, 0, 0), (225, .invokevirtual 200, 228, 0, 0), (228, .i2l, 229, 0, 0), (229, .ladd, 230, 0, 0), (230, .lstore_n 1, 231, 0, 0), (231, .iconst 0, 232, 0, 0), (232, .istore 4, 234, 0, 0), (234, .iload 4, 236, 0, 0), (236, .iconst 2, 237, 0, 2), (237, .if_icmp .ge 24, 240, 261, 0), (240, .ldc2_w 271, 243, 0, 0), (243, .lload_n 1, 244, 0, 0), (244, .lmul, 245, 0, 0), (245, .aload_n 0, 246, 0, 0), (246, .iload_n 3, 247, 0, 0), (247, .iconst 5, 248, 0, 5), (248, .iload 4, 250, 0, 0), (250, .invokevirtual 248, 253, 0, 0), (253, .ladd, 254, 0, 0), (254, .lstore_n 1, 255, 0, 0), (255, .iinc 4 1, 258, 0, 1), (258, .goto (-24), 261, 234, 0), (261, .iconst 0, 262, 0, 0), (262, .istore 4, 264, 0, 0), (264, .iload 4, 266, 0, 0), (266, .iconst 2, 267, 0, 2), (267, .if_icmp .ge 23, 270, 290, 0), (270, .ldc2_w 271, 273, 0, 0), (273, .lload_n 1, 274, 0, 0), (274, .lmul, 275, 0, 0), (275, .aload_n 0, 276, 0, 0), (276, .iload_n 3, 277, 0, 0), (277, .iload 4, 279, 0, 0), (279, .invokevirtual 256, 282, 0, 0), (282, .ladd, 283, 0, 0), (283, .lstore_n 1, 284, 0, 0), (284, .iinc 4 1, 287, 0, 1), (287, .goto (-23), 290, 264, 0), (290, .ldc2_w 271, 293, 0, 0), (293, .lload_n 1, 294, 0, 0), (294, .lmul, 295, 0, 0), (295, .aload_n 0, 296, 0, 0), (296, .iload_n 3, 297, 0, 0), (297, .bipush 7, 299, 0, 7), (299, .bipush 9, 301, 0, 9), (301, .invokevirtual 266, 304, 0, 0), (304, .i2l, 305, 0, 0), (305, .ladd, 306, 0, 0), (306, .lstore_n 1, 307, 0, 0), (307, .iinc 3 1, 310, 0, 1), (310, .goto (-150), 313, 160, 0), (313, .ldc2_w 271, 316, 0, 0), (316, .lload_n 1, 317, 0, 0), (317, .lmul, 318, 0, 0), (318, .aload_n 0, 319, 0, 0), (319, .getfield 129, 322, 0, 0), (322, .ifCond .ne 9, 325, 331, 0), (325, .sipush (-10002), 328, 0, (-10002)), (328, .goto 10, 331, 338, 0), (331, .aload_n 0, 332, 0, 0), (332, .iconst 0, 333, 0, 0), (333, .bipush 99, 335, 0, 99), (335, .invokevirtual 203, 338, 0, 0), (338, .i2l, 339, 0, 0), (339, .ladd, 340, 0, 0), (340, .lstore_n 1, 341, 0, 0), (341, .iconst 0, 342, 0, 0), (342, .istore_n 3, 343, 0, 0), (343, .iload_n 3, 344, 0, 0), (344, .iconst 4, 345, 0, 4), (345, .if_icmp .ge 22, 348, 367, 0), (348, .ldc2_w 271, 351, 0, 0), (351, .lload_n 1, 352, 0, 0), (352, .lmul, 353, 0, 0), (353, .aload_n 0, 354, 0, 0), (354, .iload_n 3, 355, 0, 0), (355, .invokevirtual 214, 358, 0, 0), (358, .i2l, 359, 0, 0), (359, .ladd, 360, 0, 0), (360, .lstore_n 1, 361, 0, 0), (361, .iinc 3 1, 364, 0, 1), (364, .goto (-21), 367, 343, 0), (367, .iconst 0, 368, 0, 0), (368, .istore_n 3, 369, 0, 0), (369, .iload_n 3, 370, 0, 0), (370, .iconst 2, 371, 0, 2), (371, .if_icmp .ge 26, 374, 397, 0), (374, .ldc2_w 271, 377, 0, 0), (377, .lload_n 1, 378, 0, 0), (378, .lmul, 379, 0, 0), (379, .aload_n 0, 380, 0, 0), (380, .sipush 199, 383, 0, 199), (383, .iconst 1, 384, 0, 1), (384, .iload_n 3, 385, 0, 0), (385, .invokevirtual 226, 388, 0, 0), (388, .i2l, 389, 0, 0), (389, .ladd, 390, 0, 0), (390, .lstore_n 1, 391, 0, 0), (391, .iinc 3 1, 394, 0, 1), (394, .goto (-25), 397, 369, 0), (397, .iconst 0, 398, 0, 0), (398, .istore_n 3, 399, 0, 0), (399, .iload_n 3, 400, 0, 0), (400, .iconst 3, 401, 0, 3), (401, .if_icmp .ge 26, 404, 427, 0), (404, .ldc2_w 271, 407, 0, 0), (407, .lload_n 1, 408, 0, 0), (408, .lmul, 409, 0, 0), (409, .aload_n 0, 410, 0, 0), (410, .bipush 7, 412, 0, 7), (412, .bipush 50, 414, 0, 50), (414, .iload_n 3, 415, 0, 0), (415, .invokevirtual 233, 418, 0, 0), (418, .i2l, 419, 0, 0), (419, .ladd, 420, 0, 0), (420, .lstore_n 1, 421, 0, 0), (421, .iinc 3 1, 424, 0, 1), (424, .goto (-25), 427, 399, 0), (427, .ldc2_w 271, 430, 0, 0), (430, .lload_n 1, 431, 0, 0), (431, .lmul, 432, 0, 0), (432, .iconst 5, 433, 0, 5), (433, .bipush 40, 435, 0, 40), (435, .invokestatic 262, 438, 0, 0), (438, .i2l, 439, 0, 0), (439, .ladd, 440, 0, 0), (440, .lreturn, 441, 0, 0)]
def sy_m161 : sy_MI := (sy_c161, cX8_digest, 6, some .long, 8, false, 0, yX8_digest)
def sy_c162 : List sy_En := [(0, .iload_n 0, 1, 0, 0), (1, .iload_n 0, 2, 0, 0), (2, .iconst 1, 3, 0, 1), (3, .iushr, 4, 0, 0), (4, .ldc_w 265, 7, 0, 0), (7, .iand, 8, 0, 0), (8, .isub, 9, 0, 0), (9, .istore_n 0, 10, 0, 0), (10, .iload_n 0, 11, 0, 0), (11, .ldc_w 266, 14, 0, 0), (14, .iand, 15, 0, 0), (15, .iload_n 0, 16, 0, 0), (16, .iconst 2, 17, 0, 2), (17, .iushr, 18, 0, 0), (18, .ldc_w 266, 21, 0, 0), (21, .iand, 22, 0, 0), (22, .iadd, 23, 0, 0), (23, .istore_n 0, 24, 0, 0), (24, .iload_n 0, 25, 0, 0), (25, .iload_n 0, 26, 0, 0), (26, .iconst 4, 27, 0, 4), (27, .iushr, 28, 0, 0), (28, .iadd, 29, 0, 0), (29, .ldc_w 267, 32, 0, 0), (32, .iand, 33, 0, 0), (33, .istore_n 0, 34, 0, 0), (34, .iload_n 0, 35, 0, 0), (35, .iload_n 0, 36, 0, 0), (36, .bipush 8, 38, 0, 8), (38, .iushr, 39, 0, 0), (39, .iadd, 40, 0, 0), (40, .istore_n 0, 41, 0, 0), (41, .iload_n 0, 42, 0, 0), (42, .iload_n 0, 43, 0, 0), (43, .bipush 16, 45, 0, 16), (45, .iushr, 46, 0, 0), (46, .iadd, 47, 0, 0), (47, .istore_n 0, 48, 0, 0), (48, .iload_n 0, 49, 0, 0), (49, .bipush 63, 51, 0, 63), (51, .iand, 52, 0, 0), (52, .ireturn, 53, 0, 0)]
def sy_m162 : sy_MI := (sy_c162, cJ6_bitCount_0f7a4, 1, some .int, 9, true, 1, yJ6_bitCount_0f7a4)
def sy_c163_0 : List sy_En := [(0, .new 7, 3, 0, 0), (3, .dup, 4, 0, 0), (4, .invokespecial 9, 7, 0, 0), (7, .astore_n 1, 8, 0, 0), (8, .new 10, 11, 0, 0), (11, .dup, 12, 0, 0), (12, .invokespecial 12, 15, 0, 0), (15, .astore_n 2, 16, 0, 0), (16, .iconst 0, 17, 0, 0), (17, .istore_n 3, 18, 0, 0), (18, .iload_n 3, 19, 0, 0), (19, .aload_n 0, 20, 0, 0), (20, .arraylength, 21, 0, 0), (21, .bipush 6, 23, 0, 6), (23, .isub, 24, 0, 0), (24, .if_icmp .gt 1237, 27, 1261, 0), (27, .aload_n 0, 28, 0, 0), (28, .iload_n 3, 29, 0, 0), (29, .iaload, 30, 0, 0), (30, .bipush 31, 32, 0, 31), (32, .iand, 33, 0, 0), (33, .tableswitch 1222 0 31 #[143, 166, 179, 192, 225, 248, 311, 334, 347, 360, 403, 446, 489, 532, 565, 608, 621, 644, 687, 730, 763, 807, 841, 874, 917, 960, 983, 1036, 1079, 1142, 1185, 1208], 176, 0, 0), (176, .aload_n 1, 177, 0, 0), (177, .aload_n 0, 178, 0, 0), (178, .iload_n 3, 179, 0, 0), (179, .iconst 1, 180, 0, 1), (180, .iadd, 181, 0, 0), (181, .iaload, 182, 0, 0), (182, .invokevirtual 13, 185, 0, 0), (185, .aload_n 2, 186, 0, 0), (186, .aload_n 0, 187, 0, 0), (187, .iload_n 3, 188, 0, 0), (188, .iconst 1, 189, 0, 1), (189, .iadd, 190, 0, 0), (190, .iaload, 191, 0, 0), (191, .invokevirtual 17, 194, 0, 0), (194, .if_icmp .eq 1061, 197, 1255, 0), (197, .iconst 0, 198, 0, 0), (198, .ireturn, 199, 0, 0), (199, .aload_n 1, 200, 0, 0)]
def sy_c163_1 : List sy_En := [(200, .invokevirtual 18, 203, 0, 0), (203, .aload_n 2, 204, 0, 0), (204, .invokevirtual 22, 207, 0, 0), (207, .if_icmp .eq 1048, 210, 1255, 0), (210, .iconst 0, 211, 0, 0), (211, .ireturn, 212, 0, 0), (212, .aload_n 1, 213, 0, 0), (213, .invokevirtual 23, 216, 0, 0), (216, .aload_n 2, 217, 0, 0), (217, .invokevirtual 26, 220, 0, 0), (220, .if_icmp .eq 1035, 223, 1255, 0), (223, .iconst 0, 224, 0, 0), (224, .ireturn, 225, 0, 0), (225, .aload_n 1, 226, 0, 0), (226, .aload_n 0, 227, 0, 0), (227, .iload_n 3, 228, 0, 0), (228, .iconst 1, 229, 0, 1), (229, .iadd, 230, 0, 0), (230, .iaload, 231, 0, 0), (231, .aload_n 0, 232, 0, 0), (232, .iload_n 3, 233, 0, 0), (233, .iconst 2, 234, 0, 2), (234, .iadd, 235, 0, 0), (235, .iaload, 236, 0, 0), (236, .invokevirtual 27, 239, 0, 0), (239, .aload_n 2, 240, 0, 0), (240, .aload_n 0, 241, 0, 0), (241, .iload_n 3, 242, 0, 0), (242, .iconst 1, 243, 0, 1), (243, .iadd, 244, 0, 0), (244, .iaload, 245, 0, 0), (245, .aload_n 0, 246, 0, 0), (246, .iload_n 3, 247, 0, 0), (247, .iconst 2, 248, 0, 2), (248, .iadd, 249, 0, 0), (249, .iaload, 250, 0, 0), (250, .invokevirtual 31, 253, 0, 0), (253, .if_icmp .eq 1002, 256, 1255, 0), (256, .iconst 0, 257, 0, 0), (257, .ireturn, 258, 0, 0)]
def sy_c163_2 : List sy_En := [(258, .aload_n 1, 259, 0, 0), (259, .aload_n 0, 260, 0, 0), (260, .iload_n 3, 261, 0, 0), (261, .iconst 1, 262, 0, 1), (262, .iadd, 263, 0, 0), (263, .iaload, 264, 0, 0), (264, .invokevirtual 32, 267, 0, 0), (267, .aload_n 2, 268, 0, 0), (268, .aload_n 0, 269, 0, 0), (269, .iload_n 3, 270, 0, 0), (270, .iconst 1, 271, 0, 1), (271, .iadd, 272, 0, 0), (272, .iaload, 273, 0, 0), (273, .invokevirtual 35, 276, 0, 0), (276, .if_icmp .eq 979, 279, 1255, 0), (279, .iconst 0, 280, 0, 0), (280, .ireturn, 281, 0, 0), (281, .aload_n 1, 282, 0, 0), (282, .aload_n 0, 283, 0, 0), (283, .iload_n 3, 284, 0, 0), (284, .iconst 1, 285, 0, 1), (285, .iadd, 286, 0, 0), (286, .iaload, 287, 0, 0), (287, .aload_n 0, 288, 0, 0), (288, .iload_n 3, 289, 0, 0), (289, .iconst 2, 290, 0, 2), (290, .iadd, 291, 0, 0), (291, .iaload, 292, 0, 0), (292, .aload_n 0, 293, 0, 0), (293, .iload_n 3, 294, 0, 0), (294, .iconst 3, 295, 0, 3), (295, .iadd, 296, 0, 0), (296, .iaload, 297, 0, 0), (297, .aload_n 0, 298, 0, 0), (298, .iload_n 3, 299, 0, 0), (299, .iconst 4, 300, 0, 4), (300, .iadd, 301, 0, 0), (301, .iaload, 302, 0, 0), (302, .aload_n 0, 303, 0, 0), (303, .iload_n 3, 304, 0, 0)]
def sy_c163_3 : List sy_En := [(304, .iconst 5, 305, 0, 5), (305, .iadd, 306, 0, 0), (306, .iaload, 307, 0, 0), (307, .invokevirtual 36, 310, 0, 0), (310, .aload_n 2, 311, 0, 0), (311, .aload_n 0, 312, 0, 0), (312, .iload_n 3, 313, 0, 0), (313, .iconst 1, 314, 0, 1), (314, .iadd, 315, 0, 0), (315, .iaload, 316, 0, 0), (316, .aload_n 0, 317, 0, 0), (317, .iload_n 3, 318, 0, 0), (318, .iconst 2, 319, 0, 2), (319, .iadd, 320, 0, 0), (320, .iaload, 321, 0, 0), (321, .aload_n 0, 322, 0, 0), (322, .iload_n 3, 323, 0, 0), (323, .iconst 3, 324, 0, 3), (324, .iadd, 325, 0, 0), (325, .iaload, 326, 0, 0), (326, .aload_n 0, 327, 0, 0), (327, .iload_n 3, 328, 0, 0), (328, .iconst 4, 329, 0, 4), (329, .iadd, 330, 0, 0), (330, .iaload, 331, 0, 0), (331, .aload_n 0, 332, 0, 0), (332, .iload_n 3, 333, 0, 0), (333, .iconst 5, 334, 0, 5), (334, .iadd, 335, 0, 0), (335, .iaload, 336, 0, 0), (336, .invokevirtual 40, 339, 0, 0), (339, .if_icmp .eq 916, 342, 1255, 0), (342, .iconst 0, 343, 0, 0), (343, .ireturn, 344, 0, 0), (344, .aload_n 1, 345, 0, 0), (345, .aload_n 0, 346, 0, 0), (346, .iload_n 3, 347, 0, 0), (347, .iconst 1, 348, 0, 1), (348, .iadd, 349, 0, 0), (349, .iaload, 350, 0, 0)]
def sy_c163_4 : List sy_En := [(350, .invokevirtual 41, 353, 0, 0), (353, .aload_n 2, 354, 0, 0), (354, .aload_n 0, 355, 0, 0), (355, .iload_n 3, 356, 0, 0), (356, .iconst 1, 357, 0, 1), (357, .iadd, 358, 0, 0), (358, .iaload, 359, 0, 0), (359, .invokevirtual 44, 362, 0, 0), (362, .if_icmp .eq 893, 365, 1255, 0), (365, .iconst 0, 366, 0, 0), (366, .ireturn, 367, 0, 0), (367, .aload_n 1, 368, 0, 0), (368, .invokevirtual 45, 371, 0, 0), (371, .aload_n 2, 372, 0, 0), (372, .invokevirtual 48, 375, 0, 0), (375, .if_icmp .eq 880, 378, 1255, 0), (378, .iconst 0, 379, 0, 0), (379, .ireturn, 380, 0, 0), (380, .aload_n 1, 381, 0, 0), (381, .invokevirtual 49, 384, 0, 0), (384, .aload_n 2, 385, 0, 0), (385, .invokevirtual 52, 388, 0, 0), (388, .if_icmp .eq 867, 391, 1255, 0), (391, .iconst 0, 392, 0, 0), (392, .ireturn, 393, 0, 0), (393, .aload_n 1, 394, 0, 0), (394, .aload_n 0, 395, 0, 0), (395, .iload_n 3, 396, 0, 0), (396, .iconst 1, 397, 0, 1), (397, .iadd, 398, 0, 0), (398, .iaload, 399, 0, 0), (399, .aload_n 0, 400, 0, 0), (400, .iload_n 3, 401, 0, 0), (401, .iconst 2, 402, 0, 2), (402, .iadd, 403, 0, 0), (403, .iaload, 404, 0, 0), (404, .aload_n 0, 405, 0, 0), (405, .iload_n 3, 406, 0, 0), (406, .iconst 3, 407, 0, 3), (407, .iadd, 408, 0, 0)]
def sy_c163_5 : List sy_En := [(408, .iaload, 409, 0, 0), (409, .invokevirtual 53, 412, 0, 0), (412, .aload_n 2, 413, 0, 0), (413, .aload_n 0, 414, 0, 0), (414, .iload_n 3, 415, 0, 0), (415, .iconst 1, 416, 0, 1), (416, .iadd, 417, 0, 0), (417, .iaload, 418, 0, 0), (418, .aload_n 0, 419, 0, 0), (419, .iload_n 3, 420, 0, 0), (420, .iconst 2, 421, 0, 2), (421, .iadd, 422, 0, 0), (422, .iaload, 423, 0, 0), (423, .aload_n 0, 424, 0, 0), (424, .iload_n 3, 425, 0, 0), (425, .iconst 3, 426, 0, 3), (426, .iadd, 427, 0, 0), (427, .iaload, 428, 0, 0), (428, .invokevirtual 57, 431, 0, 0), (431, .if_icmp .eq 824, 434, 1255, 0), (434, .iconst 0, 435, 0, 0), (435, .ireturn, 436, 0, 0), (436, .aload_n 1, 437, 0, 0), (437, .aload_n 0, 438, 0, 0), (438, .iload_n 3, 439, 0, 0), (439, .iconst 1, 440, 0, 1), (440, .iadd, 441, 0, 0), (441, .iaload, 442, 0, 0), (442, .aload_n 0, 443, 0, 0), (443, .iload_n 3, 444, 0, 0), (444, .iconst 2, 445, 0, 2), (445, .iadd, 446, 0, 0), (446, .iaload, 447, 0, 0), (447, .aload_n 0, 448, 0, 0), (448, .iload_n 3, 449, 0, 0), (449, .iconst 3, 450, 0, 3), (450, .iadd, 451, 0, 0), (451, .iaload, 452, 0, 0), (452, .invokevirtual 58, 455, 0, 0), (455, .aload_n 2, 456, 0, 0)]
def sy_c163_6 : List sy_En := [(456, .aload_n 0, 457, 0, 0), (457, .iload_n 3, 458, 0, 0), (458, .iconst 1, 459, 0, 1), (459, .iadd, 460, 0, 0), (460, .iaload, 461, 0, 0), (461, .aload_n 0, 462, 0, 0), (462, .iload_n 3, 463, 0, 0), (463, .iconst 2, 464, 0, 2), (464, .iadd, 465, 0, 0), (465, .iaload, 466, 0, 0), (466, .aload_n 0, 467, 0, 0), (467, .iload_n 3, 468, 0, 0), (468, .iconst 3, 469, 0, 3), (469, .iadd, 470, 0, 0), (470, .iaload, 471, 0, 0), (471, .invokevirtual 61, 474, 0, 0), (474, .if_icmp .eq 781, 477, 1255, 0), (477, .iconst 0, 478, 0, 0), (478, .ireturn, 479, 0, 0), (479, .aload_n 1, 480, 0, 0), (480, .aload_n 0, 481, 0, 0), (481, .iload_n 3, 482, 0, 0), (482, .iconst 1, 483, 0, 1), (483, .iadd, 484, 0, 0), (484, .iaload, 485, 0, 0), (485, .aload_n 0, 486, 0, 0), (486, .iload_n 3, 487, 0, 0), (487, .iconst 2, 488, 0, 2), (488, .iadd, 489, 0, 0), (489, .iaload, 490, 0, 0), (490, .aload_n 0, 491, 0, 0), (491, .iload_n 3, 492, 0, 0), (492, .iconst 3, 493, 0, 3), (493, .iadd, 494, 0, 0), (494, .iaload, 495, 0, 0), (495, .invokevirtual 62, 498, 0, 0), (498, .aload_n 2, 499, 0, 0), (499, .aload_n 0, 500, 0, 0), (500, .iload_n 3, 501, 0, 0), (501, .iconst 1, 502, 0, 1)]
def sy_c163_7 : List sy_En := [(502, .iadd, 503, 0, 0), (503, .iaload, 504, 0, 0), (504, .aload_n 0, 505, 0, 0), (505, .iload_n 3, 506, 0, 0), (506, .iconst 2, 507, 0, 2), (507, .iadd, 508, 0, 0), (508, .iaload, 509, 0, 0), (509, .aload_n 0, 510, 0, 0), (510, .iload_n 3, 511, 0, 0), (511, .iconst 3, 512, 0, 3), (512, .iadd, 513, 0, 0), (513, .iaload, 514, 0, 0), (514, .invokevirtual 65, 517, 0, 0), (517, .if_icmp .eq 738, 520, 1255, 0), (520, .iconst 0, 521, 0, 0), (521, .ireturn, 522, 0, 0), (522, .aload_n 1, 523, 0, 0), (523, .aload_n 0, 524, 0, 0), (524, .iload_n 3, 525, 0, 0), (525, .iconst 1, 526, 0, 1), (526, .iadd, 527, 0, 0), (527, .iaload, 528, 0, 0), (528, .aload_n 0, 529, 0, 0), (529, .iload_n 3, 530, 0, 0), (530, .iconst 2, 531, 0, 2), (531, .iadd, 532, 0, 0), (532, .iaload, 533, 0, 0), (533, .aload_n 0, 534, 0, 0), (534, .iload_n 3, 535, 0, 0), (535, .iconst 3, 536, 0, 3), (536, .iadd, 537, 0, 0), (537, .iaload, 538, 0, 0), (538, .invokevirtual 66, 541, 0, 0), (541, .aload_n 2, 542, 0, 0), (542, .aload_n 0, 543, 0, 0), (543, .iload_n 3, 544, 0, 0), (544, .iconst 1, 545, 0, 1), (545, .iadd, 546, 0, 0), (546, .iaload, 547, 0, 0), (547, .aload_n 0, 548, 0, 0)]
def sy_c163_8 : List sy_En := [(548, .iload_n 3, 549, 0, 0), (549, .iconst 2, 550, 0, 2), (550, .iadd, 551, 0, 0), (551, .iaload, 552, 0, 0), (552, .aload_n 0, 553, 0, 0), (553, .iload_n 3, 554, 0, 0), (554, .iconst 3, 555, 0, 3), (555, .iadd, 556, 0, 0), (556, .iaload, 557, 0, 0), (557, .invokevirtual 69, 560, 0, 0), (560, .if_icmp .eq 695, 563, 1255, 0), (563, .iconst 0, 564, 0, 0), (564, .ireturn, 565, 0, 0), (565, .aload_n 1, 566, 0, 0), (566, .aload_n 0, 567, 0, 0), (567, .iload_n 3, 568, 0, 0), (568, .iconst 1, 569, 0, 1), (569, .iadd, 570, 0, 0), (570, .iaload, 571, 0, 0), (571, .aload_n 0, 572, 0, 0), (572, .iload_n 3, 573, 0, 0), (573, .iconst 2, 574, 0, 2), (574, .iadd, 575, 0, 0), (575, .iaload, 576, 0, 0), (576, .invokevirtual 70, 579, 0, 0), (579, .aload_n 2, 580, 0, 0), (580, .aload_n 0, 581, 0, 0), (581, .iload_n 3, 582, 0, 0), (582, .iconst 1, 583, 0, 1), (583, .iadd, 584, 0, 0), (584, .iaload, 585, 0, 0), (585, .aload_n 0, 586, 0, 0), (586, .iload_n 3, 587, 0, 0), (587, .iconst 2, 588, 0, 2), (588, .iadd, 589, 0, 0), (589, .iaload, 590, 0, 0), (590, .invokevirtual 73, 593, 0, 0), (593, .if_icmp .eq 662, 596, 1255, 0), (596, .iconst 0, 597, 0, 0), (597, .ireturn, 598, 0, 0)]
def sy_c163_9 : List sy_En := [(598, .aload_n 1, 599, 0, 0), (599, .aload_n 0, 600, 0, 0), (600, .iload_n 3, 601, 0, 0), (601, .iconst 1, 602, 0, 1), (602, .iadd, 603, 0, 0), (603, .iaload, 604, 0, 0), (604, .aload_n 0, 605, 0, 0), (605, .iload_n 3, 606, 0, 0), (606, .iconst 2, 607, 0, 2), (607, .iadd, 608, 0, 0), (608, .iaload, 609, 0, 0), (609, .aload_n 0, 610, 0, 0), (610, .iload_n 3, 611, 0, 0), (611, .iconst 3, 612, 0, 3), (612, .iadd, 613, 0, 0), (613, .iaload, 614, 0, 0), (614, .invokevirtual 74, 617, 0, 0), (617, .aload_n 2, 618, 0, 0), (618, .aload_n 0, 619, 0, 0), (619, .iload_n 3, 620, 0, 0), (620, .iconst 1, 621, 0, 1), (621, .iadd, 622, 0, 0), (622, .iaload, 623, 0, 0), (623, .aload_n 0, 624, 0, 0), (624, .iload_n 3, 625, 0, 0), (625, .iconst 2, 626, 0, 2), (626, .iadd, 627, 0, 0), (627, .iaload, 628, 0, 0), (628, .aload_n 0, 629, 0, 0), (629, .iload_n 3, 630, 0, 0), (630, .iconst 3, 631, 0, 3), (631, .iadd, 632, 0, 0), (632, .iaload, 633, 0, 0), (633, .invokevirtual 77, 636, 0, 0), (636, .if_icmp .eq 619, 639, 1255, 0), (639, .iconst 0, 640, 0, 0), (640, .ireturn, 641, 0, 0), (641, .aload_n 1, 642, 0, 0), (642, .invokevirtual 78, 645, 0, 0), (645, .aload_n 2, 646, 0, 0)]
def sy_c163_10 : List sy_En := [(646, .invokevirtual 81, 649, 0, 0), (649, .if_icmp .eq 606, 652, 1255, 0), (652, .iconst 0, 653, 0, 0), (653, .ireturn, 654, 0, 0), (654, .aload_n 1, 655, 0, 0), (655, .aload_n 0, 656, 0, 0), (656, .iload_n 3, 657, 0, 0), (657, .iconst 1, 658, 0, 1), (658, .iadd, 659, 0, 0), (659, .iaload, 660, 0, 0), (660, .invokevirtual 82, 663, 0, 0), (663, .aload_n 2, 664, 0, 0), (664, .aload_n 0, 665, 0, 0), (665, .iload_n 3, 666, 0, 0), (666, .iconst 1, 667, 0, 1), (667, .iadd, 668, 0, 0), (668, .iaload, 669, 0, 0), (669, .invokevirtual 85, 672, 0, 0), (672, .if_icmp .eq 583, 675, 1255, 0), (675, .iconst 0, 676, 0, 0), (676, .ireturn, 677, 0, 0), (677, .aload_n 1, 678, 0, 0), (678, .aload_n 0, 679, 0, 0), (679, .iload_n 3, 680, 0, 0), (680, .iconst 1, 681, 0, 1), (681, .iadd, 682, 0, 0), (682, .iaload, 683, 0, 0), (683, .aload_n 0, 684, 0, 0), (684, .iload_n 3, 685, 0, 0), (685, .iconst 2, 686, 0, 2), (686, .iadd, 687, 0, 0), (687, .iaload, 688, 0, 0), (688, .aload_n 0, 689, 0, 0), (689, .iload_n 3, 690, 0, 0), (690, .iconst 3, 691, 0, 3), (691, .iadd, 692, 0, 0), (692, .iaload, 693, 0, 0), (693, .invokevirtual 86, 696, 0, 0), (696, .aload_n 2, 697, 0, 0), (697, .aload_n 0, 698, 0, 0)]
def sy_c163_11 : List sy_En := [(698, .iload_n 3, 699, 0, 0), (699, .iconst 1, 700, 0, 1), (700, .iadd, 701, 0, 0), (701, .iaload, 702, 0, 0), (702, .aload_n 0, 703, 0, 0), (703, .iload_n 3, 704, 0, 0), (704, .iconst 2, 705, 0, 2), (705, .iadd, 706, 0, 0), (706, .iaload, 707, 0, 0), (707, .aload_n 0, 708, 0, 0), (708, .iload_n 3, 709, 0, 0), (709, .iconst 3, 710, 0, 3), (710, .iadd, 711, 0, 0), (711, .iaload, 712, 0, 0), (712, .invokevirtual 89, 715, 0, 0), (715, .if_icmp .eq 540, 718, 1255, 0), (718, .iconst 0, 719, 0, 0), (719, .ireturn, 720, 0, 0), (720, .aload_n 1, 721, 0, 0), (721, .aload_n 0, 722, 0, 0), (722, .iload_n 3, 723, 0, 0), (723, .iconst 1, 724, 0, 1), (724, .iadd, 725, 0, 0), (725, .iaload, 726, 0, 0), (726, .aload_n 0, 727, 0, 0), (727, .iload_n 3, 728, 0, 0), (728, .iconst 2, 729, 0, 2), (729, .iadd, 730, 0, 0), (730, .iaload, 731, 0, 0), (731, .aload_n 0, 732, 0, 0), (732, .iload_n 3, 733, 0, 0), (733, .iconst 3, 734, 0, 3), (734, .iadd, 735, 0, 0), (735, .iaload, 736, 0, 0), (736, .invokevirtual 90, 739, 0, 0), (739, .aload_n 2, 740, 0, 0), (740, .aload_n 0, 741, 0, 0), (741, .iload_n 3, 742, 0, 0), (742, .iconst 1, 743, 0, 1), (743, .iadd, 744, 0, 0)]
def sy_c163_12 : List sy_En := [(744, .iaload, 745, 0, 0), (745, .aload_n 0, 746, 0, 0), (746, .iload_n 3, 747, 0, 0), (747, .iconst 2, 748, 0, 2), (748, .iadd, 749, 0, 0), (749, .iaload, 750, 0, 0), (750, .aload_n 0, 751, 0, 0), (751, .iload_n 3, 752, 0, 0), (752, .iconst 3, 753, 0, 3), (753, .iadd, 754, 0, 0), (754, .iaload, 755, 0, 0), (755, .invokevirtual 93, 758, 0, 0), (758, .if_icmp .eq 497, 761, 1255, 0), (761, .iconst 0, 762, 0, 0), (762, .ireturn, 763, 0, 0), (763, .aload_n 1, 764, 0, 0), (764, .aload_n 0, 765, 0, 0), (765, .iload_n 3, 766, 0, 0), (766, .iconst 1, 767, 0, 1), (767, .iadd, 768, 0, 0), (768, .iaload, 769, 0, 0), (769, .aload_n 0, 770, 0, 0), (770, .iload_n 3, 771, 0, 0), (771, .iconst 2, 772, 0, 2), (772, .iadd, 773, 0, 0), (773, .iaload, 774, 0, 0), (774, .invokevirtual 94, 777, 0, 0), (777, .aload_n 2, 778, 0, 0), (778, .aload_n 0, 779, 0, 0), (779, .iload_n 3, 780, 0, 0), (780, .iconst 1, 781, 0, 1), (781, .iadd, 782, 0, 0), (782, .iaload, 783, 0, 0), (783, .aload_n 0, 784, 0, 0), (784, .iload_n 3, 785, 0, 0), (785, .iconst 2, 786, 0, 2), (786, .iadd, 787, 0, 0), (787, .iaload, 788, 0, 0), (788, .invokevirtual 97, 791, 0, 0), (791, .if_icmp .eq 464, 794, 1255, 0)]
def sy_c163_13 : List sy_En := [(794, .iconst 0, 795, 0, 0), (795, .ireturn, 796, 0, 0), (796, .aload_n 1, 797, 0, 0), (797, .aload_n 0, 798, 0, 0), (798, .iload_n 3, 799, 0, 0), (799, .iconst 1, 800, 0, 1), (800, .iadd, 801, 0, 0), (801, .iaload, 802, 0, 0), (802, .aload_n 0, 803, 0, 0), (803, .iload_n 3, 804, 0, 0), (804, .iconst 2, 805, 0, 2), (805, .iadd, 806, 0, 0), (806, .iaload, 807, 0, 0), (807, .aload_n 0, 808, 0, 0), (808, .iload_n 3, 809, 0, 0), (809, .iconst 3, 810, 0, 3), (810, .iadd, 811, 0, 0), (811, .iaload, 812, 0, 0), (812, .invokevirtual 98, 815, 0, 0), (815, .aload_n 2, 816, 0, 0), (816, .aload_n 0, 817, 0, 0), (817, .iload_n 3, 818, 0, 0), (818, .iconst 1, 819, 0, 1), (819, .iadd, 820, 0, 0), (820, .iaload, 821, 0, 0), (821, .aload_n 0, 822, 0, 0), (822, .iload_n 3, 823, 0, 0), (823, .iconst 2, 824, 0, 2), (824, .iadd, 825, 0, 0), (825, .iaload, 826, 0, 0), (826, .aload_n 0, 827, 0, 0), (827, .iload_n 3, 828, 0, 0), (828, .iconst 3, 829, 0, 3), (829, .iadd, 830, 0, 0), (830, .iaload, 831, 0, 0), (831, .invokevirtual 102, 834, 0, 0), (834, .lcmp, 835, 0, 0), (835, .ifCond .eq 420, 838, 1255, 0), (838, .iconst 0, 839, 0, 0), (839, .ireturn, 840, 0, 0)]
def sy_c163_14 : List sy_En := [(840, .aload_n 1, 841, 0, 0), (841, .aload_n 0, 842, 0, 0), (842, .iload_n 3, 843, 0, 0), (843, .iconst 1, 844, 0, 1), (844, .iadd, 845, 0, 0), (845, .iaload, 846, 0, 0), (846, .aload_n 0, 847, 0, 0), (847, .iload_n 3, 848, 0, 0), (848, .iconst 2, 849, 0, 2), (849, .iadd, 850, 0, 0), (850, .iaload, 851, 0, 0), (851, .invokevirtual 103, 854, 0, 0), (854, .aload_n 2, 855, 0, 0), (855, .aload_n 0, 856, 0, 0), (856, .iload_n 3, 857, 0, 0), (857, .iconst 1, 858, 0, 1), (858, .iadd, 859, 0, 0), (859, .iaload, 860, 0, 0), (860, .aload_n 0, 861, 0, 0), (861, .iload_n 3, 862, 0, 0), (862, .iconst 2, 863, 0, 2), (863, .iadd, 864, 0, 0), (864, .iaload, 865, 0, 0), (865, .invokevirtual 107, 868, 0, 0), (868, .lcmp, 869, 0, 0), (869, .ifCond .eq 386, 872, 1255, 0), (872, .iconst 0, 873, 0, 0), (873, .ireturn, 874, 0, 0), (874, .aload_n 1, 875, 0, 0), (875, .aload_n 0, 876, 0, 0), (876, .iload_n 3, 877, 0, 0), (877, .iconst 1, 878, 0, 1), (878, .iadd, 879, 0, 0), (879, .iaload, 880, 0, 0), (880, .aload_n 0, 881, 0, 0), (881, .iload_n 3, 882, 0, 0), (882, .iconst 2, 883, 0, 2), (883, .iadd, 884, 0, 0), (884, .iaload, 885, 0, 0), (885, .invokevirtual 108, 888, 0, 0)]
def sy_c163_15 : List sy_En := [(888, .aload_n 2, 889, 0, 0), (889, .aload_n 0, 890, 0, 0), (890, .iload_n 3, 891, 0, 0), (891, .iconst 1, 892, 0, 1), (892, .iadd, 893, 0, 0), (893, .iaload, 894, 0, 0), (894, .aload_n 0, 895, 0, 0), (895, .iload_n 3, 896, 0, 0), (896, .iconst 2, 897, 0, 2), (897, .iadd, 898, 0, 0), (898, .iaload, 899, 0, 0), (899, .invokevirtual 111, 902, 0, 0), (902, .if_icmp .eq 353, 905, 1255, 0), (905, .iconst 0, 906, 0, 0), (906, .ireturn, 907, 0, 0), (907, .aload_n 1, 908, 0, 0), (908, .aload_n 0, 909, 0, 0), (909, .iload_n 3, 910, 0, 0), (910, .iconst 1, 911, 0, 1), (911, .iadd, 912, 0, 0), (912, .iaload, 913, 0, 0), (913, .aload_n 0, 914, 0, 0), (914, .iload_n 3, 915, 0, 0), (915, .iconst 2, 916, 0, 2), (916, .iadd, 917, 0, 0), (917, .iaload, 918, 0, 0), (918, .aload_n 0, 919, 0, 0), (919, .iload_n 3, 920, 0, 0), (920, .iconst 3, 921, 0, 3), (921, .iadd, 922, 0, 0), (922, .iaload, 923, 0, 0), (923, .invokevirtual 112, 926, 0, 0), (926, .aload_n 2, 927, 0, 0), (927, .aload_n 0, 928, 0, 0), (928, .iload_n 3, 929, 0, 0), (929, .iconst 1, 930, 0, 1), (930, .iadd, 931, 0, 0), (931, .iaload, 932, 0, 0), (932, .aload_n 0, 933, 0, 0), (933, .iload_n 3, 934, 0, 0)]
def sy_c163_16 : List sy_En := [(934, .iconst 2, 935, 0, 2), (935, .iadd, 936, 0, 0), (936, .iaload, 937, 0, 0), (937, .aload_n 0, 938, 0, 0), (938, .iload_n 3, 939, 0, 0), (939, .iconst 3, 940, 0, 3), (940, .iadd, 941, 0, 0), (941, .iaload, 942, 0, 0), (942, .invokevirtual 115, 945, 0, 0), (945, .if_icmp .eq 310, 948, 1255, 0), (948, .iconst 0, 949, 0, 0), (949, .ireturn, 950, 0, 0), (950, .aload_n 1, 951, 0, 0), (951, .aload_n 0, 952, 0, 0), (952, .iload_n 3, 953, 0, 0), (953, .iconst 1, 954, 0, 1), (954, .iadd, 955, 0, 0), (955, .iaload, 956, 0, 0), (956, .aload_n 0, 957, 0, 0), (957, .iload_n 3, 958, 0, 0), (958, .iconst 2, 959, 0, 2), (959, .iadd, 960, 0, 0), (960, .iaload, 961, 0, 0), (961, .aload_n 0, 962, 0, 0), (962, .iload_n 3, 963, 0, 0), (963, .iconst 3, 964, 0, 3), (964, .iadd, 965, 0, 0), (965, .iaload, 966, 0, 0), (966, .invokevirtual 116, 969, 0, 0), (969, .aload_n 2, 970, 0, 0), (970, .aload_n 0, 971, 0, 0), (971, .iload_n 3, 972, 0, 0), (972, .iconst 1, 973, 0, 1), (973, .iadd, 974, 0, 0), (974, .iaload, 975, 0, 0), (975, .aload_n 0, 976, 0, 0), (976, .iload_n 3, 977, 0, 0), (977, .iconst 2, 978, 0, 2), (978, .iadd, 979, 0, 0), (979, .iaload, 980, 0, 0)]
def sy_c163_17 : List sy_En := [(980, .aload_n 0, 981, 0, 0), (981, .iload_n 3, 982, 0, 0), (982, .iconst 3, 983, 0, 3), (983, .iadd, 984, 0, 0), (984, .iaload, 985, 0, 0), (985, .invokevirtual 119, 988, 0, 0), (988, .if_icmp .eq 267, 991, 1255, 0), (991, .iconst 0, 992, 0, 0), (992, .ireturn, 993, 0, 0), (993, .aload_n 1, 994, 0, 0), (994, .aload_n 0, 995, 0, 0), (995, .iload_n 3, 996, 0, 0), (996, .iconst 1, 997, 0, 1), (997, .iadd, 998, 0, 0), (998, .iaload, 999, 0, 0), (999, .invokevirtual 120, 1002, 0, 0), (1002, .aload_n 2, 1003, 0, 0), (1003, .aload_n 0, 1004, 0, 0), (1004, .iload_n 3, 1005, 0, 0), (1005, .iconst 1, 1006, 0, 1), (1006, .iadd, 1007, 0, 0), (1007, .iaload, 1008, 0, 0), (1008, .invokevirtual 123, 1011, 0, 0), (1011, .if_icmp .eq 244, 1014, 1255, 0), (1014, .iconst 0, 1015, 0, 0), (1015, .ireturn, 1016, 0, 0), (1016, .aload_n 1, 1017, 0, 0), (1017, .aload_n 0, 1018, 0, 0), (1018, .iload_n 3, 1019, 0, 0), (1019, .iconst 1, 1020, 0, 1), (1020, .iadd, 1021, 0, 0), (1021, .iaload, 1022, 0, 0), (1022, .aload_n 0, 1023, 0, 0), (1023, .iload_n 3, 1024, 0, 0), (1024, .iconst 2, 1025, 0, 2), (1025, .iadd, 1026, 0, 0), (1026, .iaload, 1027, 0, 0), (1027, .aload_n 0, 1028, 0, 0), (1028, .iload_n 3, 1029, 0, 0), (1029, .iconst 3, 1030, 0, 3)]
def sy_c163_18 : List sy_En := [(1030, .iadd, 1031, 0, 0), (1031, .iaload, 1032, 0, 0), (1032, .aload_n 0, 1033, 0, 0), (1033, .iload_n 3, 1034, 0, 0), (1034, .iconst 4, 1035, 0, 4), (1035, .iadd, 1036, 0, 0), (1036, .iaload, 1037, 0, 0), (1037, .invokevirtual 124, 1040, 0, 0), (1040, .aload_n 2, 1041, 0, 0), (1041, .aload_n 0, 1042, 0, 0), (1042, .iload_n 3, 1043, 0, 0), (1043, .iconst 1, 1044, 0, 1), (1044, .iadd, 1045, 0, 0), (1045, .iaload, 1046, 0, 0), (1046, .aload_n 0, 1047, 0, 0), (1047, .iload_n 3, 1048, 0, 0), (1048, .iconst 2, 1049, 0, 2), (1049, .iadd, 1050, 0, 0), (1050, .iaload, 1051, 0, 0), (1051, .aload_n 0, 1052, 0, 0), (1052, .iload_n 3, 1053, 0, 0), (1053, .iconst 3, 1054, 0, 3), (1054, .iadd, 1055, 0, 0), (1055, .iaload, 1056, 0, 0), (1056, .aload_n 0, 1057, 0, 0), (1057, .iload_n 3, 1058, 0, 0), (1058, .iconst 4, 1059, 0, 4), (1059, .iadd, 1060, 0, 0), (1060, .iaload, 1061, 0, 0), (1061, .invokevirtual 128, 1064, 0, 0), (1064, .if_icmp .eq 191, 1067, 1255, 0), (1067, .iconst 0, 1068, 0, 0), (1068, .ireturn, 1069, 0, 0), (1069, .aload_n 1, 1070, 0, 0), (1070, .aload_n 0, 1071, 0, 0), (1071, .iload_n 3, 1072, 0, 0), (1072, .iconst 1, 1073, 0, 1), (1073, .iadd, 1074, 0, 0), (1074, .iaload, 1075, 0, 0), (1075, .aload_n 0, 1076, 0, 0)]
def sy_c163_19 : List sy_En := [(1076, .iload_n 3, 1077, 0, 0), (1077, .iconst 2, 1078, 0, 2), (1078, .iadd, 1079, 0, 0), (1079, .iaload, 1080, 0, 0), (1080, .aload_n 0, 1081, 0, 0), (1081, .iload_n 3, 1082, 0, 0), (1082, .iconst 3, 1083, 0, 3), (1083, .iadd, 1084, 0, 0), (1084, .iaload, 1085, 0, 0), (1085, .invokevirtual 129, 1088, 0, 0), (1088, .aload_n 2, 1089, 0, 0), (1089, .aload_n 0, 1090, 0, 0), (1090, .iload_n 3, 1091, 0, 0), (1091, .iconst 1, 1092, 0, 1), (1092, .iadd, 1093, 0, 0), (1093, .iaload, 1094, 0, 0), (1094, .aload_n 0, 1095, 0, 0), (1095, .iload_n 3, 1096, 0, 0), (1096, .iconst 2, 1097, 0, 2), (1097, .iadd, 1098, 0, 0), (1098, .iaload, 1099, 0, 0), (1099, .aload_n 0, 1100, 0, 0), (1100, .iload_n 3, 1101, 0, 0), (1101, .iconst 3, 1102, 0, 3), (1102, .iadd, 1103, 0, 0), (1103, .iaload, 1104, 0, 0), (1104, .invokevirtual 132, 1107, 0, 0), (1107, .if_icmp .eq 148, 1110, 1255, 0), (1110, .iconst 0, 1111, 0, 0), (1111, .ireturn, 1112, 0, 0), (1112, .aload_n 1, 1113, 0, 0), (1113, .aload_n 0, 1114, 0, 0), (1114, .iload_n 3, 1115, 0, 0), (1115, .iconst 1, 1116, 0, 1), (1116, .iadd, 1117, 0, 0), (1117, .iaload, 1118, 0, 0), (1118, .aload_n 0, 1119, 0, 0), (1119, .iload_n 3, 1120, 0, 0), (1120, .iconst 2, 1121, 0, 2), (1121, .iadd, 1122, 0, 0)]
def sy_c163_20 : List sy_En := [(1122, .iaload, 1123, 0, 0), (1123, .aload_n 0, 1124, 0, 0), (1124, .iload_n 3, 1125, 0, 0), (1125, .iconst 3, 1126, 0, 3), (1126, .iadd, 1127, 0, 0), (1127, .iaload, 1128, 0, 0), (1128, .aload_n 0, 1129, 0, 0), (1129, .iload_n 3, 1130, 0, 0), (1130, .iconst 4, 1131, 0, 4), (1131, .iadd, 1132, 0, 0), (1132, .iaload, 1133, 0, 0), (1133, .aload_n 0, 1134, 0, 0), (1134, .iload_n 3, 1135, 0, 0), (1135, .iconst 5, 1136, 0, 5), (1136, .iadd, 1137, 0, 0), (1137, .iaload, 1138, 0, 0), (1138, .invokevirtual 133, 1141, 0, 0), (1141, .aload_n 2, 1142, 0, 0), (1142, .aload_n 0, 1143, 0, 0), (1143, .iload_n 3, 1144, 0, 0), (1144, .iconst 1, 1145, 0, 1), (1145, .iadd, 1146, 0, 0), (1146, .iaload, 1147, 0, 0), (1147, .aload_n 0, 1148, 0, 0), (1148, .iload_n 3, 1149, 0, 0), (1149, .iconst 2, 1150, 0, 2), (1150, .iadd, 1151, 0, 0), (1151, .iaload, 1152, 0, 0), (1152, .aload_n 0, 1153, 0, 0), (1153, .iload_n 3, 1154, 0, 0), (1154, .iconst 3, 1155, 0, 3), (1155, .iadd, 1156, 0, 0), (1156, .iaload, 1157, 0, 0), (1157, .aload_n 0, 1158, 0, 0), (1158, .iload_n 3, 1159, 0, 0), (1159, .iconst 4, 1160, 0, 4), (1160, .iadd, 1161, 0, 0), (1161, .iaload, 1162, 0, 0), (1162, .aload_n 0, 1163, 0, 0), (1163, .iload_n 3, 1164, 0, 0)]
def sy_c163_21 : List sy_En := [(1164, .iconst 5, 1165, 0, 5), (1165, .iadd, 1166, 0, 0), (1166, .iaload, 1167, 0, 0), (1167, .invokevirtual 136, 1170, 0, 0), (1170, .if_icmp .eq 85, 1173, 1255, 0), (1173, .iconst 0, 1174, 0, 0), (1174, .ireturn, 1175, 0, 0), (1175, .aload_n 1, 1176, 0, 0), (1176, .aload_n 0, 1177, 0, 0), (1177, .iload_n 3, 1178, 0, 0), (1178, .iconst 1, 1179, 0, 1), (1179, .iadd, 1180, 0, 0), (1180, .iaload, 1181, 0, 0), (1181, .aload_n 0, 1182, 0, 0), (1182, .iload_n 3, 1183, 0, 0), (1183, .iconst 2, 1184, 0, 2), (1184, .iadd, 1185, 0, 0), (1185, .iaload, 1186, 0, 0), (1186, .aload_n 0, 1187, 0, 0), (1187, .iload_n 3, 1188, 0, 0), (1188, .iconst 3, 1189, 0, 3), (1189, .iadd, 1190, 0, 0), (1190, .iaload, 1191, 0, 0), (1191, .invokevirtual 137, 1194, 0, 0), (1194, .aload_n 2, 1195, 0, 0), (1195, .aload_n 0, 1196, 0, 0), (1196, .iload_n 3, 1197, 0, 0), (1197, .iconst 1, 1198, 0, 1), (1198, .iadd, 1199, 0, 0), (1199, .iaload, 1200, 0, 0), (1200, .aload_n 0, 1201, 0, 0), (1201, .iload_n 3, 1202, 0, 0), (1202, .iconst 2, 1203, 0, 2), (1203, .iadd, 1204, 0, 0), (1204, .iaload, 1205, 0, 0), (1205, .aload_n 0, 1206, 0, 0), (1206, .iload_n 3, 1207, 0, 0), (1207, .iconst 3, 1208, 0, 3), (1208, .iadd, 1209, 0, 0), (1209, .iaload, 1210, 0, 0)]
def sy_c163_22 : List sy_En := [(1210, .invokevirtual 140, 1213, 0, 0), (1213, .if_icmp .eq 42, 1216, 1255, 0), (1216, .iconst 0, 1217, 0, 0), (1217, .ireturn, 1218, 0, 0), (1218, .aload_n 1, 1219, 0, 0), (1219, .aload_n 0, 1220, 0, 0), (1220, .iload_n 3, 1221, 0, 0), (1221, .iconst 1, 1222, 0, 1), (1222, .iadd, 1223, 0, 0), (1223, .iaload, 1224, 0, 0), (1224, .invokevirtual 141, 1227, 0, 0), (1227, .aload_n 2, 1228, 0, 0), (1228, .aload_n 0, 1229, 0, 0), (1229, .iload_n 3, 1230, 0, 0), (1230, .iconst 1, 1231, 0, 1), (1231, .iadd, 1232, 0, 0), (1232, .iaload, 1233, 0, 0), (1233, .invokevirtual 144, 1236, 0, 0), (1236, .if_icmp .eq 19, 1239, 1255, 0), (1239, .iconst 0, 1240, 0, 0), (1240, .ireturn, 1241, 0, 0), (1241, .aload_n 1, 1242, 0, 0), (1242, .invokevirtual 145, 1245, 0, 0), (1245, .aload_n 2, 1246, 0, 0), (1246, .invokevirtual 149, 1249, 0, 0), (1249, .lcmp, 1250, 0, 0), (1250, .ifCond .eq 5, 1253, 1255, 0), (1253, .iconst 0, 1254, 0, 0), (1254, .ireturn, 1255, 0, 0), (1255, .iinc 3 6, 1258, 0, 6), (1258, .goto (-1240), 1261, 18, 0), (1261, .iconst 1, 1262, 0, 1), (1262, .ireturn, 1263, 0, 0)]
def sy_c163 : List sy_En := sy_c163_0 ++ (sy_c163_1 ++ (sy_c163_2 ++ (sy_c163_3 ++ (sy_c163_4 ++ (sy_c163_5 ++ (sy_c163_6 ++ (sy_c163_7 ++ (sy_c163_8 ++ (sy_c163_9 ++ (sy_c163_10 ++ (sy_c163_11 ++ (sy_c163_12 ++ (sy_c163_13 ++ (sy_c163_14 ++ (sy_c163_15 ++ (sy_c163_16 ++ (sy_c163_17 ++ (sy_c163_18 ++ (sy_c163_19 ++ (sy_c163_20 ++ (sy_c163_21 ++ (sy_c163_22))))))))))))))))))))))
def sy_m163 : sy_MI := (sy_c163, cL_law, 4, some .boolean, 11, true, 1, yL_law)
def sy_mi (y : Nat) : sy_MI := (cond (Nat.ble 82 y) (cond (Nat.ble 123 y) (cond (Nat.ble 143 y) (cond (Nat.ble 153 y) (cond (Nat.ble 158 y) (cond (Nat.ble 161 y) (cond (Nat.ble 162 y) (cond (Nat.ble 163 y) sy_m163 sy_m162) sy_m161) (cond (Nat.ble 159 y) (cond (Nat.ble 160 y) sy_m160 sy_m159) sy_m158)) (cond (Nat.ble 155 y) (cond (Nat.ble 156 y) (cond (Nat.ble 157 y) sy_m157 sy_m156) sy_m155) (cond (Nat.ble 154 y) sy_m154 sy_m153))) (cond (Nat.ble 148 y) (cond (Nat.ble 150 y) (cond (Nat.ble 151 y) (cond (Nat.ble 152 y) sy_m152 sy_m151) sy_m150) (cond (Nat.ble 149 y) sy_m149 sy_m148)) (cond (Nat.ble 145 y) (cond (Nat.ble 146 y) (cond (Nat.ble 147 y) sy_m147 sy_m146) sy_m145) (cond (Nat.ble 144 y) sy_m144 sy_m143)))) (cond (Nat.ble 133 y) (cond (Nat.ble 138 y) (cond (Nat.ble 140 y) (cond (Nat.ble 141 y) (cond (Nat.ble 142 y) sy_m142 sy_m141) sy_m140) (cond (Nat.ble 139 y) sy_m139 sy_m138)) (cond (Nat.ble 135 y) (cond (Nat.ble 136 y) (cond (Nat.ble 137 y) sy_m137 sy_m136) sy_m135) (cond (Nat.ble 134 y) sy_m134 sy_m133))) (cond (Nat.ble 128 y) (cond (Nat.ble 130 y) (cond (Nat.ble 131 y) (cond (Nat.ble 132 y) sy_m132 sy_m131) sy_m130) (cond (Nat.ble 129 y) sy_m129 sy_m128)) (cond (Nat.ble 125 y) (cond (Nat.ble 126 y) (cond (Nat.ble 127 y) sy_m127 sy_m126) sy_m125) (cond (Nat.ble 124 y) sy_m124 sy_m123))))) (cond (Nat.ble 102 y) (cond (Nat.ble 112 y) (cond (Nat.ble 117 y) (cond (Nat.ble 120 y) (cond (Nat.ble 121 y) (cond (Nat.ble 122 y) sy_m122 sy_m121) sy_m120) (cond (Nat.ble 118 y) (cond (Nat.ble 119 y) sy_m119 sy_m118) sy_m117)) (cond (Nat.ble 114 y) (cond (Nat.ble 115 y) (cond (Nat.ble 116 y) sy_m116 sy_m115) sy_m114) (cond (Nat.ble 113 y) sy_m113 sy_m112))) (cond (Nat.ble 107 y) (cond (Nat.ble 109 y) (cond (Nat.ble 110 y) (cond (Nat.ble 111 y) sy_m111 sy_m110) sy_m109) (cond (Nat.ble 108 y) sy_m108 sy_m107)) (cond (Nat.ble 104 y) (cond (Nat.ble 105 y) (cond (Nat.ble 106 y) sy_m106 sy_m105) sy_m104) (cond (Nat.ble 103 y) sy_m103 sy_m102)))) (cond (Nat.ble 92 y) (cond (Nat.ble 97 y) (cond (Nat.ble 99 y) (cond (Nat.ble 100 y) (cond (Nat.ble 101 y) sy_m101 sy_m100) sy_m99) (cond (Nat.ble 98 y) sy_m98 sy_m97)) (cond (Nat.ble 94 y) (cond (Nat.ble 95 y) (cond (Nat.ble 96 y) sy_m96 sy_m95) sy_m94) (cond (Nat.ble 93 y) sy_m93 sy_m92))) (cond (Nat.ble 87 y) (cond (Nat.ble 89 y) (cond (Nat.ble 90 y) (cond (Nat.ble 91 y) sy_m91 sy_m90) sy_m89) (cond (Nat.ble 88 y) sy_m88 sy_m87)) (cond (Nat.ble 84 y) (cond (Nat.ble 85 y) (cond (Nat.ble 86 y) sy_m86 sy_m85) sy_m84) (cond (Nat.ble 83 y) sy_m83 sy_m82)))))) (cond (Nat.ble 41 y) (cond (Nat.ble 61 y) (cond (Nat.ble 71 y) (cond (Nat.ble 76 y) (cond (Nat.ble 79 y) (cond (Nat.ble 80 y) (cond (Nat.ble 81 y) sy_m81 sy_m80) sy_m79) (cond (Nat.ble 77 y) (cond (Nat.ble 78 y) sy_m78 sy_m77) sy_m76)) (cond (Nat.ble 73 y) (cond (Nat.ble 74 y) (cond (Nat.ble 75 y) sy_m75 sy_m74) sy_m73) (cond (Nat.ble 72 y) sy_m72 sy_m71))) (cond (Nat.ble 66 y) (cond (Nat.ble 68 y) (cond (Nat.ble 69 y) (cond (Nat.ble 70 y) sy_m70 sy_m69) sy_m68) (cond (Nat.ble 67 y) sy_m67 sy_m66)) (cond (Nat.ble 63 y) (cond (Nat.ble 64 y) (cond (Nat.ble 65 y) sy_m65 sy_m64) sy_m63) (cond (Nat.ble 62 y) sy_m62 sy_m61)))) (cond (Nat.ble 51 y) (cond (Nat.ble 56 y) (cond (Nat.ble 58 y) (cond (Nat.ble 59 y) (cond (Nat.ble 60 y) sy_m60 sy_m59) sy_m58) (cond (Nat.ble 57 y) sy_m57 sy_m56)) (cond (Nat.ble 53 y) (cond (Nat.ble 54 y) (cond (Nat.ble 55 y) sy_m55 sy_m54) sy_m53) (cond (Nat.ble 52 y) sy_m52 sy_m51))) (cond (Nat.ble 46 y) (cond (Nat.ble 48 y) (cond (Nat.ble 49 y) (cond (Nat.ble 50 y) sy_m50 sy_m49) sy_m48) (cond (Nat.ble 47 y) sy_m47 sy_m46)) (cond (Nat.ble 43 y) (cond (Nat.ble 44 y) (cond (Nat.ble 45 y) sy_m45 sy_m44) sy_m43) (cond (Nat.ble 42 y) sy_m42 sy_m41))))) (cond (Nat.ble 20 y) (cond (Nat.ble 30 y) (cond (Nat.ble 35 y) (cond (Nat.ble 38 y) (cond (Nat.ble 39 y) (cond (Nat.ble 40 y) sy_m40 sy_m39) sy_m38) (cond (Nat.ble 36 y) (cond (Nat.ble 37 y) sy_m37 sy_m36) sy_m35)) (cond (Nat.ble 32 y) (cond (Nat.ble 33 y) (cond (Nat.ble 34 y) sy_m34 sy_m33) sy_m32) (cond (Nat.ble 31 y) sy_m31 sy_m30))) (cond (Nat.ble 25 y) (cond (Nat.ble 27 y) (cond (Nat.ble 28 y) (cond (Nat.ble 29 y) sy_m29 sy_m28) sy_m27) (cond (Nat.ble 26 y) sy_m26 sy_m25)) (cond (Nat.ble 22 y) (cond (Nat.ble 23 y) (cond (Nat.ble 24 y) sy_m24 sy_m23) sy_m22) (cond (Nat.ble 21 y) sy_m21 sy_m20)))) (cond (Nat.ble 10 y) (cond (Nat.ble 15 y) (cond (Nat.ble 17 y) (cond (Nat.ble 18 y) (cond (Nat.ble 19 y) sy_m19 sy_m18) sy_m17) (cond (Nat.ble 16 y) sy_m16 sy_m15)) (cond (Nat.ble 12 y) (cond (Nat.ble 13 y) (cond (Nat.ble 14 y) sy_m14 sy_m13) sy_m12) (cond (Nat.ble 11 y) sy_m11 sy_m10))) (cond (Nat.ble 5 y) (cond (Nat.ble 7 y) (cond (Nat.ble 8 y) (cond (Nat.ble 9 y) sy_m9 sy_m8) sy_m7) (cond (Nat.ble 6 y) sy_m6 sy_m5)) (cond (Nat.ble 2 y) (cond (Nat.ble 3 y) (cond (Nat.ble 4 y) sy_m4 sy_m3) sy_m2) (cond (Nat.ble 1 y) sy_m1 sy_m0)))))))
theorem sy_cd {α : Type} {P : α → Prop} {b : Bool} {x y : α} (h : P x) (g : P y) : P (cond b x y) := by cases b <;> assumption
end
section
theorem sy_e0 : sy_c0.all (sy_okE cX0_isFull) = true := by decide +kernel
theorem sy_e1 : sy_c1.all (sy_okE cX0_put) = true := by decide +kernel
theorem sy_e2 : sy_c2.all (sy_okE cX0_empty) = true := by decide +kernel
theorem sy_e3 : sy_c3.all (sy_okE cX0_tryAllSets) = true := by decide +kernel
theorem sy_e4 : sy_c4.all (sy_okE cX0_comesOut) = true := by decide +kernel
theorem sy_e5 : sy_c5.all (sy_okE cX1_power) = true := by decide +kernel
theorem sy_e6 : sy_c6.all (sy_okE cX1_lowest) = true := by decide +kernel
theorem sy_e7 : sy_c7.all (sy_okE cX1_leastFor) = true := by decide +kernel
theorem sy_e8 : sy_c8.all (sy_okE cX1_nightOfTheft) = true := by decide +kernel
theorem sy_e9 : sy_c9.all (sy_okE cX2_mostNights) = true := by decide +kernel
theorem sy_e10 : sy_c10.all (sy_okE cX2_isWorthStealing) = true := by decide +kernel
theorem sy_e11 : sy_c11.all (sy_okE cX2_ceiling) = true := by decide +kernel
theorem sy_e12 : sy_c12.all (sy_okE cX2_nightsWith) = true := by decide +kernel
theorem sy_e13 : sy_c13.all (sy_okE cX2_nightsFrom) = true := by decide +kernel
theorem sy_e14 : sy_c14.all (sy_okE cX2_mostInLast) = true := by decide +kernel
theorem sy_e15 : sy_c15.all (sy_okE cX3_isForm) = true := by decide +kernel
theorem sy_e16 : sy_c16.all (sy_okE cX3_isLost) = true := by decide +kernel
theorem sy_e17 : sy_c17.all (sy_okE cX3_begin) = true := by decide +kernel
theorem sy_e18 : sy_c18.all (sy_okE cX3_end) = true := by decide +kernel
theorem sy_e19 : sy_c19.all (sy_okE cX3_flawOf) = true := by decide +kernel
theorem sy_e20 : sy_c20.all (sy_okE cX3_hasSpan) = true := by decide +kernel
theorem sy_e21 : sy_c21.all (sy_okE cX3_put) = true := by decide +kernel
theorem sy_e22 : sy_c22.all (sy_okE cX4_mayBe) = true := by decide +kernel
theorem sy_e23 : sy_c23.all (sy_okE cX4_isFull) = true := by decide +kernel
theorem sy_e24 : sy_c24.all (sy_okE cX4_put) = true := by decide +kernel
theorem sy_e25 : sy_c25.all (sy_okE cX4_takeLast) = true := by decide +kernel
theorem sy_e26 : sy_c26.all (sy_okE cX4_lastNight) = true := by decide +kernel
theorem sy_e27 : sy_c27.all (sy_okE cX4_isTrueTheft) = true := by decide +kernel
theorem sy_e28 : sy_c28.all (sy_okE cX5_put) = true := by decide +kernel
theorem sy_e29 : sy_c29.all (sy_okE cX5_empty) = true := by decide +kernel
theorem sy_e30 : sy_c30.all (sy_okE cX5_has) = true := by decide +kernel
theorem sy_e31 : sy_c31.all (sy_okE cX5_houseOf) = true := by decide +kernel
theorem sy_e32 : sy_c32.all (sy_okE cX5_isForged) = true := by decide +kernel
theorem sy_e33 : sy_c33.all (sy_okE cX5_realStones) = true := by decide +kernel
theorem sy_e34 : sy_c34.all (sy_okE cX5_lookThrough) = true := by decide +kernel
theorem sy_e35 : sy_c35.all (sy_okE cX5_firstFault) = true := by decide +kernel
theorem sy_e36 : sy_c36.all (sy_okE cX5_fits) = true := by decide +kernel
theorem sy_e37 : sy_c37.all (sy_okE cX6_begin) = true := by decide +kernel
theorem sy_e38 : sy_c38.all (sy_okE cX6_tellTo) = true := by decide +kernel
theorem sy_e39 : sy_c39.all (sy_okE cX6_tellFromStart) = true := by decide +kernel
theorem sy_e40 : sy_c40.all (sy_okE cX6_tellAll) = true := by decide +kernel
theorem sy_e41 : sy_c41.all (sy_okE cX6_tell) = true := by decide +kernel
theorem sy_e42 : sy_c42.all (sy_okE cX6_isLawful) = true := by decide +kernel
theorem sy_e43 : sy_c43.all (sy_okE cX6_isReal) = true := by decide +kernel
theorem sy_e44 : sy_c44.all (sy_okE cX6_isLucky) = true := by decide +kernel
theorem sy_e45 : sy_c45.all (sy_okE cX6_luckOf) = true := by decide +kernel
theorem sy_e46 : sy_c46.all (sy_okE cX6_eggsOf) = true := by decide +kernel
theorem sy_e47 : sy_c47.all (sy_okE cX6_theftBehind) = true := by decide +kernel
theorem sy_e48 : sy_c48.all (sy_okE cX6_luckyHouses) = true := by decide +kernel
theorem sy_e49 : sy_c49.all (sy_okE cX6_luckyDays) = true := by decide +kernel
theorem sy_e50 : sy_c50.all (sy_okE cX6_luckyIfReal) = true := by decide +kernel
theorem sy_e51 : sy_c51.all (sy_okE cX7_type) = true := by decide +kernel
theorem sy_e52 : sy_c52.all (sy_okE cX7_wipe) = true := by decide +kernel
theorem sy_e53 : sy_c53.all (sy_okE cX7_fault) = true := by decide +kernel
theorem sy_e54 : sy_c54.all (sy_okE cX7_stone) = true := by decide +kernel
theorem sy_e55 : sy_c55.all (sy_okE cX7_lasts) = true := by decide +kernel
theorem sy_e56 : sy_c56.all (sy_okE cX7_event) = true := by decide +kernel
theorem sy_e57 : sy_c57.all (sy_okE cX7_read) = true := by decide +kernel
theorem sy_e58 : sy_c58.all (sy_okE cX7_undo) = true := by decide +kernel
theorem sy_e59 : sy_c59.all (sy_okE cX7_judged) = true := by decide +kernel
theorem sy_e60 : sy_c60.all (sy_okE cX7_at) = true := by decide +kernel
theorem sy_e61 : sy_c61.all (sy_okE cX7_luck) = true := by decide +kernel
theorem sy_e62 : sy_c62.all (sy_okE cX7_days) = true := by decide +kernel
theorem sy_e63 : sy_c63.all (sy_okE cX7_led) = true := by decide +kernel
theorem sy_e64 : sy_c64.all (sy_okE cX7_without) = true := by decide +kernel
theorem sy_e65 : sy_c65.all (sy_okE cX7_book) = true := by decide +kernel
theorem sy_e66 : sy_c66.all (sy_okE cX7_forget) = true := by decide +kernel
theorem sy_e67 : sy_c67.all (sy_okE cX7_fitting) = true := by decide +kernel
theorem sy_e68 : sy_c68.all (sy_okE cX7_lets) = true := by decide +kernel
theorem sy_e69 : sy_c69.all (sy_okE cX7_robs) = true := by decide +kernel
theorem sy_e70 : sy_c70.all (sy_okE cX7_guard) = true := by decide +kernel
theorem sy_e71 : sy_c71.all (sy_okE cX7_chance) = true := by decide +kernel
theorem sy_e72 : sy_c72.all (sy_okE cX7_waits) = true := by decide +kernel
theorem sy_e73 : sy_c73.all (sy_okE cX7_careless) = true := by decide +kernel
theorem sy_e74 : sy_c74.all (sy_okE cX7_thief) = true := by decide +kernel
theorem sy_e75 : sy_c75.all (sy_okE cX7_sheet) = true := by decide +kernel
theorem sy_e76 : sy_c76.all (sy_okE cX7_lose) = true := by decide +kernel
theorem sy_e77 : sy_c77.all (sy_okE cX7_lay) = true := by decide +kernel
theorem sy_e78 : sy_c78.all (sy_okE cX7_get) = true := by decide +kernel
theorem sy_e79 : sy_c79.all (sy_okE cX7_copy) = true := by decide +kernel
theorem sy_e80 : sy_c80.all (sy_okE cX7_write) = true := by decide +kernel
theorem sy_e81 : sy_c81.all (sy_okE cX7_count) = true := by decide +kernel
theorem sy_e82 : sy_c82.all (sy_okE cX7_digest) = true := by decide +kernel
theorem sy_e83 : sy_c83.all (sy_okE cX7_withStone) = true := by decide +kernel
theorem sy_e84 : sy_c84.all (sy_okE cX7_withHouse) = true := by decide +kernel
theorem sy_e85 : sy_c85.all (sy_okE cX7_found) = true := by decide +kernel
theorem sy_e86 : sy_c86.all (sy_okE cX7_within) = true := by decide +kernel
theorem sy_e87 : sy_c87.all (sy_okE cX7_isHouse) = true := by decide +kernel
theorem sy_e88 : sy_c88.all (sy_okE cX7_isSheet) = true := by decide +kernel
theorem sy_e89 : sy_c89.all (sy_okE cX8_in) = true := by decide +kernel
theorem sy_e90 : sy_c90.all (sy_okE cX8_no) = true := by decide +kernel
theorem sy_e91 : sy_c91.all (sy_okE cX8_isTwo) = true := by decide +kernel
theorem sy_e92 : sy_c92.all (sy_okE cX8_ones) = true := by decide +kernel
theorem sy_e93 : sy_c93.all (sy_okE cX8_met) = true := by decide +kernel
theorem sy_e94 : sy_c94.all (sy_okE cX8_isSheet) = true := by decide +kernel
theorem sy_e95 : sy_c95.all (sy_okE cX8_sheet) = true := by decide +kernel
theorem sy_e96 : sy_c96.all (sy_okE cX8_lose) = true := by decide +kernel
theorem sy_e97 : sy_c97.all (sy_okE cX8_lacks) = true := by decide +kernel
theorem sy_e98 : sy_c98.all (sy_okE cX8_cut) = true := by decide +kernel
theorem sy_e99 : sy_c99.all (sy_okE cX8_lay) = true := by decide +kernel
theorem sy_e100 : sy_c100.all (sy_okE cX8_get) = true := by decide +kernel
theorem sy_e101 : sy_c101.all (sy_okE cX8_copy) = true := by decide +kernel
theorem sy_e102 : sy_c102.all (sy_okE cX8_type) = true := by decide +kernel
theorem sy_e103 : sy_c103.all (sy_okE cX8_wipe) = true := by decide +kernel
theorem sy_e104 : sy_c104.all (sy_okE cX8_here) = true := by decide +kernel
theorem sy_e105 : sy_c105.all (sy_okE cX8_isHouse) = true := by decide +kernel
theorem sy_e106 : sy_c106.all (sy_okE cX8_none) = true := by decide +kernel
theorem sy_e107 : sy_c107.all (sy_okE cX8_reads) = true := by decide +kernel
theorem sy_e108 : sy_c108.all (sy_okE cX8_fault) = true := by decide +kernel
theorem sy_e109 : sy_c109.all (sy_okE cX8_isStone) = true := by decide +kernel
theorem sy_e110 : sy_c110.all (sy_okE cX8_stoneOf) = true := by decide +kernel
theorem sy_e111 : sy_c111.all (sy_okE cX8_stone) = true := by decide +kernel
theorem sy_e112 : sy_c112.all (sy_okE cX8_lasts) = true := by decide +kernel
theorem sy_e113 : sy_c113.all (sy_okE cX8_isLate) = true := by decide +kernel
theorem sy_e114 : sy_c114.all (sy_okE cX8_event) = true := by decide +kernel
theorem sy_e115 : sy_c115.all (sy_okE cX8_read) = true := by decide +kernel
theorem sy_e116 : sy_c116.all (sy_okE cX8_undo) = true := by decide +kernel
theorem sy_e117 : sy_c117.all (sy_okE cX8_begins) = true := by decide +kernel
theorem sy_e118 : sy_c118.all (sy_okE cX8_isLawful) = true := by decide +kernel
theorem sy_e119 : sy_c119.all (sy_okE cX8_isTrue) = true := by decide +kernel
theorem sy_e120 : sy_c120.all (sy_okE cX8_does) = true := by decide +kernel
theorem sy_e121 : sy_c121.all (sy_okE cX8_goes) = true := by decide +kernel
theorem sy_e122 : sy_c122.all (sy_okE cX8_judged) = true := by decide +kernel
theorem sy_e123 : sy_c123.all (sy_okE cX8_leftAt) = true := by decide +kernel
theorem sy_e124 : sy_c124.all (sy_okE cX8_isLucky) = true := by decide +kernel
theorem sy_e125 : sy_c125.all (sy_okE cX8_isNight) = true := by decide +kernel
theorem sy_e126 : sy_c126.all (sy_okE cX8_stateOf) = true := by decide +kernel
theorem sy_e127 : sy_c127.all (sy_okE cX8_at) = true := by decide +kernel
theorem sy_e128 : sy_c128.all (sy_okE cX8_luckNow) = true := by decide +kernel
theorem sy_e129 : sy_c129.all (sy_okE cX8_luckOf) = true := by decide +kernel
theorem sy_e130 : sy_c130.all (sy_okE cX8_luck) = true := by decide +kernel
theorem sy_e131 : sy_c131.all (sy_okE cX8_daysOf) = true := by decide +kernel
theorem sy_e132 : sy_c132.all (sy_okE cX8_days) = true := by decide +kernel
theorem sy_e133 : sy_c133.all (sy_okE cX8_ledOf) = true := by decide +kernel
theorem sy_e134 : sy_c134.all (sy_okE cX8_led) = true := by decide +kernel
theorem sy_e135 : sy_c135.all (sy_okE cX8_withoutOf) = true := by decide +kernel
theorem sy_e136 : sy_c136.all (sy_okE cX8_without) = true := by decide +kernel
theorem sy_e137 : sy_c137.all (sy_okE cX8_book) = true := by decide +kernel
theorem sy_e138 : sy_c138.all (sy_okE cX8_forget) = true := by decide +kernel
theorem sy_e139 : sy_c139.all (sy_okE cX8_fittingOf) = true := by decide +kernel
theorem sy_e140 : sy_c140.all (sy_okE cX8_fitting) = true := by decide +kernel
theorem sy_e141 : sy_c141.all (sy_okE cX8_copies) = true := by decide +kernel
theorem sy_e142 : sy_c142.all (sy_okE cX8_lucky) = true := by decide +kernel
theorem sy_e143 : sy_c143.all (sy_okE cX8_mayPick) = true := by decide +kernel
theorem sy_e144 : sy_c144.all (sy_okE cX8_letsOf) = true := by decide +kernel
theorem sy_e145 : sy_c145.all (sy_okE cX8_lets) = true := by decide +kernel
theorem sy_e146 : sy_c146.all (sy_okE cX8_robsOf) = true := by decide +kernel
theorem sy_e147 : sy_c147.all (sy_okE cX8_robs) = true := by decide +kernel
theorem sy_e148 : sy_c148.all (sy_okE cX8_guard) = true := by decide +kernel
theorem sy_e149 : sy_c149.all (sy_okE cX8_power) = true := by decide +kernel
theorem sy_e150 : sy_c150.all (sy_okE cX8_part) = true := by decide +kernel
theorem sy_e151 : sy_c151.all (sy_okE cX8_chanceOf) = true := by decide +kernel
theorem sy_e152 : sy_c152.all (sy_okE cX8_chance) = true := by decide +kernel
theorem sy_e153 : sy_c153.all (sy_okE cX8_waitsOf) = true := by decide +kernel
theorem sy_e154 : sy_c154.all (sy_okE cX8_waits) = true := by decide +kernel
theorem sy_e155 : sy_c155.all (sy_okE cX8_carelessOf) = true := by decide +kernel
theorem sy_e156 : sy_c156.all (sy_okE cX8_careless) = true := by decide +kernel
theorem sy_e157 : sy_c157.all (sy_okE cX8_thiefOf) = true := by decide +kernel
theorem sy_e158 : sy_c158.all (sy_okE cX8_thief) = true := by decide +kernel
theorem sy_e159 : sy_c159.all (sy_okE cX8_write) = true := by decide +kernel
theorem sy_e160 : sy_c160.all (sy_okE cX8_count) = true := by decide +kernel
theorem sy_e161 : sy_c161.all (sy_okE cX8_digest) = true := by decide +kernel
theorem sy_e162 : sy_c162.all (sy_okE cJ6_bitCount_0f7a4) = true := by decide +kernel
end
section
theorem sy_e163_0 : sy_c163_0.all (sy_okE cL_law) = true := by decide +kernel
theorem sy_e163_1 : sy_c163_1.all (sy_okE cL_law) = true := by decide +kernel
theorem sy_e163_2 : sy_c163_2.all (sy_okE cL_law) = true := by decide +kernel
theorem sy_e163_3 : sy_c163_3.all (sy_okE cL_law) = true := by decide +kernel
end
section
theorem sy_e163_4 : sy_c163_4.all (sy_okE cL_law) = true := by decide +kernel
theorem sy_e163_5 : sy_c163_5.all (sy_okE cL_law) = true := by decide +kernel
theorem sy_e163_6 : sy_c163_6.all (sy_okE cL_law) = true := by decide +kernel
theorem sy_e163_7 : sy_c163_7.all (sy_okE cL_law) = true := by decide +kernel
end
section
theorem sy_e163_8 : sy_c163_8.all (sy_okE cL_law) = true := by decide +kernel
theorem sy_e163_9 : sy_c163_9.all (sy_okE cL_law) = true := by decide +kernel
theorem sy_e163_10 : sy_c163_10.all (sy_okE cL_law) = true := by decide +kernel
theorem sy_e163_11 : sy_c163_11.all (sy_okE cL_law) = true := by decide +kernel
end
section
theorem sy_e163_12 : sy_c163_12.all (sy_okE cL_law) = true := by decide +kernel
theorem sy_e163_13 : sy_c163_13.all (sy_okE cL_law) = true := by decide +kernel
theorem sy_e163_14 : sy_c163_14.all (sy_okE cL_law) = true := by decide +kernel
theorem sy_e163_15 : sy_c163_15.all (sy_okE cL_law) = true := by decide +kernel
end
section
theorem sy_e163_16 : sy_c163_16.all (sy_okE cL_law) = true := by decide +kernel
theorem sy_e163_17 : sy_c163_17.all (sy_okE cL_law) = true := by decide +kernel
theorem sy_e163_18 : sy_c163_18.all (sy_okE cL_law) = true := by decide +kernel
theorem sy_e163_19 : sy_c163_19.all (sy_okE cL_law) = true := by decide +kernel
end
section
theorem sy_e163_20 : sy_c163_20.all (sy_okE cL_law) = true := by decide +kernel
theorem sy_e163_21 : sy_c163_21.all (sy_okE cL_law) = true := by decide +kernel
theorem sy_e163_22 : sy_c163_22.all (sy_okE cL_law) = true := by decide +kernel
end
section
theorem sy_ap {f : sy_En → Bool} {a b : List sy_En} (ha : a.all f = true) (hb : b.all f = true) : (a ++ b).all f = true := by rw [List.all_append, ha, hb]; rfl
theorem sy_e163 : sy_c163.all (sy_okE cL_law) = true := sy_ap sy_e163_0 (sy_ap sy_e163_1 (sy_ap sy_e163_2 (sy_ap sy_e163_3 (sy_ap sy_e163_4 (sy_ap sy_e163_5 (sy_ap sy_e163_6 (sy_ap sy_e163_7 (sy_ap sy_e163_8 (sy_ap sy_e163_9 (sy_ap sy_e163_10 (sy_ap sy_e163_11 (sy_ap sy_e163_12 (sy_ap sy_e163_13 (sy_ap sy_e163_14 (sy_ap sy_e163_15 (sy_ap sy_e163_16 (sy_ap sy_e163_17 (sy_ap sy_e163_18 (sy_ap sy_e163_19 (sy_ap sy_e163_20 (sy_ap sy_e163_21 sy_e163_22)))))))))))))))))))))
def sy_eP (q : sy_MI) : Prop := q.1.all (sy_okE q.2.1) = true
theorem sy_f0 : sy_eP sy_m0 := sy_e0
theorem sy_f1 : sy_eP sy_m1 := sy_e1
theorem sy_f2 : sy_eP sy_m2 := sy_e2
theorem sy_f3 : sy_eP sy_m3 := sy_e3
theorem sy_f4 : sy_eP sy_m4 := sy_e4
theorem sy_f5 : sy_eP sy_m5 := sy_e5
theorem sy_f6 : sy_eP sy_m6 := sy_e6
theorem sy_f7 : sy_eP sy_m7 := sy_e7
theorem sy_f8 : sy_eP sy_m8 := sy_e8
theorem sy_f9 : sy_eP sy_m9 := sy_e9
theorem sy_f10 : sy_eP sy_m10 := sy_e10
theorem sy_f11 : sy_eP sy_m11 := sy_e11
theorem sy_f12 : sy_eP sy_m12 := sy_e12
theorem sy_f13 : sy_eP sy_m13 := sy_e13
theorem sy_f14 : sy_eP sy_m14 := sy_e14
theorem sy_f15 : sy_eP sy_m15 := sy_e15
theorem sy_f16 : sy_eP sy_m16 := sy_e16
theorem sy_f17 : sy_eP sy_m17 := sy_e17
theorem sy_f18 : sy_eP sy_m18 := sy_e18
theorem sy_f19 : sy_eP sy_m19 := sy_e19
theorem sy_f20 : sy_eP sy_m20 := sy_e20
theorem sy_f21 : sy_eP sy_m21 := sy_e21
theorem sy_f22 : sy_eP sy_m22 := sy_e22
theorem sy_f23 : sy_eP sy_m23 := sy_e23
theorem sy_f24 : sy_eP sy_m24 := sy_e24
theorem sy_f25 : sy_eP sy_m25 := sy_e25
theorem sy_f26 : sy_eP sy_m26 := sy_e26
theorem sy_f27 : sy_eP sy_m27 := sy_e27
theorem sy_f28 : sy_eP sy_m28 := sy_e28
theorem sy_f29 : sy_eP sy_m29 := sy_e29
theorem sy_f30 : sy_eP sy_m30 := sy_e30
theorem sy_f31 : sy_eP sy_m31 := sy_e31
theorem sy_f32 : sy_eP sy_m32 := sy_e32
theorem sy_f33 : sy_eP sy_m33 := sy_e33
theorem sy_f34 : sy_eP sy_m34 := sy_e34
theorem sy_f35 : sy_eP sy_m35 := sy_e35
theorem sy_f36 : sy_eP sy_m36 := sy_e36
theorem sy_f37 : sy_eP sy_m37 := sy_e37
theorem sy_f38 : sy_eP sy_m38 := sy_e38
theorem sy_f39 : sy_eP sy_m39 := sy_e39
theorem sy_f40 : sy_eP sy_m40 := sy_e40
theorem sy_f41 : sy_eP sy_m41 := sy_e41
theorem sy_f42 : sy_eP sy_m42 := sy_e42
theorem sy_f43 : sy_eP sy_m43 := sy_e43
theorem sy_f44 : sy_eP sy_m44 := sy_e44
theorem sy_f45 : sy_eP sy_m45 := sy_e45
theorem sy_f46 : sy_eP sy_m46 := sy_e46
theorem sy_f47 : sy_eP sy_m47 := sy_e47
theorem sy_f48 : sy_eP sy_m48 := sy_e48
theorem sy_f49 : sy_eP sy_m49 := sy_e49
theorem sy_f50 : sy_eP sy_m50 := sy_e50
theorem sy_f51 : sy_eP sy_m51 := sy_e51
theorem sy_f52 : sy_eP sy_m52 := sy_e52
theorem sy_f53 : sy_eP sy_m53 := sy_e53
theorem sy_f54 : sy_eP sy_m54 := sy_e54
theorem sy_f55 : sy_eP sy_m55 := sy_e55
theorem sy_f56 : sy_eP sy_m56 := sy_e56
theorem sy_f57 : sy_eP sy_m57 := sy_e57
theorem sy_f58 : sy_eP sy_m58 := sy_e58
theorem sy_f59 : sy_eP sy_m59 := sy_e59
theorem sy_f60 : sy_eP sy_m60 := sy_e60
theorem sy_f61 : sy_eP sy_m61 := sy_e61
theorem sy_f62 : sy_eP sy_m62 := sy_e62
theorem sy_f63 : sy_eP sy_m63 := sy_e63
theorem sy_f64 : sy_eP sy_m64 := sy_e64
theorem sy_f65 : sy_eP sy_m65 := sy_e65
theorem sy_f66 : sy_eP sy_m66 := sy_e66
theorem sy_f67 : sy_eP sy_m67 := sy_e67
theorem sy_f68 : sy_eP sy_m68 := sy_e68
theorem sy_f69 : sy_eP sy_m69 := sy_e69
theorem sy_f70 : sy_eP sy_m70 := sy_e70
theorem sy_f71 : sy_eP sy_m71 := sy_e71
theorem sy_f72 : sy_eP sy_m72 := sy_e72
theorem sy_f73 : sy_eP sy_m73 := sy_e73
theorem sy_f74 : sy_eP sy_m74 := sy_e74
theorem sy_f75 : sy_eP sy_m75 := sy_e75
theorem sy_f76 : sy_eP sy_m76 := sy_e76
theorem sy_f77 : sy_eP sy_m77 := sy_e77
theorem sy_f78 : sy_eP sy_m78 := sy_e78
theorem sy_f79 : sy_eP sy_m79 := sy_e79
theorem sy_f80 : sy_eP sy_m80 := sy_e80
theorem sy_f81 : sy_eP sy_m81 := sy_e81
theorem sy_f82 : sy_eP sy_m82 := sy_e82
theorem sy_f83 : sy_eP sy_m83 := sy_e83
theorem sy_f84 : sy_eP sy_m84 := sy_e84
theorem sy_f85 : sy_eP sy_m85 := sy_e85
theorem sy_f86 : sy_eP sy_m86 := sy_e86
theorem sy_f87 : sy_eP sy_m87 := sy_e87
theorem sy_f88 : sy_eP sy_m88 := sy_e88
theorem sy_f89 : sy_eP sy_m89 := sy_e89
theorem sy_f90 : sy_eP sy_m90 := sy_e90
theorem sy_f91 : sy_eP sy_m91 := sy_e91
theorem sy_f92 : sy_eP sy_m92 := sy_e92
theorem sy_f93 : sy_eP sy_m93 := sy_e93
theorem sy_f94 : sy_eP sy_m94 := sy_e94
theorem sy_f95 : sy_eP sy_m95 := sy_e95
theorem sy_f96 : sy_eP sy_m96 := sy_e96
theorem sy_f97 : sy_eP sy_m97 := sy_e97
theorem sy_f98 : sy_eP sy_m98 := sy_e98
theorem sy_f99 : sy_eP sy_m99 := sy_e99
theorem sy_f100 : sy_eP sy_m100 := sy_e100
theorem sy_f101 : sy_eP sy_m101 := sy_e101
theorem sy_f102 : sy_eP sy_m102 := sy_e102
theorem sy_f103 : sy_eP sy_m103 := sy_e103
theorem sy_f104 : sy_eP sy_m104 := sy_e104
theorem sy_f105 : sy_eP sy_m105 := sy_e105
theorem sy_f106 : sy_eP sy_m106 := sy_e106
theorem sy_f107 : sy_eP sy_m107 := sy_e107
theorem sy_f108 : sy_eP sy_m108 := sy_e108
theorem sy_f109 : sy_eP sy_m109 := sy_e109
theorem sy_f110 : sy_eP sy_m110 := sy_e110
theorem sy_f111 : sy_eP sy_m111 := sy_e111
theorem sy_f112 : sy_eP sy_m112 := sy_e112
theorem sy_f113 : sy_eP sy_m113 := sy_e113
theorem sy_f114 : sy_eP sy_m114 := sy_e114
theorem sy_f115 : sy_eP sy_m115 := sy_e115
theorem sy_f116 : sy_eP sy_m116 := sy_e116
theorem sy_f117 : sy_eP sy_m117 := sy_e117
theorem sy_f118 : sy_eP sy_m118 := sy_e118
theorem sy_f119 : sy_eP sy_m119 := sy_e119
theorem sy_f120 : sy_eP sy_m120 := sy_e120
theorem sy_f121 : sy_eP sy_m121 := sy_e121
theorem sy_f122 : sy_eP sy_m122 := sy_e122
theorem sy_f123 : sy_eP sy_m123 := sy_e123
theorem sy_f124 : sy_eP sy_m124 := sy_e124
theorem sy_f125 : sy_eP sy_m125 := sy_e125
theorem sy_f126 : sy_eP sy_m126 := sy_e126
theorem sy_f127 : sy_eP sy_m127 := sy_e127
theorem sy_f128 : sy_eP sy_m128 := sy_e128
theorem sy_f129 : sy_eP sy_m129 := sy_e129
theorem sy_f130 : sy_eP sy_m130 := sy_e130
theorem sy_f131 : sy_eP sy_m131 := sy_e131
theorem sy_f132 : sy_eP sy_m132 := sy_e132
theorem sy_f133 : sy_eP sy_m133 := sy_e133
theorem sy_f134 : sy_eP sy_m134 := sy_e134
theorem sy_f135 : sy_eP sy_m135 := sy_e135
theorem sy_f136 : sy_eP sy_m136 := sy_e136
theorem sy_f137 : sy_eP sy_m137 := sy_e137
theorem sy_f138 : sy_eP sy_m138 := sy_e138
theorem sy_f139 : sy_eP sy_m139 := sy_e139
theorem sy_f140 : sy_eP sy_m140 := sy_e140
theorem sy_f141 : sy_eP sy_m141 := sy_e141
theorem sy_f142 : sy_eP sy_m142 := sy_e142
theorem sy_f143 : sy_eP sy_m143 := sy_e143
theorem sy_f144 : sy_eP sy_m144 := sy_e144
theorem sy_f145 : sy_eP sy_m145 := sy_e145
theorem sy_f146 : sy_eP sy_m146 := sy_e146
theorem sy_f147 : sy_eP sy_m147 := sy_e147
theorem sy_f148 : sy_eP sy_m148 := sy_e148
theorem sy_f149 : sy_eP sy_m149 := sy_e149
theorem sy_f150 : sy_eP sy_m150 := sy_e150
theorem sy_f151 : sy_eP sy_m151 := sy_e151
theorem sy_f152 : sy_eP sy_m152 := sy_e152
theorem sy_f153 : sy_eP sy_m153 := sy_e153
theorem sy_f154 : sy_eP sy_m154 := sy_e154
theorem sy_f155 : sy_eP sy_m155 := sy_e155
theorem sy_f156 : sy_eP sy_m156 := sy_e156
theorem sy_f157 : sy_eP sy_m157 := sy_e157
theorem sy_f158 : sy_eP sy_m158 := sy_e158
theorem sy_f159 : sy_eP sy_m159 := sy_e159
theorem sy_f160 : sy_eP sy_m160 := sy_e160
theorem sy_f161 : sy_eP sy_m161 := sy_e161
theorem sy_f162 : sy_eP sy_m162 := sy_e162
theorem sy_f163 : sy_eP sy_m163 := sy_e163
set_option maxRecDepth 100000 in
theorem sy_eAll (y : Nat) : sy_eP (sy_mi y) := (sy_cd (P := sy_eP) (sy_cd (P := sy_eP) (sy_cd (P := sy_eP) (sy_cd (P := sy_eP) (sy_cd (P := sy_eP) (sy_cd (P := sy_eP) (sy_cd (P := sy_eP) (sy_cd (P := sy_eP) sy_f163 sy_f162) sy_f161) (sy_cd (P := sy_eP) (sy_cd (P := sy_eP) sy_f160 sy_f159) sy_f158)) (sy_cd (P := sy_eP) (sy_cd (P := sy_eP) (sy_cd (P := sy_eP) sy_f157 sy_f156) sy_f155) (sy_cd (P := sy_eP) sy_f154 sy_f153))) (sy_cd (P := sy_eP) (sy_cd (P := sy_eP) (sy_cd (P := sy_eP) (sy_cd (P := sy_eP) sy_f152 sy_f151) sy_f150) (sy_cd (P := sy_eP) sy_f149 sy_f148)) (sy_cd (P := sy_eP) (sy_cd (P := sy_eP) (sy_cd (P := sy_eP) sy_f147 sy_f146) sy_f145) (sy_cd (P := sy_eP) sy_f144 sy_f143)))) (sy_cd (P := sy_eP) (sy_cd (P := sy_eP) (sy_cd (P := sy_eP) (sy_cd (P := sy_eP) (sy_cd (P := sy_eP) sy_f142 sy_f141) sy_f140) (sy_cd (P := sy_eP) sy_f139 sy_f138)) (sy_cd (P := sy_eP) (sy_cd (P := sy_eP) (sy_cd (P := sy_eP) sy_f137 sy_f136) sy_f135) (sy_cd (P := sy_eP) sy_f134 sy_f133))) (sy_cd (P := sy_eP) (sy_cd (P := sy_eP) (sy_cd (P := sy_eP) (sy_cd (P := sy_eP) sy_f132 sy_f131) sy_f130) (sy_cd (P := sy_eP) sy_f129 sy_f128)) (sy_cd (P := sy_eP) (sy_cd (P := sy_eP) (sy_cd (P := sy_eP) sy_f127 sy_f126) sy_f125) (sy_cd (P := sy_eP) sy_f124 sy_f123))))) (sy_cd (P := sy_eP) (sy_cd (P := sy_eP) (sy_cd (P := sy_eP) (sy_cd (P := sy_eP) (sy_cd (P := sy_eP) (sy_cd (P := sy_eP) sy_f122 sy_f121) sy_f120) (sy_cd (P := sy_eP) (sy_cd (P := sy_eP) sy_f119 sy_f118) sy_f117)) (sy_cd (P := sy_eP) (sy_cd (P := sy_eP) (sy_cd (P := sy_eP) sy_f116 sy_f115) sy_f114) (sy_cd (P := sy_eP) sy_f113 sy_f112))) (sy_cd (P := sy_eP) (sy_cd (P := sy_eP) (sy_cd (P := sy_eP) (sy_cd (P := sy_eP) sy_f111 sy_f110) sy_f109) (sy_cd (P := sy_eP) sy_f108 sy_f107)) (sy_cd (P := sy_eP) (sy_cd (P := sy_eP) (sy_cd (P := sy_eP) sy_f106 sy_f105) sy_f104) (sy_cd (P := sy_eP) sy_f103 sy_f102)))) (sy_cd (P := sy_eP) (sy_cd (P := sy_eP) (sy_cd (P := sy_eP) (sy_cd (P := sy_eP) (sy_cd (P := sy_eP) sy_f101 sy_f100) sy_f99) (sy_cd (P := sy_eP) sy_f98 sy_f97)) (sy_cd (P := sy_eP) (sy_cd (P := sy_eP) (sy_cd (P := sy_eP) sy_f96 sy_f95) sy_f94) (sy_cd (P := sy_eP) sy_f93 sy_f92))) (sy_cd (P := sy_eP) (sy_cd (P := sy_eP) (sy_cd (P := sy_eP) (sy_cd (P := sy_eP) sy_f91 sy_f90) sy_f89) (sy_cd (P := sy_eP) sy_f88 sy_f87)) (sy_cd (P := sy_eP) (sy_cd (P := sy_eP) (sy_cd (P := sy_eP) sy_f86 sy_f85) sy_f84) (sy_cd (P := sy_eP) sy_f83 sy_f82)))))) (sy_cd (P := sy_eP) (sy_cd (P := sy_eP) (sy_cd (P := sy_eP) (sy_cd (P := sy_eP) (sy_cd (P := sy_eP) (sy_cd (P := sy_eP) (sy_cd (P := sy_eP) sy_f81 sy_f80) sy_f79) (sy_cd (P := sy_eP) (sy_cd (P := sy_eP) sy_f78 sy_f77) sy_f76)) (sy_cd (P := sy_eP) (sy_cd (P := sy_eP) (sy_cd (P := sy_eP) sy_f75 sy_f74) sy_f73) (sy_cd (P := sy_eP) sy_f72 sy_f71))) (sy_cd (P := sy_eP) (sy_cd (P := sy_eP) (sy_cd (P := sy_eP) (sy_cd (P := sy_eP) sy_f70 sy_f69) sy_f68) (sy_cd (P := sy_eP) sy_f67 sy_f66)) (sy_cd (P := sy_eP) (sy_cd (P := sy_eP) (sy_cd (P := sy_eP) sy_f65 sy_f64) sy_f63) (sy_cd (P := sy_eP) sy_f62 sy_f61)))) (sy_cd (P := sy_eP) (sy_cd (P := sy_eP) (sy_cd (P := sy_eP) (sy_cd (P := sy_eP) (sy_cd (P := sy_eP) sy_f60 sy_f59) sy_f58) (sy_cd (P := sy_eP) sy_f57 sy_f56)) (sy_cd (P := sy_eP) (sy_cd (P := sy_eP) (sy_cd (P := sy_eP) sy_f55 sy_f54) sy_f53) (sy_cd (P := sy_eP) sy_f52 sy_f51))) (sy_cd (P := sy_eP) (sy_cd (P := sy_eP) (sy_cd (P := sy_eP) (sy_cd (P := sy_eP) sy_f50 sy_f49) sy_f48) (sy_cd (P := sy_eP) sy_f47 sy_f46)) (sy_cd (P := sy_eP) (sy_cd (P := sy_eP) (sy_cd (P := sy_eP) sy_f45 sy_f44) sy_f43) (sy_cd (P := sy_eP) sy_f42 sy_f41))))) (sy_cd (P := sy_eP) (sy_cd (P := sy_eP) (sy_cd (P := sy_eP) (sy_cd (P := sy_eP) (sy_cd (P := sy_eP) (sy_cd (P := sy_eP) sy_f40 sy_f39) sy_f38) (sy_cd (P := sy_eP) (sy_cd (P := sy_eP) sy_f37 sy_f36) sy_f35)) (sy_cd (P := sy_eP) (sy_cd (P := sy_eP) (sy_cd (P := sy_eP) sy_f34 sy_f33) sy_f32) (sy_cd (P := sy_eP) sy_f31 sy_f30))) (sy_cd (P := sy_eP) (sy_cd (P := sy_eP) (sy_cd (P := sy_eP) (sy_cd (P := sy_eP) sy_f29 sy_f28) sy_f27) (sy_cd (P := sy_eP) sy_f26 sy_f25)) (sy_cd (P := sy_eP) (sy_cd (P := sy_eP) (sy_cd (P := sy_eP) sy_f24 sy_f23) sy_f22) (sy_cd (P := sy_eP) sy_f21 sy_f20)))) (sy_cd (P := sy_eP) (sy_cd (P := sy_eP) (sy_cd (P := sy_eP) (sy_cd (P := sy_eP) (sy_cd (P := sy_eP) sy_f19 sy_f18) sy_f17) (sy_cd (P := sy_eP) sy_f16 sy_f15)) (sy_cd (P := sy_eP) (sy_cd (P := sy_eP) (sy_cd (P := sy_eP) sy_f14 sy_f13) sy_f12) (sy_cd (P := sy_eP) sy_f11 sy_f10))) (sy_cd (P := sy_eP) (sy_cd (P := sy_eP) (sy_cd (P := sy_eP) (sy_cd (P := sy_eP) sy_f9 sy_f8) sy_f7) (sy_cd (P := sy_eP) sy_f6 sy_f5)) (sy_cd (P := sy_eP) (sy_cd (P := sy_eP) (sy_cd (P := sy_eP) sy_f4 sy_f3) sy_f2) (sy_cd (P := sy_eP) sy_f1 sy_f0)))))))
end
section
def sy_k0 : sy_CI := (RX0, [(11, 0, 1), (15, 0, 2), (18, 0, 3), (21, 0, 4), (24, 0, 5), (28, 0, 6), (31, 0, 7), (34, 0, 8), (37, 0, 9), (40, 0, 0), (57, 6, 0), (61, 5, 3)], [(44, 0, 0), (48, 39, 0), (54, 50, 0), (66, 4, 0), (70, 162, 0)], [], [])
def sy_k1 : sy_CI := (RX1, [(9, 1, 0)], [(19, 5, 0)], [(25, 1103515245)], [(15, 2), (17, 16), (23, 100)])
def sy_k2 : sy_CI := (RX2, [(9, 2, 1), (15, 2, 0), (26, 6, 0), (32, 5, 3), (41, 6, 2), (61, 6, 6), (69, 6, 3)], [(19, 11, 0), (23, 13, 0), (37, 10, 0), (45, 12, 0), (49, 43, 0), (52, 48, 0), (56, 162, 0), (64, 0, 3), (72, 14, 0), (75, 9, 0), (78, 44, 0)], [], [])
def sy_k3 : sy_CI := (RX3, [(11, 3, 0), (15, 3, 1), (19, 3, 2)], [(22, 86, 1), (26, 16, 0)], [], [])
def sy_k4 : sy_CI := (RX4, [(11, 4, 0), (15, 4, 1), (18, 4, 2), (21, 4, 3), (24, 4, 4), (27, 4, 5)], [(31, 86, 1), (35, 26, 0), (39, 87, 1), (43, 23, 0)], [], [])
def sy_k5 : sy_CI := (RX5, [(11, 5, 0), (15, 5, 1), (19, 5, 2), (22, 5, 3)], [(25, 34, 0), (28, 32, 0), (32, 35, 0), (36, 36, 0)], [], [])
def sy_k6 : sy_CI := (RX6, [(9, 6, 2), (15, 6, 3), (18, 6, 4), (21, 6, 5), (25, 6, 6), (28, 6, 7), (31, 6, 8), (34, 6, 9), (37, 6, 10), (40, 6, 0), (44, 6, 1), (48, 5, 3), (61, 4, 5), (66, 4, 1), (87, 4, 2), (89, 4, 0), (92, 4, 3)], [(53, 31, 0), (57, 33, 0), (69, 41, 0), (73, 37, 0), (76, 38, 0), (80, 39, 0), (83, 42, 0), (95, 27, 0), (98, 43, 0), (101, 44, 0), (105, 45, 0), (109, 48, 0), (112, 162, 0)], [], [])
def sy_k7 : sy_CI := (RX7, [(10, 7, 0), (19, 7, 1), (28, 7, 2), (37, 7, 3), (44, 7, 4), (51, 7, 5), (57, 7, 6), (61, 7, 7), (78, 5, 2), (91, 6, 6), (114, 3, 0), (118, 3, 2), (124, 4, 5), (131, 6, 9), (138, 6, 2), (144, 6, 3), (172, 0, 6), (175, 0, 7), (178, 0, 8), (181, 0, 9), (190, 2, 1), (193, 1, 0), (236, 3, 1), (258, 5, 3), (261, 5, 1), (264, 6, 8), (267, 6, 10), (270, 0, 5)], [(66, 86, 0), (70, 28, 0), (74, 29, 0), (81, 30, 0), (85, 31, 0), (88, 32, 0), (94, 22, 0), (98, 23, 0), (102, 24, 0), (105, 88, 0), (108, 16, 0), (111, 85, 0), (121, 56, 0), (125, 25, 0), (128, 40, 0), (134, 39, 0), (141, 44, 0), (147, 87, 0), (150, 45, 0), (154, 46, 0), (157, 49, 0), (161, 47, 0), (165, 0, 0), (166, 1, 0), (168, 2, 0), (169, 3, 0), (184, 26, 0), (187, 9, 0), (202, 5, 0), (206, 6, 0), (212, 7, 0), (215, 8, 0), (218, 15, 0), (221, 17, 0), (224, 18, 0), (227, 19, 0), (230, 21, 0), (239, 20, 0), (242, 0, 2), (248, 0, 3), (253, 37, 0), (255, 38, 0), (271, 33, 0), (274, 162, 0), (281, 81, 0), (284, 53, 0), (287, 59, 0), (290, 83, 0), (293, 84, 0), (296, 64, 0), (299, 67, 0), (302, 68, 0), (305, 69, 0), (308, 73, 0), (311, 54, 0), (314, 60, 0), (317, 61, 0), (320, 62, 0), (323, 63, 0), (326, 71, 0), (330, 72, 0), (334, 74, 0)], [(235, (-2147483648))], [(198, (-9223372036854775806)), (200, 16), (210, (-9223372036854775805)), (277, 17), (279, 31)])
def sy_k8 : sy_CI := (RX8, [(7, 8, 0), (13, 8, 1), (16, 8, 2), (19, 8, 3), (22, 8, 5), (25, 8, 9), (28, 8, 11), (32, 8, 13), (35, 8, 14), (38, 8, 15), (41, 8, 16), (44, 8, 21), (47, 8, 22), (50, 8, 23), (53, 8, 24), (56, 8, 25), (65, 8, 4), (91, 8, 6), (94, 8, 7), (99, 8, 8), (102, 8, 10), (129, 8, 12), (147, 8, 17), (150, 8, 18), (153, 8, 19), (208, 8, 20)], [(61, 89, 0), (70, 94, 0), (76, 93, 0), (80, 97, 0), (84, 98, 0), (105, 104, 0), (109, 105, 0), (112, 106, 0), (115, 107, 0), (118, 109, 0), (121, 91, 0), (124, 110, 0), (136, 113, 0), (143, 114, 0), (156, 119, 0), (159, 117, 0), (162, 118, 0), (165, 120, 0), (169, 121, 0), (173, 123, 0), (178, 124, 0), (182, 125, 0), (185, 126, 0), (188, 128, 0), (191, 129, 0), (196, 131, 0), (200, 133, 0), (203, 135, 0), (211, 92, 0), (214, 139, 0), (217, 143, 0), (220, 141, 0), (223, 142, 0), (226, 144, 0), (233, 146, 0), (238, 149, 0), (242, 150, 0), (248, 151, 0), (252, 90, 0), (256, 153, 0), (262, 155, 0), (266, 157, 0), (273, 160, 0)], [(88, (-2147483648)), (265, 1103515245)], [(59, (-9223372036854775808)), (68, 3), (74, 2), (89, 255), (97, 7), (127, 99), (132, 199), (134, 5), (139, 8), (141, 9), (176, 299), (194, (-1)), (206, 19), (229, 30), (231, 200), (236, 16), (246, 12), (260, 100), (269, 17), (271, 31)])
def sy_k9 : sy_CI := (RJ6, [], [], [(265, 1431655765), (266, 858993459), (267, 252645135)], [])
def sy_k10 : sy_CI := (RJ9, [], [], [], [])
def sy_k11 : sy_CI := (RL, [], [(13, 51, 0), (17, 102, 0), (18, 52, 0), (22, 103, 0), (23, 53, 0), (26, 108, 0), (27, 54, 0), (31, 111, 0), (32, 55, 0), (35, 112, 0), (36, 56, 0), (40, 114, 0), (41, 57, 0), (44, 115, 0), (45, 58, 0), (48, 116, 0), (49, 59, 0), (52, 122, 0), (53, 60, 0), (57, 127, 0), (58, 61, 0), (61, 130, 0), (62, 62, 0), (65, 132, 0), (66, 63, 0), (69, 134, 0), (70, 64, 0), (73, 136, 0), (74, 65, 0), (77, 137, 0), (78, 66, 0), (81, 138, 0), (82, 67, 0), (85, 140, 0), (86, 68, 0), (89, 145, 0), (90, 69, 0), (93, 147, 0), (94, 70, 0), (97, 148, 0), (98, 71, 0), (102, 152, 0), (103, 72, 0), (107, 154, 0), (108, 73, 0), (111, 156, 0), (112, 74, 0), (115, 158, 0), (116, 75, 0), (119, 95, 0), (120, 76, 0), (123, 96, 0), (124, 77, 0), (128, 99, 0), (129, 78, 0), (132, 100, 0), (133, 79, 0), (136, 101, 0), (137, 80, 0), (140, 159, 0), (141, 81, 0), (144, 160, 0), (145, 82, 0), (149, 161, 0)], [], [])
def sy_ci (c : Nat) : sy_CI := (cond (Nat.ble 6 c) (cond (Nat.ble 9 c) (cond (Nat.ble 10 c) (cond (Nat.ble 11 c) sy_k11 sy_k10) sy_k9) (cond (Nat.ble 7 c) (cond (Nat.ble 8 c) sy_k8 sy_k7) sy_k6)) (cond (Nat.ble 3 c) (cond (Nat.ble 4 c) (cond (Nat.ble 5 c) sy_k5 sy_k4) sy_k3) (cond (Nat.ble 1 c) (cond (Nat.ble 2 c) sy_k2 sy_k1) sy_k0)))
def sy_fc (nm : String) (q : Nat × Nat × Nat) : Cond := match vwCl[q.2.1]? with
  | some (_, T, _) => .fieldLink nm q.1 (T q.2.2).1 (T q.2.2).2.1 (T q.2.2).2.2.1
  | none => .initialized nm
def sy_mc (nm : String) (q : Nat × Nat × Nat) : Cond := cond (Nat.beq q.2.2 2) (.methodLink nm q.1 arraycopyName) <| cond (Nat.beq q.2.2 3) (.methodLink nm q.1 Lib.Math.min.name) (.methodLink nm q.1 (sy_mi q.2.1).2.2.2.2.2.2.2)
/-- links within the nest: not good words; they are carried apart -/
def sy_nl : List Cond := [.methodLinkNest RX4 31 yX7_within "LuckyStolen", .methodLinkNest RX4 39 yX7_isHouse "LuckyStolen", .methodLinkNest RX3 22 yX7_within "LuckyStolen"]
def sy_nc (nm : String) (q : Nat × Nat × Nat) : Cond := .methodLinkNest nm q.1 (sy_mi q.2.1).2.2.2.2.2.2.2 "LuckyStolen"
def sy_ff (q : Nat × Nat × Nat) : Bool := match vwCl[q.2.1]? with
  | some (_, _, N) => Nat.blt q.2.2 N
  | none => false
theorem sy_kf0 : ∀ w ∈ sy_k0.2.1.map (sy_fc sy_k0.1), w ∈ sy_gT := sy_in _ [194, 195, 196, 197, 198, 200, 202, 204, 206, 193, 130, 79] (by decide +kernel) (by decide +kernel)
theorem sy_kF0 : sy_k0.2.1.all sy_ff = true := by decide +kernel
theorem sy_km0 : ∀ w ∈ (sy_k0.2.2.1.filter (fun q => !(Nat.beq q.2.2 1))).map (sy_mc sy_k0.1), w ∈ sy_gT := sy_in _ [497, 514, 515, 519, 523] (by decide +kernel) (by decide +kernel)
theorem sy_kn0 : ∀ w ∈ (sy_k0.2.2.1.filter (fun q => Nat.beq q.2.2 1)).map (sy_nc sy_k0.1), w ∈ sy_nl := by decide +kernel
theorem sy_kk0 : ∀ w ∈ sy_k0.2.2.2.1.map (fun q => Cond.constant sy_k0.1 q.1 q.2), w ∈ sy_gT := sy_in _ [] (by decide +kernel) (by decide +kernel)
theorem sy_kl0 : ∀ w ∈ sy_k0.2.2.2.2.map (fun q => Cond.constantLong sy_k0.1 q.1 q.2), w ∈ sy_gT := sy_in _ [] (by decide +kernel) (by decide +kernel)
theorem sy_kf1 : ∀ w ∈ sy_k1.2.1.map (sy_fc sy_k1.1), w ∈ sy_gT := sy_in _ [235] (by decide +kernel) (by decide +kernel)
theorem sy_kF1 : sy_k1.2.1.all sy_ff = true := by decide +kernel
theorem sy_km1 : ∀ w ∈ (sy_k1.2.2.1.filter (fun q => !(Nat.beq q.2.2 1))).map (sy_mc sy_k1.1), w ∈ sy_gT := sy_in _ [595] (by decide +kernel) (by decide +kernel)
theorem sy_kn1 : ∀ w ∈ (sy_k1.2.2.1.filter (fun q => Nat.beq q.2.2 1)).map (sy_nc sy_k1.1), w ∈ sy_nl := by decide +kernel
theorem sy_kk1 : ∀ w ∈ sy_k1.2.2.2.1.map (fun q => Cond.constant sy_k1.1 q.1 q.2), w ∈ sy_gT := sy_in _ [605] (by decide +kernel) (by decide +kernel)
theorem sy_kl1 : ∀ w ∈ sy_k1.2.2.2.2.map (fun q => Cond.constantLong sy_k1.1 q.1 q.2), w ∈ sy_gT := sy_in _ [581, 594, 596] (by decide +kernel) (by decide +kernel)
theorem sy_kf2 : ∀ w ∈ sy_k2.2.1.map (sy_fc sy_k2.1), w ∈ sy_gT := sy_in _ [180, 179, 129, 78, 133, 141, 136] (by decide +kernel) (by decide +kernel)
theorem sy_kF2 : sy_k2.2.1.all sy_ff = true := by decide +kernel
theorem sy_km2 : ∀ w ∈ (sy_k2.2.2.1.filter (fun q => !(Nat.beq q.2.2 1))).map (sy_mc sy_k2.1), w ∈ sy_gT := sy_in _ [533, 547, 537, 557, 541, 542, 543, 544, 551, 556, 555] (by decide +kernel) (by decide +kernel)
theorem sy_kn2 : ∀ w ∈ (sy_k2.2.2.1.filter (fun q => Nat.beq q.2.2 1)).map (sy_nc sy_k2.1), w ∈ sy_nl := by decide +kernel
theorem sy_kk2 : ∀ w ∈ sy_k2.2.2.2.1.map (fun q => Cond.constant sy_k2.1 q.1 q.2), w ∈ sy_gT := sy_in _ [] (by decide +kernel) (by decide +kernel)
theorem sy_kl2 : ∀ w ∈ sy_k2.2.2.2.2.map (fun q => Cond.constantLong sy_k2.1 q.1 q.2), w ∈ sy_gT := sy_in _ [] (by decide +kernel) (by decide +kernel)
theorem sy_kf3 : ∀ w ∈ sy_k3.2.1.map (sy_fc sy_k3.1), w ∈ sy_gT := sy_in _ [247, 249, 251] (by decide +kernel) (by decide +kernel)
theorem sy_kF3 : sy_k3.2.1.all sy_ff = true := by decide +kernel
theorem sy_km3 : ∀ w ∈ (sy_k3.2.2.1.filter (fun q => !(Nat.beq q.2.2 1))).map (sy_mc sy_k3.1), w ∈ sy_gT := sy_in _ [634] (by decide +kernel) (by decide +kernel)
theorem sy_kn3 : ∀ w ∈ (sy_k3.2.2.1.filter (fun q => Nat.beq q.2.2 1)).map (sy_nc sy_k3.1), w ∈ sy_nl := by decide +kernel
theorem sy_kk3 : ∀ w ∈ sy_k3.2.2.2.1.map (fun q => Cond.constant sy_k3.1 q.1 q.2), w ∈ sy_gT := sy_in _ [] (by decide +kernel) (by decide +kernel)
theorem sy_kl3 : ∀ w ∈ sy_k3.2.2.2.2.map (fun q => Cond.constantLong sy_k3.1 q.1 q.2), w ∈ sy_gT := sy_in _ [] (by decide +kernel) (by decide +kernel)
theorem sy_kf4 : ∀ w ∈ sy_k4.2.1.map (sy_fc sy_k4.1), w ∈ sy_gT := sy_in _ [97, 99, 101, 103, 105, 106] (by decide +kernel) (by decide +kernel)
theorem sy_kF4 : sy_k4.2.1.all sy_ff = true := by decide +kernel
theorem sy_km4 : ∀ w ∈ (sy_k4.2.2.1.filter (fun q => !(Nat.beq q.2.2 1))).map (sy_mc sy_k4.1), w ∈ sy_gT := sy_in _ [349, 364] (by decide +kernel) (by decide +kernel)
theorem sy_kn4 : ∀ w ∈ (sy_k4.2.2.1.filter (fun q => Nat.beq q.2.2 1)).map (sy_nc sy_k4.1), w ∈ sy_nl := by decide +kernel
theorem sy_kk4 : ∀ w ∈ sy_k4.2.2.2.1.map (fun q => Cond.constant sy_k4.1 q.1 q.2), w ∈ sy_gT := sy_in _ [] (by decide +kernel) (by decide +kernel)
theorem sy_kl4 : ∀ w ∈ sy_k4.2.2.2.2.map (fun q => Cond.constantLong sy_k4.1 q.1 q.2), w ∈ sy_gT := sy_in _ [] (by decide +kernel) (by decide +kernel)
theorem sy_kf5 : ∀ w ∈ sy_k5.2.1.map (sy_fc sy_k5.1), w ∈ sy_gT := sy_in _ [71, 72, 74, 76] (by decide +kernel) (by decide +kernel)
theorem sy_kF5 : sy_k5.2.1.all sy_ff = true := by decide +kernel
theorem sy_km5 : ∀ w ∈ (sy_k5.2.2.1.filter (fun q => !(Nat.beq q.2.2 1))).map (sy_mc sy_k5.1), w ∈ sy_gT := sy_in _ [296, 410, 300, 304] (by decide +kernel) (by decide +kernel)
theorem sy_kn5 : ∀ w ∈ (sy_k5.2.2.1.filter (fun q => Nat.beq q.2.2 1)).map (sy_nc sy_k5.1), w ∈ sy_nl := by decide +kernel
theorem sy_kk5 : ∀ w ∈ sy_k5.2.2.2.1.map (fun q => Cond.constant sy_k5.1 q.1 q.2), w ∈ sy_gT := sy_in _ [] (by decide +kernel) (by decide +kernel)
theorem sy_kl5 : ∀ w ∈ sy_k5.2.2.2.2.map (fun q => Cond.constantLong sy_k5.1 q.1 q.2), w ∈ sy_gT := sy_in _ [] (by decide +kernel) (by decide +kernel)
theorem sy_kf6 : ∀ w ∈ sy_k6.2.1.map (sy_fc sy_k6.1), w ∈ sy_gT := sy_in _ [132, 135, 138, 139, 140, 143, 144, 146, 148, 128, 131, 77, 107, 100, 102, 98, 104] (by decide +kernel) (by decide +kernel)
theorem sy_kF6 : sy_k6.2.1.all sy_ff = true := by decide +kernel
theorem sy_km6 : ∀ w ∈ (sy_k6.2.2.1.filter (fun q => !(Nat.beq q.2.2 1))).map (sy_mc sy_k6.1), w ∈ sy_gT := sy_in _ [405, 406, 415, 401, 411, 397, 419, 423, 436, 449, 454, 463, 467] (by decide +kernel) (by decide +kernel)
theorem sy_kn6 : ∀ w ∈ (sy_k6.2.2.1.filter (fun q => Nat.beq q.2.2 1)).map (sy_nc sy_k6.1), w ∈ sy_nl := by decide +kernel
theorem sy_kk6 : ∀ w ∈ sy_k6.2.2.2.1.map (fun q => Cond.constant sy_k6.1 q.1 q.2), w ∈ sy_gT := sy_in _ [] (by decide +kernel) (by decide +kernel)
theorem sy_kl6 : ∀ w ∈ sy_k6.2.2.2.2.map (fun q => Cond.constantLong sy_k6.1 q.1 q.2), w ∈ sy_gT := sy_in _ [] (by decide +kernel) (by decide +kernel)
theorem sy_kf7 : ∀ w ∈ sy_k7.2.1.map (sy_fc sy_k7.1), w ∈ sy_gT := sy_in _ [260, 261, 262, 263, 264, 265, 266, 267, 75, 142, 248, 252, 108, 147, 134, 137, 201, 203, 205, 207, 181, 236, 250, 80, 73, 145, 149, 199] (by decide +kernel) (by decide +kernel)
theorem sy_kF7 : sy_k7.2.1.all sy_ff = true := by decide +kernel
theorem sy_km7 : ∀ w ∈ (sy_k7.2.2.1.filter (fun q => !(Nat.beq q.2.2 1))).map (sy_mc sy_k7.1), w ∈ sy_gT := sy_in _ [289, 292, 312, 324, 328, 332, 344, 356, 360, 369, 372, 376, 380, 385, 393, 431, 432, 444, 445, 450, 459, 477, 489, 493, 502, 510, 528, 529, 575, 578, 591, 601, 610, 614, 622, 630, 635, 648, 652, 659, 660, 661, 666, 667, 674, 675, 676, 677, 683, 693, 694, 695, 696, 697, 681, 682, 687, 688, 689, 690, 691, 692] (by decide +kernel) (by decide +kernel)
theorem sy_kn7 : ∀ w ∈ (sy_k7.2.2.1.filter (fun q => Nat.beq q.2.2 1)).map (sy_nc sy_k7.1), w ∈ sy_nl := by decide +kernel
theorem sy_kk7 : ∀ w ∈ sy_k7.2.2.2.1.map (fun q => Cond.constant sy_k7.1 q.1 q.2), w ∈ sy_gT := sy_in _ [643] (by decide +kernel) (by decide +kernel)
theorem sy_kl7 : ∀ w ∈ sy_k7.2.2.2.2.map (fun q => Cond.constantLong sy_k7.1 q.1 q.2), w ∈ sy_gT := sy_in _ [573, 574, 586, 672, 673] (by decide +kernel) (by decide +kernel)
theorem sy_kf8 : ∀ w ∈ sy_k8.2.1.map (sy_fc sy_k8.1), w ∈ sy_gT := sy_in _ [704, 705, 706, 707, 709, 713, 715, 717, 718, 719, 720, 725, 726, 727, 728, 729, 708, 710, 711, 712, 714, 716, 721, 722, 723, 724] (by decide +kernel) (by decide +kernel)
theorem sy_kF8 : sy_k8.2.1.all sy_ff = true := by decide +kernel
theorem sy_km8 : ∀ w ∈ (sy_k8.2.2.1.filter (fun q => !(Nat.beq q.2.2 1))).map (sy_mc sy_k8.1), w ∈ sy_gT := sy_in _ [791, 787, 795, 807, 811, 840, 844, 848, 836, 856, 860, 863, 877, 888, 913, 901, 905, 909, 897, 933, 929, 921, 925, 945, 941, 954, 962, 970, 991, 987, 1002, 1006, 1010, 998, 1020, 1038, 1041, 1034, 1044, 1052, 1061, 1068, 1087] (by decide +kernel) (by decide +kernel)
theorem sy_kn8 : ∀ w ∈ (sy_k8.2.2.1.filter (fun q => Nat.beq q.2.2 1)).map (sy_nc sy_k8.1), w ∈ sy_nl := by decide +kernel
theorem sy_kk8 : ∀ w ∈ sy_k8.2.2.2.1.map (fun q => Cond.constant sy_k8.1 q.1 q.2), w ∈ sy_gT := sy_in _ [818, 1072] (by decide +kernel) (by decide +kernel)
theorem sy_kl8 : ∀ w ∈ sy_k8.2.2.2.2.map (fun q => Cond.constantLong sy_k8.1 q.1 q.2), w ∈ sy_gT := sy_in _ [1047, 790, 794, 827, 847, 871, 881, 876, 882, 883, 924, 953, 978, 1018, 1019, 1028, 1033, 1060, 1085, 1086] (by decide +kernel) (by decide +kernel)
theorem sy_kf9 : ∀ w ∈ sy_k9.2.1.map (sy_fc sy_k9.1), w ∈ sy_gT := sy_in _ [] (by decide +kernel) (by decide +kernel)
theorem sy_kF9 : sy_k9.2.1.all sy_ff = true := by decide +kernel
theorem sy_km9 : ∀ w ∈ (sy_k9.2.2.1.filter (fun q => !(Nat.beq q.2.2 1))).map (sy_mc sy_k9.1), w ∈ sy_gT := sy_in _ [] (by decide +kernel) (by decide +kernel)
theorem sy_kn9 : ∀ w ∈ (sy_k9.2.2.1.filter (fun q => Nat.beq q.2.2 1)).map (sy_nc sy_k9.1), w ∈ sy_nl := by decide +kernel
theorem sy_kk9 : ∀ w ∈ sy_k9.2.2.2.1.map (fun q => Cond.constant sy_k9.1 q.1 q.2), w ∈ sy_gT := sy_in _ [470, 471, 472] (by decide +kernel) (by decide +kernel)
theorem sy_kl9 : ∀ w ∈ sy_k9.2.2.2.2.map (fun q => Cond.constantLong sy_k9.1 q.1 q.2), w ∈ sy_gT := sy_in _ [] (by decide +kernel) (by decide +kernel)
theorem sy_kf10 : ∀ w ∈ sy_k10.2.1.map (sy_fc sy_k10.1), w ∈ sy_gT := sy_in _ [] (by decide +kernel) (by decide +kernel)
theorem sy_kF10 : sy_k10.2.1.all sy_ff = true := by decide +kernel
theorem sy_km10 : ∀ w ∈ (sy_k10.2.2.1.filter (fun q => !(Nat.beq q.2.2 1))).map (sy_mc sy_k10.1), w ∈ sy_gT := sy_in _ [] (by decide +kernel) (by decide +kernel)
theorem sy_kn10 : ∀ w ∈ (sy_k10.2.2.1.filter (fun q => Nat.beq q.2.2 1)).map (sy_nc sy_k10.1), w ∈ sy_nl := by decide +kernel
theorem sy_kk10 : ∀ w ∈ sy_k10.2.2.2.1.map (fun q => Cond.constant sy_k10.1 q.1 q.2), w ∈ sy_gT := sy_in _ [] (by decide +kernel) (by decide +kernel)
theorem sy_kl10 : ∀ w ∈ sy_k10.2.2.2.2.map (fun q => Cond.constantLong sy_k10.1 q.1 q.2), w ∈ sy_gT := sy_in _ [] (by decide +kernel) (by decide +kernel)
theorem sy_kf11 : ∀ w ∈ sy_k11.2.1.map (sy_fc sy_k11.1), w ∈ sy_gT := sy_in _ [] (by decide +kernel) (by decide +kernel)
theorem sy_kF11 : sy_k11.2.1.all sy_ff = true := by decide +kernel
theorem sy_km11 : ∀ w ∈ (sy_k11.2.2.1.filter (fun q => !(Nat.beq q.2.2 1))).map (sy_mc sy_k11.1), w ∈ sy_gT := sy_in _ [285, 823, 308, 828, 316, 832, 320, 852, 336, 867, 340, 872, 365, 884, 381, 889, 389, 893, 427, 917, 440, 937, 455, 949, 473, 958, 481, 966, 485, 974, 498, 979, 506, 983, 524, 994, 561, 1014, 565, 1024, 569, 1029, 582, 1048, 587, 1056, 597, 1064, 606, 783, 618, 799, 626, 803, 639, 814, 644, 819, 655, 1073, 662, 1077, 668, 1081] (by decide +kernel) (by decide +kernel)
theorem sy_kn11 : ∀ w ∈ (sy_k11.2.2.1.filter (fun q => Nat.beq q.2.2 1)).map (sy_nc sy_k11.1), w ∈ sy_nl := by decide +kernel
theorem sy_kk11 : ∀ w ∈ sy_k11.2.2.2.1.map (fun q => Cond.constant sy_k11.1 q.1 q.2), w ∈ sy_gT := sy_in _ [] (by decide +kernel) (by decide +kernel)
theorem sy_kl11 : ∀ w ∈ sy_k11.2.2.2.2.map (fun q => Cond.constantLong sy_k11.1 q.1 q.2), w ∈ sy_gT := sy_in _ [] (by decide +kernel) (by decide +kernel)
/-- what holds of a class's links -/
def sy_kOK (k : sy_CI) : Prop := (∀ w ∈ k.2.1.map (sy_fc k.1), w ∈ sy_gT) ∧ k.2.1.all sy_ff = true ∧ (∀ w ∈ (k.2.2.1.filter (fun q => !(Nat.beq q.2.2 1))).map (sy_mc k.1), w ∈ sy_gT) ∧ (∀ w ∈ (k.2.2.1.filter (fun q => Nat.beq q.2.2 1)).map (sy_nc k.1), w ∈ sy_nl) ∧ (∀ w ∈ k.2.2.2.1.map (fun q => Cond.constant k.1 q.1 q.2), w ∈ sy_gT) ∧ ∀ w ∈ k.2.2.2.2.map (fun q => Cond.constantLong k.1 q.1 q.2), w ∈ sy_gT
theorem sy_kAll (c : Nat) : sy_kOK (sy_ci c) := (sy_cd (P := sy_kOK) (sy_cd (P := sy_kOK) (sy_cd (P := sy_kOK) (sy_cd (P := sy_kOK) ⟨sy_kf11, sy_kF11, sy_km11, sy_kn11, sy_kk11, sy_kl11⟩ ⟨sy_kf10, sy_kF10, sy_km10, sy_kn10, sy_kk10, sy_kl10⟩) ⟨sy_kf9, sy_kF9, sy_km9, sy_kn9, sy_kk9, sy_kl9⟩) (sy_cd (P := sy_kOK) (sy_cd (P := sy_kOK) ⟨sy_kf8, sy_kF8, sy_km8, sy_kn8, sy_kk8, sy_kl8⟩ ⟨sy_kf7, sy_kF7, sy_km7, sy_kn7, sy_kk7, sy_kl7⟩) ⟨sy_kf6, sy_kF6, sy_km6, sy_kn6, sy_kk6, sy_kl6⟩)) (sy_cd (P := sy_kOK) (sy_cd (P := sy_kOK) (sy_cd (P := sy_kOK) ⟨sy_kf5, sy_kF5, sy_km5, sy_kn5, sy_kk5, sy_kl5⟩ ⟨sy_kf4, sy_kF4, sy_km4, sy_kn4, sy_kk4, sy_kl4⟩) ⟨sy_kf3, sy_kF3, sy_km3, sy_kn3, sy_kk3, sy_kl3⟩) (sy_cd (P := sy_kOK) (sy_cd (P := sy_kOK) ⟨sy_kf2, sy_kF2, sy_km2, sy_kn2, sy_kk2, sy_kl2⟩ ⟨sy_kf1, sy_kF1, sy_km1, sy_kn1, sy_kk1, sy_kl1⟩) ⟨sy_kf0, sy_kF0, sy_km0, sy_kn0, sy_kk0, sy_kl0⟩)))
theorem sy_jw : ∀ w ∈ ([.native arraycopyName, .static arraycopyName, .initialized "java/lang/System", .static Lib.Math.min.name, .initialized "java/lang/Math", .code Lib.Math.min.name Lib.Math.min.code 2 (some .int)] : List Cond), w ∈ sy_gT := sy_in _ [654, 653, 56, 545, 55, 546] (by decide +kernel) (by decide +kernel)
/-- the words of a method -/
def sy_wl (q : sy_MI) : List Cond := .code q.2.2.2.2.2.2.2 q.2.1 q.2.2.1 q.2.2.2.1 :: .initialized q.2.2.2.2.2.2.2.cls :: cond q.2.2.2.2.2.1 [.static q.2.2.2.2.2.2.2] [.instanceMethod q.2.2.2.2.2.2.2, .selects q.2.2.2.2.2.2.2.cls q.2.2.2.2.2.2.2 q.2.2.2.2.2.2.2]
theorem sy_w0 : ∀ w ∈ sy_wl sy_m0, w ∈ sy_gT := sy_in _ [492, 50, 490, 491] (by decide +kernel) (by decide +kernel)
theorem sy_w1 : ∀ w ∈ sy_wl sy_m1, w ∈ sy_gT := sy_in _ [496, 50, 494, 495] (by decide +kernel) (by decide +kernel)
theorem sy_w2 : ∀ w ∈ sy_wl sy_m2, w ∈ sy_gT := sy_in _ [505, 50, 503, 504] (by decide +kernel) (by decide +kernel)
theorem sy_w3 : ∀ w ∈ sy_wl sy_m3, w ∈ sy_gT := sy_in _ [513, 50, 511, 512] (by decide +kernel) (by decide +kernel)
theorem sy_w4 : ∀ w ∈ sy_wl sy_m4, w ∈ sy_gT := sy_in _ [522, 50, 521, 6] (by decide +kernel) (by decide +kernel)
theorem sy_w5 : ∀ w ∈ sy_wl sy_m5, w ∈ sy_gT := sy_in _ [577, 51, 576] (by decide +kernel) (by decide +kernel)
theorem sy_w6 : ∀ w ∈ sy_wl sy_m6, w ∈ sy_gT := sy_in _ [580, 51, 579] (by decide +kernel) (by decide +kernel)
theorem sy_w7 : ∀ w ∈ sy_wl sy_m7, w ∈ sy_gT := sy_in _ [593, 51, 592] (by decide +kernel) (by decide +kernel)
theorem sy_w8 : ∀ w ∈ sy_wl sy_m8, w ∈ sy_gT := sy_in _ [604, 51, 602, 603] (by decide +kernel) (by decide +kernel)
theorem sy_w9 : ∀ w ∈ sy_wl sy_m9, w ∈ sy_gT := sy_in _ [532, 49, 530, 531] (by decide +kernel) (by decide +kernel)
theorem sy_w10 : ∀ w ∈ sy_wl sy_m10, w ∈ sy_gT := sy_in _ [540, 49, 539, 8] (by decide +kernel) (by decide +kernel)
theorem sy_w11 : ∀ w ∈ sy_wl sy_m11, w ∈ sy_gT := sy_in _ [536, 49, 535, 7] (by decide +kernel) (by decide +kernel)
theorem sy_w12 : ∀ w ∈ sy_wl sy_m12, w ∈ sy_gT := sy_in _ [560, 49, 559, 11] (by decide +kernel) (by decide +kernel)
theorem sy_w13 : ∀ w ∈ sy_wl sy_m13, w ∈ sy_gT := sy_in _ [550, 49, 549, 9] (by decide +kernel) (by decide +kernel)
theorem sy_w14 : ∀ w ∈ sy_wl sy_m14, w ∈ sy_gT := sy_in _ [554, 49, 553, 10] (by decide +kernel) (by decide +kernel)
theorem sy_w15 : ∀ w ∈ sy_wl sy_m15, w ∈ sy_gT := sy_in _ [612, 52, 611] (by decide +kernel) (by decide +kernel)
theorem sy_w16 : ∀ w ∈ sy_wl sy_m16, w ∈ sy_gT := sy_in _ [375, 52, 373, 374] (by decide +kernel) (by decide +kernel)
theorem sy_w17 : ∀ w ∈ sy_wl sy_m17, w ∈ sy_gT := sy_in _ [617, 52, 615, 616] (by decide +kernel) (by decide +kernel)
theorem sy_w18 : ∀ w ∈ sy_wl sy_m18, w ∈ sy_gT := sy_in _ [625, 52, 623, 624] (by decide +kernel) (by decide +kernel)
theorem sy_w19 : ∀ w ∈ sy_wl sy_m19, w ∈ sy_gT := sy_in _ [633, 52, 631, 632] (by decide +kernel) (by decide +kernel)
theorem sy_w20 : ∀ w ∈ sy_wl sy_m20, w ∈ sy_gT := sy_in _ [651, 52, 649, 650] (by decide +kernel) (by decide +kernel)
theorem sy_w21 : ∀ w ∈ sy_wl sy_m21, w ∈ sy_gT := sy_in _ [638, 52, 636, 637] (by decide +kernel) (by decide +kernel)
theorem sy_w22 : ∀ w ∈ sy_wl sy_m22, w ∈ sy_gT := sy_in _ [347, 47, 345, 346] (by decide +kernel) (by decide +kernel)
theorem sy_w23 : ∀ w ∈ sy_wl sy_m23, w ∈ sy_gT := sy_in _ [359, 47, 357, 358] (by decide +kernel) (by decide +kernel)
theorem sy_w24 : ∀ w ∈ sy_wl sy_m24, w ∈ sy_gT := sy_in _ [363, 47, 361, 362] (by decide +kernel) (by decide +kernel)
theorem sy_w25 : ∀ w ∈ sy_wl sy_m25, w ∈ sy_gT := sy_in _ [388, 47, 386, 387] (by decide +kernel) (by decide +kernel)
theorem sy_w26 : ∀ w ∈ sy_wl sy_m26, w ∈ sy_gT := sy_in _ [352, 47, 350, 351] (by decide +kernel) (by decide +kernel)
theorem sy_w27 : ∀ w ∈ sy_wl sy_m27, w ∈ sy_gT := sy_in _ [426, 47, 424, 425] (by decide +kernel) (by decide +kernel)
theorem sy_w28 : ∀ w ∈ sy_wl sy_m28, w ∈ sy_gT := sy_in _ [295, 46, 293, 294] (by decide +kernel) (by decide +kernel)
theorem sy_w29 : ∀ w ∈ sy_wl sy_m29, w ∈ sy_gT := sy_in _ [315, 46, 313, 314] (by decide +kernel) (by decide +kernel)
theorem sy_w30 : ∀ w ∈ sy_wl sy_m30, w ∈ sy_gT := sy_in _ [327, 46, 325, 326] (by decide +kernel) (by decide +kernel)
theorem sy_w31 : ∀ w ∈ sy_wl sy_m31, w ∈ sy_gT := sy_in _ [331, 46, 329, 330] (by decide +kernel) (by decide +kernel)
theorem sy_w32 : ∀ w ∈ sy_wl sy_m32, w ∈ sy_gT := sy_in _ [335, 46, 333, 334] (by decide +kernel) (by decide +kernel)
theorem sy_w33 : ∀ w ∈ sy_wl sy_m33, w ∈ sy_gT := sy_in _ [409, 46, 407, 408] (by decide +kernel) (by decide +kernel)
theorem sy_w34 : ∀ w ∈ sy_wl sy_m34, w ∈ sy_gT := sy_in _ [299, 46, 298, 0] (by decide +kernel) (by decide +kernel)
theorem sy_w35 : ∀ w ∈ sy_wl sy_m35, w ∈ sy_gT := sy_in _ [303, 46, 302, 1] (by decide +kernel) (by decide +kernel)
theorem sy_w36 : ∀ w ∈ sy_wl sy_m36, w ∈ sy_gT := sy_in _ [307, 46, 306, 2] (by decide +kernel) (by decide +kernel)
theorem sy_w37 : ∀ w ∈ sy_wl sy_m37, w ∈ sy_gT := sy_in _ [404, 48, 402, 403] (by decide +kernel) (by decide +kernel)
theorem sy_w38 : ∀ w ∈ sy_wl sy_m38, w ∈ sy_gT := sy_in _ [414, 48, 412, 413] (by decide +kernel) (by decide +kernel)
theorem sy_w39 : ∀ w ∈ sy_wl sy_m39, w ∈ sy_gT := sy_in _ [400, 48, 398, 399] (by decide +kernel) (by decide +kernel)
theorem sy_w40 : ∀ w ∈ sy_wl sy_m40, w ∈ sy_gT := sy_in _ [396, 48, 394, 395] (by decide +kernel) (by decide +kernel)
theorem sy_w41 : ∀ w ∈ sy_wl sy_m41, w ∈ sy_gT := sy_in _ [418, 48, 417, 4] (by decide +kernel) (by decide +kernel)
theorem sy_w42 : ∀ w ∈ sy_wl sy_m42, w ∈ sy_gT := sy_in _ [422, 48, 421, 5] (by decide +kernel) (by decide +kernel)
theorem sy_w43 : ∀ w ∈ sy_wl sy_m43, w ∈ sy_gT := sy_in _ [439, 48, 437, 438] (by decide +kernel) (by decide +kernel)
theorem sy_w44 : ∀ w ∈ sy_wl sy_m44, w ∈ sy_gT := sy_in _ [435, 48, 433, 434] (by decide +kernel) (by decide +kernel)
theorem sy_w45 : ∀ w ∈ sy_wl sy_m45, w ∈ sy_gT := sy_in _ [448, 48, 446, 447] (by decide +kernel) (by decide +kernel)
theorem sy_w46 : ∀ w ∈ sy_wl sy_m46, w ∈ sy_gT := sy_in _ [453, 48, 451, 452] (by decide +kernel) (by decide +kernel)
theorem sy_w47 : ∀ w ∈ sy_wl sy_m47, w ∈ sy_gT := sy_in _ [480, 48, 478, 479] (by decide +kernel) (by decide +kernel)
theorem sy_w48 : ∀ w ∈ sy_wl sy_m48, w ∈ sy_gT := sy_in _ [466, 48, 464, 465] (by decide +kernel) (by decide +kernel)
theorem sy_w49 : ∀ w ∈ sy_wl sy_m49, w ∈ sy_gT := sy_in _ [462, 48, 460, 461] (by decide +kernel) (by decide +kernel)
theorem sy_w50 : ∀ w ∈ sy_wl sy_m50, w ∈ sy_gT := sy_in _ [518, 48, 516, 517] (by decide +kernel) (by decide +kernel)
theorem sy_w51 : ∀ w ∈ sy_wl sy_m51, w ∈ sy_gT := sy_in _ [288, 45, 286, 287] (by decide +kernel) (by decide +kernel)
theorem sy_w52 : ∀ w ∈ sy_wl sy_m52, w ∈ sy_gT := sy_in _ [311, 45, 309, 310] (by decide +kernel) (by decide +kernel)
theorem sy_w53 : ∀ w ∈ sy_wl sy_m53, w ∈ sy_gT := sy_in _ [319, 45, 317, 318] (by decide +kernel) (by decide +kernel)
theorem sy_w54 : ∀ w ∈ sy_wl sy_m54, w ∈ sy_gT := sy_in _ [323, 45, 321, 322] (by decide +kernel) (by decide +kernel)
theorem sy_w55 : ∀ w ∈ sy_wl sy_m55, w ∈ sy_gT := sy_in _ [339, 45, 337, 338] (by decide +kernel) (by decide +kernel)
theorem sy_w56 : ∀ w ∈ sy_wl sy_m56, w ∈ sy_gT := sy_in _ [343, 45, 341, 342] (by decide +kernel) (by decide +kernel)
theorem sy_w57 : ∀ w ∈ sy_wl sy_m57, w ∈ sy_gT := sy_in _ [368, 45, 366, 367] (by decide +kernel) (by decide +kernel)
theorem sy_w58 : ∀ w ∈ sy_wl sy_m58, w ∈ sy_gT := sy_in _ [384, 45, 382, 383] (by decide +kernel) (by decide +kernel)
theorem sy_w59 : ∀ w ∈ sy_wl sy_m59, w ∈ sy_gT := sy_in _ [392, 45, 390, 391] (by decide +kernel) (by decide +kernel)
theorem sy_w60 : ∀ w ∈ sy_wl sy_m60, w ∈ sy_gT := sy_in _ [430, 45, 428, 429] (by decide +kernel) (by decide +kernel)
theorem sy_w61 : ∀ w ∈ sy_wl sy_m61, w ∈ sy_gT := sy_in _ [443, 45, 441, 442] (by decide +kernel) (by decide +kernel)
theorem sy_w62 : ∀ w ∈ sy_wl sy_m62, w ∈ sy_gT := sy_in _ [458, 45, 456, 457] (by decide +kernel) (by decide +kernel)
theorem sy_w63 : ∀ w ∈ sy_wl sy_m63, w ∈ sy_gT := sy_in _ [476, 45, 474, 475] (by decide +kernel) (by decide +kernel)
theorem sy_w64 : ∀ w ∈ sy_wl sy_m64, w ∈ sy_gT := sy_in _ [484, 45, 482, 483] (by decide +kernel) (by decide +kernel)
theorem sy_w65 : ∀ w ∈ sy_wl sy_m65, w ∈ sy_gT := sy_in _ [488, 45, 486, 487] (by decide +kernel) (by decide +kernel)
theorem sy_w66 : ∀ w ∈ sy_wl sy_m66, w ∈ sy_gT := sy_in _ [501, 45, 499, 500] (by decide +kernel) (by decide +kernel)
theorem sy_w67 : ∀ w ∈ sy_wl sy_m67, w ∈ sy_gT := sy_in _ [509, 45, 507, 508] (by decide +kernel) (by decide +kernel)
theorem sy_w68 : ∀ w ∈ sy_wl sy_m68, w ∈ sy_gT := sy_in _ [527, 45, 525, 526] (by decide +kernel) (by decide +kernel)
theorem sy_w69 : ∀ w ∈ sy_wl sy_m69, w ∈ sy_gT := sy_in _ [564, 45, 562, 563] (by decide +kernel) (by decide +kernel)
theorem sy_w70 : ∀ w ∈ sy_wl sy_m70, w ∈ sy_gT := sy_in _ [568, 45, 566, 567] (by decide +kernel) (by decide +kernel)
theorem sy_w71 : ∀ w ∈ sy_wl sy_m71, w ∈ sy_gT := sy_in _ [572, 45, 570, 571] (by decide +kernel) (by decide +kernel)
theorem sy_w72 : ∀ w ∈ sy_wl sy_m72, w ∈ sy_gT := sy_in _ [585, 45, 583, 584] (by decide +kernel) (by decide +kernel)
theorem sy_w73 : ∀ w ∈ sy_wl sy_m73, w ∈ sy_gT := sy_in _ [590, 45, 588, 589] (by decide +kernel) (by decide +kernel)
theorem sy_w74 : ∀ w ∈ sy_wl sy_m74, w ∈ sy_gT := sy_in _ [600, 45, 598, 599] (by decide +kernel) (by decide +kernel)
theorem sy_w75 : ∀ w ∈ sy_wl sy_m75, w ∈ sy_gT := sy_in _ [609, 45, 607, 608] (by decide +kernel) (by decide +kernel)
theorem sy_w76 : ∀ w ∈ sy_wl sy_m76, w ∈ sy_gT := sy_in _ [621, 45, 619, 620] (by decide +kernel) (by decide +kernel)
theorem sy_w77 : ∀ w ∈ sy_wl sy_m77, w ∈ sy_gT := sy_in _ [629, 45, 627, 628] (by decide +kernel) (by decide +kernel)
theorem sy_w78 : ∀ w ∈ sy_wl sy_m78, w ∈ sy_gT := sy_in _ [642, 45, 640, 641] (by decide +kernel) (by decide +kernel)
theorem sy_w79 : ∀ w ∈ sy_wl sy_m79, w ∈ sy_gT := sy_in _ [647, 45, 645, 646] (by decide +kernel) (by decide +kernel)
theorem sy_w80 : ∀ w ∈ sy_wl sy_m80, w ∈ sy_gT := sy_in _ [658, 45, 656, 657] (by decide +kernel) (by decide +kernel)
theorem sy_w81 : ∀ w ∈ sy_wl sy_m81, w ∈ sy_gT := sy_in _ [665, 45, 663, 664] (by decide +kernel) (by decide +kernel)
theorem sy_w82 : ∀ w ∈ sy_wl sy_m82, w ∈ sy_gT := sy_in _ [671, 45, 669, 670] (by decide +kernel) (by decide +kernel)
theorem sy_w83 : ∀ w ∈ sy_wl sy_m83, w ∈ sy_gT := sy_in _ [680, 45, 679, 12] (by decide +kernel) (by decide +kernel)
theorem sy_w84 : ∀ w ∈ sy_wl sy_m84, w ∈ sy_gT := sy_in _ [686, 45, 685, 13] (by decide +kernel) (by decide +kernel)
theorem sy_w85 : ∀ w ∈ sy_wl sy_m85, w ∈ sy_gT := sy_in _ [379, 45, 378, 3] (by decide +kernel) (by decide +kernel)
theorem sy_w86 : ∀ w ∈ sy_wl sy_m86, w ∈ sy_gT := sy_in _ [291, 45, 290] (by decide +kernel) (by decide +kernel)
theorem sy_w87 : ∀ w ∈ sy_wl sy_m87, w ∈ sy_gT := sy_in _ [355, 45, 354] (by decide +kernel) (by decide +kernel)
theorem sy_w88 : ∀ w ∈ sy_wl sy_m88, w ∈ sy_gT := sy_in _ [371, 45, 370] (by decide +kernel) (by decide +kernel)
theorem sy_w89 : ∀ w ∈ sy_wl sy_m89, w ∈ sy_gT := sy_in _ [793, 53, 792] (by decide +kernel) (by decide +kernel)
theorem sy_w90 : ∀ w ∈ sy_wl sy_m90, w ∈ sy_gT := sy_in _ [1046, 53, 1045] (by decide +kernel) (by decide +kernel)
theorem sy_w91 : ∀ w ∈ sy_wl sy_m91, w ∈ sy_gT := sy_in _ [862, 53, 861] (by decide +kernel) (by decide +kernel)
theorem sy_w92 : ∀ w ∈ sy_wl sy_m92, w ∈ sy_gT := sy_in _ [993, 53, 992] (by decide +kernel) (by decide +kernel)
theorem sy_w93 : ∀ w ∈ sy_wl sy_m93, w ∈ sy_gT := sy_in _ [798, 53, 797, 14] (by decide +kernel) (by decide +kernel)
theorem sy_w94 : ∀ w ∈ sy_wl sy_m94, w ∈ sy_gT := sy_in _ [789, 53, 788] (by decide +kernel) (by decide +kernel)
theorem sy_w95 : ∀ w ∈ sy_wl sy_m95, w ∈ sy_gT := sy_in _ [786, 53, 784, 785] (by decide +kernel) (by decide +kernel)
theorem sy_w96 : ∀ w ∈ sy_wl sy_m96, w ∈ sy_gT := sy_in _ [802, 53, 800, 801] (by decide +kernel) (by decide +kernel)
theorem sy_w97 : ∀ w ∈ sy_wl sy_m97, w ∈ sy_gT := sy_in _ [810, 53, 809, 15] (by decide +kernel) (by decide +kernel)
theorem sy_w98 : ∀ w ∈ sy_wl sy_m98, w ∈ sy_gT := sy_in _ [813, 53, 812] (by decide +kernel) (by decide +kernel)
theorem sy_w99 : ∀ w ∈ sy_wl sy_m99, w ∈ sy_gT := sy_in _ [806, 53, 804, 805] (by decide +kernel) (by decide +kernel)
theorem sy_w100 : ∀ w ∈ sy_wl sy_m100, w ∈ sy_gT := sy_in _ [817, 53, 815, 816] (by decide +kernel) (by decide +kernel)
theorem sy_w101 : ∀ w ∈ sy_wl sy_m101, w ∈ sy_gT := sy_in _ [822, 53, 820, 821] (by decide +kernel) (by decide +kernel)
theorem sy_w102 : ∀ w ∈ sy_wl sy_m102, w ∈ sy_gT := sy_in _ [826, 53, 824, 825] (by decide +kernel) (by decide +kernel)
theorem sy_w103 : ∀ w ∈ sy_wl sy_m103, w ∈ sy_gT := sy_in _ [831, 53, 829, 830] (by decide +kernel) (by decide +kernel)
theorem sy_w104 : ∀ w ∈ sy_wl sy_m104, w ∈ sy_gT := sy_in _ [843, 53, 842, 17] (by decide +kernel) (by decide +kernel)
theorem sy_w105 : ∀ w ∈ sy_wl sy_m105, w ∈ sy_gT := sy_in _ [846, 53, 845] (by decide +kernel) (by decide +kernel)
theorem sy_w106 : ∀ w ∈ sy_wl sy_m106, w ∈ sy_gT := sy_in _ [851, 53, 850, 18] (by decide +kernel) (by decide +kernel)
theorem sy_w107 : ∀ w ∈ sy_wl sy_m107, w ∈ sy_gT := sy_in _ [839, 53, 838, 16] (by decide +kernel) (by decide +kernel)
theorem sy_w108 : ∀ w ∈ sy_wl sy_m108, w ∈ sy_gT := sy_in _ [835, 53, 833, 834] (by decide +kernel) (by decide +kernel)
theorem sy_w109 : ∀ w ∈ sy_wl sy_m109, w ∈ sy_gT := sy_in _ [859, 53, 858, 19] (by decide +kernel) (by decide +kernel)
theorem sy_w110 : ∀ w ∈ sy_wl sy_m110, w ∈ sy_gT := sy_in _ [866, 53, 865, 20] (by decide +kernel) (by decide +kernel)
theorem sy_w111 : ∀ w ∈ sy_wl sy_m111, w ∈ sy_gT := sy_in _ [855, 53, 853, 854] (by decide +kernel) (by decide +kernel)
theorem sy_w112 : ∀ w ∈ sy_wl sy_m112, w ∈ sy_gT := sy_in _ [870, 53, 868, 869] (by decide +kernel) (by decide +kernel)
theorem sy_w113 : ∀ w ∈ sy_wl sy_m113, w ∈ sy_gT := sy_in _ [880, 53, 879, 21] (by decide +kernel) (by decide +kernel)
theorem sy_w114 : ∀ w ∈ sy_wl sy_m114, w ∈ sy_gT := sy_in _ [875, 53, 873, 874] (by decide +kernel) (by decide +kernel)
theorem sy_w115 : ∀ w ∈ sy_wl sy_m115, w ∈ sy_gT := sy_in _ [887, 53, 885, 886] (by decide +kernel) (by decide +kernel)
theorem sy_w116 : ∀ w ∈ sy_wl sy_m116, w ∈ sy_gT := sy_in _ [892, 53, 890, 891] (by decide +kernel) (by decide +kernel)
theorem sy_w117 : ∀ w ∈ sy_wl sy_m117, w ∈ sy_gT := sy_in _ [904, 53, 903, 23] (by decide +kernel) (by decide +kernel)
theorem sy_w118 : ∀ w ∈ sy_wl sy_m118, w ∈ sy_gT := sy_in _ [908, 53, 907, 24] (by decide +kernel) (by decide +kernel)
theorem sy_w119 : ∀ w ∈ sy_wl sy_m119, w ∈ sy_gT := sy_in _ [916, 53, 915, 26] (by decide +kernel) (by decide +kernel)
theorem sy_w120 : ∀ w ∈ sy_wl sy_m120, w ∈ sy_gT := sy_in _ [912, 53, 911, 25] (by decide +kernel) (by decide +kernel)
theorem sy_w121 : ∀ w ∈ sy_wl sy_m121, w ∈ sy_gT := sy_in _ [900, 53, 899, 22] (by decide +kernel) (by decide +kernel)
theorem sy_w122 : ∀ w ∈ sy_wl sy_m122, w ∈ sy_gT := sy_in _ [896, 53, 894, 895] (by decide +kernel) (by decide +kernel)
theorem sy_w123 : ∀ w ∈ sy_wl sy_m123, w ∈ sy_gT := sy_in _ [936, 53, 935, 29] (by decide +kernel) (by decide +kernel)
theorem sy_w124 : ∀ w ∈ sy_wl sy_m124, w ∈ sy_gT := sy_in _ [932, 53, 931, 28] (by decide +kernel) (by decide +kernel)
theorem sy_w125 : ∀ w ∈ sy_wl sy_m125, w ∈ sy_gT := sy_in _ [923, 53, 922] (by decide +kernel) (by decide +kernel)
theorem sy_w126 : ∀ w ∈ sy_wl sy_m126, w ∈ sy_gT := sy_in _ [928, 53, 927, 27] (by decide +kernel) (by decide +kernel)
theorem sy_w127 : ∀ w ∈ sy_wl sy_m127, w ∈ sy_gT := sy_in _ [920, 53, 918, 919] (by decide +kernel) (by decide +kernel)
theorem sy_w128 : ∀ w ∈ sy_wl sy_m128, w ∈ sy_gT := sy_in _ [948, 53, 947, 31] (by decide +kernel) (by decide +kernel)
theorem sy_w129 : ∀ w ∈ sy_wl sy_m129, w ∈ sy_gT := sy_in _ [944, 53, 943, 30] (by decide +kernel) (by decide +kernel)
theorem sy_w130 : ∀ w ∈ sy_wl sy_m130, w ∈ sy_gT := sy_in _ [940, 53, 938, 939] (by decide +kernel) (by decide +kernel)
theorem sy_w131 : ∀ w ∈ sy_wl sy_m131, w ∈ sy_gT := sy_in _ [957, 53, 956, 32] (by decide +kernel) (by decide +kernel)
theorem sy_w132 : ∀ w ∈ sy_wl sy_m132, w ∈ sy_gT := sy_in _ [952, 53, 950, 951] (by decide +kernel) (by decide +kernel)
theorem sy_w133 : ∀ w ∈ sy_wl sy_m133, w ∈ sy_gT := sy_in _ [965, 53, 964, 33] (by decide +kernel) (by decide +kernel)
theorem sy_w134 : ∀ w ∈ sy_wl sy_m134, w ∈ sy_gT := sy_in _ [961, 53, 959, 960] (by decide +kernel) (by decide +kernel)
theorem sy_w135 : ∀ w ∈ sy_wl sy_m135, w ∈ sy_gT := sy_in _ [973, 53, 972, 34] (by decide +kernel) (by decide +kernel)
theorem sy_w136 : ∀ w ∈ sy_wl sy_m136, w ∈ sy_gT := sy_in _ [969, 53, 967, 968] (by decide +kernel) (by decide +kernel)
theorem sy_w137 : ∀ w ∈ sy_wl sy_m137, w ∈ sy_gT := sy_in _ [977, 53, 975, 976] (by decide +kernel) (by decide +kernel)
theorem sy_w138 : ∀ w ∈ sy_wl sy_m138, w ∈ sy_gT := sy_in _ [982, 53, 980, 981] (by decide +kernel) (by decide +kernel)
theorem sy_w139 : ∀ w ∈ sy_wl sy_m139, w ∈ sy_gT := sy_in _ [990, 53, 989, 35] (by decide +kernel) (by decide +kernel)
theorem sy_w140 : ∀ w ∈ sy_wl sy_m140, w ∈ sy_gT := sy_in _ [986, 53, 984, 985] (by decide +kernel) (by decide +kernel)
theorem sy_w141 : ∀ w ∈ sy_wl sy_m141, w ∈ sy_gT := sy_in _ [1009, 53, 1008, 38] (by decide +kernel) (by decide +kernel)
theorem sy_w142 : ∀ w ∈ sy_wl sy_m142, w ∈ sy_gT := sy_in _ [1013, 53, 1012, 39] (by decide +kernel) (by decide +kernel)
theorem sy_w143 : ∀ w ∈ sy_wl sy_m143, w ∈ sy_gT := sy_in _ [1005, 53, 1004, 37] (by decide +kernel) (by decide +kernel)
theorem sy_w144 : ∀ w ∈ sy_wl sy_m144, w ∈ sy_gT := sy_in _ [1001, 53, 1000, 36] (by decide +kernel) (by decide +kernel)
theorem sy_w145 : ∀ w ∈ sy_wl sy_m145, w ∈ sy_gT := sy_in _ [997, 53, 995, 996] (by decide +kernel) (by decide +kernel)
theorem sy_w146 : ∀ w ∈ sy_wl sy_m146, w ∈ sy_gT := sy_in _ [1023, 53, 1022, 40] (by decide +kernel) (by decide +kernel)
theorem sy_w147 : ∀ w ∈ sy_wl sy_m147, w ∈ sy_gT := sy_in _ [1017, 53, 1015, 1016] (by decide +kernel) (by decide +kernel)
theorem sy_w148 : ∀ w ∈ sy_wl sy_m148, w ∈ sy_gT := sy_in _ [1027, 53, 1025, 1026] (by decide +kernel) (by decide +kernel)
theorem sy_w149 : ∀ w ∈ sy_wl sy_m149, w ∈ sy_gT := sy_in _ [1040, 53, 1039] (by decide +kernel) (by decide +kernel)
theorem sy_w150 : ∀ w ∈ sy_wl sy_m150, w ∈ sy_gT := sy_in _ [1043, 53, 1042] (by decide +kernel) (by decide +kernel)
theorem sy_w151 : ∀ w ∈ sy_wl sy_m151, w ∈ sy_gT := sy_in _ [1037, 53, 1036, 41] (by decide +kernel) (by decide +kernel)
theorem sy_w152 : ∀ w ∈ sy_wl sy_m152, w ∈ sy_gT := sy_in _ [1032, 53, 1030, 1031] (by decide +kernel) (by decide +kernel)
theorem sy_w153 : ∀ w ∈ sy_wl sy_m153, w ∈ sy_gT := sy_in _ [1055, 53, 1054, 42] (by decide +kernel) (by decide +kernel)
theorem sy_w154 : ∀ w ∈ sy_wl sy_m154, w ∈ sy_gT := sy_in _ [1051, 53, 1049, 1050] (by decide +kernel) (by decide +kernel)
theorem sy_w155 : ∀ w ∈ sy_wl sy_m155, w ∈ sy_gT := sy_in _ [1063, 53, 1062] (by decide +kernel) (by decide +kernel)
theorem sy_w156 : ∀ w ∈ sy_wl sy_m156, w ∈ sy_gT := sy_in _ [1059, 53, 1057, 1058] (by decide +kernel) (by decide +kernel)
theorem sy_w157 : ∀ w ∈ sy_wl sy_m157, w ∈ sy_gT := sy_in _ [1071, 53, 1070, 43] (by decide +kernel) (by decide +kernel)
theorem sy_w158 : ∀ w ∈ sy_wl sy_m158, w ∈ sy_gT := sy_in _ [1067, 53, 1065, 1066] (by decide +kernel) (by decide +kernel)
theorem sy_w159 : ∀ w ∈ sy_wl sy_m159, w ∈ sy_gT := sy_in _ [1076, 53, 1074, 1075] (by decide +kernel) (by decide +kernel)
theorem sy_w160 : ∀ w ∈ sy_wl sy_m160, w ∈ sy_gT := sy_in _ [1080, 53, 1078, 1079] (by decide +kernel) (by decide +kernel)
theorem sy_w161 : ∀ w ∈ sy_wl sy_m161, w ∈ sy_gT := sy_in _ [1084, 53, 1082, 1083] (by decide +kernel) (by decide +kernel)
theorem sy_w162 : ∀ w ∈ sy_wl sy_m162, w ∈ sy_gT := sy_in _ [469, 54, 468] (by decide +kernel) (by decide +kernel)
end
section
def sy_uP (q : vw_C) : Prop := (∀ w ∈ u_ws q.1 q.2.1 q.2.2, w ∈ sy_gT) ∧ (∃ ty : Nat → FieldType, ∀ k, k < q.2.2 → parseFieldDescriptor (q.2.1 k).2.2.1 = some (ty k)) ∧ ∀ a, a < q.2.2 → ∀ b, b < q.2.2 → a ≠ b → (q.2.1 a).2.1 ≠ (q.2.1 b).2.1
theorem sy_u0 : sy_uP (RX0, TX0, 10) := ⟨sy_in _ [208, 210, 212, 214, 216, 218, 220, 222, 224, 226] (by decide +kernel) (by decide +kernel), ⟨tyX0, tyX0_ok⟩, nmX0⟩
theorem sy_u1 : sy_uP (RX1, TX1, 1) := ⟨sy_in _ [237] (by decide +kernel) (by decide +kernel), ⟨tyX1, tyX1_ok⟩, nmX1⟩
theorem sy_u2 : sy_uP (RX2, TX2, 2) := ⟨sy_in _ [182, 184] (by decide +kernel) (by decide +kernel), ⟨tyX2, tyX2_ok⟩, nmX2⟩
theorem sy_u3 : sy_uP (RX3, TX3, 3) := ⟨sy_in _ [253, 255, 257] (by decide +kernel) (by decide +kernel), ⟨tyX3, tyX3_ok⟩, nmX3⟩
theorem sy_u4 : sy_uP (RX4, TX4, 6) := ⟨sy_in _ [109, 111, 113, 115, 117, 119] (by decide +kernel) (by decide +kernel), ⟨tyX4, tyX4_ok⟩, nmX4⟩
theorem sy_u5 : sy_uP (RX5, TX5, 4) := ⟨sy_in _ [81, 83, 85, 87] (by decide +kernel) (by decide +kernel), ⟨tyX5, tyX5_ok⟩, nmX5⟩
theorem sy_u6 : sy_uP (RX6, TX6, 11) := ⟨sy_in _ [150, 152, 154, 156, 158, 160, 162, 164, 166, 168, 170] (by decide +kernel) (by decide +kernel), ⟨tyX6, tyX6_ok⟩, nmX6⟩
theorem sy_u7 : sy_uP (RX7, TX7, 8) := ⟨sy_in _ [268, 270, 272, 274, 276, 278, 280, 282] (by decide +kernel) (by decide +kernel), ⟨tyX7, tyX7_ok⟩, nmX7⟩
theorem sy_u8 : sy_uP (RX8, TX8, 26) := ⟨sy_in _ [730, 732, 734, 736, 738, 740, 742, 744, 746, 748, 750, 752, 754, 756, 758, 760, 762, 764, 766, 768, 770, 772, 774, 776, 778, 780] (by decide +kernel) (by decide +kernel), ⟨tyX8, tyX8_ok⟩, nmX8⟩
theorem sy_uAll : ∀ (ci : Nat) (q : vw_C), vwCl[ci]? = some q → sy_uP q := by
  intro ci q h
  match ci, h with
  | 0, h => cases h; exact sy_u0
  | 1, h => cases h; exact sy_u1
  | 2, h => cases h; exact sy_u2
  | 3, h => cases h; exact sy_u3
  | 4, h => cases h; exact sy_u4
  | 5, h => cases h; exact sy_u5
  | 6, h => cases h; exact sy_u6
  | 7, h => cases h; exact sy_u7
  | 8, h => cases h; exact sy_u8
  | k + 9, h => simp [vwCl] at h
end
section
def sy_wP (q : sy_MI) : Prop := q.2.2.2.2.1 = 11 ∨ ∀ w ∈ sy_wl q, w ∈ sy_gT
def sy_okM (q : sy_MI) : Bool := decide (q.2.2.2.2.2.2.2.cls ≠ "java/lang/invoke/MethodHandle") && (decide (q.2.2.2.2.2.2.2.cls ≠ "java/lang/invoke/VarHandle") && (decide ((parseMethodDescriptor q.2.2.2.2.2.2.2.desc).map (fun d => d.parameters.length) = some q.2.2.2.2.2.2.1) && (plainName q.2.2.2.2.2.2.2.cls && (Nat.ble q.2.2.1 40 && (decide ((sy_ci q.2.2.2.2.1).1 = q.2.2.2.2.2.2.2.cls) && (q.2.2.2.2.2.1 || decide ((vwCl[q.2.2.2.2.1]?).map (fun c => c.1) = some q.2.2.2.2.2.2.2.cls)))))))
def sy_xP (q : sy_MI) : Prop := sy_okM q = true
theorem sy_v0 : sy_wP sy_m0 := Or.inr sy_w0
theorem sy_x0 : sy_xP sy_m0 := by unfold sy_xP; decide +kernel
theorem sy_v1 : sy_wP sy_m1 := Or.inr sy_w1
theorem sy_x1 : sy_xP sy_m1 := by unfold sy_xP; decide +kernel
theorem sy_v2 : sy_wP sy_m2 := Or.inr sy_w2
theorem sy_x2 : sy_xP sy_m2 := by unfold sy_xP; decide +kernel
theorem sy_v3 : sy_wP sy_m3 := Or.inr sy_w3
theorem sy_x3 : sy_xP sy_m3 := by unfold sy_xP; decide +kernel
theorem sy_v4 : sy_wP sy_m4 := Or.inr sy_w4
theorem sy_x4 : sy_xP sy_m4 := by unfold sy_xP; decide +kernel
theorem sy_v5 : sy_wP sy_m5 := Or.inr sy_w5
theorem sy_x5 : sy_xP sy_m5 := by unfold sy_xP; decide +kernel
theorem sy_v6 : sy_wP sy_m6 := Or.inr sy_w6
theorem sy_x6 : sy_xP sy_m6 := by unfold sy_xP; decide +kernel
theorem sy_v7 : sy_wP sy_m7 := Or.inr sy_w7
theorem sy_x7 : sy_xP sy_m7 := by unfold sy_xP; decide +kernel
theorem sy_v8 : sy_wP sy_m8 := Or.inr sy_w8
theorem sy_x8 : sy_xP sy_m8 := by unfold sy_xP; decide +kernel
theorem sy_v9 : sy_wP sy_m9 := Or.inr sy_w9
theorem sy_x9 : sy_xP sy_m9 := by unfold sy_xP; decide +kernel
theorem sy_v10 : sy_wP sy_m10 := Or.inr sy_w10
theorem sy_x10 : sy_xP sy_m10 := by unfold sy_xP; decide +kernel
theorem sy_v11 : sy_wP sy_m11 := Or.inr sy_w11
theorem sy_x11 : sy_xP sy_m11 := by unfold sy_xP; decide +kernel
theorem sy_v12 : sy_wP sy_m12 := Or.inr sy_w12
theorem sy_x12 : sy_xP sy_m12 := by unfold sy_xP; decide +kernel
theorem sy_v13 : sy_wP sy_m13 := Or.inr sy_w13
theorem sy_x13 : sy_xP sy_m13 := by unfold sy_xP; decide +kernel
theorem sy_v14 : sy_wP sy_m14 := Or.inr sy_w14
theorem sy_x14 : sy_xP sy_m14 := by unfold sy_xP; decide +kernel
theorem sy_v15 : sy_wP sy_m15 := Or.inr sy_w15
theorem sy_x15 : sy_xP sy_m15 := by unfold sy_xP; decide +kernel
theorem sy_v16 : sy_wP sy_m16 := Or.inr sy_w16
theorem sy_x16 : sy_xP sy_m16 := by unfold sy_xP; decide +kernel
theorem sy_v17 : sy_wP sy_m17 := Or.inr sy_w17
theorem sy_x17 : sy_xP sy_m17 := by unfold sy_xP; decide +kernel
theorem sy_v18 : sy_wP sy_m18 := Or.inr sy_w18
theorem sy_x18 : sy_xP sy_m18 := by unfold sy_xP; decide +kernel
theorem sy_v19 : sy_wP sy_m19 := Or.inr sy_w19
theorem sy_x19 : sy_xP sy_m19 := by unfold sy_xP; decide +kernel
theorem sy_v20 : sy_wP sy_m20 := Or.inr sy_w20
theorem sy_x20 : sy_xP sy_m20 := by unfold sy_xP; decide +kernel
theorem sy_v21 : sy_wP sy_m21 := Or.inr sy_w21
theorem sy_x21 : sy_xP sy_m21 := by unfold sy_xP; decide +kernel
theorem sy_v22 : sy_wP sy_m22 := Or.inr sy_w22
theorem sy_x22 : sy_xP sy_m22 := by unfold sy_xP; decide +kernel
theorem sy_v23 : sy_wP sy_m23 := Or.inr sy_w23
theorem sy_x23 : sy_xP sy_m23 := by unfold sy_xP; decide +kernel
theorem sy_v24 : sy_wP sy_m24 := Or.inr sy_w24
theorem sy_x24 : sy_xP sy_m24 := by unfold sy_xP; decide +kernel
theorem sy_v25 : sy_wP sy_m25 := Or.inr sy_w25
theorem sy_x25 : sy_xP sy_m25 := by unfold sy_xP; decide +kernel
theorem sy_v26 : sy_wP sy_m26 := Or.inr sy_w26
theorem sy_x26 : sy_xP sy_m26 := by unfold sy_xP; decide +kernel
theorem sy_v27 : sy_wP sy_m27 := Or.inr sy_w27
theorem sy_x27 : sy_xP sy_m27 := by unfold sy_xP; decide +kernel
theorem sy_v28 : sy_wP sy_m28 := Or.inr sy_w28
theorem sy_x28 : sy_xP sy_m28 := by unfold sy_xP; decide +kernel
theorem sy_v29 : sy_wP sy_m29 := Or.inr sy_w29
theorem sy_x29 : sy_xP sy_m29 := by unfold sy_xP; decide +kernel
theorem sy_v30 : sy_wP sy_m30 := Or.inr sy_w30
theorem sy_x30 : sy_xP sy_m30 := by unfold sy_xP; decide +kernel
theorem sy_v31 : sy_wP sy_m31 := Or.inr sy_w31
theorem sy_x31 : sy_xP sy_m31 := by unfold sy_xP; decide +kernel
theorem sy_v32 : sy_wP sy_m32 := Or.inr sy_w32
theorem sy_x32 : sy_xP sy_m32 := by unfold sy_xP; decide +kernel
theorem sy_v33 : sy_wP sy_m33 := Or.inr sy_w33
theorem sy_x33 : sy_xP sy_m33 := by unfold sy_xP; decide +kernel
theorem sy_v34 : sy_wP sy_m34 := Or.inr sy_w34
theorem sy_x34 : sy_xP sy_m34 := by unfold sy_xP; decide +kernel
theorem sy_v35 : sy_wP sy_m35 := Or.inr sy_w35
theorem sy_x35 : sy_xP sy_m35 := by unfold sy_xP; decide +kernel
theorem sy_v36 : sy_wP sy_m36 := Or.inr sy_w36
theorem sy_x36 : sy_xP sy_m36 := by unfold sy_xP; decide +kernel
theorem sy_v37 : sy_wP sy_m37 := Or.inr sy_w37
theorem sy_x37 : sy_xP sy_m37 := by unfold sy_xP; decide +kernel
theorem sy_v38 : sy_wP sy_m38 := Or.inr sy_w38
theorem sy_x38 : sy_xP sy_m38 := by unfold sy_xP; decide +kernel
theorem sy_v39 : sy_wP sy_m39 := Or.inr sy_w39
theorem sy_x39 : sy_xP sy_m39 := by unfold sy_xP; decide +kernel
theorem sy_v40 : sy_wP sy_m40 := Or.inr sy_w40
theorem sy_x40 : sy_xP sy_m40 := by unfold sy_xP; decide +kernel
theorem sy_v41 : sy_wP sy_m41 := Or.inr sy_w41
theorem sy_x41 : sy_xP sy_m41 := by unfold sy_xP; decide +kernel
theorem sy_v42 : sy_wP sy_m42 := Or.inr sy_w42
theorem sy_x42 : sy_xP sy_m42 := by unfold sy_xP; decide +kernel
theorem sy_v43 : sy_wP sy_m43 := Or.inr sy_w43
theorem sy_x43 : sy_xP sy_m43 := by unfold sy_xP; decide +kernel
theorem sy_v44 : sy_wP sy_m44 := Or.inr sy_w44
theorem sy_x44 : sy_xP sy_m44 := by unfold sy_xP; decide +kernel
theorem sy_v45 : sy_wP sy_m45 := Or.inr sy_w45
theorem sy_x45 : sy_xP sy_m45 := by unfold sy_xP; decide +kernel
theorem sy_v46 : sy_wP sy_m46 := Or.inr sy_w46
theorem sy_x46 : sy_xP sy_m46 := by unfold sy_xP; decide +kernel
theorem sy_v47 : sy_wP sy_m47 := Or.inr sy_w47
theorem sy_x47 : sy_xP sy_m47 := by unfold sy_xP; decide +kernel
theorem sy_v48 : sy_wP sy_m48 := Or.inr sy_w48
theorem sy_x48 : sy_xP sy_m48 := by unfold sy_xP; decide +kernel
theorem sy_v49 : sy_wP sy_m49 := Or.inr sy_w49
theorem sy_x49 : sy_xP sy_m49 := by unfold sy_xP; decide +kernel
theorem sy_v50 : sy_wP sy_m50 := Or.inr sy_w50
theorem sy_x50 : sy_xP sy_m50 := by unfold sy_xP; decide +kernel
theorem sy_v51 : sy_wP sy_m51 := Or.inr sy_w51
theorem sy_x51 : sy_xP sy_m51 := by unfold sy_xP; decide +kernel
theorem sy_v52 : sy_wP sy_m52 := Or.inr sy_w52
theorem sy_x52 : sy_xP sy_m52 := by unfold sy_xP; decide +kernel
theorem sy_v53 : sy_wP sy_m53 := Or.inr sy_w53
theorem sy_x53 : sy_xP sy_m53 := by unfold sy_xP; decide +kernel
theorem sy_v54 : sy_wP sy_m54 := Or.inr sy_w54
theorem sy_x54 : sy_xP sy_m54 := by unfold sy_xP; decide +kernel
theorem sy_v55 : sy_wP sy_m55 := Or.inr sy_w55
theorem sy_x55 : sy_xP sy_m55 := by unfold sy_xP; decide +kernel
theorem sy_v56 : sy_wP sy_m56 := Or.inr sy_w56
theorem sy_x56 : sy_xP sy_m56 := by unfold sy_xP; decide +kernel
theorem sy_v57 : sy_wP sy_m57 := Or.inr sy_w57
theorem sy_x57 : sy_xP sy_m57 := by unfold sy_xP; decide +kernel
theorem sy_v58 : sy_wP sy_m58 := Or.inr sy_w58
theorem sy_x58 : sy_xP sy_m58 := by unfold sy_xP; decide +kernel
theorem sy_v59 : sy_wP sy_m59 := Or.inr sy_w59
theorem sy_x59 : sy_xP sy_m59 := by unfold sy_xP; decide +kernel
theorem sy_v60 : sy_wP sy_m60 := Or.inr sy_w60
theorem sy_x60 : sy_xP sy_m60 := by unfold sy_xP; decide +kernel
theorem sy_v61 : sy_wP sy_m61 := Or.inr sy_w61
theorem sy_x61 : sy_xP sy_m61 := by unfold sy_xP; decide +kernel
theorem sy_v62 : sy_wP sy_m62 := Or.inr sy_w62
theorem sy_x62 : sy_xP sy_m62 := by unfold sy_xP; decide +kernel
theorem sy_v63 : sy_wP sy_m63 := Or.inr sy_w63
theorem sy_x63 : sy_xP sy_m63 := by unfold sy_xP; decide +kernel
theorem sy_v64 : sy_wP sy_m64 := Or.inr sy_w64
theorem sy_x64 : sy_xP sy_m64 := by unfold sy_xP; decide +kernel
theorem sy_v65 : sy_wP sy_m65 := Or.inr sy_w65
theorem sy_x65 : sy_xP sy_m65 := by unfold sy_xP; decide +kernel
theorem sy_v66 : sy_wP sy_m66 := Or.inr sy_w66
theorem sy_x66 : sy_xP sy_m66 := by unfold sy_xP; decide +kernel
theorem sy_v67 : sy_wP sy_m67 := Or.inr sy_w67
theorem sy_x67 : sy_xP sy_m67 := by unfold sy_xP; decide +kernel
theorem sy_v68 : sy_wP sy_m68 := Or.inr sy_w68
theorem sy_x68 : sy_xP sy_m68 := by unfold sy_xP; decide +kernel
theorem sy_v69 : sy_wP sy_m69 := Or.inr sy_w69
theorem sy_x69 : sy_xP sy_m69 := by unfold sy_xP; decide +kernel
theorem sy_v70 : sy_wP sy_m70 := Or.inr sy_w70
theorem sy_x70 : sy_xP sy_m70 := by unfold sy_xP; decide +kernel
theorem sy_v71 : sy_wP sy_m71 := Or.inr sy_w71
theorem sy_x71 : sy_xP sy_m71 := by unfold sy_xP; decide +kernel
theorem sy_v72 : sy_wP sy_m72 := Or.inr sy_w72
theorem sy_x72 : sy_xP sy_m72 := by unfold sy_xP; decide +kernel
theorem sy_v73 : sy_wP sy_m73 := Or.inr sy_w73
theorem sy_x73 : sy_xP sy_m73 := by unfold sy_xP; decide +kernel
theorem sy_v74 : sy_wP sy_m74 := Or.inr sy_w74
theorem sy_x74 : sy_xP sy_m74 := by unfold sy_xP; decide +kernel
theorem sy_v75 : sy_wP sy_m75 := Or.inr sy_w75
theorem sy_x75 : sy_xP sy_m75 := by unfold sy_xP; decide +kernel
theorem sy_v76 : sy_wP sy_m76 := Or.inr sy_w76
theorem sy_x76 : sy_xP sy_m76 := by unfold sy_xP; decide +kernel
theorem sy_v77 : sy_wP sy_m77 := Or.inr sy_w77
theorem sy_x77 : sy_xP sy_m77 := by unfold sy_xP; decide +kernel
theorem sy_v78 : sy_wP sy_m78 := Or.inr sy_w78
theorem sy_x78 : sy_xP sy_m78 := by unfold sy_xP; decide +kernel
theorem sy_v79 : sy_wP sy_m79 := Or.inr sy_w79
theorem sy_x79 : sy_xP sy_m79 := by unfold sy_xP; decide +kernel
theorem sy_v80 : sy_wP sy_m80 := Or.inr sy_w80
theorem sy_x80 : sy_xP sy_m80 := by unfold sy_xP; decide +kernel
theorem sy_v81 : sy_wP sy_m81 := Or.inr sy_w81
theorem sy_x81 : sy_xP sy_m81 := by unfold sy_xP; decide +kernel
theorem sy_v82 : sy_wP sy_m82 := Or.inr sy_w82
theorem sy_x82 : sy_xP sy_m82 := by unfold sy_xP; decide +kernel
theorem sy_v83 : sy_wP sy_m83 := Or.inr sy_w83
theorem sy_x83 : sy_xP sy_m83 := by unfold sy_xP; decide +kernel
theorem sy_v84 : sy_wP sy_m84 := Or.inr sy_w84
theorem sy_x84 : sy_xP sy_m84 := by unfold sy_xP; decide +kernel
theorem sy_v85 : sy_wP sy_m85 := Or.inr sy_w85
theorem sy_x85 : sy_xP sy_m85 := by unfold sy_xP; decide +kernel
theorem sy_v86 : sy_wP sy_m86 := Or.inr sy_w86
theorem sy_x86 : sy_xP sy_m86 := by unfold sy_xP; decide +kernel
theorem sy_v87 : sy_wP sy_m87 := Or.inr sy_w87
theorem sy_x87 : sy_xP sy_m87 := by unfold sy_xP; decide +kernel
theorem sy_v88 : sy_wP sy_m88 := Or.inr sy_w88
theorem sy_x88 : sy_xP sy_m88 := by unfold sy_xP; decide +kernel
theorem sy_v89 : sy_wP sy_m89 := Or.inr sy_w89
theorem sy_x89 : sy_xP sy_m89 := by unfold sy_xP; decide +kernel
theorem sy_v90 : sy_wP sy_m90 := Or.inr sy_w90
theorem sy_x90 : sy_xP sy_m90 := by unfold sy_xP; decide +kernel
theorem sy_v91 : sy_wP sy_m91 := Or.inr sy_w91
theorem sy_x91 : sy_xP sy_m91 := by unfold sy_xP; decide +kernel
theorem sy_v92 : sy_wP sy_m92 := Or.inr sy_w92
theorem sy_x92 : sy_xP sy_m92 := by unfold sy_xP; decide +kernel
theorem sy_v93 : sy_wP sy_m93 := Or.inr sy_w93
theorem sy_x93 : sy_xP sy_m93 := by unfold sy_xP; decide +kernel
theorem sy_v94 : sy_wP sy_m94 := Or.inr sy_w94
theorem sy_x94 : sy_xP sy_m94 := by unfold sy_xP; decide +kernel
theorem sy_v95 : sy_wP sy_m95 := Or.inr sy_w95
theorem sy_x95 : sy_xP sy_m95 := by unfold sy_xP; decide +kernel
theorem sy_v96 : sy_wP sy_m96 := Or.inr sy_w96
theorem sy_x96 : sy_xP sy_m96 := by unfold sy_xP; decide +kernel
theorem sy_v97 : sy_wP sy_m97 := Or.inr sy_w97
theorem sy_x97 : sy_xP sy_m97 := by unfold sy_xP; decide +kernel
theorem sy_v98 : sy_wP sy_m98 := Or.inr sy_w98
theorem sy_x98 : sy_xP sy_m98 := by unfold sy_xP; decide +kernel
theorem sy_v99 : sy_wP sy_m99 := Or.inr sy_w99
theorem sy_x99 : sy_xP sy_m99 := by unfold sy_xP; decide +kernel
theorem sy_v100 : sy_wP sy_m100 := Or.inr sy_w100
theorem sy_x100 : sy_xP sy_m100 := by unfold sy_xP; decide +kernel
theorem sy_v101 : sy_wP sy_m101 := Or.inr sy_w101
theorem sy_x101 : sy_xP sy_m101 := by unfold sy_xP; decide +kernel
theorem sy_v102 : sy_wP sy_m102 := Or.inr sy_w102
theorem sy_x102 : sy_xP sy_m102 := by unfold sy_xP; decide +kernel
theorem sy_v103 : sy_wP sy_m103 := Or.inr sy_w103
theorem sy_x103 : sy_xP sy_m103 := by unfold sy_xP; decide +kernel
theorem sy_v104 : sy_wP sy_m104 := Or.inr sy_w104
theorem sy_x104 : sy_xP sy_m104 := by unfold sy_xP; decide +kernel
theorem sy_v105 : sy_wP sy_m105 := Or.inr sy_w105
theorem sy_x105 : sy_xP sy_m105 := by unfold sy_xP; decide +kernel
theorem sy_v106 : sy_wP sy_m106 := Or.inr sy_w106
theorem sy_x106 : sy_xP sy_m106 := by unfold sy_xP; decide +kernel
theorem sy_v107 : sy_wP sy_m107 := Or.inr sy_w107
theorem sy_x107 : sy_xP sy_m107 := by unfold sy_xP; decide +kernel
theorem sy_v108 : sy_wP sy_m108 := Or.inr sy_w108
theorem sy_x108 : sy_xP sy_m108 := by unfold sy_xP; decide +kernel
theorem sy_v109 : sy_wP sy_m109 := Or.inr sy_w109
theorem sy_x109 : sy_xP sy_m109 := by unfold sy_xP; decide +kernel
theorem sy_v110 : sy_wP sy_m110 := Or.inr sy_w110
theorem sy_x110 : sy_xP sy_m110 := by unfold sy_xP; decide +kernel
theorem sy_v111 : sy_wP sy_m111 := Or.inr sy_w111
theorem sy_x111 : sy_xP sy_m111 := by unfold sy_xP; decide +kernel
theorem sy_v112 : sy_wP sy_m112 := Or.inr sy_w112
theorem sy_x112 : sy_xP sy_m112 := by unfold sy_xP; decide +kernel
theorem sy_v113 : sy_wP sy_m113 := Or.inr sy_w113
theorem sy_x113 : sy_xP sy_m113 := by unfold sy_xP; decide +kernel
theorem sy_v114 : sy_wP sy_m114 := Or.inr sy_w114
theorem sy_x114 : sy_xP sy_m114 := by unfold sy_xP; decide +kernel
theorem sy_v115 : sy_wP sy_m115 := Or.inr sy_w115
theorem sy_x115 : sy_xP sy_m115 := by unfold sy_xP; decide +kernel
theorem sy_v116 : sy_wP sy_m116 := Or.inr sy_w116
theorem sy_x116 : sy_xP sy_m116 := by unfold sy_xP; decide +kernel
theorem sy_v117 : sy_wP sy_m117 := Or.inr sy_w117
theorem sy_x117 : sy_xP sy_m117 := by unfold sy_xP; decide +kernel
theorem sy_v118 : sy_wP sy_m118 := Or.inr sy_w118
theorem sy_x118 : sy_xP sy_m118 := by unfold sy_xP; decide +kernel
theorem sy_v119 : sy_wP sy_m119 := Or.inr sy_w119
theorem sy_x119 : sy_xP sy_m119 := by unfold sy_xP; decide +kernel
theorem sy_v120 : sy_wP sy_m120 := Or.inr sy_w120
theorem sy_x120 : sy_xP sy_m120 := by unfold sy_xP; decide +kernel
theorem sy_v121 : sy_wP sy_m121 := Or.inr sy_w121
theorem sy_x121 : sy_xP sy_m121 := by unfold sy_xP; decide +kernel
theorem sy_v122 : sy_wP sy_m122 := Or.inr sy_w122
theorem sy_x122 : sy_xP sy_m122 := by unfold sy_xP; decide +kernel
theorem sy_v123 : sy_wP sy_m123 := Or.inr sy_w123
theorem sy_x123 : sy_xP sy_m123 := by unfold sy_xP; decide +kernel
theorem sy_v124 : sy_wP sy_m124 := Or.inr sy_w124
theorem sy_x124 : sy_xP sy_m124 := by unfold sy_xP; decide +kernel
theorem sy_v125 : sy_wP sy_m125 := Or.inr sy_w125
theorem sy_x125 : sy_xP sy_m125 := by unfold sy_xP; decide +kernel
theorem sy_v126 : sy_wP sy_m126 := Or.inr sy_w126
theorem sy_x126 : sy_xP sy_m126 := by unfold sy_xP; decide +kernel
theorem sy_v127 : sy_wP sy_m127 := Or.inr sy_w127
theorem sy_x127 : sy_xP sy_m127 := by unfold sy_xP; decide +kernel
theorem sy_v128 : sy_wP sy_m128 := Or.inr sy_w128
theorem sy_x128 : sy_xP sy_m128 := by unfold sy_xP; decide +kernel
theorem sy_v129 : sy_wP sy_m129 := Or.inr sy_w129
theorem sy_x129 : sy_xP sy_m129 := by unfold sy_xP; decide +kernel
theorem sy_v130 : sy_wP sy_m130 := Or.inr sy_w130
theorem sy_x130 : sy_xP sy_m130 := by unfold sy_xP; decide +kernel
theorem sy_v131 : sy_wP sy_m131 := Or.inr sy_w131
theorem sy_x131 : sy_xP sy_m131 := by unfold sy_xP; decide +kernel
theorem sy_v132 : sy_wP sy_m132 := Or.inr sy_w132
theorem sy_x132 : sy_xP sy_m132 := by unfold sy_xP; decide +kernel
theorem sy_v133 : sy_wP sy_m133 := Or.inr sy_w133
theorem sy_x133 : sy_xP sy_m133 := by unfold sy_xP; decide +kernel
theorem sy_v134 : sy_wP sy_m134 := Or.inr sy_w134
theorem sy_x134 : sy_xP sy_m134 := by unfold sy_xP; decide +kernel
theorem sy_v135 : sy_wP sy_m135 := Or.inr sy_w135
theorem sy_x135 : sy_xP sy_m135 := by unfold sy_xP; decide +kernel
theorem sy_v136 : sy_wP sy_m136 := Or.inr sy_w136
theorem sy_x136 : sy_xP sy_m136 := by unfold sy_xP; decide +kernel
theorem sy_v137 : sy_wP sy_m137 := Or.inr sy_w137
theorem sy_x137 : sy_xP sy_m137 := by unfold sy_xP; decide +kernel
theorem sy_v138 : sy_wP sy_m138 := Or.inr sy_w138
theorem sy_x138 : sy_xP sy_m138 := by unfold sy_xP; decide +kernel
theorem sy_v139 : sy_wP sy_m139 := Or.inr sy_w139
theorem sy_x139 : sy_xP sy_m139 := by unfold sy_xP; decide +kernel
theorem sy_v140 : sy_wP sy_m140 := Or.inr sy_w140
theorem sy_x140 : sy_xP sy_m140 := by unfold sy_xP; decide +kernel
theorem sy_v141 : sy_wP sy_m141 := Or.inr sy_w141
theorem sy_x141 : sy_xP sy_m141 := by unfold sy_xP; decide +kernel
theorem sy_v142 : sy_wP sy_m142 := Or.inr sy_w142
theorem sy_x142 : sy_xP sy_m142 := by unfold sy_xP; decide +kernel
theorem sy_v143 : sy_wP sy_m143 := Or.inr sy_w143
theorem sy_x143 : sy_xP sy_m143 := by unfold sy_xP; decide +kernel
theorem sy_v144 : sy_wP sy_m144 := Or.inr sy_w144
theorem sy_x144 : sy_xP sy_m144 := by unfold sy_xP; decide +kernel
theorem sy_v145 : sy_wP sy_m145 := Or.inr sy_w145
theorem sy_x145 : sy_xP sy_m145 := by unfold sy_xP; decide +kernel
theorem sy_v146 : sy_wP sy_m146 := Or.inr sy_w146
theorem sy_x146 : sy_xP sy_m146 := by unfold sy_xP; decide +kernel
theorem sy_v147 : sy_wP sy_m147 := Or.inr sy_w147
theorem sy_x147 : sy_xP sy_m147 := by unfold sy_xP; decide +kernel
theorem sy_v148 : sy_wP sy_m148 := Or.inr sy_w148
theorem sy_x148 : sy_xP sy_m148 := by unfold sy_xP; decide +kernel
theorem sy_v149 : sy_wP sy_m149 := Or.inr sy_w149
theorem sy_x149 : sy_xP sy_m149 := by unfold sy_xP; decide +kernel
theorem sy_v150 : sy_wP sy_m150 := Or.inr sy_w150
theorem sy_x150 : sy_xP sy_m150 := by unfold sy_xP; decide +kernel
theorem sy_v151 : sy_wP sy_m151 := Or.inr sy_w151
theorem sy_x151 : sy_xP sy_m151 := by unfold sy_xP; decide +kernel
theorem sy_v152 : sy_wP sy_m152 := Or.inr sy_w152
theorem sy_x152 : sy_xP sy_m152 := by unfold sy_xP; decide +kernel
theorem sy_v153 : sy_wP sy_m153 := Or.inr sy_w153
theorem sy_x153 : sy_xP sy_m153 := by unfold sy_xP; decide +kernel
theorem sy_v154 : sy_wP sy_m154 := Or.inr sy_w154
theorem sy_x154 : sy_xP sy_m154 := by unfold sy_xP; decide +kernel
theorem sy_v155 : sy_wP sy_m155 := Or.inr sy_w155
theorem sy_x155 : sy_xP sy_m155 := by unfold sy_xP; decide +kernel
theorem sy_v156 : sy_wP sy_m156 := Or.inr sy_w156
theorem sy_x156 : sy_xP sy_m156 := by unfold sy_xP; decide +kernel
theorem sy_v157 : sy_wP sy_m157 := Or.inr sy_w157
theorem sy_x157 : sy_xP sy_m157 := by unfold sy_xP; decide +kernel
theorem sy_v158 : sy_wP sy_m158 := Or.inr sy_w158
theorem sy_x158 : sy_xP sy_m158 := by unfold sy_xP; decide +kernel
theorem sy_v159 : sy_wP sy_m159 := Or.inr sy_w159
theorem sy_x159 : sy_xP sy_m159 := by unfold sy_xP; decide +kernel
theorem sy_v160 : sy_wP sy_m160 := Or.inr sy_w160
theorem sy_x160 : sy_xP sy_m160 := by unfold sy_xP; decide +kernel
theorem sy_v161 : sy_wP sy_m161 := Or.inr sy_w161
theorem sy_x161 : sy_xP sy_m161 := by unfold sy_xP; decide +kernel
theorem sy_v162 : sy_wP sy_m162 := Or.inr sy_w162
theorem sy_x162 : sy_xP sy_m162 := by unfold sy_xP; decide +kernel
theorem sy_v163 : sy_wP sy_m163 := Or.inl rfl
theorem sy_x163 : sy_xP sy_m163 := by unfold sy_xP; decide +kernel
set_option maxRecDepth 100000 in
theorem sy_wAll (y : Nat) : sy_wP (sy_mi y) := (sy_cd (P := sy_wP) (sy_cd (P := sy_wP) (sy_cd (P := sy_wP) (sy_cd (P := sy_wP) (sy_cd (P := sy_wP) (sy_cd (P := sy_wP) (sy_cd (P := sy_wP) (sy_cd (P := sy_wP) sy_v163 sy_v162) sy_v161) (sy_cd (P := sy_wP) (sy_cd (P := sy_wP) sy_v160 sy_v159) sy_v158)) (sy_cd (P := sy_wP) (sy_cd (P := sy_wP) (sy_cd (P := sy_wP) sy_v157 sy_v156) sy_v155) (sy_cd (P := sy_wP) sy_v154 sy_v153))) (sy_cd (P := sy_wP) (sy_cd (P := sy_wP) (sy_cd (P := sy_wP) (sy_cd (P := sy_wP) sy_v152 sy_v151) sy_v150) (sy_cd (P := sy_wP) sy_v149 sy_v148)) (sy_cd (P := sy_wP) (sy_cd (P := sy_wP) (sy_cd (P := sy_wP) sy_v147 sy_v146) sy_v145) (sy_cd (P := sy_wP) sy_v144 sy_v143)))) (sy_cd (P := sy_wP) (sy_cd (P := sy_wP) (sy_cd (P := sy_wP) (sy_cd (P := sy_wP) (sy_cd (P := sy_wP) sy_v142 sy_v141) sy_v140) (sy_cd (P := sy_wP) sy_v139 sy_v138)) (sy_cd (P := sy_wP) (sy_cd (P := sy_wP) (sy_cd (P := sy_wP) sy_v137 sy_v136) sy_v135) (sy_cd (P := sy_wP) sy_v134 sy_v133))) (sy_cd (P := sy_wP) (sy_cd (P := sy_wP) (sy_cd (P := sy_wP) (sy_cd (P := sy_wP) sy_v132 sy_v131) sy_v130) (sy_cd (P := sy_wP) sy_v129 sy_v128)) (sy_cd (P := sy_wP) (sy_cd (P := sy_wP) (sy_cd (P := sy_wP) sy_v127 sy_v126) sy_v125) (sy_cd (P := sy_wP) sy_v124 sy_v123))))) (sy_cd (P := sy_wP) (sy_cd (P := sy_wP) (sy_cd (P := sy_wP) (sy_cd (P := sy_wP) (sy_cd (P := sy_wP) (sy_cd (P := sy_wP) sy_v122 sy_v121) sy_v120) (sy_cd (P := sy_wP) (sy_cd (P := sy_wP) sy_v119 sy_v118) sy_v117)) (sy_cd (P := sy_wP) (sy_cd (P := sy_wP) (sy_cd (P := sy_wP) sy_v116 sy_v115) sy_v114) (sy_cd (P := sy_wP) sy_v113 sy_v112))) (sy_cd (P := sy_wP) (sy_cd (P := sy_wP) (sy_cd (P := sy_wP) (sy_cd (P := sy_wP) sy_v111 sy_v110) sy_v109) (sy_cd (P := sy_wP) sy_v108 sy_v107)) (sy_cd (P := sy_wP) (sy_cd (P := sy_wP) (sy_cd (P := sy_wP) sy_v106 sy_v105) sy_v104) (sy_cd (P := sy_wP) sy_v103 sy_v102)))) (sy_cd (P := sy_wP) (sy_cd (P := sy_wP) (sy_cd (P := sy_wP) (sy_cd (P := sy_wP) (sy_cd (P := sy_wP) sy_v101 sy_v100) sy_v99) (sy_cd (P := sy_wP) sy_v98 sy_v97)) (sy_cd (P := sy_wP) (sy_cd (P := sy_wP) (sy_cd (P := sy_wP) sy_v96 sy_v95) sy_v94) (sy_cd (P := sy_wP) sy_v93 sy_v92))) (sy_cd (P := sy_wP) (sy_cd (P := sy_wP) (sy_cd (P := sy_wP) (sy_cd (P := sy_wP) sy_v91 sy_v90) sy_v89) (sy_cd (P := sy_wP) sy_v88 sy_v87)) (sy_cd (P := sy_wP) (sy_cd (P := sy_wP) (sy_cd (P := sy_wP) sy_v86 sy_v85) sy_v84) (sy_cd (P := sy_wP) sy_v83 sy_v82)))))) (sy_cd (P := sy_wP) (sy_cd (P := sy_wP) (sy_cd (P := sy_wP) (sy_cd (P := sy_wP) (sy_cd (P := sy_wP) (sy_cd (P := sy_wP) (sy_cd (P := sy_wP) sy_v81 sy_v80) sy_v79) (sy_cd (P := sy_wP) (sy_cd (P := sy_wP) sy_v78 sy_v77) sy_v76)) (sy_cd (P := sy_wP) (sy_cd (P := sy_wP) (sy_cd (P := sy_wP) sy_v75 sy_v74) sy_v73) (sy_cd (P := sy_wP) sy_v72 sy_v71))) (sy_cd (P := sy_wP) (sy_cd (P := sy_wP) (sy_cd (P := sy_wP) (sy_cd (P := sy_wP) sy_v70 sy_v69) sy_v68) (sy_cd (P := sy_wP) sy_v67 sy_v66)) (sy_cd (P := sy_wP) (sy_cd (P := sy_wP) (sy_cd (P := sy_wP) sy_v65 sy_v64) sy_v63) (sy_cd (P := sy_wP) sy_v62 sy_v61)))) (sy_cd (P := sy_wP) (sy_cd (P := sy_wP) (sy_cd (P := sy_wP) (sy_cd (P := sy_wP) (sy_cd (P := sy_wP) sy_v60 sy_v59) sy_v58) (sy_cd (P := sy_wP) sy_v57 sy_v56)) (sy_cd (P := sy_wP) (sy_cd (P := sy_wP) (sy_cd (P := sy_wP) sy_v55 sy_v54) sy_v53) (sy_cd (P := sy_wP) sy_v52 sy_v51))) (sy_cd (P := sy_wP) (sy_cd (P := sy_wP) (sy_cd (P := sy_wP) (sy_cd (P := sy_wP) sy_v50 sy_v49) sy_v48) (sy_cd (P := sy_wP) sy_v47 sy_v46)) (sy_cd (P := sy_wP) (sy_cd (P := sy_wP) (sy_cd (P := sy_wP) sy_v45 sy_v44) sy_v43) (sy_cd (P := sy_wP) sy_v42 sy_v41))))) (sy_cd (P := sy_wP) (sy_cd (P := sy_wP) (sy_cd (P := sy_wP) (sy_cd (P := sy_wP) (sy_cd (P := sy_wP) (sy_cd (P := sy_wP) sy_v40 sy_v39) sy_v38) (sy_cd (P := sy_wP) (sy_cd (P := sy_wP) sy_v37 sy_v36) sy_v35)) (sy_cd (P := sy_wP) (sy_cd (P := sy_wP) (sy_cd (P := sy_wP) sy_v34 sy_v33) sy_v32) (sy_cd (P := sy_wP) sy_v31 sy_v30))) (sy_cd (P := sy_wP) (sy_cd (P := sy_wP) (sy_cd (P := sy_wP) (sy_cd (P := sy_wP) sy_v29 sy_v28) sy_v27) (sy_cd (P := sy_wP) sy_v26 sy_v25)) (sy_cd (P := sy_wP) (sy_cd (P := sy_wP) (sy_cd (P := sy_wP) sy_v24 sy_v23) sy_v22) (sy_cd (P := sy_wP) sy_v21 sy_v20)))) (sy_cd (P := sy_wP) (sy_cd (P := sy_wP) (sy_cd (P := sy_wP) (sy_cd (P := sy_wP) (sy_cd (P := sy_wP) sy_v19 sy_v18) sy_v17) (sy_cd (P := sy_wP) sy_v16 sy_v15)) (sy_cd (P := sy_wP) (sy_cd (P := sy_wP) (sy_cd (P := sy_wP) sy_v14 sy_v13) sy_v12) (sy_cd (P := sy_wP) sy_v11 sy_v10))) (sy_cd (P := sy_wP) (sy_cd (P := sy_wP) (sy_cd (P := sy_wP) (sy_cd (P := sy_wP) sy_v9 sy_v8) sy_v7) (sy_cd (P := sy_wP) sy_v6 sy_v5)) (sy_cd (P := sy_wP) (sy_cd (P := sy_wP) (sy_cd (P := sy_wP) sy_v4 sy_v3) sy_v2) (sy_cd (P := sy_wP) sy_v1 sy_v0)))))))
set_option maxRecDepth 100000 in
theorem sy_xAll (y : Nat) : sy_xP (sy_mi y) := (sy_cd (P := sy_xP) (sy_cd (P := sy_xP) (sy_cd (P := sy_xP) (sy_cd (P := sy_xP) (sy_cd (P := sy_xP) (sy_cd (P := sy_xP) (sy_cd (P := sy_xP) (sy_cd (P := sy_xP) sy_x163 sy_x162) sy_x161) (sy_cd (P := sy_xP) (sy_cd (P := sy_xP) sy_x160 sy_x159) sy_x158)) (sy_cd (P := sy_xP) (sy_cd (P := sy_xP) (sy_cd (P := sy_xP) sy_x157 sy_x156) sy_x155) (sy_cd (P := sy_xP) sy_x154 sy_x153))) (sy_cd (P := sy_xP) (sy_cd (P := sy_xP) (sy_cd (P := sy_xP) (sy_cd (P := sy_xP) sy_x152 sy_x151) sy_x150) (sy_cd (P := sy_xP) sy_x149 sy_x148)) (sy_cd (P := sy_xP) (sy_cd (P := sy_xP) (sy_cd (P := sy_xP) sy_x147 sy_x146) sy_x145) (sy_cd (P := sy_xP) sy_x144 sy_x143)))) (sy_cd (P := sy_xP) (sy_cd (P := sy_xP) (sy_cd (P := sy_xP) (sy_cd (P := sy_xP) (sy_cd (P := sy_xP) sy_x142 sy_x141) sy_x140) (sy_cd (P := sy_xP) sy_x139 sy_x138)) (sy_cd (P := sy_xP) (sy_cd (P := sy_xP) (sy_cd (P := sy_xP) sy_x137 sy_x136) sy_x135) (sy_cd (P := sy_xP) sy_x134 sy_x133))) (sy_cd (P := sy_xP) (sy_cd (P := sy_xP) (sy_cd (P := sy_xP) (sy_cd (P := sy_xP) sy_x132 sy_x131) sy_x130) (sy_cd (P := sy_xP) sy_x129 sy_x128)) (sy_cd (P := sy_xP) (sy_cd (P := sy_xP) (sy_cd (P := sy_xP) sy_x127 sy_x126) sy_x125) (sy_cd (P := sy_xP) sy_x124 sy_x123))))) (sy_cd (P := sy_xP) (sy_cd (P := sy_xP) (sy_cd (P := sy_xP) (sy_cd (P := sy_xP) (sy_cd (P := sy_xP) (sy_cd (P := sy_xP) sy_x122 sy_x121) sy_x120) (sy_cd (P := sy_xP) (sy_cd (P := sy_xP) sy_x119 sy_x118) sy_x117)) (sy_cd (P := sy_xP) (sy_cd (P := sy_xP) (sy_cd (P := sy_xP) sy_x116 sy_x115) sy_x114) (sy_cd (P := sy_xP) sy_x113 sy_x112))) (sy_cd (P := sy_xP) (sy_cd (P := sy_xP) (sy_cd (P := sy_xP) (sy_cd (P := sy_xP) sy_x111 sy_x110) sy_x109) (sy_cd (P := sy_xP) sy_x108 sy_x107)) (sy_cd (P := sy_xP) (sy_cd (P := sy_xP) (sy_cd (P := sy_xP) sy_x106 sy_x105) sy_x104) (sy_cd (P := sy_xP) sy_x103 sy_x102)))) (sy_cd (P := sy_xP) (sy_cd (P := sy_xP) (sy_cd (P := sy_xP) (sy_cd (P := sy_xP) (sy_cd (P := sy_xP) sy_x101 sy_x100) sy_x99) (sy_cd (P := sy_xP) sy_x98 sy_x97)) (sy_cd (P := sy_xP) (sy_cd (P := sy_xP) (sy_cd (P := sy_xP) sy_x96 sy_x95) sy_x94) (sy_cd (P := sy_xP) sy_x93 sy_x92))) (sy_cd (P := sy_xP) (sy_cd (P := sy_xP) (sy_cd (P := sy_xP) (sy_cd (P := sy_xP) sy_x91 sy_x90) sy_x89) (sy_cd (P := sy_xP) sy_x88 sy_x87)) (sy_cd (P := sy_xP) (sy_cd (P := sy_xP) (sy_cd (P := sy_xP) sy_x86 sy_x85) sy_x84) (sy_cd (P := sy_xP) sy_x83 sy_x82)))))) (sy_cd (P := sy_xP) (sy_cd (P := sy_xP) (sy_cd (P := sy_xP) (sy_cd (P := sy_xP) (sy_cd (P := sy_xP) (sy_cd (P := sy_xP) (sy_cd (P := sy_xP) sy_x81 sy_x80) sy_x79) (sy_cd (P := sy_xP) (sy_cd (P := sy_xP) sy_x78 sy_x77) sy_x76)) (sy_cd (P := sy_xP) (sy_cd (P := sy_xP) (sy_cd (P := sy_xP) sy_x75 sy_x74) sy_x73) (sy_cd (P := sy_xP) sy_x72 sy_x71))) (sy_cd (P := sy_xP) (sy_cd (P := sy_xP) (sy_cd (P := sy_xP) (sy_cd (P := sy_xP) sy_x70 sy_x69) sy_x68) (sy_cd (P := sy_xP) sy_x67 sy_x66)) (sy_cd (P := sy_xP) (sy_cd (P := sy_xP) (sy_cd (P := sy_xP) sy_x65 sy_x64) sy_x63) (sy_cd (P := sy_xP) sy_x62 sy_x61)))) (sy_cd (P := sy_xP) (sy_cd (P := sy_xP) (sy_cd (P := sy_xP) (sy_cd (P := sy_xP) (sy_cd (P := sy_xP) sy_x60 sy_x59) sy_x58) (sy_cd (P := sy_xP) sy_x57 sy_x56)) (sy_cd (P := sy_xP) (sy_cd (P := sy_xP) (sy_cd (P := sy_xP) sy_x55 sy_x54) sy_x53) (sy_cd (P := sy_xP) sy_x52 sy_x51))) (sy_cd (P := sy_xP) (sy_cd (P := sy_xP) (sy_cd (P := sy_xP) (sy_cd (P := sy_xP) sy_x50 sy_x49) sy_x48) (sy_cd (P := sy_xP) sy_x47 sy_x46)) (sy_cd (P := sy_xP) (sy_cd (P := sy_xP) (sy_cd (P := sy_xP) sy_x45 sy_x44) sy_x43) (sy_cd (P := sy_xP) sy_x42 sy_x41))))) (sy_cd (P := sy_xP) (sy_cd (P := sy_xP) (sy_cd (P := sy_xP) (sy_cd (P := sy_xP) (sy_cd (P := sy_xP) (sy_cd (P := sy_xP) sy_x40 sy_x39) sy_x38) (sy_cd (P := sy_xP) (sy_cd (P := sy_xP) sy_x37 sy_x36) sy_x35)) (sy_cd (P := sy_xP) (sy_cd (P := sy_xP) (sy_cd (P := sy_xP) sy_x34 sy_x33) sy_x32) (sy_cd (P := sy_xP) sy_x31 sy_x30))) (sy_cd (P := sy_xP) (sy_cd (P := sy_xP) (sy_cd (P := sy_xP) (sy_cd (P := sy_xP) sy_x29 sy_x28) sy_x27) (sy_cd (P := sy_xP) sy_x26 sy_x25)) (sy_cd (P := sy_xP) (sy_cd (P := sy_xP) (sy_cd (P := sy_xP) sy_x24 sy_x23) sy_x22) (sy_cd (P := sy_xP) sy_x21 sy_x20)))) (sy_cd (P := sy_xP) (sy_cd (P := sy_xP) (sy_cd (P := sy_xP) (sy_cd (P := sy_xP) (sy_cd (P := sy_xP) sy_x19 sy_x18) sy_x17) (sy_cd (P := sy_xP) sy_x16 sy_x15)) (sy_cd (P := sy_xP) (sy_cd (P := sy_xP) (sy_cd (P := sy_xP) sy_x14 sy_x13) sy_x12) (sy_cd (P := sy_xP) sy_x11 sy_x10))) (sy_cd (P := sy_xP) (sy_cd (P := sy_xP) (sy_cd (P := sy_xP) (sy_cd (P := sy_xP) sy_x9 sy_x8) sy_x7) (sy_cd (P := sy_xP) sy_x6 sy_x5)) (sy_cd (P := sy_xP) (sy_cd (P := sy_xP) (sy_cd (P := sy_xP) sy_x4 sy_x3) sy_x2) (sy_cd (P := sy_xP) sy_x1 sy_x0)))))))
end
section
/-! ===== a small machine over one memory: places (cells) and their ints; the cells' shapes stand fixed ===== -/
abbrev sy_Lo : Type := List (Option Value)
abbrev sy_Mm : Type := Nat → Nat → Int32
abbrev sy_Nx : Type := Nat × sy_Lo × List Value × sy_Mm
/-- next; next if; a branch (if so, there, else); a call (method, arguments, then); a return (if, the answer) -/
abbrev sy_Rs : Type := sy_Nx ⊕ ((Bool × sy_Nx) ⊕ ((Bool × Nat × sy_Nx) ⊕ ((Nat × List Value × sy_Nx) ⊕ (Bool × Option Value))))
/-- a cell: an object (its class; for each field the place that it holds, none for an int), a row of ints, a row of places -/
abbrev sy_Sp : Type := (Nat × List (Option Nat)) ⊕ (Nat ⊕ List Nat)
def sy_SH : List sy_Sp := [
  .inl (7, [some 1, some 3, some 9, some 13, some 14, some 19, some 21, none]),
  .inl (5, [some 2, none, none, none]), .inr (.inl 30),
  .inl (4, [some 4, some 5, some 6, some 7, some 8, none]), .inr (.inl 40), .inr (.inl 40), .inr (.inl 40), .inr (.inl 40), .inr (.inl 40),
  .inl (6, [some 1, some 3, some 10, some 11, some 12, none, none, none, none, none, none]), .inr (.inl 9), .inr (.inl 9), .inr (.inl 9),
  .inl (2, [some 9, none]),
  .inl (0, [some 9, some 15, some 16, some 17, some 18, none, none, none, none, none]), .inr (.inl 8), .inr (.inl 8), .inr (.inl 8), .inr (.inl 8),
  .inl (1, [some 20]), .inr (.inl 8),
  .inr (.inr [22, 24, 26, 28]),
  .inl (3, [some 23, none, none]), .inr (.inl 60), .inl (3, [some 25, none, none]), .inr (.inl 60), .inl (3, [some 27, none, none]), .inr (.inl 60), .inl (3, [some 29, none, none]), .inr (.inl 60),
  .inl (8, [some 31, some 32, some 33, some 34, none, some 35, none, none, none, some 36, none, none, none, some 37, some 38, some 39, some 40, none, none, none, none, some 41, some 42, some 43, some 44, some 45]),
  .inr (.inl 4), .inr (.inl 4), .inr (.inl 240), .inr (.inl 60), .inr (.inl 30), .inr (.inl 9), .inr (.inl 200), .inr (.inl 36), .inr (.inl 36), .inr (.inl 9), .inr (.inl 24), .inr (.inl 8), .inr (.inl 4), .inr (.inl 4), .inr (.inl 8)]
def sy_nt {α : Type} : List α → Nat → Option α
  | [], _ => none
  | a :: _, 0 => some a
  | _ :: l, n + 1 => sy_nt l n
theorem sy_nt_eq {α : Type} (l : List α) (n : Nat) : sy_nt l n = l[n]? := by
  induction l generalizing n with
  | nil => rfl
  | cons a l ih => cases n with
    | zero => rfl
    | succ n => simpa [sy_nt] using ih n
def sy_get : sy_Lo → Nat → Option Value
  | [], _ => none
  | a :: _, 0 => a
  | _ :: l, n + 1 => sy_get l n
def sy_clr : Option Value → Option Value
  | some (.long _) => none
  | some (.double _) => none
  | o => o
def sy_set1 : sy_Lo → Nat → Value → sy_Lo
  | [], _, _ => []
  | _ :: l, 0, v => some v :: l
  | a :: l, 1, v => sy_clr a :: sy_set1 l 0 v
  | a :: l, n + 2, v => a :: sy_set1 l (n + 1) v
def sy_tl : sy_Lo → sy_Lo
  | [] => []
  | _ :: r => none :: r
def sy_set2 : sy_Lo → Nat → Value → sy_Lo
  | [], _, _ => []
  | _ :: l, 0, v => some v :: sy_tl l
  | a :: l, 1, v => sy_clr a :: sy_set2 l 0 v
  | a :: l, n + 2, v => a :: sy_set2 l (n + 1) v
/-- the memory with one row put anew -/
def sy_row (M : sy_Mm) (k : Nat) (f : Nat → Int32) : sy_Mm := fun q => cond (Nat.beq q k) f (M q)
def sy_up (M : sy_Mm) (k j : Nat) (x : Int32) : sy_Mm := sy_row M k (upd (M k) j x)
def sy_as {α : Type} : List (Nat × α) → Nat → Option α
  | [], _ => none
  | q :: r, n => cond (Nat.beq q.1 n) (some q.2) (sy_as r n)
def sy_pop : Nat → List Value → List Value → Option (List Value × List Value)
  | 0, st, acc => some (acc, st)
  | _ + 1, [], _ => none
  | n + 1, v :: st, acc => sy_pop n st (v :: acc)
def sy_cs : List Value → Nat
  | [] => 0
  | .long _ :: r => sy_cs r + 2
  | .double _ :: r => sy_cs r + 2
  | _ :: r => sy_cs r + 1
def sy_ent : List Value → sy_Lo
  | [] => []
  | .long x :: r => some (.long x) :: none :: sy_ent r
  | .double x :: r => some (.double x) :: none :: sy_ent r
  | v :: r => some v :: sy_ent r
def sy_pad : sy_Lo → Nat → sy_Lo
  | l, 0 => l
  | [], n + 1 => none :: sy_pad [] n
  | a :: l, n + 1 => a :: sy_pad l n
/-- the place of a switch's target -/
def sy_sw (pc : Nat) (dflt lo hi : Int) (offs : Array Int) (x : Int32) : Int :=
  if x.toInt < lo ∨ hi < x.toInt then (pc : Int) + dflt else match offs[(x.toInt - lo).toNat]? with
    | some off => (pc : Int) + off
    | none => -1
def sy_fld (k ci j : Nat) : Option (Option Nat) := match sy_nt sy_SH k with
  | some (.inl (c, fs)) => cond (Nat.beq c ci) (sy_nt fs j) none
  | _ => none
def sy_isO (k ci : Nat) : Bool := match sy_nt sy_SH k with
  | some (.inl (c, _)) => Nat.beq c ci
  | _ => false
def sy_call (b : Bool) (y : Nat) (as : List Value) (nx : Nat) (ls : sy_Lo) (r : List Value) (M : sy_Mm) : Option sy_Rs := cond (cond (Nat.beq (sy_mi y).2.2.2.2.1 11) false b) (cond (Nat.ble (sy_cs r) 8 && Nat.ble (sy_cs as) (sy_mi y).2.2.1) (some (.inr (.inr (.inr (.inl (y, as, (nx, ls, r, M))))))) none) none
def sy_ld1 (o : Option Value) (nx : Nat) (ls : sy_Lo) (st : List Value) (M : sy_Mm) : Option sy_Rs := match o with
  | some (.int x) => some (.inl (nx, ls, .int x :: st, M))
  | _ => none
def sy_ld2 (o : Option Value) (nx : Nat) (ls : sy_Lo) (st : List Value) (M : sy_Mm) : Option sy_Rs := match o with
  | some (.long x) => some (.inl (nx, ls, .long x :: st, M))
  | _ => none
def sy_lda (o : Option Value) (nx : Nat) (ls : sy_Lo) (st : List Value) (M : sy_Mm) : Option sy_Rs := match o with
  | some (.ref x) => some (.inl (nx, ls, .ref x :: st, M))
  | _ => none
def sy_st1 (n k nx : Nat) (ls : sy_Lo) (st : List Value) (M : sy_Mm) : Option sy_Rs := match st with
  | .int x :: r => cond (Nat.blt k n) (some (.inl (nx, sy_set1 ls k (.int x), r, M))) none
  | _ => none
def sy_sta (n k nx : Nat) (ls : sy_Lo) (st : List Value) (M : sy_Mm) : Option sy_Rs := match st with
  | .ref x :: r => cond (Nat.blt k n) (some (.inl (nx, sy_set1 ls k (.ref x), r, M))) none
  | _ => none
def sy_st2 (n k nx : Nat) (ls : sy_Lo) (st : List Value) (M : sy_Mm) : Option sy_Rs := match st with
  | .long x :: r => cond (Nat.blt (k + 1) n) (some (.inl (nx, sy_set2 ls k (.long x), r, M))) none
  | _ => none
def sy_len : Instr → Nat
  | .bipush _ => 2 | .sipush _ => 3 | .ldc _ => 2 | .ldc_w _ => 3 | .ldc2_w _ => 3
  | .iload _ => 2 | .lload _ => 2 | .aload _ => 2 | .istore _ => 2 | .lstore _ => 2 | .astore _ => 2 | .iinc _ _ => 3
  | .ifCond _ _ => 3 | .if_icmp _ _ => 3 | .goto _ => 3 | .getfield _ => 3 | .putfield _ => 3 | .invokevirtual _ => 3 | .invokestatic _ => 3 | .invokespecial _ => 3 | .new _ => 3
  | .tableswitch _ _ _ _ => 0
  | _ => 1
def sy_okL (q : sy_En) : Bool := cond (Nat.beq (sy_len q.2.1) 0) true (Nat.beq q.2.2.1 (q.1 + sy_len q.2.1))
def sy_op (i : Instr) (nx tg : Nat) (z : Int32) (mi : sy_MI) (pc : Nat) (ls : sy_Lo) (st : List Value) (M : sy_Mm) : Option sy_Rs := match i with
  | .iconst _ => some (.inl (nx, ls, .int z :: st, M))
  | .bipush _ => some (.inl (nx, ls, .int z :: st, M))
  | .sipush _ => some (.inl (nx, ls, .int z :: st, M))
  | .lconst n => match n with
    | ⟨0, _⟩ => some (.inl (nx, ls, .long 0 :: st, M))
    | ⟨_ + 1, _⟩ => some (.inl (nx, ls, .long 1 :: st, M))
  | .ldc k => match sy_as (sy_ci mi.2.2.2.2.1).2.2.2.1 k with
    | some v => some (.inl (nx, ls, .int v :: st, M))
    | none => none
  | .ldc_w k => match sy_as (sy_ci mi.2.2.2.2.1).2.2.2.1 k with
    | some v => some (.inl (nx, ls, .int v :: st, M))
    | none => none
  | .ldc2_w k => match sy_as (sy_ci mi.2.2.2.2.1).2.2.2.2 k with
    | some v => some (.inl (nx, ls, .long v :: st, M))
    | none => none
  | .iload k => sy_ld1 (sy_get ls k) nx ls st M
  | .iload_n k => sy_ld1 (sy_get ls k.val) nx ls st M
  | .lload k => sy_ld2 (sy_get ls k) nx ls st M
  | .lload_n k => sy_ld2 (sy_get ls k.val) nx ls st M
  | .aload k => sy_lda (sy_get ls k) nx ls st M
  | .aload_n k => sy_lda (sy_get ls k.val) nx ls st M
  | .istore k => sy_st1 mi.2.2.1 k nx ls st M
  | .istore_n k => sy_st1 mi.2.2.1 k.val nx ls st M
  | .lstore k => sy_st2 mi.2.2.1 k nx ls st M
  | .lstore_n k => sy_st2 mi.2.2.1 k.val nx ls st M
  | .astore k => sy_sta mi.2.2.1 k nx ls st M
  | .astore_n k => sy_sta mi.2.2.1 k.val nx ls st M
  | .iinc k _ => match sy_get ls k with
    | some (.int x) => cond (Nat.blt k mi.2.2.1) (some (.inl (nx, sy_set1 ls k (.int (x + z)), st, M))) none
    | _ => none
  | .iadd => match st with
    | .int y :: .int x :: r => some (.inl (nx, ls, .int (x + y) :: r, M))
    | _ => none
  | .isub => match st with
    | .int y :: .int x :: r => some (.inl (nx, ls, .int (x - y) :: r, M))
    | _ => none
  | .imul => match st with
    | .int y :: .int x :: r => some (.inl (nx, ls, .int (x * y) :: r, M))
    | _ => none
  | .iand => match st with
    | .int y :: .int x :: r => some (.inl (nx, ls, .int (x &&& y) :: r, M))
    | _ => none
  | .ior => match st with
    | .int y :: .int x :: r => some (.inl (nx, ls, .int (x ||| y) :: r, M))
    | _ => none
  | .ixor => match st with
    | .int y :: .int x :: r => some (.inl (nx, ls, .int (x ^^^ y) :: r, M))
    | _ => none
  | .ishl => match st with
    | .int y :: .int x :: r => some (.inl (nx, ls, .int (x <<< (y &&& 31)) :: r, M))
    | _ => none
  | .ishr => match st with
    | .int y :: .int x :: r => some (.inl (nx, ls, .int (x >>> (y &&& 31)) :: r, M))
    | _ => none
  | .iushr => match st with
    | .int y :: .int x :: r => some (.inl (nx, ls, .int (x.toUInt32 >>> (y.toUInt32 &&& Int32.toUInt32 31)).toInt32 :: r, M))
    | _ => none
  | .idiv => match st with
    | .int y :: .int x :: r => some (.inr (.inl (decide (¬ y = 0), (nx, ls, .int (x / y) :: r, M))))
    | _ => none
  | .irem => match st with
    | .int y :: .int x :: r => some (.inr (.inl (decide (¬ y = 0), (nx, ls, .int (x - x / y * y) :: r, M))))
    | _ => none
  | .ladd => match st with
    | .long y :: .long x :: r => some (.inl (nx, ls, .long (x + y) :: r, M))
    | _ => none
  | .lsub => match st with
    | .long y :: .long x :: r => some (.inl (nx, ls, .long (x - y) :: r, M))
    | _ => none
  | .lmul => match st with
    | .long y :: .long x :: r => some (.inl (nx, ls, .long (x * y) :: r, M))
    | _ => none
  | .ldiv => match st with
    | .long y :: .long x :: r => some (.inr (.inl (decide (¬ y = 0), (nx, ls, .long (x / y) :: r, M))))
    | _ => none
  | .lrem => match st with
    | .long y :: .long x :: r => some (.inr (.inl (decide (¬ y = 0), (nx, ls, .long (x - x / y * y) :: r, M))))
    | _ => none
  | .lcmp => match st with
    | .long y :: .long x :: r => some (.inl (nx, ls, .int (lg_cmp x y) :: r, M))
    | _ => none
  | .i2l => match st with
    | .int x :: r => some (.inl (nx, ls, .long x.toInt64 :: r, M))
    | _ => none
  | .i2b => match st with
    | .int x :: r => some (.inl (nx, ls, .int x.toInt8.toInt32 :: r, M))
    | _ => none
  | .i2s => match st with
    | .int x :: r => some (.inl (nx, ls, .int x.toInt16.toInt32 :: r, M))
    | _ => none
  | .dup => match st with
    | .int x :: r => some (.inl (nx, ls, .int x :: .int x :: r, M))
    | .ref x :: r => some (.inl (nx, ls, .ref x :: .ref x :: r, M))
    | _ => none
  | .dup2 => match st with
    | .int x :: .ref y :: r => some (.inl (nx, ls, .int x :: .ref y :: .int x :: .ref y :: r, M))
    | _ => none
  | .pop => match st with
    | .int _ :: r => some (.inl (nx, ls, r, M))
    | _ => none
  | .goto _ => some (.inl (tg, ls, st, M))
  | .ifCond .eq _ => match st with
    | .int x :: r => some (.inr (.inr (.inl (decide (x = 0), tg, (nx, ls, r, M)))))
    | _ => none
  | .ifCond .ne _ => match st with
    | .int x :: r => some (.inr (.inr (.inl (decide (¬ x = 0), tg, (nx, ls, r, M)))))
    | _ => none
  | .ifCond .lt _ => match st with
    | .int x :: r => some (.inr (.inr (.inl (decide (x < 0), tg, (nx, ls, r, M)))))
    | _ => none
  | .ifCond .ge _ => match st with
    | .int x :: r => some (.inr (.inr (.inl (decide (0 ≤ x), tg, (nx, ls, r, M)))))
    | _ => none
  | .ifCond .gt _ => match st with
    | .int x :: r => some (.inr (.inr (.inl (decide (0 < x), tg, (nx, ls, r, M)))))
    | _ => none
  | .ifCond .le _ => match st with
    | .int x :: r => some (.inr (.inr (.inl (decide (x ≤ 0), tg, (nx, ls, r, M)))))
    | _ => none
  | .if_icmp .eq _ => match st with
    | .int y :: .int x :: r => some (.inr (.inr (.inl (decide (x = y), tg, (nx, ls, r, M)))))
    | _ => none
  | .if_icmp .ne _ => match st with
    | .int y :: .int x :: r => some (.inr (.inr (.inl (decide (¬ x = y), tg, (nx, ls, r, M)))))
    | _ => none
  | .if_icmp .lt _ => match st with
    | .int y :: .int x :: r => some (.inr (.inr (.inl (decide (x < y), tg, (nx, ls, r, M)))))
    | _ => none
  | .if_icmp .ge _ => match st with
    | .int y :: .int x :: r => some (.inr (.inr (.inl (decide (y ≤ x), tg, (nx, ls, r, M)))))
    | _ => none
  | .if_icmp .gt _ => match st with
    | .int y :: .int x :: r => some (.inr (.inr (.inl (decide (y < x), tg, (nx, ls, r, M)))))
    | _ => none
  | .if_icmp .le _ => match st with
    | .int y :: .int x :: r => some (.inr (.inr (.inl (decide (x ≤ y), tg, (nx, ls, r, M)))))
    | _ => none
  | .tableswitch dflt lo hi offs => match st with
    | .int x :: r => some (.inr (.inl (decide (0 ≤ sy_sw pc dflt lo hi offs x), ((sy_sw pc dflt lo hi offs x).toNat, ls, r, M))))
    | _ => none
  | .getfield k => match sy_as (sy_ci mi.2.2.2.2.1).2.1 k with
    | some (ci, j) => match st with
      | .ref a :: r => match sy_fld a ci j with
        | some (some p) => some (.inl (nx, ls, .ref p :: r, M))
        | some none => some (.inl (nx, ls, .int (M a j) :: r, M))
        | none => none
      | _ => none
    | none => none
  | .putfield k => match sy_as (sy_ci mi.2.2.2.2.1).2.1 k with
    | some (ci, j) => match st with
      | .int x :: .ref a :: r => match sy_fld a ci j with
        | some none => some (.inl (nx, ls, r, sy_up M a j x))
        | _ => none
      | _ => none
    | none => none
  | .iaload => match st with
    | .int i :: .ref a :: r => match sy_nt sy_SH a with
      | some (.inr (.inl n)) => some (.inr (.inl (decide (0 ≤ i.toInt ∧ i.toInt < (n : Int)), (nx, ls, .int (M a i.toNatClampNeg) :: r, M))))
      | some _ => none
      | none => cond (Nat.beq a 99) (some (.inr (.inl (decide (0 ≤ i.toInt ∧ i.toInt < (M 98 0).toInt), (nx, ls, .int (M 99 i.toNatClampNeg) :: r, M))))) none
    | _ => none
  | .iastore => match st with
    | .int x :: .int i :: .ref a :: r => match sy_nt sy_SH a with
      | some (.inr (.inl n)) => some (.inr (.inl (decide (0 ≤ i.toInt ∧ i.toInt < (n : Int)), (nx, ls, r, sy_up M a i.toNatClampNeg x))))
      | _ => none
    | _ => none
  | .aaload => match st with
    | .int i :: .ref a :: r => match sy_nt sy_SH a with
      | some (.inr (.inr ps)) => match sy_nt ps i.toNatClampNeg with
        | some p => some (.inr (.inl (decide (0 ≤ i.toInt), (nx, ls, .ref p :: r, M))))
        | none => none
      | _ => none
    | _ => none
  | .arraylength => match st with
    | .ref a :: r => cond (Nat.beq a 99) (some (.inl (nx, ls, .int (M 98 0) :: r, M))) none
    | _ => none
  | .invokevirtual k => match sy_as (sy_ci mi.2.2.2.2.1).2.2.1 k with
    | some (y, kd) => cond (Nat.beq kd 0) (match sy_pop (sy_mi y).2.2.2.2.2.2.1 st [] with
      | some (as, .ref a :: r) => sy_call (cond (sy_mi y).2.2.2.2.2.1 false (sy_isO a (sy_mi y).2.2.2.2.1)) y (.ref a :: as) nx ls r M
      | _ => none) none
    | none => none
  | .invokestatic k => match sy_as (sy_ci mi.2.2.2.2.1).2.2.1 k with
    | some (y, kd) => cond (Nat.beq kd 2) (match st with
      | .int n :: .int dp :: .ref b :: .int sp :: .ref a :: r => match sy_nt sy_SH a, sy_nt sy_SH b with
        | some (.inr (.inl na)), some (.inr (.inl nb)) => cond (Nat.ble (sy_cs r) 8) (some (.inr (.inl (decide ((¬ sp < 0 ∧ ¬ dp < 0 ∧ ¬ n < 0) ∧ sp.toNatClampNeg + n.toNatClampNeg ≤ na ∧ dp.toNatClampNeg + n.toNatClampNeg ≤ nb), (nx, ls, r, sy_row M b (va_cpy (M a) (M b) sp.toNatClampNeg dp.toNatClampNeg n.toNatClampNeg)))))) none
        | _, _ => none
      | _ => none) <| cond (Nat.beq kd 3) (match st with
      | .int v :: .int u :: r => cond (Nat.ble (sy_cs r) 8) (some (.inl (nx, ls, .int (if v < u then v else u) :: r, M))) none
      | _ => none) (match sy_pop (sy_mi y).2.2.2.2.2.2.1 st [] with
      | some (as, r) => sy_call (sy_mi y).2.2.2.2.2.1 y as nx ls r M
      | _ => none)
    | none => none
  | .ireturn => match st with
    | [.int v] => match mi.2.2.2.1 with
      | some .int => some (.inr (.inr (.inr (.inr (true, some (.int v))))))
      | some .boolean => some (.inr (.inr (.inr (.inr (decide (v = 0 ∨ v = 1), some (.int v))))))
      | _ => none
    | _ => none
  | .lreturn => match st with
    | [.long v] => match mi.2.2.2.1 with
      | some .long => some (.inr (.inr (.inr (.inr (true, some (.long v))))))
      | _ => none
    | _ => none
  | .return_ => match st with
    | [] => match mi.2.2.2.1 with
      | none => some (.inr (.inr (.inr (.inr (true, none)))))
      | _ => none
    | _ => none
  | _ => none
def sy_step (y pc : Nat) (ls : sy_Lo) (st : List Value) (M : sy_Mm) : Option sy_Rs := match sy_lk (sy_mi y).1 pc with
  | none => none
  | some (i, nx, tg, z) => sy_op i nx tg z (sy_mi y) pc ls st M
def sy_en (y : Nat) (as : List Value) : sy_Lo := sy_pad (sy_ent as) (sy_mi y).2.2.1
/-- n steps at most, d calls deep at most -/
def sy_run : Nat → Nat → Nat → Nat → sy_Lo → List Value → sy_Mm → Option (Option Value × sy_Mm)
  | 0, _, _, _, _, _, _ => none
  | n + 1, d, y, pc, ls, st, M => match sy_step y pc ls st M with
    | none => none
    | some (.inl (pc', ls', st', M')) => sy_run n d y pc' ls' st' M'
    | some (.inr (.inl (b, pc', ls', st', M'))) => cond b (sy_run n d y pc' ls' st' M') none
    | some (.inr (.inr (.inl (b, t, pc', ls', st', M')))) => cond b (sy_run n d y t ls' st' M') (sy_run n d y pc' ls' st' M')
    | some (.inr (.inr (.inr (.inl (y', as, pc', ls', st', M'))))) => match d with
      | 0 => none
      | d' + 1 => match sy_run n d' y' 0 (sy_en y' as) [] M' with
        | none => none
        | some (r, M2) => sy_run n (d' + 1) y pc' ls' (r.toList ++ st') M2
    | some (.inr (.inr (.inr (.inr (b, v))))) => cond b (some (v, M)) none
/-- from this frame on the method comes to its end with r and the memory M' -/
def Fr (d y pc : Nat) (ls : sy_Lo) (st : List Value) (M : sy_Mm) (r : Option Value) (M' : sy_Mm) : Prop := ∃ n, sy_run n d y pc ls st M = some (r, M')
def Ev (d y : Nat) (as : List Value) (M : sy_Mm) (r : Option Value) (M' : sy_Mm) : Prop := Fr d y 0 (sy_en y as) [] M r M'
theorem sy_mono : ∀ (n n' d y pc : Nat) (ls : sy_Lo) (st : List Value) (M : sy_Mm) (x : Option Value × sy_Mm), n ≤ n' → sy_run n d y pc ls st M = some x → sy_run n' d y pc ls st M = some x := by
  intro n
  induction n with
  | zero => intro n' d y pc ls st M x _ h; simp [sy_run] at h
  | succ n ih =>
    intro n' d y pc ls st M x hn h
    obtain ⟨n', rfl⟩ : ∃ k, n' = k + 1 := ⟨n' - 1, by omega⟩
    have hn : n ≤ n' := by omega
    unfold sy_run at h ⊢
    generalize sy_step y pc ls st M = o at h ⊢
    rcases o with _ | (⟨pc', ls', st', M'⟩ | ⟨b, pc', ls', st', M'⟩ | ⟨b, t, pc', ls', st', M'⟩ | ⟨y', as, pc', ls', st', M'⟩ | ⟨b, v⟩)
    · cases h
    · exact ih _ _ _ _ _ _ _ _ hn h
    · cases b
      · cases h
      · exact ih _ _ _ _ _ _ _ _ hn h
    · cases b
      · exact ih _ _ _ _ _ _ _ _ hn h
      · exact ih _ _ _ _ _ _ _ _ hn h
    · cases d with
      | zero => cases h
      | succ d =>
        dsimp only at h ⊢
        cases q : sy_run n d y' 0 (sy_en y' as) [] M' with
        | none => rw [q] at h; cases h
        | some w =>
          rw [q] at h
          rw [ih _ _ _ _ _ _ _ _ hn q]
          exact ih _ _ _ _ _ _ _ _ hn h
    · exact h
theorem fr_n {d y pc : Nat} {ls : sy_Lo} {st : List Value} {M : sy_Mm} {r : Option Value} {M' : sy_Mm} {pc' : Nat} {ls' : sy_Lo} {st' : List Value} {M1 : sy_Mm} (h : sy_step y pc ls st M = some (.inl (pc', ls', st', M1))) (k : Fr d y pc' ls' st' M1 r M') : Fr d y pc ls st M r M' := by
  obtain ⟨n, k⟩ := k
  exact ⟨n + 1, by unfold sy_run; simp only [h]; exact k⟩
theorem fr_g {d y pc : Nat} {ls : sy_Lo} {st : List Value} {M : sy_Mm} {r : Option Value} {M' : sy_Mm} {pc' : Nat} {ls' : sy_Lo} {st' : List Value} {M1 : sy_Mm} {P : Prop} {inst : Decidable P} (h : sy_step y pc ls st M = some (.inr (.inl (decide P, pc', ls', st', M1)))) (hP : P) (k : Fr d y pc' ls' st' M1 r M') : Fr d y pc ls st M r M' := by
  obtain ⟨n, k⟩ := k
  refine ⟨n + 1, ?_⟩
  unfold sy_run
  simp only [h, decide_eq_true hP]
  exact k
theorem fr_b {d y pc : Nat} {ls : sy_Lo} {st : List Value} {M : sy_Mm} {r : Option Value} {M' : sy_Mm} {pc' t : Nat} {ls' : sy_Lo} {st' : List Value} {M1 : sy_Mm} {P : Prop} {inst : Decidable P} (h : sy_step y pc ls st M = some (.inr (.inr (.inl (decide P, t, pc', ls', st', M1))))) (kt : P → Fr d y t ls' st' M1 r M') (kf : ¬ P → Fr d y pc' ls' st' M1 r M') : Fr d y pc ls st M r M' := by
  by_cases hP : P
  · obtain ⟨n, k⟩ := kt hP
    refine ⟨n + 1, ?_⟩
    unfold sy_run
    simp only [h, decide_eq_true hP]
    exact k
  · obtain ⟨n, k⟩ := kf hP
    refine ⟨n + 1, ?_⟩
    unfold sy_run
    simp only [h, decide_eq_false hP]
    exact k
theorem fr_c {d y pc : Nat} {ls : sy_Lo} {st : List Value} {M : sy_Mm} {r : Option Value} {M' : sy_Mm} {pc' y' : Nat} {as : List Value} {ls' : sy_Lo} {st' : List Value} {M1 M2 : sy_Mm} {r1 : Option Value} (h : sy_step y pc ls st M = some (.inr (.inr (.inr (.inl (y', as, pc', ls', st', M1)))))) (hc : Ev d y' as M1 r1 M2) (k : Fr (d + 1) y pc' ls' (r1.toList ++ st') M2 r M') : Fr (d + 1) y pc ls st M r M' := by
  obtain ⟨n1, k1⟩ := hc
  obtain ⟨n2, k2⟩ := k
  refine ⟨n1 + n2 + 1, ?_⟩
  unfold sy_run
  simp only [h, sy_mono _ (n1 + n2) _ _ _ _ _ _ _ (by omega) k1]
  exact sy_mono _ _ _ _ _ _ _ _ _ (by omega) k2
theorem fr_r {d y pc : Nat} {ls : sy_Lo} {st : List Value} {M : sy_Mm} {r : Option Value} {b : Bool} (h : sy_step y pc ls st M = some (.inr (.inr (.inr (.inr (b, r)))))) (hb : b = true) : Fr d y pc ls st M r M := by
  refine ⟨1, ?_⟩
  unfold sy_run
  simp only [h, hb]
  rfl
def sy_lP (q : sy_MI) : Prop := q.1.all sy_okL = true
theorem sy_l0 : sy_lP sy_m0 := by unfold sy_lP; decide +kernel
theorem sy_l1 : sy_lP sy_m1 := by unfold sy_lP; decide +kernel
theorem sy_l2 : sy_lP sy_m2 := by unfold sy_lP; decide +kernel
theorem sy_l3 : sy_lP sy_m3 := by unfold sy_lP; decide +kernel
theorem sy_l4 : sy_lP sy_m4 := by unfold sy_lP; decide +kernel
theorem sy_l5 : sy_lP sy_m5 := by unfold sy_lP; decide +kernel
theorem sy_l6 : sy_lP sy_m6 := by unfold sy_lP; decide +kernel
theorem sy_l7 : sy_lP sy_m7 := by unfold sy_lP; decide +kernel
theorem sy_l8 : sy_lP sy_m8 := by unfold sy_lP; decide +kernel
theorem sy_l9 : sy_lP sy_m9 := by unfold sy_lP; decide +kernel
theorem sy_l10 : sy_lP sy_m10 := by unfold sy_lP; decide +kernel
theorem sy_l11 : sy_lP sy_m11 := by unfold sy_lP; decide +kernel
theorem sy_l12 : sy_lP sy_m12 := by unfold sy_lP; decide +kernel
theorem sy_l13 : sy_lP sy_m13 := by unfold sy_lP; decide +kernel
theorem sy_l14 : sy_lP sy_m14 := by unfold sy_lP; decide +kernel
theorem sy_l15 : sy_lP sy_m15 := by unfold sy_lP; decide +kernel
theorem sy_l16 : sy_lP sy_m16 := by unfold sy_lP; decide +kernel
theorem sy_l17 : sy_lP sy_m17 := by unfold sy_lP; decide +kernel
theorem sy_l18 : sy_lP sy_m18 := by unfold sy_lP; decide +kernel
theorem sy_l19 : sy_lP sy_m19 := by unfold sy_lP; decide +kernel
theorem sy_l20 : sy_lP sy_m20 := by unfold sy_lP; decide +kernel
theorem sy_l21 : sy_lP sy_m21 := by unfold sy_lP; decide +kernel
theorem sy_l22 : sy_lP sy_m22 := by unfold sy_lP; decide +kernel
theorem sy_l23 : sy_lP sy_m23 := by unfold sy_lP; decide +kernel
theorem sy_l24 : sy_lP sy_m24 := by unfold sy_lP; decide +kernel
theorem sy_l25 : sy_lP sy_m25 := by unfold sy_lP; decide +kernel
theorem sy_l26 : sy_lP sy_m26 := by unfold sy_lP; decide +kernel
theorem sy_l27 : sy_lP sy_m27 := by unfold sy_lP; decide +kernel
theorem sy_l28 : sy_lP sy_m28 := by unfold sy_lP; decide +kernel
theorem sy_l29 : sy_lP sy_m29 := by unfold sy_lP; decide +kernel
theorem sy_l30 : sy_lP sy_m30 := by unfold sy_lP; decide +kernel
theorem sy_l31 : sy_lP sy_m31 := by unfold sy_lP; decide +kernel
theorem sy_l32 : sy_lP sy_m32 := by unfold sy_lP; decide +kernel
theorem sy_l33 : sy_lP sy_m33 := by unfold sy_lP; decide +kernel
theorem sy_l34 : sy_lP sy_m34 := by unfold sy_lP; decide +kernel
theorem sy_l35 : sy_lP sy_m35 := by unfold sy_lP; decide +kernel
theorem sy_l36 : sy_lP sy_m36 := by unfold sy_lP; decide +kernel
theorem sy_l37 : sy_lP sy_m37 := by unfold sy_lP; decide +kernel
theorem sy_l38 : sy_lP sy_m38 := by unfold sy_lP; decide +kernel
theorem sy_l39 : sy_lP sy_m39 := by unfold sy_lP; decide +kernel
theorem sy_l40 : sy_lP sy_m40 := by unfold sy_lP; decide +kernel
theorem sy_l41 : sy_lP sy_m41 := by unfold sy_lP; decide +kernel
theorem sy_l42 : sy_lP sy_m42 := by unfold sy_lP; decide +kernel
theorem sy_l43 : sy_lP sy_m43 := by unfold sy_lP; decide +kernel
theorem sy_l44 : sy_lP sy_m44 := by unfold sy_lP; decide +kernel
theorem sy_l45 : sy_lP sy_m45 := by unfold sy_lP; decide +kernel
theorem sy_l46 : sy_lP sy_m46 := by unfold sy_lP; decide +kernel
theorem sy_l47 : sy_lP sy_m47 := by unfold sy_lP; decide +kernel
theorem sy_l48 : sy_lP sy_m48 := by unfold sy_lP; decide +kernel
theorem sy_l49 : sy_lP sy_m49 := by unfold sy_lP; decide +kernel
theorem sy_l50 : sy_lP sy_m50 := by unfold sy_lP; decide +kernel
theorem sy_l51 : sy_lP sy_m51 := by unfold sy_lP; decide +kernel
theorem sy_l52 : sy_lP sy_m52 := by unfold sy_lP; decide +kernel
theorem sy_l53 : sy_lP sy_m53 := by unfold sy_lP; decide +kernel
theorem sy_l54 : sy_lP sy_m54 := by unfold sy_lP; decide +kernel
theorem sy_l55 : sy_lP sy_m55 := by unfold sy_lP; decide +kernel
theorem sy_l56 : sy_lP sy_m56 := by unfold sy_lP; decide +kernel
theorem sy_l57 : sy_lP sy_m57 := by unfold sy_lP; decide +kernel
theorem sy_l58 : sy_lP sy_m58 := by unfold sy_lP; decide +kernel
theorem sy_l59 : sy_lP sy_m59 := by unfold sy_lP; decide +kernel
theorem sy_l60 : sy_lP sy_m60 := by unfold sy_lP; decide +kernel
theorem sy_l61 : sy_lP sy_m61 := by unfold sy_lP; decide +kernel
theorem sy_l62 : sy_lP sy_m62 := by unfold sy_lP; decide +kernel
theorem sy_l63 : sy_lP sy_m63 := by unfold sy_lP; decide +kernel
theorem sy_l64 : sy_lP sy_m64 := by unfold sy_lP; decide +kernel
theorem sy_l65 : sy_lP sy_m65 := by unfold sy_lP; decide +kernel
theorem sy_l66 : sy_lP sy_m66 := by unfold sy_lP; decide +kernel
theorem sy_l67 : sy_lP sy_m67 := by unfold sy_lP; decide +kernel
theorem sy_l68 : sy_lP sy_m68 := by unfold sy_lP; decide +kernel
theorem sy_l69 : sy_lP sy_m69 := by unfold sy_lP; decide +kernel
theorem sy_l70 : sy_lP sy_m70 := by unfold sy_lP; decide +kernel
theorem sy_l71 : sy_lP sy_m71 := by unfold sy_lP; decide +kernel
theorem sy_l72 : sy_lP sy_m72 := by unfold sy_lP; decide +kernel
theorem sy_l73 : sy_lP sy_m73 := by unfold sy_lP; decide +kernel
theorem sy_l74 : sy_lP sy_m74 := by unfold sy_lP; decide +kernel
theorem sy_l75 : sy_lP sy_m75 := by unfold sy_lP; decide +kernel
theorem sy_l76 : sy_lP sy_m76 := by unfold sy_lP; decide +kernel
theorem sy_l77 : sy_lP sy_m77 := by unfold sy_lP; decide +kernel
theorem sy_l78 : sy_lP sy_m78 := by unfold sy_lP; decide +kernel
theorem sy_l79 : sy_lP sy_m79 := by unfold sy_lP; decide +kernel
theorem sy_l80 : sy_lP sy_m80 := by unfold sy_lP; decide +kernel
theorem sy_l81 : sy_lP sy_m81 := by unfold sy_lP; decide +kernel
theorem sy_l82 : sy_lP sy_m82 := by unfold sy_lP; decide +kernel
theorem sy_l83 : sy_lP sy_m83 := by unfold sy_lP; decide +kernel
theorem sy_l84 : sy_lP sy_m84 := by unfold sy_lP; decide +kernel
theorem sy_l85 : sy_lP sy_m85 := by unfold sy_lP; decide +kernel
theorem sy_l86 : sy_lP sy_m86 := by unfold sy_lP; decide +kernel
theorem sy_l87 : sy_lP sy_m87 := by unfold sy_lP; decide +kernel
theorem sy_l88 : sy_lP sy_m88 := by unfold sy_lP; decide +kernel
theorem sy_l89 : sy_lP sy_m89 := by unfold sy_lP; decide +kernel
theorem sy_l90 : sy_lP sy_m90 := by unfold sy_lP; decide +kernel
theorem sy_l91 : sy_lP sy_m91 := by unfold sy_lP; decide +kernel
theorem sy_l92 : sy_lP sy_m92 := by unfold sy_lP; decide +kernel
theorem sy_l93 : sy_lP sy_m93 := by unfold sy_lP; decide +kernel
theorem sy_l94 : sy_lP sy_m94 := by unfold sy_lP; decide +kernel
theorem sy_l95 : sy_lP sy_m95 := by unfold sy_lP; decide +kernel
theorem sy_l96 : sy_lP sy_m96 := by unfold sy_lP; decide +kernel
theorem sy_l97 : sy_lP sy_m97 := by unfold sy_lP; decide +kernel
theorem sy_l98 : sy_lP sy_m98 := by unfold sy_lP; decide +kernel
theorem sy_l99 : sy_lP sy_m99 := by unfold sy_lP; decide +kernel
theorem sy_l100 : sy_lP sy_m100 := by unfold sy_lP; decide +kernel
theorem sy_l101 : sy_lP sy_m101 := by unfold sy_lP; decide +kernel
theorem sy_l102 : sy_lP sy_m102 := by unfold sy_lP; decide +kernel
theorem sy_l103 : sy_lP sy_m103 := by unfold sy_lP; decide +kernel
theorem sy_l104 : sy_lP sy_m104 := by unfold sy_lP; decide +kernel
theorem sy_l105 : sy_lP sy_m105 := by unfold sy_lP; decide +kernel
theorem sy_l106 : sy_lP sy_m106 := by unfold sy_lP; decide +kernel
theorem sy_l107 : sy_lP sy_m107 := by unfold sy_lP; decide +kernel
theorem sy_l108 : sy_lP sy_m108 := by unfold sy_lP; decide +kernel
theorem sy_l109 : sy_lP sy_m109 := by unfold sy_lP; decide +kernel
theorem sy_l110 : sy_lP sy_m110 := by unfold sy_lP; decide +kernel
theorem sy_l111 : sy_lP sy_m111 := by unfold sy_lP; decide +kernel
theorem sy_l112 : sy_lP sy_m112 := by unfold sy_lP; decide +kernel
theorem sy_l113 : sy_lP sy_m113 := by unfold sy_lP; decide +kernel
theorem sy_l114 : sy_lP sy_m114 := by unfold sy_lP; decide +kernel
theorem sy_l115 : sy_lP sy_m115 := by unfold sy_lP; decide +kernel
theorem sy_l116 : sy_lP sy_m116 := by unfold sy_lP; decide +kernel
theorem sy_l117 : sy_lP sy_m117 := by unfold sy_lP; decide +kernel
theorem sy_l118 : sy_lP sy_m118 := by unfold sy_lP; decide +kernel
theorem sy_l119 : sy_lP sy_m119 := by unfold sy_lP; decide +kernel
theorem sy_l120 : sy_lP sy_m120 := by unfold sy_lP; decide +kernel
theorem sy_l121 : sy_lP sy_m121 := by unfold sy_lP; decide +kernel
theorem sy_l122 : sy_lP sy_m122 := by unfold sy_lP; decide +kernel
theorem sy_l123 : sy_lP sy_m123 := by unfold sy_lP; decide +kernel
theorem sy_l124 : sy_lP sy_m124 := by unfold sy_lP; decide +kernel
theorem sy_l125 : sy_lP sy_m125 := by unfold sy_lP; decide +kernel
theorem sy_l126 : sy_lP sy_m126 := by unfold sy_lP; decide +kernel
theorem sy_l127 : sy_lP sy_m127 := by unfold sy_lP; decide +kernel
theorem sy_l128 : sy_lP sy_m128 := by unfold sy_lP; decide +kernel
theorem sy_l129 : sy_lP sy_m129 := by unfold sy_lP; decide +kernel
theorem sy_l130 : sy_lP sy_m130 := by unfold sy_lP; decide +kernel
theorem sy_l131 : sy_lP sy_m131 := by unfold sy_lP; decide +kernel
theorem sy_l132 : sy_lP sy_m132 := by unfold sy_lP; decide +kernel
theorem sy_l133 : sy_lP sy_m133 := by unfold sy_lP; decide +kernel
theorem sy_l134 : sy_lP sy_m134 := by unfold sy_lP; decide +kernel
theorem sy_l135 : sy_lP sy_m135 := by unfold sy_lP; decide +kernel
theorem sy_l136 : sy_lP sy_m136 := by unfold sy_lP; decide +kernel
theorem sy_l137 : sy_lP sy_m137 := by unfold sy_lP; decide +kernel
theorem sy_l138 : sy_lP sy_m138 := by unfold sy_lP; decide +kernel
theorem sy_l139 : sy_lP sy_m139 := by unfold sy_lP; decide +kernel
theorem sy_l140 : sy_lP sy_m140 := by unfold sy_lP; decide +kernel
theorem sy_l141 : sy_lP sy_m141 := by unfold sy_lP; decide +kernel
theorem sy_l142 : sy_lP sy_m142 := by unfold sy_lP; decide +kernel
theorem sy_l143 : sy_lP sy_m143 := by unfold sy_lP; decide +kernel
theorem sy_l144 : sy_lP sy_m144 := by unfold sy_lP; decide +kernel
theorem sy_l145 : sy_lP sy_m145 := by unfold sy_lP; decide +kernel
theorem sy_l146 : sy_lP sy_m146 := by unfold sy_lP; decide +kernel
theorem sy_l147 : sy_lP sy_m147 := by unfold sy_lP; decide +kernel
theorem sy_l148 : sy_lP sy_m148 := by unfold sy_lP; decide +kernel
theorem sy_l149 : sy_lP sy_m149 := by unfold sy_lP; decide +kernel
theorem sy_l150 : sy_lP sy_m150 := by unfold sy_lP; decide +kernel
theorem sy_l151 : sy_lP sy_m151 := by unfold sy_lP; decide +kernel
theorem sy_l152 : sy_lP sy_m152 := by unfold sy_lP; decide +kernel
theorem sy_l153 : sy_lP sy_m153 := by unfold sy_lP; decide +kernel
theorem sy_l154 : sy_lP sy_m154 := by unfold sy_lP; decide +kernel
theorem sy_l155 : sy_lP sy_m155 := by unfold sy_lP; decide +kernel
theorem sy_l156 : sy_lP sy_m156 := by unfold sy_lP; decide +kernel
theorem sy_l157 : sy_lP sy_m157 := by unfold sy_lP; decide +kernel
theorem sy_l158 : sy_lP sy_m158 := by unfold sy_lP; decide +kernel
theorem sy_l159 : sy_lP sy_m159 := by unfold sy_lP; decide +kernel
theorem sy_l160 : sy_lP sy_m160 := by unfold sy_lP; decide +kernel
theorem sy_l161 : sy_lP sy_m161 := by unfold sy_lP; decide +kernel
theorem sy_l162 : sy_lP sy_m162 := by unfold sy_lP; decide +kernel
theorem sy_l163 : sy_lP sy_m163 := by unfold sy_lP; decide +kernel
set_option maxRecDepth 100000 in
theorem sy_lAll (y : Nat) : sy_lP (sy_mi y) := (sy_cd (P := sy_lP) (sy_cd (P := sy_lP) (sy_cd (P := sy_lP) (sy_cd (P := sy_lP) (sy_cd (P := sy_lP) (sy_cd (P := sy_lP) (sy_cd (P := sy_lP) (sy_cd (P := sy_lP) sy_l163 sy_l162) sy_l161) (sy_cd (P := sy_lP) (sy_cd (P := sy_lP) sy_l160 sy_l159) sy_l158)) (sy_cd (P := sy_lP) (sy_cd (P := sy_lP) (sy_cd (P := sy_lP) sy_l157 sy_l156) sy_l155) (sy_cd (P := sy_lP) sy_l154 sy_l153))) (sy_cd (P := sy_lP) (sy_cd (P := sy_lP) (sy_cd (P := sy_lP) (sy_cd (P := sy_lP) sy_l152 sy_l151) sy_l150) (sy_cd (P := sy_lP) sy_l149 sy_l148)) (sy_cd (P := sy_lP) (sy_cd (P := sy_lP) (sy_cd (P := sy_lP) sy_l147 sy_l146) sy_l145) (sy_cd (P := sy_lP) sy_l144 sy_l143)))) (sy_cd (P := sy_lP) (sy_cd (P := sy_lP) (sy_cd (P := sy_lP) (sy_cd (P := sy_lP) (sy_cd (P := sy_lP) sy_l142 sy_l141) sy_l140) (sy_cd (P := sy_lP) sy_l139 sy_l138)) (sy_cd (P := sy_lP) (sy_cd (P := sy_lP) (sy_cd (P := sy_lP) sy_l137 sy_l136) sy_l135) (sy_cd (P := sy_lP) sy_l134 sy_l133))) (sy_cd (P := sy_lP) (sy_cd (P := sy_lP) (sy_cd (P := sy_lP) (sy_cd (P := sy_lP) sy_l132 sy_l131) sy_l130) (sy_cd (P := sy_lP) sy_l129 sy_l128)) (sy_cd (P := sy_lP) (sy_cd (P := sy_lP) (sy_cd (P := sy_lP) sy_l127 sy_l126) sy_l125) (sy_cd (P := sy_lP) sy_l124 sy_l123))))) (sy_cd (P := sy_lP) (sy_cd (P := sy_lP) (sy_cd (P := sy_lP) (sy_cd (P := sy_lP) (sy_cd (P := sy_lP) (sy_cd (P := sy_lP) sy_l122 sy_l121) sy_l120) (sy_cd (P := sy_lP) (sy_cd (P := sy_lP) sy_l119 sy_l118) sy_l117)) (sy_cd (P := sy_lP) (sy_cd (P := sy_lP) (sy_cd (P := sy_lP) sy_l116 sy_l115) sy_l114) (sy_cd (P := sy_lP) sy_l113 sy_l112))) (sy_cd (P := sy_lP) (sy_cd (P := sy_lP) (sy_cd (P := sy_lP) (sy_cd (P := sy_lP) sy_l111 sy_l110) sy_l109) (sy_cd (P := sy_lP) sy_l108 sy_l107)) (sy_cd (P := sy_lP) (sy_cd (P := sy_lP) (sy_cd (P := sy_lP) sy_l106 sy_l105) sy_l104) (sy_cd (P := sy_lP) sy_l103 sy_l102)))) (sy_cd (P := sy_lP) (sy_cd (P := sy_lP) (sy_cd (P := sy_lP) (sy_cd (P := sy_lP) (sy_cd (P := sy_lP) sy_l101 sy_l100) sy_l99) (sy_cd (P := sy_lP) sy_l98 sy_l97)) (sy_cd (P := sy_lP) (sy_cd (P := sy_lP) (sy_cd (P := sy_lP) sy_l96 sy_l95) sy_l94) (sy_cd (P := sy_lP) sy_l93 sy_l92))) (sy_cd (P := sy_lP) (sy_cd (P := sy_lP) (sy_cd (P := sy_lP) (sy_cd (P := sy_lP) sy_l91 sy_l90) sy_l89) (sy_cd (P := sy_lP) sy_l88 sy_l87)) (sy_cd (P := sy_lP) (sy_cd (P := sy_lP) (sy_cd (P := sy_lP) sy_l86 sy_l85) sy_l84) (sy_cd (P := sy_lP) sy_l83 sy_l82)))))) (sy_cd (P := sy_lP) (sy_cd (P := sy_lP) (sy_cd (P := sy_lP) (sy_cd (P := sy_lP) (sy_cd (P := sy_lP) (sy_cd (P := sy_lP) (sy_cd (P := sy_lP) sy_l81 sy_l80) sy_l79) (sy_cd (P := sy_lP) (sy_cd (P := sy_lP) sy_l78 sy_l77) sy_l76)) (sy_cd (P := sy_lP) (sy_cd (P := sy_lP) (sy_cd (P := sy_lP) sy_l75 sy_l74) sy_l73) (sy_cd (P := sy_lP) sy_l72 sy_l71))) (sy_cd (P := sy_lP) (sy_cd (P := sy_lP) (sy_cd (P := sy_lP) (sy_cd (P := sy_lP) sy_l70 sy_l69) sy_l68) (sy_cd (P := sy_lP) sy_l67 sy_l66)) (sy_cd (P := sy_lP) (sy_cd (P := sy_lP) (sy_cd (P := sy_lP) sy_l65 sy_l64) sy_l63) (sy_cd (P := sy_lP) sy_l62 sy_l61)))) (sy_cd (P := sy_lP) (sy_cd (P := sy_lP) (sy_cd (P := sy_lP) (sy_cd (P := sy_lP) (sy_cd (P := sy_lP) sy_l60 sy_l59) sy_l58) (sy_cd (P := sy_lP) sy_l57 sy_l56)) (sy_cd (P := sy_lP) (sy_cd (P := sy_lP) (sy_cd (P := sy_lP) sy_l55 sy_l54) sy_l53) (sy_cd (P := sy_lP) sy_l52 sy_l51))) (sy_cd (P := sy_lP) (sy_cd (P := sy_lP) (sy_cd (P := sy_lP) (sy_cd (P := sy_lP) sy_l50 sy_l49) sy_l48) (sy_cd (P := sy_lP) sy_l47 sy_l46)) (sy_cd (P := sy_lP) (sy_cd (P := sy_lP) (sy_cd (P := sy_lP) sy_l45 sy_l44) sy_l43) (sy_cd (P := sy_lP) sy_l42 sy_l41))))) (sy_cd (P := sy_lP) (sy_cd (P := sy_lP) (sy_cd (P := sy_lP) (sy_cd (P := sy_lP) (sy_cd (P := sy_lP) (sy_cd (P := sy_lP) sy_l40 sy_l39) sy_l38) (sy_cd (P := sy_lP) (sy_cd (P := sy_lP) sy_l37 sy_l36) sy_l35)) (sy_cd (P := sy_lP) (sy_cd (P := sy_lP) (sy_cd (P := sy_lP) sy_l34 sy_l33) sy_l32) (sy_cd (P := sy_lP) sy_l31 sy_l30))) (sy_cd (P := sy_lP) (sy_cd (P := sy_lP) (sy_cd (P := sy_lP) (sy_cd (P := sy_lP) sy_l29 sy_l28) sy_l27) (sy_cd (P := sy_lP) sy_l26 sy_l25)) (sy_cd (P := sy_lP) (sy_cd (P := sy_lP) (sy_cd (P := sy_lP) sy_l24 sy_l23) sy_l22) (sy_cd (P := sy_lP) sy_l21 sy_l20)))) (sy_cd (P := sy_lP) (sy_cd (P := sy_lP) (sy_cd (P := sy_lP) (sy_cd (P := sy_lP) (sy_cd (P := sy_lP) sy_l19 sy_l18) sy_l17) (sy_cd (P := sy_lP) sy_l16 sy_l15)) (sy_cd (P := sy_lP) (sy_cd (P := sy_lP) (sy_cd (P := sy_lP) sy_l14 sy_l13) sy_l12) (sy_cd (P := sy_lP) sy_l11 sy_l10))) (sy_cd (P := sy_lP) (sy_cd (P := sy_lP) (sy_cd (P := sy_lP) (sy_cd (P := sy_lP) sy_l9 sy_l8) sy_l7) (sy_cd (P := sy_lP) sy_l6 sy_l5)) (sy_cd (P := sy_lP) (sy_cd (P := sy_lP) (sy_cd (P := sy_lP) sy_l4 sy_l3) sy_l2) (sy_cd (P := sy_lP) sy_l1 sy_l0)))))))
end
section
abbrev i_X0_isFull : Nat := 0
abbrev i_X0_put : Nat := 1
abbrev i_X0_empty : Nat := 2
abbrev i_X0_tryAllSets : Nat := 3
abbrev i_X0_comesOut : Nat := 4
abbrev i_X1_power : Nat := 5
abbrev i_X1_lowest : Nat := 6
abbrev i_X1_leastFor : Nat := 7
abbrev i_X1_nightOfTheft : Nat := 8
abbrev i_X2_mostNights : Nat := 9
abbrev i_X2_isWorthStealing : Nat := 10
abbrev i_X2_ceiling : Nat := 11
abbrev i_X2_nightsWith : Nat := 12
abbrev i_X2_nightsFrom : Nat := 13
abbrev i_X2_mostInLast : Nat := 14
abbrev i_X3_isForm : Nat := 15
abbrev i_X3_isLost : Nat := 16
abbrev i_X3_begin : Nat := 17
abbrev i_X3_end : Nat := 18
abbrev i_X3_flawOf : Nat := 19
abbrev i_X3_hasSpan : Nat := 20
abbrev i_X3_put : Nat := 21
abbrev i_X4_mayBe : Nat := 22
abbrev i_X4_isFull : Nat := 23
abbrev i_X4_put : Nat := 24
abbrev i_X4_takeLast : Nat := 25
abbrev i_X4_lastNight : Nat := 26
abbrev i_X4_isTrueTheft : Nat := 27
abbrev i_X5_put : Nat := 28
abbrev i_X5_empty : Nat := 29
abbrev i_X5_has : Nat := 30
abbrev i_X5_houseOf : Nat := 31
abbrev i_X5_isForged : Nat := 32
abbrev i_X5_realStones : Nat := 33
abbrev i_X5_lookThrough : Nat := 34
abbrev i_X5_firstFault : Nat := 35
abbrev i_X5_fits : Nat := 36
abbrev i_X6_begin : Nat := 37
abbrev i_X6_tellTo : Nat := 38
abbrev i_X6_tellFromStart : Nat := 39
abbrev i_X6_tellAll : Nat := 40
abbrev i_X6_tell : Nat := 41
abbrev i_X6_isLawful : Nat := 42
abbrev i_X6_isReal : Nat := 43
abbrev i_X6_isLucky : Nat := 44
abbrev i_X6_luckOf : Nat := 45
abbrev i_X6_eggsOf : Nat := 46
abbrev i_X6_theftBehind : Nat := 47
abbrev i_X6_luckyHouses : Nat := 48
abbrev i_X6_luckyDays : Nat := 49
abbrev i_X6_luckyIfReal : Nat := 50
abbrev i_X7_type : Nat := 51
abbrev i_X7_wipe : Nat := 52
abbrev i_X7_fault : Nat := 53
abbrev i_X7_stone : Nat := 54
abbrev i_X7_lasts : Nat := 55
abbrev i_X7_event : Nat := 56
abbrev i_X7_read : Nat := 57
abbrev i_X7_undo : Nat := 58
abbrev i_X7_judged : Nat := 59
abbrev i_X7_at : Nat := 60
abbrev i_X7_luck : Nat := 61
abbrev i_X7_days : Nat := 62
abbrev i_X7_led : Nat := 63
abbrev i_X7_without : Nat := 64
abbrev i_X7_book : Nat := 65
abbrev i_X7_forget : Nat := 66
abbrev i_X7_fitting : Nat := 67
abbrev i_X7_lets : Nat := 68
abbrev i_X7_robs : Nat := 69
abbrev i_X7_guard : Nat := 70
abbrev i_X7_chance : Nat := 71
abbrev i_X7_waits : Nat := 72
abbrev i_X7_careless : Nat := 73
abbrev i_X7_thief : Nat := 74
abbrev i_X7_sheet : Nat := 75
abbrev i_X7_lose : Nat := 76
abbrev i_X7_lay : Nat := 77
abbrev i_X7_get : Nat := 78
abbrev i_X7_copy : Nat := 79
abbrev i_X7_write : Nat := 80
abbrev i_X7_count : Nat := 81
abbrev i_X7_digest : Nat := 82
abbrev i_X7_withStone : Nat := 83
abbrev i_X7_withHouse : Nat := 84
abbrev i_X7_found : Nat := 85
abbrev i_X7_within : Nat := 86
abbrev i_X7_isHouse : Nat := 87
abbrev i_X7_isSheet : Nat := 88
abbrev i_X8_in : Nat := 89
abbrev i_X8_no : Nat := 90
abbrev i_X8_isTwo : Nat := 91
abbrev i_X8_ones : Nat := 92
abbrev i_X8_met : Nat := 93
abbrev i_X8_isSheet : Nat := 94
abbrev i_X8_sheet : Nat := 95
abbrev i_X8_lose : Nat := 96
abbrev i_X8_lacks : Nat := 97
abbrev i_X8_cut : Nat := 98
abbrev i_X8_lay : Nat := 99
abbrev i_X8_get : Nat := 100
abbrev i_X8_copy : Nat := 101
abbrev i_X8_type : Nat := 102
abbrev i_X8_wipe : Nat := 103
abbrev i_X8_here : Nat := 104
abbrev i_X8_isHouse : Nat := 105
abbrev i_X8_none : Nat := 106
abbrev i_X8_reads : Nat := 107
abbrev i_X8_fault : Nat := 108
abbrev i_X8_isStone : Nat := 109
abbrev i_X8_stoneOf : Nat := 110
abbrev i_X8_stone : Nat := 111
abbrev i_X8_lasts : Nat := 112
abbrev i_X8_isLate : Nat := 113
abbrev i_X8_event : Nat := 114
abbrev i_X8_read : Nat := 115
abbrev i_X8_undo : Nat := 116
abbrev i_X8_begins : Nat := 117
abbrev i_X8_isLawful : Nat := 118
abbrev i_X8_isTrue : Nat := 119
abbrev i_X8_does : Nat := 120
abbrev i_X8_goes : Nat := 121
abbrev i_X8_judged : Nat := 122
abbrev i_X8_leftAt : Nat := 123
abbrev i_X8_isLucky : Nat := 124
abbrev i_X8_isNight : Nat := 125
abbrev i_X8_stateOf : Nat := 126
abbrev i_X8_at : Nat := 127
abbrev i_X8_luckNow : Nat := 128
abbrev i_X8_luckOf : Nat := 129
abbrev i_X8_luck : Nat := 130
abbrev i_X8_daysOf : Nat := 131
abbrev i_X8_days : Nat := 132
abbrev i_X8_ledOf : Nat := 133
abbrev i_X8_led : Nat := 134
abbrev i_X8_withoutOf : Nat := 135
abbrev i_X8_without : Nat := 136
abbrev i_X8_book : Nat := 137
abbrev i_X8_forget : Nat := 138
abbrev i_X8_fittingOf : Nat := 139
abbrev i_X8_fitting : Nat := 140
abbrev i_X8_copies : Nat := 141
abbrev i_X8_lucky : Nat := 142
abbrev i_X8_mayPick : Nat := 143
abbrev i_X8_letsOf : Nat := 144
abbrev i_X8_lets : Nat := 145
abbrev i_X8_robsOf : Nat := 146
abbrev i_X8_robs : Nat := 147
abbrev i_X8_guard : Nat := 148
abbrev i_X8_power : Nat := 149
abbrev i_X8_part : Nat := 150
abbrev i_X8_chanceOf : Nat := 151
abbrev i_X8_chance : Nat := 152
abbrev i_X8_waitsOf : Nat := 153
abbrev i_X8_waits : Nat := 154
abbrev i_X8_carelessOf : Nat := 155
abbrev i_X8_careless : Nat := 156
abbrev i_X8_thiefOf : Nat := 157
abbrev i_X8_thief : Nat := 158
abbrev i_X8_write : Nat := 159
abbrev i_X8_count : Nat := 160
abbrev i_X8_digest : Nat := 161
abbrev i_J6_bitCount : Nat := 162
abbrev i_L_law : Nat := 163
end
section
def sy_cv (ad : Nat → Nat) : Value → Value
  | .ref k => .ref (ad k)
  | v => v
theorem sy_cv_cat (ad : Nat → Nat) (v : Value) : (sy_cv ad v).category = v.category := by cases v <;> rfl
def sy_fv (ad : Nat → Nat) (row : Nat → Int32) (j : Nat) (o : Option Nat) : Value := match o with
  | some p => .ref (ad p)
  | none => .int (row j)
def sy_ce (ad : Nat → Nat) (cI cS : ClassId) (row : Nat → Int32) (sp : sy_Sp) : va_E := match sp with
  | .inl (ci, fs) => .inr (ci, fs.mapIdx (sy_fv ad row))
  | .inr (.inl n) => .inl (cI, n, .inl row)
  | .inr (.inr ps) => .inl (cS, ps.length, .inr (.inr (.inr (.inr (fun j => (ps[j]?).map ad)))))
def sy_ws (ad : Nat → Nat) (cI cS : ClassId) (M : sy_Mm) : va_W := sy_SH.mapIdx (fun k sp => (ad k, sy_ce ad cI cS (M k) sp))
theorem sy_ws_at {ad : Nat → Nat} {cI cS : ClassId} {M : sy_Mm} {k : Nat} {sp : sy_Sp} (h : sy_nt sy_SH k = some sp) : (sy_ws ad cI cS M)[k]? = some (ad k, sy_ce ad cI cS (M k) sp) := by
  rw [sy_nt_eq] at h
  simp [sy_ws, List.getElem?_mapIdx, h]
theorem sy_ws_set {ad : Nat → Nat} {cI cS : ClassId} {M : sy_Mm} {k : Nat} {sp : sy_Sp} (h : sy_nt sy_SH k = some sp) (row : Nat → Int32) : (sy_ws ad cI cS M).set k (ad k, sy_ce ad cI cS row sp) = sy_ws ad cI cS (sy_row M k row) := by
  rw [sy_nt_eq] at h
  apply List.ext_getElem?
  intro j
  by_cases hj : k = j
  · subst hj
    have hl : k < sy_SH.length := (List.getElem?_eq_some_iff.mp h).1
    rw [List.getElem?_set_self (by simpa [sy_ws] using hl)]
    have e : sy_row M k row k = row := by unfold sy_row; rw [show Nat.beq k k = true from Nat.beq_refl k]; rfl
    simp [sy_ws, List.getElem?_mapIdx, h, e]
  · rw [List.getElem?_set_ne hj]
    have e : sy_row M k row j = M j := by
      unfold sy_row
      have : Nat.beq j k = false := by
        cases q : Nat.beq j k with
        | false => rfl
        | true => exact absurd (Nat.eq_of_beq_eq_true q).symm hj
      rw [this]; rfl
    simp [sy_ws, List.getElem?_mapIdx, e]
theorem sy_fs_set {ad : Nat → Nat} {row : Nat → Int32} {fs : List (Option Nat)} {j : Nat} (h : sy_nt fs j = some none) (x : Int32) : (fs.mapIdx (sy_fv ad row)).set j (.int x) = fs.mapIdx (sy_fv ad (upd row j x)) := by
  rw [sy_nt_eq] at h
  apply List.ext_getElem?
  intro i
  by_cases hj : j = i
  · subst hj
    have hl : j < fs.length := (List.getElem?_eq_some_iff.mp h).1
    rw [List.getElem?_set_self (by simpa using hl)]
    simp [List.getElem?_mapIdx, h, sy_fv, upd]
  · rw [List.getElem?_set_ne hj]
    simp only [List.getElem?_mapIdx]
    cases fs[i]? with
    | none => rfl
    | some o => cases o with
      | none => simp [sy_fv, upd, Ne.symm hj]
      | some q => rfl
theorem sy_SH_len : sy_SH.length = 46 := by decide +kernel
theorem sy_nt_lt {k : Nat} {sp : sy_Sp} (h : sy_nt sy_SH k = some sp) : k < 46 := by
  rw [sy_nt_eq] at h
  rw [← sy_SH_len]
  exact (List.getElem?_eq_some_iff.mp h).1
/-- the places are apart, and may be written -/
def sy_ad (ad : Nat → Nat) (A : Nat → Prop) : Prop := (∀ i j, i < 46 → j < 46 → ad i = ad j → i = j) ∧ ∀ i, i < 46 → A (ad i)
theorem sy_wsD {ad : Nat → Nat} {A : Nat → Prop} (h : sy_ad ad A) (cI cS : ClassId) (M : sy_Mm) : va_D A (sy_ws ad cI cS M) := by
  have key : ∀ (i : Nat) (p : Nat × va_E), (sy_ws ad cI cS M)[i]? = some p → i < 46 ∧ p.1 = ad i := by
    intro i p hp
    simp only [sy_ws, List.getElem?_mapIdx, Option.map_eq_some_iff] at hp
    obtain ⟨sp, h1, h2⟩ := hp
    rw [← sy_nt_eq] at h1
    exact ⟨sy_nt_lt h1, by rw [← h2]⟩
  refine ⟨fun i j p q hp hq e => ?_, fun k q hq => ?_⟩
  · obtain ⟨a1, a2⟩ := key i p hp
    obtain ⟨b1, b2⟩ := key j q hq
    exact h.1 i j a1 b1 (by rw [← a2, ← b2]; exact e)
  · obtain ⟨a1, a2⟩ := key k q hq
    rw [a2]
    exact h.2 k a1
/-! locals -/
def sy_hl (ad : Nat → Nat) (a : Array Slot) (n : Nat) (ls : sy_Lo) : Prop := a.size = n ∧ lv_wf a ∧ ∀ (k : Nat) (v : Value), sy_get ls k = some v → a[k]? = some (.val (sy_cv ad v))
def sy_li (ad : Nat → Nat) (ls : sy_Lo) : List (Nat × Value) := (List.range ls.length).filterMap (fun k => (sy_get ls k).map (fun w => (k, sy_cv ad w)))
theorem sy_get_lt : ∀ (ls : sy_Lo) (k : Nat) (v : Value), sy_get ls k = some v → k < ls.length
  | [], _, _, h => by simp [sy_get] at h
  | _ :: l, 0, _, _ => by simp
  | _ :: l, k + 1, v, h => by have := sy_get_lt l k v h; simp; omega
theorem sy_li_mem {ad : Nat → Nat} {ls : sy_Lo} {k : Nat} {v : Value} (h : sy_get ls k = some v) : (k, sy_cv ad v) ∈ sy_li ad ls := List.mem_filterMap.mpr ⟨k, List.mem_range.mpr (sy_get_lt _ _ _ h), by rw [h]; rfl⟩
theorem sy_li_at {ad : Nat → Nat} {ls : sy_Lo} {k : Nat} {v : Value} (h : sy_get ls k = some v) : ∃ i : Nat, (sy_li ad ls)[i]? = some (k, sy_cv ad v) := List.getElem?_of_mem (sy_li_mem h)
theorem sy_hl_has {ad : Nat → Nat} {a : Array Slot} {n : Nat} {ls : sy_Lo} (h : sy_hl ad a n ls) : lv_has a n (sy_li ad ls) := by
  refine ⟨h.1, h.2.1, fun q hq => ?_⟩
  obtain ⟨k, -, hk⟩ := List.mem_filterMap.mp hq
  cases e : sy_get ls k with
  | none => rw [e] at hk; cases hk
  | some w => rw [e] at hk; cases hk; exact h.2.2 k w e
theorem sy_clr_some {o : Option Value} {w : Value} (h : sy_clr o = some w) : o = some w ∧ ¬ w.category = 2 := by
  cases o with
  | none => cases h
  | some v => cases v <;> first | (simp only [sy_clr] at h; cases h; done) | (simp only [sy_clr, Option.some.injEq] at h; subst h; exact ⟨rfl, by simp [Value.category]⟩)
theorem sy_set1_get : ∀ (ls : sy_Lo) (i : Nat) (v w : Value) (k : Nat), sy_get (sy_set1 ls i v) k = some w → (k = i ∧ w = v) ∨ (k ≠ i ∧ ¬ (k + 1 = i ∧ w.category = 2) ∧ sy_get ls k = some w)
  | [], _, _, _, _, h => by simp [sy_set1, sy_get] at h
  | _ :: _, 0, v, w, 0, h => Or.inl ⟨rfl, (Option.some.inj h).symm⟩
  | _ :: _, 0, v, w, k + 1, h => Or.inr ⟨by omega, by omega, h⟩
  | a :: l, 1, v, w, 0, h => by
    obtain ⟨h1, h2⟩ := sy_clr_some (o := a) (w := w) h
    exact Or.inr ⟨by omega, fun q => h2 q.2, h1⟩
  | a :: l, 1, v, w, k + 1, h => by
    rcases sy_set1_get l 0 v w k h with ⟨h1, h2⟩ | ⟨h1, h2, h3⟩
    · exact Or.inl ⟨by omega, h2⟩
    · exact Or.inr ⟨by omega, by omega, h3⟩
  | a :: l, n + 2, v, w, 0, h => Or.inr ⟨by omega, by omega, h⟩
  | a :: l, n + 2, v, w, k + 1, h => by
    rcases sy_set1_get l (n + 1) v w k h with ⟨h1, h2⟩ | ⟨h1, h2, h3⟩
    · exact Or.inl ⟨by omega, h2⟩
    · exact Or.inr ⟨by omega, fun q => h2 ⟨by omega, q.2⟩, h3⟩
theorem sy_tl_get : ∀ (l : sy_Lo) (k : Nat) (w : Value), sy_get (sy_tl l) k = some w → k ≠ 0 ∧ sy_get l k = some w
  | [], _, _, h => by simp [sy_tl, sy_get] at h
  | _ :: _, 0, _, h => by simp [sy_tl, sy_get] at h
  | _ :: _, k + 1, _, h => ⟨by omega, h⟩
theorem sy_set2_get : ∀ (ls : sy_Lo) (i : Nat) (v w : Value) (k : Nat), sy_get (sy_set2 ls i v) k = some w → (k = i ∧ w = v) ∨ (k ≠ i ∧ k ≠ i + 1 ∧ ¬ (k + 1 = i ∧ w.category = 2) ∧ sy_get ls k = some w)
  | [], _, _, _, _, h => by simp [sy_set2, sy_get] at h
  | _ :: _, 0, v, w, 0, h => Or.inl ⟨rfl, (Option.some.inj h).symm⟩
  | _ :: l, 0, v, w, k + 1, h => by
    obtain ⟨h1, h2⟩ := sy_tl_get l k w h
    exact Or.inr ⟨by omega, by omega, by omega, h2⟩
  | a :: l, 1, v, w, 0, h => by
    obtain ⟨h1, h2⟩ := sy_clr_some (o := a) (w := w) h
    exact Or.inr ⟨by omega, by omega, fun q => h2 q.2, h1⟩
  | a :: l, 1, v, w, k + 1, h => by
    rcases sy_set2_get l 0 v w k h with ⟨h1, h2⟩ | ⟨h1, h0, h2, h3⟩
    · exact Or.inl ⟨by omega, h2⟩
    · exact Or.inr ⟨by omega, by omega, by omega, h3⟩
  | a :: l, n + 2, v, w, 0, h => Or.inr ⟨by omega, by omega, by omega, h⟩
  | a :: l, n + 2, v, w, k + 1, h => by
    rcases sy_set2_get l (n + 1) v w k h with ⟨h1, h2⟩ | ⟨h1, h0, h2, h3⟩
    · exact Or.inl ⟨by omega, h2⟩
    · exact Or.inr ⟨by omega, by omega, fun q => h2 ⟨by omega, q.2⟩, h3⟩
theorem sy_hl_set1 {ad : Nat → Nat} {a : Array Slot} {n i : Nat} {ls : sy_Lo} {v : Value} (h : lv_has a n ((i, sy_cv ad v) :: (sy_li ad ls).filter (fun q => !(q.1 == i) && !(q.1 + 1 == i && q.2.category == 2)))) : sy_hl ad a n (sy_set1 ls i v) := by
  refine ⟨h.1, h.2.1, fun k w hk => ?_⟩
  rcases sy_set1_get ls i v w k hk with ⟨h1, h2⟩ | ⟨h1, h2, h3⟩
  · subst h1; subst h2
    exact h.2.2 _ List.mem_cons_self
  · refine h.2.2 (k, sy_cv ad w) (List.mem_cons_of_mem _ (List.mem_filter.mpr ⟨sy_li_mem h3, ?_⟩))
    simp only [sy_cv_cat, Bool.and_eq_true, Bool.not_eq_true', beq_eq_false_iff_ne, Bool.and_eq_false_iff, ne_eq]
    refine ⟨h1, ?_⟩
    by_cases q : k + 1 = i
    · exact Or.inr (fun z => h2 ⟨q, z⟩)
    · exact Or.inl q
theorem sy_hl_set2 {ad : Nat → Nat} {a : Array Slot} {n i : Nat} {ls : sy_Lo} {v : Value} (h : lv_has a n ((i, sy_cv ad v) :: (sy_li ad ls).filter (fun q => !(q.1 == i) && (!(q.1 == i + 1) && !(q.1 + 1 == i && q.2.category == 2))))) : sy_hl ad a n (sy_set2 ls i v) := by
  refine ⟨h.1, h.2.1, fun k w hk => ?_⟩
  rcases sy_set2_get ls i v w k hk with ⟨h1, h2⟩ | ⟨h1, h0, h2, h3⟩
  · subst h1; subst h2
    exact h.2.2 _ List.mem_cons_self
  · refine h.2.2 (k, sy_cv ad w) (List.mem_cons_of_mem _ (List.mem_filter.mpr ⟨sy_li_mem h3, ?_⟩))
    simp only [sy_cv_cat, Bool.and_eq_true, Bool.not_eq_true', beq_eq_false_iff_ne, Bool.and_eq_false_iff, ne_eq]
    refine ⟨h1, h0, ?_⟩
    by_cases q : k + 1 = i
    · exact Or.inr (fun z => h2 ⟨q, z⟩)
    · exact Or.inl q
theorem sy_ent_get (ad : Nat → Nat) : ∀ (as : List Value) (i k : Nat) (w : Value), sy_get (sy_ent as) k = some w → (i + k, sy_cv ad w) ∈ lv_args i (as.map (sy_cv ad)) := by
  intro as
  induction as with
  | nil => intro i k w h; simp [sy_ent, sy_get] at h
  | cons v r ih =>
    intro i k w h
    have one : ∀ (hc : (sy_cv ad v).category = 1), sy_get (some v :: sy_ent r) k = some w → (i + k, sy_cv ad w) ∈ lv_args i ((v :: r).map (sy_cv ad)) := by
      intro hc h
      cases k with
      | zero =>
        have e : v = w := Option.some.inj h
        subst e
        exact List.mem_cons_self
      | succ k =>
        refine List.mem_cons_of_mem _ ?_
        rw [if_neg (by omega)]
        have := ih (i + 1) k w h
        rw [show i + (k + 1) = i + 1 + k by omega]
        exact this
    have two : ∀ (hc : (sy_cv ad v).category = 2), sy_get (some v :: none :: sy_ent r) k = some w → (i + k, sy_cv ad w) ∈ lv_args i ((v :: r).map (sy_cv ad)) := by
      intro hc h
      cases k with
      | zero =>
        have e : v = w := Option.some.inj h
        subst e
        exact List.mem_cons_self
      | succ k => cases k with
        | zero => cases h
        | succ k =>
          refine List.mem_cons_of_mem _ ?_
          rw [if_pos hc]
          have := ih (i + 2) k w h
          rw [show i + (k + 1 + 1) = i + 2 + k by omega]
          exact this
    cases v <;> first | exact one rfl h | exact two rfl h
theorem sy_pad_get : ∀ (n : Nat) (l : sy_Lo) (k : Nat) (w : Value), sy_get (sy_pad l n) k = some w → sy_get l k = some w
  | 0, _, _, _, h => by unfold sy_pad at h; exact h
  | _ + 1, [], 0, _, h => by simp [sy_pad, sy_get] at h
  | n + 1, [], k + 1, w, h => by
    have := sy_pad_get n [] k w (by simpa [sy_pad, sy_get] using h)
    simp [sy_get] at this
  | _ + 1, _ :: _, 0, _, h => h
  | n + 1, _ :: l, k + 1, w, h => sy_pad_get n l k w h
theorem sy_cs_len (ad : Nat → Nat) (as : List Value) : (lg_sl (as.map (sy_cv ad))).length = sy_cs as := by
  induction as with
  | nil => rfl
  | cons v r ih =>
    have e : (lg_sl ((v :: r).map (sy_cv ad))).length = (if (sy_cv ad v).category = 2 then 2 else 1) + (lg_sl (r.map (sy_cv ad))).length := by
      simp only [lg_sl, List.map_cons, List.flatMap_cons, List.length_append]
      split <;> simp
    rw [e, ih]
    cases v <;> simp [sy_cv, Value.category, sy_cs] <;> omega
theorem sy_cs_sum (ad : Nat → Nat) (as : List Value) : ((as.map (sy_cv ad)).map fun v => v.category).sum = sy_cs as := by
  induction as with
  | nil => rfl
  | cons v r ih =>
    simp only [List.map_cons, List.sum_cons, ih]
    cases v <;> simp [sy_cv, Value.category, sy_cs] <;> omega
theorem sy_pop_spec : ∀ (n : Nat) (st acc as r : List Value), sy_pop n st acc = some (as, r) → ∃ bs : List Value, as = bs ++ acc ∧ bs.length = n ∧ st = bs.reverse ++ r
  | 0, st, acc, as, r, h => by cases h; exact ⟨[], rfl, rfl, rfl⟩
  | _ + 1, [], _, _, _, h => by cases h
  | n + 1, v :: st, acc, as, r, h => by
    obtain ⟨bs, h1, h2, h3⟩ := sy_pop_spec n st (v :: acc) as r h
    exact ⟨bs ++ [v], by rw [h1]; simp, by simp [h2], by rw [h3]; simp⟩
theorem sy_as_mem {α : Type} : ∀ (l : List (Nat × α)) (n : Nat) (v : α), sy_as l n = some v → (n, v) ∈ l
  | [], _, _, h => by cases h
  | q :: r, n, v, h => by
    unfold sy_as at h
    cases e : Nat.beq q.1 n with
    | true =>
      rw [e] at h
      have h1 : q.1 = n := Nat.eq_of_beq_eq_true e
      have h2 : q.2 = v := Option.some.inj h
      subst h1; subst h2
      exact List.mem_cons_self
    | false => rw [e] at h; exact List.mem_cons_of_mem _ (sy_as_mem r n v h)
theorem sy_lk_mem : ∀ (l : List sy_En) (pc : Nat) (v : Instr × Nat × Nat × Int32), sy_lk l pc = some v → (pc, v) ∈ l
  | [], _, _, h => by cases h
  | q :: r, n, v, h => by
    unfold sy_lk at h
    cases e : Nat.beq q.1 n with
    | true =>
      rw [e] at h
      have h1 : q.1 = n := Nat.eq_of_beq_eq_true e
      have h2 : q.2 = v := Option.some.inj h
      subst h1; subst h2
      exact List.mem_cons_self
    | false => rw [e] at h; exact List.mem_cons_of_mem _ (sy_lk_mem r n v h)
theorem sy_dec {y pc : Nat} {i : Instr} {nx tg : Nat} {z : Int32} (h : sy_lk (sy_mi y).1 pc = some (i, nx, tg, z)) : decode (sy_mi y).2.1 pc = .ok (i, nx - pc) ∧ pc < nx ∧ sy_okT pc i tg z = true ∧ (sy_len i = 0 ∨ nx = pc + sy_len i) := by
  have hm := sy_lk_mem _ _ _ h
  have h1 := List.all_eq_true.mp (sy_eAll y) _ hm
  have h2 := List.all_eq_true.mp (sy_lAll y) _ hm
  simp only [sy_okE, Bool.and_eq_true, decide_eq_true_eq] at h1
  refine ⟨h1.1, ?_, h1.2.2, ?_⟩
  · have := h1.2.1
    exact Nat.le_of_ble_eq_true this
  · unfold sy_okL at h2
    dsimp only at h2
    cases e : Nat.beq (sy_len i) 0 with
    | true => exact Or.inl (Nat.eq_of_beq_eq_true e)
    | false => rw [e] at h2; exact Or.inr (Nat.eq_of_beq_eq_true h2)
def sy_okS (sp : sy_Sp) : Bool := match sp with
  | .inl (ci, fs) => match vwCl[ci]? with
    | some (_, T, N) => Nat.beq fs.length N && (List.range N).all (fun j => match sy_nt fs j with
      | some none => decide ((T j).2.2.1 = "I") && !(T j).2.2.2
      | _ => true)
    | none => false
  | .inr (.inr ps) => Nat.beq ps.length 4
  | _ => true
theorem sy_SH_ok : sy_SH.all sy_okS = true := by decide +kernel
theorem sy_fld_spec {a ci j : Nat} {o : Option Nat} (h : sy_fld a ci j = some o) : ∃ (fs : List (Option Nat)) (C : String) (T : u_T) (N : Nat), sy_nt sy_SH a = some (.inl (ci, fs)) ∧ sy_nt fs j = some o ∧ vwCl[ci]? = some (C, T, N) ∧ fs.length = N ∧ j < N ∧ (o = none → (T j).2.2.1 = "I" ∧ (T j).2.2.2 = false) := by
  unfold sy_fld at h
  split at h
  · rename_i c0 fs e
    cases q : Nat.beq c0 ci with
    | false => rw [q] at h; cases h
    | true =>
      rw [q] at h
      have hc : c0 = ci := Nat.eq_of_beq_eq_true q
      subst hc
      have h1 : sy_nt fs j = some o := h
      have hm : (Sum.inl (c0, fs) : sy_Sp) ∈ sy_SH := by rw [sy_nt_eq] at e; exact List.mem_of_getElem? e
      have h2 := List.all_eq_true.mp sy_SH_ok _ hm
      simp only [sy_okS] at h2
      split at h2
      · rename_i C T N e2
        simp only [Bool.and_eq_true, List.all_eq_true, List.mem_range] at h2
        have hN : fs.length = N := Nat.eq_of_beq_eq_true h2.1
        have hj : j < N := by
          rw [← hN]
          rw [sy_nt_eq] at h1
          exact (List.getElem?_eq_some_iff.mp h1).1
        refine ⟨fs, C, T, N, e, h1, e2, hN, hj, fun ho => ?_⟩
        have h3 := h2.2 j hj
        rw [h1, ho] at h3
        simp only [Bool.and_eq_true, decide_eq_true_eq, Bool.not_eq_true'] at h3
        exact h3
      · cases h2
  · cases h
end
section
abbrev sy_tys (cI cS : ClassId) : List (ClassId × FieldType) := [(cI, .int), (cS, .object "LuckyStolen$Sheet")]
/-- what stands fast in a frame of the method y -/
def sy_C (p : Program) (s : State) (m : MethodId) (args : Array Value) (c : Code) (y : Nat) (D : va_G) (cI cS : ClassId) : Prop := p.tables.exec = Jvm.exec ∧ c.code = (sy_mi y).2.1 ∧ c.maxLocals = (sy_mi y).2.2.1 ∧ s.vm.findClass (sy_ci (sy_mi y).2.2.2.2.1).1 = some m.cls ∧ (∀ w ∈ sy_gT, w.before args s = true) ∧ va_K D vwCl (sy_tys cI cS) s ∧ ∀ w ∈ sy_nl, va_Nw w s
/-- the script's cell -/
def sy_X (ad : Nat → Nat) (A : Nat → Prop) (M : sy_Mm) (s : State) : Prop := va_X (ad 99) (M 98 0).toNatClampNeg (M 99) s s.heap ∧ ad 99 < s.heap.size ∧ ¬ A (ad 99) ∧ 0 ≤ (M 98 0).toInt
def sy_Wd (D : va_G) (cI cS : ClassId) (ad : Nat → Nat) (M0 M : sy_Mm) (H : Heap) : Prop := va_P D vwCl (sy_ws ad cI cS M) H ∧ M 98 = M0 98 ∧ M 99 = M0 99
/-- the machine comes to Q from the frame N, in every heap that holds its memory -/
def sy_K (p : Program) (l : Launch) (e : Env) (R : Room) (s : State) (m : MethodId) (args : Array Value) (below : List Frame) (meth : Method) (c : Code) (cells slots : Nat) (Q : State → Prop) (y : Nat) (D : va_G) (cI cS : ClassId) (ad : Nat → Nat) (A : Nat → Prop) (M0 : sy_Mm) (N : sy_Nx) : Prop :=
  ∀ (H : Heap) (locs : List Loc) (a : Array Slot), sy_Wd D cI cS ad M0 N.2.2.2 H → va_S A s.heap H locs → sy_hl ad a (sy_mi y).2.2.1 N.2.1 → W p l e R s m args below meth c H locs cells slots Q (F0 m N.1 a (N.2.2.1.map (sy_cv ad)))
def sy_rm (d : Nat) : Room := { frames := d + 2, cells := 0, slots := 0, locals := 64 * (d + 2) }
def sy_wd (y : Nat) : List Cond := .code (sy_mi y).2.2.2.2.2.2.2 (sy_mi y).2.1 (sy_mi y).2.2.1 (sy_mi y).2.2.2.1 :: sy_gT
def sy_in2 (ad : Nat → Nat) (q : Nat) : Prop := ∃ k, k < 46 ∧ q = ad k
def sy_Pc (D : va_G) (cI cS : ClassId) (ad : Nat → Nat) (as : List Value) (M : sy_Mm) (a : Array Value) (U : State) : Prop := a = (as.map (sy_cv ad)).toArray ∧ va_P D vwCl (sy_ws ad cI cS M) U.heap ∧ va_K D vwCl (sy_tys cI cS) U ∧ (∀ w ∈ sy_nl, va_Nw w U) ∧ sy_X ad (sy_in2 ad) M U
def sy_Qc (D : va_G) (cI cS : ClassId) (ad : Nat → Nat) (M : sy_Mm) (r : Option Value) (M' : sy_Mm) (_ : Array Value) (st : State) (oc : Outcome) (t : State) : Prop := oc = .returned (r.map (sy_cv ad)) ∧ sy_Wd D cI cS ad M M' t.heap ∧ va_F (sy_in2 ad) st t
/-- the contract of a call -/
def sy_Mt (l : Launch) (d y : Nat) (as : List Value) (M : sy_Mm) (r : Option Value) (M' : sy_Mm) : Prop := ∀ (D : va_G) (cI cS : ClassId) (ad : Nat → Nat), sy_ad ad (sy_in2 ad) → Met l (sy_mi y).2.2.2.2.2.2.2 (sy_wd y) (sy_rm d) (sy_Pc D cI cS ad as M) (sy_Qc D cI cS ad M r M') 0 0 (sy_in2 ad)
def sy_rtok (y pc : Nat) (v : Option Value) : Prop := match v with
  | some (.int x) => decode (sy_mi y).2.1 pc = .ok (.ireturn, 1) ∧ ((sy_mi y).2.2.2.1 = some .int ∨ ((sy_mi y).2.2.2.1 = some .boolean ∧ (x = 0 ∨ x = 1)))
  | some (.long _) => decode (sy_mi y).2.1 pc = .ok (.lreturn, 1) ∧ (sy_mi y).2.2.2.1 = some .long
  | none => decode (sy_mi y).2.1 pc = .ok (.return_, 1) ∧ (sy_mi y).2.2.2.1 = none
  | _ => False
def sy_Ex (p : Program) (l : Launch) (e : Env) (R : Room) (s : State) (m : MethodId) (args : Array Value) (below : List Frame) (meth : Method) (c : Code) (cells slots : Nat) (Q : State → Prop) (y : Nat) (D : va_G) (cI cS : ClassId) (ad : Nat → Nat) (A : Nat → Prop) (M0 : sy_Mm) (v : Option Value) (M : sy_Mm) : Prop :=
  ∀ (H : Heap) (locs : List Loc) (a : Array Slot) (pc : Nat), sy_rtok y pc v → sy_Wd D cI cS ad M0 M H → va_S A s.heap H locs → W p l e R s m args below meth c H locs cells slots Q (F0 m pc a (v.toList.map (sy_cv ad)))
def sy_Go (p : Program) (l : Launch) (e : Env) (R : Room) (s : State) (m : MethodId) (args : Array Value) (below : List Frame) (meth : Method) (c : Code) (cells slots : Nat) (Q : State → Prop) (y : Nat) (D : va_G) (cI cS : ClassId) (ad : Nat → Nat) (A : Nat → Prop) (M0 : sy_Mm) (M : sy_Mm) (res : sy_Rs) : Prop := match res with
  | .inl N => sy_K p l e R s m args below meth c cells slots Q y D cI cS ad A M0 N
  | .inr (.inl (b, N)) => b = true ∧ sy_K p l e R s m args below meth c cells slots Q y D cI cS ad A M0 N
  | .inr (.inr (.inl (b, t, N))) => (b = true → sy_K p l e R s m args below meth c cells slots Q y D cI cS ad A M0 (t, N.2)) ∧ (b = false → sy_K p l e R s m args below meth c cells slots Q y D cI cS ad A M0 N)
  | .inr (.inr (.inr (.inl (y', as, N)))) => sy_cs as ≤ (sy_mi y').2.2.1 → ¬ (sy_mi y').2.2.2.2.1 = 11 → ∃ (d : Nat) (r1 : Option Value) (M2 : sy_Mm), d + 3 ≤ R.frames ∧ 64 * (d + 3) ≤ R.locals ∧ sy_Mt l d y' as N.2.2.2 r1 M2 ∧ sy_K p l e R s m args below meth c cells slots Q y D cI cS ad A M0 (N.1, N.2.1, r1.toList ++ N.2.2.1, M2)
  | .inr (.inr (.inr (.inr (b, v)))) => b = true ∧ sy_Ex p l e R s m args below meth c cells slots Q y D cI cS ad A M0 v M
/-- the rooms -/
def sy_Rm (R : Room) (cells slots : Nat) : Prop := 2 ≤ R.frames ∧ 128 ≤ R.locals ∧ cells ≤ R.cells ∧ slots ≤ R.slots
section SYS
variable {p : Program} {l : Launch} {e : Env} {R : Room} {s : State} {m : MethodId} {args : Array Value} {below : List Frame} {meth : Method} {c : Code} {cells slots : Nat} {Q : State → Prop} {y : Nat} {D : va_G} {cI cS : ClassId} {ad : Nat → Nat} {A : Nat → Prop} {M0 : sy_Mm} {pc nx tg : Nat} {z : Int32} {ls : sy_Lo} {st : List Value} {M : sy_Mm} {res : sy_Rs}
theorem sy_s_iconst {n : Int} (C : sy_C p s m args c y D cI cS) (hd : decode (sy_mi y).2.1 pc = .ok (.iconst n, 1)) (hn : nx = pc + 1) (ht : sy_okT pc (.iconst n) tg z = true) (h : sy_op (.iconst n) nx tg z (sy_mi y) pc ls st M = some res) (go : sy_Go p l e R s m args below meth c cells slots Q y D cI cS ad A M0 M res) : sy_K p l e R s m args below meth c cells slots Q y D cI cS ad A M0 (pc, ls, st, M) := by
  obtain ⟨hx, hb, hml, hown, hts, hK, hN⟩ := C
  cases h; subst hn
  intro H locs a w S hl
  simp only [sy_okT, decide_eq_true_eq] at ht
  exact lv_iconst hx hb hd ht (go H locs a w S hl)
theorem sy_s_bipush {n : Int} (C : sy_C p s m args c y D cI cS) (hd : decode (sy_mi y).2.1 pc = .ok (.bipush n, 2)) (hn : nx = pc + 2) (ht : sy_okT pc (.bipush n) tg z = true) (h : sy_op (.bipush n) nx tg z (sy_mi y) pc ls st M = some res) (go : sy_Go p l e R s m args below meth c cells slots Q y D cI cS ad A M0 M res) : sy_K p l e R s m args below meth c cells slots Q y D cI cS ad A M0 (pc, ls, st, M) := by
  obtain ⟨hx, hb, hml, hown, hts, hK, hN⟩ := C
  cases h; subst hn
  intro H locs a w S hl
  simp only [sy_okT, decide_eq_true_eq] at ht
  exact lv_bipush hx hb hd ht (go H locs a w S hl)
theorem sy_s_sipush {n : Int} (C : sy_C p s m args c y D cI cS) (hd : decode (sy_mi y).2.1 pc = .ok (.sipush n, 3)) (hn : nx = pc + 3) (ht : sy_okT pc (.sipush n) tg z = true) (h : sy_op (.sipush n) nx tg z (sy_mi y) pc ls st M = some res) (go : sy_Go p l e R s m args below meth c cells slots Q y D cI cS ad A M0 M res) : sy_K p l e R s m args below meth c cells slots Q y D cI cS ad A M0 (pc, ls, st, M) := by
  obtain ⟨hx, hb, hml, hown, hts, hK, hN⟩ := C
  cases h; subst hn
  intro H locs a w S hl
  simp only [sy_okT, decide_eq_true_eq] at ht
  exact lv_sipush hx hb hd ht (go H locs a w S hl)
theorem sy_s_lconst {n : Fin 2} (C : sy_C p s m args c y D cI cS) (hd : decode (sy_mi y).2.1 pc = .ok (.lconst n, 1)) (hn : nx = pc + 1) (h : sy_op (.lconst n) nx tg z (sy_mi y) pc ls st M = some res) (go : sy_Go p l e R s m args below meth c cells slots Q y D cI cS ad A M0 M res) : sy_K p l e R s m args below meth c cells slots Q y D cI cS ad A M0 (pc, ls, st, M) := by
  obtain ⟨hx, hb, hml, hown, hts, hK, hN⟩ := C
  subst hn
  match n, hd, h with
  | ⟨0, _⟩, hd, h =>
    cases h
    intro H locs a w S hl
    exact lv_lconst hx hb hd rfl (go H locs a w S hl)
  | ⟨1, _⟩, hd, h =>
    cases h
    intro H locs a w S hl
    exact lv_lconst hx hb hd rfl (go H locs a w S hl)
theorem sy_s_ldc {k : Nat} (C : sy_C p s m args c y D cI cS) (hd : decode (sy_mi y).2.1 pc = .ok (.ldc k, 2)) (hn : nx = pc + 2) (h : sy_op (.ldc k) nx tg z (sy_mi y) pc ls st M = some res) (go : sy_Go p l e R s m args below meth c cells slots Q y D cI cS ad A M0 M res) : sy_K p l e R s m args below meth c cells slots Q y D cI cS ad A M0 (pc, ls, st, M) := by
  obtain ⟨hx, hb, hml, hown, hts, hK, hN⟩ := C
  simp only [sy_op] at h
  split at h
  · rename_i v e
    cases h; subst hn
    intro H locs a w S hl
    have hc := hts _ ((sy_kAll (sy_mi y).2.2.2.2.1).2.2.2.2.1 _ (List.mem_map.mpr ⟨_, sy_as_mem _ _ _ e, rfl⟩))
    exact lv_ldc hx hb hown hc hd (go H locs a w S hl)
  · cases h
theorem sy_s_ldc_w {k : Nat} (C : sy_C p s m args c y D cI cS) (hd : decode (sy_mi y).2.1 pc = .ok (.ldc_w k, 3)) (hn : nx = pc + 3) (h : sy_op (.ldc_w k) nx tg z (sy_mi y) pc ls st M = some res) (go : sy_Go p l e R s m args below meth c cells slots Q y D cI cS ad A M0 M res) : sy_K p l e R s m args below meth c cells slots Q y D cI cS ad A M0 (pc, ls, st, M) := by
  obtain ⟨hx, hb, hml, hown, hts, hK, hN⟩ := C
  simp only [sy_op] at h
  split at h
  · rename_i v e
    cases h; subst hn
    intro H locs a w S hl
    have hc := hts _ ((sy_kAll (sy_mi y).2.2.2.2.1).2.2.2.2.1 _ (List.mem_map.mpr ⟨_, sy_as_mem _ _ _ e, rfl⟩))
    exact lv_ldcw hx hb hown hc hd (go H locs a w S hl)
  · cases h
theorem sy_s_ldc2_w {k : Nat} (C : sy_C p s m args c y D cI cS) (hd : decode (sy_mi y).2.1 pc = .ok (.ldc2_w k, 3)) (hn : nx = pc + 3) (h : sy_op (.ldc2_w k) nx tg z (sy_mi y) pc ls st M = some res) (go : sy_Go p l e R s m args below meth c cells slots Q y D cI cS ad A M0 M res) : sy_K p l e R s m args below meth c cells slots Q y D cI cS ad A M0 (pc, ls, st, M) := by
  obtain ⟨hx, hb, hml, hown, hts, hK, hN⟩ := C
  simp only [sy_op] at h
  split at h
  · rename_i v e
    cases h; subst hn
    intro H locs a w S hl
    have hc := hts _ ((sy_kAll (sy_mi y).2.2.2.2.1).2.2.2.2.2 _ (List.mem_map.mpr ⟨_, sy_as_mem _ _ _ e, rfl⟩))
    exact lv_ldc2 hx hb hown hc hd (go H locs a w S hl)
  · cases h
theorem sy_s_iload {k : Nat} (C : sy_C p s m args c y D cI cS) (hd : decode (sy_mi y).2.1 pc = .ok (.iload k, 2)) (hn : nx = pc + 2) (h : sy_op (.iload k) nx tg z (sy_mi y) pc ls st M = some res) (go : sy_Go p l e R s m args below meth c cells slots Q y D cI cS ad A M0 M res) : sy_K p l e R s m args below meth c cells slots Q y D cI cS ad A M0 (pc, ls, st, M) := by
  obtain ⟨hx, hb, hml, hown, hts, hK, hN⟩ := C
  simp only [sy_op, sy_ld1] at h
  split at h
  · rename_i x e
    cases h; subst hn
    intro H locs a w S hl
    exact lv_iload hx hb hd (hl.2.2 _ _ e) (go H locs a w S hl)
  · cases h
theorem sy_s_iload_n {k : Fin 4} (C : sy_C p s m args c y D cI cS) (hd : decode (sy_mi y).2.1 pc = .ok (.iload_n k, 1)) (hn : nx = pc + 1) (h : sy_op (.iload_n k) nx tg z (sy_mi y) pc ls st M = some res) (go : sy_Go p l e R s m args below meth c cells slots Q y D cI cS ad A M0 M res) : sy_K p l e R s m args below meth c cells slots Q y D cI cS ad A M0 (pc, ls, st, M) := by
  obtain ⟨hx, hb, hml, hown, hts, hK, hN⟩ := C
  simp only [sy_op, sy_ld1] at h
  split at h
  · rename_i x e
    cases h; subst hn
    intro H locs a w S hl
    exact lv_iload_n hx hb hd rfl (hl.2.2 _ _ e) (go H locs a w S hl)
  · cases h
theorem sy_s_lload {k : Nat} (C : sy_C p s m args c y D cI cS) (hd : decode (sy_mi y).2.1 pc = .ok (.lload k, 2)) (hn : nx = pc + 2) (h : sy_op (.lload k) nx tg z (sy_mi y) pc ls st M = some res) (go : sy_Go p l e R s m args below meth c cells slots Q y D cI cS ad A M0 M res) : sy_K p l e R s m args below meth c cells slots Q y D cI cS ad A M0 (pc, ls, st, M) := by
  obtain ⟨hx, hb, hml, hown, hts, hK, hN⟩ := C
  simp only [sy_op, sy_ld2] at h
  split at h
  · rename_i x e
    cases h; subst hn
    intro H locs a w S hl
    exact lv_lload hx hb hd (hl.2.2 _ _ e) (go H locs a w S hl)
  · cases h
theorem sy_s_lload_n {k : Fin 4} (C : sy_C p s m args c y D cI cS) (hd : decode (sy_mi y).2.1 pc = .ok (.lload_n k, 1)) (hn : nx = pc + 1) (h : sy_op (.lload_n k) nx tg z (sy_mi y) pc ls st M = some res) (go : sy_Go p l e R s m args below meth c cells slots Q y D cI cS ad A M0 M res) : sy_K p l e R s m args below meth c cells slots Q y D cI cS ad A M0 (pc, ls, st, M) := by
  obtain ⟨hx, hb, hml, hown, hts, hK, hN⟩ := C
  simp only [sy_op, sy_ld2] at h
  split at h
  · rename_i x e
    cases h; subst hn
    intro H locs a w S hl
    exact lv_lload_n hx hb hd rfl (hl.2.2 _ _ e) (go H locs a w S hl)
  · cases h
theorem sy_s_aload {k : Nat} (C : sy_C p s m args c y D cI cS) (hd : decode (sy_mi y).2.1 pc = .ok (.aload k, 2)) (hn : nx = pc + 2) (h : sy_op (.aload k) nx tg z (sy_mi y) pc ls st M = some res) (go : sy_Go p l e R s m args below meth c cells slots Q y D cI cS ad A M0 M res) : sy_K p l e R s m args below meth c cells slots Q y D cI cS ad A M0 (pc, ls, st, M) := by
  obtain ⟨hx, hb, hml, hown, hts, hK, hN⟩ := C
  simp only [sy_op, sy_lda] at h
  split at h
  · rename_i x e
    cases h; subst hn
    intro H locs a w S hl
    exact lv_aload hx hb hd (hl.2.2 _ _ e) (go H locs a w S hl)
  · cases h
theorem sy_s_aload_n {k : Fin 4} (C : sy_C p s m args c y D cI cS) (hd : decode (sy_mi y).2.1 pc = .ok (.aload_n k, 1)) (hn : nx = pc + 1) (h : sy_op (.aload_n k) nx tg z (sy_mi y) pc ls st M = some res) (go : sy_Go p l e R s m args below meth c cells slots Q y D cI cS ad A M0 M res) : sy_K p l e R s m args below meth c cells slots Q y D cI cS ad A M0 (pc, ls, st, M) := by
  obtain ⟨hx, hb, hml, hown, hts, hK, hN⟩ := C
  simp only [sy_op, sy_lda] at h
  split at h
  · rename_i x e
    cases h; subst hn
    intro H locs a w S hl
    exact lv_aload_n hx hb hd rfl (hl.2.2 _ _ e) (go H locs a w S hl)
  · cases h
theorem sy_s_istore {k : Nat} (C : sy_C p s m args c y D cI cS) (hd : decode (sy_mi y).2.1 pc = .ok (.istore k, 2)) (hn : nx = pc + 2) (h : sy_op (.istore k) nx tg z (sy_mi y) pc ls st M = some res) (go : sy_Go p l e R s m args below meth c cells slots Q y D cI cS ad A M0 M res) : sy_K p l e R s m args below meth c cells slots Q y D cI cS ad A M0 (pc, ls, st, M) := by
  obtain ⟨hx, hb, hml, hown, hts, hK, hN⟩ := C
  simp only [sy_op, sy_st1] at h
  split at h
  · rename_i x r
    cases q : Nat.blt (k) (sy_mi y).2.2.1 with
    | false => rw [q] at h; cases h
    | true =>
      rw [q] at h
      cases h; subst hn
      intro H locs a w S hl
      exact lv_istore hx hb hd (sy_hl_has hl) (Nat.le_of_ble_eq_true q) rfl (fun a' h' => go H locs a' w S (sy_hl_set1 h'))
  · cases h
theorem sy_s_istore_n {k : Fin 4} (C : sy_C p s m args c y D cI cS) (hd : decode (sy_mi y).2.1 pc = .ok (.istore_n k, 1)) (hn : nx = pc + 1) (h : sy_op (.istore_n k) nx tg z (sy_mi y) pc ls st M = some res) (go : sy_Go p l e R s m args below meth c cells slots Q y D cI cS ad A M0 M res) : sy_K p l e R s m args below meth c cells slots Q y D cI cS ad A M0 (pc, ls, st, M) := by
  obtain ⟨hx, hb, hml, hown, hts, hK, hN⟩ := C
  simp only [sy_op, sy_st1] at h
  split at h
  · rename_i x r
    cases q : Nat.blt (k.val) (sy_mi y).2.2.1 with
    | false => rw [q] at h; cases h
    | true =>
      rw [q] at h
      cases h; subst hn
      intro H locs a w S hl
      exact lv_istore_n hx hb hd rfl (sy_hl_has hl) (Nat.le_of_ble_eq_true q) rfl (fun a' h' => go H locs a' w S (sy_hl_set1 h'))
  · cases h
theorem sy_s_astore {k : Nat} (C : sy_C p s m args c y D cI cS) (hd : decode (sy_mi y).2.1 pc = .ok (.astore k, 2)) (hn : nx = pc + 2) (h : sy_op (.astore k) nx tg z (sy_mi y) pc ls st M = some res) (go : sy_Go p l e R s m args below meth c cells slots Q y D cI cS ad A M0 M res) : sy_K p l e R s m args below meth c cells slots Q y D cI cS ad A M0 (pc, ls, st, M) := by
  obtain ⟨hx, hb, hml, hown, hts, hK, hN⟩ := C
  simp only [sy_op, sy_sta] at h
  split at h
  · rename_i x r
    cases q : Nat.blt (k) (sy_mi y).2.2.1 with
    | false => rw [q] at h; cases h
    | true =>
      rw [q] at h
      cases h; subst hn
      intro H locs a w S hl
      exact lv_astore hx hb hd (sy_hl_has hl) (Nat.le_of_ble_eq_true q) rfl (fun a' h' => go H locs a' w S (sy_hl_set1 h'))
  · cases h
theorem sy_s_astore_n {k : Fin 4} (C : sy_C p s m args c y D cI cS) (hd : decode (sy_mi y).2.1 pc = .ok (.astore_n k, 1)) (hn : nx = pc + 1) (h : sy_op (.astore_n k) nx tg z (sy_mi y) pc ls st M = some res) (go : sy_Go p l e R s m args below meth c cells slots Q y D cI cS ad A M0 M res) : sy_K p l e R s m args below meth c cells slots Q y D cI cS ad A M0 (pc, ls, st, M) := by
  obtain ⟨hx, hb, hml, hown, hts, hK, hN⟩ := C
  simp only [sy_op, sy_sta] at h
  split at h
  · rename_i x r
    cases q : Nat.blt (k.val) (sy_mi y).2.2.1 with
    | false => rw [q] at h; cases h
    | true =>
      rw [q] at h
      cases h; subst hn
      intro H locs a w S hl
      exact lv_astore_n hx hb hd rfl (sy_hl_has hl) (Nat.le_of_ble_eq_true q) rfl (fun a' h' => go H locs a' w S (sy_hl_set1 h'))
  · cases h
theorem sy_s_lstore {k : Nat} (C : sy_C p s m args c y D cI cS) (hd : decode (sy_mi y).2.1 pc = .ok (.lstore k, 2)) (hn : nx = pc + 2) (h : sy_op (.lstore k) nx tg z (sy_mi y) pc ls st M = some res) (go : sy_Go p l e R s m args below meth c cells slots Q y D cI cS ad A M0 M res) : sy_K p l e R s m args below meth c cells slots Q y D cI cS ad A M0 (pc, ls, st, M) := by
  obtain ⟨hx, hb, hml, hown, hts, hK, hN⟩ := C
  simp only [sy_op, sy_st2] at h
  split at h
  · rename_i x r
    cases q : Nat.blt (k + 1) (sy_mi y).2.2.1 with
    | false => rw [q] at h; cases h
    | true =>
      rw [q] at h
      cases h; subst hn
      intro H locs a w S hl
      exact lv_lstore hx hb hd (sy_hl_has hl) (Nat.le_of_ble_eq_true q) rfl (fun a' h' => go H locs a' w S (sy_hl_set2 h'))
  · cases h
theorem sy_s_lstore_n {k : Fin 4} (C : sy_C p s m args c y D cI cS) (hd : decode (sy_mi y).2.1 pc = .ok (.lstore_n k, 1)) (hn : nx = pc + 1) (h : sy_op (.lstore_n k) nx tg z (sy_mi y) pc ls st M = some res) (go : sy_Go p l e R s m args below meth c cells slots Q y D cI cS ad A M0 M res) : sy_K p l e R s m args below meth c cells slots Q y D cI cS ad A M0 (pc, ls, st, M) := by
  obtain ⟨hx, hb, hml, hown, hts, hK, hN⟩ := C
  simp only [sy_op, sy_st2] at h
  split at h
  · rename_i x r
    cases q : Nat.blt (k.val + 1) (sy_mi y).2.2.1 with
    | false => rw [q] at h; cases h
    | true =>
      rw [q] at h
      cases h; subst hn
      intro H locs a w S hl
      exact lv_lstore_n hx hb hd rfl (sy_hl_has hl) (Nat.le_of_ble_eq_true q) rfl (fun a' h' => go H locs a' w S (sy_hl_set2 h'))
  · cases h
theorem sy_s_iinc {k : Nat} {n : Int} (C : sy_C p s m args c y D cI cS) (hd : decode (sy_mi y).2.1 pc = .ok (.iinc k n, 3)) (hn : nx = pc + 3) (ht : sy_okT pc (.iinc k n) tg z = true) (h : sy_op (.iinc k n) nx tg z (sy_mi y) pc ls st M = some res) (go : sy_Go p l e R s m args below meth c cells slots Q y D cI cS ad A M0 M res) : sy_K p l e R s m args below meth c cells slots Q y D cI cS ad A M0 (pc, ls, st, M) := by
  obtain ⟨hx, hb, hml, hown, hts, hK, hN⟩ := C
  simp only [sy_op] at h
  split at h
  · rename_i x e
    cases q : Nat.blt k (sy_mi y).2.2.1 with
    | false => rw [q] at h; cases h
    | true =>
      rw [q] at h
      cases h; subst hn
      intro H locs a w S hl
      simp only [sy_okT, decide_eq_true_eq] at ht
      obtain ⟨j, hj⟩ := sy_li_at (ad := ad) e
      exact lv_iinc hx hb hd (sy_hl_has hl) (k := j) hj (by rw [ht]) (Nat.le_of_ble_eq_true q) rfl (fun a' h' => go H locs a' w S (sy_hl_set1 h'))
  · cases h
theorem sy_s_iadd  (C : sy_C p s m args c y D cI cS) (hd : decode (sy_mi y).2.1 pc = .ok (.iadd, 1)) (hn : nx = pc + 1) (h : sy_op (.iadd) nx tg z (sy_mi y) pc ls st M = some res) (go : sy_Go p l e R s m args below meth c cells slots Q y D cI cS ad A M0 M res) : sy_K p l e R s m args below meth c cells slots Q y D cI cS ad A M0 (pc, ls, st, M) := by
  obtain ⟨hx, hb, hml, hown, hts, hK, hN⟩ := C
  simp only [sy_op] at h
  split at h
  · cases h; subst hn
    intro H locs a w S hl
    exact lv_iadd hx hb hd (go H locs a w S hl)
  · cases h
theorem sy_s_isub  (C : sy_C p s m args c y D cI cS) (hd : decode (sy_mi y).2.1 pc = .ok (.isub, 1)) (hn : nx = pc + 1) (h : sy_op (.isub) nx tg z (sy_mi y) pc ls st M = some res) (go : sy_Go p l e R s m args below meth c cells slots Q y D cI cS ad A M0 M res) : sy_K p l e R s m args below meth c cells slots Q y D cI cS ad A M0 (pc, ls, st, M) := by
  obtain ⟨hx, hb, hml, hown, hts, hK, hN⟩ := C
  simp only [sy_op] at h
  split at h
  · cases h; subst hn
    intro H locs a w S hl
    exact lv_isub hx hb hd (go H locs a w S hl)
  · cases h
theorem sy_s_imul  (C : sy_C p s m args c y D cI cS) (hd : decode (sy_mi y).2.1 pc = .ok (.imul, 1)) (hn : nx = pc + 1) (h : sy_op (.imul) nx tg z (sy_mi y) pc ls st M = some res) (go : sy_Go p l e R s m args below meth c cells slots Q y D cI cS ad A M0 M res) : sy_K p l e R s m args below meth c cells slots Q y D cI cS ad A M0 (pc, ls, st, M) := by
  obtain ⟨hx, hb, hml, hown, hts, hK, hN⟩ := C
  simp only [sy_op] at h
  split at h
  · cases h; subst hn
    intro H locs a w S hl
    exact lv_imul hx hb hd (go H locs a w S hl)
  · cases h
theorem sy_s_iand  (C : sy_C p s m args c y D cI cS) (hd : decode (sy_mi y).2.1 pc = .ok (.iand, 1)) (hn : nx = pc + 1) (h : sy_op (.iand) nx tg z (sy_mi y) pc ls st M = some res) (go : sy_Go p l e R s m args below meth c cells slots Q y D cI cS ad A M0 M res) : sy_K p l e R s m args below meth c cells slots Q y D cI cS ad A M0 (pc, ls, st, M) := by
  obtain ⟨hx, hb, hml, hown, hts, hK, hN⟩ := C
  simp only [sy_op] at h
  split at h
  · cases h; subst hn
    intro H locs a w S hl
    exact lv_iand hx hb hd (go H locs a w S hl)
  · cases h
theorem sy_s_ior  (C : sy_C p s m args c y D cI cS) (hd : decode (sy_mi y).2.1 pc = .ok (.ior, 1)) (hn : nx = pc + 1) (h : sy_op (.ior) nx tg z (sy_mi y) pc ls st M = some res) (go : sy_Go p l e R s m args below meth c cells slots Q y D cI cS ad A M0 M res) : sy_K p l e R s m args below meth c cells slots Q y D cI cS ad A M0 (pc, ls, st, M) := by
  obtain ⟨hx, hb, hml, hown, hts, hK, hN⟩ := C
  simp only [sy_op] at h
  split at h
  · cases h; subst hn
    intro H locs a w S hl
    exact lv_ior hx hb hd (go H locs a w S hl)
  · cases h
theorem sy_s_ixor  (C : sy_C p s m args c y D cI cS) (hd : decode (sy_mi y).2.1 pc = .ok (.ixor, 1)) (hn : nx = pc + 1) (h : sy_op (.ixor) nx tg z (sy_mi y) pc ls st M = some res) (go : sy_Go p l e R s m args below meth c cells slots Q y D cI cS ad A M0 M res) : sy_K p l e R s m args below meth c cells slots Q y D cI cS ad A M0 (pc, ls, st, M) := by
  obtain ⟨hx, hb, hml, hown, hts, hK, hN⟩ := C
  simp only [sy_op] at h
  split at h
  · cases h; subst hn
    intro H locs a w S hl
    exact lv_ixor hx hb hd (go H locs a w S hl)
  · cases h
theorem sy_s_ishl  (C : sy_C p s m args c y D cI cS) (hd : decode (sy_mi y).2.1 pc = .ok (.ishl, 1)) (hn : nx = pc + 1) (h : sy_op (.ishl) nx tg z (sy_mi y) pc ls st M = some res) (go : sy_Go p l e R s m args below meth c cells slots Q y D cI cS ad A M0 M res) : sy_K p l e R s m args below meth c cells slots Q y D cI cS ad A M0 (pc, ls, st, M) := by
  obtain ⟨hx, hb, hml, hown, hts, hK, hN⟩ := C
  simp only [sy_op] at h
  split at h
  · cases h; subst hn
    intro H locs a w S hl
    exact lv_ishl hx hb hd (go H locs a w S hl)
  · cases h
theorem sy_s_ishr  (C : sy_C p s m args c y D cI cS) (hd : decode (sy_mi y).2.1 pc = .ok (.ishr, 1)) (hn : nx = pc + 1) (h : sy_op (.ishr) nx tg z (sy_mi y) pc ls st M = some res) (go : sy_Go p l e R s m args below meth c cells slots Q y D cI cS ad A M0 M res) : sy_K p l e R s m args below meth c cells slots Q y D cI cS ad A M0 (pc, ls, st, M) := by
  obtain ⟨hx, hb, hml, hown, hts, hK, hN⟩ := C
  simp only [sy_op] at h
  split at h
  · cases h; subst hn
    intro H locs a w S hl
    exact lv_ishr hx hb hd (go H locs a w S hl)
  · cases h
theorem sy_s_ladd  (C : sy_C p s m args c y D cI cS) (hd : decode (sy_mi y).2.1 pc = .ok (.ladd, 1)) (hn : nx = pc + 1) (h : sy_op (.ladd) nx tg z (sy_mi y) pc ls st M = some res) (go : sy_Go p l e R s m args below meth c cells slots Q y D cI cS ad A M0 M res) : sy_K p l e R s m args below meth c cells slots Q y D cI cS ad A M0 (pc, ls, st, M) := by
  obtain ⟨hx, hb, hml, hown, hts, hK, hN⟩ := C
  simp only [sy_op] at h
  split at h
  · cases h; subst hn
    intro H locs a w S hl
    exact lv_ladd hx hb hd (go H locs a w S hl)
  · cases h
theorem sy_s_lsub  (C : sy_C p s m args c y D cI cS) (hd : decode (sy_mi y).2.1 pc = .ok (.lsub, 1)) (hn : nx = pc + 1) (h : sy_op (.lsub) nx tg z (sy_mi y) pc ls st M = some res) (go : sy_Go p l e R s m args below meth c cells slots Q y D cI cS ad A M0 M res) : sy_K p l e R s m args below meth c cells slots Q y D cI cS ad A M0 (pc, ls, st, M) := by
  obtain ⟨hx, hb, hml, hown, hts, hK, hN⟩ := C
  simp only [sy_op] at h
  split at h
  · cases h; subst hn
    intro H locs a w S hl
    exact lv_lsub hx hb hd (go H locs a w S hl)
  · cases h
theorem sy_s_lmul  (C : sy_C p s m args c y D cI cS) (hd : decode (sy_mi y).2.1 pc = .ok (.lmul, 1)) (hn : nx = pc + 1) (h : sy_op (.lmul) nx tg z (sy_mi y) pc ls st M = some res) (go : sy_Go p l e R s m args below meth c cells slots Q y D cI cS ad A M0 M res) : sy_K p l e R s m args below meth c cells slots Q y D cI cS ad A M0 (pc, ls, st, M) := by
  obtain ⟨hx, hb, hml, hown, hts, hK, hN⟩ := C
  simp only [sy_op] at h
  split at h
  · cases h; subst hn
    intro H locs a w S hl
    exact lv_lmul hx hb hd (go H locs a w S hl)
  · cases h
theorem sy_s_iushr  (C : sy_C p s m args c y D cI cS) (hd : decode (sy_mi y).2.1 pc = .ok (.iushr, 1)) (hn : nx = pc + 1) (h : sy_op (.iushr) nx tg z (sy_mi y) pc ls st M = some res) (go : sy_Go p l e R s m args below meth c cells slots Q y D cI cS ad A M0 M res) : sy_K p l e R s m args below meth c cells slots Q y D cI cS ad A M0 (pc, ls, st, M) := by
  obtain ⟨hx, hb, hml, hown, hts, hK, hN⟩ := C
  simp only [sy_op] at h
  split at h
  · cases h; subst hn
    intro H locs a w S hl
    exact lv_iushr hx hb hd rfl (go H locs a w S hl)
  · cases h
theorem sy_s_lcmp  (C : sy_C p s m args c y D cI cS) (hd : decode (sy_mi y).2.1 pc = .ok (.lcmp, 1)) (hn : nx = pc + 1) (h : sy_op (.lcmp) nx tg z (sy_mi y) pc ls st M = some res) (go : sy_Go p l e R s m args below meth c cells slots Q y D cI cS ad A M0 M res) : sy_K p l e R s m args below meth c cells slots Q y D cI cS ad A M0 (pc, ls, st, M) := by
  obtain ⟨hx, hb, hml, hown, hts, hK, hN⟩ := C
  simp only [sy_op] at h
  split at h
  · cases h; subst hn
    intro H locs a w S hl
    exact W.lcmp hx hb hd (go H locs a w S hl)
  · cases h
theorem sy_s_i2l  (C : sy_C p s m args c y D cI cS) (hd : decode (sy_mi y).2.1 pc = .ok (.i2l, 1)) (hn : nx = pc + 1) (h : sy_op (.i2l) nx tg z (sy_mi y) pc ls st M = some res) (go : sy_Go p l e R s m args below meth c cells slots Q y D cI cS ad A M0 M res) : sy_K p l e R s m args below meth c cells slots Q y D cI cS ad A M0 (pc, ls, st, M) := by
  obtain ⟨hx, hb, hml, hown, hts, hK, hN⟩ := C
  simp only [sy_op] at h
  split at h
  · cases h; subst hn
    intro H locs a w S hl
    exact lv_i2l hx hb hd rfl (go H locs a w S hl)
  · cases h
theorem sy_s_i2b  (C : sy_C p s m args c y D cI cS) (hd : decode (sy_mi y).2.1 pc = .ok (.i2b, 1)) (hn : nx = pc + 1) (h : sy_op (.i2b) nx tg z (sy_mi y) pc ls st M = some res) (go : sy_Go p l e R s m args below meth c cells slots Q y D cI cS ad A M0 M res) : sy_K p l e R s m args below meth c cells slots Q y D cI cS ad A M0 (pc, ls, st, M) := by
  obtain ⟨hx, hb, hml, hown, hts, hK, hN⟩ := C
  simp only [sy_op] at h
  split at h
  · cases h; subst hn
    intro H locs a w S hl
    exact lv_i2b hx hb hd rfl (go H locs a w S hl)
  · cases h
theorem sy_s_i2s  (C : sy_C p s m args c y D cI cS) (hd : decode (sy_mi y).2.1 pc = .ok (.i2s, 1)) (hn : nx = pc + 1) (h : sy_op (.i2s) nx tg z (sy_mi y) pc ls st M = some res) (go : sy_Go p l e R s m args below meth c cells slots Q y D cI cS ad A M0 M res) : sy_K p l e R s m args below meth c cells slots Q y D cI cS ad A M0 (pc, ls, st, M) := by
  obtain ⟨hx, hb, hml, hown, hts, hK, hN⟩ := C
  simp only [sy_op] at h
  split at h
  · cases h; subst hn
    intro H locs a w S hl
    exact lv_i2s hx hb hd rfl (go H locs a w S hl)
  · cases h
theorem sy_s_idiv  (C : sy_C p s m args c y D cI cS) (hd : decode (sy_mi y).2.1 pc = .ok (.idiv, 1)) (hn : nx = pc + 1) (h : sy_op (.idiv) nx tg z (sy_mi y) pc ls st M = some res) (go : sy_Go p l e R s m args below meth c cells slots Q y D cI cS ad A M0 M res) : sy_K p l e R s m args below meth c cells slots Q y D cI cS ad A M0 (pc, ls, st, M) := by
  obtain ⟨hx, hb, hml, hown, hts, hK, hN⟩ := C
  simp only [sy_op] at h
  split at h
  · cases h; subst hn
    intro H locs a w S hl
    exact lv_idiv hx hb hd (of_decide_eq_true go.1) (go.2 H locs a w S hl)
  · cases h
theorem sy_s_irem  (C : sy_C p s m args c y D cI cS) (hd : decode (sy_mi y).2.1 pc = .ok (.irem, 1)) (hn : nx = pc + 1) (h : sy_op (.irem) nx tg z (sy_mi y) pc ls st M = some res) (go : sy_Go p l e R s m args below meth c cells slots Q y D cI cS ad A M0 M res) : sy_K p l e R s m args below meth c cells slots Q y D cI cS ad A M0 (pc, ls, st, M) := by
  obtain ⟨hx, hb, hml, hown, hts, hK, hN⟩ := C
  simp only [sy_op] at h
  split at h
  · cases h; subst hn
    intro H locs a w S hl
    exact lv_irem hx hb hd (of_decide_eq_true go.1) (go.2 H locs a w S hl)
  · cases h
theorem sy_s_ldiv  (C : sy_C p s m args c y D cI cS) (hd : decode (sy_mi y).2.1 pc = .ok (.ldiv, 1)) (hn : nx = pc + 1) (h : sy_op (.ldiv) nx tg z (sy_mi y) pc ls st M = some res) (go : sy_Go p l e R s m args below meth c cells slots Q y D cI cS ad A M0 M res) : sy_K p l e R s m args below meth c cells slots Q y D cI cS ad A M0 (pc, ls, st, M) := by
  obtain ⟨hx, hb, hml, hown, hts, hK, hN⟩ := C
  simp only [sy_op] at h
  split at h
  · cases h; subst hn
    intro H locs a w S hl
    exact lv_ldiv hx hb hd (of_decide_eq_true go.1) (go.2 H locs a w S hl)
  · cases h
theorem sy_s_lrem  (C : sy_C p s m args c y D cI cS) (hd : decode (sy_mi y).2.1 pc = .ok (.lrem, 1)) (hn : nx = pc + 1) (h : sy_op (.lrem) nx tg z (sy_mi y) pc ls st M = some res) (go : sy_Go p l e R s m args below meth c cells slots Q y D cI cS ad A M0 M res) : sy_K p l e R s m args below meth c cells slots Q y D cI cS ad A M0 (pc, ls, st, M) := by
  obtain ⟨hx, hb, hml, hown, hts, hK, hN⟩ := C
  simp only [sy_op] at h
  split at h
  · cases h; subst hn
    intro H locs a w S hl
    exact lv_lrem hx hb hd (of_decide_eq_true go.1) (go.2 H locs a w S hl)
  · cases h
theorem sy_s_dup  (C : sy_C p s m args c y D cI cS) (hd : decode (sy_mi y).2.1 pc = .ok (.dup, 1)) (hn : nx = pc + 1) (h : sy_op (.dup) nx tg z (sy_mi y) pc ls st M = some res) (go : sy_Go p l e R s m args below meth c cells slots Q y D cI cS ad A M0 M res) : sy_K p l e R s m args below meth c cells slots Q y D cI cS ad A M0 (pc, ls, st, M) := by
  obtain ⟨hx, hb, hml, hown, hts, hK, hN⟩ := C
  simp only [sy_op] at h
  split at h
  · cases h; subst hn
    intro H locs a w S hl
    exact lv_dup hx hb hd rfl (go H locs a w S hl)
  · cases h; subst hn
    intro H locs a w S hl
    exact lv_dup hx hb hd rfl (go H locs a w S hl)
  · cases h
theorem sy_s_dup2  (C : sy_C p s m args c y D cI cS) (hd : decode (sy_mi y).2.1 pc = .ok (.dup2, 1)) (hn : nx = pc + 1) (h : sy_op (.dup2) nx tg z (sy_mi y) pc ls st M = some res) (go : sy_Go p l e R s m args below meth c cells slots Q y D cI cS ad A M0 M res) : sy_K p l e R s m args below meth c cells slots Q y D cI cS ad A M0 (pc, ls, st, M) := by
  obtain ⟨hx, hb, hml, hown, hts, hK, hN⟩ := C
  simp only [sy_op] at h
  split at h
  · cases h; subst hn
    intro H locs a w S hl
    exact lv_dup2_11 hx hb hd rfl rfl (go H locs a w S hl)
  · cases h
theorem sy_s_pop  (C : sy_C p s m args c y D cI cS) (hd : decode (sy_mi y).2.1 pc = .ok (.pop, 1)) (hn : nx = pc + 1) (h : sy_op (.pop) nx tg z (sy_mi y) pc ls st M = some res) (go : sy_Go p l e R s m args below meth c cells slots Q y D cI cS ad A M0 M res) : sy_K p l e R s m args below meth c cells slots Q y D cI cS ad A M0 (pc, ls, st, M) := by
  obtain ⟨hx, hb, hml, hown, hts, hK, hN⟩ := C
  simp only [sy_op] at h
  split at h
  · cases h; subst hn
    intro H locs a w S hl
    exact lv_pop hx hb hd rfl (go H locs a w S hl)
  · cases h
theorem sy_s_goto {off : Int} (C : sy_C p s m args c y D cI cS) (hd : decode (sy_mi y).2.1 pc = .ok (.goto off, 3)) (hn : nx = pc + 3) (ht : sy_okT pc (.goto off) tg z = true) (h : sy_op (.goto off) nx tg z (sy_mi y) pc ls st M = some res) (go : sy_Go p l e R s m args below meth c cells slots Q y D cI cS ad A M0 M res) : sy_K p l e R s m args below meth c cells slots Q y D cI cS ad A M0 (pc, ls, st, M) := by
  obtain ⟨hx, hb, hml, hown, hts, hK, hN⟩ := C
  cases h; subst hn
  intro H locs a w S hl
  simp only [sy_okT, decide_eq_true_eq] at ht
  exact lv_goto hx hb hd ht (go H locs a w S hl)
theorem sy_s_if_eq {off : Int} (C : sy_C p s m args c y D cI cS) (hd : decode (sy_mi y).2.1 pc = .ok (.ifCond .eq off, 3)) (hn : nx = pc + 3) (ht : sy_okT pc (.ifCond .eq off) tg z = true) (h : sy_op (.ifCond .eq off) nx tg z (sy_mi y) pc ls st M = some res) (go : sy_Go p l e R s m args below meth c cells slots Q y D cI cS ad A M0 M res) : sy_K p l e R s m args below meth c cells slots Q y D cI cS ad A M0 (pc, ls, st, M) := by
  obtain ⟨hx, hb, hml, hown, hts, hK, hN⟩ := C
  simp only [sy_op] at h
  split at h
  · cases h; subst hn
    intro H locs a w S hl
    simp only [sy_okT, decide_eq_true_eq] at ht
    exact lv_if_eq hx hb hd ht (fun q => go.1 (decide_eq_true q) H locs a w S hl) (fun q => go.2 (decide_eq_false q) H locs a w S hl)
  · cases h
theorem sy_s_icmp_eq {off : Int} (C : sy_C p s m args c y D cI cS) (hd : decode (sy_mi y).2.1 pc = .ok (.if_icmp .eq off, 3)) (hn : nx = pc + 3) (ht : sy_okT pc (.if_icmp .eq off) tg z = true) (h : sy_op (.if_icmp .eq off) nx tg z (sy_mi y) pc ls st M = some res) (go : sy_Go p l e R s m args below meth c cells slots Q y D cI cS ad A M0 M res) : sy_K p l e R s m args below meth c cells slots Q y D cI cS ad A M0 (pc, ls, st, M) := by
  obtain ⟨hx, hb, hml, hown, hts, hK, hN⟩ := C
  simp only [sy_op] at h
  split at h
  · cases h; subst hn
    intro H locs a w S hl
    simp only [sy_okT, decide_eq_true_eq] at ht
    exact lv_icmp_eq hx hb hd ht (fun q => go.1 (decide_eq_true q) H locs a w S hl) (fun q => go.2 (decide_eq_false q) H locs a w S hl)
  · cases h
theorem sy_s_if_ne {off : Int} (C : sy_C p s m args c y D cI cS) (hd : decode (sy_mi y).2.1 pc = .ok (.ifCond .ne off, 3)) (hn : nx = pc + 3) (ht : sy_okT pc (.ifCond .ne off) tg z = true) (h : sy_op (.ifCond .ne off) nx tg z (sy_mi y) pc ls st M = some res) (go : sy_Go p l e R s m args below meth c cells slots Q y D cI cS ad A M0 M res) : sy_K p l e R s m args below meth c cells slots Q y D cI cS ad A M0 (pc, ls, st, M) := by
  obtain ⟨hx, hb, hml, hown, hts, hK, hN⟩ := C
  simp only [sy_op] at h
  split at h
  · cases h; subst hn
    intro H locs a w S hl
    simp only [sy_okT, decide_eq_true_eq] at ht
    exact lv_if_ne hx hb hd ht (fun q => go.1 (decide_eq_true q) H locs a w S hl) (fun q => go.2 (decide_eq_false (fun z => z q)) H locs a w S hl)
  · cases h
theorem sy_s_icmp_ne {off : Int} (C : sy_C p s m args c y D cI cS) (hd : decode (sy_mi y).2.1 pc = .ok (.if_icmp .ne off, 3)) (hn : nx = pc + 3) (ht : sy_okT pc (.if_icmp .ne off) tg z = true) (h : sy_op (.if_icmp .ne off) nx tg z (sy_mi y) pc ls st M = some res) (go : sy_Go p l e R s m args below meth c cells slots Q y D cI cS ad A M0 M res) : sy_K p l e R s m args below meth c cells slots Q y D cI cS ad A M0 (pc, ls, st, M) := by
  obtain ⟨hx, hb, hml, hown, hts, hK, hN⟩ := C
  simp only [sy_op] at h
  split at h
  · cases h; subst hn
    intro H locs a w S hl
    simp only [sy_okT, decide_eq_true_eq] at ht
    exact lv_icmp_ne hx hb hd ht (fun q => go.1 (decide_eq_true q) H locs a w S hl) (fun q => go.2 (decide_eq_false (fun z => z q)) H locs a w S hl)
  · cases h
theorem sy_s_if_lt {off : Int} (C : sy_C p s m args c y D cI cS) (hd : decode (sy_mi y).2.1 pc = .ok (.ifCond .lt off, 3)) (hn : nx = pc + 3) (ht : sy_okT pc (.ifCond .lt off) tg z = true) (h : sy_op (.ifCond .lt off) nx tg z (sy_mi y) pc ls st M = some res) (go : sy_Go p l e R s m args below meth c cells slots Q y D cI cS ad A M0 M res) : sy_K p l e R s m args below meth c cells slots Q y D cI cS ad A M0 (pc, ls, st, M) := by
  obtain ⟨hx, hb, hml, hown, hts, hK, hN⟩ := C
  simp only [sy_op] at h
  split at h
  · cases h; subst hn
    intro H locs a w S hl
    simp only [sy_okT, decide_eq_true_eq] at ht
    exact lv_if_lt hx hb hd ht (fun q => go.1 (decide_eq_true q) H locs a w S hl) (fun q => go.2 (decide_eq_false q) H locs a w S hl)
  · cases h
theorem sy_s_icmp_lt {off : Int} (C : sy_C p s m args c y D cI cS) (hd : decode (sy_mi y).2.1 pc = .ok (.if_icmp .lt off, 3)) (hn : nx = pc + 3) (ht : sy_okT pc (.if_icmp .lt off) tg z = true) (h : sy_op (.if_icmp .lt off) nx tg z (sy_mi y) pc ls st M = some res) (go : sy_Go p l e R s m args below meth c cells slots Q y D cI cS ad A M0 M res) : sy_K p l e R s m args below meth c cells slots Q y D cI cS ad A M0 (pc, ls, st, M) := by
  obtain ⟨hx, hb, hml, hown, hts, hK, hN⟩ := C
  simp only [sy_op] at h
  split at h
  · cases h; subst hn
    intro H locs a w S hl
    simp only [sy_okT, decide_eq_true_eq] at ht
    exact lv_icmp_lt hx hb hd ht (fun q => go.1 (decide_eq_true q) H locs a w S hl) (fun q => go.2 (decide_eq_false q) H locs a w S hl)
  · cases h
theorem sy_s_if_ge {off : Int} (C : sy_C p s m args c y D cI cS) (hd : decode (sy_mi y).2.1 pc = .ok (.ifCond .ge off, 3)) (hn : nx = pc + 3) (ht : sy_okT pc (.ifCond .ge off) tg z = true) (h : sy_op (.ifCond .ge off) nx tg z (sy_mi y) pc ls st M = some res) (go : sy_Go p l e R s m args below meth c cells slots Q y D cI cS ad A M0 M res) : sy_K p l e R s m args below meth c cells slots Q y D cI cS ad A M0 (pc, ls, st, M) := by
  obtain ⟨hx, hb, hml, hown, hts, hK, hN⟩ := C
  simp only [sy_op] at h
  split at h
  · cases h; subst hn
    intro H locs a w S hl
    simp only [sy_okT, decide_eq_true_eq] at ht
    exact lv_if_ge hx hb hd ht (fun q => go.1 (decide_eq_true q) H locs a w S hl) (fun q => go.2 (decide_eq_false q) H locs a w S hl)
  · cases h
theorem sy_s_icmp_ge {off : Int} (C : sy_C p s m args c y D cI cS) (hd : decode (sy_mi y).2.1 pc = .ok (.if_icmp .ge off, 3)) (hn : nx = pc + 3) (ht : sy_okT pc (.if_icmp .ge off) tg z = true) (h : sy_op (.if_icmp .ge off) nx tg z (sy_mi y) pc ls st M = some res) (go : sy_Go p l e R s m args below meth c cells slots Q y D cI cS ad A M0 M res) : sy_K p l e R s m args below meth c cells slots Q y D cI cS ad A M0 (pc, ls, st, M) := by
  obtain ⟨hx, hb, hml, hown, hts, hK, hN⟩ := C
  simp only [sy_op] at h
  split at h
  · cases h; subst hn
    intro H locs a w S hl
    simp only [sy_okT, decide_eq_true_eq] at ht
    exact lv_icmp_ge hx hb hd ht (fun q => go.1 (decide_eq_true q) H locs a w S hl) (fun q => go.2 (decide_eq_false q) H locs a w S hl)
  · cases h
theorem sy_s_if_gt {off : Int} (C : sy_C p s m args c y D cI cS) (hd : decode (sy_mi y).2.1 pc = .ok (.ifCond .gt off, 3)) (hn : nx = pc + 3) (ht : sy_okT pc (.ifCond .gt off) tg z = true) (h : sy_op (.ifCond .gt off) nx tg z (sy_mi y) pc ls st M = some res) (go : sy_Go p l e R s m args below meth c cells slots Q y D cI cS ad A M0 M res) : sy_K p l e R s m args below meth c cells slots Q y D cI cS ad A M0 (pc, ls, st, M) := by
  obtain ⟨hx, hb, hml, hown, hts, hK, hN⟩ := C
  simp only [sy_op] at h
  split at h
  · cases h; subst hn
    intro H locs a w S hl
    simp only [sy_okT, decide_eq_true_eq] at ht
    exact lv_if_gt hx hb hd ht (fun q => go.1 (decide_eq_true q) H locs a w S hl) (fun q => go.2 (decide_eq_false q) H locs a w S hl)
  · cases h
theorem sy_s_icmp_gt {off : Int} (C : sy_C p s m args c y D cI cS) (hd : decode (sy_mi y).2.1 pc = .ok (.if_icmp .gt off, 3)) (hn : nx = pc + 3) (ht : sy_okT pc (.if_icmp .gt off) tg z = true) (h : sy_op (.if_icmp .gt off) nx tg z (sy_mi y) pc ls st M = some res) (go : sy_Go p l e R s m args below meth c cells slots Q y D cI cS ad A M0 M res) : sy_K p l e R s m args below meth c cells slots Q y D cI cS ad A M0 (pc, ls, st, M) := by
  obtain ⟨hx, hb, hml, hown, hts, hK, hN⟩ := C
  simp only [sy_op] at h
  split at h
  · cases h; subst hn
    intro H locs a w S hl
    simp only [sy_okT, decide_eq_true_eq] at ht
    exact lv_icmp_gt hx hb hd ht (fun q => go.1 (decide_eq_true q) H locs a w S hl) (fun q => go.2 (decide_eq_false q) H locs a w S hl)
  · cases h
theorem sy_s_if_le {off : Int} (C : sy_C p s m args c y D cI cS) (hd : decode (sy_mi y).2.1 pc = .ok (.ifCond .le off, 3)) (hn : nx = pc + 3) (ht : sy_okT pc (.ifCond .le off) tg z = true) (h : sy_op (.ifCond .le off) nx tg z (sy_mi y) pc ls st M = some res) (go : sy_Go p l e R s m args below meth c cells slots Q y D cI cS ad A M0 M res) : sy_K p l e R s m args below meth c cells slots Q y D cI cS ad A M0 (pc, ls, st, M) := by
  obtain ⟨hx, hb, hml, hown, hts, hK, hN⟩ := C
  simp only [sy_op] at h
  split at h
  · cases h; subst hn
    intro H locs a w S hl
    simp only [sy_okT, decide_eq_true_eq] at ht
    exact lv_if_le hx hb hd ht (fun q => go.1 (decide_eq_true q) H locs a w S hl) (fun q => go.2 (decide_eq_false q) H locs a w S hl)
  · cases h
theorem sy_s_icmp_le {off : Int} (C : sy_C p s m args c y D cI cS) (hd : decode (sy_mi y).2.1 pc = .ok (.if_icmp .le off, 3)) (hn : nx = pc + 3) (ht : sy_okT pc (.if_icmp .le off) tg z = true) (h : sy_op (.if_icmp .le off) nx tg z (sy_mi y) pc ls st M = some res) (go : sy_Go p l e R s m args below meth c cells slots Q y D cI cS ad A M0 M res) : sy_K p l e R s m args below meth c cells slots Q y D cI cS ad A M0 (pc, ls, st, M) := by
  obtain ⟨hx, hb, hml, hown, hts, hK, hN⟩ := C
  simp only [sy_op] at h
  split at h
  · cases h; subst hn
    intro H locs a w S hl
    simp only [sy_okT, decide_eq_true_eq] at ht
    exact lv_icmp_le hx hb hd ht (fun q => go.1 (decide_eq_true q) H locs a w S hl) (fun q => go.2 (decide_eq_false q) H locs a w S hl)
  · cases h
theorem sy_s_tableswitch {dflt lo hi : Int} {offs : Array Int} {len : Nat} (C : sy_C p s m args c y D cI cS) (hd : decode (sy_mi y).2.1 pc = .ok (.tableswitch dflt lo hi offs, len)) (h : sy_op (.tableswitch dflt lo hi offs) nx tg z (sy_mi y) pc ls st M = some res) (go : sy_Go p l e R s m args below meth c cells slots Q y D cI cS ad A M0 M res) : sy_K p l e R s m args below meth c cells slots Q y D cI cS ad A M0 (pc, ls, st, M) := by
  obtain ⟨hx, hb, hml, hown, hts, hK, hN⟩ := C
  simp only [sy_op] at h
  split at h
  · rename_i x r
    cases h
    intro H locs a w S hl
    have h0 := of_decide_eq_true go.1
    have hg := go.2 H locs a w S hl
    have hc : (((sy_sw pc dflt lo hi offs x).toNat : Nat) : Int) = sy_sw pc dflt lo hi offs x := Int.toNat_of_nonneg h0
    by_cases q : x.toInt < lo ∨ hi < x.toInt
    · refine lv_tableOut (tgt := (sy_sw pc dflt lo hi offs x).toNat) hx hb hd q ?_ hg
      rw [hc]; unfold sy_sw; rw [if_pos q]
    · have q1 : ¬ x.toInt < lo := fun z => q (Or.inl z)
      have q2 : ¬ hi < x.toInt := fun z => q (Or.inr z)
      cases ho : offs[(x.toInt - lo).toNat]? with
      | none =>
        exfalso
        unfold sy_sw at h0
        rw [if_neg q, ho] at h0
        exact absurd (show (0 : Int) ≤ -1 from h0) (by decide)
      | some off =>
        refine lv_tableIn (tgt := (sy_sw pc dflt lo hi offs x).toNat) hx hb hd q1 q2 ho ?_ hg
        rw [hc]; unfold sy_sw; rw [if_neg q, ho]
  · cases h
end SYS
end
section
theorem sy_row_n {M : sy_Mm} {k q : Nat} {f : Nat → Int32} (h : q ≠ k) : sy_row M k f q = M q := by
  unfold sy_row
  have : Nat.beq q k = false := by
    cases z : Nat.beq q k with
    | false => rfl
    | true => exact absurd (Nat.eq_of_beq_eq_true z) h
  rw [this]; rfl
theorem sy_row_s {M : sy_Mm} {k : Nat} {f : Nat → Int32} : sy_row M k f k = f := by
  unfold sy_row
  rw [show Nat.beq k k = true from Nat.beq_refl k]; rfl
theorem sy_link {c : Nat} {k ci j : Nat} (e : sy_as (sy_ci c).2.1 k = some (ci, j)) {C : String} {T : u_T} {N : Nat} (hv : vwCl[ci]? = some (C, T, N)) : Cond.fieldLink (sy_ci c).1 k (T j).1 (T j).2.1 (T j).2.2.1 ∈ sy_gT := by
  have h1 := (sy_kAll c).1 _ (List.mem_map.mpr ⟨_, sy_as_mem _ _ _ e, rfl⟩)
  simp only [sy_fc, hv] at h1
  exact h1
theorem sy_lt_in {i : Int32} {n : Nat} (h : 0 ≤ i.toInt ∧ i.toInt < (n : Int)) : vp_in i n := vp_in_iff.mpr h
section SYT
variable {p : Program} {l : Launch} {e : Env} {R : Room} {s : State} {m : MethodId} {args : Array Value} {below : List Frame} {meth : Method} {c : Code} {cells slots : Nat} {Q : State → Prop} {y : Nat} {D : va_G} {cI cS : ClassId} {ad : Nat → Nat} {A : Nat → Prop} {M0 : sy_Mm} {pc nx tg : Nat} {z : Int32} {ls : sy_Lo} {st : List Value} {M : sy_Mm} {res : sy_Rs}
theorem sy_s_getfield {k : Nat} (C : sy_C p s m args c y D cI cS) (hA : sy_ad ad A) (hd : decode (sy_mi y).2.1 pc = .ok (.getfield k, 3)) (hn : nx = pc + 3) (h : sy_op (.getfield k) nx tg z (sy_mi y) pc ls st M = some res) (go : sy_Go p l e R s m args below meth c cells slots Q y D cI cS ad A M0 M res) : sy_K p l e R s m args below meth c cells slots Q y D cI cS ad A M0 (pc, ls, st, M) := by
  obtain ⟨hx, hb, hml, hown, hts, hK, hN⟩ := C
  simp only [sy_op] at h
  split at h
  · rename_i ci j e
    split at h
    · rename_i q r
      split at h
      · rename_i p0 ef
        cases h; subst hn
        intro H locs a w S hl
        obtain ⟨fs, C0, T, N, h1, h2, h3, h4, h5, h6⟩ := sy_fld_spec ef
        obtain ⟨u1, ⟨ty, u2⟩, u3⟩ := sy_uAll ci _ h3
        refine va_get (D := D) (ci := ci) (v := .ref (ad p0)) (C := C0) (T := T) (N := N) hx hb hts u1 hown hK w.1 q (sy_ws_at h1) h3 j h5 (hts _ (sy_link e h3)) (fun _ h9 => h9) ?_ hd (go H locs a w S hl)
        rw [sy_nt_eq] at h2
        simp [List.getElem?_mapIdx, h2, sy_fv]
      · rename_i ef
        cases h; subst hn
        intro H locs a w S hl
        obtain ⟨fs, C0, T, N, h1, h2, h3, h4, h5, h6⟩ := sy_fld_spec ef
        obtain ⟨u1, ⟨ty, u2⟩, u3⟩ := sy_uAll ci _ h3
        refine va_get (D := D) (ci := ci) (v := .int (M q j)) (C := C0) (T := T) (N := N) hx hb hts u1 hown hK w.1 q (sy_ws_at h1) h3 j h5 (hts _ (sy_link e h3)) (fun _ h9 => h9) ?_ hd (go H locs a w S hl)
        rw [sy_nt_eq] at h2
        simp [List.getElem?_mapIdx, h2, sy_fv]
      · cases h
    · cases h
  · cases h
theorem sy_s_putfield {k : Nat} (C : sy_C p s m args c y D cI cS) (hA : sy_ad ad A) (hd : decode (sy_mi y).2.1 pc = .ok (.putfield k, 3)) (hn : nx = pc + 3) (h : sy_op (.putfield k) nx tg z (sy_mi y) pc ls st M = some res) (go : sy_Go p l e R s m args below meth c cells slots Q y D cI cS ad A M0 M res) : sy_K p l e R s m args below meth c cells slots Q y D cI cS ad A M0 (pc, ls, st, M) := by
  obtain ⟨hx, hb, hml, hown, hts, hK, hN⟩ := C
  simp only [sy_op] at h
  split at h
  · rename_i ci j e
    split at h
    · rename_i x q r
      split at h
      · rename_i ef
        cases h; subst hn
        intro H locs a w S hl
        obtain ⟨fs, C0, T, N, h1, h2, h3, h4, h5, h6⟩ := sy_fld_spec ef
        obtain ⟨u1, ⟨ty, u2⟩, u3⟩ := sy_uAll ci _ h3
        obtain ⟨g1, g2⟩ := h6 rfl
        have hq := sy_nt_lt h1
        refine va_put (D := D) (ci := ci) (v := .int x) (ty := .int) (C := C0) (T := T) (N := N) hx hb hts u1 ty u2 u3 hown hK w.1 (sy_wsD hA cI cS M) S q (sy_ws_at h1) h3 j h5 (hts _ (sy_link e h3)) (fun _ h9 => h9) g2 (by rw [g1]; decide +kernel) rfl rfl (by simp [h4, h5]) hd (fun H1 locs1 hP1 _ hS1 => ?_)
        refine go H1 locs1 a ⟨?_, ?_, ?_⟩ hS1 hl
        · rw [sy_fs_set h2 x] at hP1
          have e2 := sy_ws_set (ad := ad) (cI := cI) (cS := cS) (M := M) h1 (upd (M q) j x)
          have e3 : sy_ce ad cI cS (upd (M q) j x) (.inl (ci, fs)) = .inr (ci, fs.mapIdx (sy_fv ad (upd (M q) j x))) := rfl
          rw [e3] at e2
          rw [e2] at hP1
          exact hP1
        · exact (sy_row_n (by omega)).trans w.2.1
        · exact (sy_row_n (by omega)).trans w.2.2
      · cases h
    · cases h
  · cases h
theorem sy_s_iaload  (C : sy_C p s m args c y D cI cS) (hA : sy_ad ad A) (hd : decode (sy_mi y).2.1 pc = .ok (.iaload, 1)) (hn : nx = pc + 1) (hX : sy_X ad A M0 s) (h : sy_op (.iaload) nx tg z (sy_mi y) pc ls st M = some res) (go : sy_Go p l e R s m args below meth c cells slots Q y D cI cS ad A M0 M res) : sy_K p l e R s m args below meth c cells slots Q y D cI cS ad A M0 (pc, ls, st, M) := by
  obtain ⟨hx, hb, hml, hown, hts, hK, hN⟩ := C
  simp only [sy_op] at h
  split at h
  · rename_i i q r
    split at h
    · rename_i n e
      cases h; subst hn
      intro H locs a w S hl
      exact va_iald hx hb hK w.1 q 0 (sy_ws_at e) rfl (sy_lt_in (of_decide_eq_true go.1)) hd (go.2 H locs a w S hl)
    · cases h
    · cases z : Nat.beq q 99 with
      | false => rw [z] at h; cases h
      | true =>
        rw [z] at h
        cases h; subst hn
        have hq : q = 99 := Nat.eq_of_beq_eq_true z
        subst hq
        intro H locs a w S hl
        obtain ⟨x1, x2, x3, x4⟩ := hX
        have g0 := of_decide_eq_true go.1
        have e98 : M 98 = M0 98 := w.2.1
        have e99 : M 99 = M0 99 := w.2.2
        rw [e98] at g0
        have hin : vp_in i (M0 98 0).toNatClampNeg := vp_in_iff.mpr ⟨g0.1, by
          have : (((M0 98 0).toNatClampNeg : Nat) : Int) = (M0 98 0).toInt := Int.toNat_of_nonneg x4
          rw [this]; exact g0.2⟩
        have kk := go.2 H locs a w S hl
        refine va_sld hx hb x1 x2 x3 S hin hd ?_
        rw [← e99]
        exact kk
  · cases h
theorem sy_s_arraylength  (C : sy_C p s m args c y D cI cS) (hA : sy_ad ad A) (hd : decode (sy_mi y).2.1 pc = .ok (.arraylength, 1)) (hn : nx = pc + 1) (hX : sy_X ad A M0 s) (h : sy_op (.arraylength) nx tg z (sy_mi y) pc ls st M = some res) (go : sy_Go p l e R s m args below meth c cells slots Q y D cI cS ad A M0 M res) : sy_K p l e R s m args below meth c cells slots Q y D cI cS ad A M0 (pc, ls, st, M) := by
  obtain ⟨hx, hb, hml, hown, hts, hK, hN⟩ := C
  simp only [sy_op] at h
  split at h
  · rename_i q r
    cases z : Nat.beq q 99 with
    | false => rw [z] at h; cases h
    | true =>
      rw [z] at h
      cases h; subst hn
      have hq : q = 99 := Nat.eq_of_beq_eq_true z
      subst hq
      intro H locs a w S hl
      obtain ⟨x1, x2, x3, x4⟩ := hX
      have e98 : M 98 = M0 98 := w.2.1
      have kk := go H locs a w S hl
      refine va_slen hx hb x1 x2 x3 S hd ?_
      have e : Int32.ofNat (M0 98 0).toNatClampNeg = M 98 0 := by
        rw [e98]
        apply Int32.toInt_inj.mp
        have h1 : (M0 98 0).toNatClampNeg < 2 ^ 31 := by
          have h2 : (((M0 98 0).toNatClampNeg : Nat) : Int) = (M0 98 0).toInt := Int.toNat_of_nonneg x4
          have h3 := Int32.toInt_lt (M0 98 0)
          omega
        have h4 := nI_toInt h1
        rw [show Int32.ofNat (M0 98 0).toNatClampNeg = nI (M0 98 0).toNatClampNeg from rfl, h4]
        exact Int.toNat_of_nonneg x4
      rw [e]
      exact kk
  · cases h
theorem sy_s_iastore  (C : sy_C p s m args c y D cI cS) (hA : sy_ad ad A) (hd : decode (sy_mi y).2.1 pc = .ok (.iastore, 1)) (hn : nx = pc + 1) (h : sy_op (.iastore) nx tg z (sy_mi y) pc ls st M = some res) (go : sy_Go p l e R s m args below meth c cells slots Q y D cI cS ad A M0 M res) : sy_K p l e R s m args below meth c cells slots Q y D cI cS ad A M0 (pc, ls, st, M) := by
  obtain ⟨hx, hb, hml, hown, hts, hK, hN⟩ := C
  simp only [sy_op] at h
  split at h
  · rename_i x i q r
    split at h
    · rename_i n e
      cases h; subst hn
      intro H locs a w S hl
      have hq := sy_nt_lt e
      refine va_iast hx hb hK w.1 (sy_wsD hA cI cS M) S q 0 (sy_ws_at e) rfl (sy_lt_in (of_decide_eq_true go.1)) hd (fun H1 locs1 hP1 _ hS1 => ?_)
      refine go.2 H1 locs1 a ⟨?_, ?_, ?_⟩ hS1 hl
      · have e2 := sy_ws_set (ad := ad) (cI := cI) (cS := cS) (M := M) e (upd (M q) i.toNatClampNeg x)
        have e3 : sy_ce ad cI cS (upd (M q) i.toNatClampNeg x) (.inr (.inl n)) = .inl (cI, n, .inl (upd (M q) i.toNatClampNeg x)) := rfl
        rw [e3] at e2
        rw [e2] at hP1
        exact hP1
      · exact (sy_row_n (by omega)).trans w.2.1
      · exact (sy_row_n (by omega)).trans w.2.2
    · cases h
  · cases h
theorem sy_s_aaload  (C : sy_C p s m args c y D cI cS) (hA : sy_ad ad A) (hd : decode (sy_mi y).2.1 pc = .ok (.aaload, 1)) (hn : nx = pc + 1) (h : sy_op (.aaload) nx tg z (sy_mi y) pc ls st M = some res) (go : sy_Go p l e R s m args below meth c cells slots Q y D cI cS ad A M0 M res) : sy_K p l e R s m args below meth c cells slots Q y D cI cS ad A M0 (pc, ls, st, M) := by
  obtain ⟨hx, hb, hml, hown, hts, hK, hN⟩ := C
  simp only [sy_op] at h
  split at h
  · rename_i i q r
    split at h
    · rename_i ps e
      split at h
      · rename_i p0 e2
        cases h; subst hn
        intro H locs a w S hl
        rw [sy_nt_eq] at e2
        have hlt : i.toNatClampNeg < ps.length := (List.getElem?_eq_some_iff.mp e2).1
        have h0 := of_decide_eq_true go.1
        have hi : (i.toNatClampNeg : Int) = i.toInt := Int.toNat_of_nonneg h0
        have kk := go.2 H locs a w S hl
        refine va_aldq hx hb hK w.1 q 1 (sy_ws_at e) rfl (vp_in_iff.mpr ⟨h0, by omega⟩) hd ?_
        rw [e2]
        exact kk
      · cases h
    · cases h
  · cases h
theorem sy_of_warm {s U : State} (hW : s.WarmedH U.vm) (h : ∀ w ∈ sy_nl, va_Nw w s) : ∀ w ∈ sy_nl, va_Nw w U := by
  intro w hw
  have key : ∃ a i x h0, w = .methodLinkNest a i x h0 := by
    simp only [sy_nl, List.mem_cons, List.not_mem_nil, or_false] at hw
    rcases hw with rfl | rfl | rfl
    · exact ⟨_, _, _, _, rfl⟩
    · exact ⟨_, _, _, _, rfl⟩
    · exact ⟨_, _, _, _, rfl⟩
  obtain ⟨a, i, x, h0, rfl⟩ := key
  exact va_Nw.warmM hW (h _ hw)
theorem sy_of_same {s U : State} (hW : s.vm = U.vm) (h : ∀ w ∈ sy_nl, va_Nw w s) : ∀ w ∈ sy_nl, va_Nw w U := by
  intro w hw
  have key : ∃ a i x h0, w = .methodLinkNest a i x h0 := by
    simp only [sy_nl, List.mem_cons, List.not_mem_nil, or_false] at hw
    rcases hw with rfl | rfl | rfl
    · exact ⟨_, _, _, _, rfl⟩
    · exact ⟨_, _, _, _, rfl⟩
    · exact ⟨_, _, _, _, rfl⟩
  obtain ⟨a, i, x, h0, rfl⟩ := key
  exact va_Nw.same rfl hW (h _ hw)
theorem sy_blind {D : va_G} {cI cS : ClassId} {ad : Nat → Nat} {as : List Value} {M : sy_Mm} : FrameBlind (sy_Pc D cI cS ad as M) := by
  intro a U g mk q
  obtain ⟨q0, qP, qK, qN, q1, q2, q3, q4⟩ := q
  exact ⟨q0, qP, va_K.moved (u := U) (U := U.calling g mk a) (Vm.Alike.refl U.vm) qK, sy_of_same (s := U) rfl qN, va_X.moved (u := U) (U := U.calling g mk a) (Vm.Alike.refl U.vm) q1, q2, q3, q4⟩
/-- the callee's start at the call -/
theorem sy_pre (C : sy_C p s m args c y D cI cS) (hA : sy_ad ad A) (hX : sy_X ad A M0 s) {as : List Value} {H : Heap} {locs : List Loc} (w : sy_Wd D cI cS ad M0 M H) (S : va_S A s.heap H locs) {U : State} (hU : U.heap = H) (hW : s.WarmedH U.vm) : sy_Pc D cI cS ad as M (as.map (sy_cv ad)).toArray U := by
  obtain ⟨hx, hb, hml, hown, hts, hK, hN⟩ := C
  obtain ⟨x1, x2, x3, x4⟩ := hX
  refine ⟨rfl, by rw [hU]; exact w.1, va_K.moved hW.alike hK, sy_of_warm hW hN, ?_, ?_, ?_, ?_⟩
  · rw [hU]
    have h1 : va_X (ad 99) (M0 98 0).toNatClampNeg (M0 99) s H := va_X.kept x1 (S.2.1 _ x2 x3)
    rw [w.2.1, w.2.2]
    exact va_X.moved hW.alike h1
  · rw [hU]
    exact Nat.lt_of_lt_of_le x2 S.1
  · rintro ⟨k, hk, e⟩
    exact x3 (by rw [e]; exact hA.2 k hk)
  · rw [w.2.1]; exact x4
theorem sy_cont (hA : sy_ad ad A) {H : Heap} {locs : List Loc} {a : Array Slot} {st0 r : List Value} {av : Array Value} {r1 : Option Value} {M2 : sy_Mm} (hr : va_Run p l e R s m args below meth c H locs cells slots 0 0 (F0 m pc a st0) (r.map (sy_cv ad)) (sy_Qc D cI cS ad M r1 M2 av) (sy_in2 ad)) (w : sy_Wd D cI cS ad M0 M H) (S : va_S A s.heap H locs) (hl : sy_hl ad a (sy_mi y).2.2.1 ls)
    (k : sy_K p l e R s m args below meth c cells slots Q y D cI cS ad A M0 (pc + 3, ls, r1.toList ++ r, M2)) : W p l e R s m args below meth c H locs cells slots Q (F0 m pc a st0) := by
  intro T hT X
  obtain ⟨v, st₀, t, T', L, h0, X', hL, e1, e2, ⟨hv, hp, hz, hk⟩, st⟩ := hr T hT X
  cases hv
  rw [h0] at hz hk
  have inA : ∀ q, sy_in2 ad q → A q := fun q hq => by
    obtain ⟨k0, h1, rfl⟩ := hq
    exact hA.2 k0 h1
  obtain ⟨t2, a1, b1⟩ := k T'.heap (locs ++ L) a ⟨by rw [e1]; exact hp.1, hp.2.1.trans w.2.1, hp.2.2.trans w.2.2⟩ ⟨Nat.le_trans S.1 (by rw [e1]; exact hz), fun q h1 h2 => by rw [e1, hk q (Nat.lt_of_lt_of_le h1 S.1) (fun z => h2 (inA q z))]; exact S.2.1 q h1 h2, fun q hq => by
      rcases List.mem_append.mp hq with h | h
      · exact S.2.2 q h
      · exact inA _ (hL q h)⟩ hl T' rfl X'
  refine ⟨t2, st t2 ?_, b1⟩
  have e3 : (r1.toList ++ r).map (sy_cv ad) = (r1.map (sy_cv ad)).toList ++ r.map (sy_cv ad) := by cases r1 <;> simp
  rw [← e3]
  exact a1
theorem sy_mOK (y : Nat) : ((sy_mi y).2.2.2.2.2.2.2.cls ≠ "java/lang/invoke/MethodHandle" ∧ (sy_mi y).2.2.2.2.2.2.2.cls ≠ "java/lang/invoke/VarHandle") ∧ (parseMethodDescriptor (sy_mi y).2.2.2.2.2.2.2.desc).map (fun d => d.parameters.length) = some (sy_mi y).2.2.2.2.2.2.1 ∧ plainName (sy_mi y).2.2.2.2.2.2.2.cls = true ∧ (sy_mi y).2.2.1 ≤ 40 ∧ (sy_ci (sy_mi y).2.2.2.2.1).1 = (sy_mi y).2.2.2.2.2.2.2.cls ∧ ((sy_mi y).2.2.2.2.2.1 = true ∨ (vwCl[(sy_mi y).2.2.2.2.1]?).map (fun c => c.1) = some (sy_mi y).2.2.2.2.2.2.2.cls) := by
  have h : sy_okM (sy_mi y) = true := sy_xAll y
  simp only [sy_okM, Bool.and_eq_true, Bool.or_eq_true, decide_eq_true_eq] at h
  exact ⟨⟨h.1, h.2.1⟩, h.2.2.1, h.2.2.2.1, Nat.le_of_ble_eq_true h.2.2.2.2.1, h.2.2.2.2.2.1, h.2.2.2.2.2.2⟩
theorem sy_goodW {y : Nat} (h : ¬ (sy_mi y).2.2.2.2.1 = 11) : ∀ w ∈ sy_wl (sy_mi y), w ∈ sy_gT := (sy_wAll y).resolve_left h
theorem sy_goodIn {y : Nat} (h : ¬ (sy_mi y).2.2.2.2.1 = 11) : GoodIn sy_gT (sy_wd y) := sy_gT_good _ (fun w hw => by
  rcases List.mem_cons.mp hw with rfl | hw
  · exact sy_goodW h _ List.mem_cons_self
  · exact hw)
theorem sy_callB (C : sy_C p s m args c y D cI cS) {y' d k : Nat} (h11 : ¬ (sy_mi y').2.2.2.2.1 = 11) (hfr : d + 3 ≤ R.frames) (hlo : 64 * (d + 3) ≤ R.locals) (hl : (Cond.methodLink (sy_ci (sy_mi y).2.2.2.2.1).1 k (sy_mi y').2.2.2.2.2.2.2).before args s = true) :
    CallB R s args (sy_ci (sy_mi y).2.2.2.2.1).1 k (sy_mi y').2.2.2.2.2.2.2 (sy_mi y').2.1 (sy_mi y').2.2.1 (sy_mi y').2.2.2.1 (sy_wd y') (sy_rm d) 0 0 (sy_mi y').2.2.2.2.2.2.1 := by
  obtain ⟨hx, hb, hml, hown, hts, hK, hN⟩ := C
  obtain ⟨⟨o1, o2⟩, o3, o4, o5, o6, o7⟩ := sy_mOK y'
  have hini := hts _ (sy_goodW h11 (.initialized (sy_mi y').2.2.2.2.2.2.2.cls) (by simp [sy_wl]))
  exact callB_of _ hts (sy_goodIn h11) rfl rfl rfl hini hl ⟨o1, o2, o3⟩ ⟨hfr, by show 8 + ((sy_mi y').2.2.1 + 11) + 64 * (d + 2) ≤ R.locals; omega⟩
theorem sy_callN (C : sy_C p s m args c y D cI cS) {y' d k : Nat} (h11 : ¬ (sy_mi y').2.2.2.2.1 = 11) (hfr : d + 3 ≤ R.frames) (hlo : 64 * (d + 3) ≤ R.locals) (hl : va_Nw (.methodLinkNest (sy_ci (sy_mi y).2.2.2.2.1).1 k (sy_mi y').2.2.2.2.2.2.2 "LuckyStolen") s) :
    va_CN R s args (sy_ci (sy_mi y).2.2.2.2.1).1 k (sy_mi y').2.2.2.2.2.2.2 "LuckyStolen" (sy_mi y').2.1 (sy_mi y').2.2.1 (sy_mi y').2.2.2.1 (sy_wd y') (sy_rm d) 0 0 (sy_mi y').2.2.2.2.2.2.1 := by
  obtain ⟨hx, hb, hml, hown, hts, hK, hN⟩ := C
  obtain ⟨⟨o1, o2⟩, o3, o4, o5, o6, o7⟩ := sy_mOK y'
  have hini := hts _ (sy_goodW h11 (.initialized (sy_mi y').2.2.2.2.2.2.2.cls) (by simp [sy_wl]))
  exact va_cnB _ hts (sy_goodIn h11) rfl rfl rfl hl hini ⟨o1, o2, o3⟩ ⟨hfr, by show 8 + ((sy_mi y').2.2.1 + 11) + 64 * (d + 2) ≤ R.locals; omega⟩
theorem sy_call_spec {b : Bool} {y' nx : Nat} {as r : List Value} (h : sy_call b y' as nx ls r M = some res) : ¬ (sy_mi y').2.2.2.2.1 = 11 ∧ b = true ∧ sy_cs r ≤ 8 ∧ sy_cs as ≤ (sy_mi y').2.2.1 ∧ res = .inr (.inr (.inr (.inl (y', as, (nx, ls, r, M))))) := by
  unfold sy_call at h
  cases q : Nat.beq (sy_mi y').2.2.2.2.1 11 with
  | true => rw [q] at h; cases h
  | false =>
    rw [q] at h
    cases b with
    | false => cases h
    | true =>
      cases z : (Nat.ble (sy_cs r) 8 && Nat.ble (sy_cs as) (sy_mi y').2.2.1) with
      | false => rw [z] at h; cases h
      | true =>
        rw [z] at h
        simp only [Bool.and_eq_true] at z
        refine ⟨fun e => ?_, rfl, Nat.le_of_ble_eq_true z.1, Nat.le_of_ble_eq_true z.2, (Option.some.inj h).symm⟩
        rw [e] at q
        cases q
theorem sy_s_invokevirtual {k : Nat} (C : sy_C p s m args c y D cI cS) (hA : sy_ad ad A) (hd : decode (sy_mi y).2.1 pc = .ok (.invokevirtual k, 3)) (hn : nx = pc + 3) (hX : sy_X ad A M0 s) (hR : sy_Rm R cells slots) (h : sy_op (.invokevirtual k) nx tg z (sy_mi y) pc ls st M = some res) (go : sy_Go p l e R s m args below meth c cells slots Q y D cI cS ad A M0 M res) : sy_K p l e R s m args below meth c cells slots Q y D cI cS ad A M0 (pc, ls, st, M) := by
  have C0 := C
  obtain ⟨hx, hb, hml, hown, hts, hK, hN⟩ := C
  simp only [sy_op] at h
  split at h
  · rename_i y' kd ek
    cases zk : Nat.beq kd 0 with
    | false => rw [zk] at h; cases h
    | true =>
      rw [zk] at h
      have hk0 : kd = 0 := Nat.eq_of_beq_eq_true zk
      subst hk0
      dsimp only [cond] at h
      split at h
      · rename_i as q r ep
        obtain ⟨h11, hb1, hcs, hcm, rfl⟩ := sy_call_spec h
        obtain ⟨d, r1, M2, hfr, hlo, hM, kk⟩ := go hcm h11
        subst hn
        intro H locs a w S hl
        obtain ⟨bs, e1, e2, e3⟩ := sy_pop_spec _ _ _ _ _ ep
        rw [List.append_nil] at e1
        subst e1
        have hst : (sy_mi y').2.2.2.2.2.1 = false := by
          cases z0 : (sy_mi y').2.2.2.2.2.1 with
          | true => rw [z0] at hb1; cases hb1
          | false => rfl
        rw [hst] at hb1
        have hiso : sy_isO q (sy_mi y').2.2.2.2.1 = true := hb1
        obtain ⟨⟨o1, o2⟩, o3, o4, o5, o6, o7⟩ := sy_mOK y'
        rw [hst] at o7
        have o8 := o7.resolve_left (by decide)
        have hl0 : Cond.methodLink (sy_ci (sy_mi y).2.2.2.2.1).1 k (sy_mi y').2.2.2.2.2.2.2 ∈ sy_gT := (sy_kAll (sy_mi y).2.2.2.2.1).2.2.1 _ (List.mem_map.mpr ⟨_, List.mem_filter.mpr ⟨sy_as_mem _ _ _ ek, rfl⟩, rfl⟩)
        have hcb := sy_callB (R := R) C0 (y' := y') (d := d) (k := k) h11 hfr hlo (hts _ hl0)
        have hw1 := hts _ (sy_goodW h11 (.instanceMethod (sy_mi y').2.2.2.2.2.2.2) (by simp [sy_wl, hst]))
        have hw2 := hts _ (sy_goodW h11 (.selects (sy_mi y').2.2.2.2.2.2.2.cls (sy_mi y').2.2.2.2.2.2.2 (sy_mi y').2.2.2.2.2.2.2) (by simp [sy_wl, hst]))
        have hrecv : ∃ cellB : Cell, H[ad q]? = some cellB ∧ cellB.vm.isStatics = false ∧ s.vm.findClass (sy_mi y').2.2.2.2.2.2.2.cls = some cellB.cls := by
          unfold sy_isO at hiso
          split at hiso
          · rename_i c0 fs e4
            have hc0 : c0 = (sy_mi y').2.2.2.2.1 := Nat.eq_of_beq_eq_true hiso
            cases hv : vwCl[(sy_mi y').2.2.2.2.1]? with
            | none => rw [hv] at o8; cases o8
            | some qq =>
              rw [hv] at o8
              have o9 : qq.1 = (sy_mi y').2.2.2.2.2.2.2.cls := Option.some.inj o8
              have := va_recv hK w.1 (ci := c0) (q0 := q) (by rw [hc0]; exact hv) (sy_ws_at e4)
              rw [o9] at this
              exact this
          · cases hiso
        have hr := va_runV (b := ad q) (As := as.map (sy_cv ad)) (rest := r.map (sy_cv ad)) (g := F0 m pc a (st.map (sy_cv ad))) (H := H) (locs := locs) (cells := cells) (slots := slots) (below := below) (meth := meth) (e := e) ⟨hx, hb, hml, hown, hts⟩ (hM D cI cS ad ⟨hA.1, fun i hi => ⟨i, hi, rfl⟩⟩) ⟨hcb, hw1, hw2⟩ ⟨sy_blind, hrecv, fun U hU hW => sy_pre C0 hA hX w S hU hW⟩ rfl (by rw [List.length_map]; exact e2) hl.1 (by show st.map (sy_cv ad) = _; rw [e3]; simp [sy_cv]) (lv_room (by rw [sy_cs_sum]; exact hcs)) hd ⟨hR.2.2.1, hR.2.2.2⟩
        exact sy_cont hA hr w S hl kk
      · cases h
  · cases h
theorem sy_s_invokestatic {k : Nat} (C : sy_C p s m args c y D cI cS) (hA : sy_ad ad A) (hd : decode (sy_mi y).2.1 pc = .ok (.invokestatic k, 3)) (hn : nx = pc + 3) (hX : sy_X ad A M0 s) (hR : sy_Rm R cells slots) (h : sy_op (.invokestatic k) nx tg z (sy_mi y) pc ls st M = some res) (go : sy_Go p l e R s m args below meth c cells slots Q y D cI cS ad A M0 M res) : sy_K p l e R s m args below meth c cells slots Q y D cI cS ad A M0 (pc, ls, st, M) := by
  have C0 := C
  obtain ⟨hx, hb, hml, hown, hts, hK, hN⟩ := C
  simp only [sy_op] at h
  split at h
  · rename_i y' kd ek
    cases zk : Nat.beq kd 2 with
    | true =>
      rw [zk] at h
      have hk0 : kd = 2 := Nat.eq_of_beq_eq_true zk
      subst hk0
      dsimp only [cond] at h
      split at h
      · rename_i n dp q1 sp q0 r
        split at h
        · rename_i na nb e1 e2
          cases z : Nat.ble (sy_cs r) 8 with
          | false => rw [z] at h; cases h
          | true =>
            rw [z] at h
            cases h; subst hn
            intro H locs a w S hl
            obtain ⟨⟨g1, g2, g3⟩, g4, g5⟩ := of_decide_eq_true go.1
            have hl0 : Cond.methodLink (sy_ci (sy_mi y).2.2.2.2.1).1 k arraycopyName ∈ sy_gT := (sy_kAll (sy_mi y).2.2.2.2.1).2.2.1 _ (List.mem_map.mpr ⟨_, List.mem_filter.mpr ⟨sy_as_mem _ _ _ ek, rfl⟩, rfl⟩)
            have hq := sy_nt_lt e2
            have hc8 : ((r.map (sy_cv ad)).map fun v => v.category).sum ≤ 8 := by rw [sy_cs_sum]; exact Nat.le_of_ble_eq_true z
            have hnw : nativeFrameWords "java/lang/System" "arraycopy" 5 + 11 ≤ 100 := by decide +kernel
            refine va_copyi hx hb (hml.trans hl.1.symm) hown (hts _ hl0) (hts _ (sy_jw _ (by simp))) (hts _ (sy_jw _ (by simp))) (hts _ (sy_jw _ (by simp))) hK w.1 (sy_wsD hA cI cS M) S q0 q1 0 0 (sy_ws_at e1) (sy_ws_at e2) rfl rfl rfl g1 g2 g3 g4 g5 (fun _ _ => rfl) (by have := hR.1; omega) (by have := hR.2.1; omega) hd (fun H1 locs1 hP1 _ hS1 => ?_)
            refine go.2 H1 locs1 a ⟨?_, ?_, ?_⟩ hS1 hl
            · have e5 := sy_ws_set (ad := ad) (cI := cI) (cS := cS) (M := M) e2 (va_cpy (M q0) (M q1) sp.toNatClampNeg dp.toNatClampNeg n.toNatClampNeg)
              have e6 : sy_ce ad cI cS (va_cpy (M q0) (M q1) sp.toNatClampNeg dp.toNatClampNeg n.toNatClampNeg) (.inr (.inl nb)) = .inl (cI, nb, .inl (va_cpy (M q0) (M q1) sp.toNatClampNeg dp.toNatClampNeg n.toNatClampNeg)) := rfl
              rw [e6] at e5
              rw [e5] at hP1
              exact hP1
            · exact (sy_row_n (by omega)).trans w.2.1
            · exact (sy_row_n (by omega)).trans w.2.2
        · cases h
      · cases h
    | false =>
      rw [zk] at h
      dsimp only [cond] at h
      cases zk3 : Nat.beq kd 3 with
      | true =>
        rw [zk3] at h
        have hk0 : kd = 3 := Nat.eq_of_beq_eq_true zk3
        subst hk0
        dsimp only [cond] at h
        split at h
        · rename_i v u r
          cases z : Nat.ble (sy_cs r) 8 with
          | false => rw [z] at h; cases h
          | true =>
            rw [z] at h
            cases h; subst hn
            intro H locs a w S hl
            have hl0 : Cond.methodLink (sy_ci (sy_mi y).2.2.2.2.1).1 k Lib.Math.min.name ∈ sy_gT := (sy_kAll (sy_mi y).2.2.2.2.1).2.2.1 _ (List.mem_map.mpr ⟨_, List.mem_filter.mpr ⟨sy_as_mem _ _ _ ek, rfl⟩, rfl⟩)
            have hc8 : ((r.map (sy_cv ad)).map fun v => v.category).sum ≤ 8 := by rw [sy_cs_sum]; exact Nat.le_of_ble_eq_true z
            exact va_mmin hx hb (hml.trans hl.1.symm) hown (hts _ hl0) (hts _ (sy_jw _ (by simp))) (hts _ (sy_jw _ (by simp))) (hts _ (sy_jw _ (by simp))) (by have := hR.1; omega) (by have := hR.2.1; omega) hR.2.2.1 hR.2.2.2 hd (go H locs a w S hl)
        · cases h
      | false =>
        rw [zk3] at h
        dsimp only [cond] at h
        split at h
        · rename_i as r ep
          obtain ⟨h11, hb1, hcs, hcm, rfl⟩ := sy_call_spec h
          obtain ⟨d, r1, M2, hfr, hlo, hM, kk⟩ := go hcm h11
          subst hn
          intro H locs a w S hl
          obtain ⟨bs, e1, e2, e3⟩ := sy_pop_spec _ _ _ _ _ ep
          rw [List.append_nil] at e1
          subst e1
          have hw1 := hts _ (sy_goodW h11 (.static (sy_mi y').2.2.2.2.2.2.2) (by simp [sy_wl, hb1]))
          cases zk1 : Nat.beq kd 1 with
          | true =>
            have hk1 : kd = 1 := Nat.eq_of_beq_eq_true zk1
            subst hk1
            have hl0 : Cond.methodLinkNest (sy_ci (sy_mi y).2.2.2.2.1).1 k (sy_mi y').2.2.2.2.2.2.2 "LuckyStolen" ∈ sy_nl := (sy_kAll (sy_mi y).2.2.2.2.1).2.2.2.1 _ (List.mem_map.mpr ⟨_, List.mem_filter.mpr ⟨sy_as_mem _ _ _ ek, rfl⟩, rfl⟩)
            have hcb := sy_callN (R := R) C0 (y' := y') (d := d) (k := k) h11 hfr hlo (hN _ hl0)
            have hr := va_runSN (As := as.map (sy_cv ad)) (rest := r.map (sy_cv ad)) (g := F0 m pc a (st.map (sy_cv ad))) (H := H) (locs := locs) (cells := cells) (slots := slots) (below := below) (meth := meth) (e := e) ⟨hx, hb, hml, hown, hts⟩ (hM D cI cS ad ⟨hA.1, fun i hi => ⟨i, hi, rfl⟩⟩) ⟨hcb, hw1, trivial⟩ ⟨sy_blind, fun U hU hW => sy_pre C0 hA hX w S hU hW⟩ rfl (by rw [List.length_map]; exact e2) hl.1 (by show st.map (sy_cv ad) = _; rw [e3]; simp) (lv_room (by rw [sy_cs_sum]; exact hcs)) hd ⟨hR.2.2.1, hR.2.2.2⟩
            exact sy_cont hA hr w S hl kk
          | false =>
            have hmc : sy_mc (sy_ci (sy_mi y).2.2.2.2.1).1 (k, y', kd) = Cond.methodLink (sy_ci (sy_mi y).2.2.2.2.1).1 k (sy_mi y').2.2.2.2.2.2.2 := by
              unfold sy_mc
              dsimp only
              rw [zk, zk3]; rfl
            have hl0 : Cond.methodLink (sy_ci (sy_mi y).2.2.2.2.1).1 k (sy_mi y').2.2.2.2.2.2.2 ∈ sy_gT := by
              rw [← hmc]
              exact (sy_kAll (sy_mi y).2.2.2.2.1).2.2.1 _ (List.mem_map.mpr ⟨_, List.mem_filter.mpr ⟨sy_as_mem _ _ _ ek, by rw [zk1]; rfl⟩, rfl⟩)
            have hcb := sy_callB (R := R) C0 (y' := y') (d := d) (k := k) h11 hfr hlo (hts _ hl0)
            have hr := va_runS (As := as.map (sy_cv ad)) (rest := r.map (sy_cv ad)) (g := F0 m pc a (st.map (sy_cv ad))) (H := H) (locs := locs) (cells := cells) (slots := slots) (below := below) (meth := meth) (e := e) ⟨hx, hb, hml, hown, hts⟩ (hM D cI cS ad ⟨hA.1, fun i hi => ⟨i, hi, rfl⟩⟩) ⟨hcb, hw1⟩ ⟨sy_blind, fun U hU hW => sy_pre C0 hA hX w S hU hW⟩ rfl (by rw [List.length_map]; exact e2) hl.1 (by show st.map (sy_cv ad) = _; rw [e3]; simp) (lv_room (by rw [sy_cs_sum]; exact hcs)) hd ⟨hR.2.2.1, hR.2.2.2⟩
            exact sy_cont hA hr w S hl kk
        · cases h
  · cases h
theorem sy_s_ireturn  (C : sy_C p s m args c y D cI cS) (hA : sy_ad ad A) (hd : decode (sy_mi y).2.1 pc = .ok (.ireturn, 1)) (hn : nx = pc + 1) (h : sy_op (.ireturn) nx tg z (sy_mi y) pc ls st M = some res) (go : sy_Go p l e R s m args below meth c cells slots Q y D cI cS ad A M0 M res) : sy_K p l e R s m args below meth c cells slots Q y D cI cS ad A M0 (pc, ls, st, M) := by
  obtain ⟨hx, hb, hml, hown, hts, hK, hN⟩ := C
  simp only [sy_op] at h
  split at h
  · rename_i v
    split at h
    · rename_i e
      cases h
      intro H locs a w S hl
      exact go.2 H locs a pc ⟨hd, Or.inl e⟩ w S
    · rename_i e
      cases h
      intro H locs a w S hl
      exact go.2 H locs a pc ⟨hd, Or.inr ⟨e, of_decide_eq_true go.1⟩⟩ w S
    · cases h
  · cases h
theorem sy_s_lreturn  (C : sy_C p s m args c y D cI cS) (hA : sy_ad ad A) (hd : decode (sy_mi y).2.1 pc = .ok (.lreturn, 1)) (hn : nx = pc + 1) (h : sy_op (.lreturn) nx tg z (sy_mi y) pc ls st M = some res) (go : sy_Go p l e R s m args below meth c cells slots Q y D cI cS ad A M0 M res) : sy_K p l e R s m args below meth c cells slots Q y D cI cS ad A M0 (pc, ls, st, M) := by
  obtain ⟨hx, hb, hml, hown, hts, hK, hN⟩ := C
  simp only [sy_op] at h
  split at h
  · rename_i v
    split at h
    · rename_i e
      cases h
      intro H locs a w S hl
      exact go.2 H locs a pc ⟨hd, e⟩ w S
    · cases h
  · cases h
theorem sy_s_return_  (C : sy_C p s m args c y D cI cS) (hA : sy_ad ad A) (hd : decode (sy_mi y).2.1 pc = .ok (.return_, 1)) (hn : nx = pc + 1) (h : sy_op (.return_) nx tg z (sy_mi y) pc ls st M = some res) (go : sy_Go p l e R s m args below meth c cells slots Q y D cI cS ad A M0 M res) : sy_K p l e R s m args below meth c cells slots Q y D cI cS ad A M0 (pc, ls, st, M) := by
  obtain ⟨hx, hb, hml, hown, hts, hK, hN⟩ := C
  simp only [sy_op] at h
  split at h
  · split at h
    · rename_i e
      cases h
      intro H locs a w S hl
      exact go.2 H locs a pc ⟨hd, e⟩ w S
    · cases h
  · cases h
end SYT
end
section
section SYM
variable {p : Program} {l : Launch} {e : Env} {R : Room} {s : State} {m : MethodId} {args : Array Value} {below : List Frame} {meth : Method} {c : Code} {cells slots : Nat} {Q : State → Prop} {y : Nat} {D : va_G} {cI cS : ClassId} {ad : Nat → Nat} {A : Nat → Prop} {M0 : sy_Mm} {pc nx tg : Nat} {z : Int32} {ls : sy_Lo} {st : List Value} {M : sy_Mm} {res : sy_Rs}
theorem sy_snd (C : sy_C p s m args c y D cI cS) (hA : sy_ad ad A) (hX : sy_X ad A M0 s) (hR : sy_Rm R cells slots) {i : Instr} (hlk : sy_lk (sy_mi y).1 pc = some (i, nx, tg, z)) (h : sy_op i nx tg z (sy_mi y) pc ls st M = some res) (go : sy_Go p l e R s m args below meth c cells slots Q y D cI cS ad A M0 M res) : sy_K p l e R s m args below meth c cells slots Q y D cI cS ad A M0 (pc, ls, st, M) := by
  obtain ⟨hd, hlt, ht, hlen⟩ := sy_dec hlk
  cases i
  case tableswitch dflt lo hi offs => exact sy_s_tableswitch C hd h go
  case iconst n =>
    have hn : nx = pc + 1 := hlen.resolve_left (fun q => by cases q)
    have e9 : nx - pc = 1 := by omega
    rw [e9] at hd
    exact sy_s_iconst C hd hn ht h go
  case bipush n =>
    have hn : nx = pc + 2 := hlen.resolve_left (fun q => by cases q)
    have e9 : nx - pc = 2 := by omega
    rw [e9] at hd
    exact sy_s_bipush C hd hn ht h go
  case sipush n =>
    have hn : nx = pc + 3 := hlen.resolve_left (fun q => by cases q)
    have e9 : nx - pc = 3 := by omega
    rw [e9] at hd
    exact sy_s_sipush C hd hn ht h go
  case iinc k n =>
    have hn : nx = pc + 3 := hlen.resolve_left (fun q => by cases q)
    have e9 : nx - pc = 3 := by omega
    rw [e9] at hd
    exact sy_s_iinc C hd hn ht h go
  case goto off =>
    have hn : nx = pc + 3 := hlen.resolve_left (fun q => by cases q)
    have e9 : nx - pc = 3 := by omega
    rw [e9] at hd
    exact sy_s_goto C hd hn ht h go
  case lconst n =>
    have hn : nx = pc + 1 := hlen.resolve_left (fun q => by cases q)
    have e9 : nx - pc = 1 := by omega
    rw [e9] at hd
    exact sy_s_lconst C hd hn h go
  case ldc k =>
    have hn : nx = pc + 2 := hlen.resolve_left (fun q => by cases q)
    have e9 : nx - pc = 2 := by omega
    rw [e9] at hd
    exact sy_s_ldc C hd hn h go
  case ldc_w k =>
    have hn : nx = pc + 3 := hlen.resolve_left (fun q => by cases q)
    have e9 : nx - pc = 3 := by omega
    rw [e9] at hd
    exact sy_s_ldc_w C hd hn h go
  case ldc2_w k =>
    have hn : nx = pc + 3 := hlen.resolve_left (fun q => by cases q)
    have e9 : nx - pc = 3 := by omega
    rw [e9] at hd
    exact sy_s_ldc2_w C hd hn h go
  case iload k =>
    have hn : nx = pc + 2 := hlen.resolve_left (fun q => by cases q)
    have e9 : nx - pc = 2 := by omega
    rw [e9] at hd
    exact sy_s_iload C hd hn h go
  case lload k =>
    have hn : nx = pc + 2 := hlen.resolve_left (fun q => by cases q)
    have e9 : nx - pc = 2 := by omega
    rw [e9] at hd
    exact sy_s_lload C hd hn h go
  case aload k =>
    have hn : nx = pc + 2 := hlen.resolve_left (fun q => by cases q)
    have e9 : nx - pc = 2 := by omega
    rw [e9] at hd
    exact sy_s_aload C hd hn h go
  case istore k =>
    have hn : nx = pc + 2 := hlen.resolve_left (fun q => by cases q)
    have e9 : nx - pc = 2 := by omega
    rw [e9] at hd
    exact sy_s_istore C hd hn h go
  case lstore k =>
    have hn : nx = pc + 2 := hlen.resolve_left (fun q => by cases q)
    have e9 : nx - pc = 2 := by omega
    rw [e9] at hd
    exact sy_s_lstore C hd hn h go
  case astore k =>
    have hn : nx = pc + 2 := hlen.resolve_left (fun q => by cases q)
    have e9 : nx - pc = 2 := by omega
    rw [e9] at hd
    exact sy_s_astore C hd hn h go
  case iload_n k =>
    have hn : nx = pc + 1 := hlen.resolve_left (fun q => by cases q)
    have e9 : nx - pc = 1 := by omega
    rw [e9] at hd
    exact sy_s_iload_n C hd hn h go
  case lload_n k =>
    have hn : nx = pc + 1 := hlen.resolve_left (fun q => by cases q)
    have e9 : nx - pc = 1 := by omega
    rw [e9] at hd
    exact sy_s_lload_n C hd hn h go
  case aload_n k =>
    have hn : nx = pc + 1 := hlen.resolve_left (fun q => by cases q)
    have e9 : nx - pc = 1 := by omega
    rw [e9] at hd
    exact sy_s_aload_n C hd hn h go
  case istore_n k =>
    have hn : nx = pc + 1 := hlen.resolve_left (fun q => by cases q)
    have e9 : nx - pc = 1 := by omega
    rw [e9] at hd
    exact sy_s_istore_n C hd hn h go
  case lstore_n k =>
    have hn : nx = pc + 1 := hlen.resolve_left (fun q => by cases q)
    have e9 : nx - pc = 1 := by omega
    rw [e9] at hd
    exact sy_s_lstore_n C hd hn h go
  case astore_n k =>
    have hn : nx = pc + 1 := hlen.resolve_left (fun q => by cases q)
    have e9 : nx - pc = 1 := by omega
    rw [e9] at hd
    exact sy_s_astore_n C hd hn h go
  case iadd  =>
    have hn : nx = pc + 1 := hlen.resolve_left (fun q => by cases q)
    have e9 : nx - pc = 1 := by omega
    rw [e9] at hd
    exact sy_s_iadd C hd hn h go
  case isub  =>
    have hn : nx = pc + 1 := hlen.resolve_left (fun q => by cases q)
    have e9 : nx - pc = 1 := by omega
    rw [e9] at hd
    exact sy_s_isub C hd hn h go
  case imul  =>
    have hn : nx = pc + 1 := hlen.resolve_left (fun q => by cases q)
    have e9 : nx - pc = 1 := by omega
    rw [e9] at hd
    exact sy_s_imul C hd hn h go
  case iand  =>
    have hn : nx = pc + 1 := hlen.resolve_left (fun q => by cases q)
    have e9 : nx - pc = 1 := by omega
    rw [e9] at hd
    exact sy_s_iand C hd hn h go
  case ior  =>
    have hn : nx = pc + 1 := hlen.resolve_left (fun q => by cases q)
    have e9 : nx - pc = 1 := by omega
    rw [e9] at hd
    exact sy_s_ior C hd hn h go
  case ixor  =>
    have hn : nx = pc + 1 := hlen.resolve_left (fun q => by cases q)
    have e9 : nx - pc = 1 := by omega
    rw [e9] at hd
    exact sy_s_ixor C hd hn h go
  case ishl  =>
    have hn : nx = pc + 1 := hlen.resolve_left (fun q => by cases q)
    have e9 : nx - pc = 1 := by omega
    rw [e9] at hd
    exact sy_s_ishl C hd hn h go
  case ishr  =>
    have hn : nx = pc + 1 := hlen.resolve_left (fun q => by cases q)
    have e9 : nx - pc = 1 := by omega
    rw [e9] at hd
    exact sy_s_ishr C hd hn h go
  case iushr  =>
    have hn : nx = pc + 1 := hlen.resolve_left (fun q => by cases q)
    have e9 : nx - pc = 1 := by omega
    rw [e9] at hd
    exact sy_s_iushr C hd hn h go
  case ladd  =>
    have hn : nx = pc + 1 := hlen.resolve_left (fun q => by cases q)
    have e9 : nx - pc = 1 := by omega
    rw [e9] at hd
    exact sy_s_ladd C hd hn h go
  case lsub  =>
    have hn : nx = pc + 1 := hlen.resolve_left (fun q => by cases q)
    have e9 : nx - pc = 1 := by omega
    rw [e9] at hd
    exact sy_s_lsub C hd hn h go
  case lmul  =>
    have hn : nx = pc + 1 := hlen.resolve_left (fun q => by cases q)
    have e9 : nx - pc = 1 := by omega
    rw [e9] at hd
    exact sy_s_lmul C hd hn h go
  case lcmp  =>
    have hn : nx = pc + 1 := hlen.resolve_left (fun q => by cases q)
    have e9 : nx - pc = 1 := by omega
    rw [e9] at hd
    exact sy_s_lcmp C hd hn h go
  case i2l  =>
    have hn : nx = pc + 1 := hlen.resolve_left (fun q => by cases q)
    have e9 : nx - pc = 1 := by omega
    rw [e9] at hd
    exact sy_s_i2l C hd hn h go
  case i2b  =>
    have hn : nx = pc + 1 := hlen.resolve_left (fun q => by cases q)
    have e9 : nx - pc = 1 := by omega
    rw [e9] at hd
    exact sy_s_i2b C hd hn h go
  case i2s  =>
    have hn : nx = pc + 1 := hlen.resolve_left (fun q => by cases q)
    have e9 : nx - pc = 1 := by omega
    rw [e9] at hd
    exact sy_s_i2s C hd hn h go
  case idiv  =>
    have hn : nx = pc + 1 := hlen.resolve_left (fun q => by cases q)
    have e9 : nx - pc = 1 := by omega
    rw [e9] at hd
    exact sy_s_idiv C hd hn h go
  case irem  =>
    have hn : nx = pc + 1 := hlen.resolve_left (fun q => by cases q)
    have e9 : nx - pc = 1 := by omega
    rw [e9] at hd
    exact sy_s_irem C hd hn h go
  case ldiv  =>
    have hn : nx = pc + 1 := hlen.resolve_left (fun q => by cases q)
    have e9 : nx - pc = 1 := by omega
    rw [e9] at hd
    exact sy_s_ldiv C hd hn h go
  case lrem  =>
    have hn : nx = pc + 1 := hlen.resolve_left (fun q => by cases q)
    have e9 : nx - pc = 1 := by omega
    rw [e9] at hd
    exact sy_s_lrem C hd hn h go
  case dup  =>
    have hn : nx = pc + 1 := hlen.resolve_left (fun q => by cases q)
    have e9 : nx - pc = 1 := by omega
    rw [e9] at hd
    exact sy_s_dup C hd hn h go
  case dup2  =>
    have hn : nx = pc + 1 := hlen.resolve_left (fun q => by cases q)
    have e9 : nx - pc = 1 := by omega
    rw [e9] at hd
    exact sy_s_dup2 C hd hn h go
  case pop  =>
    have hn : nx = pc + 1 := hlen.resolve_left (fun q => by cases q)
    have e9 : nx - pc = 1 := by omega
    rw [e9] at hd
    exact sy_s_pop C hd hn h go
  case getfield k =>
    have hn : nx = pc + 3 := hlen.resolve_left (fun q => by cases q)
    have e9 : nx - pc = 3 := by omega
    rw [e9] at hd
    exact sy_s_getfield C hA hd hn h go
  case putfield k =>
    have hn : nx = pc + 3 := hlen.resolve_left (fun q => by cases q)
    have e9 : nx - pc = 3 := by omega
    rw [e9] at hd
    exact sy_s_putfield C hA hd hn h go
  case iastore  =>
    have hn : nx = pc + 1 := hlen.resolve_left (fun q => by cases q)
    have e9 : nx - pc = 1 := by omega
    rw [e9] at hd
    exact sy_s_iastore C hA hd hn h go
  case aaload  =>
    have hn : nx = pc + 1 := hlen.resolve_left (fun q => by cases q)
    have e9 : nx - pc = 1 := by omega
    rw [e9] at hd
    exact sy_s_aaload C hA hd hn h go
  case ireturn  =>
    have hn : nx = pc + 1 := hlen.resolve_left (fun q => by cases q)
    have e9 : nx - pc = 1 := by omega
    rw [e9] at hd
    exact sy_s_ireturn C hA hd hn h go
  case lreturn  =>
    have hn : nx = pc + 1 := hlen.resolve_left (fun q => by cases q)
    have e9 : nx - pc = 1 := by omega
    rw [e9] at hd
    exact sy_s_lreturn C hA hd hn h go
  case return_  =>
    have hn : nx = pc + 1 := hlen.resolve_left (fun q => by cases q)
    have e9 : nx - pc = 1 := by omega
    rw [e9] at hd
    exact sy_s_return_ C hA hd hn h go
  case iaload  =>
    have hn : nx = pc + 1 := hlen.resolve_left (fun q => by cases q)
    have e9 : nx - pc = 1 := by omega
    rw [e9] at hd
    exact sy_s_iaload C hA hd hn hX h go
  case arraylength  =>
    have hn : nx = pc + 1 := hlen.resolve_left (fun q => by cases q)
    have e9 : nx - pc = 1 := by omega
    rw [e9] at hd
    exact sy_s_arraylength C hA hd hn hX h go
  case invokevirtual k =>
    have hn : nx = pc + 3 := hlen.resolve_left (fun q => by cases q)
    have e9 : nx - pc = 3 := by omega
    rw [e9] at hd
    exact sy_s_invokevirtual C hA hd hn hX hR h go
  case invokestatic k =>
    have hn : nx = pc + 3 := hlen.resolve_left (fun q => by cases q)
    have e9 : nx - pc = 3 := by omega
    rw [e9] at hd
    exact sy_s_invokestatic C hA hd hn hX hR h go
  case ifCond cnd off =>
    have hn : nx = pc + 3 := hlen.resolve_left (fun q => by cases q)
    have e9 : nx - pc = 3 := by omega
    rw [e9] at hd
    cases cnd
    · exact sy_s_if_eq C hd hn ht h go
    · exact sy_s_if_ne C hd hn ht h go
    · exact sy_s_if_lt C hd hn ht h go
    · exact sy_s_if_ge C hd hn ht h go
    · exact sy_s_if_gt C hd hn ht h go
    · exact sy_s_if_le C hd hn ht h go

  case if_icmp cnd off =>
    have hn : nx = pc + 3 := hlen.resolve_left (fun q => by cases q)
    have e9 : nx - pc = 3 := by omega
    rw [e9] at hd
    cases cnd
    · exact sy_s_icmp_eq C hd hn ht h go
    · exact sy_s_icmp_ne C hd hn ht h go
    · exact sy_s_icmp_lt C hd hn ht h go
    · exact sy_s_icmp_ge C hd hn ht h go
    · exact sy_s_icmp_gt C hd hn ht h go
    · exact sy_s_icmp_le C hd hn ht h go

  all_goals cases h
theorem sy_step_spec (h : sy_step y pc ls st M = some res) : ∃ (i : Instr) (nx tg : Nat) (z : Int32), sy_lk (sy_mi y).1 pc = some (i, nx, tg, z) ∧ sy_op i nx tg z (sy_mi y) pc ls st M = some res := by
  unfold sy_step at h
  split at h
  · cases h
  · rename_i i nx tg z e
    exact ⟨i, nx, tg, z, e, h⟩
end SYM
/-- a method's contract out of its run in the small machine, where the frame's law is given -/
def sy_FLp (l : Launch) (n : Nat) : Prop := ∀ (d y pc : Nat) (ls : sy_Lo) (st : List Value) (M : sy_Mm) (r : Option Value) (M' : sy_Mm), sy_run n d y pc ls st M = some (r, M') → ∀ (p : Program) (e : Env) (R : Room) (s : State) (m : MethodId) (args : Array Value) (below : List Frame) (meth : Method) (c : Code) (cells slots : Nat) (Q : State → Prop) (D : va_G) (cI cS : ClassId) (ad : Nat → Nat) (A : Nat → Prop) (M0 : sy_Mm), sy_C p s m args c y D cI cS → sy_ad ad A → sy_X ad A M0 s → d + 2 ≤ R.frames → 64 * (d + 2) ≤ R.locals → cells ≤ R.cells → slots ≤ R.slots → sy_Ex p l e R s m args below meth c cells slots Q y D cI cS ad A M0 r M' → sy_K p l e R s m args below meth c cells slots Q y D cI cS ad A M0 (pc, ls, st, M)
theorem sy_hl_entry {ad : Nat → Nat} {as : List Value} {n : Nat} (h : sy_cs as ≤ n) : sy_hl ad ((lg_sl (as.map (sy_cv ad)) ++ List.replicate (n - (lg_sl (as.map (sy_cv ad))).length) Slot.unset).toArray) n (sy_pad (sy_ent as) n) := by
  have hl := lv_entry (as.map (sy_cv ad)) (n := n) (by rw [sy_cs_len]; exact h)
  refine ⟨hl.1, hl.2.1, fun k v hk => ?_⟩
  have h1 := sy_ent_get ad as 0 k v (sy_pad_get _ _ _ _ hk)
  rw [Nat.zero_add] at h1
  exact hl.2.2 _ h1
theorem sy_met {l : Launch} {n : Nat} (FL : sy_FLp l n) {d y : Nat} {as : List Value} {M : sy_Mm} {r : Option Value} {M' : sy_Mm} (h11 : ¬ (sy_mi y).2.2.2.2.1 = 11) (hcs : sy_cs as ≤ (sy_mi y).2.2.1) (h : sy_run n d y 0 (sy_en y as) [] M = some (r, M')) : sy_Mt l d y as M r M' := by
  intro D cI cS ad hA
  obtain ⟨⟨o1, o2⟩, o3, o4, o5, o6, o7⟩ := sy_mOK y
  refine Met.ofW (cc := (sy_mi y).2.1) (maxL := (sy_mi y).2.2.1) (ret := (sy_mi y).2.2.2.1) o4 rfl ?_
  intro p e s m args below meth c s₁ B hml hv
  obtain ⟨rfl, hP, hK, hN, hX⟩ := hv
  have hx := B.exec
  have hb := B.bytes
  have hr := B.returns
  have hts := atoms_spec (ws := sy_wd y) B.pre
  have hown : s.vm.findClass (sy_mi y).2.2.2.2.2.2.2.cls = some m.cls := findClass_of_methodNamed B.named
  have hlocks := B.notSynchronized
  have C : sy_C p s m (as.map (sy_cv ad)).toArray c y D cI cS := ⟨hx, hb, hml, by rw [o6]; exact hown, fun w hw => hts w (List.mem_cons_of_mem _ hw), hK, hN⟩
  rw [lg_entry_eq]
  refine FL d y 0 (sy_en y as) [] M r M' h p e (headSpec (sy_wd y) (sy_rm d)).room s m _ below meth c 0 0 _ D cI cS ad (sy_in2 ad) M C hA hX (Nat.le_refl _) (Nat.le_refl _) (Nat.zero_le _) (Nat.zero_le _) ?_ s.heap [] _ ⟨hP, rfl, rfl⟩ va_S.rf (sy_hl_entry hcs)
  intro H locs a pc hrt w S
  have post : ∀ (v : Option Value) (t : State), v = r → t.heap = H → sy_Qc D cI cS ad M r M' (as.map (sy_cv ad)).toArray s (.returned (v.map (sy_cv ad))) t := fun v t hv ht => ⟨by rw [hv], ⟨by rw [ht]; exact w.1, w.2⟩, S.F ht⟩
  match r, hrt, post with
  | some (.int x), hrt, post =>
    obtain ⟨hd, hk | ⟨hk, hz⟩⟩ := hrt
    · exact W.iret (v := x) hx hb (hr.trans hk) (fun t ht _ => post (some (.int x)) t rfl ht) (fun q hq => S.2.2 q hq) hd
    · refine W.zret (v := x) (ty := .boolean) hx hb (hr.trans hk) ?_ (fun t ht _ => post (some (.int x)) t rfl ht) (fun q hq => S.2.2 q hq) hd
      rcases hz with rfl | rfl <;> decide +kernel
  | some (.long x), hrt, post => exact W.lret (v := x) hx hb (hr.trans hrt.2) (fun t ht _ => post (some (.long x)) t rfl ht) (fun q hq => S.2.2 q hq) hrt.1
  | none, hrt, post => exact W.vret hx hb (hr.trans hrt.2) (fun t ht _ => post none t rfl ht) (fun q hq => S.2.2 q hq) hrt.1
  | some (.float _), hrt, post => exact hrt.elim
  | some (.double _), hrt, post => exact hrt.elim
  | some .null, hrt, post => exact hrt.elim
  | some (.ref _), hrt, post => exact hrt.elim
  | some (.retAddr _), hrt, post => exact hrt.elim
theorem sy_FL (l : Launch) : ∀ n : Nat, sy_FLp l n := by
  intro n
  induction n with
  | zero => intro d y pc ls st M r M' h; simp [sy_run] at h
  | succ n ih =>
    intro d y pc ls st M r M' h p e R s m args below meth c cells slots Q D cI cS ad A M0 C hA hX h1 h2 h3 h4 hEx
    have hR : sy_Rm R cells slots := ⟨by omega, by omega, h3, h4⟩
    unfold sy_run at h
    cases hs : sy_step y pc ls st M with
    | none => rw [hs] at h; cases h
    | some res =>
      rw [hs] at h
      obtain ⟨i, nx, tg, z, hlk, hop⟩ := sy_step_spec hs
      refine sy_snd C hA hX hR hlk hop ?_
      rcases res with ⟨pc', ls', st', M1⟩ | ⟨b, pc', ls', st', M1⟩ | ⟨b, t, pc', ls', st', M1⟩ | ⟨y', as, pc', ls', st', M1⟩ | ⟨b, v⟩
      · exact ih d y pc' ls' st' M1 r M' h p e R s m args below meth c cells slots Q D cI cS ad A M0 C hA hX h1 h2 h3 h4 hEx
      · cases b
        · cases h
        · exact ⟨rfl, ih d y pc' ls' st' M1 r M' h p e R s m args below meth c cells slots Q D cI cS ad A M0 C hA hX h1 h2 h3 h4 hEx⟩
      · cases b
        · exact ⟨fun q => (by cases q), fun _ => ih d y pc' ls' st' M1 r M' h p e R s m args below meth c cells slots Q D cI cS ad A M0 C hA hX h1 h2 h3 h4 hEx⟩
        · exact ⟨fun _ => ih d y t ls' st' M1 r M' h p e R s m args below meth c cells slots Q D cI cS ad A M0 C hA hX h1 h2 h3 h4 hEx, fun q => (by cases q)⟩
      · cases d with
        | zero => cases h
        | succ d =>
          dsimp only at h
          cases q : sy_run n d y' 0 (sy_en y' as) [] M1 with
          | none => rw [q] at h; cases h
          | some w =>
            rw [q] at h
            obtain ⟨r1, M2⟩ := w
            intro hcm h11
            exact ⟨d, r1, M2, by omega, by omega, sy_met ih h11 hcm q, ih (d + 1) y pc' ls' (r1.toList ++ st') M2 r M' h p e R s m args below meth c cells slots Q D cI cS ad A M0 C hA hX h1 h2 h3 h4 hEx⟩
      · cases b
        · cases h
        · cases h
          exact ⟨rfl, hEx⟩
end
section
/-! what lies beyond the cells (the script) no run changes -/
def rsM : sy_Rs → Option sy_Mm
  | .inl N => some N.2.2.2
  | .inr (.inl (_, N)) => some N.2.2.2
  | .inr (.inr (.inl (_, _, N))) => some N.2.2.2
  | .inr (.inr (.inr (.inl (_, _, N)))) => some N.2.2.2
  | .inr (.inr (.inr (.inr _))) => none
theorem sy_fld_lt {a ci j : Nat} {o : Option Nat} (h : sy_fld a ci j = some o) : a < 46 := by
  obtain ⟨fs, C, T, N, h1, -⟩ := sy_fld_spec h
  exact sy_nt_lt h1
theorem sy_op_keep {i : Instr} {nx tg : Nat} {z : Int32} {mi : sy_MI} {pc : Nat} {ls : sy_Lo} {st : List Value} {M : sy_Mm} {res : sy_Rs} (h : sy_op i nx tg z mi pc ls st M = some res) : ∀ N, rsM res = some N → ∀ k, 46 ≤ k → N k = M k := by
  intro N hN k hk
  cases i
  case putfield q =>
    simp only [sy_op] at h
    split at h
    · split at h
      · split at h
        · rename_i e
          cases h; cases hN
          have := sy_fld_lt e
          exact sy_row_n (by omega)
        · cases h
      · cases h
    · cases h
  case iastore =>
    simp only [sy_op] at h
    split at h
    · split at h
      · rename_i e
        cases h; cases hN
        have := sy_nt_lt e
        exact sy_row_n (by omega)
      · cases h
    · cases h
  case invokestatic q =>
    simp only [sy_op] at h
    split at h
    · rename_i y' kd ek
      cases zk : Nat.beq kd 2 with
      | true =>
        rw [zk] at h
        dsimp only [cond] at h
        split at h
        · split at h
          · rename_i e1 e2
            split at h
            · cases h; cases hN
              have := sy_nt_lt e2
              exact sy_row_n (by omega)
            · cases h
          · cases h
        · cases h
      | false =>
        rw [zk] at h
        dsimp only [cond] at h
        cases zk3 : Nat.beq kd 3 with
        | true =>
          rw [zk3] at h
          dsimp only [cond] at h
          split at h
          · split at h
            · cases h; cases hN; rfl
            · cases h
          · cases h
        | false =>
          rw [zk3] at h
          dsimp only [cond] at h
          split at h
          · obtain ⟨-, -, -, -, rfl⟩ := sy_call_spec h
            cases hN; rfl
          · cases h
    · cases h
  case invokevirtual q =>
    simp only [sy_op] at h
    split at h
    · rename_i y' kd ek
      cases zk : Nat.beq kd 0 with
      | false => rw [zk] at h; cases h
      | true =>
        rw [zk] at h
        dsimp only [cond] at h
        split at h
        · obtain ⟨-, -, -, -, rfl⟩ := sy_call_spec h
          cases hN; rfl
        · cases h
    · cases h
  case ifCond c off => cases c <;> simp only [sy_op] at h <;> split at h <;> first | (cases h; cases hN; rfl) | cases h
  case if_icmp c off => cases c <;> simp only [sy_op] at h <;> split at h <;> first | (cases h; cases hN; rfl) | cases h
  case lconst n =>
    match n, h with
    | ⟨0, _⟩, h => cases h; cases hN; rfl
    | ⟨1, _⟩, h => cases h; cases hN; rfl
  all_goals first | (cases h; done) | (cases h; cases hN; rfl) | (simp only [sy_op, sy_ld1, sy_ld2, sy_lda, sy_st1, sy_st2, sy_sta] at h; repeat' (split at h)) <;> first | (cases h; done) | (cases h; cases hN; rfl) | (cases h; cases hN; done) | (cases hc : Nat.blt _ _ <;> rw [hc] at h <;> first | (cases h; done) | (cases h; cases hN; rfl)) | (cases hc : Nat.beq _ 99 <;> rw [hc] at h <;> first | (cases h; done) | (cases h; cases hN; rfl)) | skip
theorem sy_run_keep : ∀ (n d y pc : Nat) (ls : sy_Lo) (st : List Value) (M : sy_Mm) (r : Option Value) (M' : sy_Mm), sy_run n d y pc ls st M = some (r, M') → ∀ k, 46 ≤ k → M' k = M k := by
  intro n
  induction n with
  | zero => intro d y pc ls st M r M' h; simp [sy_run] at h
  | succ n ih =>
    intro d y pc ls st M r M' h k hk
    unfold sy_run at h
    cases hs : sy_step y pc ls st M with
    | none => rw [hs] at h; cases h
    | some res =>
      rw [hs] at h
      obtain ⟨i, nx, tg, z, hlk, hop⟩ := sy_step_spec hs
      have hk1 := sy_op_keep hop
      rcases res with ⟨pc', ls', st', M1⟩ | ⟨b, pc', ls', st', M1⟩ | ⟨b, t, pc', ls', st', M1⟩ | ⟨y', as, pc', ls', st', M1⟩ | ⟨b, v⟩
      · exact (ih _ _ _ _ _ _ _ _ h k hk).trans (hk1 M1 rfl k hk)
      · cases b
        · cases h
        · exact (ih _ _ _ _ _ _ _ _ h k hk).trans (hk1 M1 rfl k hk)
      · cases b
        · exact (ih _ _ _ _ _ _ _ _ h k hk).trans (hk1 M1 rfl k hk)
        · exact (ih _ _ _ _ _ _ _ _ h k hk).trans (hk1 M1 rfl k hk)
      · cases d with
        | zero => cases h
        | succ d =>
          dsimp only at h
          cases q : sy_run n d y' 0 (sy_en y' as) [] M1 with
          | none => rw [q] at h; cases h
          | some w =>
            rw [q] at h
            obtain ⟨r1, M2⟩ := w
            exact ((ih _ _ _ _ _ _ _ _ h k hk).trans (ih _ _ _ _ _ _ _ _ q k hk)).trans (hk1 M1 rfl k hk)
      · cases b
        · cases h
        · cases h; rfl
theorem fr_keep {d y pc : Nat} {ls : sy_Lo} {st : List Value} {M : sy_Mm} {r : Option Value} {M' : sy_Mm} (h : Fr d y pc ls st M r M') : ∀ k, 46 ≤ k → M' k = M k := by
  obtain ⟨n, h⟩ := h
  exact sy_run_keep _ _ _ _ _ _ _ _ _ h
end
section
/-! ===== rules of a weakest precondition over the small machine ===== -/
def Fx (d y pc : Nat) (ls : sy_Lo) (st : List Value) (M : sy_Mm) (P : Option Value → sy_Mm → Prop) : Prop := ∃ r M', Fr d y pc ls st M r M' ∧ P r M'
def Ex (d y : Nat) (as : List Value) (M : sy_Mm) (P : Option Value → sy_Mm → Prop) : Prop := Fx d y 0 (sy_en y as) [] M P
section WP
variable {d y pc : Nat} {ls : sy_Lo} {st : List Value} {M : sy_Mm} {P : Option Value → sy_Mm → Prop} {pc' t : Nat} {ls' : sy_Lo} {st' : List Value} {M1 : sy_Mm}
theorem fx_n (h : sy_step y pc ls st M = some (.inl (pc', ls', st', M1))) (k : Fx d y pc' ls' st' M1 P) : Fx d y pc ls st M P := by
  obtain ⟨r, M', k, p⟩ := k
  exact ⟨r, M', fr_n h k, p⟩
theorem fx_g {B : Prop} {inst : Decidable B} (h : sy_step y pc ls st M = some (.inr (.inl (decide B, pc', ls', st', M1)))) (hB : B) (k : Fx d y pc' ls' st' M1 P) : Fx d y pc ls st M P := by
  obtain ⟨r, M', k, p⟩ := k
  exact ⟨r, M', fr_g h hB k, p⟩
theorem fx_b {B : Prop} {inst : Decidable B} (h : sy_step y pc ls st M = some (.inr (.inr (.inl (decide B, t, pc', ls', st', M1))))) (kt : B → Fx d y t ls' st' M1 P) (kf : ¬ B → Fx d y pc' ls' st' M1 P) : Fx d y pc ls st M P := by
  by_cases hB : B
  · obtain ⟨r, M', k, p⟩ := kt hB
    exact ⟨r, M', fr_b h (fun _ => k) (fun q => absurd hB q), p⟩
  · obtain ⟨r, M', k, p⟩ := kf hB
    exact ⟨r, M', fr_b h (fun q => absurd q hB) (fun _ => k), p⟩
theorem fx_bt {B : Prop} {inst : Decidable B} (h : sy_step y pc ls st M = some (.inr (.inr (.inl (decide B, t, pc', ls', st', M1))))) (hB : B) (k : Fx d y t ls' st' M1 P) : Fx d y pc ls st M P := fx_b h (fun _ => k) (fun q => absurd hB q)
theorem fx_bf {B : Prop} {inst : Decidable B} (h : sy_step y pc ls st M = some (.inr (.inr (.inl (decide B, t, pc', ls', st', M1))))) (hB : ¬ B) (k : Fx d y pc' ls' st' M1 P) : Fx d y pc ls st M P := fx_b h (fun q => absurd q hB) (fun _ => k)
theorem fx_c {y' : Nat} {as : List Value} {P1 : Option Value → sy_Mm → Prop} (h : sy_step y pc ls st M = some (.inr (.inr (.inr (.inl (y', as, pc', ls', st', M1)))))) (hc : Ex d y' as M1 P1) (k : ∀ r1 M2, P1 r1 M2 → Fx (d + 1) y pc' ls' (r1.toList ++ st') M2 P) : Fx (d + 1) y pc ls st M P := by
  obtain ⟨r1, M2, h1, p1⟩ := hc
  obtain ⟨r, M', k, p⟩ := k r1 M2 p1
  exact ⟨r, M', fr_c h h1 k, p⟩
theorem fx_r {v : Option Value} {b : Bool} (h : sy_step y pc ls st M = some (.inr (.inr (.inr (.inr (b, v)))))) (hb : b = true) (p : P v M) : Fx d y pc ls st M P := ⟨v, M, fr_r h hb, p⟩
/-- a callee that answers v and leaves the memory -/
theorem fx_p {y' : Nat} {as : List Value} {v : Value} (h : sy_step y pc ls st M = some (.inr (.inr (.inr (.inl (y', as, pc', ls', st', M1)))))) (hc : Ev d y' as M1 (some v) M1) (k : Fx (d + 1) y pc' ls' (v :: st') M1 P) : Fx (d + 1) y pc ls st M P := by
  obtain ⟨r, M', k, p⟩ := k
  exact ⟨r, M', fr_c h hc k, p⟩
theorem ex_of {as : List Value} {v : Option Value} {M' : sy_Mm} (h : Ev d y as M v M') : Ex d y as M (fun r N => r = v ∧ N = M') := ⟨v, M', h, rfl, rfl⟩
theorem ev_of {as : List Value} {v : Option Value} {M' : sy_Mm} (h : Ex d y as M (fun r N => r = v ∧ N = M')) : Ev d y as M v M' := by
  obtain ⟨r, N, h, rfl, rfl⟩ := h
  exact h
theorem fx_w {P' : Option Value → sy_Mm → Prop} (h : Fx d y pc ls st M P') (k : ∀ r N, P' r N → P r N) : Fx d y pc ls st M P := by
  obtain ⟨r, N, h, p⟩ := h
  exact ⟨r, N, h, k _ _ p⟩
end WP
theorem up_s {M : sy_Mm} {k j : Nat} {x : Int32} : sy_up M k j x k j = x := by
  unfold sy_up
  rw [sy_row_s]
  simp [upd]
theorem up_j {M : sy_Mm} {k j i : Nat} {x : Int32} (h : i ≠ j) : sy_up M k j x k i = M k i := by
  unfold sy_up
  rw [sy_row_s]
  simp [upd, h]
theorem up_k {M : sy_Mm} {k j q : Nat} {x : Int32} (h : q ≠ k) : sy_up M k j x q = M q := sy_row_n h
theorem up_r {M : sy_Mm} {k j : Nat} {x : Int32} : sy_up M k j x k = upd (M k) j x := sy_row_s
end
section
/-! ===== small methods ===== -/
def zb (p : Bool) : Int32 := cond p 1 0
theorem zb_0 {p : Bool} : zb p = 0 ↔ p = false := by cases p <;> decide
theorem zb_1 {p : Bool} : zb p = 1 ↔ p = true := by cases p <;> decide
theorem zb_ok (p : Bool) : decide (zb p = 0 ∨ zb p = 1) = true := by cases p <;> decide
theorem zb_t : zb true = 1 := rfl
theorem zb_f : zb false = 0 := rfl
def inR (x : Int32) (a b : Int) : Bool := decide (a ≤ x.toInt ∧ x.toInt ≤ b)
theorem inR_t {x : Int32} {a b : Int} : inR x a b = true ↔ a ≤ x.toInt ∧ x.toInt ≤ b := by simp [inR]
theorem inR_f {x : Int32} {a b : Int} : inR x a b = false ↔ ¬ (a ≤ x.toInt ∧ x.toInt ≤ b) := by simp [inR]
theorem inR_nI {x : Int32} {b : Nat} (h : inR x 0 b = true) : ∃ k : Nat, k ≤ b ∧ x = nI k := by
  obtain ⟨h1, h2⟩ := inR_t.mp h
  have hb := Int32.toInt_lt x
  refine ⟨x.toInt.toNat, by omega, ?_⟩
  apply Int32.toInt_inj.mp
  rw [nI_toInt (by omega)]
  omega
theorem lcmp_lt {x y : Int64} : lg_cmp x y < 0 ↔ x < y := by
  unfold lg_cmp
  simp only [gt_iff_lt, Int64.lt_iff_toInt_lt, ← Int64.toInt_inj]
  split
  · constructor
    · intro h; exact absurd h (by decide)
    · intro h; omega
  · split
    · constructor
      · intro h; exact absurd h (by decide)
      · intro h; omega
    · constructor
      · intro _; omega
      · intro _; decide
theorem lcmp_gt {x y : Int64} : 0 < lg_cmp x y ↔ y < x := by
  unfold lg_cmp
  simp only [gt_iff_lt, Int64.lt_iff_toInt_lt, ← Int64.toInt_inj]
  split
  · constructor
    · intro _; omega
    · intro _; decide
  · split
    · constructor
      · intro h; exact absurd h (by decide)
      · intro h; omega
    · constructor
      · intro h; exact absurd h (by decide)
      · intro h; omega
theorem lcmp_eq {x y : Int64} : lg_cmp x y = 0 ↔ x = y := by
  unfold lg_cmp
  simp only [gt_iff_lt, Int64.lt_iff_toInt_lt, ← Int64.toInt_inj]
  split
  · constructor
    · intro h; exact absurd h (by decide)
    · intro h; omega
  · split
    · constructor
      · intro _; omega
      · intro _; rfl
    · constructor
      · intro h; exact absurd h (by decide)
      · intro h; omega
set_option maxRecDepth 100000 in
set_option maxHeartbeats 4000000 in
theorem ev_within (d : Nat) (M : sy_Mm) (v m : Int32) : Ev d i_X7_within [.int v, .int m] M (some (.int (zb (inR v 0 m.toInt)))) M := by
  refine ev_of ?_
  repeat' (first | refine fx_n rfl ?_ | refine fx_b rfl (fun _ => ?_) (fun _ => ?_) | refine fx_r rfl rfl ?_)
  all_goals
    refine ⟨?_, rfl⟩
    simp only [Int32.lt_iff_toInt_lt] at *
    simp at *
    first
      | (rw [inR_f.mpr (by omega)]; rfl)
      | (rw [inR_t.mpr (by omega)]; rfl)
set_option maxRecDepth 100000 in
set_option maxHeartbeats 4000000 in
theorem ev_isHouse (d : Nat) (M : sy_Mm) (v : Int32) : Ev d i_X7_isHouse [.int v] M (some (.int (zb (inR v 0 7)))) M := by
  refine ev_of ?_
  repeat' (first | refine fx_n rfl ?_ | refine fx_b rfl (fun _ => ?_) (fun _ => ?_) | refine fx_r rfl rfl ?_)
  all_goals
    refine ⟨?_, rfl⟩
    simp only [Int32.lt_iff_toInt_lt, Int32.le_iff_toInt_le] at *
    simp at *
    first
      | (rw [inR_f.mpr (by omega)]; rfl)
      | (rw [inR_t.mpr (by omega)]; rfl)
set_option maxRecDepth 100000 in
set_option maxHeartbeats 4000000 in
theorem ev_isSheet (d : Nat) (M : sy_Mm) (v : Int32) : Ev d i_X7_isSheet [.int v] M (some (.int (zb (inR v 0 3)))) M := by
  refine ev_of ?_
  repeat' (first | refine fx_n rfl ?_ | refine fx_b rfl (fun _ => ?_) (fun _ => ?_) | refine fx_r rfl rfl ?_)
  all_goals
    refine ⟨?_, rfl⟩
    simp only [Int32.lt_iff_toInt_lt, Int32.le_iff_toInt_le] at *
    simp at *
    first
      | (rw [inR_f.mpr (by omega)]; rfl)
      | (rw [inR_t.mpr (by omega)]; rfl)
set_option maxRecDepth 100000 in
set_option maxHeartbeats 4000000 in
theorem ev_found (d : Nat) (M : sy_Mm) (v : Int32) : Ev d i_X7_found [.ref 0, .int v] M (some (.int (-10 - v))) (sy_up M 0 7 v) := by
  refine ev_of ?_
  repeat' (first | refine fx_n rfl ?_ | refine fx_b rfl (fun _ => ?_) (fun _ => ?_) | refine fx_r rfl rfl ?_)
  exact ⟨rfl, rfl⟩
set_option maxRecDepth 100000 in
set_option maxHeartbeats 4000000 in
theorem em_in (d : Nat) (M : sy_Mm) (v a b : Int64) : Ev d i_X8_in [.long v, .long a, .long b] M (some (.int (zb (decide (a ≤ v ∧ v ≤ b))))) M := by
  refine ev_of ?_
  repeat' (first | refine fx_n rfl ?_ | refine fx_b rfl (fun _ => ?_) (fun _ => ?_) | refine fx_r rfl rfl ?_)
  all_goals
    refine ⟨?_, rfl⟩
    simp only [lcmp_lt, lcmp_gt, Int64.lt_iff_toInt_lt, Int64.le_iff_toInt_le] at *
    first
      | (rw [decide_eq_false (by omega)]; rfl)
      | (rw [decide_eq_true (by omega)]; rfl)
theorem in_R (v : Int32) {a b : Int64} {a' b' : Int} (ha : a.toInt = a') (hb : b.toInt = b') : decide (a ≤ v.toInt64 ∧ v.toInt64 ≤ b) = inR v a' b' := by
  unfold inR
  simp only [Int64.le_iff_toInt_le, Int32.toInt_toInt64, ha, hb]
set_option maxRecDepth 100000 in
set_option maxHeartbeats 4000000 in
theorem em_isTwo (d : Nat) (M : sy_Mm) (v : Int32) : Ev (d + 1) i_X8_isTwo [.int v] M (some (.int (zb (inR v 0 1)))) M := by
  refine ev_of ?_
  repeat refine fx_n rfl ?_
  refine fx_p rfl (em_in _ _ _ _ _) ?_
  rw [in_R v (a' := 0) (b' := 1) rfl rfl]
  exact fx_r rfl (zb_ok _) ⟨rfl, rfl⟩
set_option maxRecDepth 100000 in
set_option maxHeartbeats 4000000 in
theorem em_isSheet (d : Nat) (M : sy_Mm) (v : Int32) : Ev (d + 1) i_X8_isSheet [.int v] M (some (.int (zb (inR v 0 3)))) M := by
  refine ev_of ?_
  repeat refine fx_n rfl ?_
  refine fx_p rfl (em_in _ _ _ _ _) ?_
  rw [in_R v (a' := 0) (b' := 3) rfl rfl]
  exact fx_r rfl (zb_ok _) ⟨rfl, rfl⟩
set_option maxRecDepth 100000 in
set_option maxHeartbeats 4000000 in
theorem em_isHouse (d : Nat) (M : sy_Mm) (v : Int32) : Ev (d + 1) i_X8_isHouse [.int v] M (some (.int (zb (inR v 0 7)))) M := by
  refine ev_of ?_
  repeat refine fx_n rfl ?_
  refine fx_p rfl (em_in _ _ _ _ _) ?_
  rw [in_R v (a' := 0) (b' := 7) rfl rfl]
  exact fx_r rfl (zb_ok _) ⟨rfl, rfl⟩
set_option maxRecDepth 100000 in
set_option maxHeartbeats 4000000 in
theorem em_isNight (d : Nat) (M : sy_Mm) (v : Int32) : Ev (d + 1) i_X8_isNight [.int v] M (some (.int (zb (inR v 0 299)))) M := by
  refine ev_of ?_
  repeat refine fx_n rfl ?_
  refine fx_p rfl (em_in _ _ _ _ _) ?_
  rw [in_R v (a' := 0) (b' := 299) rfl rfl]
  exact fx_r rfl (zb_ok _) ⟨rfl, rfl⟩
set_option maxRecDepth 100000 in
set_option maxHeartbeats 4000000 in
theorem em_no (d : Nat) (M : sy_Mm) (v : Int32) : Ev d i_X8_no [.int v] M (some (.long (-9223372036854775808 - v.toInt64))) M := by
  refine ev_of ?_
  repeat' (first | refine fx_n rfl ?_ | refine fx_b rfl (fun _ => ?_) (fun _ => ?_) | refine fx_r rfl rfl ?_)
  exact ⟨rfl, rfl⟩
set_option maxRecDepth 100000 in
set_option maxHeartbeats 4000000 in
theorem em_met (d : Nat) (M : sy_Mm) (v : Int32) : Ev d i_X8_met [.ref 30, .int v] M (some (.int (-10 - v))) (sy_up M 30 4 v) := by
  refine ev_of ?_
  repeat' (first | refine fx_n rfl ?_ | refine fx_b rfl (fun _ => ?_) (fun _ => ?_) | refine fx_r rfl rfl ?_)
  exact ⟨rfl, rfl⟩
def cutS (f v : Int32) : Int32 := if f = 0 then v.toInt8.toInt32 else if f = 1 then v.toInt16.toInt32 else v
set_option maxRecDepth 100000 in
set_option maxHeartbeats 4000000 in
theorem em_cut (d : Nat) (M : sy_Mm) (f v : Int32) : Ev d i_X8_cut [.int f, .int v] M (some (.int (cutS f v))) M := by
  refine ev_of ?_
  repeat' (first | refine fx_n rfl ?_ | refine fx_b rfl (fun _ => ?_) (fun _ => ?_) | refine fx_r rfl rfl ?_)
  all_goals
    refine ⟨?_, rfl⟩
    simp_all [cutS]
/-- how many of the lowest nine bits are set -/
def pcn (n : Nat) : Nat := n % 2 + n / 2 % 2 + n / 4 % 2 + n / 8 % 2 + n / 16 % 2 + n / 32 % 2 + n / 64 % 2 + n / 128 % 2 + n / 256 % 2
def bcE (x : Int32) : Int32 :=
  let u := fun (a b : Int32) => (a.toUInt32 >>> (b.toUInt32 &&& Int32.toUInt32 31)).toInt32
  let x1 := x - (u x 1 &&& 1431655765)
  let x2 := (x1 &&& 858993459) + (u x1 2 &&& 858993459)
  let x3 := (x2 + u x2 4) &&& 252645135
  let x4 := x3 + u x3 8
  let x5 := x4 + u x4 16
  x5 &&& 63
theorem bcE_all : ∀ k, k < 512 → bcE (nI k) = nI (pcn k) := by decide +kernel
set_option maxRecDepth 100000 in
set_option maxHeartbeats 4000000 in
theorem ev_bitCount (d : Nat) (M : sy_Mm) (k : Nat) (hk : k < 512) : Ev d i_J6_bitCount [.int (nI k)] M (some (.int (nI (pcn k)))) M := by
  refine ev_of ?_
  repeat' (first | refine fx_n rfl ?_ | refine fx_b rfl (fun _ => ?_) (fun _ => ?_) | refine fx_r rfl rfl ?_)
  exact ⟨congrArg (fun z => some (Value.int z)) (bcE_all k hk), rfl⟩
theorem ones_and : ∀ k, k < 512 → nI k &&& (nI k - 1) = nI (k &&& (k - 1)) := by decide +kernel
theorem ones_pc : ∀ k, k < 512 → 0 < k → pcn (k &&& (k - 1)) + 1 = pcn k ∧ (k &&& (k - 1)) < 512 := by decide +kernel
theorem pcn_0 : ∀ k, k < 512 → pcn k = 0 → k = 0 := by decide +kernel
theorem nI_acc (c : Int32) (j : Nat) : c + 1 + nI j = c + nI (j + 1) := by rw [nI_succ, Int32.add_assoc, Int32.add_comm 1]
set_option maxRecDepth 100000 in
set_option maxHeartbeats 4000000 in
theorem em_ones (d : Nat) (M : sy_Mm) (k : Nat) (hk : k < 512) : Ev d i_X8_ones [.int (nI k)] M (some (.int (nI (pcn k)))) M := by
  have loop : ∀ (j : Nat) (x c : Int32) (k : Nat), k < 512 → pcn k = j → Fx d i_X8_ones 5 [some (.int x), some (.int c), some (.int (nI k))] [.int (nI k)] M (fun r N => r = some (.int (c + nI j)) ∧ N = M) := by
    intro j
    induction j with
    | zero =>
      intro x c k hk hp
      have := pcn_0 k hk hp
      subst this
      refine fx_bt rfl (by decide) ?_
      repeat refine fx_n rfl ?_
      exact fx_r rfl rfl ⟨by rw [nI_0, Int32.add_zero], rfl⟩
    | succ j ih =>
      intro x c k hk hp
      have h0 : 0 < k := by
        rcases Nat.eq_zero_or_pos k with h | h
        · subst h; simp [pcn] at hp
        · exact h
      obtain ⟨h1, h2⟩ := ones_pc k hk h0
      refine fx_bf rfl (nI_ne0 h0 (by omega)) ?_
      repeat refine fx_n rfl ?_
      have := ih x (c + 1) (k &&& (k - 1)) h2 (by omega)
      rw [← ones_and k hk, nI_acc] at this
      exact this
  refine ev_of ?_
  repeat refine fx_n rfl ?_
  have := loop (pcn k) (nI k) 0 k hk rfl
  rw [Int32.zero_add] at this
  exact this
end
section
/-! ===== bits ===== -/
def bN (p : Nat → Bool) : Nat → Nat
  | 0 => 0
  | n + 1 => bN p n + cond (p n) (2 ^ n) 0
theorem bN_lt (p : Nat → Bool) : ∀ n, bN p n < 2 ^ n
  | 0 => by simp [bN]
  | n + 1 => by
    have := bN_lt p n
    unfold bN
    rw [Nat.pow_succ]
    cases p n <;> simp <;> omega
theorem bN_9 (p : Nat → Bool) {n : Nat} (h : n ≤ 9) : bN p n < 512 := Nat.lt_of_lt_of_le (bN_lt p n) (Nat.le_trans (Nat.pow_le_pow_right (by omega) h) (by decide))
theorem or_bit : ∀ n, n < 9 → ∀ a, a < 512 → a < 2 ^ n → nI a ||| ((1 : Int32) <<< (nI n &&& 31)) = nI (a + 2 ^ n) := by decide +kernel
theorem sh_bit : ∀ s, s < 9 → ∀ a, a < 512 → (nI a >>> (nI s &&& 31)) &&& 1 = nI (a / 2 ^ s % 2) := by decide +kernel
theorem bN_step (p : Nat → Bool) {n : Nat} (h : n < 9) (hp : p n = true) : nI (bN p n) ||| ((1 : Int32) <<< (nI n &&& 31)) = nI (bN p (n + 1)) := by
  rw [or_bit n h _ (bN_9 p (by omega)) (bN_lt p n)]
  simp [bN, hp]
theorem bN_skip (p : Nat → Bool) {n : Nat} (hp : p n = false) : bN p (n + 1) = bN p n := by simp [bN, hp]
theorem bN_bit (p : Nat → Bool) (s : Nat) : ∀ n, s < n → bN p n / 2 ^ s % 2 = cond (p s) 1 0
  | 0, h => by omega
  | n + 1, h => by
    unfold bN
    by_cases e : s = n
    · subst e
      have := bN_lt p s
      cases hp : p s
      · simp [Nat.div_eq_of_lt this]
      · simp only [cond_true]
        rw [Nat.add_div_right _ (Nat.two_pow_pos s), Nat.div_eq_of_lt this]
    · have ih := bN_bit p s n (by omega)
      cases hp : p n
      · simpa using ih
      · simp only [cond_true]
        have h2 : 2 ^ n = 2 ^ s * (2 * 2 ^ (n - s - 1)) := by
          rw [← Nat.pow_succ', ← Nat.pow_add]
          congr 1
          omega
        rw [h2, Nat.add_mul_div_left _ _ (Nat.two_pow_pos s), Nat.add_mul_mod_self_left]
        exact ih
theorem bN_congr {p q : Nat → Bool} : ∀ n, (∀ s, s < n → p s = q s) → bN p n = bN q n
  | 0, _ => rfl
  | n + 1, h => by
    unfold bN
    rw [bN_congr n (fun s hs => h s (by omega)), h n (by omega)]
theorem bN_sh (p : Nat → Bool) {s n : Nat} (h : s < n) (hn : n ≤ 9) : (nI (bN p n) >>> (nI s &&& 31)) &&& 1 = zb (p s) := by
  rw [sh_bit s (by omega) _ (bN_9 p hn), bN_bit p s n h]
  cases p s <;> rfl
/-! ===== the text ===== -/
def tx_ok (b : Nat → Int32) (i : Nat) : Bool := decide (i < 18) && (if i % 2 = 0 then inR (b i) 48 55 else decide (b i = 114 ∨ b i = 102))
def tx_f (b : Nat → Int32) (n : Nat) : Nat → Nat → Int32
  | 0, _ => if n % 2 = 0 then -1 else nI n
  | j + 1, i => cond (tx_ok b i) (tx_f b n j (i + 1)) (nI i)
def tx_fault (b : Nat → Int32) (n : Nat) : Int32 := tx_f b n n 0
def tx_st (b : Nat → Int32) (n : Nat) : Nat := if tx_fault b n = -1 then n / 2 else 0
def tx_fg (b : Nat → Int32) (s : Nat) : Bool := decide (b (2 * s + 1) = 102)
theorem nI_ne_m1 {k : Nat} (h : k < 2 ^ 31) : ¬ nI k = -1 := by
  intro e
  have := congrArg Int32.toInt e
  rw [nI_toInt h] at this
  have h2 : (-1 : Int32).toInt = -1 := rfl
  rw [h2] at this
  omega
theorem tx_f_ok (b : Nat → Int32) (n : Nat) : ∀ j i, i + j = n → n < 2 ^ 31 → tx_f b n j i = -1 → n % 2 = 0 ∧ ∀ k, i ≤ k → k < n → tx_ok b k = true
  | 0, i, h, hn, e => by
    unfold tx_f at e
    split at e
    · rename_i q
      exact ⟨q, fun k h1 h2 => by omega⟩
    · exact absurd e (nI_ne_m1 hn)
  | j + 1, i, h, hn, e => by
    unfold tx_f at e
    cases q : tx_ok b i with
    | false => rw [q] at e; exact absurd e (nI_ne_m1 (by omega))
    | true =>
      rw [q] at e
      obtain ⟨h1, h2⟩ := tx_f_ok b n j (i + 1) (by omega) hn e
      refine ⟨h1, fun k h3 h4 => ?_⟩
      rcases Nat.lt_or_ge i k with h5 | h5
      · exact h2 k h5 h4
      · have : k = i := by omega
        rw [this]; exact q
theorem tx_good {b : Nat → Int32} {n : Nat} (hn : n < 2 ^ 31) (h : tx_fault b n = -1) : n % 2 = 0 ∧ n ≤ 18 ∧ ∀ k, k < n → tx_ok b k = true := by
  obtain ⟨h1, h2⟩ := tx_f_ok b n n 0 (by omega) hn h
  refine ⟨h1, ?_, fun k hk => h2 k (by omega) hk⟩
  rcases Nat.lt_or_ge 18 n with q | q
  · have := h2 18 (by omega) q
    simp [tx_ok] at this
  · exact q
theorem tx_st_le {b : Nat → Int32} {n : Nat} (hn : n ≤ 30) : tx_st b n ≤ 9 ∧ 2 * tx_st b n ≤ n := by
  unfold tx_st
  split
  · rename_i h
    obtain ⟨-, h2, -⟩ := tx_good (by omega) h
    omega
  · omega
theorem tx_byte {b : Nat → Int32} {n s : Nat} (hn : n ≤ 30) (hs : s < tx_st b n) : inR (b (2 * s)) 48 55 = true ∧ (b (2 * s + 1) = 114 ∨ b (2 * s + 1) = 102) := by
  unfold tx_st at hs
  split at hs
  · rename_i h
    obtain ⟨h1, h2, h3⟩ := tx_good (by omega) h
    have a1 := h3 (2 * s) (by omega)
    have a2 := h3 (2 * s + 1) (by omega)
    simp only [tx_ok, Bool.and_eq_true, decide_eq_true_eq] at a1 a2
    have e1 : 2 * s % 2 = 0 := by omega
    have e2 : ¬ (2 * s + 1) % 2 = 0 := by omega
    rw [if_pos e1] at a1
    rw [if_neg e2, decide_eq_true_eq] at a2
    exact ⟨a1.2, a2.2⟩
  · omega
theorem tx_f_congr {b b' : Nat → Int32} {n : Nat} : ∀ j i, i + j = n → (∀ k, k < n → b k = b' k) → tx_f b n j i = tx_f b' n j i
  | 0, _, _, _ => rfl
  | j + 1, i, h, hb => by
    unfold tx_f
    have e : tx_ok b i = tx_ok b' i := by unfold tx_ok; rw [hb i (by omega)]
    rw [e, tx_f_congr j (i + 1) (by omega) hb]
theorem rem2 {k : Nat} (hk : k < 2 ^ 31) : nI k - nI k / 2 * 2 = nI (k % 2) := pk_rem (d := 2) hk (by omega) (by omega)
theorem ix_nI {k n : Nat} (h : k < n) (hn : n < 2 ^ 31) : 0 ≤ (nI k).toInt ∧ (nI k).toInt < (n : Int) := by
  rw [nI_toInt (by omega)]
  omega
theorem nI_cl {k : Nat} (h : k < 2 ^ 31) : (nI k).toNatClampNeg = k := nI_clamp h
set_option maxRecDepth 100000 in
set_option maxHeartbeats 4000000 in
theorem ev_fits (d : Nat) (M : sy_Mm) (k : Nat) (hk : k < 30) : Ev d i_X5_fits [.ref 1, .int (nI k)] M (some (.int (zb (tx_ok (M 2) k)))) M := by
  refine ev_of ?_
  repeat refine fx_n rfl ?_
  refine fx_b rfl (fun h => ?_) (fun h => ?_)
  · have hk18 : k < 18 := by
      rw [Int32.lt_iff_toInt_lt, nI_toInt (by omega)] at h
      simp at h
      omega
    repeat refine fx_n rfl ?_
    refine fx_g rfl (ix_nI hk (by omega)) ?_
    repeat refine fx_n rfl ?_
    refine fx_g rfl (by decide) ?_
    rw [rem2 (by omega), nI_cl (by omega)]
    by_cases h2 : k % 2 = 0
    · have e : tx_ok (M 2) k = inR (M 2 k) 48 55 := by simp [tx_ok, hk18, h2]
      rw [e, h2]
      refine fx_bf rfl (by decide) ?_
      repeat' (first | refine fx_n rfl ?_ | refine fx_b rfl (fun _ => ?_) (fun _ => ?_) | refine fx_r rfl rfl ?_)
      all_goals
        refine ⟨?_, rfl⟩
        simp only [Int32.lt_iff_toInt_lt] at *
        simp at *
        first
          | (rw [inR_f.mpr (by omega)]; rfl)
          | (rw [inR_t.mpr (by omega)]; rfl)
    · have e : tx_ok (M 2) k = decide (M 2 k = 114 ∨ M 2 k = 102) := by simp [tx_ok, hk18, h2]
      have e1 : k % 2 = 1 := by omega
      rw [e, e1]
      refine fx_bt rfl (by decide) ?_
      repeat' (first | refine fx_n rfl ?_ | refine fx_b rfl (fun _ => ?_) (fun _ => ?_) | refine fx_r rfl rfl ?_)
      all_goals
        refine ⟨?_, rfl⟩
        simp_all [zb]
  · have hk18 : ¬ k < 18 := by
      rw [Int32.lt_iff_toInt_lt, nI_toInt (by omega)] at h
      simp at h
      omega
    have e : tx_ok (M 2) k = false := by simp [tx_ok, hk18]
    rw [e]
    repeat' (first | refine fx_n rfl ?_ | refine fx_b rfl (fun _ => ?_) (fun _ => ?_) | refine fx_r rfl rfl ?_)
    exact ⟨rfl, rfl⟩
set_option maxRecDepth 100000 in
set_option maxHeartbeats 4000000 in
theorem ev_firstFault (d : Nat) (M : sy_Mm) (n : Nat) (hn : n ≤ 30) (h1 : M 1 1 = nI n) : Ev (d + 1) i_X5_firstFault [.ref 1] M (some (.int (tx_fault (M 2) n))) M := by
  have loop : ∀ j i, i + j = n → Fx (d + 1) i_X5_firstFault 7 [some (.ref 1), some (.int (nI i))] [.int (M 1 1), .int (nI i)] M (fun r N => r = some (.int (tx_f (M 2) n j i)) ∧ N = M) := by
    intro j
    induction j with
    | zero =>
      intro i hi
      have e : i = n := by omega
      subst e
      refine fx_bt rfl (by rw [h1]; exact nI_le (Nat.le_refl _) (by omega)) ?_
      repeat refine fx_n rfl ?_
      refine fx_g rfl (by decide) ?_
      rw [h1, rem2 (by omega)]
      unfold tx_f
      by_cases h2 : i % 2 = 0
      · rw [if_pos h2, h2]
        refine fx_bf rfl (by decide) ?_
        repeat' (first | refine fx_n rfl ?_ | refine fx_b rfl (fun _ => ?_) (fun _ => ?_) | refine fx_r rfl rfl ?_)
        exact ⟨rfl, rfl⟩
      · rw [if_neg h2, show i % 2 = 1 by omega]
        refine fx_bt rfl (by decide) ?_
        repeat refine fx_n rfl ?_
        refine fx_r rfl rfl ⟨?_, rfl⟩
        rw [h1]
    | succ j ih =>
      intro i hi
      refine fx_bf rfl (by rw [h1]; exact nI_ge (by omega) (by omega)) ?_
      repeat refine fx_n rfl ?_
      refine fx_p rfl (ev_fits _ _ _ (by omega)) ?_
      unfold tx_f
      cases q : tx_ok (M 2) i with
      | true =>
        refine fx_bt rfl (by decide) ?_
        repeat refine fx_n rfl ?_
        have := ih (i + 1) (by omega)
        rw [← nI_1] at this
        exact this
      | false =>
        refine fx_bf rfl (by decide) ?_
        repeat refine fx_n rfl ?_
        exact fx_r rfl rfl ⟨rfl, rfl⟩
  refine ev_of ?_
  repeat refine fx_n rfl ?_
  exact loop n 0 (by omega)
set_option maxRecDepth 100000 in
set_option maxHeartbeats 4000000 in
theorem ev_lookThrough (d : Nat) (M : sy_Mm) (n : Nat) (hn : n ≤ 30) (h1 : M 1 1 = nI n) : Ev (d + 2) i_X5_lookThrough [.ref 1] M none (sy_up (sy_up M 1 2 (tx_fault (M 2) n)) 1 3 (nI (tx_st (M 2) n))) := by
  refine ev_of ?_
  repeat refine fx_n rfl ?_
  refine fx_p rfl (ev_firstFault _ _ n hn h1) ?_
  repeat refine fx_n rfl ?_
  by_cases h : tx_fault (M 2) n = -1
  · refine fx_bf rfl (by intro q; exact q (by rw [← h]; exact up_s)) ?_
    repeat refine fx_n rfl ?_
    refine fx_g rfl (by decide) ?_
    repeat refine fx_n rfl ?_
    refine fx_r rfl rfl ⟨rfl, ?_⟩
    have e : (sy_up M 1 2 (tx_fault (M 2) n)) 1 1 / 2 = nI (tx_st (M 2) n) := by
      rw [up_j (by omega), h1]
      unfold tx_st
      rw [if_pos h]
      exact pk_div (d := 2) (by omega) (by omega) (by omega)
    rw [e]
  · refine fx_bt rfl (by intro q; exact h (by rw [← q]; exact up_s.symm)) ?_
    repeat refine fx_n rfl ?_
    refine fx_r rfl rfl ⟨rfl, ?_⟩
    unfold tx_st
    rw [if_neg h]
    rfl
end
section
set_option maxRecDepth 100000 in
set_option maxHeartbeats 4000000 in
theorem ev_put (d : Nat) (M : sy_Mm) (n : Nat) (hn : n ≤ 30) (h1 : M 1 1 = nI n) (v : Int32) : Ex (d + 3) i_X5_put [.ref 1, .int v] M (fun r N => if n = 30 then r = some (.int (-4)) ∧ N = M else r = some (.int (nI (n + 1))) ∧ N = sy_up (sy_up (sy_up (sy_up M 2 n v) 1 1 (nI (n + 1))) 1 2 (tx_fault (upd (M 2) n v) (n + 1))) 1 3 (nI (tx_st (upd (M 2) n v) (n + 1)))) := by
  unfold Ex
  repeat refine fx_n rfl ?_
  by_cases h : n = 30
  · refine fx_bf rfl (by rw [h1, h]; decide) ?_
    repeat refine fx_n rfl ?_
    refine fx_r rfl rfl ?_
    rw [if_pos h]
    exact ⟨rfl, rfl⟩
  · refine fx_bt rfl (by rw [h1]; exact nI_lt (b := 30) (by omega) (by omega)) ?_
    repeat refine fx_n rfl ?_
    refine fx_g rfl (by rw [h1]; exact ix_nI (by omega) (by omega)) ?_
    repeat refine fx_n rfl ?_
    rw [h1, nI_cl (by omega)]
    have e1 : sy_up M 2 n v 1 1 + 1 = nI (n + 1) := by rw [up_k (by omega), h1, nI_1]
    rw [e1]
    refine fx_c rfl (ex_of (ev_lookThrough _ _ (n + 1) (by omega) up_s)) ?_
    rintro _ _ ⟨rfl, rfl⟩
    repeat refine fx_n rfl ?_
    have e2 : (sy_up (sy_up M 2 n v) 1 1 (nI (n + 1))) 2 = upd (M 2) n v := by rw [up_k (by omega), up_r]
    rw [e2]
    refine fx_r rfl rfl ?_
    rw [if_neg h]
    refine ⟨?_, rfl⟩
    rw [up_j (by omega), up_j (by omega), up_s]
set_option maxRecDepth 100000 in
set_option maxHeartbeats 4000000 in
theorem ev_empty (d : Nat) (M : sy_Mm) : Ev (d + 3) i_X5_empty [.ref 1] M (some (.int (M 1 1))) (sy_up (sy_up (sy_up M 1 1 0) 1 2 (-1)) 1 3 0) := by
  refine ev_of ?_
  repeat refine fx_n rfl ?_
  refine fx_c rfl (ex_of (ev_lookThrough _ _ 0 (by omega) up_s)) ?_
  rintro _ _ ⟨rfl, rfl⟩
  repeat refine fx_n rfl ?_
  exact fx_r rfl rfl ⟨rfl, rfl⟩
theorem tw_nI (s : Nat) : (2 : Int32) * nI s = nI (2 * s) := pk_mul 2 s
set_option maxRecDepth 100000 in
set_option maxHeartbeats 4000000 in
theorem ev_houseOf (d : Nat) (M : sy_Mm) (s : Nat) (hs : s < 9) : Ev d i_X5_houseOf [.ref 1, .int (nI s)] M (some (.int (M 2 (2 * s) - 48))) M := by
  refine ev_of ?_
  repeat refine fx_n rfl ?_
  rw [tw_nI]
  refine fx_g rfl (ix_nI (by omega) (by omega)) ?_
  repeat refine fx_n rfl ?_
  rw [nI_cl (by omega)]
  exact fx_r rfl rfl ⟨rfl, rfl⟩
set_option maxRecDepth 100000 in
set_option maxHeartbeats 4000000 in
theorem ev_isForged (d : Nat) (M : sy_Mm) (s : Nat) (hs : s < 9) : Ev d i_X5_isForged [.ref 1, .int (nI s)] M (some (.int (zb (tx_fg (M 2) s)))) M := by
  refine ev_of ?_
  repeat refine fx_n rfl ?_
  rw [tw_nI, nI_1]
  refine fx_g rfl (ix_nI (by omega) (by omega)) ?_
  repeat refine fx_n rfl ?_
  rw [nI_cl (by omega)]
  repeat' (first | refine fx_n rfl ?_ | refine fx_b rfl (fun _ => ?_) (fun _ => ?_) | refine fx_r rfl rfl ?_)
  all_goals
    refine ⟨?_, rfl⟩
    simp_all [zb, tx_fg]
set_option maxRecDepth 100000 in
set_option maxHeartbeats 4000000 in
theorem ev_has (d : Nat) (M : sy_Mm) (v : Int32) (S : Nat) (hS : S ≤ 9) (h3 : M 1 3 = nI S) : Ev d i_X5_has [.ref 1, .int v] M (some (.int (zb (inR v 0 ((S : Int) - 1))))) M := by
  have e : (nI S).toInt = (S : Int) := nI_toInt (by omega)
  refine ev_of ?_
  repeat' (first | refine fx_n rfl ?_ | refine fx_b rfl (fun _ => ?_) (fun _ => ?_) | refine fx_r rfl rfl ?_)
  all_goals
    refine ⟨?_, rfl⟩
    try rw [h3] at *
    simp only [Int32.lt_iff_toInt_lt, Int32.le_iff_toInt_le, e] at *
    simp at *
    first
      | (rw [inR_f.mpr (by omega)]; rfl)
      | (rw [inR_t.mpr (by omega)]; rfl)
set_option maxRecDepth 100000 in
set_option maxHeartbeats 4000000 in
theorem ev_realStones (d : Nat) (M : sy_Mm) (S : Nat) (hS : S ≤ 9) (h3 : M 1 3 = nI S) : Ev (d + 1) i_X5_realStones [.ref 1] M (some (.int (nI (bN (fun s => !tx_fg (M 2) s) S)))) M := by
  have loop : ∀ j s, s + j = S → Fx (d + 1) i_X5_realStones 9 [some (.ref 1), some (.int (nI (bN (fun s => !tx_fg (M 2) s) s))), some (.int (nI s))] [.int (M 1 3), .int (nI s)] M (fun r N => r = some (.int (nI (bN (fun s => !tx_fg (M 2) s) S))) ∧ N = M) := by
    intro j
    induction j with
    | zero =>
      intro s hs
      have e : s = S := by omega
      subst e
      refine fx_bt rfl (by rw [h3]; exact nI_le (Nat.le_refl _) (by omega)) ?_
      repeat refine fx_n rfl ?_
      exact fx_r rfl rfl ⟨rfl, rfl⟩
    | succ j ih =>
      intro s hs
      refine fx_bf rfl (by rw [h3]; exact nI_ge (by omega) (by omega)) ?_
      repeat refine fx_n rfl ?_
      refine fx_p rfl (ev_isForged _ _ _ (by omega)) ?_
      have i2 := ih (s + 1) (by omega)
      rw [← nI_1] at i2
      cases q : tx_fg (M 2) s with
      | true =>
        refine fx_bt rfl (by decide) ?_
        repeat refine fx_n rfl ?_
        rw [bN_skip _ (by simp [q])] at i2
        exact i2
      | false =>
        refine fx_bf rfl (by decide) ?_
        repeat refine fx_n rfl ?_
        rw [bN_step (fun s => !tx_fg (M 2) s) (by omega) (by simp [q])]
        exact i2
  refine ev_of ?_
  repeat refine fx_n rfl ?_
  exact loop S 0 (by omega)
/-! ===== the reference's text ===== -/
set_option maxRecDepth 100000 in
set_option maxHeartbeats 4000000 in
theorem em_here (d : Nat) (M : sy_Mm) (n a : Nat) (hn : n ≤ 30) (ha : a ≤ n) (h6 : M 30 6 = nI n) (h7 : M 30 7 = nI a) : Ev d i_X8_here [.ref 30] M (some (.int (if a < n then M 35 a else -1))) M := by
  refine ev_of ?_
  repeat refine fx_n rfl ?_
  by_cases h : a < n
  · rw [if_pos h]
    refine fx_bf rfl (by rw [h6, h7]; exact nI_ge h (by omega)) ?_
    repeat refine fx_n rfl ?_
    refine fx_g rfl (by rw [h7]; exact ix_nI (by omega) (by omega)) ?_
    repeat refine fx_n rfl ?_
    rw [h7, nI_cl (by omega)]
    exact fx_r rfl rfl ⟨rfl, rfl⟩
  · rw [if_neg h]
    refine fx_bt rfl (by rw [h6, h7]; exact nI_le (by omega) (by omega)) ?_
    repeat' (first | refine fx_n rfl ?_ | refine fx_b rfl (fun _ => ?_) (fun _ => ?_) | refine fx_r rfl rfl ?_)
    exact ⟨rfl, rfl⟩
set_option maxRecDepth 100000 in
set_option maxHeartbeats 4000000 in
theorem em_none (d : Nat) (M : sy_Mm) : Ev d i_X8_none [.ref 30] M (some (.int (M 30 7))) (sy_up (sy_up M 30 8 0) 30 10 0) := by
  refine ev_of ?_
  repeat' (first | refine fx_n rfl ?_ | refine fx_b rfl (fun _ => ?_) (fun _ => ?_) | refine fx_r rfl rfl ?_)
  exact ⟨rfl, rfl⟩
theorem sub48 (x : Int32) : inR (x - 48) 0 7 = inR x 48 55 := by
  have h1 := Int32.toInt_lt x
  have h2 := Int32.le_toInt x
  have e : (x - 48).toInt = (x.toInt - 48).bmod 4294967296 := Int32.toInt_sub x 48
  rw [Int.bmod_def] at e
  unfold inR
  congr 1
  apply propext
  split at e <;> omega
/-- what reads() leaves: the fault's answer, the stones, their houses and which are forged; nothing else -/
def rdOK (b : Nat → Int32) (n : Nat) (M N : sy_Mm) : Prop := N 30 8 = nI (tx_st b n) ∧ N 30 10 = nI (bN (tx_fg b) (tx_st b n)) ∧ (∀ s, s < tx_st b n → N 36 s = b (2 * s) - 48) ∧ (∀ k, k ≠ 30 → k ≠ 36 → N k = M k) ∧ ∀ j, j ≠ 7 → j ≠ 8 → j ≠ 10 → N 30 j = M 30 j
theorem rd_bad {b : Nat → Int32} {n a : Nat} {M M1 : sy_Mm} (ha : a < 2 ^ 31) (hf : tx_fault b n = nI a) (aK : ∀ k, k ≠ 30 → k ≠ 36 → M1 k = M k) (a30 : ∀ j, j ≠ 7 → j ≠ 8 → j ≠ 10 → M1 30 j = M 30 j) : rdOK b n M (sy_up (sy_up M1 30 8 0) 30 10 0) := by
  have hs : tx_st b n = 0 := by unfold tx_st; rw [if_neg (by rw [hf]; exact nI_ne_m1 ha)]
  unfold rdOK
  rw [hs]
  refine ⟨?_, ?_, fun s h => by omega, fun k h1 h2 => ?_, fun j h1 h2 h3 => ?_⟩
  · rw [up_j (by omega), up_s]; rfl
  · rw [up_s]; rfl
  · rw [up_k h1, up_k h1]; exact aK k h1 h2
  · rw [up_j h3, up_j h2]; exact a30 j h1 h2 h3
set_option maxRecDepth 100000 in
set_option maxHeartbeats 4000000 in
theorem em_reads (d : Nat) (M : sy_Mm) (b : Nat → Int32) (n : Nat) (hn : n ≤ 30) (h6 : M 30 6 = nI n) (hb : ∀ j, j < n → M 35 j = b j) : Ex (d + 2) i_X8_reads [.ref 30] M (fun r N => r = some (.int (tx_fault b n)) ∧ rdOK b n M N) := by
  have loop : ∀ (j p : Nat) (x : Option Value) (M1 : sy_Mm), 2 * p + j = n → p ≤ 9 → tx_fault b n = tx_f b n j (2 * p) → M1 30 7 = nI (2 * p) → M1 30 8 = nI p → M1 30 10 = nI (bN (tx_fg b) p) → (∀ s, s < p → M1 36 s = b (2 * s) - 48) → (∀ k, k ≠ 30 → k ≠ 36 → M1 k = M k) → (∀ j, j ≠ 7 → j ≠ 8 → j ≠ 10 → M1 30 j = M 30 j) →
      Fx (d + 2) i_X8_reads 23 [some (.ref 30), x] [.int (M1 30 6), .int (M1 30 7)] M1 (fun r N => r = some (.int (tx_fault b n)) ∧ rdOK b n M N) := by
    intro j
    induction j using Nat.strongRecOn with
    | ind j ih =>
    intro p x M1 hj hp hF a7 a8 a10 a36 aK a30
    have a6 : M1 30 6 = nI n := (a30 6 (by omega) (by omega) (by omega)).trans h6
    have a35 : M1 35 = M 35 := aK 35 (by omega) (by omega)
    cases j with
    | zero =>
      refine fx_bt rfl (by rw [a6, a7]; exact nI_le (by omega) (by omega)) ?_
      have hf : tx_fault b n = -1 := by
        rw [hF]; unfold tx_f; rw [if_pos (by omega)]
      have hs : tx_st b n = p := by unfold tx_st; rw [if_pos hf]; omega
      repeat refine fx_n rfl ?_
      refine fx_r rfl rfl ⟨by rw [hf], ?_⟩
      unfold rdOK
      rw [hs]
      exact ⟨a8, a10, a36, aK, a30⟩
    | succ j =>
      refine fx_bf rfl (by rw [a6, a7]; exact nI_ge (by omega) (by omega)) ?_
      repeat refine fx_n rfl ?_
      refine fx_p rfl (em_here _ _ n (2 * p) hn (by omega) a6 a7) ?_
      rw [if_pos (by omega), a35, hb _ (by omega)]
      repeat refine fx_n rfl ?_
      by_cases hp9 : p = 9
      · refine fx_bt rfl (by rw [a8, hp9]; decide) ?_
        have hf : tx_fault b n = nI (2 * p) := by
          rw [hF]
          unfold tx_f
          have : tx_ok b (2 * p) = false := by simp [tx_ok, hp9]
          rw [this]; rfl
        repeat refine fx_n rfl ?_
        refine fx_c rfl (ex_of (em_none _ _)) ?_
        rintro _ _ ⟨rfl, rfl⟩
        refine fx_r rfl rfl ⟨by rw [a7, hf], rd_bad (by omega) hf aK a30⟩
      · refine fx_bf rfl (by rw [a8]; exact fun q => hp9 ((nI_eq (b := 9) (by omega) (by omega)).mp q)) ?_
        repeat refine fx_n rfl ?_
        refine fx_p rfl (em_isHouse _ _ _) ?_
        rw [sub48]
        have o1 : tx_ok b (2 * p) = inR (b (2 * p)) 48 55 := by
          have : 2 * p < 18 := by omega
          simp [tx_ok, this]
        have o2 : tx_ok b (2 * p + 1) = decide (b (2 * p + 1) = 114 ∨ b (2 * p + 1) = 102) := by
          have h1 : 2 * p + 1 < 18 := by omega
          have h2 : ¬ (2 * p + 1) % 2 = 0 := by omega
          simp [tx_ok, h1, h2]
        unfold tx_f at hF
        rw [o1] at hF
        cases q : inR (b (2 * p)) 48 55 with
        | false =>
          rw [q] at hF
          refine fx_bf rfl (by decide) ?_
          repeat refine fx_n rfl ?_
          refine fx_c rfl (ex_of (em_none _ _)) ?_
          rintro _ _ ⟨rfl, rfl⟩
          refine fx_r rfl rfl ⟨by rw [a7, hF]; rfl, rd_bad (by omega) hF aK a30⟩
        | true =>
          rw [q] at hF
          have hF : tx_fault b n = tx_f b n j (2 * p + 1) := hF
          refine fx_bt rfl (by decide) ?_
          repeat refine fx_n rfl ?_
          rw [a7, nI_1]
          generalize hM2 : sy_up M1 30 7 (nI (2 * p + 1)) = M2
          have c6 : M2 30 6 = nI n := by rw [← hM2, up_j (by omega)]; exact a6
          have c7 : M2 30 7 = nI (2 * p + 1) := by rw [← hM2, up_s]
          have c8 : M2 30 8 = nI p := by rw [← hM2, up_j (by omega)]; exact a8
          have c10 : M2 30 10 = nI (bN (tx_fg b) p) := by rw [← hM2, up_j (by omega)]; exact a10
          have cK : ∀ k, k ≠ 30 → k ≠ 36 → M2 k = M k := fun k h1 h2 => by rw [← hM2, up_k h1]; exact aK k h1 h2
          have c36 : ∀ s, s < p → M2 36 s = b (2 * s) - 48 := fun s hs => by rw [← hM2, up_k (by omega)]; exact a36 s hs
          have c30 : ∀ j, j ≠ 7 → j ≠ 8 → j ≠ 10 → M2 30 j = M 30 j := fun j h1 h2 h3 => by rw [← hM2, up_j h1]; exact a30 j h1 h2 h3
          have c35 : M2 35 = M 35 := cK 35 (by omega) (by omega)
          have hh := fun d => em_here d M2 n (2 * p + 1) hn (by omega) c6 c7
          cases j with
          | zero =>
            rw [if_neg (by omega)] at hh
            refine fx_p rfl (hh _) ?_
            repeat refine fx_n rfl ?_
            refine fx_bf rfl (by decide) ?_
            repeat refine fx_n rfl ?_
            refine fx_p rfl (hh _) ?_
            repeat refine fx_n rfl ?_
            refine fx_bf rfl (by decide) ?_
            repeat refine fx_n rfl ?_
            refine fx_c rfl (ex_of (em_none _ _)) ?_
            rintro _ _ ⟨rfl, rfl⟩
            have hf : tx_fault b n = nI (2 * p + 1) := by
              rw [hF]; unfold tx_f; rw [if_neg (by omega)]; congr 1; omega
            refine fx_r rfl rfl ⟨by rw [c7, hf], rd_bad (by omega) hf cK c30⟩
          | succ j =>
            rw [if_pos (by omega), c35, hb _ (by omega)] at hh
            unfold tx_f at hF
            rw [o2] at hF
            refine fx_p rfl (hh _) ?_
            repeat refine fx_n rfl ?_
            have go88 : (b (2 * p + 1) = 114 ∨ b (2 * p + 1) = 102) → Fx (d + 2) i_X8_reads 88 [some (.ref 30), some (.int (b (2 * p) - 48))] [] M2 (fun r N => r = some (.int (tx_fault b n)) ∧ rdOK b n M N) := by
              intro hrf
              rw [decide_eq_true hrf] at hF
              have hF : tx_fault b n = tx_f b n j (2 * p + 1 + 1) := hF
              repeat refine fx_n rfl ?_
              refine fx_p rfl (hh _) ?_
              repeat refine fx_n rfl ?_
              have fin : ∀ (w : Int32), w = nI (bN (tx_fg b) (p + 1)) → Fx (d + 2) i_X8_reads 125 [some (.ref 30), some (.int (b (2 * p) - 48))] [.int (b (2 * p) - 48), .int (sy_up M2 30 10 w 30 8), .ref 36] (sy_up M2 30 10 w) (fun r N => r = some (.int (tx_fault b n)) ∧ rdOK b n M N) := by
                intro w hw
                have e8 : sy_up M2 30 10 w 30 8 = nI p := by rw [up_j (by omega)]; exact c8
                rw [e8]
                refine fx_g rfl (ix_nI (by omega) (by omega)) ?_
                rw [nI_cl (by omega)]
                repeat refine fx_n rfl ?_
                refine ih j (by omega) (p + 1) _ _ (by omega) (by omega) ?_ ?_ ?_ ?_ ?_ ?_ ?_
                · rw [hF]; rfl
                · rw [up_s, up_j (by omega), up_k (by omega), up_j (by omega), c7, nI_1]; rfl
                · rw [up_j (by omega), up_s, up_k (by omega), up_j (by omega), c8, nI_1]
                · rw [up_j (by omega), up_j (by omega), up_k (by omega), up_s, hw]
                · intro s hs
                  rw [up_k (by omega), up_k (by omega)]
                  by_cases hsp : s = p
                  · subst hsp; rw [up_s]
                  · rw [up_j hsp, up_k (by omega)]; exact c36 s (by omega)
                · intro k h1 h2
                  rw [up_k h1, up_k h1, up_k h2, up_k h1]; exact cK k h1 h2
                · intro j h1 h2 h3
                  rw [up_j h1, up_j h2, up_k (by omega), up_j h3]; exact c30 j h1 h2 h3
              by_cases h102 : b (2 * p + 1) = 102
              · refine fx_bf rfl (fun q => q h102) ?_
                repeat refine fx_n rfl ?_
                rw [c8, c10]
                exact fin _ (bN_step (tx_fg b) (by omega) (by simp [tx_fg, h102]))
              · refine fx_bt rfl h102 ?_
                repeat refine fx_n rfl ?_
                rw [c10]
                refine fin _ ?_
                rw [Int32.or_zero, bN_skip (tx_fg b) (by simp [tx_fg, h102])]
            by_cases h114 : b (2 * p + 1) = 114
            · refine fx_bt rfl h114 ?_
              exact go88 (Or.inl h114)
            · refine fx_bf rfl h114 ?_
              repeat refine fx_n rfl ?_
              refine fx_p rfl (hh _) ?_
              repeat refine fx_n rfl ?_
              by_cases h102 : b (2 * p + 1) = 102
              · refine fx_bt rfl h102 ?_
                exact go88 (Or.inr h102)
              · refine fx_bf rfl h102 ?_
                rw [decide_eq_false (by simp [h114, h102])] at hF
                repeat refine fx_n rfl ?_
                refine fx_c rfl (ex_of (em_none _ _)) ?_
                rintro _ _ ⟨rfl, rfl⟩
                refine fx_r rfl rfl ⟨by rw [c7, hF]; rfl, rd_bad (by omega) hF cK c30⟩
  unfold Ex
  repeat refine fx_n rfl ?_
  refine loop n 0 _ _ (by omega) (by omega) rfl ?_ ?_ ?_ ?_ ?_ ?_
  · rw [up_j (by omega), up_j (by omega), up_s]; rfl
  · rw [up_j (by omega), up_s]; rfl
  · rw [up_s]; rfl
  · intro s hs; omega
  · intro k h1 h2; rw [up_k h1, up_k h1, up_k h1]
  · intro j h1 h2 h3; rw [up_j h3, up_j h2, up_j h1]
end
section
/-! ===== events, and the yard that they make ===== -/
def oI : Option Nat → Int32
  | none => -1
  | some k => nI k
theorem oI_n {o : Option Nat} (h : ∀ k, o = some k → k < 2 ^ 31) : oI o = -1 ↔ o = none := by
  cases o with
  | none => simp [oI]
  | some k =>
    simp only [oI]
    exact ⟨fun e => absurd e (nI_ne_m1 (h k rfl)), fun e => by cases e⟩
theorem oI_s {o : Option Nat} {k : Nat} (h : ∀ k, o = some k → k < 2 ^ 31) (hk : k < 2 ^ 31) : oI o = nI k ↔ o = some k := by
  cases o with
  | none =>
    simp only [oI]
    exact ⟨fun e => absurd e.symm (nI_ne_m1 hk), fun e => by cases e⟩
  | some j =>
    simp only [oI]
    rw [nI_eq (h j rfl) hk]
    simp
/-- an event's five parts: kind, night, stone, house, knowing -/
abbrev Evs : Type := Nat → Nat → Nat
def taleC (M : sy_Mm) (E : Evs) (ne : Nat) : Prop := M 3 5 = nI ne ∧ ∀ e, e < ne → M 4 e = nI (E e 0) ∧ M 5 e = nI (E e 1) ∧ M 6 e = nI (E e 2) ∧ M 7 e = nI (E e 3) ∧ M 8 e = nI (E e 4)
def taleM (M : sy_Mm) (E : Evs) (ne : Nat) : Prop := M 30 12 = nI ne ∧ ∀ e, e < ne → ∀ c, c < 5 → M 37 (5 * e + c) = nI (E e c)
def taleOK (E : Evs) (ne : Nat) : Prop := ne ≤ 40 ∧ (∀ e, e < ne → E e 0 ≤ 5 ∧ E e 1 ≤ 199 ∧ E e 2 ≤ 8 ∧ E e 3 ≤ 7 ∧ E e 4 ≤ 9) ∧ ∀ e, e + 1 < ne → E e 1 ≤ E (e + 1) 1
theorem tale_mono {E : Evs} {ne : Nat} (h : taleOK E ne) : ∀ (j e : Nat), e + j < ne → E e 1 ≤ E (e + j) 1
  | 0, _, _ => Nat.le_refl _
  | j + 1, e, hj => Nat.le_trans (tale_mono h j e (by omega)) (h.2.2 (e + j) (by omega))
abbrev Yd : Type := (Nat → Option Nat) × (Nat → Option Nat) × (Nat → Option Nat) × Nat × Option Nat × Nat
def uO (f : Nat → Option Nat) (k : Nat) (v : Option Nat) : Nat → Option Nat := fun j => if j = k then v else f j
theorem uO_s {f : Nat → Option Nat} {k : Nat} {v : Option Nat} : uO f k v k = v := by simp [uO]
theorem uO_n {f : Nat → Option Nat} {k j : Nat} {v : Option Nat} (h : j ≠ k) : uO f k v j = f j := by simp [uO, h]
def yLaw (S : Nat) (ow : Nat → Option Nat) (ev : Nat → Nat) : Bool := decide (ev 2 < S) && (if ev 0 < 3 then decide (ow (ev 2) ≠ none ∧ ow (ev 2) ≠ some (ev 3)) else if ev 0 = 4 then decide (ow (ev 2) = none) else decide (ow (ev 2) = some (ev 3)))
def yTrue (ev : Nat → Nat) : Bool := decide (ev 0 = 0 ∧ (ev 4 = 0 ∨ ev 4 % 2 = 1))
def yTell (S : Nat) (E : Evs) (e : Nat) (Y : Yd) : Yd := cond (yLaw S Y.1 (E e))
  (uO Y.1 (E e 2) (if E e 0 = 3 then none else some (E e 3)), uO Y.2.1 (E e 2) (cond (yTrue (E e)) (some (E e 1)) none), uO Y.2.2.1 (E e 2) (cond (yTrue (E e)) (some e) none), Y.2.2.2.1, Y.2.2.2.2.1, Y.2.2.2.2.2 + cond (yTrue (E e)) 1 0)
  (Y.1, Y.2.1, Y.2.2.1, Y.2.2.2.1 + 1, (if Y.2.2.2.2.1 = none then some e else Y.2.2.2.2.1), Y.2.2.2.2.2)
def y0 (h0 : Nat → Nat) : Yd := (fun s => some (h0 s), fun _ => none, fun _ => none, 0, none, 0)
/-- the first k events told, but one aside -/
def yG (S : Nat) (h0 : Nat → Nat) (E : Evs) (aside : Option Nat) : Nat → Yd
  | 0 => y0 h0
  | k + 1 => if some k = aside then yG S h0 E aside k else yTell S E k (yG S h0 E aside k)
/-- of the first k events those up to the night N told, but one aside -/
def yF (S : Nat) (h0 : Nat → Nat) (E : Evs) (aside : Option Nat) (N : Nat) : Nat → Yd
  | 0 => y0 h0
  | k + 1 => if some k = aside ∨ N < E k 1 then yF S h0 E aside N k else yTell S E k (yF S h0 E aside N k)
/-- where telling stops at the night N -/
def yStop (E : Evs) (ne N k : Nat) : Prop := k ≤ ne ∧ (∀ e, e < k → E e 1 ≤ N) ∧ (k < ne → N < E k 1)
theorem yF_lo {S : Nat} {h0 : Nat → Nat} {E : Evs} {aside : Option Nat} {N : Nat} : ∀ k, (∀ e, e < k → E e 1 ≤ N) → yF S h0 E aside N k = yG S h0 E aside k
  | 0, _ => rfl
  | k + 1, h => by
    unfold yF yG
    have ih := yF_lo (S := S) (h0 := h0) (E := E) (aside := aside) (N := N) k (fun e he => h e (by omega))
    have hk := h k (by omega)
    by_cases ha : some k = aside
    · rw [if_pos (Or.inl ha), if_pos ha, ih]
    · rw [if_neg (by rintro (q | q); exact ha q; omega), if_neg ha, ih]
theorem yF_hi {S : Nat} {h0 : Nat → Nat} {E : Evs} {aside : Option Nat} {N k : Nat} : ∀ j, (∀ e, k ≤ e → e < k + j → N < E e 1) → yF S h0 E aside N (k + j) = yF S h0 E aside N k
  | 0, _ => rfl
  | j + 1, h => by
    show (if some (k + j) = aside ∨ N < E (k + j) 1 then yF S h0 E aside N (k + j) else yTell S E (k + j) (yF S h0 E aside N (k + j))) = _
    rw [if_pos (Or.inr (h (k + j) (by omega) (by omega)))]
    exact yF_hi j (fun e h1 h2 => h e h1 (by omega))
theorem yF_stop {S : Nat} {h0 : Nat → Nat} {E : Evs} {aside : Option Nat} {ne N k : Nat} (hE : taleOK E ne) (h : yStop E ne N k) : yF S h0 E aside N ne = yG S h0 E aside k := by
  obtain ⟨h1, h2, h3⟩ := h
  rw [← yF_lo k h2]
  have e : ne = k + (ne - k) := by omega
  rw [e]
  refine yF_hi (ne - k) (fun e' a b => ?_)
  have := tale_mono hE (e' - k) k (by omega)
  rw [show k + (e' - k) = e' by omega] at this
  have := h3 (by omega)
  omega
def yOK (k : Nat) (Y : Yd) : Prop := (∀ s h, Y.1 s = some h → h < 8) ∧ (∀ s t, Y.2.1 s = some t → t < 200) ∧ (∀ s e, Y.2.2.1 s = some e → e < 40) ∧ Y.2.2.2.1 ≤ k ∧ (Y.2.2.2.2.1 = none ↔ Y.2.2.2.1 = 0) ∧ (∀ e, Y.2.2.2.2.1 = some e → e < 40) ∧ Y.2.2.2.2.2 ≤ k
theorem yTell_ok {S : Nat} {E : Evs} {ne e : Nat} {Y : Yd} {k : Nat} (hE : taleOK E ne) (he : e < ne) (h : yOK k Y) : yOK (k + 1) (yTell S E e Y) := by
  obtain ⟨h1, h2, h3, h4, h5, h6, h7⟩ := h
  obtain ⟨q0, q1, q2, q3, q4⟩ := hE.2.1 e he
  have hne := hE.1
  unfold yTell
  cases hl : yLaw S Y.1 (E e) with
  | true =>
    refine ⟨fun s h hs => ?_, fun s t hs => ?_, fun s t hs => ?_, ?_, h5, h6, ?_⟩
    · have hs : uO Y.1 (E e 2) (if E e 0 = 3 then none else some (E e 3)) s = some h := hs
      by_cases hq : s = E e 2
      · subst hq
        rw [uO_s] at hs
        split at hs
        · cases hs
        · cases hs; omega
      · rw [uO_n hq] at hs; exact h1 s h hs
    · have hs : uO Y.2.1 (E e 2) (cond (yTrue (E e)) (some (E e 1)) none) s = some t := hs
      by_cases hq : s = E e 2
      · subst hq
        rw [uO_s] at hs
        cases ht : yTrue (E e) with
        | true => rw [ht] at hs; cases hs; omega
        | false => rw [ht] at hs; cases hs
      · rw [uO_n hq] at hs; exact h2 s t hs
    · have hs : uO Y.2.2.1 (E e 2) (cond (yTrue (E e)) (some e) none) s = some t := hs
      by_cases hq : s = E e 2
      · subst hq
        rw [uO_s] at hs
        cases ht : yTrue (E e) with
        | true => rw [ht] at hs; cases hs; omega
        | false => rw [ht] at hs; cases hs
      · rw [uO_n hq] at hs; exact h3 s t hs
    · show Y.2.2.2.1 ≤ k + 1; omega
    · show Y.2.2.2.2.2 + cond (yTrue (E e)) 1 0 ≤ k + 1
      cases yTrue (E e) <;> simp <;> omega
  | false =>
    refine ⟨h1, h2, h3, by show Y.2.2.2.1 + 1 ≤ k + 1; omega, ?_, fun e' hs => ?_, by show Y.2.2.2.2.2 ≤ k + 1; omega⟩
    · show (if Y.2.2.2.2.1 = none then some e else Y.2.2.2.2.1) = none ↔ Y.2.2.2.1 + 1 = 0
      by_cases hq : Y.2.2.2.2.1 = none
      · rw [if_pos hq]; simp
      · rw [if_neg hq]; simp [hq]
    · have hs : (if Y.2.2.2.2.1 = none then some e else Y.2.2.2.2.1) = some e' := hs
      split at hs
      · cases hs; omega
      · exact h6 e' hs
theorem yG_ok {S : Nat} {h0 : Nat → Nat} {E : Evs} {aside : Option Nat} {ne : Nat} (hE : taleOK E ne) (h8 : ∀ s, h0 s < 8) : ∀ k, k ≤ ne → yOK k (yG S h0 E aside k)
  | 0, _ => ⟨fun s h e => by cases e; exact h8 s, fun s t e => by (cases e), fun s t e => by (cases e), Nat.le_refl _, by simp [yG, y0], fun e q => by (cases q), Nat.le_refl _⟩
  | k + 1, hk => by
    have ih := yG_ok (S := S) (h0 := h0) (aside := aside) hE h8 k (by omega)
    unfold yG
    split
    · obtain ⟨h1, h2, h3, h4, h5, h6, h7⟩ := ih
      exact ⟨h1, h2, h3, by omega, h5, h6, by omega⟩
    · exact yTell_ok hE (by omega) ih
theorem yLaw_S {S : Nat} {ow : Nat → Option Nat} {ev : Nat → Nat} (h : yLaw S ow ev = true) : ev 2 < S := by
  simp only [yLaw, Bool.and_eq_true, decide_eq_true_eq] at h
  exact h.1
/-! ===== the class: tale ===== -/
set_option maxRecDepth 100000 in
set_option maxHeartbeats 4000000 in
theorem ev_isTrueTheft (d : Nat) (M : sy_Mm) (E : Evs) (ne e : Nat) (hE : taleOK E ne) (hT : taleC M E ne) (he : e < ne) : Ev d i_X4_isTrueTheft [.ref 3, .int (nI e)] M (some (.int (zb (yTrue (E e))))) M := by
  obtain ⟨q0, q1, q2, q3, q4⟩ := hE.2.1 e he
  obtain ⟨t0, t1, t2, t3, t4⟩ := hT.2 e he
  have hne := hE.1
  refine ev_of ?_
  repeat refine fx_n rfl ?_
  refine fx_g rfl (ix_nI (by omega) (by omega)) ?_
  rw [nI_cl (by omega), t0]
  by_cases h0 : E e 0 = 0
  · refine fx_bf rfl (by rw [h0]; decide) ?_
    repeat refine fx_n rfl ?_
    refine fx_g rfl (ix_nI (by omega) (by omega)) ?_
    rw [nI_cl (by omega), t4]
    by_cases h4 : E e 4 = 0
    · refine fx_bt rfl (by rw [h4]; decide) ?_
      repeat refine fx_n rfl ?_
      refine fx_r rfl rfl ⟨?_, rfl⟩
      simp [yTrue, h0, h4, zb]
    · refine fx_bf rfl (nI_ne0 (by omega) (by omega)) ?_
      repeat refine fx_n rfl ?_
      refine fx_g rfl (ix_nI (by omega) (by omega)) ?_
      rw [nI_cl (by omega), t4]
      repeat refine fx_n rfl ?_
      refine fx_g rfl (by decide) ?_
      rw [rem2 (by omega)]
      repeat refine fx_n rfl ?_
      by_cases h2 : E e 4 % 2 = 1
      · refine fx_bf rfl (by rw [h2]; decide) ?_
        repeat refine fx_n rfl ?_
        refine fx_r rfl rfl ⟨?_, rfl⟩
        simp [yTrue, h0, h2, zb]
      · refine fx_bt rfl (by rw [show E e 4 % 2 = 0 by omega]; decide) ?_
        repeat refine fx_n rfl ?_
        refine fx_r rfl rfl ⟨?_, rfl⟩
        simp [yTrue, h0, h2, h4, zb]
  · refine fx_bt rfl (nI_ne0 (by omega) (by omega)) ?_
    repeat refine fx_n rfl ?_
    refine fx_r rfl rfl ⟨?_, rfl⟩
    simp [yTrue, h0, zb]
/-- the owners as the class holds them -/
def ownC (M : sy_Mm) (S : Nat) (ow : Nat → Option Nat) : Prop := ∀ s, s < S → M 10 s = oI (ow s)
set_option maxRecDepth 100000 in
set_option maxHeartbeats 4000000 in
theorem ev_isLawful (d : Nat) (M : sy_Mm) (E : Evs) (ne e S : Nat) (ow : Nat → Option Nat) (hE : taleOK E ne) (hT : taleC M E ne) (he : e < ne) (hS : S ≤ 9) (h3 : M 1 3 = nI S) (hO : ownC M S ow) (h8 : ∀ s h, ow s = some h → h < 8) : Ev d i_X6_isLawful [.ref 9, .int (nI e)] M (some (.int (zb (yLaw S ow (E e))))) M := by
  obtain ⟨q0, q1, q2, q3, q4⟩ := hE.2.1 e he
  obtain ⟨t0, t1, t2, t3, t4⟩ := hT.2 e he
  have hne := hE.1
  have hb : ∀ k, ow (E e 2) = some k → k < 2 ^ 31 := fun k hk => by have := h8 _ _ hk; omega
  refine ev_of ?_
  repeat refine fx_n rfl ?_
  refine fx_g rfl (ix_nI (by omega) (by omega)) ?_
  rw [nI_cl (by omega), t2]
  repeat refine fx_n rfl ?_
  rw [h3]
  by_cases h2 : E e 2 < S
  · have hw := hO _ h2
    refine fx_bt rfl (nI_lt h2 (by omega)) ?_
    repeat refine fx_n rfl ?_
    refine fx_g rfl (ix_nI (by omega) (by omega)) ?_
    rw [nI_cl (by omega), t0]
    have low : E e 0 < 3 → Fx d i_X6_isLawful 68 [some (.ref 9), some (.int (nI e)), some (.int (nI (E e 2)))] [] M (fun r N => r = some (.int (zb (yLaw S ow (E e)))) ∧ N = M) := by
      intro hk
      repeat refine fx_n rfl ?_
      refine fx_g rfl (ix_nI (by omega) (by omega)) ?_
      rw [nI_cl (by omega), hw]
      repeat refine fx_n rfl ?_
      by_cases g1 : ow (E e 2) = none
      · refine fx_bt rfl ((oI_n hb).mpr g1) ?_
        repeat refine fx_n rfl ?_
        refine fx_r rfl rfl ⟨?_, rfl⟩
        simp [yLaw, h2, hk, g1, zb]
      · refine fx_bf rfl (fun z => g1 ((oI_n hb).mp z)) ?_
        repeat refine fx_n rfl ?_
        refine fx_g rfl (ix_nI (by omega) (by omega)) ?_
        rw [nI_cl (by omega), hw]
        repeat refine fx_n rfl ?_
        refine fx_g rfl (ix_nI (by omega) (by omega)) ?_
        rw [nI_cl (by omega), t3]
        by_cases g2 : ow (E e 2) = some (E e 3)
        · refine fx_bt rfl ((oI_s hb (by omega)).mpr g2) ?_
          repeat refine fx_n rfl ?_
          refine fx_r rfl rfl ⟨?_, rfl⟩
          simp [yLaw, h2, hk, g2, zb]
        · refine fx_bf rfl (fun z => g2 ((oI_s hb (by omega)).mp z)) ?_
          repeat refine fx_n rfl ?_
          refine fx_r rfl rfl ⟨?_, rfl⟩
          simp [yLaw, h2, hk, g1, g2, zb]
    have high : ¬ E e 0 < 3 → ¬ E e 0 = 4 → Fx d i_X6_isLawful 118 [some (.ref 9), some (.int (nI e)), some (.int (nI (E e 2)))] [] M (fun r N => r = some (.int (zb (yLaw S ow (E e)))) ∧ N = M) := by
      intro hk hk4
      repeat refine fx_n rfl ?_
      refine fx_g rfl (ix_nI (by omega) (by omega)) ?_
      rw [nI_cl (by omega), hw]
      repeat refine fx_n rfl ?_
      refine fx_g rfl (ix_nI (by omega) (by omega)) ?_
      rw [nI_cl (by omega), t3]
      by_cases g2 : ow (E e 2) = some (E e 3)
      · refine fx_bf rfl (fun z => z ((oI_s hb (by omega)).mpr g2)) ?_
        repeat refine fx_n rfl ?_
        refine fx_r rfl rfl ⟨?_, rfl⟩
        simp [yLaw, h2, hk, hk4, g2, zb]
      · refine fx_bt rfl (fun z => g2 ((oI_s hb (by omega)).mp z)) ?_
        repeat refine fx_n rfl ?_
        refine fx_r rfl rfl ⟨?_, rfl⟩
        simp [yLaw, h2, hk, hk4, g2, zb]
    rcases (show E e 0 = 0 ∨ E e 0 = 1 ∨ E e 0 = 2 ∨ E e 0 = 3 ∨ E e 0 = 4 ∨ E e 0 = 5 by omega) with h0 | h0 | h0 | h0 | h0 | h0
    · rw [h0]; exact fx_g rfl (by decide) (low (by omega))
    · rw [h0]; exact fx_g rfl (by decide) (low (by omega))
    · rw [h0]; exact fx_g rfl (by decide) (low (by omega))
    · rw [h0]; exact fx_g rfl (by decide) (high (by omega) (by omega))
    · rw [h0]
      refine fx_g rfl (by decide) (show Fx _ _ 102 _ _ _ _ from ?_)
      repeat refine fx_n rfl ?_
      refine fx_g rfl (ix_nI (by omega) (by omega)) ?_
      rw [nI_cl (by omega), hw]
      repeat refine fx_n rfl ?_
      by_cases g1 : ow (E e 2) = none
      · refine fx_bf rfl (fun z => z ((oI_n hb).mpr g1)) ?_
        repeat refine fx_n rfl ?_
        refine fx_r rfl rfl ⟨?_, rfl⟩
        simp [yLaw, h2, h0, g1, zb]
      · refine fx_bt rfl (fun z => g1 ((oI_n hb).mp z)) ?_
        repeat refine fx_n rfl ?_
        refine fx_r rfl rfl ⟨?_, rfl⟩
        simp [yLaw, h2, h0, g1, zb]
    · rw [h0]; exact fx_g rfl (by decide) (high (by omega) (by omega))
  · refine fx_bf rfl (nI_nlt (by omega) (by omega)) ?_
    repeat refine fx_n rfl ?_
    refine fx_r rfl rfl ⟨?_, rfl⟩
    simp [yLaw, h2, zb]
end
section
/-! ===== the class: the yard ===== -/
/-- the first night without luck, as the class holds it -/
def uI (L : Nat) : Option Nat → Int32
  | none => 0
  | some t => nI (t + L)
/-- what the yard's rows hold -/
def yardC (M : sy_Mm) (S L : Nat) (Y : Yd) : Prop := ownC M S Y.1 ∧ (∀ s, s < S → M 11 s = uI L (Y.2.1 s)) ∧ (∀ s, s < S → M 12 s = oI (Y.2.2.1 s)) ∧ M 9 8 = nI Y.2.2.2.1 ∧ M 9 9 = oI Y.2.2.2.2.1 ∧ M 9 10 = nI Y.2.2.2.2.2
/-- what telling leaves as it was: all but the yard's scratch -/
def kpY (M N : sy_Mm) : Prop := (∀ k, k ≠ 9 → k ≠ 10 → k ≠ 11 → k ≠ 12 → N k = M k) ∧ ∀ j, j ≠ 5 → j ≠ 7 → j ≠ 8 → j ≠ 9 → j ≠ 10 → N 9 j = M 9 j
theorem kpY.rf {M : sy_Mm} : kpY M M := ⟨fun _ _ _ _ _ => rfl, fun _ _ _ _ _ _ => rfl⟩
theorem kpY.tr {M N K : sy_Mm} (h : kpY M N) (g : kpY N K) : kpY M K := ⟨fun k a b c d => (g.1 k a b c d).trans (h.1 k a b c d), fun j a b c d e => (g.2 j a b c d e).trans (h.2 j a b c d e)⟩
theorem kpY.up9 {M N : sy_Mm} (h : kpY M N) {j : Nat} {x : Int32} (hj : j = 5 ∨ j = 7 ∨ j = 8 ∨ j = 9 ∨ j = 10) : kpY M (sy_up N 9 j x) := ⟨fun k a b c d => by rw [up_k a]; exact h.1 k a b c d, fun i a b c d e => by rw [up_j (by omega)]; exact h.2 i a b c d e⟩
theorem kpY.up {M N : sy_Mm} (h : kpY M N) {k j : Nat} {x : Int32} (hk : k = 10 ∨ k = 11 ∨ k = 12) : kpY M (sy_up N k j x) := ⟨fun q a b c d => by rw [up_k (by omega)]; exact h.1 q a b c d, fun i a b c d e => by rw [up_k (by omega)]; exact h.2 i a b c d e⟩
theorem taleC.kp {M N : sy_Mm} {E : Evs} {ne : Nat} (h : taleC M E ne) (k : kpY M N) : taleC N E ne := by
  refine ⟨by rw [k.1 3 (by omega) (by omega) (by omega) (by omega)]; exact h.1, fun e he => ?_⟩
  rw [k.1 4 (by omega) (by omega) (by omega) (by omega), k.1 5 (by omega) (by omega) (by omega) (by omega), k.1 6 (by omega) (by omega) (by omega) (by omega), k.1 7 (by omega) (by omega) (by omega) (by omega), k.1 8 (by omega) (by omega) (by omega) (by omega)]
  exact h.2 e he
set_option maxRecDepth 100000 in
set_option maxHeartbeats 4000000 in
theorem ex_tell (d : Nat) (M : sy_Mm) (E : Evs) (ne e S L : Nat) (Y : Yd) (k0 : Nat) (hE : taleOK E ne) (hT : taleC M E ne) (he : e < ne) (hS : S ≤ 9) (h3 : M 1 3 = nI S) (h6 : M 9 6 = nI L) (hL : L ≤ 99) (hY : yardC M S L Y) (hok : yOK k0 Y) (hk0 : k0 ≤ 40) : Ex (d + 1) i_X6_tell [.ref 9, .int (nI e)] M (fun r N => r = none ∧ yardC N S L (yTell S E e Y) ∧ kpY M N ∧ N 9 7 = M 9 7 ∧ N 9 5 = M 9 5) := by
  obtain ⟨q0, q1, q2, q3, q4⟩ := hE.2.1 e he
  obtain ⟨t0, t1, t2, t3, t4⟩ := hT.2 e he
  have hne := hE.1
  obtain ⟨o1, o2, o3, o4, o5, o6, o7⟩ := hok
  obtain ⟨y1, y2, y3, y4, y5, y6⟩ := hY
  unfold Ex
  repeat refine fx_n rfl ?_
  refine fx_p rfl (ev_isLawful _ _ E ne e S Y.1 hE hT he hS h3 y1 o1) ?_
  cases hl : yLaw S Y.1 (E e) with
  | false =>
    have eY : yTell S E e Y = (Y.1, Y.2.1, Y.2.2.1, Y.2.2.2.1 + 1, (if Y.2.2.2.2.1 = none then some e else Y.2.2.2.2.1), Y.2.2.2.2.2) := by unfold yTell; rw [hl]; rfl
    rw [eY]
    refine fx_bf rfl (by decide) ?_
    repeat refine fx_n rfl ?_
    rw [y4]
    by_cases ha : Y.2.2.2.1 = 0
    · refine fx_bf rfl (by rw [ha]; decide) ?_
      repeat refine fx_n rfl ?_
      refine fx_r rfl rfl ⟨rfl, ⟨?_, ?_, ?_, ?_, ?_, ?_⟩, (kpY.rf.up9 (by omega)).up9 (by omega), ?_, ?_⟩
      · intro s hs; rw [up_k (by omega), up_k (by omega)]; exact y1 s hs
      · intro s hs; rw [up_k (by omega), up_k (by omega)]; exact y2 s hs
      · intro s hs; rw [up_k (by omega), up_k (by omega)]; exact y3 s hs
      · rw [up_s, up_j (by omega), y4, nI_1]
      · rw [up_j (by omega), up_s, if_pos (o5.mpr ha)]; rfl
      · rw [up_j (by omega), up_j (by omega)]; exact y6
      · rw [up_j (by omega), up_j (by omega)]
      · rw [up_j (by omega), up_j (by omega)]
    · refine fx_bt rfl (nI_ne0 (by omega) (by omega)) ?_
      repeat refine fx_n rfl ?_
      refine fx_r rfl rfl ⟨rfl, ⟨?_, ?_, ?_, ?_, ?_, ?_⟩, kpY.rf.up9 (by omega), ?_, ?_⟩
      · intro s hs; rw [up_k (by omega)]; exact y1 s hs
      · intro s hs; rw [up_k (by omega)]; exact y2 s hs
      · intro s hs; rw [up_k (by omega)]; exact y3 s hs
      · rw [up_s, y4, nI_1]
      · rw [up_j (by omega), if_neg (fun q => ha (o5.mp q))]; exact y5
      · rw [up_j (by omega)]; exact y6
      · rw [up_j (by omega)]
      · rw [up_j (by omega)]
  | true =>
    have hs2 := yLaw_S hl
    have eY : yTell S E e Y = (uO Y.1 (E e 2) (if E e 0 = 3 then none else some (E e 3)), uO Y.2.1 (E e 2) (cond (yTrue (E e)) (some (E e 1)) none), uO Y.2.2.1 (E e 2) (cond (yTrue (E e)) (some e) none), Y.2.2.2.1, Y.2.2.2.2.1, Y.2.2.2.2.2 + cond (yTrue (E e)) 1 0) := by unfold yTell; rw [hl]; rfl
    rw [eY]
    refine fx_bt rfl (by decide) ?_
    repeat refine fx_n rfl ?_
    refine fx_g rfl (ix_nI (by omega) (by omega)) ?_
    rw [nI_cl (by omega), t2]
    repeat refine fx_n rfl ?_
    refine fx_g rfl (ix_nI (by omega) (by omega)) ?_
    rw [nI_cl (by omega)]
    repeat refine fx_n rfl ?_
    refine fx_g rfl (ix_nI (by omega) (by omega)) ?_
    rw [nI_cl (by omega)]
    repeat refine fx_n rfl ?_
    refine fx_g rfl (ix_nI (by omega) (by omega)) ?_
    rw [nI_cl (by omega)]
    generalize hM1 : sy_up (sy_up M 11 (E e 2) 0) 12 (E e 2) (-1) = M1
    have a4 : ∀ k, k ≠ 11 → k ≠ 12 → M1 k = M k := fun k h1 h2 => by rw [← hM1, up_k h2, up_k h1]
    have a11 : ∀ s, s < S → M1 11 s = if s = E e 2 then 0 else uI L (Y.2.1 s) := by
      intro s hs
      rw [← hM1, up_k (by omega)]
      by_cases hq : s = E e 2
      · rw [if_pos hq, hq, up_s]
      · rw [if_neg hq, up_j hq]; exact y2 s hs
    have a12 : ∀ s, s < S → M1 12 s = if s = E e 2 then -1 else oI (Y.2.2.1 s) := by
      intro s hs
      rw [← hM1]
      by_cases hq : s = E e 2
      · rw [if_pos hq, hq, up_s]
      · rw [if_neg hq, up_j hq, up_k (by omega)]; exact y3 s hs
    have aK : kpY M M1 := by rw [← hM1]; exact (kpY.rf.up (by omega)).up (by omega)
    have s0 : M1 4 e = nI (E e 0) := by rw [a4 4 (by omega) (by omega)]; exact t0
    rw [s0]
    repeat refine fx_n rfl ?_
    have rest : ∀ M2 : sy_Mm, (∀ k, k ≠ 10 → M2 k = M1 k) → (∀ s, s < S → M2 10 s = oI (uO Y.1 (E e 2) (if E e 0 = 3 then none else some (E e 3)) s)) → kpY M M2 → Fx (d + 1) i_X6_tell 100 [some (.ref 9), some (.int (nI e)), some (.int (nI (E e 2)))] [] M2 (fun r N => r = none ∧ yardC N S L (uO Y.1 (E e 2) (if E e 0 = 3 then none else some (E e 3)), uO Y.2.1 (E e 2) (cond (yTrue (E e)) (some (E e 1)) none), uO Y.2.2.1 (E e 2) (cond (yTrue (E e)) (some e) none), Y.2.2.2.1, Y.2.2.2.2.1, Y.2.2.2.2.2 + cond (yTrue (E e)) 1 0) ∧ kpY M N ∧ N 9 7 = M 9 7 ∧ N 9 5 = M 9 5) := by
      intro M2 b b10 bK
      have hT2 := hT.kp bK
      have b9 : M2 9 = M 9 := by rw [b 9 (by omega), a4 9 (by omega) (by omega)]
      repeat refine fx_n rfl ?_
      refine fx_p rfl (ev_isTrueTheft _ _ E ne e hE hT2 he) ?_
      cases ht : yTrue (E e) with
      | false =>
        refine fx_bt rfl (by decide) ?_
        repeat refine fx_n rfl ?_
        refine fx_r rfl rfl ⟨rfl, ⟨b10, ?_, ?_, ?_, ?_, ?_⟩, bK, by rw [b9], by rw [b9]⟩
        · intro s hs
          rw [b 11 (by omega), a11 s hs]
          by_cases hq : s = E e 2
          · rw [if_pos hq]; simp [uO, hq, uI]
          · rw [if_neg hq]; simp [uO, hq]
        · intro s hs
          rw [b 12 (by omega), a12 s hs]
          by_cases hq : s = E e 2
          · rw [if_pos hq]; simp [uO, hq, oI]
          · rw [if_neg hq]; simp [uO, hq]
        · rw [b9]; exact y4
        · rw [b9]; exact y5
        · rw [b9]; exact y6
      | true =>
        refine fx_bf rfl (by decide) ?_
        repeat refine fx_n rfl ?_
        refine fx_g rfl (ix_nI (by omega) (by omega)) ?_
        rw [nI_cl (by omega), (hT2.2 e he).2.1]
        repeat refine fx_n rfl ?_
        have e6 : M2 9 6 = nI L := by rw [b9]; exact h6
        rw [e6, nI_add]
        refine fx_g rfl (ix_nI (by omega) (by omega)) ?_
        rw [nI_cl (by omega)]
        repeat refine fx_n rfl ?_
        refine fx_g rfl (ix_nI (by omega) (by omega)) ?_
        rw [nI_cl (by omega)]
        repeat refine fx_n rfl ?_
        refine fx_r rfl rfl ⟨rfl, ⟨?_, ?_, ?_, ?_, ?_, ?_⟩, ((bK.up (by omega)).up (by omega)).up9 (by omega), ?_, ?_⟩
        · intro s hs; rw [up_k (by omega), up_k (by omega), up_k (by omega)]; exact b10 s hs
        · intro s hs
          rw [up_k (by omega), up_k (by omega)]
          by_cases hq : s = E e 2
          · rw [hq, up_s]; simp [uO, uI]
          · rw [up_j hq, b 11 (by omega), a11 s hs, if_neg hq]; simp [uO, hq]
        · intro s hs
          rw [up_k (by omega)]
          by_cases hq : s = E e 2
          · rw [hq, up_s]; simp [uO, oI]
          · rw [up_j hq, up_k (by omega), b 12 (by omega), a12 s hs, if_neg hq]; simp [uO, hq]
        · rw [up_j (by omega), up_k (by omega), up_k (by omega), b9]; exact y4
        · rw [up_j (by omega), up_k (by omega), up_k (by omega), b9]; exact y5
        · rw [up_s, up_k (by omega), up_k (by omega), b9, y6, nI_1]; rfl
        · rw [up_j (by omega), up_k (by omega), up_k (by omega), b9]
        · rw [up_j (by omega), up_k (by omega), up_k (by omega), b9]
    have w10 : ∀ s, s < S → M1 10 s = oI (Y.1 s) := fun s hs => by rw [a4 10 (by omega) (by omega)]; exact y1 s hs
    by_cases h5 : E e 0 = 5
    · refine fx_bt rfl (by rw [h5]; decide) ?_
      refine rest M1 (fun _ _ => rfl) (fun s hs => ?_) aK
      rw [w10 s hs]
      by_cases hq : s = E e 2
      · have : Y.1 (E e 2) = some (E e 3) := by
          simp only [yLaw, Bool.and_eq_true, decide_eq_true_eq] at hl
          rw [if_neg (by omega), if_neg (by omega), decide_eq_true_eq] at hl
          exact hl.2
        rw [hq, uO_s, if_neg (by omega), this]
      · rw [uO_n hq]
    · refine fx_bf rfl (fun z => h5 ((nI_eq (b := 5) (by omega) (by omega)).mp z)) ?_
      repeat refine fx_n rfl ?_
      refine fx_g rfl (ix_nI (by omega) (by omega)) ?_
      rw [nI_cl (by omega), s0]
      repeat refine fx_n rfl ?_
      have put : ∀ w : Int32, w = oI (if E e 0 = 3 then none else some (E e 3)) → Fx (d + 1) i_X6_tell 99 [some (.ref 9), some (.int (nI e)), some (.int (nI (E e 2)))] [.int w, .int (nI (E e 2)), .ref 10] M1 (fun r N => r = none ∧ yardC N S L (uO Y.1 (E e 2) (if E e 0 = 3 then none else some (E e 3)), uO Y.2.1 (E e 2) (cond (yTrue (E e)) (some (E e 1)) none), uO Y.2.2.1 (E e 2) (cond (yTrue (E e)) (some e) none), Y.2.2.2.1, Y.2.2.2.2.1, Y.2.2.2.2.2 + cond (yTrue (E e)) 1 0) ∧ kpY M N ∧ N 9 7 = M 9 7 ∧ N 9 5 = M 9 5) := by
        intro w hw
        refine fx_g rfl (ix_nI (by omega) (by omega)) ?_
        rw [nI_cl (by omega)]
        refine rest _ (fun k hk => up_k hk) (fun s hs => ?_) (aK.up (by omega))
        by_cases hq : s = E e 2
        · rw [hq, up_s, uO_s, hw]
        · rw [up_j hq, uO_n hq]; exact w10 s hs
      by_cases hk3 : E e 0 = 3
      · refine fx_bf rfl (by rw [hk3]; decide) ?_
        repeat refine fx_n rfl ?_
        exact put _ (by rw [if_pos hk3]; rfl)
      · refine fx_bt rfl (fun z => hk3 ((nI_eq (b := 3) (by omega) (by omega)).mp z)) ?_
        repeat refine fx_n rfl ?_
        refine fx_g rfl (ix_nI (by omega) (by omega)) ?_
        rw [nI_cl (by omega), show M1 7 e = nI (E e 3) by rw [a4 7 (by omega) (by omega)]; exact t3]
        exact put _ (by rw [if_neg hk3]; rfl)
end
section
def tx_h (b : Nat → Int32) (s : Nat) : Nat := (b (2 * s) - 48).toNatClampNeg % 8
theorem tx_h_lt (b : Nat → Int32) (s : Nat) : tx_h b s < 8 := Nat.mod_lt _ (by omega)
theorem tx_h_eq {b : Nat → Int32} {n s : Nat} (hn : n ≤ 30) (hs : s < tx_st b n) : b (2 * s) - 48 = nI (tx_h b s) := by
  have h := (tx_byte hn hs).1
  rw [← sub48] at h
  obtain ⟨k, hk, e⟩ := inR_nI (b := 7) h
  unfold tx_h
  rw [e, nI_cl (by omega), Nat.mod_eq_of_lt (by omega)]
/-- what the class's questions rest on: events, stones, luck's length, the houses at first, which are forged -/
def ctC (M : sy_Mm) (E : Evs) (ne S L : Nat) (h0 : Nat → Nat) (fg : Nat → Bool) : Prop := taleOK E ne ∧ taleC M E ne ∧ S ≤ 9 ∧ M 1 3 = nI S ∧ M 9 6 = nI L ∧ (1 ≤ L ∧ L ≤ 99) ∧ (∀ s, s < S → M 2 (2 * s) - 48 = nI (h0 s)) ∧ (∀ s, h0 s < 8) ∧ ∀ s, s < S → tx_fg (M 2) s = fg s
theorem ctC.kp {M N : sy_Mm} {E : Evs} {ne S L : Nat} {h0 : Nat → Nat} {fg : Nat → Bool} (h : ctC M E ne S L h0 fg) (k : kpY M N) : ctC N E ne S L h0 fg := by
  obtain ⟨a1, a2, a3, a4, a5, a6, a7, a8, a9⟩ := h
  have k1 := k.1 1 (by omega) (by omega) (by omega) (by omega)
  have k2 := k.1 2 (by omega) (by omega) (by omega) (by omega)
  refine ⟨a1, a2.kp k, a3, by rw [k1]; exact a4, by rw [k.2 6 (by omega) (by omega) (by omega) (by omega) (by omega)]; exact a5, a6, ?_, a8, ?_⟩
  · rw [k2]; exact a7
  · rw [k2]; exact a9
def rlB (fg : Nat → Bool) (s : Nat) : Bool := !fg s
set_option maxRecDepth 100000 in
set_option maxHeartbeats 4000000 in
theorem ex_begin (d : Nat) (M : sy_Mm) (E : Evs) (ne S L : Nat) (h0 : Nat → Nat) (fg : Nat → Bool) (hC : ctC M E ne S L h0 fg) : Ex (d + 2) i_X6_begin [.ref 9] M (fun r N => r = none ∧ yardC N S L (y0 h0) ∧ N 9 7 = nI 0 ∧ N 9 5 = nI (bN (rlB fg) S) ∧ kpY M N) := by
  have loop : ∀ (j s : Nat) (M1 : sy_Mm), s + j = S → (∀ i, i < s → M1 10 i = nI (h0 i) ∧ M1 11 i = 0 ∧ M1 12 i = -1) → kpY M M1 → Fx (d + 2) i_X6_begin 10 [some (.ref 9), some (.int (nI s))] [.int (M1 1 3), .int (nI s)] M1 (fun r N => r = none ∧ yardC N S L (y0 h0) ∧ N 9 7 = nI 0 ∧ N 9 5 = nI (bN (rlB fg) S) ∧ kpY M N) := by
    intro j
    induction j with
    | zero =>
      intro s M1 hs hI hK
      have e : s = S := by omega
      subst e
      obtain ⟨a1, a2, a3, a4, a5, a6, a7, a8, a9⟩ := hC.kp hK
      refine fx_bt rfl (by rw [a4]; exact nI_le (Nat.le_refl _) (by omega)) ?_
      repeat refine fx_n rfl ?_
      refine fx_p rfl (ev_realStones _ _ s a3 a4) ?_
      rw [bN_congr (q := rlB fg) s (fun i hi => by show (!tx_fg (M1 2) i) = !fg i; rw [a9 i hi])]
      repeat refine fx_n rfl ?_
      refine fx_r rfl rfl ⟨rfl, ⟨?_, ?_, ?_, ?_, ?_, ?_⟩, ?_, ?_, ((((hK.up9 (by omega)).up9 (by omega)).up9 (by omega)).up9 (by omega)).up9 (by omega)⟩
      · intro i hi; rw [up_k (by omega), up_k (by omega), up_k (by omega), up_k (by omega), up_k (by omega)]; exact (hI i hi).1
      · intro i hi; rw [up_k (by omega), up_k (by omega), up_k (by omega), up_k (by omega), up_k (by omega)]; exact (hI i hi).2.1
      · intro i hi; rw [up_k (by omega), up_k (by omega), up_k (by omega), up_k (by omega), up_k (by omega)]; exact (hI i hi).2.2
      · rw [up_j (by omega), up_j (by omega), up_s]; rfl
      · rw [up_j (by omega), up_s]; rfl
      · rw [up_s]; rfl
      · rw [up_j (by omega), up_j (by omega), up_j (by omega), up_s]; rfl
      · rw [up_j (by omega), up_j (by omega), up_j (by omega), up_j (by omega), up_s]
    | succ j ih =>
      intro s M1 hs hI hK
      obtain ⟨a1, a2, a3, a4, a5, a6, a7, a8, a9⟩ := hC.kp hK
      refine fx_bf rfl (by rw [a4]; exact nI_ge (by omega) (by omega)) ?_
      repeat refine fx_n rfl ?_
      refine fx_p rfl (ev_houseOf _ _ s (by omega)) ?_
      rw [a7 s (by omega)]
      refine fx_g rfl (ix_nI (by omega) (by omega)) ?_
      rw [nI_cl (by omega)]
      repeat refine fx_n rfl ?_
      refine fx_g rfl (ix_nI (by omega) (by omega)) ?_
      rw [nI_cl (by omega)]
      repeat refine fx_n rfl ?_
      refine fx_g rfl (ix_nI (by omega) (by omega)) ?_
      rw [nI_cl (by omega)]
      repeat refine fx_n rfl ?_
      rw [nI_1]
      refine ih (s + 1) _ (by omega) (fun i hi => ?_) (((hK.up (by omega)).up (by omega)).up (by omega))
      by_cases hq : i = s
      · subst hq
        exact ⟨by rw [up_k (by omega), up_k (by omega), up_s], by rw [up_k (by omega), up_s], up_s⟩
      · rw [up_k (by omega), up_k (by omega), up_j hq, up_k (by omega), up_j hq, up_j hq, up_k (by omega), up_k (by omega), up_k (by omega)]
        exact hI i (by omega)
  unfold Ex
  repeat refine fx_n rfl ?_
  exact loop S 0 M (by omega) (fun i hi => by omega) kpY.rf
set_option maxRecDepth 100000 in
set_option maxHeartbeats 4000000 in
theorem ex_tellTo (d : Nat) (E : Evs) (ne S L N : Nat) (h0 : Nat → Nat) (fg : Nat → Bool) (aside : Option Nat) (hN : N ≤ 299) (ha : ∀ e, aside = some e → e < 2 ^ 31) : ∀ (j k : Nat) (M : sy_Mm), k + j = ne → ctC M E ne S L h0 fg → yardC M S L (yG S h0 E aside k) → M 9 7 = nI k → (∀ e, e < k → E e 1 ≤ N) →
    Fx (d + 2) i_X6_tellTo 11 [some (.ref 9), some (.int (nI N)), some (.int (oI aside))] [.int (M 3 5), .int (M 9 7)] M (fun r M' => r = none ∧ (∃ k', yStop E ne N k' ∧ M' 9 7 = nI k' ∧ yardC M' S L (yG S h0 E aside k')) ∧ M' 9 5 = M 9 5 ∧ kpY M M') := by
  intro j
  induction j with
  | zero =>
    intro k M hk hC hY h7 hlo
    have e : k = ne := by omega
    subst e
    obtain ⟨a1, a2, a3, a4, a5, a6, a7, a8, a9⟩ := hC
    have hne := a1.1
    refine fx_bt rfl (by rw [h7, a2.1]; exact nI_le (Nat.le_refl _) (by omega)) ?_
    exact fx_r rfl rfl ⟨rfl, ⟨k, ⟨Nat.le_refl _, hlo, fun q => by omega⟩, h7, hY⟩, rfl, kpY.rf⟩
  | succ j ih =>
    intro k M hk hC hY h7 hlo
    obtain ⟨a1, a2, a3, a4, a5, a6, a7, a8, a9⟩ := id hC
    have hne := a1.1
    have hok := yG_ok (S := S) (h0 := h0) (aside := aside) a1 a8 k (by omega)
    obtain ⟨q0, q1, q2, q3, q4⟩ := a1.2.1 k (by omega)
    refine fx_bf rfl (by rw [h7, a2.1]; exact nI_ge (by omega) (by omega)) ?_
    repeat refine fx_n rfl ?_
    rw [h7]
    refine fx_g rfl (ix_nI (by omega) (by omega)) ?_
    rw [nI_cl (by omega), (a2.2 k (by omega)).2.1]
    repeat refine fx_n rfl ?_
    by_cases hq : N < E k 1
    · refine fx_bt rfl (nI_lt hq (by omega)) ?_
      exact fx_r rfl rfl ⟨rfl, ⟨k, ⟨by omega, hlo, fun _ => hq⟩, h7, hY⟩, rfl, kpY.rf⟩
    · refine fx_bf rfl (nI_nlt (by omega) (by omega)) ?_
      repeat refine fx_n rfl ?_
      have hlo' : ∀ e, e < k + 1 → E e 1 ≤ N := fun e he => by
        rcases Nat.lt_or_ge e k with h | h
        · exact hlo e h
        · rw [show e = k by omega]; omega
      rw [h7]
      by_cases has : some k = aside
      · refine fx_bt rfl ((oI_s ha (by omega)).mpr has.symm).symm ?_
        repeat refine fx_n rfl ?_
        rw [h7, nI_1]
        have kp : kpY M (sy_up M 9 7 (nI (k + 1))) := kpY.rf.up9 (by omega)
        have eG : yG S h0 E aside (k + 1) = yG S h0 E aside k := if_pos has
        refine fx_w (ih (k + 1) _ (by omega) (hC.kp kp) ?_ up_s hlo') ?_
        · rw [eG]
          obtain ⟨y1, y2, y3, y4, y5, y6⟩ := hY
          refine ⟨fun s hs => ?_, fun s hs => ?_, fun s hs => ?_, ?_, ?_, ?_⟩
          · rw [up_k (by omega)]; exact y1 s hs
          · rw [up_k (by omega)]; exact y2 s hs
          · rw [up_k (by omega)]; exact y3 s hs
          · rw [up_j (by omega)]; exact y4
          · rw [up_j (by omega)]; exact y5
          · rw [up_j (by omega)]; exact y6
        · rintro r M' ⟨h1, h2, h3, h4⟩
          exact ⟨h1, h2, h3.trans (up_j (by omega)), kp.tr h4⟩
      · refine fx_bf rfl (fun z => has ((oI_s ha (by omega)).mp z.symm).symm) ?_
        repeat refine fx_n rfl ?_
        rw [h7]
        refine fx_c rfl (ex_tell _ M E ne k S L _ k a1 a2 (by omega) a3 a4 a5 a6.2 hY hok (by omega)) ?_
        rintro _ M1 ⟨rfl, b1, b2, b3, b4⟩
        repeat refine fx_n rfl ?_
        rw [b3, h7, nI_1]
        have kp : kpY M (sy_up M1 9 7 (nI (k + 1))) := b2.up9 (by omega)
        have eG : yG S h0 E aside (k + 1) = yTell S E k (yG S h0 E aside k) := if_neg has
        refine fx_w (ih (k + 1) _ (by omega) (hC.kp kp) ?_ up_s hlo') ?_
        · rw [eG]
          obtain ⟨y1, y2, y3, y4, y5, y6⟩ := b1
          refine ⟨fun s hs => ?_, fun s hs => ?_, fun s hs => ?_, ?_, ?_, ?_⟩
          · rw [up_k (by omega)]; exact y1 s hs
          · rw [up_k (by omega)]; exact y2 s hs
          · rw [up_k (by omega)]; exact y3 s hs
          · rw [up_j (by omega)]; exact y4
          · rw [up_j (by omega)]; exact y5
          · rw [up_j (by omega)]; exact y6
        · rintro r M' ⟨h1, h2, h3, h4⟩
          exact ⟨h1, h2, by rw [h3, up_j (by omega), b4], kp.tr h4⟩
/-- the yard at a night, as the class's rows hold it: told to k -/
def atC (M : sy_Mm) (E : Evs) (ne S L : Nat) (h0 : Nat → Nat) (fg : Nat → Bool) (aside : Option Nat) (N : Nat) : Prop := ctC M E ne S L h0 fg ∧ M 9 5 = nI (bN (rlB fg) S) ∧ yardC M S L (yF S h0 E aside N ne) ∧ ∃ k, yStop E ne N k ∧ M 9 7 = nI k
theorem yStop_next {E : Evs} {ne N k : Nat} {N' : Nat} (h : yStop E ne N k) (hN : N ≤ N') : k ≤ ne ∧ ∀ e, e < k → E e 1 ≤ N' := ⟨h.1, fun e he => Nat.le_trans (h.2.1 e he) hN⟩
set_option maxRecDepth 100000 in
set_option maxHeartbeats 4000000 in
theorem ex_tellTo0 (d : Nat) (M : sy_Mm) (E : Evs) (ne S L N k : Nat) (h0 : Nat → Nat) (fg : Nat → Bool) (aside : Option Nat) (hN : N ≤ 299) (ha : ∀ e, aside = some e → e < 2 ^ 31) (hC : ctC M E ne S L h0 fg) (hk : k ≤ ne) (hY : yardC M S L (yG S h0 E aside k)) (h7 : M 9 7 = nI k) (hlo : ∀ e, e < k → E e 1 ≤ N) (h5 : M 9 5 = nI (bN (rlB fg) S)) : Ex (d + 2) i_X6_tellTo [.ref 9, .int (nI N), .int (oI aside)] M (fun r M' => r = none ∧ atC M' E ne S L h0 fg aside N ∧ kpY M M') := by
  unfold Ex
  repeat refine fx_n rfl ?_
  refine fx_w (ex_tellTo d E ne S L N h0 fg aside hN ha (ne - k) k M (by omega) hC hY h7 hlo) ?_
  rintro r M' ⟨h1, ⟨k', h2, h3, h4⟩, h6, h8⟩
  exact ⟨h1, ⟨hC.kp h8, h6.trans h5, by rw [yF_stop hC.1 h2]; exact h4, k', h2, h3⟩, h8⟩
set_option maxRecDepth 100000 in
set_option maxHeartbeats 4000000 in
theorem ex_tellFrom (d : Nat) (M : sy_Mm) (E : Evs) (ne S L N : Nat) (h0 : Nat → Nat) (fg : Nat → Bool) (hN : N ≤ 299) (hC : ctC M E ne S L h0 fg) : Ex (d + 3) i_X6_tellFromStart [.ref 9, .int (nI N)] M (fun r M' => r = none ∧ atC M' E ne S L h0 fg none N ∧ kpY M M') := by
  unfold Ex
  repeat refine fx_n rfl ?_
  refine fx_c rfl (ex_begin _ M E ne S L h0 fg hC) ?_
  rintro _ M1 ⟨rfl, b1, b2, b3, b4⟩
  repeat refine fx_n rfl ?_
  refine fx_c rfl (ex_tellTo0 _ M1 E ne S L N 0 h0 fg none hN (fun _ q => by cases q) (hC.kp b4) (by omega) b1 b2 (fun e he => by omega) b3) ?_
  rintro _ M2 ⟨rfl, c1, c2⟩
  exact fx_r rfl rfl ⟨rfl, c1, b4.tr c2⟩
set_option maxRecDepth 100000 in
set_option maxHeartbeats 4000000 in
theorem ex_tellAll (d : Nat) (M : sy_Mm) (E : Evs) (ne S L : Nat) (h0 : Nat → Nat) (fg : Nat → Bool) (hC : ctC M E ne S L h0 fg) : Ex (d + 4) i_X6_tellAll [.ref 9] M (fun r M' => r = none ∧ atC M' E ne S L h0 fg none 199 ∧ kpY M M') := by
  unfold Ex
  repeat refine fx_n rfl ?_
  refine fx_c rfl (ex_tellFrom _ M E ne S L 199 h0 fg (by omega) hC) ?_
  rintro _ M1 ⟨rfl, b1, b2⟩
  exact fx_r rfl rfl ⟨rfl, b1, b2⟩
end
section
/-! ===== luck, as the class answers it ===== -/
def lk1 (L N : Nat) : Option Nat → Bool
  | none => false
  | some t => decide (N < t + L)
def lkS (L N : Nat) (f : Bool) (t : Option Nat) : Bool := !f && lk1 L N t
/-- the stone s is lucky in the house h -/
def ylk (Y : Yd) (L N : Nat) (fg : Nat → Bool) (h s : Nat) : Bool := decide (Y.1 s = some h) && lkS L N (fg s) (Y.2.1 s)
def cnB (p : Nat → Bool) : Nat → Nat
  | 0 => 0
  | n + 1 => cnB p n + cond (p n) 1 0
theorem cnB_le (p : Nat → Bool) : ∀ n, cnB p n ≤ n
  | 0 => Nat.le_refl _
  | n + 1 => by have := cnB_le p n; unfold cnB; cases p n <;> simp <;> omega
theorem cnB_t {p : Nat → Bool} {n : Nat} (h : p n = true) : cnB p (n + 1) = cnB p n + 1 := by simp [cnB, h]
theorem cnB_f {p : Nat → Bool} {n : Nat} (h : p n = false) : cnB p (n + 1) = cnB p n := by simp [cnB, h]
theorem cnB_congr {p q : Nat → Bool} : ∀ n, (∀ s, s < n → p s = q s) → cnB p n = cnB q n
  | 0, _ => rfl
  | n + 1, h => by
    unfold cnB
    rw [cnB_congr n (fun s hs => h s (by omega)), h n (by omega)]
def ledS (p : Nat → Bool) (th : Nat → Option Nat) (i : Int32) : Nat → Nat → Nat → Int32
  | 0, _, _ => -1
  | j + 1, s, c => cond (p s) (if nI c = i then oI (th s) else ledS p th i j (s + 1) (c + 1)) (ledS p th i j (s + 1) c)
theorem uI_lt {L N : Nat} {t : Option Nat} (hL : L ≤ 99) (hN : N ≤ 400) (ht : ∀ x, t = some x → x < 400) : ¬ uI L t ≤ nI N ↔ lk1 L N t = true := by
  cases t with
  | none =>
    simp only [uI]
    constructor
    · intro h; exact absurd (nI_pos' (by omega)) h
    · intro h; cases h
  | some x =>
    have := ht x rfl
    simp only [uI, lk1, decide_eq_true_eq]
    rw [nI_leI (by omega) (by omega)]
    omega
set_option maxRecDepth 100000 in
set_option maxHeartbeats 4000000 in
theorem ev_isReal (d : Nat) (M : sy_Mm) (S s : Nat) (fg : Nat → Bool) (hS : S ≤ 9) (hs : s < S) (h5 : M 9 5 = nI (bN (rlB fg) S)) : Ev d i_X6_isReal [.ref 9, .int (nI s)] M (some (.int (zb (!fg s)))) M := by
  refine ev_of ?_
  repeat refine fx_n rfl ?_
  rw [h5, bN_sh _ hs hS]
  cases hf : rlB fg s with
  | true =>
    refine fx_bf rfl (by decide) ?_
    repeat refine fx_n rfl ?_
    refine fx_r rfl rfl ⟨?_, rfl⟩
    have : (!fg s) = true := hf
    rw [this]; rfl
  | false =>
    refine fx_bt rfl (by decide) ?_
    repeat refine fx_n rfl ?_
    refine fx_r rfl rfl ⟨?_, rfl⟩
    have : (!fg s) = false := hf
    rw [this]; rfl
set_option maxRecDepth 100000 in
set_option maxHeartbeats 4000000 in
theorem ev_isLucky (d : Nat) (M : sy_Mm) (S L N s : Nat) (fg : Nat → Bool) (si : Nat → Option Nat) (hS : S ≤ 9) (hs : s < S) (hN : N ≤ 400) (hL : L ≤ 99) (h5 : M 9 5 = nI (bN (rlB fg) S)) (h11 : ∀ s, s < S → M 11 s = uI L (si s)) (ht : ∀ s x, si s = some x → x < 400) : Ev (d + 1) i_X6_isLucky [.ref 9, .int (nI s), .int (nI N)] M (some (.int (zb (lkS L N (fg s) (si s))))) M := by
  refine ev_of ?_
  repeat refine fx_n rfl ?_
  refine fx_g rfl (ix_nI (by omega) (by omega)) ?_
  rw [nI_cl (by omega), h11 s hs]
  repeat refine fx_n rfl ?_
  have hu := uI_lt (t := si s) hL hN (fun x => ht s x)
  unfold lkS
  cases hq : lk1 L N (si s) with
  | false =>
    rw [hq] at hu
    refine fx_bt rfl (Decidable.byContradiction fun z => by have := hu.mp z; cases this) ?_
    repeat refine fx_n rfl ?_
    refine fx_r rfl rfl ⟨?_, rfl⟩
    cases fg s <;> rfl
  | true =>
    rw [hq] at hu
    refine fx_bf rfl (hu.mpr rfl) ?_
    repeat refine fx_n rfl ?_
    refine fx_p rfl (ev_isReal _ _ S s fg hS hs h5) ?_
    cases hf : fg s with
    | true =>
      refine fx_bt rfl (by decide) ?_
      repeat refine fx_n rfl ?_
      exact fx_r rfl rfl ⟨rfl, rfl⟩
    | false =>
      refine fx_bf rfl (by decide) ?_
      repeat refine fx_n rfl ?_
      exact fx_r rfl rfl ⟨rfl, rfl⟩
/-- what a question on luck needs of the yard's rows -/
def lkC (M : sy_Mm) (S L : Nat) (fg : Nat → Bool) (ow si : Nat → Option Nat) : Prop := S ≤ 9 ∧ M 1 3 = nI S ∧ L ≤ 99 ∧ M 9 5 = nI (bN (rlB fg) S) ∧ ownC M S ow ∧ (∀ s, s < S → M 11 s = uI L (si s)) ∧ (∀ s h, ow s = some h → h < 8) ∧ ∀ s x, si s = some x → x < 400
theorem yF_ok {S : Nat} {h0 : Nat → Nat} {E : Evs} {aside : Option Nat} {ne N : Nat} (hE : taleOK E ne) (h8 : ∀ s, h0 s < 8) : ∀ k, k ≤ ne → yOK k (yF S h0 E aside N k)
  | 0, _ => ⟨fun s h e => by cases e; exact h8 s, fun s t e => by (cases e), fun s t e => by (cases e), Nat.le_refl _, by simp [yF, y0], fun e q => by (cases q), Nat.le_refl _⟩
  | k + 1, hk => by
    have ih := yF_ok (S := S) (h0 := h0) (aside := aside) (N := N) hE h8 k (by omega)
    unfold yF
    split
    · obtain ⟨h1, h2, h3, h4, h5, h6, h7⟩ := ih
      exact ⟨h1, h2, h3, by omega, h5, h6, by omega⟩
    · exact yTell_ok hE (by omega) ih
theorem atC.lk {M : sy_Mm} {E : Evs} {ne S L : Nat} {h0 : Nat → Nat} {fg : Nat → Bool} {aside : Option Nat} {N : Nat} (h : atC M E ne S L h0 fg aside N) : lkC M S L fg (yF S h0 E aside N ne).1 (yF S h0 E aside N ne).2.1 := by
  obtain ⟨⟨a1, a2, a3, a4, a5, a6, a7, a8, a9⟩, b1, b2, b3⟩ := h
  have hok := yF_ok (S := S) (h0 := h0) (aside := aside) (N := N) a1 a8 ne (Nat.le_refl _)
  exact ⟨a3, a4, a6.2, b1, b2.1, b2.2.1, hok.1, fun s x hx => by have := hok.2.1 s x hx; omega⟩
def lkp (ow si : Nat → Option Nat) (L N : Nat) (fg : Nat → Bool) (h s : Nat) : Bool := decide (ow s = some h) && lkS L N (fg s) (si s)
set_option maxRecDepth 100000 in
set_option maxHeartbeats 4000000 in
theorem ev_luckOf (d : Nat) (M : sy_Mm) (S L N h : Nat) (fg : Nat → Bool) (ow si : Nat → Option Nat) (hN : N ≤ 400) (hh : h < 8) (hK : lkC M S L fg ow si) : Ev (d + 2) i_X6_luckOf [.ref 9, .int (nI h), .int (nI N)] M (some (.int (nI (cnB (lkp ow si L N fg h) S)))) M := by
  obtain ⟨hS, h3, hL, h5, hO, h11, hw8, ht⟩ := hK
  have loop : ∀ j s, s + j = S → Fx (d + 2) i_X6_luckOf 14 [some (.ref 9), some (.int (nI h)), some (.int (nI N)), some (.int (nI (cnB (lkp ow si L N fg h) s))), some (.int (nI s))] [.int (M 1 3), .int (nI s)] M (fun r M' => r = some (.int (nI (cnB (lkp ow si L N fg h) S))) ∧ M' = M) := by
    intro j
    induction j with
    | zero =>
      intro s hs
      have e : s = S := by omega
      subst e
      refine fx_bt rfl (by rw [h3]; exact nI_le (Nat.le_refl _) (by omega)) ?_
      repeat refine fx_n rfl ?_
      exact fx_r rfl rfl ⟨rfl, rfl⟩
    | succ j ih =>
      intro s hs
      have i2 := ih (s + 1) (by omega)
      have hb : ∀ k, ow s = some k → k < 2 ^ 31 := fun k hk => by have := hw8 _ _ hk; omega
      refine fx_bf rfl (by rw [h3]; exact nI_ge (by omega) (by omega)) ?_
      repeat refine fx_n rfl ?_
      refine fx_g rfl (ix_nI (by omega) (by omega)) ?_
      rw [nI_cl (by omega), hO s (by omega)]
      repeat refine fx_n rfl ?_
      by_cases ho : ow s = some h
      · refine fx_bf rfl (fun z => z ((oI_s hb (by omega)).mpr ho)) ?_
        repeat refine fx_n rfl ?_
        refine fx_p rfl (ev_isLucky _ _ S L N s fg si hS (by omega) hN hL h5 h11 ht) ?_
        cases hq : lkS L N (fg s) (si s) with
        | true =>
          refine fx_bf rfl (by decide) ?_
          repeat refine fx_n rfl ?_
          rw [cnB_t (by simp [lkp, ho, hq])] at i2
          rw [nI_1, nI_1]
          exact i2
        | false =>
          refine fx_bt rfl (by decide) ?_
          repeat refine fx_n rfl ?_
          rw [cnB_f (by simp [lkp, ho, hq])] at i2
          rw [nI_1]
          exact i2
      · refine fx_bt rfl (fun z => ho ((oI_s hb (by omega)).mp z)) ?_
        repeat refine fx_n rfl ?_
        rw [cnB_f (by simp [lkp, ho])] at i2
        rw [nI_1]
        exact i2
  refine ev_of ?_
  repeat refine fx_n rfl ?_
  exact loop S 0 (by omega)
theorem egg_nI (c : Nat) : (1 : Int32) + 2 * nI c = nI (1 + 2 * c) := by
  rw [tw_nI, show (1 : Int32) = nI 1 from rfl, nI_add]
set_option maxRecDepth 100000 in
set_option maxHeartbeats 4000000 in
theorem ev_eggsOf (d : Nat) (M : sy_Mm) (S L N h : Nat) (fg : Nat → Bool) (ow si : Nat → Option Nat) (hN : N ≤ 400) (hh : h < 8) (hK : lkC M S L fg ow si) : Ev (d + 3) i_X6_eggsOf [.ref 9, .int (nI h), .int (nI N)] M (some (.int (nI (1 + 2 * cnB (lkp ow si L N fg h) S)))) M := by
  refine ev_of ?_
  repeat refine fx_n rfl ?_
  refine fx_p rfl (ev_luckOf _ _ S L N h fg ow si hN hh hK) ?_
  repeat refine fx_n rfl ?_
  rw [egg_nI]
  exact fx_r rfl rfl ⟨rfl, rfl⟩
set_option maxRecDepth 100000 in
set_option maxHeartbeats 4000000 in
theorem ev_theftBehind (d : Nat) (M : sy_Mm) (S L N h : Nat) (i : Int32) (fg : Nat → Bool) (ow si th : Nat → Option Nat) (hN : N ≤ 400) (hh : h < 8) (hK : lkC M S L fg ow si) (h12 : ∀ s, s < S → M 12 s = oI (th s)) : Ev (d + 2) i_X6_theftBehind [.ref 9, .int (nI h), .int (nI N), .int i] M (some (.int (ledS (lkp ow si L N fg h) th i S 0 0))) M := by
  obtain ⟨hS, h3, hL, h5, hO, h11, hw8, ht⟩ := hK
  have loop : ∀ j s c, s + j = S → Fx (d + 2) i_X6_theftBehind 15 [some (.ref 9), some (.int (nI h)), some (.int (nI N)), some (.int i), some (.int (nI c)), some (.int (nI s))] [.int (M 1 3), .int (nI s)] M (fun r M' => r = some (.int (ledS (lkp ow si L N fg h) th i j s c)) ∧ M' = M) := by
    intro j
    induction j with
    | zero =>
      intro s c hs
      have e : s = S := by omega
      subst e
      refine fx_bt rfl (by rw [h3]; exact nI_le (Nat.le_refl _) (by omega)) ?_
      repeat refine fx_n rfl ?_
      exact fx_r rfl rfl ⟨rfl, rfl⟩
    | succ j ih =>
      intro s c hs
      have i2 := fun c => ih (s + 1) c (by omega)
      have hb : ∀ k, ow s = some k → k < 2 ^ 31 := fun k hk => by have := hw8 _ _ hk; omega
      refine fx_bf rfl (by rw [h3]; exact nI_ge (by omega) (by omega)) ?_
      repeat refine fx_n rfl ?_
      refine fx_g rfl (ix_nI (by omega) (by omega)) ?_
      rw [nI_cl (by omega), hO s (by omega)]
      repeat refine fx_n rfl ?_
      unfold ledS
      by_cases ho : ow s = some h
      · refine fx_bf rfl (fun z => z ((oI_s hb (by omega)).mpr ho)) ?_
        repeat refine fx_n rfl ?_
        refine fx_p rfl (ev_isLucky _ _ S L N s fg si hS (by omega) hN hL h5 h11 ht) ?_
        cases hq : lkS L N (fg s) (si s) with
        | true =>
          rw [show lkp ow si L N fg h s = true by simp [lkp, ho, hq]]
          refine fx_bf rfl (by decide) ?_
          repeat refine fx_n rfl ?_
          by_cases hc : nI c = i
          · refine fx_bf rfl (fun z => z hc) ?_
            repeat refine fx_n rfl ?_
            refine fx_g rfl (ix_nI (by omega) (by omega)) ?_
            rw [nI_cl (by omega), h12 s (by omega)]
            refine fx_r rfl rfl ⟨?_, rfl⟩
            rw [if_pos hc]; rfl
          · refine fx_bt rfl hc ?_
            repeat refine fx_n rfl ?_
            rw [nI_1, nI_1, if_neg hc]
            exact i2 (c + 1)
        | false =>
          rw [show lkp ow si L N fg h s = false by simp [lkp, ho, hq]]
          refine fx_bt rfl (by decide) ?_
          repeat refine fx_n rfl ?_
          rw [nI_1]
          exact i2 c
      · rw [show lkp ow si L N fg h s = false by simp [lkp, ho]]
        refine fx_bt rfl (fun z => ho ((oI_s hb (by omega)).mp z)) ?_
        repeat refine fx_n rfl ?_
        rw [nI_1]
        exact i2 c
  refine ev_of ?_
  repeat refine fx_n rfl ?_
  exact loop S 0 0 (by omega)
/-! houses as bits -/
theorem bN_ge (p : Nat → Bool) {n s : Nat} (h : n ≤ s) : bN p n / 2 ^ s % 2 = 0 := by
  have h1 := bN_lt p n
  have h2 : 2 ^ n ≤ 2 ^ s := Nat.pow_le_pow_right (by omega) h
  rw [Nat.div_eq_of_lt (by omega)]
theorem bN_tb (p : Nat → Bool) (n s : Nat) : (bN p n).testBit s = (decide (s < n) && p s) := by
  rw [Nat.testBit_eq_decide_div_mod_eq]
  by_cases h : s < n
  · rw [bN_bit p s n h]
    cases p s <;> simp [h]
  · rw [bN_ge p (by omega)]
    simp [h]
theorem bN_or (p q : Nat → Bool) (n : Nat) : bN p n ||| bN q n = bN (fun s => p s || q s) n := by
  apply Nat.eq_of_testBit_eq
  intro i
  rw [Nat.testBit_or, bN_tb, bN_tb, bN_tb]
  cases decide (i < n) <;> simp
theorem bN_and (p q : Nat → Bool) (n : Nat) : bN p n &&& bN q n = bN (fun s => p s && q s) n := by
  apply Nat.eq_of_testBit_eq
  intro i
  rw [Nat.testBit_and, bN_tb, bN_tb, bN_tb]
  cases decide (i < n) <;> simp
theorem bN_one {n h : Nat} (hh : h < n) : bN (fun x => decide (x = h)) n = 2 ^ h := by
  apply Nat.eq_of_testBit_eq
  intro i
  rw [bN_tb, Nat.testBit_two_pow]
  by_cases e : i = h
  · subst e; simp [hh]
  · simp [e, Ne.symm e]
theorem nI_or : ∀ a, a < 256 → ∀ h, h < 8 → nI a ||| ((1 : Int32) <<< (nI h &&& 31)) = nI (a ||| 2 ^ h) := by decide +kernel
theorem nI_and8 : ∀ a, a < 256 → ∀ h, h < 8 → nI a &&& ((1 : Int32) <<< (nI h &&& 31)) = nI (a &&& 2 ^ h) := by decide +kernel
theorem nI_and255 : ∀ a, a < 256 → nI a &&& (255 : Int32) = nI a := by decide +kernel
theorem pcn_bN (p : Nat → Bool) : ∀ n, n ≤ 9 → pcn (bN p n) = cnB p n := by
  intro n hn
  have b : ∀ s, bN p n / 2 ^ s % 2 = cond (decide (s < n) && p s) 1 0 := by
    intro s
    by_cases h : s < n
    · rw [bN_bit p s n h]; simp [h]
    · rw [bN_ge p (by omega)]; simp [h]
  have e : pcn (bN p n) = cond (decide (0 < n) && p 0) 1 0 + cond (decide (1 < n) && p 1) 1 0 + cond (decide (2 < n) && p 2) 1 0 + cond (decide (3 < n) && p 3) 1 0 + cond (decide (4 < n) && p 4) 1 0 + cond (decide (5 < n) && p 5) 1 0 + cond (decide (6 < n) && p 6) 1 0 + cond (decide (7 < n) && p 7) 1 0 + cond (decide (8 < n) && p 8) 1 0 := by
    rw [← b 0, ← b 1, ← b 2, ← b 3, ← b 4, ← b 5, ← b 6, ← b 7, ← b 8]
    unfold pcn
    simp
  rw [e]
  rcases (show n = 0 ∨ n = 1 ∨ n = 2 ∨ n = 3 ∨ n = 4 ∨ n = 5 ∨ n = 6 ∨ n = 7 ∨ n = 8 ∨ n = 9 by omega) with rfl | rfl | rfl | rfl | rfl | rfl | rfl | rfl | rfl | rfl <;> simp [cnB]
/-- some stone of the first n is lucky in the house h -/
def anyL (ow si : Nat → Option Nat) (L N : Nat) (fg : Nat → Bool) (n h : Nat) : Bool := decide (0 < cnB (lkp ow si L N fg h) n)
theorem anyL_t {ow si : Nat → Option Nat} {L N : Nat} {fg : Nat → Bool} {n h : Nat} (q : lkp ow si L N fg h n = true) : anyL ow si L N fg (n + 1) h = true := by
  simp [anyL, cnB_t q]
theorem anyL_f {ow si : Nat → Option Nat} {L N : Nat} {fg : Nat → Bool} {n h : Nat} (q : lkp ow si L N fg h n = false) : anyL ow si L N fg (n + 1) h = anyL ow si L N fg n h := by
  simp [anyL, cnB_f q]
set_option maxRecDepth 100000 in
set_option maxHeartbeats 4000000 in
theorem ev_luckyHouses (d : Nat) (M : sy_Mm) (S L N : Nat) (fg : Nat → Bool) (ow si : Nat → Option Nat) (hN : N ≤ 400) (hK : lkC M S L fg ow si) : Ev (d + 2) i_X6_luckyHouses [.ref 9, .int (nI N)] M (some (.int (nI (bN (anyL ow si L N fg S) 8)))) M := by
  obtain ⟨hS, h3, hL, h5, hO, h11, hw8, ht⟩ := hK
  have loop : ∀ j s, s + j = S → Fx (d + 2) i_X6_luckyHouses 12 [some (.ref 9), some (.int (nI N)), some (.int (nI (bN (anyL ow si L N fg s) 8))), some (.int (nI s))] [.int (M 1 3), .int (nI s)] M (fun r M' => r = some (.int (nI (bN (anyL ow si L N fg S) 8))) ∧ M' = M) := by
    intro j
    induction j with
    | zero =>
      intro s hs
      have e : s = S := by omega
      subst e
      refine fx_bt rfl (by rw [h3]; exact nI_le (Nat.le_refl _) (by omega)) ?_
      repeat refine fx_n rfl ?_
      exact fx_r rfl rfl ⟨rfl, rfl⟩
    | succ j ih =>
      intro s hs
      have i2 := ih (s + 1) (by omega)
      have hb : ∀ k, ow s = some k → k < 2 ^ 31 := fun k hk => by have := hw8 _ _ hk; omega
      refine fx_bf rfl (by rw [h3]; exact nI_ge (by omega) (by omega)) ?_
      repeat refine fx_n rfl ?_
      refine fx_g rfl (ix_nI (by omega) (by omega)) ?_
      rw [nI_cl (by omega), hO s (by omega)]
      repeat refine fx_n rfl ?_
      have skip : (∀ h, lkp ow si L N fg h s = false) → bN (anyL ow si L N fg (s + 1)) 8 = bN (anyL ow si L N fg s) 8 := fun q => bN_congr 8 (fun h _ => anyL_f (q h))
      cases ho : ow s with
      | none =>
        refine fx_bt rfl rfl ?_
        repeat refine fx_n rfl ?_
        rw [skip (fun h => by simp [lkp, ho])] at i2
        rw [nI_1]
        exact i2
      | some h =>
        have h8 := hw8 s h ho
        refine fx_bf rfl (nI_ne_m1 (by omega)) ?_
        repeat refine fx_n rfl ?_
        refine fx_p rfl (ev_isLucky _ _ S L N s fg si hS (by omega) hN hL h5 h11 ht) ?_
        cases hq : lkS L N (fg s) (si s) with
        | true =>
          refine fx_bf rfl (by decide) ?_
          repeat refine fx_n rfl ?_
          refine fx_g rfl (ix_nI (by omega) (by omega)) ?_
          rw [nI_cl (by omega), hO s (by omega), ho]
          repeat refine fx_n rfl ?_
          have eb : nI (bN (anyL ow si L N fg s) 8) ||| ((1 : Int32) <<< (oI (some h) &&& 31)) = nI (bN (anyL ow si L N fg (s + 1)) 8) := by
            have h256 : bN (anyL ow si L N fg s) 8 < 256 := bN_lt _ 8
            rw [show oI (some h) = nI h from rfl, nI_or _ h256 h h8, ← bN_one h8, bN_or]
            congr 1
            refine bN_congr 8 (fun x _ => ?_)
            by_cases hx : x = h
            · subst hx
              rw [anyL_t (by simp [lkp, ho, hq])]; simp
            · rw [anyL_f (by simp [lkp, ho, Ne.symm hx])]; simp [hx]
          rw [eb, nI_1]
          exact i2
        | false =>
          refine fx_bt rfl (by decide) ?_
          repeat refine fx_n rfl ?_
          rw [skip (fun h => by simp [lkp, hq])] at i2
          rw [nI_1]
          exact i2
  refine ev_of ?_
  repeat refine fx_n rfl ?_
  have e0 : bN (anyL ow si L N fg 0) 8 = 0 := by
    have : anyL ow si L N fg 0 = fun _ => false := by funext h; simp [anyL, cnB]
    rw [this]; rfl
  have := loop S 0 (by omega)
  rw [e0] at this
  exact this
end
section
def dayN (hs : Nat → Bool) (S L : Nat) (h0 : Nat → Nat) (fg : Nat → Bool) (E : Evs) (aside : Option Nat) (ne N : Nat) : Nat := cnB (fun h => hs h && anyL (yF S h0 E aside N ne).1 (yF S h0 E aside N ne).2.1 L N fg S h) 8
def dayS (f : Nat → Nat) (a : Nat) : Nat → Nat
  | 0 => 0
  | j + 1 => dayS f a j + f (a + j)
theorem dayS_cons (f : Nat → Nat) (a : Nat) : ∀ j, dayS f a (j + 1) = f a + dayS f (a + 1) j
  | 0 => by simp [dayS]
  | j + 1 => by
    have := dayS_cons f a j
    unfold dayS
    rw [this, show a + (j + 1) = a + 1 + j by omega]
    omega
/-- x, as bits, stands for the houses hs -/
def mskH (x : Int32) (hs : Nat → Bool) : Prop := ∀ q : Nat → Bool, nI (bN q 8) &&& x = nI (bN (fun h => hs h && q h) 8)
theorem msk_all : mskH 255 (fun _ => true) := fun q => by rw [nI_and255 _ (bN_lt q 8)]; rfl
theorem msk_one {h : Nat} (hh : h < 8) : mskH ((1 : Int32) <<< (nI h &&& 31)) (fun x => decide (x = h)) := fun q => by
  rw [nI_and8 _ (bN_lt q 8) h hh, ← bN_one hh, bN_and]
  congr 1
  exact bN_congr 8 (fun s _ => Bool.and_comm _ _)
set_option maxRecDepth 100000 in
set_option maxHeartbeats 4000000 in
theorem ex_luckyDays (d : Nat) (M : sy_Mm) (E : Evs) (ne S L a b : Nat) (x : Int32) (hs : Nat → Bool) (h0 : Nat → Nat) (fg : Nat → Bool) (aside : Option Nat) (hb : b ≤ 299) (hab : a ≤ b) (ha : ∀ e, aside = some e → e < 2 ^ 31) (hx : mskH x hs) (hC : ctC M E ne S L h0 fg) : Ex (d + 3) i_X6_luckyDays [.ref 9, .int x, .int (nI a), .int (nI b), .int (oI aside)] M (fun r N => r = some (.int (nI (dayS (dayN hs S L h0 fg E aside ne) a (b + 1 - a)))) ∧ kpY M N) := by
  have loop : ∀ (j N k c : Nat) (M1 : sy_Mm), N + j = b + 1 → ctC M1 E ne S L h0 fg → k ≤ ne → yardC M1 S L (yG S h0 E aside k) → M1 9 7 = nI k → (∀ e, e < k → E e 1 ≤ N) → M1 9 5 = nI (bN (rlB fg) S) → kpY M M1 →
      Fx (d + 3) i_X6_luckyDays 13 [some (.ref 9), some (.int x), some (.int (nI a)), some (.int (nI b)), some (.int (oI aside)), some (.int (nI c)), some (.int (nI N))] [.int (nI b), .int (nI N)] M1 (fun r N' => r = some (.int (nI (c + dayS (dayN hs S L h0 fg E aside ne) N j))) ∧ kpY M N') := by
    intro j
    induction j with
    | zero =>
      intro N k c M1 hN hC1 hk hY h7 hlo h5 hK
      refine fx_bt rfl (nI_lt (by omega) (by omega)) ?_
      repeat refine fx_n rfl ?_
      exact fx_r rfl rfl ⟨rfl, hK⟩
    | succ j ih =>
      intro N k c M1 hN hC1 hk hY h7 hlo h5 hK
      refine fx_bf rfl (nI_nlt (by omega) (by omega)) ?_
      repeat refine fx_n rfl ?_
      refine fx_c rfl (ex_tellTo0 _ M1 E ne S L N k h0 fg aside (by omega) ha hC1 hk hY h7 hlo h5) ?_
      rintro _ M2 ⟨rfl, b1, b2⟩
      repeat refine fx_n rfl ?_
      refine fx_p rfl (ev_luckyHouses _ M2 S L N fg _ _ (by omega) b1.lk) ?_
      repeat refine fx_n rfl ?_
      rw [hx]
      refine fx_p rfl (ev_bitCount _ _ _ (by have := bN_lt (fun h => hs h && anyL (yF S h0 E aside N ne).1 (yF S h0 E aside N ne).2.1 L N fg S h) 8; omega)) ?_
      rw [pcn_bN _ 8 (by omega)]
      repeat refine fx_n rfl ?_
      rw [nI_add, nI_1]
      obtain ⟨c1, c2, c3, k', c4, c5⟩ := b1
      rw [yF_stop c1.1 c4] at c3
      obtain ⟨g1, g2⟩ := yStop_next (N' := N + 1) c4 (by omega)
      have := ih (N + 1) k' (c + dayN hs S L h0 fg E aside ne N) M2 (by omega) c1 g1 c3 c5 g2 c2 (hK.tr b2)
      rw [dayS_cons]
      rw [Nat.add_assoc] at this
      exact this
  unfold Ex
  repeat refine fx_n rfl ?_
  refine fx_c rfl (ex_begin _ M E ne S L h0 fg hC) ?_
  rintro _ M1 ⟨rfl, b1, b2, b3, b4⟩
  repeat refine fx_n rfl ?_
  have := loop (b + 1 - a) a 0 0 M1 (by omega) (hC.kp b4) (by omega) b1 b2 (fun e he => by omega) b3 b4
  rw [Nat.zero_add] at this
  exact this
set_option maxRecDepth 100000 in
set_option maxHeartbeats 4000000 in
theorem ev_luckyIfReal (d : Nat) (M : sy_Mm) (S L N h : Nat) (fg : Nat → Bool) (ow si : Nat → Option Nat) (hN : N ≤ 400) (hh : h < 8) (hK : lkC M S L fg ow si) : Ev d i_X6_luckyIfReal [.ref 9, .int (nI h), .int (nI N)] M (some (.int (nI (bN (fun s => decide (ow s = some h) && lk1 L N (si s)) S)))) M := by
  obtain ⟨hS, h3, hL, h5, hO, h11, hw8, ht⟩ := hK
  have loop : ∀ j s, s + j = S → Fx d i_X6_luckyIfReal 14 [some (.ref 9), some (.int (nI h)), some (.int (nI N)), some (.int (nI (bN (fun s => decide (ow s = some h) && lk1 L N (si s)) s))), some (.int (nI s))] [.int (M 1 3), .int (nI s)] M (fun r M' => r = some (.int (nI (bN (fun s => decide (ow s = some h) && lk1 L N (si s)) S))) ∧ M' = M) := by
    intro j
    induction j with
    | zero =>
      intro s hs
      have e : s = S := by omega
      subst e
      refine fx_bt rfl (by rw [h3]; exact nI_le (Nat.le_refl _) (by omega)) ?_
      repeat refine fx_n rfl ?_
      exact fx_r rfl rfl ⟨rfl, rfl⟩
    | succ j ih =>
      intro s hs
      have i2 := ih (s + 1) (by omega)
      have hb : ∀ k, ow s = some k → k < 2 ^ 31 := fun k hk => by have := hw8 _ _ hk; omega
      have hu := uI_lt (t := si s) hL hN (fun x => ht s x)
      refine fx_bf rfl (by rw [h3]; exact nI_ge (by omega) (by omega)) ?_
      repeat refine fx_n rfl ?_
      refine fx_g rfl (ix_nI (by omega) (by omega)) ?_
      rw [nI_cl (by omega), hO s (by omega)]
      repeat refine fx_n rfl ?_
      by_cases ho : ow s = some h
      · refine fx_bf rfl (fun z => z ((oI_s hb (by omega)).mpr ho)) ?_
        repeat refine fx_n rfl ?_
        refine fx_g rfl (ix_nI (by omega) (by omega)) ?_
        rw [nI_cl (by omega), h11 s (by omega)]
        repeat refine fx_n rfl ?_
        cases hq : lk1 L N (si s) with
        | true =>
          refine fx_bf rfl (hu.mpr hq) ?_
          repeat refine fx_n rfl ?_
          rw [bN_step (fun s => decide (ow s = some h) && lk1 L N (si s)) (by omega) (by simp [ho, hq]), nI_1]
          exact i2
        | false =>
          refine fx_bt rfl (Decidable.byContradiction fun z => by have := hu.mp z; rw [hq] at this; cases this) ?_
          repeat refine fx_n rfl ?_
          rw [bN_skip (fun s => decide (ow s = some h) && lk1 L N (si s)) (by simp [hq])] at i2
          rw [nI_1]
          exact i2
      · refine fx_bt rfl (fun z => ho ((oI_s hb (by omega)).mp z)) ?_
        repeat refine fx_n rfl ?_
        rw [bN_skip (fun s => decide (ow s = some h) && lk1 L N (si s)) (by simp [ho])] at i2
        rw [nI_1]
        exact i2
  refine ev_of ?_
  repeat refine fx_n rfl ?_
  exact loop S 0 (by omega)
end
section
/-! ===== the reference's telling ===== -/
def ctM (M : sy_Mm) (E : Evs) (ne S L : Nat) (h0 : Nat → Nat) (fg : Nat → Bool) : Prop := taleOK E ne ∧ taleM M E ne ∧ S ≤ 9 ∧ M 30 8 = nI S ∧ M 30 11 = nI L ∧ (1 ≤ L ∧ L ≤ 99) ∧ (∀ s, s < S → M 36 s = nI (h0 s)) ∧ (∀ s, h0 s < 8) ∧ M 30 10 = nI (bN fg S)
def kpM (M N : sy_Mm) : Prop := (∀ k, k ≠ 30 → k ≠ 38 → k ≠ 39 → k ≠ 40 → N k = M k) ∧ ∀ j, j ≠ 17 → j ≠ 18 → j ≠ 19 → N 30 j = M 30 j
theorem kpM.rf {M : sy_Mm} : kpM M M := ⟨fun _ _ _ _ _ => rfl, fun _ _ _ _ => rfl⟩
theorem kpM.tr {M N K : sy_Mm} (h : kpM M N) (g : kpM N K) : kpM M K := ⟨fun k a b c d => (g.1 k a b c d).trans (h.1 k a b c d), fun j a b c => (g.2 j a b c).trans (h.2 j a b c)⟩
theorem kpM.up30 {M N : sy_Mm} (h : kpM M N) {j : Nat} {x : Int32} (hj : j = 17 ∨ j = 18 ∨ j = 19) : kpM M (sy_up N 30 j x) := ⟨fun k a b c d => by rw [up_k a]; exact h.1 k a b c d, fun i a b c => by rw [up_j (by omega)]; exact h.2 i a b c⟩
theorem kpM.up {M N : sy_Mm} (h : kpM M N) {k j : Nat} {x : Int32} (hk : k = 38 ∨ k = 39 ∨ k = 40) : kpM M (sy_up N k j x) := ⟨fun q a b c d => by rw [up_k (by omega)]; exact h.1 q a b c d, fun i a b c => by rw [up_k (by omega)]; exact h.2 i a b c⟩
theorem ctM.kp {M N : sy_Mm} {E : Evs} {ne S L : Nat} {h0 : Nat → Nat} {fg : Nat → Bool} (h : ctM M E ne S L h0 fg) (k : kpM M N) : ctM N E ne S L h0 fg := by
  obtain ⟨a1, a2, a3, a4, a5, a6, a7, a8, a9⟩ := h
  have k1 := k.1 36 (by omega) (by omega) (by omega) (by omega)
  have k2 := k.1 37 (by omega) (by omega) (by omega) (by omega)
  refine ⟨a1, ⟨by rw [k.2 12 (by omega) (by omega) (by omega)]; exact a2.1, by rw [k2]; exact a2.2⟩, a3, by rw [k.2 8 (by omega) (by omega) (by omega)]; exact a4, by rw [k.2 11 (by omega) (by omega) (by omega)]; exact a5, a6, by rw [k1]; exact a7, a8, by rw [k.2 10 (by omega) (by omega) (by omega)]; exact a9⟩
def yardM (M : sy_Mm) (S : Nat) (Y : Yd) : Prop := (∀ s, s < S → M 38 s = oI (Y.1 s)) ∧ (∀ s, s < S → M 39 s = oI (Y.2.1 s)) ∧ (∀ s, s < S → M 40 s = oI (Y.2.2.1 s)) ∧ M 30 17 = nI Y.2.2.2.1 ∧ M 30 18 = oI Y.2.2.2.2.1 ∧ M 30 19 = nI Y.2.2.2.2.2
theorem fv_nI (e : Nat) : (5 : Int32) * nI e = nI (5 * e) := pk_mul 5 e
theorem nI_p2 (a : Nat) : nI a + 2 = nI (a + 2) := nI_add a 2
theorem nI_p3 (a : Nat) : nI a + 3 = nI (a + 3) := nI_add a 3
theorem nI_p4 (a : Nat) : nI a + 4 = nI (a + 4) := nI_add a 4
theorem nI_p5 (a : Nat) : nI a + 5 = nI (a + 5) := nI_add a 5
set_option maxRecDepth 100000 in
set_option maxHeartbeats 4000000 in
theorem em_isTrue (d : Nat) (M : sy_Mm) (E : Evs) (ne e : Nat) (hE : taleOK E ne) (hT : taleM M E ne) (he : e < ne) : Ev d i_X8_isTrue [.ref 30, .int (nI e)] M (some (.int (zb (yTrue (E e))))) M := by
  obtain ⟨q0, q1, q2, q3, q4⟩ := hE.2.1 e he
  have t := hT.2 e he
  have hne := hE.1
  refine ev_of ?_
  repeat refine fx_n rfl ?_
  rw [fv_nI, nI_p4]
  refine fx_g rfl (ix_nI (by omega) (by omega)) ?_
  rw [nI_cl (by omega), t 4 (by omega)]
  repeat refine fx_n rfl ?_
  rw [fv_nI]
  refine fx_g rfl (ix_nI (by omega) (by omega)) ?_
  rw [nI_cl (by omega), show M 37 (5 * e) = nI (E e 0) from t 0 (by omega)]
  by_cases h0 : E e 0 = 0
  · refine fx_bf rfl (by rw [h0]; decide) ?_
    repeat refine fx_n rfl ?_
    by_cases h4 : E e 4 = 0
    · refine fx_bt rfl (by rw [h4]; decide) ?_
      repeat refine fx_n rfl ?_
      refine fx_r rfl rfl ⟨?_, rfl⟩
      simp [yTrue, h0, h4, zb]
    · refine fx_bf rfl (nI_ne0 (by omega) (by omega)) ?_
      repeat refine fx_n rfl ?_
      refine fx_g rfl (by decide) ?_
      rw [rem2 (by omega)]
      repeat refine fx_n rfl ?_
      by_cases h2 : E e 4 % 2 = 1
      · refine fx_bf rfl (by rw [h2]; decide) ?_
        repeat refine fx_n rfl ?_
        refine fx_r rfl rfl ⟨?_, rfl⟩
        simp [yTrue, h0, h2, zb]
      · refine fx_bt rfl (by rw [show E e 4 % 2 = 0 by omega]; decide) ?_
        repeat refine fx_n rfl ?_
        refine fx_r rfl rfl ⟨?_, rfl⟩
        simp [yTrue, h0, h2, h4, zb]
  · refine fx_bt rfl (nI_ne0 (by omega) (by omega)) ?_
    repeat refine fx_n rfl ?_
    refine fx_r rfl rfl ⟨?_, rfl⟩
    simp [yTrue, h0, zb]
set_option maxRecDepth 100000 in
set_option maxHeartbeats 4000000 in
theorem em_isLawful (d : Nat) (M : sy_Mm) (E : Evs) (ne e S : Nat) (ow : Nat → Option Nat) (hE : taleOK E ne) (hT : taleM M E ne) (he : e < ne) (hS : S ≤ 9) (h3 : M 30 8 = nI S) (hO : ∀ s, s < S → M 38 s = oI (ow s)) (h8 : ∀ s h, ow s = some h → h < 8) : Ev d i_X8_isLawful [.ref 30, .int (nI e)] M (some (.int (zb (yLaw S ow (E e))))) M := by
  obtain ⟨q0, q1, q2, q3, q4⟩ := hE.2.1 e he
  have t := hT.2 e he
  have hne := hE.1
  have hb : ∀ k, ow (E e 2) = some k → k < 2 ^ 31 := fun k hk => by have := h8 _ _ hk; omega
  refine ev_of ?_
  repeat refine fx_n rfl ?_
  rw [fv_nI]
  refine fx_g rfl (ix_nI (by omega) (by omega)) ?_
  rw [nI_cl (by omega), show M 37 (5 * e) = nI (E e 0) from t 0 (by omega)]
  repeat refine fx_n rfl ?_
  rw [fv_nI, nI_p2]
  refine fx_g rfl (ix_nI (by omega) (by omega)) ?_
  rw [nI_cl (by omega), t 2 (by omega)]
  repeat refine fx_n rfl ?_
  rw [fv_nI, nI_p3]
  refine fx_g rfl (ix_nI (by omega) (by omega)) ?_
  rw [nI_cl (by omega), t 3 (by omega)]
  repeat refine fx_n rfl ?_
  rw [h3]
  by_cases h2 : E e 2 < S
  · have hw := hO _ h2
    refine fx_bt rfl (nI_lt h2 (by omega)) ?_
    repeat refine fx_n rfl ?_
    by_cases hk : E e 0 < 3
    · refine fx_bf rfl (nI_ge (a := E e 0) (b := 3) hk (by omega)) ?_
      repeat refine fx_n rfl ?_
      refine fx_g rfl (ix_nI (by omega) (by omega)) ?_
      rw [nI_cl (by omega), hw]
      repeat refine fx_n rfl ?_
      by_cases g1 : ow (E e 2) = none
      · refine fx_bt rfl ((oI_n hb).mpr g1) ?_
        repeat refine fx_n rfl ?_
        refine fx_r rfl rfl ⟨?_, rfl⟩
        simp [yLaw, h2, hk, g1, zb]
      · refine fx_bf rfl (fun z => g1 ((oI_n hb).mp z)) ?_
        repeat refine fx_n rfl ?_
        refine fx_g rfl (ix_nI (by omega) (by omega)) ?_
        rw [nI_cl (by omega), hw]
        repeat refine fx_n rfl ?_
        by_cases g2 : ow (E e 2) = some (E e 3)
        · refine fx_bt rfl ((oI_s hb (by omega)).mpr g2) ?_
          repeat refine fx_n rfl ?_
          refine fx_r rfl rfl ⟨?_, rfl⟩
          simp [yLaw, h2, hk, g2, zb]
        · refine fx_bf rfl (fun z => g2 ((oI_s hb (by omega)).mp z)) ?_
          repeat refine fx_n rfl ?_
          refine fx_r rfl rfl ⟨?_, rfl⟩
          simp [yLaw, h2, hk, g1, g2, zb]
    · refine fx_bt rfl (nI_le (a := 3) (by omega) (by omega)) ?_
      repeat refine fx_n rfl ?_
      by_cases h4 : E e 0 = 4
      · refine fx_bf rfl (by rw [h4]; decide) ?_
        repeat refine fx_n rfl ?_
        refine fx_g rfl (ix_nI (by omega) (by omega)) ?_
        rw [nI_cl (by omega), hw]
        repeat refine fx_n rfl ?_
        by_cases g1 : ow (E e 2) = none
        · refine fx_bf rfl (fun z => z ((oI_n hb).mpr g1)) ?_
          repeat refine fx_n rfl ?_
          refine fx_r rfl rfl ⟨?_, rfl⟩
          simp [yLaw, h2, h4, g1, zb]
        · refine fx_bt rfl (fun z => g1 ((oI_n hb).mp z)) ?_
          repeat refine fx_n rfl ?_
          refine fx_r rfl rfl ⟨?_, rfl⟩
          simp [yLaw, h2, h4, g1, zb]
      · refine fx_bt rfl (fun z => h4 ((nI_eq (b := 4) (by omega) (by omega)).mp z)) ?_
        repeat refine fx_n rfl ?_
        refine fx_g rfl (ix_nI (by omega) (by omega)) ?_
        rw [nI_cl (by omega), hw]
        repeat refine fx_n rfl ?_
        by_cases g2 : ow (E e 2) = some (E e 3)
        · refine fx_bf rfl (fun z => z ((oI_s hb (by omega)).mpr g2)) ?_
          repeat refine fx_n rfl ?_
          refine fx_r rfl rfl ⟨?_, rfl⟩
          simp [yLaw, h2, hk, h4, g2, zb]
        · refine fx_bt rfl (fun z => g2 ((oI_s hb (by omega)).mp z)) ?_
          repeat refine fx_n rfl ?_
          refine fx_r rfl rfl ⟨?_, rfl⟩
          simp [yLaw, h2, hk, h4, g2, zb]
  · refine fx_bf rfl (nI_nlt (by omega) (by omega)) ?_
    repeat refine fx_n rfl ?_
    refine fx_r rfl rfl ⟨?_, rfl⟩
    simp [yLaw, h2, zb]
set_option maxRecDepth 100000 in
set_option maxHeartbeats 4000000 in
theorem em_does (d : Nat) (M : sy_Mm) (E : Evs) (ne e S L k0 : Nat) (h0 : Nat → Nat) (fg : Nat → Bool) (Y : Yd) (hC : ctM M E ne S L h0 fg) (he : e < ne) (hY : yardM M S Y) (hok : yOK k0 Y) (hk0 : k0 ≤ 40) (hl : yLaw S Y.1 (E e) = true) : Ex (d + 1) i_X8_does [.ref 30, .int (nI e)] M (fun r N => r = none ∧ yardM N S (yTell S E e Y) ∧ kpM M N) := by
  obtain ⟨a1, a2, a3, a4, a5, a6, a7, a8, a9⟩ := hC
  obtain ⟨q0, q1, q2, q3, q4⟩ := a1.2.1 e he
  have t := a2.2 e he
  have hne := a1.1
  obtain ⟨o1, o2, o3, o4, o5, o6, o7⟩ := hok
  obtain ⟨y1, y2, y3, y4, y5, y6⟩ := hY
  have hs2 := yLaw_S hl
  have eY : yTell S E e Y = (uO Y.1 (E e 2) (if E e 0 = 3 then none else some (E e 3)), uO Y.2.1 (E e 2) (cond (yTrue (E e)) (some (E e 1)) none), uO Y.2.2.1 (E e 2) (cond (yTrue (E e)) (some e) none), Y.2.2.2.1, Y.2.2.2.2.1, Y.2.2.2.2.2 + cond (yTrue (E e)) 1 0) := by unfold yTell; rw [hl]; rfl
  rw [eY]
  unfold Ex
  repeat refine fx_n rfl ?_
  rw [fv_nI]
  refine fx_g rfl (ix_nI (by omega) (by omega)) ?_
  rw [nI_cl (by omega), show M 37 (5 * e) = nI (E e 0) from t 0 (by omega)]
  repeat refine fx_n rfl ?_
  rw [fv_nI, nI_p2]
  refine fx_g rfl (ix_nI (by omega) (by omega)) ?_
  rw [nI_cl (by omega), t 2 (by omega)]
  repeat refine fx_n rfl ?_
  refine fx_p rfl (em_isTrue _ _ E ne e a1 a2 he) ?_
  repeat refine fx_n rfl ?_
  -- the rest, from the store of 'since' on
  have rest : ∀ (w v u : Int32) (M1 : sy_Mm), w = nI (Y.2.2.2.2.2 + cond (yTrue (E e)) 1 0) → M1 = sy_up M 30 19 w → v = oI (cond (yTrue (E e)) (some (E e 1)) none) → u = oI (cond (yTrue (E e)) (some e) none) →
      Fx (d + 1) i_X8_does 86 [some (.ref 30), some (.int (nI e)), some (.int (nI (E e 0))), some (.int (nI (E e 2))), some (.int (zb (yTrue (E e))))] [.int u, .int (nI (E e 2)), .ref 40] (sy_up M1 39 (E e 2) v) (fun r N => r = none ∧ yardM N S (uO Y.1 (E e 2) (if E e 0 = 3 then none else some (E e 3)), uO Y.2.1 (E e 2) (cond (yTrue (E e)) (some (E e 1)) none), uO Y.2.2.1 (E e 2) (cond (yTrue (E e)) (some e) none), Y.2.2.2.1, Y.2.2.2.2.1, Y.2.2.2.2.2 + cond (yTrue (E e)) 1 0) ∧ kpM M N) := by
    intro w v u M1 hw hM1 hv hu
    refine fx_g rfl (ix_nI (by omega) (by omega)) ?_
    rw [nI_cl (by omega)]
    repeat refine fx_n rfl ?_
    have fin : ∀ x : Int32, x = oI (if E e 0 = 3 then none else some (E e 3)) → Fx (d + 1) i_X8_does 111 [some (.ref 30), some (.int (nI e)), some (.int (nI (E e 0))), some (.int (nI (E e 2))), some (.int (zb (yTrue (E e))))] [.int x, .int (nI (E e 2)), .ref 38] (sy_up (sy_up M1 39 (E e 2) v) 40 (E e 2) u) (fun r N => r = none ∧ yardM N S (uO Y.1 (E e 2) (if E e 0 = 3 then none else some (E e 3)), uO Y.2.1 (E e 2) (cond (yTrue (E e)) (some (E e 1)) none), uO Y.2.2.1 (E e 2) (cond (yTrue (E e)) (some e) none), Y.2.2.2.1, Y.2.2.2.2.1, Y.2.2.2.2.2 + cond (yTrue (E e)) 1 0) ∧ kpM M N) := by
      intro x hx
      refine fx_g rfl (ix_nI (by omega) (by omega)) ?_
      rw [nI_cl (by omega)]
      subst hM1
      refine fx_r rfl rfl ⟨rfl, ⟨?_, ?_, ?_, ?_, ?_, ?_⟩, (((kpM.rf.up30 (by omega)).up (by omega)).up (by omega)).up (by omega)⟩
      · intro s hs
        dsimp only
        by_cases hq : s = E e 2
        · rw [hq, up_s, uO_s, hx]
        · rw [up_j hq, uO_n hq, up_k (by omega), up_k (by omega), up_k (by omega)]; exact y1 s hs
      · intro s hs
        dsimp only
        rw [up_k (by omega), up_k (by omega)]
        by_cases hq : s = E e 2
        · rw [hq, up_s, uO_s, hv]
        · rw [up_j hq, uO_n hq, up_k (by omega)]; exact y2 s hs
      · intro s hs
        dsimp only
        rw [up_k (by omega)]
        by_cases hq : s = E e 2
        · rw [hq, up_s, uO_s, hu]
        · rw [up_j hq, uO_n hq, up_k (by omega), up_k (by omega)]; exact y3 s hs
      · rw [up_k (by omega), up_k (by omega), up_k (by omega), up_j (by omega)]; exact y4
      · rw [up_k (by omega), up_k (by omega), up_k (by omega), up_j (by omega)]; exact y5
      · rw [up_k (by omega), up_k (by omega), up_k (by omega), up_s, hw]
    by_cases hk3 : E e 0 = 3
    · refine fx_bf rfl (by rw [hk3]; decide) ?_
      repeat refine fx_n rfl ?_
      exact fin _ (by rw [if_pos hk3]; rfl)
    · refine fx_bt rfl (fun z => hk3 ((nI_eq (b := 3) (by omega) (by omega)).mp z)) ?_
      repeat refine fx_n rfl ?_
      rw [fv_nI, nI_p3]
      refine fx_g rfl (ix_nI (by omega) (by omega)) ?_
      subst hM1
      rw [nI_cl (by omega), up_k (by omega), up_k (by omega), up_k (by omega), t 3 (by omega)]
      exact fin _ (by rw [if_neg hk3]; rfl)
  cases ht : yTrue (E e) with
  | true =>
    rw [ht] at rest
    refine fx_bf rfl (by decide) ?_
    repeat refine fx_n rfl ?_
    refine fx_bf rfl (by decide) ?_
    repeat refine fx_n rfl ?_
    rw [fv_nI, nI_1]
    refine fx_g rfl (ix_nI (by omega) (by omega)) ?_
    rw [nI_cl (by omega), up_k (by omega), t 1 (by omega)]
    repeat refine fx_n rfl ?_
    refine fx_g rfl (ix_nI (by omega) (by omega)) ?_
    rw [nI_cl (by omega)]
    repeat refine fx_n rfl ?_
    refine fx_bf rfl (by decide) ?_
    repeat refine fx_n rfl ?_
    exact rest _ _ _ _ (by rw [y6, nI_1]; rfl) rfl rfl rfl
  | false =>
    rw [ht] at rest
    refine fx_bt rfl (by decide) ?_
    repeat refine fx_n rfl ?_
    refine fx_bt rfl (by decide) ?_
    repeat refine fx_n rfl ?_
    refine fx_g rfl (ix_nI (by omega) (by omega)) ?_
    rw [nI_cl (by omega)]
    repeat refine fx_n rfl ?_
    refine fx_bt rfl (by decide) ?_
    repeat refine fx_n rfl ?_
    exact rest _ _ _ _ (by rw [y6, Int32.add_zero]; rfl) rfl rfl rfl
set_option maxRecDepth 100000 in
set_option maxHeartbeats 4000000 in
theorem em_begins (d : Nat) (M : sy_Mm) (E : Evs) (ne S L : Nat) (h0 : Nat → Nat) (fg : Nat → Bool) (hC : ctM M E ne S L h0 fg) : Ex d i_X8_begins [.ref 30] M (fun r N => r = none ∧ yardM N S (y0 h0) ∧ kpM M N) := by
  have loop : ∀ (j s : Nat) (M1 : sy_Mm), s + j = S → (∀ i, i < s → M1 38 i = nI (h0 i) ∧ M1 39 i = -1 ∧ M1 40 i = -1) → kpM M M1 → Fx d i_X8_begins 7 [some (.ref 30), some (.int (nI s))] [.int (M1 30 8), .int (nI s)] M1 (fun r N => r = none ∧ yardM N S (y0 h0) ∧ kpM M N) := by
    intro j
    induction j with
    | zero =>
      intro s M1 hs hI hK
      have e : s = S := by omega
      subst e
      obtain ⟨a1, a2, a3, a4, a5, a6, a7, a8, a9⟩ := hC.kp hK
      refine fx_bt rfl (by rw [a4]; exact nI_le (Nat.le_refl _) (by omega)) ?_
      repeat refine fx_n rfl ?_
      refine fx_r rfl rfl ⟨rfl, ⟨?_, ?_, ?_, ?_, ?_, ?_⟩, ((hK.up30 (by omega)).up30 (by omega)).up30 (by omega)⟩
      · intro i hi; rw [up_k (by omega), up_k (by omega), up_k (by omega)]; exact (hI i hi).1
      · intro i hi; rw [up_k (by omega), up_k (by omega), up_k (by omega)]; exact (hI i hi).2.1
      · intro i hi; rw [up_k (by omega), up_k (by omega), up_k (by omega)]; exact (hI i hi).2.2
      · rw [up_j (by omega), up_j (by omega), up_s]; rfl
      · rw [up_j (by omega), up_s]; rfl
      · rw [up_s]; rfl
    | succ j ih =>
      intro s M1 hs hI hK
      obtain ⟨a1, a2, a3, a4, a5, a6, a7, a8, a9⟩ := hC.kp hK
      refine fx_bf rfl (by rw [a4]; exact nI_ge (by omega) (by omega)) ?_
      repeat refine fx_n rfl ?_
      refine fx_g rfl (ix_nI (by omega) (by omega)) ?_
      rw [nI_cl (by omega), a7 s (by omega)]
      refine fx_g rfl (ix_nI (by omega) (by omega)) ?_
      rw [nI_cl (by omega)]
      repeat refine fx_n rfl ?_
      refine fx_g rfl (ix_nI (by omega) (by omega)) ?_
      rw [nI_cl (by omega)]
      repeat refine fx_n rfl ?_
      refine fx_g rfl (ix_nI (by omega) (by omega)) ?_
      rw [nI_cl (by omega)]
      repeat refine fx_n rfl ?_
      rw [nI_1]
      refine ih (s + 1) _ (by omega) (fun i hi => ?_) (((hK.up (by omega)).up (by omega)).up (by omega))
      by_cases hq : i = s
      · subst hq
        exact ⟨by rw [up_k (by omega), up_k (by omega), up_s], by rw [up_k (by omega), up_s], up_s⟩
      · rw [up_k (by omega), up_k (by omega), up_j hq, up_k (by omega), up_j hq, up_j hq, up_k (by omega), up_k (by omega), up_k (by omega)]
        exact hI i (by omega)
  unfold Ex
  repeat refine fx_n rfl ?_
  exact loop S 0 M (by omega) (fun i hi => by omega) kpM.rf
/-- the reference's yard at a night -/
def atM (M : sy_Mm) (E : Evs) (ne S L : Nat) (h0 : Nat → Nat) (fg : Nat → Bool) (aside : Option Nat) (N : Nat) : Prop := ctM M E ne S L h0 fg ∧ yardM M S (yF S h0 E aside N ne)
set_option maxRecDepth 100000 in
set_option maxHeartbeats 4000000 in
theorem em_goes (d : Nat) (M : sy_Mm) (E : Evs) (ne S L N : Nat) (h0 : Nat → Nat) (fg : Nat → Bool) (aside : Option Nat) (hN : N ≤ 299) (ha : ∀ e, aside = some e → e < 2 ^ 31) (hC : ctM M E ne S L h0 fg) : Ex (d + 2) i_X8_goes [.ref 30, .int (nI N), .int (oI aside)] M (fun r M' => r = none ∧ atM M' E ne S L h0 fg aside N ∧ kpM M M') := by
  have loop : ∀ (j k : Nat) (M1 : sy_Mm), k + j = ne → yardM M1 S (yF S h0 E aside N k) → kpM M M1 → Fx (d + 2) i_X8_goes 11 [some (.ref 30), some (.int (nI N)), some (.int (oI aside)), some (.int (nI k))] [.int (M1 30 12), .int (nI k)] M1 (fun r M' => r = none ∧ atM M' E ne S L h0 fg aside N ∧ kpM M M') := by
    intro j
    induction j with
    | zero =>
      intro k M1 hk hY hK
      have e : k = ne := by omega
      subst e
      have hC1 := hC.kp hK
      have hne := hC.1.1
      refine fx_bt rfl (by rw [hC1.2.1.1]; exact nI_le (Nat.le_refl _) (by omega)) ?_
      exact fx_r rfl rfl ⟨rfl, ⟨hC1, hY⟩, hK⟩
    | succ j ih =>
      intro k M1 hk hY hK
      have hC1 := hC.kp hK
      obtain ⟨a1, a2, a3, a4, a5, a6, a7, a8, a9⟩ := id hC1
      have hne := a1.1
      obtain ⟨q0, q1, q2, q3, q4⟩ := a1.2.1 k (by omega)
      have hok := yF_ok (S := S) (h0 := h0) (aside := aside) (N := N) a1 a8 k (by omega)
      refine fx_bf rfl (by rw [a2.1]; exact nI_ge (by omega) (by omega)) ?_
      repeat refine fx_n rfl ?_
      have skip : (some k = aside ∨ N < E k 1) → Fx (d + 2) i_X8_goes 11 [some (.ref 30), some (.int (nI N)), some (.int (oI aside)), some (.int (nI k + 1))] [.int (M1 30 12), .int (nI k + 1)] M1 (fun r M' => r = none ∧ atM M' E ne S L h0 fg aside N ∧ kpM M M') := by
        intro hq
        rw [nI_1]
        refine ih (k + 1) M1 (by omega) ?_ hK
        have : yF S h0 E aside N (k + 1) = yF S h0 E aside N k := if_pos hq
        rw [this]; exact hY
      by_cases has : some k = aside
      · refine fx_bt rfl ((oI_s ha (by omega)).mpr has.symm).symm ?_
        repeat refine fx_n rfl ?_
        exact skip (Or.inl has)
      · refine fx_bf rfl (fun z => has ((oI_s ha (by omega)).mp z.symm).symm) ?_
        repeat refine fx_n rfl ?_
        rw [fv_nI, nI_1]
        refine fx_g rfl (ix_nI (by omega) (by omega)) ?_
        rw [nI_cl (by omega), a2.2 k (by omega) 1 (by omega)]
        repeat refine fx_n rfl ?_
        by_cases hq : N < E k 1
        · refine fx_bt rfl (nI_lt hq (by omega)) ?_
          repeat refine fx_n rfl ?_
          exact skip (Or.inr hq)
        · refine fx_bf rfl (nI_nlt (by omega) (by omega)) ?_
          repeat refine fx_n rfl ?_
          have eF : yF S h0 E aside N (k + 1) = yTell S E k (yF S h0 E aside N k) := if_neg (by rintro (z | z); exact has z; exact hq z)
          refine fx_p rfl (em_isLawful _ _ E ne k S _ a1 a2 (by omega) a3 a4 hY.1 hok.1) ?_
          cases hl : yLaw S (yF S h0 E aside N k).1 (E k) with
          | true =>
            refine fx_bf rfl (by decide) ?_
            repeat refine fx_n rfl ?_
            refine fx_c rfl (em_does _ M1 E ne k S L k h0 fg _ hC1 (by omega) hY hok (by omega) hl) ?_
            rintro _ M2 ⟨rfl, b1, b2⟩
            repeat refine fx_n rfl ?_
            rw [nI_1]
            exact ih (k + 1) M2 (by omega) (by rw [eF]; exact b1) (hK.tr b2)
          | false =>
            obtain ⟨y1, y2, y3, y4, y5, y6⟩ := hY
            obtain ⟨o1, o2, o3, o4, o5, o6, o7⟩ := hok
            have eY : yTell S E k (yF S h0 E aside N k) = ((yF S h0 E aside N k).1, (yF S h0 E aside N k).2.1, (yF S h0 E aside N k).2.2.1, (yF S h0 E aside N k).2.2.2.1 + 1, (if (yF S h0 E aside N k).2.2.2.2.1 = none then some k else (yF S h0 E aside N k).2.2.2.2.1), (yF S h0 E aside N k).2.2.2.2.2) := by unfold yTell; rw [hl]; rfl
            refine fx_bt rfl (by decide) ?_
            repeat refine fx_n rfl ?_
            have fin : ∀ w : Int32, w = oI (if (yF S h0 E aside N k).2.2.2.2.1 = none then some k else (yF S h0 E aside N k).2.2.2.2.1) → Fx (d + 2) i_X8_goes 11 [some (.ref 30), some (.int (nI N)), some (.int (oI aside)), some (.int (nI k + 1))] [.int (sy_up (sy_up M1 30 17 (M1 30 17 + 1)) 30 18 w 30 12), .int (nI k + 1)] (sy_up (sy_up M1 30 17 (M1 30 17 + 1)) 30 18 w) (fun r M' => r = none ∧ atM M' E ne S L h0 fg aside N ∧ kpM M M') := by
              intro w hw
              rw [nI_1]
              refine ih (k + 1) _ (by omega) ?_ ((hK.up30 (by omega)).up30 (by omega))
              rw [eF, eY]
              refine ⟨fun s hs => ?_, fun s hs => ?_, fun s hs => ?_, ?_, ?_, ?_⟩
              · rw [up_k (by omega), up_k (by omega)]; exact y1 s hs
              · rw [up_k (by omega), up_k (by omega)]; exact y2 s hs
              · rw [up_k (by omega), up_k (by omega)]; exact y3 s hs
              · rw [up_j (by omega), up_s, y4, nI_1]
              · rw [up_s, hw]
              · rw [up_j (by omega), up_j (by omega)]; exact y6
            have e18 : sy_up M1 30 17 (M1 30 17 + 1) 30 18 = oI (yF S h0 E aside N k).2.2.2.2.1 := by rw [up_j (by omega)]; exact y5
            rw [e18]
            by_cases hf : (yF S h0 E aside N k).2.2.2.2.1 = none
            · refine fx_bf rfl (fun z => z (by rw [hf]; rfl)) ?_
              repeat refine fx_n rfl ?_
              exact fin _ (by rw [if_pos hf]; rfl)
            · refine fx_bt rfl (fun z => hf ((oI_n (fun e he => by have := o6 e he; omega)).mp z)) ?_
              repeat refine fx_n rfl ?_
              rw [e18]
              exact fin _ (by rw [if_neg hf])
  unfold Ex
  repeat refine fx_n rfl ?_
  refine fx_c rfl (em_begins _ M E ne S L h0 fg hC) ?_
  rintro _ M1 ⟨rfl, b1, b2⟩
  repeat refine fx_n rfl ?_
  exact loop ne 0 M1 (by omega) b1 b2
end
section
/-! ===== luck, as the reference answers it ===== -/
def lfS (L N : Nat) : Option Nat → Nat
  | none => 0
  | some t => t + L - N
theorem lf_lk (L N : Nat) (t : Option Nat) : decide (0 < lfS L N t) = lk1 L N t := by
  cases t with
  | none => rfl
  | some t =>
    simp only [lfS, lk1]
    congr 1
    apply propext
    omega
def lkM (M : sy_Mm) (S L : Nat) (fg : Nat → Bool) (ow si : Nat → Option Nat) : Prop := S ≤ 9 ∧ M 30 8 = nI S ∧ L ≤ 99 ∧ M 30 11 = nI L ∧ M 30 10 = nI (bN fg S) ∧ (∀ s, s < S → M 38 s = oI (ow s)) ∧ (∀ s, s < S → M 39 s = oI (si s)) ∧ (∀ s h, ow s = some h → h < 8) ∧ ∀ s x, si s = some x → x < 400
theorem atM.lk {M : sy_Mm} {E : Evs} {ne S L : Nat} {h0 : Nat → Nat} {fg : Nat → Bool} {aside : Option Nat} {N : Nat} (h : atM M E ne S L h0 fg aside N) : lkM M S L fg (yF S h0 E aside N ne).1 (yF S h0 E aside N ne).2.1 := by
  obtain ⟨⟨a1, a2, a3, a4, a5, a6, a7, a8, a9⟩, b2⟩ := h
  have hok := yF_ok (S := S) (h0 := h0) (aside := aside) (N := N) a1 a8 ne (Nat.le_refl _)
  exact ⟨a3, a4, a6.2, a5, a9, b2.1, b2.2.1, hok.1, fun s x hx => by have := hok.2.1 s x hx; omega⟩
set_option maxRecDepth 100000 in
set_option maxHeartbeats 4000000 in
theorem em_leftAt (d : Nat) (M : sy_Mm) (S L N s : Nat) (fg : Nat → Bool) (ow si : Nat → Option Nat) (hs : s < S) (hN : N ≤ 400) (hK : lkM M S L fg ow si) : Ev d i_X8_leftAt [.ref 30, .int (nI s), .int (nI N)] M (some (.int (nI (lfS L N (si s))))) M := by
  obtain ⟨hS, h8, hL, h11, h10, hO, hT, hw8, ht⟩ := hK
  refine ev_of ?_
  repeat refine fx_n rfl ?_
  refine fx_g rfl (ix_nI (by omega) (by omega)) ?_
  rw [nI_cl (by omega), hT s hs]
  repeat refine fx_n rfl ?_
  cases hq : si s with
  | none =>
    refine fx_bf rfl (fun z => z rfl) ?_
    repeat refine fx_n rfl ?_
    refine fx_bt rfl (by decide) ?_
    repeat refine fx_n rfl ?_
    exact fx_r rfl rfl ⟨rfl, rfl⟩
  | some t =>
    have := ht s t hq
    refine fx_bt rfl (nI_ne_m1 (by omega)) ?_
    repeat refine fx_n rfl ?_
    refine fx_g rfl (ix_nI (by omega) (by omega)) ?_
    rw [nI_cl (by omega), hT s hs, hq, show oI (some t) = nI t from rfl]
    repeat refine fx_n rfl ?_
    rw [h11, nI_add]
    by_cases hle : N ≤ t + L
    · rw [pk_sub hle]
      refine fx_bt rfl (nI_pos' (by omega)) ?_
      repeat refine fx_n rfl ?_
      exact fx_r rfl rfl ⟨rfl, rfl⟩
    · have hneg := pk_sneg (a := t + L) (b := N) (by omega) (by omega)
      refine fx_bf rfl (Int32.not_le.mpr hneg) ?_
      repeat refine fx_n rfl ?_
      refine fx_r rfl rfl ⟨?_, rfl⟩
      simp only [lfS]
      rw [show t + L - N = 0 by omega]; rfl
set_option maxRecDepth 100000 in
set_option maxHeartbeats 4000000 in
theorem em_isLucky (d : Nat) (M : sy_Mm) (S L N s : Nat) (fg : Nat → Bool) (ow si : Nat → Option Nat) (hs : s < S) (hN : N ≤ 400) (hK : lkM M S L fg ow si) : Ev (d + 1) i_X8_isLucky [.ref 30, .int (nI s), .int (nI N)] M (some (.int (zb (lkS L N (fg s) (si s))))) M := by
  obtain ⟨hS, h8, hL, h11, h10, hO, hT, hw8, ht⟩ := id hK
  refine ev_of ?_
  repeat refine fx_n rfl ?_
  rw [h10, bN_sh _ hs hS]
  unfold lkS
  cases hf : fg s with
  | true =>
    refine fx_bt rfl (by decide) ?_
    repeat refine fx_n rfl ?_
    exact fx_r rfl rfl ⟨rfl, rfl⟩
  | false =>
    refine fx_bf rfl (by decide) ?_
    repeat refine fx_n rfl ?_
    refine fx_p rfl (em_leftAt _ _ S L N s fg ow si hs hN hK) ?_
    have hlf : lfS L N (si s) < 2 ^ 31 := by
      cases hq : si s with
      | none => simp [lfS]
      | some t => have := ht s t hq; simp only [lfS]; omega
    rw [← lf_lk]
    by_cases h0 : 0 < lfS L N (si s)
    · refine fx_bf rfl (nI_nle h0 hlf) ?_
      repeat refine fx_n rfl ?_
      refine fx_r rfl rfl ⟨?_, rfl⟩
      simp [h0, zb]
    · refine fx_bt rfl (by rw [show lfS L N (si s) = 0 by omega]; decide) ?_
      repeat refine fx_n rfl ?_
      refine fx_r rfl rfl ⟨?_, rfl⟩
      simp [h0, zb]
set_option maxRecDepth 100000 in
set_option maxHeartbeats 4000000 in
theorem em_luckNow (d : Nat) (M : sy_Mm) (S L N h : Nat) (fg : Nat → Bool) (ow si : Nat → Option Nat) (hN : N ≤ 400) (hh : h < 8) (hK : lkM M S L fg ow si) : Ev (d + 2) i_X8_luckNow [.ref 30, .int (nI h), .int (nI N)] M (some (.int (nI (cnB (lkp ow si L N fg h) S)))) M := by
  obtain ⟨hS, h8, hL, h11, h10, hO, hT, hw8, ht⟩ := id hK
  have loop : ∀ j s, s + j = S → Fx (d + 2) i_X8_luckNow 11 [some (.ref 30), some (.int (nI h)), some (.int (nI N)), some (.int (nI (cnB (lkp ow si L N fg h) s))), some (.int (nI s))] [.int (M 30 8), .int (nI s)] M (fun r M' => r = some (.int (nI (cnB (lkp ow si L N fg h) S))) ∧ M' = M) := by
    intro j
    induction j with
    | zero =>
      intro s hs
      have e : s = S := by omega
      subst e
      refine fx_bt rfl (by rw [h8]; exact nI_le (Nat.le_refl _) (by omega)) ?_
      repeat refine fx_n rfl ?_
      exact fx_r rfl rfl ⟨rfl, rfl⟩
    | succ j ih =>
      intro s hs
      have i2 := ih (s + 1) (by omega)
      have hb : ∀ k, ow s = some k → k < 2 ^ 31 := fun k hk => by have := hw8 _ _ hk; omega
      refine fx_bf rfl (by rw [h8]; exact nI_ge (by omega) (by omega)) ?_
      repeat refine fx_n rfl ?_
      refine fx_g rfl (ix_nI (by omega) (by omega)) ?_
      rw [nI_cl (by omega), hO s (by omega)]
      repeat refine fx_n rfl ?_
      by_cases ho : ow s = some h
      · refine fx_bf rfl (fun z => z ((oI_s hb (by omega)).mpr ho)) ?_
        repeat refine fx_n rfl ?_
        refine fx_p rfl (em_isLucky _ _ S L N s fg ow si (by omega) hN hK) ?_
        cases hq : lkS L N (fg s) (si s) with
        | true =>
          refine fx_bf rfl (by decide) ?_
          repeat refine fx_n rfl ?_
          rw [cnB_t (by simp [lkp, ho, hq])] at i2
          rw [nI_1, nI_1]
          exact i2
        | false =>
          refine fx_bt rfl (by decide) ?_
          repeat refine fx_n rfl ?_
          rw [cnB_f (by simp [lkp, ho, hq])] at i2
          rw [nI_1, Int32.add_zero]
          exact i2
      · refine fx_bt rfl (fun z => ho ((oI_s hb (by omega)).mp z)) ?_
        repeat refine fx_n rfl ?_
        rw [cnB_f (by simp [lkp, ho])] at i2
        rw [nI_1, Int32.add_zero]
        exact i2
  refine ev_of ?_
  repeat refine fx_n rfl ?_
  exact loop S 0 (by omega)
set_option maxRecDepth 100000 in
set_option maxHeartbeats 4000000 in
theorem em_luckOf (d : Nat) (M : sy_Mm) (E : Evs) (ne S L N h : Nat) (w : Int32) (h0 : Nat → Nat) (fg : Nat → Bool) (hN : N ≤ 299) (hh : h < 8) (hC : ctM M E ne S L h0 fg) : Ex (d + 3) i_X8_luckOf [.ref 30, .int (nI h), .int (nI N), .int w] M (fun r M' => r = some (.int (if w = 0 then nI (cnB (lkp (yF S h0 E none N ne).1 (yF S h0 E none N ne).2.1 L N fg h) S) else nI (1 + 2 * cnB (lkp (yF S h0 E none N ne).1 (yF S h0 E none N ne).2.1 L N fg h) S))) ∧ atM M' E ne S L h0 fg none N ∧ kpM M M') := by
  unfold Ex
  repeat refine fx_n rfl ?_
  refine fx_c rfl (em_goes _ M E ne S L N h0 fg none hN (fun _ q => by cases q) hC) ?_
  rintro _ M1 ⟨rfl, b1, b2⟩
  repeat refine fx_n rfl ?_
  refine fx_p rfl (em_luckNow _ _ S L N h fg _ _ (by omega) hh b1.lk) ?_
  repeat refine fx_n rfl ?_
  by_cases hw : w = 0
  · refine fx_bf rfl (fun z => z hw) ?_
    repeat refine fx_n rfl ?_
    refine fx_r rfl rfl ⟨?_, b1, b2⟩
    rw [if_pos hw]
  · refine fx_bt rfl hw ?_
    repeat refine fx_n rfl ?_
    rw [egg_nI]
    refine fx_r rfl rfl ⟨?_, b1, b2⟩
    rw [if_neg hw]
set_option maxRecDepth 100000 in
set_option maxHeartbeats 4000000 in
theorem em_ledOf (d : Nat) (M : sy_Mm) (E : Evs) (ne S L N h : Nat) (i : Int32) (h0 : Nat → Nat) (fg : Nat → Bool) (hN : N ≤ 299) (hh : h < 8) (hC : ctM M E ne S L h0 fg) : Ex (d + 3) i_X8_ledOf [.ref 30, .int (nI h), .int (nI N), .int i] M (fun r M' => r = some (.int (ledS (lkp (yF S h0 E none N ne).1 (yF S h0 E none N ne).2.1 L N fg h) (yF S h0 E none N ne).2.2.1 i S 0 0)) ∧ kpM M M') := by
  unfold Ex
  repeat refine fx_n rfl ?_
  refine fx_c rfl (em_goes _ M E ne S L N h0 fg none hN (fun _ q => by cases q) hC) ?_
  rintro _ M1 ⟨rfl, b1, b2⟩
  have hlk := b1.lk
  have h40 := b1.2.2.2.1
  generalize (yF S h0 E none N ne).1 = ow at hlk ⊢
  generalize (yF S h0 E none N ne).2.1 = si at hlk ⊢
  generalize (yF S h0 E none N ne).2.2.1 = th at h40 ⊢
  obtain ⟨hS, h8, hL, h11, h10, hO, hT, hw8, ht⟩ := id hlk
  have loop : ∀ j s c, s + j = S → Fx (d + 3) i_X8_ledOf 18 [some (.ref 30), some (.int (nI h)), some (.int (nI N)), some (.int i), some (.int (nI c)), some (.int (nI s))] [.int (M1 30 8), .int (nI s)] M1 (fun r M' => r = some (.int (ledS (lkp ow si L N fg h) th i j s c)) ∧ kpM M M') := by
    intro j
    induction j with
    | zero =>
      intro s c hs
      have e : s = S := by omega
      subst e
      refine fx_bt rfl (by rw [h8]; exact nI_le (Nat.le_refl _) (by omega)) ?_
      repeat refine fx_n rfl ?_
      exact fx_r rfl rfl ⟨rfl, b2⟩
    | succ j ih =>
      intro s c hs
      have i2 := fun c => ih (s + 1) c (by omega)
      have hb : ∀ k, ow s = some k → k < 2 ^ 31 := fun k hk => by have := hw8 _ _ hk; omega
      refine fx_bf rfl (by rw [h8]; exact nI_ge (by omega) (by omega)) ?_
      repeat refine fx_n rfl ?_
      refine fx_g rfl (ix_nI (by omega) (by omega)) ?_
      rw [nI_cl (by omega), hO s (by omega)]
      repeat refine fx_n rfl ?_
      unfold ledS
      by_cases ho : ow s = some h
      · refine fx_bf rfl (fun z => z ((oI_s hb (by omega)).mpr ho)) ?_
        repeat refine fx_n rfl ?_
        refine fx_p rfl (em_isLucky _ _ S L N s fg ow si (by omega) (by omega) hlk) ?_
        cases hq : lkS L N (fg s) (si s) with
        | true =>
          rw [show lkp ow si L N fg h s = true by simp [lkp, ho, hq]]
          refine fx_bf rfl (by decide) ?_
          repeat refine fx_n rfl ?_
          by_cases hc : nI c = i
          · refine fx_bf rfl (fun z => z hc) ?_
            repeat refine fx_n rfl ?_
            refine fx_g rfl (ix_nI (by omega) (by omega)) ?_
            rw [nI_cl (by omega), h40 s (by omega)]
            refine fx_r rfl rfl ⟨?_, b2⟩
            rw [if_pos hc]; rfl
          · refine fx_bt rfl hc ?_
            repeat refine fx_n rfl ?_
            rw [nI_1, nI_1, if_neg hc]
            exact i2 (c + 1)
        | false =>
          rw [show lkp ow si L N fg h s = false by simp [lkp, ho, hq]]
          refine fx_bt rfl (by decide) ?_
          repeat refine fx_n rfl ?_
          rw [nI_1]
          exact i2 c
      · rw [show lkp ow si L N fg h s = false by simp [lkp, ho]]
        refine fx_bt rfl (fun z => ho ((oI_s hb (by omega)).mp z)) ?_
        repeat refine fx_n rfl ?_
        rw [nI_1]
        exact i2 c
  repeat refine fx_n rfl ?_
  exact loop S 0 0 (by omega)
/-- what a stone's state answers -/
def stS (Y : Yd) (L N : Nat) (fg : Nat → Bool) (s : Nat) (w : Int32) : Int32 := if w = 0 then oI (Y.1 s) else cond (lkS L N (fg s) (Y.2.1 s)) (if w = 1 then 1 else nI (lfS L N (Y.2.1 s))) 0
set_option maxRecDepth 100000 in
set_option maxHeartbeats 4000000 in
theorem em_stateOf (d : Nat) (M : sy_Mm) (E : Evs) (ne S L N s : Nat) (w : Int32) (h0 : Nat → Nat) (fg : Nat → Bool) (hN : N ≤ 299) (hs : s < S) (hC : ctM M E ne S L h0 fg) : Ex (d + 3) i_X8_stateOf [.ref 30, .int (nI s), .int (nI N), .int w] M (fun r M' => r = some (.int (stS (yF S h0 E none N ne) L N fg s w)) ∧ kpM M M') := by
  unfold Ex
  repeat refine fx_n rfl ?_
  refine fx_c rfl (em_goes _ M E ne S L N h0 fg none hN (fun _ q => by cases q) hC) ?_
  rintro _ M1 ⟨rfl, b1, b2⟩
  have hlk := b1.lk
  obtain ⟨hS, h8, hL, h11, h10, hO, hT, hw8, ht⟩ := id hlk
  unfold stS
  repeat refine fx_n rfl ?_
  by_cases hw : w = 0
  · rw [if_pos hw]
    refine fx_bf rfl (fun z => z hw) ?_
    repeat refine fx_n rfl ?_
    refine fx_g rfl (ix_nI (by omega) (by omega)) ?_
    rw [nI_cl (by omega), hO s hs]
    repeat refine fx_n rfl ?_
    exact fx_r rfl rfl ⟨rfl, b2⟩
  · rw [if_neg hw]
    refine fx_bt rfl hw ?_
    repeat refine fx_n rfl ?_
    refine fx_p rfl (em_isLucky _ _ S L N s fg _ _ hs (by omega) hlk) ?_
    cases hq : lkS L N (fg s) ((yF S h0 E none N ne).2.1 s) with
    | false =>
      refine fx_bf rfl (by decide) ?_
      repeat refine fx_n rfl ?_
      exact fx_r rfl rfl ⟨rfl, b2⟩
    | true =>
      refine fx_bt rfl (by decide) ?_
      repeat refine fx_n rfl ?_
      by_cases hw1 : w = 1
      · refine fx_bf rfl (fun z => z hw1) ?_
        repeat refine fx_n rfl ?_
        refine fx_r rfl rfl ⟨?_, b2⟩
        rw [if_pos hw1]; rfl
      · refine fx_bt rfl hw1 ?_
        repeat refine fx_n rfl ?_
        refine fx_p rfl (em_leftAt _ _ S L N s fg _ _ hs (by omega) hlk) ?_
        refine fx_r rfl rfl ⟨?_, b2⟩
        rw [if_neg hw1]; rfl
/-- the house asked for, NONE for all -/
def hsI (o : Option Nat) (h : Nat) : Bool := match o with
  | none => true
  | some q => decide (h = q)
set_option maxRecDepth 100000 in
set_option maxHeartbeats 4000000 in
theorem em_daysOf (d : Nat) (M : sy_Mm) (E : Evs) (ne S L a b : Nat) (o : Option Nat) (h0 : Nat → Nat) (fg : Nat → Bool) (aside : Option Nat) (hb : b ≤ 299) (hab : a ≤ b) (ho : ∀ q, o = some q → q < 8) (ha : ∀ e, aside = some e → e < 2 ^ 31) (hC : ctM M E ne S L h0 fg) : Ex (d + 3) i_X8_daysOf [.ref 30, .int (oI o), .int (nI a), .int (nI b), .int (oI aside)] M (fun r N => r = some (.int (nI (dayS (dayN (hsI o) S L h0 fg E aside ne) a (b + 1 - a)))) ∧ kpM M N) := by
  have inner : ∀ (j h c N : Nat) (M2 : sy_Mm) (K : Option Value → sy_Mm → Prop), h + j = 8 → N ≤ b → atM M2 E ne S L h0 fg aside N → (Fx (d + 3) i_X8_daysOf 9 [some (.ref 30), some (.int (oI o)), some (.int (nI a)), some (.int (nI b)), some (.int (oI aside)), some (.int (nI (c + dayN (hsI o) S L h0 fg E aside ne N))), some (.int (nI (N + 1))), some (.int (nI 8))] [.int (nI b), .int (nI (N + 1))] M2 K) →
      Fx (d + 3) i_X8_daysOf 27 [some (.ref 30), some (.int (oI o)), some (.int (nI a)), some (.int (nI b)), some (.int (oI aside)), some (.int (nI (c + cnB (fun h => hsI o h && anyL (yF S h0 E aside N ne).1 (yF S h0 E aside N ne).2.1 L N fg S h) h))), some (.int (nI N)), some (.int (nI h))] [.int 8, .int (nI h)] M2 K := by
    intro j
    induction j with
    | zero =>
      intro h c N M2 K hj hN hA k
      have e : h = 8 := by omega
      subst e
      refine fx_bt rfl (by decide) ?_
      repeat refine fx_n rfl ?_
      rw [nI_1]
      exact k
    | succ j ih =>
      intro h c N M2 K hj hN hA k
      have i2 := ih (h + 1) c N M2 K (by omega) hN hA k
      have hbo : ∀ q, o = some q → q < 2 ^ 31 := fun q hq => by have := ho q hq; omega
      refine fx_bf rfl (nI_ge (a := h) (b := 8) (by omega) (by omega)) ?_
      repeat refine fx_n rfl ?_
      have askL : hsI o h = true → Fx (d + 3) i_X8_daysOf 48 [some (.ref 30), some (.int (oI o)), some (.int (nI a)), some (.int (nI b)), some (.int (oI aside)), some (.int (nI (c + cnB (fun h => hsI o h && anyL (yF S h0 E aside N ne).1 (yF S h0 E aside N ne).2.1 L N fg S h) h))), some (.int (nI N)), some (.int (nI h))] [.int (nI N), .int (nI h), .ref 30, .int (nI (c + cnB (fun h => hsI o h && anyL (yF S h0 E aside N ne).1 (yF S h0 E aside N ne).2.1 L N fg S h) h))] M2 K := by
        intro hs
        refine fx_p rfl (em_luckNow _ _ S L N h fg _ _ (by omega) (by omega) hA.lk) ?_
        have hle := cnB_le (lkp (yF S h0 E aside N ne).1 (yF S h0 E aside N ne).2.1 L N fg h) S
        have hS := hA.lk.1
        by_cases h0' : 0 < cnB (lkp (yF S h0 E aside N ne).1 (yF S h0 E aside N ne).2.1 L N fg h) S
        · refine fx_bf rfl (nI_nle h0' (by omega)) ?_
          repeat refine fx_n rfl ?_
          rw [cnB_t (by simp [hs, anyL, h0'])] at i2
          rw [nI_1, nI_1, Nat.add_assoc]
          exact i2
        · refine fx_bt rfl (by rw [show cnB (lkp (yF S h0 E aside N ne).1 (yF S h0 E aside N ne).2.1 L N fg h) S = 0 by omega]; decide) ?_
          repeat refine fx_n rfl ?_
          rw [cnB_f (by simp [anyL, h0'])] at i2
          rw [nI_1, Int32.add_zero]
          exact i2
      cases hoo : o with
      | none =>
        subst hoo
        refine fx_bt rfl rfl ?_
        repeat refine fx_n rfl ?_
        exact askL rfl
      | some q =>
        subst hoo
        have := ho q rfl
        refine fx_bf rfl (nI_ne_m1 (by omega)) ?_
        repeat refine fx_n rfl ?_
        by_cases hq : h = q
        · refine fx_bf rfl (fun z => z (by rw [hq]; rfl)) ?_
          repeat refine fx_n rfl ?_
          exact askL (by simp [hsI, hq])
        · refine fx_bt rfl (fun z => hq ((nI_eq (by omega) (by omega)).mp z).symm) ?_
          repeat refine fx_n rfl ?_
          rw [cnB_f (by simp [hsI, hq])] at i2
          rw [nI_1, Int32.add_zero]
          exact i2
  have loop : ∀ (j N c : Nat) (x : Option Value) (M1 : sy_Mm), N + j = b + 1 → kpM M M1 →
      Fx (d + 3) i_X8_daysOf 9 [some (.ref 30), some (.int (oI o)), some (.int (nI a)), some (.int (nI b)), some (.int (oI aside)), some (.int (nI c)), some (.int (nI N)), x] [.int (nI b), .int (nI N)] M1 (fun r N' => r = some (.int (nI (c + dayS (dayN (hsI o) S L h0 fg E aside ne) N j))) ∧ kpM M N') := by
    intro j
    induction j with
    | zero =>
      intro N c x M1 hN hK
      refine fx_bt rfl (nI_lt (by omega) (by omega)) ?_
      repeat refine fx_n rfl ?_
      exact fx_r rfl rfl ⟨rfl, hK⟩
    | succ j ih =>
      intro N c x M1 hN hK
      refine fx_bf rfl (nI_nlt (by omega) (by omega)) ?_
      repeat refine fx_n rfl ?_
      refine fx_c rfl (em_goes _ M1 E ne S L N h0 fg aside (by omega) ha (hC.kp hK)) ?_
      rintro _ M2 ⟨rfl, b1, b2⟩
      repeat refine fx_n rfl ?_
      rw [dayS_cons]
      refine inner 8 0 c N M2 _ (by omega) (by omega) b1 ?_
      have := ih (N + 1) (c + dayN (hsI o) S L h0 fg E aside ne N) (some (.int (nI 8))) M2 (by omega) (hK.tr b2)
      rw [Nat.add_assoc] at this
      exact this
  unfold Ex
  repeat refine fx_n rfl ?_
  have := loop (b + 1 - a) a 0 none M (by omega) kpM.rf
  rw [Nat.zero_add] at this
  exact this
end
section
/-! ===== what holds between class and reference ===== -/
def iText (M : sy_Mm) (n : Nat) : Prop := n ≤ 30 ∧ M 1 1 = nI n ∧ M 30 6 = nI n ∧ (∀ j, j < n → M 35 j = M 2 j) ∧ M 1 2 = tx_fault (M 2) n ∧ M 1 3 = nI (tx_st (M 2) n)
def iTale (M : sy_Mm) (E : Evs) (ne : Nat) : Prop := taleOK E ne ∧ taleC M E ne ∧ taleM M E ne
def iLast (M : sy_Mm) (L : Nat) : Prop := M 9 6 = nI L ∧ M 30 11 = nI L ∧ 1 ≤ L ∧ L ≤ 99
def iBook (M : sy_Mm) (B : Evs) (nb : Nat) : Prop := nb ≤ 8 ∧ M 14 5 = nI nb ∧ M 30 20 = nI nb ∧ ∀ b, b < nb → (B b 0 < 8 ∧ B b 1 ≤ 299 ∧ B b 2 ≤ 19) ∧ (M 15 b = nI (B b 0) ∧ M 16 b = nI (B b 1) ∧ M 17 b = nI (B b 2)) ∧ ∀ c, c < 3 → M 41 (3 * b + c) = nI (B b c)
def iGrd (M : sy_Mm) (G : Nat → Nat) : Prop := ∀ h, h < 8 → G h ≤ 16 ∧ M 20 h = nI (G h) ∧ M 45 h = nI (G h)
/-- a sheet's form and size: none where it is lost -/
def iSh1 (M : sy_Mm) (s : Nat) (o : Option (Nat × Nat)) : Prop := match o with
  | none => M (22 + 2 * s) 1 = -1 ∧ M (22 + 2 * s) 2 = 0 ∧ M 31 s = -1
  | some (f, z) => f ≤ 2 ∧ z ≤ 60 ∧ M (22 + 2 * s) 1 = nI f ∧ M (22 + 2 * s) 2 = nI z ∧ M 31 s = nI f ∧ M 32 s = nI z ∧ ∀ j, j < z → M 33 (60 * s + j) = M (23 + 2 * s) j
def iSht (M : sy_Mm) (F : Nat → Option (Nat × Nat)) : Prop := ∀ s, s < 4 → iSh1 M s (F s)
def Inv (M : sy_Mm) : Prop := ∃ (n : Nat) (E : Evs) (ne L : Nat) (B : Evs) (nb : Nat) (G : Nat → Nat) (F : Nat → Option (Nat × Nat)), iText M n ∧ iTale M E ne ∧ iLast M L ∧ iBook M B nb ∧ iGrd M G ∧ iSht M F ∧ M 0 7 = M 30 4
/-- scratch: what questions may change -/
def dead (k j : Nat) : Prop := (k = 9 ∧ j ≠ 6) ∨ k = 10 ∨ k = 11 ∨ k = 12 ∨ k = 13 ∨ (k = 14 ∧ j ≠ 5) ∨ k = 18 ∨ (k = 30 ∧ (j = 7 ∨ j = 8 ∨ j = 10 ∨ j = 17 ∨ j = 18 ∨ j = 19)) ∨ k = 34 ∨ k = 36 ∨ k = 38 ∨ k = 39 ∨ k = 40 ∨ k = 42 ∨ k = 43 ∨ k = 44
def kq (M N : sy_Mm) : Prop := ∀ k j, ¬ dead k j → N k j = M k j
theorem kq.rf {M : sy_Mm} : kq M M := fun _ _ _ => rfl
theorem kq.tr {M N K : sy_Mm} (h : kq M N) (g : kq N K) : kq M K := fun k j q => (g k j q).trans (h k j q)
theorem kpY.q {M N : sy_Mm} (h : kpY M N) : kq M N := by
  intro k j q
  unfold dead at q
  by_cases h9 : k = 9
  · subst h9
    exact h.2 j (by omega) (by omega) (by omega) (by omega) (by omega)
  · rw [h.1 k h9 (by omega) (by omega) (by omega)]
theorem kpM.q {M N : sy_Mm} (h : kpM M N) : kq M N := by
  intro k j q
  unfold dead at q
  by_cases h9 : k = 30
  · subst h9
    exact h.2 j (by omega) (by omega) (by omega)
  · rw [h.1 k h9 (by omega) (by omega) (by omega)]
theorem rdOK.q {b : Nat → Int32} {n : Nat} {M N : sy_Mm} (h : rdOK b n M N) : kq M N := by
  intro k j q
  unfold dead at q
  by_cases h9 : k = 30
  · subst h9
    exact h.2.2.2.2 j (by omega) (by omega) (by omega)
  · rw [h.2.2.2.1 k h9 (by omega)]
theorem kq.row {M N : sy_Mm} (h : kq M N) (k : Nat) (q : ∀ j, ¬ dead k j) : N k = M k := funext fun j => h k j (q j)
theorem iText.kp {M N : sy_Mm} {n : Nat} (h : iText M n) (k : kq M N) : iText N n := by
  obtain ⟨a1, a2, a3, a4, a5, a6⟩ := h
  have r1 := k.row 1 (fun j => by unfold dead; omega)
  have r2 := k.row 2 (fun j => by unfold dead; omega)
  have r35 := k.row 35 (fun j => by unfold dead; omega)
  refine ⟨a1, by rw [r1]; exact a2, by rw [k 30 6 (by unfold dead; omega)]; exact a3, by rw [r35, r2]; exact a4, by rw [r1, r2]; exact a5, by rw [r1, r2]; exact a6⟩
theorem taleC.kk {M N : sy_Mm} {E : Evs} {ne : Nat} (h : taleC M E ne) (k : kq M N) : taleC N E ne := by
  refine ⟨by rw [k 3 5 (by unfold dead; omega)]; exact h.1, fun e he => ?_⟩
  rw [k 4 e (by unfold dead; omega), k 5 e (by unfold dead; omega), k 6 e (by unfold dead; omega), k 7 e (by unfold dead; omega), k 8 e (by unfold dead; omega)]
  exact h.2 e he
theorem taleM.kk {M N : sy_Mm} {E : Evs} {ne : Nat} (h : taleM M E ne) (k : kq M N) : taleM N E ne := by
  refine ⟨by rw [k 30 12 (by unfold dead; omega)]; exact h.1, fun e he c hc => ?_⟩
  rw [k 37 _ (by unfold dead; omega)]
  exact h.2 e he c hc
theorem iTale.kp {M N : sy_Mm} {E : Evs} {ne : Nat} (h : iTale M E ne) (k : kq M N) : iTale N E ne := ⟨h.1, h.2.1.kk k, h.2.2.kk k⟩
theorem iLast.kp {M N : sy_Mm} {L : Nat} (h : iLast M L) (k : kq M N) : iLast N L := ⟨by rw [k 9 6 (by unfold dead; omega)]; exact h.1, by rw [k 30 11 (by unfold dead; omega)]; exact h.2.1, h.2.2⟩
theorem iBook.kp {M N : sy_Mm} {B : Evs} {nb : Nat} (h : iBook M B nb) (k : kq M N) : iBook N B nb := by
  refine ⟨h.1, by rw [k 14 5 (by unfold dead; omega)]; exact h.2.1, by rw [k 30 20 (by unfold dead; omega)]; exact h.2.2.1, fun b hb => ?_⟩
  obtain ⟨a1, a2, a3⟩ := h.2.2.2 b hb
  refine ⟨a1, ?_, fun c hc => ?_⟩
  · rw [k 15 b (by unfold dead; omega), k 16 b (by unfold dead; omega), k 17 b (by unfold dead; omega)]; exact a2
  · rw [k 41 _ (by unfold dead; omega)]; exact a3 c hc
theorem iGrd.kp {M N : sy_Mm} {G : Nat → Nat} (h : iGrd M G) (k : kq M N) : iGrd N G := by
  intro q hq
  rw [k 20 q (by unfold dead; omega), k 45 q (by unfold dead; omega)]
  exact h q hq
theorem iSh1.kp {M N : sy_Mm} {s : Nat} {o : Option (Nat × Nat)} (h : iSh1 M s o) (hs : s < 4) (k : kq M N) : iSh1 N s o := by
  have r1 := k.row (22 + 2 * s) (fun j => by unfold dead; omega)
  have r2 := k.row (23 + 2 * s) (fun j => by unfold dead; omega)
  have r31 := k.row 31 (fun j => by unfold dead; omega)
  have r32 := k.row 32 (fun j => by unfold dead; omega)
  have r33 := k.row 33 (fun j => by unfold dead; omega)
  unfold iSh1 at h ⊢
  rw [r1, r2, r31, r32, r33]
  exact h
theorem iSht.kp {M N : sy_Mm} {F : Nat → Option (Nat × Nat)} (h : iSht M F) (k : kq M N) : iSht N F := fun s hs => (h s hs).kp hs k
theorem Inv.kp {M N : sy_Mm} (h : Inv M) (k : kq M N) : Inv N := by
  obtain ⟨n, E, ne, L, B, nb, G, F, h1, h2, h3, h4, h5, h6, h7⟩ := h
  refine ⟨n, E, ne, L, B, nb, G, F, h1.kp k, h2.kp k, h3.kp k, h4.kp k, h5.kp k, h6.kp k, ?_⟩
  rw [k 0 7 (by unfold dead; omega), k 30 4 (by unfold dead; omega)]
  exact h7
theorem inv_ctC {M : sy_Mm} {n : Nat} {E : Evs} {ne L : Nat} (h1 : iText M n) (h2 : iTale M E ne) (h3 : iLast M L) : ctC M E ne (tx_st (M 2) n) L (tx_h (M 2)) (tx_fg (M 2)) := by
  obtain ⟨a1, a2, a3, a4, a5, a6⟩ := h1
  exact ⟨h2.1, h2.2.1, (tx_st_le a1).1, a6, h3.1, h3.2.2, fun s hs => tx_h_eq a1 hs, tx_h_lt _, fun _ _ => rfl⟩
theorem inv_ctM {M N : sy_Mm} {n : Nat} {E : Evs} {ne L : Nat} (h1 : iText M n) (h2 : iTale M E ne) (h3 : iLast M L) (hr : rdOK (M 2) n M N) : ctM N E ne (tx_st (M 2) n) L (tx_h (M 2)) (tx_fg (M 2)) := by
  obtain ⟨a1, a2, a3, a4, a5, a6⟩ := h1
  have k := hr.q
  exact ⟨h2.1, h2.2.2.kk k, (tx_st_le a1).1, hr.1, by rw [k 30 11 (by unfold dead; omega)]; exact h3.2.1, h3.2.2, fun s hs => by rw [hr.2.2.1 s hs]; exact tx_h_eq a1 hs, tx_h_lt _, hr.2.1⟩
theorem em_reads' (d : Nat) {M : sy_Mm} {n : Nat} (h1 : iText M n) : Ex (d + 2) i_X8_reads [.ref 30] M (fun r N => r = some (.int (tx_fault (M 2) n)) ∧ rdOK (M 2) n M N) := em_reads d M (M 2) n h1.1 h1.2.2.1 h1.2.2.2.1
/-- class and reference answer alike, and what holds between them holds again -/
def AG (yc ym : Nat) (as : List Value) (M : sy_Mm) : Prop := ∀ d, Ex (d + 30) yc (.ref 0 :: as) M (fun r N => (∃ v, r = some (.int v)) ∧ Ex (d + 30) ym (.ref 30 :: as) N (fun r' N' => r' = r ∧ Inv N'))
def AGl (yc ym : Nat) (as : List Value) (M : sy_Mm) : Prop := ∀ d, Ex (d + 30) yc (.ref 0 :: as) M (fun r N => (∃ v, r = some (.long v)) ∧ Ex (d + 30) ym (.ref 30 :: as) N (fun r' N' => r' = r ∧ Inv N'))
/-! ===== questions: stone, judged, at, luck, days, led, without ===== -/
set_option maxRecDepth 100000 in
set_option maxHeartbeats 4000000 in
theorem ag_fault {M : sy_Mm} (h : Inv M) : AG i_X7_fault i_X8_fault [] M := by
  intro d
  have hI := h
  obtain ⟨n, E, ne, L, B, nb, G, F, h1, h2, h3, h4, h5, h6, h7⟩ := h
  unfold Ex
  repeat refine fx_n rfl ?_
  refine fx_r rfl rfl ⟨⟨_, rfl⟩, ?_⟩
  repeat refine fx_n rfl ?_
  refine fx_c rfl (em_reads' _ h1) ?_
  rintro _ N ⟨rfl, hr⟩
  refine fx_r rfl rfl ⟨?_, hI.kp hr.q⟩
  rw [h1.2.2.2.2.1]
set_option maxRecDepth 100000 in
set_option maxHeartbeats 4000000 in
theorem ag_judged {M : sy_Mm} (h : Inv M) : AG i_X7_judged i_X8_judged [] M := by
  intro d
  have hI := h
  obtain ⟨n, E, ne, L, B, nb, G, F, h1, h2, h3, h4, h5, h6, h7⟩ := h
  unfold Ex
  repeat refine fx_n rfl ?_
  refine fx_c rfl (ex_tellAll _ M E ne _ L _ _ (inv_ctC h1 h2 h3)) ?_
  rintro _ N ⟨rfl, b1, b2⟩
  repeat refine fx_n rfl ?_
  refine fx_r rfl rfl ⟨⟨_, rfl⟩, ?_⟩
  have k := b2.q
  have hI1 := hI.kp k
  repeat refine fx_n rfl ?_
  refine fx_c rfl (em_reads' _ (h1.kp k)) ?_
  rintro _ N1 ⟨rfl, hr⟩
  repeat refine fx_n rfl ?_
  have e2 : N 2 = M 2 := k.row 2 (fun j => by unfold dead; omega)
  have hc := inv_ctM (h1.kp k) (h2.kp k) (h3.kp k) hr
  rw [e2] at hc
  refine fx_c rfl (em_goes _ N1 E ne _ L 199 _ _ none (by omega) (fun _ q => by cases q) hc) ?_
  rintro _ N2 ⟨rfl, c1, c2⟩
  repeat refine fx_n rfl ?_
  refine fx_r rfl rfl ⟨?_, (hI1.kp hr.q).kp c2.q⟩
  rw [c1.2.2.2.2.2.1, b1.2.2.1.2.2.2.2.1]
end
section
section WPZ
variable {d y pc : Nat} {ls : sy_Lo} {st : List Value} {M : sy_Mm} {P : Option Value → sy_Mm → Prop} {pc' t : Nat} {ls' : sy_Lo} {st' : List Value} {M1 : sy_Mm}
theorem fx_ze {p : Bool} {inst : Decidable (zb p = 0)} (h : sy_step y pc ls st M = some (.inr (.inr (.inl (decide (zb p = 0), t, pc', ls', st', M1))))) (kt : p = false → Fx d y t ls' st' M1 P) (kf : p = true → Fx d y pc' ls' st' M1 P) : Fx d y pc ls st M P := fx_b h (fun q => kt (zb_0.mp q)) (fun q => kf (by cases p; exact absurd rfl q; rfl))
theorem fx_zn {p : Bool} {inst : Decidable (¬ zb p = 0)} (h : sy_step y pc ls st M = some (.inr (.inr (.inl (decide (¬ zb p = 0), t, pc', ls', st', M1))))) (kt : p = true → Fx d y t ls' st' M1 P) (kf : p = false → Fx d y pc' ls' st' M1 P) : Fx d y pc ls st M P := fx_b h (fun q => kt (by cases p; exact absurd rfl q; rfl)) (fun q => kf (zb_0.mp (Decidable.byContradiction q)))
end WPZ
theorem zt_ne : ¬ zb true = 0 := by decide
theorem ev_wi (d : Nat) (M : sy_Mm) (v m : Int32) (b : Int) (hb : m.toInt = b) : Ev d i_X7_within [.int v, .int m] M (some (.int (zb (inR v 0 b)))) M := by
  rw [← hb]; exact ev_within d M v m
theorem em_ir (d : Nat) (M : sy_Mm) (v : Int32) (a b : Int64) (a' b' : Int) (ha : a.toInt = a') (hb : b.toInt = b') : Ev d i_X8_in [.long v.toInt64, .long a, .long b] M (some (.int (zb (inR v a' b')))) M := by
  rw [← in_R v ha hb]; exact em_in d M _ a b
end
section
theorem zn {p : Bool} (h : ¬ zb p = 0) : p = true := by cases p <;> simp_all [zb]
theorem zy {p : Bool} (h : zb p = 0) : p = false := zb_0.mp h
/-! ===== at ===== -/
def atS (S L : Nat) (Y : Nat → Yd) (fg : Nat → Bool) (s n w : Int32) : Int32 := cond (inR s 0 ((S : Int) - 1) && (inR n 0 299 && inR w 0 2)) (stS (Y n.toNatClampNeg) L n.toNatClampNeg fg s.toNatClampNeg w) (-2)
theorem inR_S {x : Int32} {S : Nat} (h : inR x 0 ((S : Int) - 1) = true) : ∃ k : Nat, k < S ∧ x = nI k := by
  obtain ⟨h1, h2⟩ := inR_t.mp h
  cases S with
  | zero => simp at h2; omega
  | succ S =>
    obtain ⟨k, hk, e⟩ := inR_nI (x := x) (b := S) (inR_t.mpr ⟨h1, by omega⟩)
    exact ⟨k, by omega, e⟩
set_option maxRecDepth 100000 in
set_option maxHeartbeats 4000000 in
theorem ex_at (d : Nat) (M : sy_Mm) (E : Evs) (ne S L : Nat) (h0 : Nat → Nat) (fg : Nat → Bool) (s n w : Int32) (hC : ctC M E ne S L h0 fg) : Ex (d + 4) i_X7_at [.ref 0, .int s, .int n, .int w] M (fun r N => r = some (.int (atS S L (fun N => yF S h0 E none N ne) fg s n w)) ∧ kpY M N) := by
  obtain ⟨a1, a2, a3, a4, a5, a6, a7, a8, a9⟩ := id hC
  unfold Ex
  cases g : (inR s 0 ((S : Int) - 1) && (inR n 0 299 && inR w 0 2)) with
  | false =>
    unfold atS
    rw [g]
    repeat' (first | refine fx_n rfl ?_ | refine fx_b rfl (fun _ => ?_) (fun _ => ?_) | refine fx_p rfl (ev_has _ _ _ S a3 a4) ?_ | refine fx_p rfl (ev_within _ _ _ _) ?_ | refine fx_r rfl rfl ?_)
    all_goals
      first
        | exact ⟨rfl, kpY.rf⟩
        | (exfalso; simp_all [zb_0])
  | true =>
    unfold atS
    rw [g]
    simp only [Bool.and_eq_true] at g
    obtain ⟨g1, g2, g3⟩ := g
    repeat refine fx_n rfl ?_
    refine fx_p rfl (ev_has _ _ _ S a3 a4) ?_
    rw [g1]
    refine fx_bf rfl (by decide) ?_
    repeat refine fx_n rfl ?_
    refine fx_p rfl (ev_within _ _ _ _) ?_
    rw [show inR n 0 (299 : Int32).toInt = true from g2]
    refine fx_bf rfl (by decide) ?_
    repeat refine fx_n rfl ?_
    refine fx_p rfl (ev_within _ _ _ _) ?_
    rw [show inR w 0 (2 : Int32).toInt = true from g3]
    refine fx_bt rfl (by decide) ?_
    obtain ⟨s, hs, rfl⟩ := inR_S g1
    obtain ⟨N, hN, rfl⟩ := inR_nI (b := 299) g2
    rw [nI_cl (by omega), nI_cl (by omega)]
    repeat refine fx_n rfl ?_
    refine fx_c rfl (ex_tellFrom _ M E ne S L N h0 fg hN hC) ?_
    rintro _ M1 ⟨rfl, b1, b2⟩
    have hlk := b1.lk
    obtain ⟨hS, h3, hL, h5, hO, h11, hw8, ht⟩ := id hlk
    repeat refine fx_n rfl ?_
    simp only [cond_true]
    unfold stS
    by_cases hw : w = 0
    · rw [if_pos hw]
      refine fx_bf rfl (fun z => z hw) ?_
      repeat refine fx_n rfl ?_
      refine fx_g rfl (ix_nI (by omega) (by omega)) ?_
      rw [nI_cl (by omega), hO s hs]
      exact fx_r rfl rfl ⟨rfl, b2⟩
    · rw [if_neg hw]
      refine fx_bt rfl hw ?_
      repeat refine fx_n rfl ?_
      refine fx_p rfl (ev_isLucky _ _ S L N s fg _ hS hs (by omega) hL h5 h11 ht) ?_
      cases hq : lkS L N (fg s) ((yF S h0 E none N ne).2.1 s) with
      | false =>
        refine fx_bf rfl (by decide) ?_
        repeat refine fx_n rfl ?_
        exact fx_r rfl rfl ⟨rfl, b2⟩
      | true =>
        refine fx_bt rfl (by decide) ?_
        repeat refine fx_n rfl ?_
        by_cases hw1 : w = 1
        · refine fx_bf rfl (fun z => z hw1) ?_
          repeat refine fx_n rfl ?_
          refine fx_r rfl rfl ⟨?_, b2⟩
          rw [if_pos hw1]; rfl
        · refine fx_bt rfl hw1 ?_
          repeat refine fx_n rfl ?_
          refine fx_g rfl (ix_nI (by omega) (by omega)) ?_
          rw [nI_cl (by omega), h11 s hs]
          repeat refine fx_n rfl ?_
          refine fx_r rfl rfl ⟨?_, b2⟩
          rw [if_neg hw1]
          have hl1 : lk1 L N ((yF S h0 E none N ne).2.1 s) = true := by
            simp only [lkS, Bool.and_eq_true] at hq
            exact hq.2
          cases ht' : (yF S h0 E none N ne).2.1 s with
          | none => rw [ht'] at hl1; cases hl1
          | some t =>
            rw [ht'] at hl1
            have : N < t + L := by simpa [lk1] using hl1
            simp only [uI, lfS, cond_true]
            rw [pk_sub (by omega)]
theorem in_S {S : Nat} (v : Int32) (hS : S ≤ 9) : decide ((0 : Int64) ≤ v.toInt64 ∧ v.toInt64 ≤ (nI S - 1).toInt64) = inR v 0 ((S : Int) - 1) := by
  refine in_R v rfl ?_
  rw [Int32.toInt_toInt64]
  exact pk_sub_toInt (a := S) (b := 1) (by omega) (by omega)
set_option maxRecDepth 100000 in
set_option maxHeartbeats 4000000 in
theorem em_isStone (d : Nat) {M : sy_Mm} {n : Nat} (h1 : iText M n) (v : Int32) : Ex (d + 3) i_X8_isStone [.ref 30, .int v] M (fun r N => r = some (.int (zb (inR v 0 (((tx_st (M 2) n : Nat) : Int) - 1)))) ∧ rdOK (M 2) n M N) := by
  unfold Ex
  repeat refine fx_n rfl ?_
  refine fx_c rfl (em_reads' _ h1) ?_
  rintro _ N ⟨rfl, hr⟩
  repeat refine fx_n rfl ?_
  refine fx_p rfl (em_in _ _ _ _ _) ?_
  rw [hr.1, in_S v (tx_st_le h1.1).1]
  exact fx_r rfl (zb_ok _) ⟨rfl, hr⟩
set_option maxRecDepth 100000 in
set_option maxHeartbeats 4000000 in
theorem em_at (d : Nat) {M : sy_Mm} {n : Nat} {E : Evs} {ne L : Nat} (h1 : iText M n) (h2 : iTale M E ne) (h3 : iLast M L) (s t w : Int32) : Ex (d + 4) i_X8_at [.ref 30, .int s, .int t, .int w] M (fun r N => r = some (.int (atS (tx_st (M 2) n) L (fun N => yF (tx_st (M 2) n) (tx_h (M 2)) E none N ne) (tx_fg (M 2)) s t w)) ∧ kq M N) := by
  unfold Ex
  repeat refine fx_n rfl ?_
  refine fx_c rfl (em_isStone _ h1 s) ?_
  rintro _ N ⟨rfl, hr⟩
  have hC := inv_ctM h1 h2 h3 hr
  have hS := hC.2.2.1
  unfold atS
  cases g1 : inR s 0 (((tx_st (M 2) n : Nat) : Int) - 1) with
  | false =>
    refine fx_bt rfl (by decide) ?_
    repeat refine fx_n rfl ?_
    exact fx_r rfl rfl ⟨rfl, hr.q⟩
  | true =>
    refine fx_bf rfl (by decide) ?_
    repeat refine fx_n rfl ?_
    refine fx_p rfl (em_isNight _ _ _) ?_
    cases g2 : inR t 0 299 with
    | false =>
      refine fx_bt rfl (by decide) ?_
      repeat refine fx_n rfl ?_
      exact fx_r rfl rfl ⟨rfl, hr.q⟩
    | true =>
      refine fx_bf rfl (by decide) ?_
      repeat refine fx_n rfl ?_
      refine fx_p rfl (em_in _ _ _ _ _) ?_
      rw [in_R w (a' := 0) (b' := 2) rfl rfl]
      cases g3 : inR w 0 2 with
      | false =>
        refine fx_bt rfl (by decide) ?_
        repeat refine fx_n rfl ?_
        exact fx_r rfl rfl ⟨rfl, hr.q⟩
      | true =>
        refine fx_bf rfl (by decide) ?_
        repeat refine fx_n rfl ?_
        obtain ⟨s, hs, rfl⟩ := inR_S g1
        obtain ⟨T, hT, rfl⟩ := inR_nI (b := 299) g2
        rw [nI_cl (by omega), nI_cl (by omega)]
        refine fx_c rfl (em_stateOf _ N E ne _ L T s w _ _ hT hs hC) ?_
        rintro _ N1 ⟨rfl, c2⟩
        repeat refine fx_n rfl ?_
        exact fx_r rfl rfl ⟨rfl, hr.q.tr c2.q⟩
set_option maxRecDepth 100000 in
set_option maxHeartbeats 4000000 in
theorem ag_at {M : sy_Mm} (h : Inv M) (s t w : Int32) : AG i_X7_at i_X8_at [.int s, .int t, .int w] M := by
  intro d
  obtain ⟨n, E, ne, L, B, nb, G, F, h1, h2, h3, h4, h5, h6, h7⟩ := id h
  refine fx_w (ex_at _ M E ne _ L _ _ s t w (inv_ctC h1 h2 h3)) ?_
  rintro _ N ⟨rfl, b2⟩
  have e2 : N 2 = M 2 := b2.q.row 2 (fun j => by unfold dead; omega)
  refine ⟨⟨_, rfl⟩, fx_w (em_at _ (h1.kp b2.q) (h2.kp b2.q) (h3.kp b2.q) s t w) ?_⟩
  rintro _ N1 ⟨rfl, c2⟩
  rw [e2]
  exact ⟨rfl, (h.kp b2.q).kp c2⟩
/-! ===== stone ===== -/
def snS (b : Nat → Int32) (S : Nat) (s w : Int32) : Int32 := cond (inR s 0 ((S : Int) - 1) && inR w 0 1) (if w = 0 then b (2 * s.toNatClampNeg) - 48 else zb (tx_fg b s.toNatClampNeg)) (-2)
set_option maxRecDepth 100000 in
set_option maxHeartbeats 4000000 in
theorem ev_stone (d : Nat) (M : sy_Mm) (S : Nat) (s w : Int32) (hS : S ≤ 9) (h3 : M 1 3 = nI S) : Ev (d + 1) i_X7_stone [.ref 0, .int s, .int w] M (some (.int (snS (M 2) S s w))) M := by
  refine ev_of ?_
  unfold snS
  cases g : (inR s 0 ((S : Int) - 1) && inR w 0 1) with
  | false =>
    unfold Ex
    repeat' (first | refine fx_n rfl ?_ | refine fx_b rfl (fun _ => ?_) (fun _ => ?_) | refine fx_p rfl (ev_has _ _ _ S hS h3) ?_ | refine fx_p rfl (ev_within _ _ _ _) ?_ | refine fx_r rfl rfl ?_)
    all_goals
      first
        | exact ⟨rfl, rfl⟩
        | (exfalso; simp_all [zb_0])
  | true =>
    simp only [Bool.and_eq_true] at g
    obtain ⟨g1, g3⟩ := g
    repeat refine fx_n rfl ?_
    refine fx_p rfl (ev_has _ _ _ S hS h3) ?_
    rw [g1]
    refine fx_bf rfl (by decide) ?_
    repeat refine fx_n rfl ?_
    refine fx_p rfl (ev_within _ _ _ _) ?_
    rw [show inR w 0 (1 : Int32).toInt = true from g3]
    refine fx_bt rfl (by decide) ?_
    obtain ⟨s, hs, rfl⟩ := inR_S g1
    rw [nI_cl (by omega)]
    repeat refine fx_n rfl ?_
    simp only [cond_true]
    by_cases hw : w = 0
    · rw [if_pos hw]
      refine fx_bf rfl (fun z => z hw) ?_
      repeat refine fx_n rfl ?_
      refine fx_p rfl (ev_houseOf _ _ s (by omega)) ?_
      repeat refine fx_n rfl ?_
      exact fx_r rfl rfl ⟨rfl, rfl⟩
    · rw [if_neg hw]
      refine fx_bt rfl hw ?_
      repeat refine fx_n rfl ?_
      refine fx_p rfl (ev_isForged _ _ s (by omega)) ?_
      cases hf : tx_fg (M 2) s with
      | true =>
        refine fx_bf rfl (by decide) ?_
        repeat refine fx_n rfl ?_
        exact fx_r rfl rfl ⟨rfl, rfl⟩
      | false =>
        refine fx_bt rfl (by decide) ?_
        repeat refine fx_n rfl ?_
        exact fx_r rfl rfl ⟨rfl, rfl⟩
set_option maxRecDepth 100000 in
set_option maxHeartbeats 4000000 in
theorem em_stoneOf (d : Nat) (N : sy_Mm) (b : Nat → Int32) (S s : Nat) (w : Int32) (hS : S ≤ 9) (hs : s < S) (h36 : N 36 s = b (2 * s) - 48) (h10 : N 30 10 = nI (bN (tx_fg b) S)) : Ev d i_X8_stoneOf [.ref 30, .int (nI s), .int w] N (some (.int (if w = 0 then b (2 * s) - 48 else zb (tx_fg b s)))) N := by
  refine ev_of ?_
  repeat refine fx_n rfl ?_
  by_cases hw : w = 0
  · rw [if_pos hw]
    refine fx_bf rfl (fun z => z hw) ?_
    repeat refine fx_n rfl ?_
    refine fx_g rfl (ix_nI (by omega) (by omega)) ?_
    rw [nI_cl (by omega), h36]
    repeat refine fx_n rfl ?_
    exact fx_r rfl rfl ⟨rfl, rfl⟩
  · rw [if_neg hw]
    refine fx_bt rfl hw ?_
    repeat refine fx_n rfl ?_
    rw [h10, bN_sh _ hs hS]
    exact fx_r rfl rfl ⟨rfl, rfl⟩
set_option maxRecDepth 100000 in
set_option maxHeartbeats 4000000 in
theorem ag_stone {M : sy_Mm} (h : Inv M) (s w : Int32) : AG i_X7_stone i_X8_stone [.int s, .int w] M := by
  intro d
  obtain ⟨n, E, ne, L, B, nb, G, F, h1, h2, h3, h4, h5, h6, h7⟩ := id h
  refine fx_w (ex_of (ev_stone _ M _ s w (tx_st_le h1.1).1 h1.2.2.2.2.2)) ?_
  rintro _ N0 ⟨rfl, hN0⟩
  rw [hN0]
  refine ⟨⟨_, rfl⟩, ?_⟩
  unfold Ex
  repeat refine fx_n rfl ?_
  refine fx_c rfl (em_isStone _ h1 s) ?_
  rintro _ N ⟨rfl, hr⟩
  have hS := (tx_st_le (b := M 2) h1.1).1
  unfold snS
  cases g1 : inR s 0 (((tx_st (M 2) n : Nat) : Int) - 1) with
  | false =>
    refine fx_bt rfl (by decide) ?_
    repeat refine fx_n rfl ?_
    exact fx_r rfl rfl ⟨rfl, h.kp hr.q⟩
  | true =>
    refine fx_bf rfl (by decide) ?_
    repeat refine fx_n rfl ?_
    refine fx_p rfl (em_isTwo _ _ _) ?_
    cases g2 : inR w 0 1 with
    | false =>
      refine fx_bt rfl (by decide) ?_
      repeat refine fx_n rfl ?_
      exact fx_r rfl rfl ⟨rfl, h.kp hr.q⟩
    | true =>
      refine fx_bf rfl (by decide) ?_
      obtain ⟨s, hs, rfl⟩ := inR_S g1
      rw [nI_cl (by omega)]
      repeat refine fx_n rfl ?_
      refine fx_p rfl (em_stoneOf _ _ (M 2) _ s w hS hs (hr.2.2.1 s hs) hr.2.1) ?_
      repeat refine fx_n rfl ?_
      exact fx_r rfl rfl ⟨rfl, h.kp hr.q⟩
/-! ===== luck, led, days, without ===== -/
def luS (S L : Nat) (Y : Nat → Yd) (fg : Nat → Bool) (h n w : Int32) : Int32 := cond (inR h 0 7 && (inR n 0 299 && inR w 0 1)) (if w = 0 then nI (cnB (lkp (Y n.toNatClampNeg).1 (Y n.toNatClampNeg).2.1 L n.toNatClampNeg fg h.toNatClampNeg) S) else nI (1 + 2 * cnB (lkp (Y n.toNatClampNeg).1 (Y n.toNatClampNeg).2.1 L n.toNatClampNeg fg h.toNatClampNeg) S)) (-2)
set_option maxRecDepth 100000 in
set_option maxHeartbeats 4000000 in
theorem ex_luck (d : Nat) (M : sy_Mm) (E : Evs) (ne S L : Nat) (h0 : Nat → Nat) (fg : Nat → Bool) (h n w : Int32) (hC : ctC M E ne S L h0 fg) : Ex (d + 4) i_X7_luck [.ref 0, .int h, .int n, .int w] M (fun r N => r = some (.int (luS S L (fun N => yF S h0 E none N ne) fg h n w)) ∧ kpY M N) := by
  unfold Ex luS
  cases g : (inR h 0 7 && (inR n 0 299 && inR w 0 1)) with
  | false =>
    repeat' (first | refine fx_n rfl ?_ | refine fx_b rfl (fun _ => ?_) (fun _ => ?_) | refine fx_p rfl (ev_isHouse _ _ _) ?_ | refine fx_p rfl (ev_within _ _ _ _) ?_ | refine fx_r rfl rfl ?_)
    all_goals
      first
        | exact ⟨rfl, kpY.rf⟩
        | (exfalso; simp_all [zb_0])
  | true =>
    simp only [Bool.and_eq_true] at g
    obtain ⟨g1, g2, g3⟩ := g
    repeat refine fx_n rfl ?_
    refine fx_p rfl (ev_isHouse _ _ _) ?_
    rw [g1]
    refine fx_bf rfl (by decide) ?_
    repeat refine fx_n rfl ?_
    refine fx_p rfl (ev_within _ _ _ _) ?_
    rw [show inR n 0 (299 : Int32).toInt = true from g2]
    refine fx_bf rfl (by decide) ?_
    repeat refine fx_n rfl ?_
    refine fx_p rfl (ev_within _ _ _ _) ?_
    rw [show inR w 0 (1 : Int32).toInt = true from g3]
    refine fx_bt rfl (by decide) ?_
    obtain ⟨h, hh, rfl⟩ := inR_nI (b := 7) g1
    obtain ⟨N, hN, rfl⟩ := inR_nI (b := 299) g2
    rw [nI_cl (by omega), nI_cl (by omega)]
    repeat refine fx_n rfl ?_
    refine fx_c rfl (ex_tellFrom _ M E ne S L N h0 fg hN hC) ?_
    rintro _ M1 ⟨rfl, b1, b2⟩
    repeat refine fx_n rfl ?_
    simp only [cond_true]
    by_cases hw : w = 0
    · rw [if_pos hw]
      refine fx_bf rfl (fun z => z hw) ?_
      repeat refine fx_n rfl ?_
      refine fx_p rfl (ev_luckOf _ _ S L N h fg _ _ (by omega) (by omega) b1.lk) ?_
      repeat refine fx_n rfl ?_
      exact fx_r rfl rfl ⟨rfl, b2⟩
    · rw [if_neg hw]
      refine fx_bt rfl hw ?_
      repeat refine fx_n rfl ?_
      refine fx_p rfl (ev_eggsOf _ _ S L N h fg _ _ (by omega) (by omega) b1.lk) ?_
      repeat refine fx_n rfl ?_
      exact fx_r rfl rfl ⟨rfl, b2⟩
set_option maxRecDepth 100000 in
set_option maxHeartbeats 4000000 in
theorem ag_luck {M : sy_Mm} (h : Inv M) (s t w : Int32) : AG i_X7_luck i_X8_luck [.int s, .int t, .int w] M := by
  intro d
  obtain ⟨n, E, ne, L, B, nb, G, F, h1, h2, h3, h4, h5, h6, h7⟩ := id h
  refine fx_w (ex_luck _ M E ne _ L _ _ s t w (inv_ctC h1 h2 h3)) ?_
  rintro _ N ⟨rfl, b2⟩
  have e2 : N 2 = M 2 := b2.q.row 2 (fun j => by unfold dead; omega)
  refine ⟨⟨_, rfl⟩, ?_⟩
  have hI1 := h.kp b2.q
  unfold Ex
  repeat refine fx_n rfl ?_
  refine fx_c rfl (em_reads' _ (h1.kp b2.q)) ?_
  rintro _ N1 ⟨rfl, hr⟩
  have hC := inv_ctM (h1.kp b2.q) (h2.kp b2.q) (h3.kp b2.q) hr
  rw [e2] at hC
  have hI2 := hI1.kp hr.q
  unfold luS
  repeat refine fx_n rfl ?_
  refine fx_p rfl (em_isHouse _ _ _) ?_
  cases g1 : inR s 0 7 with
  | false =>
    refine fx_bt rfl (by decide) ?_
    repeat refine fx_n rfl ?_
    exact fx_r rfl rfl ⟨rfl, hI2⟩
  | true =>
    refine fx_bf rfl (by decide) ?_
    repeat refine fx_n rfl ?_
    refine fx_p rfl (em_isNight _ _ _) ?_
    cases g2 : inR t 0 299 with
    | false =>
      refine fx_bt rfl (by decide) ?_
      repeat refine fx_n rfl ?_
      exact fx_r rfl rfl ⟨rfl, hI2⟩
    | true =>
      refine fx_bf rfl (by decide) ?_
      repeat refine fx_n rfl ?_
      refine fx_p rfl (em_isTwo _ _ _) ?_
      cases g3 : inR w 0 1 with
      | false =>
        refine fx_bt rfl (by decide) ?_
        repeat refine fx_n rfl ?_
        exact fx_r rfl rfl ⟨rfl, hI2⟩
      | true =>
        refine fx_bf rfl (by decide) ?_
        repeat refine fx_n rfl ?_
        obtain ⟨s, hs, rfl⟩ := inR_nI (b := 7) g1
        obtain ⟨T, hT, rfl⟩ := inR_nI (b := 299) g2
        rw [nI_cl (by omega), nI_cl (by omega)]
        refine fx_c rfl (em_luckOf _ N1 E ne _ L T s w _ _ hT (by omega) hC) ?_
        rintro _ N2 ⟨rfl, c1, c2⟩
        repeat refine fx_n rfl ?_
        exact fx_r rfl rfl ⟨rfl, hI2.kp c2.q⟩
def leS (S L : Nat) (Y : Nat → Yd) (fg : Nat → Bool) (h n i : Int32) : Int32 := cond (inR h 0 7 && (inR n 0 299 && !decide (i < 0))) (ledS (lkp (Y n.toNatClampNeg).1 (Y n.toNatClampNeg).2.1 L n.toNatClampNeg fg h.toNatClampNeg) (Y n.toNatClampNeg).2.2.1 i S 0 0) (-2)
set_option maxRecDepth 100000 in
set_option maxHeartbeats 4000000 in
theorem ex_led (d : Nat) (M : sy_Mm) (E : Evs) (ne S L : Nat) (h0 : Nat → Nat) (fg : Nat → Bool) (h n i : Int32) (hC : ctC M E ne S L h0 fg) : Ex (d + 4) i_X7_led [.ref 0, .int h, .int n, .int i] M (fun r N => r = some (.int (leS S L (fun N => yF S h0 E none N ne) fg h n i)) ∧ kpY M N) := by
  unfold Ex leS
  cases g : (inR h 0 7 && (inR n 0 299 && !decide (i < 0))) with
  | false =>
    repeat' (first | refine fx_n rfl ?_ | refine fx_b rfl (fun _ => ?_) (fun _ => ?_) | refine fx_p rfl (ev_isHouse _ _ _) ?_ | refine fx_p rfl (ev_within _ _ _ _) ?_ | refine fx_r rfl rfl ?_)
    all_goals
      first
        | exact ⟨rfl, kpY.rf⟩
        | (exfalso; simp_all [zb_0]; done)
        | (exfalso; rename_i q; have q2 := Int32.not_lt.mpr q; simp_all [zb_0])
  | true =>
    simp only [Bool.and_eq_true, Bool.not_eq_true', decide_eq_false_iff_not] at g
    obtain ⟨g1, g2, g3⟩ := g
    repeat refine fx_n rfl ?_
    refine fx_p rfl (ev_isHouse _ _ _) ?_
    rw [g1]
    refine fx_bf rfl (by decide) ?_
    repeat refine fx_n rfl ?_
    refine fx_p rfl (ev_within _ _ _ _) ?_
    rw [show inR n 0 (299 : Int32).toInt = true from g2]
    refine fx_bf rfl (by decide) ?_
    repeat refine fx_n rfl ?_
    refine fx_bt rfl (Int32.not_lt.mp g3) ?_
    obtain ⟨h, hh, rfl⟩ := inR_nI (b := 7) g1
    obtain ⟨N, hN, rfl⟩ := inR_nI (b := 299) g2
    rw [nI_cl (by omega), nI_cl (by omega)]
    repeat refine fx_n rfl ?_
    refine fx_c rfl (ex_tellFrom _ M E ne S L N h0 fg hN hC) ?_
    rintro _ M1 ⟨rfl, b1, b2⟩
    repeat refine fx_n rfl ?_
    refine fx_p rfl (ev_theftBehind _ _ S L N h i fg _ _ _ (by omega) (by omega) b1.lk b1.2.2.1.2.2.1) ?_
    exact fx_r rfl rfl ⟨rfl, b2⟩
set_option maxRecDepth 100000 in
set_option maxHeartbeats 4000000 in
theorem ag_led {M : sy_Mm} (h : Inv M) (s t w : Int32) : AG i_X7_led i_X8_led [.int s, .int t, .int w] M := by
  intro d
  obtain ⟨n, E, ne, L, B, nb, G, F, h1, h2, h3, h4, h5, h6, h7⟩ := id h
  refine fx_w (ex_led _ M E ne _ L _ _ s t w (inv_ctC h1 h2 h3)) ?_
  rintro _ N ⟨rfl, b2⟩
  have e2 : N 2 = M 2 := b2.q.row 2 (fun j => by unfold dead; omega)
  refine ⟨⟨_, rfl⟩, ?_⟩
  have hI1 := h.kp b2.q
  unfold Ex
  repeat refine fx_n rfl ?_
  refine fx_c rfl (em_reads' _ (h1.kp b2.q)) ?_
  rintro _ N1 ⟨rfl, hr⟩
  have hC := inv_ctM (h1.kp b2.q) (h2.kp b2.q) (h3.kp b2.q) hr
  rw [e2] at hC
  have hI2 := hI1.kp hr.q
  unfold leS
  repeat refine fx_n rfl ?_
  refine fx_p rfl (em_isHouse _ _ _) ?_
  cases g1 : inR s 0 7 with
  | false =>
    refine fx_bt rfl (by decide) ?_
    repeat refine fx_n rfl ?_
    exact fx_r rfl rfl ⟨rfl, hI2⟩
  | true =>
    refine fx_bf rfl (by decide) ?_
    repeat refine fx_n rfl ?_
    refine fx_p rfl (em_isNight _ _ _) ?_
    cases g2 : inR t 0 299 with
    | false =>
      refine fx_bt rfl (by decide) ?_
      repeat refine fx_n rfl ?_
      exact fx_r rfl rfl ⟨rfl, hI2⟩
    | true =>
      refine fx_bf rfl (by decide) ?_
      repeat refine fx_n rfl ?_
      by_cases g3 : w < 0
      · refine fx_bt rfl g3 ?_
        repeat refine fx_n rfl ?_
        refine fx_r rfl rfl ⟨?_, hI2⟩
        simp [g3]
      · refine fx_bf rfl g3 ?_
        repeat refine fx_n rfl ?_
        obtain ⟨s, hs, rfl⟩ := inR_nI (b := 7) g1
        obtain ⟨T, hT, rfl⟩ := inR_nI (b := 299) g2
        rw [nI_cl (by omega), nI_cl (by omega)]
        refine fx_c rfl (em_ledOf _ N1 E ne _ L T s w _ _ hT (by omega) hC) ?_
        rintro _ N2 ⟨rfl, c2⟩
        repeat refine fx_n rfl ?_
        refine fx_r rfl rfl ⟨?_, hI2.kp c2.q⟩
        simp [g3]
end
section
def dsS (S L : Nat) (h0 : Nat → Nat) (fg : Nat → Bool) (E : Evs) (ne : Nat) (h a b : Int32) : Int32 := cond (inR h (-1) 7 && (inR a 0 299 && (inR b 0 299 && !decide (b < a)))) (nI (dayS (dayN (hsI (if h = -1 then none else some h.toNatClampNeg)) S L h0 fg E none ne) a.toNatClampNeg (b.toNatClampNeg + 1 - a.toNatClampNeg))) (-2)
theorem hsI_none : hsI none = fun _ => true := rfl
theorem hsI_some (q : Nat) : hsI (some q) = fun x => decide (x = q) := rfl
theorem inR_m {h : Int32} {b : Nat} (g : inR h (-1) b = true) : h = -1 ∨ inR h 0 b = true := by
  obtain ⟨g1, g2⟩ := inR_t.mp g
  by_cases q : h.toInt = -1
  · exact Or.inl (Int32.toInt_inj.mp q)
  · exact Or.inr (inR_t.mpr ⟨by omega, g2⟩)
set_option maxRecDepth 100000 in
set_option maxHeartbeats 4000000 in
theorem ex_days (d : Nat) (M : sy_Mm) (E : Evs) (ne S L : Nat) (h0 : Nat → Nat) (fg : Nat → Bool) (h a b : Int32) (hC : ctC M E ne S L h0 fg) : Ex (d + 4) i_X7_days [.ref 0, .int h, .int a, .int b] M (fun r N => r = some (.int (dsS S L h0 fg E ne h a b)) ∧ kpY M N) := by
  unfold Ex dsS
  have mid : inR h (-1) 7 = true → Fx (d + 4) i_X7_days 21 [some (.ref 0), some (.int h), some (.int a), some (.int b), some (.int 1)] [.int 1] M (fun r N => r = some (.int (cond (inR h (-1) 7 && (inR a 0 299 && (inR b 0 299 && !decide (b < a)))) (nI (dayS (dayN (hsI (if h = -1 then none else some h.toNatClampNeg)) S L h0 fg E none ne) a.toNatClampNeg (b.toNatClampNeg + 1 - a.toNatClampNeg))) (-2))) ∧ kpY M N) := by
    intro g0
    refine fx_bf rfl (by decide) ?_
    repeat refine fx_n rfl ?_
    refine fx_p rfl (ev_wi _ _ _ _ 299 rfl) (fx_ze rfl (fun g1 => by ((repeat refine fx_n rfl ?_); exact fx_r rfl rfl ⟨by simp [g1, zb_f], kpY.rf⟩)) (fun g1 => ?_))
    repeat refine fx_n rfl ?_
    refine fx_p rfl (ev_wi _ _ _ _ 299 rfl) (fx_ze rfl (fun g2 => by ((repeat refine fx_n rfl ?_); exact fx_r rfl rfl ⟨by simp [g2, zb_f], kpY.rf⟩)) (fun g2 => ?_))
    repeat refine fx_n rfl ?_
    by_cases g3 : b < a
    · refine fx_bf rfl (Int32.not_le.mpr g3) ?_
      repeat refine fx_n rfl ?_
      exact fx_r rfl rfl ⟨by simp [g3], kpY.rf⟩
    · refine fx_bt rfl (Int32.not_lt.mp g3) ?_
      obtain ⟨A, hA, rfl⟩ := inR_nI (b := 299) g1
      obtain ⟨B, hB, rfl⟩ := inR_nI (b := 299) g2
      have hAB : A ≤ B := by
        rcases Nat.lt_or_ge B A with q | q
        · exact absurd (nI_lt q (by omega)) g3
        · exact q
      rw [nI_cl (by omega), nI_cl (by omega)]
      repeat refine fx_n rfl ?_
      have e : (inR h (-1) 7 && (inR (nI A) 0 299 && (inR (nI B) 0 299 && !decide (nI B < nI A)))) = true := by simp [g0, g1, g2, g3]
      rw [e]
      simp only [cond_true]
      by_cases hm : h = -1
      · refine fx_bf rfl (fun z => z hm) ?_
        repeat refine fx_n rfl ?_
        rw [if_pos hm]
        refine fx_c rfl (ex_luckyDays _ M E ne S L A B 255 _ h0 fg none hB hAB (fun _ q => by cases q) msk_all hC) ?_
        rintro _ M1 ⟨rfl, b2⟩
        exact fx_r rfl rfl ⟨rfl, b2⟩
      · refine fx_bt rfl hm ?_
        obtain ⟨q, hq, rfl⟩ := inR_nI (b := 7) ((inR_m g0).resolve_left hm)
        repeat refine fx_n rfl ?_
        rw [if_neg hm, nI_cl (by omega)]
        refine fx_c rfl (ex_luckyDays _ M E ne S L A B _ _ h0 fg none hB hAB (fun _ q => by cases q) (msk_one (h := q) (by omega)) hC) ?_
        rintro _ M1 ⟨rfl, b2⟩
        exact fx_r rfl rfl ⟨rfl, b2⟩
  repeat refine fx_n rfl ?_
  by_cases hm : h = -1
  · refine fx_bt rfl hm ?_
    repeat refine fx_n rfl ?_
    exact mid (by rw [hm]; decide)
  · refine fx_bf rfl hm ?_
    repeat refine fx_n rfl ?_
    refine fx_p rfl (ev_isHouse _ _ _) (fx_ze rfl (fun g => ?_) (fun g => ?_))
    · have g0 : inR h (-1) 7 = false := by
        cases q : inR h (-1) 7 with
        | false => rfl
        | true => rw [show inR h 0 7 = true from (inR_m (b := 7) q).resolve_left hm] at g; cases g
      repeat refine fx_n rfl ?_
      refine fx_bt rfl (by decide) ?_
      repeat refine fx_n rfl ?_
      exact fx_r rfl rfl ⟨by simp [g0], kpY.rf⟩
    · repeat refine fx_n rfl ?_
      refine mid (inR_t.mpr ?_)
      have := inR_t.mp g
      omega
set_option maxRecDepth 100000 in
set_option maxHeartbeats 4000000 in
theorem ag_days {M : sy_Mm} (h : Inv M) (s a b : Int32) : AG i_X7_days i_X8_days [.int s, .int a, .int b] M := by
  intro d
  obtain ⟨n, E, ne, L, B, nb, G, F, h1, h2, h3, h4, h5, h6, h7⟩ := id h
  refine fx_w (ex_days _ M E ne _ L _ _ s a b (inv_ctC h1 h2 h3)) ?_
  rintro _ N ⟨rfl, b2⟩
  have e2 : N 2 = M 2 := b2.q.row 2 (fun j => by unfold dead; omega)
  refine ⟨⟨_, rfl⟩, ?_⟩
  have hI1 := h.kp b2.q
  unfold Ex
  repeat refine fx_n rfl ?_
  refine fx_c rfl (em_reads' _ (h1.kp b2.q)) ?_
  rintro _ N1 ⟨rfl, hr⟩
  have hC := inv_ctM (h1.kp b2.q) (h2.kp b2.q) (h3.kp b2.q) hr
  rw [e2] at hC
  have hI2 := hI1.kp hr.q
  unfold dsS
  repeat refine fx_n rfl ?_
  refine fx_p rfl (em_ir _ _ _ _ _ (-1) 7 rfl rfl) (fx_ze rfl (fun g0 => by ((repeat refine fx_n rfl ?_); exact fx_r rfl rfl ⟨by simp [g0, zb_f], hI2⟩)) (fun g0 => ?_))
  repeat refine fx_n rfl ?_
  refine fx_p rfl (em_isNight _ _ _) (fx_ze rfl (fun g1 => by ((repeat refine fx_n rfl ?_); exact fx_r rfl rfl ⟨by simp [g1, zb_f], hI2⟩)) (fun g1 => ?_))
  repeat refine fx_n rfl ?_
  refine fx_p rfl (em_isNight _ _ _) (fx_ze rfl (fun g2 => by ((repeat refine fx_n rfl ?_); exact fx_r rfl rfl ⟨by simp [g2, zb_f], hI2⟩)) (fun g2 => ?_))
  repeat refine fx_n rfl ?_
  by_cases g3 : b < a
  · refine fx_bt rfl g3 ?_
    repeat refine fx_n rfl ?_
    exact fx_r rfl rfl ⟨by simp [g3], hI2⟩
  · refine fx_bf rfl g3 ?_
    repeat refine fx_n rfl ?_
    have e : (inR s (-1) 7 && (inR a 0 299 && (inR b 0 299 && !decide (b < a)))) = true := by simp [g0, g1, g2, g3]
    rw [e]
    obtain ⟨A, hA, rfl⟩ := inR_nI (b := 299) g1
    obtain ⟨C, hB, rfl⟩ := inR_nI (b := 299) g2
    have hAB : A ≤ C := by
      rcases Nat.lt_or_ge C A with q | q
      · exact absurd (nI_lt q (by omega)) g3
      · exact q
    rw [nI_cl (by omega), nI_cl (by omega)]
    simp only [cond_true]
    have key : ∃ o : Option Nat, s = oI o ∧ (if s = -1 then none else some s.toNatClampNeg) = o ∧ ∀ q, o = some q → q < 8 := by
      by_cases hm : s = -1
      · exact ⟨none, hm, if_pos hm, fun _ q => by cases q⟩
      · obtain ⟨q, hq, rfl⟩ := inR_nI (b := 7) ((inR_m g0).resolve_left hm)
        exact ⟨some q, rfl, by rw [if_neg hm, nI_cl (by omega)], fun z hz => by cases hz; omega⟩
    obtain ⟨o, e1, e3, e4⟩ := key
    rw [e3, e1]
    refine fx_c rfl (em_daysOf _ N1 E ne _ L A C o _ _ none hB hAB e4 (fun _ q => by cases q) hC) ?_
    rintro _ N2 ⟨rfl, c2⟩
    repeat refine fx_n rfl ?_
    exact fx_r rfl rfl ⟨rfl, hI2.kp c2.q⟩
def woS (S L : Nat) (h0 : Nat → Nat) (fg : Nat → Bool) (E : Evs) (ne : Nat) (e n : Int32) : Int32 := cond (inR e 0 ((ne : Int) - 1) && inR n 0 299) (nI (dayS (dayN (hsI none) S L h0 fg E (some e.toNatClampNeg) ne) 0 (n.toNatClampNeg + 1)) - nI (dayS (dayN (hsI none) S L h0 fg E none ne) 0 (n.toNatClampNeg + 1))) (-10002)
set_option maxRecDepth 100000 in
set_option maxHeartbeats 4000000 in
theorem ex_without (d : Nat) (M : sy_Mm) (E : Evs) (ne S L : Nat) (h0 : Nat → Nat) (fg : Nat → Bool) (x n : Int32) (hC : ctC M E ne S L h0 fg) : Ex (d + 4) i_X7_without [.ref 0, .int x, .int n] M (fun r N => r = some (.int (woS S L h0 fg E ne x n)) ∧ kpY M N) := by
  have hne := hC.1.1
  have h35 := hC.2.1.1
  have ht : (nI ne).toInt = (ne : Int) := nI_toInt (by omega)
  unfold Ex woS
  have bad : inR x 0 ((ne : Int) - 1) = false → Fx (d + 4) i_X7_without 25 [some (.ref 0), some (.int x), some (.int n), none] [] M (fun r N => r = some (.int (cond (inR x 0 ((ne : Int) - 1) && inR n 0 299) (nI (dayS (dayN (hsI none) S L h0 fg E (some x.toNatClampNeg) ne) 0 (n.toNatClampNeg + 1)) - nI (dayS (dayN (hsI none) S L h0 fg E none ne) 0 (n.toNatClampNeg + 1))) (-10002))) ∧ kpY M N) := by
    intro g
    repeat refine fx_n rfl ?_
    exact fx_r rfl rfl ⟨by simp [g], kpY.rf⟩
  repeat refine fx_n rfl ?_
  refine fx_b rfl (fun q => ?_) (fun q => ?_)
  · exact bad (inR_f.mpr (by rw [Int32.lt_iff_toInt_lt] at q; simp at q; omega))
  repeat refine fx_n rfl ?_
  rw [h35]
  refine fx_b rfl (fun q2 => ?_) (fun q2 => ?_)
  · exact bad (inR_f.mpr (by rw [Int32.le_iff_toInt_le, ht] at q2; omega))
  have g1 : inR x 0 ((ne : Int) - 1) = true := inR_t.mpr (by rw [Int32.lt_iff_toInt_lt] at q; rw [Int32.le_iff_toInt_le, ht] at q2; simp at q; omega)
  repeat refine fx_n rfl ?_
  refine fx_p rfl (ev_wi _ _ _ _ 299 rfl) (fx_zn rfl (fun g2 => ?_) (fun g2 => by ((repeat refine fx_n rfl ?_); exact fx_r rfl rfl ⟨by simp [g2, zb_f], kpY.rf⟩)))
  obtain ⟨e, he, rfl⟩ := inR_S g1
  obtain ⟨N, hN, rfl⟩ := inR_nI (b := 299) g2
  rw [g1, g2, nI_cl (by omega), nI_cl (by omega)]
  repeat refine fx_n rfl ?_
  refine fx_c rfl (ex_luckyDays _ M E ne S L 0 N 255 _ h0 fg (some e) hN (by omega) (fun z hz => by cases hz; omega) msk_all hC) ?_
  rintro _ M1 ⟨rfl, b2⟩
  repeat refine fx_n rfl ?_
  refine fx_c rfl (ex_luckyDays _ M1 E ne S L 0 N 255 _ h0 fg none hN (by omega) (fun _ q => by cases q) msk_all (hC.kp b2)) ?_
  rintro _ M2 ⟨rfl, b3⟩
  repeat refine fx_n rfl ?_
  exact fx_r rfl rfl ⟨rfl, b2.tr b3⟩
set_option maxRecDepth 100000 in
set_option maxHeartbeats 4000000 in
theorem em_withoutOf (d : Nat) (M : sy_Mm) (E : Evs) (ne S L e N : Nat) (h0 : Nat → Nat) (fg : Nat → Bool) (hN : N ≤ 299) (he : e < ne) (hC : ctM M E ne S L h0 fg) : Ex (d + 4) i_X8_withoutOf [.ref 30, .int (nI e), .int (nI N)] M (fun r M' => r = some (.int (nI (dayS (dayN (hsI none) S L h0 fg E (some e) ne) 0 (N + 1)) - nI (dayS (dayN (hsI none) S L h0 fg E none ne) 0 (N + 1)))) ∧ kpM M M') := by
  have hne := hC.1.1
  unfold Ex
  repeat refine fx_n rfl ?_
  refine fx_c rfl (em_daysOf _ M E ne S L 0 N none h0 fg (some e) hN (by omega) (fun _ q => by cases q) (fun z hz => by cases hz; omega) hC) ?_
  rintro _ M1 ⟨rfl, b2⟩
  repeat refine fx_n rfl ?_
  refine fx_c rfl (em_daysOf _ M1 E ne S L 0 N none h0 fg none hN (by omega) (fun _ q => by cases q) (fun _ q => by cases q) (hC.kp b2)) ?_
  rintro _ M2 ⟨rfl, b3⟩
  repeat refine fx_n rfl ?_
  exact fx_r rfl rfl ⟨rfl, b2.tr b3⟩
set_option maxRecDepth 100000 in
set_option maxHeartbeats 4000000 in
theorem ag_without {M : sy_Mm} (h : Inv M) (x t : Int32) : AG i_X7_without i_X8_without [.int x, .int t] M := by
  intro d
  obtain ⟨n, E, ne, L, B, nb, G, F, h1, h2, h3, h4, h5, h6, h7⟩ := id h
  refine fx_w (ex_without _ M E ne _ L _ _ x t (inv_ctC h1 h2 h3)) ?_
  rintro _ N ⟨rfl, b2⟩
  have e2 : N 2 = M 2 := b2.q.row 2 (fun j => by unfold dead; omega)
  refine ⟨⟨_, rfl⟩, ?_⟩
  have hI1 := h.kp b2.q
  unfold Ex
  repeat refine fx_n rfl ?_
  refine fx_c rfl (em_reads' _ (h1.kp b2.q)) ?_
  rintro _ N1 ⟨rfl, hr⟩
  have hC := inv_ctM (h1.kp b2.q) (h2.kp b2.q) (h3.kp b2.q) hr
  rw [e2] at hC
  have hI2 := hI1.kp hr.q
  have hne := hC.1.1
  unfold woS
  repeat refine fx_n rfl ?_
  rw [hC.2.1.1]
  refine fx_p rfl (em_ir _ _ _ _ _ 0 ((ne : Int) - 1) rfl (by rw [Int32.toInt_toInt64]; exact pk_sub_toInt (a := ne) (b := 1) (by omega) (by omega))) (fx_ze rfl (fun g1 => by ((repeat refine fx_n rfl ?_); exact fx_r rfl rfl ⟨by simp [g1, zb_f], hI2⟩)) (fun g1 => ?_))
  repeat refine fx_n rfl ?_
  refine fx_p rfl (em_isNight _ _ _) (fx_ze rfl (fun g2 => by ((repeat refine fx_n rfl ?_); exact fx_r rfl rfl ⟨by simp [g2, zb_f], hI2⟩)) (fun g2 => ?_))
  obtain ⟨e, he, rfl⟩ := inR_S g1
  obtain ⟨T, hT, rfl⟩ := inR_nI (b := 299) g2
  rw [g1, g2, nI_cl (by omega), nI_cl (by omega)]
  repeat refine fx_n rfl ?_
  refine fx_c rfl (em_withoutOf _ N1 E ne _ L e T _ _ hT he hC) ?_
  rintro _ N2 ⟨rfl, c2⟩
  repeat refine fx_n rfl ?_
  exact fx_r rfl rfl ⟨rfl, hI2.kp c2.q⟩
end
section
theorem iText.cg {M N : sy_Mm} {n : Nat} (h : iText M n) (r1 : N 1 = M 1) (r2 : N 2 = M 2) (r35 : N 35 = M 35) (r30 : N 30 6 = M 30 6) : iText N n := by
  unfold iText; rw [r1, r2, r35, r30]; exact h
theorem iTale.cg {M N : sy_Mm} {E : Evs} {ne : Nat} (h : iTale M E ne) (r3 : N 3 = M 3) (r4 : N 4 = M 4) (r5 : N 5 = M 5) (r6 : N 6 = M 6) (r7 : N 7 = M 7) (r8 : N 8 = M 8) (r37 : N 37 = M 37) (r30 : N 30 12 = M 30 12) : iTale N E ne := by
  unfold iTale taleC taleM; rw [r3, r4, r5, r6, r7, r8, r37, r30]; exact h
theorem iLast.cg {M N : sy_Mm} {L : Nat} (h : iLast M L) (r9 : N 9 6 = M 9 6) (r30 : N 30 11 = M 30 11) : iLast N L := by
  unfold iLast; rw [r9, r30]; exact h
theorem iBook.cg {M N : sy_Mm} {B : Evs} {nb : Nat} (h : iBook M B nb) (r14 : N 14 5 = M 14 5) (r30 : N 30 20 = M 30 20) (r15 : N 15 = M 15) (r16 : N 16 = M 16) (r17 : N 17 = M 17) (r41 : N 41 = M 41) : iBook N B nb := by
  unfold iBook; rw [r14, r30, r15, r16, r17, r41]; exact h
theorem iGrd.cg {M N : sy_Mm} {G : Nat → Nat} (h : iGrd M G) (r20 : N 20 = M 20) (r45 : N 45 = M 45) : iGrd N G := by
  unfold iGrd; rw [r20, r45]; exact h
theorem iSht.cg {M N : sy_Mm} {F : Nat → Option (Nat × Nat)} (h : iSht M F) (r : ∀ k, 22 ≤ k → k < 34 → k ≠ 30 → N k = M k) : iSht N F := by
  intro s hs
  have h1 := h s hs
  unfold iSh1 at h1 ⊢
  rw [r (22 + 2 * s) (by omega) (by omega) (by omega), r (23 + 2 * s) (by omega) (by omega) (by omega), r 31 (by omega) (by omega) (by omega), r 32 (by omega) (by omega) (by omega), r 33 (by omega) (by omega) (by omega)]
  exact h1
theorem up_kk {M : sy_Mm} {k j : Nat} {x : Int32} {q : Nat} (h : q ≠ k) : sy_up M k j x q = M q := up_k h
/-! ===== type, wipe ===== -/
set_option maxRecDepth 100000 in
set_option maxHeartbeats 4000000 in
theorem ag_type {M : sy_Mm} (h : Inv M) (v : Int32) : AG i_X7_type i_X8_type [.int v] M := by
  intro d
  obtain ⟨n, E, ne, L, B, nb, G, F, h1, h2, h3, h4, h5, h6, h7⟩ := id h
  obtain ⟨a1, a2, a3, a4, a5, a6⟩ := id h1
  unfold Ex
  repeat refine fx_n rfl ?_
  refine fx_p rfl (ev_wi _ _ _ _ 255 rfl) (fx_ze rfl (fun g => ?_) (fun g => ?_))
  · repeat refine fx_n rfl ?_
    refine fx_r rfl rfl ⟨⟨_, rfl⟩, ?_⟩
    repeat refine fx_n rfl ?_
    refine fx_p rfl (em_ir _ _ _ _ _ 0 255 rfl rfl) (fx_zn rfl (fun g' => ?_) (fun _ => ?_))
    · rw [g] at g'; cases g'
    · repeat refine fx_n rfl ?_
      exact fx_r rfl rfl ⟨rfl, h⟩
  · repeat refine fx_n rfl ?_
    refine fx_c rfl (ev_put _ M n a1 a2 v) ?_
    rintro r N hq
    by_cases hn : n = 30
    · rw [if_pos hn] at hq
      obtain ⟨rfl, rfl⟩ := hq
      repeat refine fx_n rfl ?_
      refine fx_r rfl rfl ⟨⟨_, rfl⟩, ?_⟩
      repeat refine fx_n rfl ?_
      refine fx_p rfl (em_ir _ _ _ _ _ 0 255 rfl rfl) (fx_zn rfl (fun _ => ?_) (fun g' => ?_))
      · repeat refine fx_n rfl ?_
        refine fx_bf rfl (fun z => z (by rw [a3, hn]; rfl)) ?_
        repeat refine fx_n rfl ?_
        exact fx_r rfl rfl ⟨rfl, h⟩
      · rw [g] at g'; cases g'
    · rw [if_neg hn] at hq
      obtain ⟨rfl, rfl⟩ := hq
      repeat refine fx_n rfl ?_
      refine fx_r rfl rfl ⟨⟨_, rfl⟩, ?_⟩
      repeat refine fx_n rfl ?_
      refine fx_p rfl (em_ir _ _ _ _ _ 0 255 rfl rfl) (fx_zn rfl (fun _ => ?_) (fun g' => ?_))
      · generalize hN : sy_up (sy_up (sy_up (sy_up M 2 n v) 1 1 (nI (n + 1))) 1 2 (tx_fault (upd (M 2) n v) (n + 1))) 1 3 (nI (tx_st (upd (M 2) n v) (n + 1))) = N
        have c6 : N 30 6 = nI n := by rw [← hN]; exact a3
        repeat refine fx_n rfl ?_
        refine fx_bt rfl (fun z => hn ((nI_eq (b := 30) (by omega) (by omega)).mp (c6.symm.trans z))) ?_
        repeat refine fx_n rfl ?_
        rw [c6]
        refine fx_g rfl (ix_nI (by omega) (by omega)) ?_
        rw [nI_cl (by omega)]
        repeat refine fx_n rfl ?_
        have e36 : sy_up N 35 n v 30 6 + 1 = nI (n + 1) := by rw [up_k (by omega), c6, nI_1]
        rw [e36]
        refine fx_r rfl rfl ⟨by rw [up_s], ?_⟩
        have e2 : N 2 = upd (M 2) n v := by rw [← hN]; rfl
        refine ⟨n + 1, E, ne, L, B, nb, G, F, ⟨by omega, ?_, up_s, ?_, ?_, ?_⟩, h2.cg ?_ ?_ ?_ ?_ ?_ ?_ ?_ ?_, h3.cg ?_ ?_, h4.cg ?_ ?_ ?_ ?_ ?_ ?_, h5.cg ?_ ?_, h6.cg ?_, ?_⟩
        · show N 1 1 = _; rw [← hN]; rfl
        · intro j hj
          show sy_up N 35 n v 35 j = N 2 j
          rw [e2]
          by_cases hq : j = n
          · subst hq; rw [up_s]; simp [upd]
          · rw [up_j hq]
            have e35 : N 35 = M 35 := by rw [← hN]; rfl
            rw [e35, a4 j (by omega)]; simp [upd, hq]
        · show N 1 2 = tx_fault (N 2) (n + 1); rw [e2, ← hN]; rfl
        · show N 1 3 = nI (tx_st (N 2) (n + 1)); rw [e2, ← hN]; rfl
        all_goals (first | (rw [← hN]; rfl; done) | skip)
        · intro k hk1 hk2 hk3
          rw [up_k hk3, up_k (by omega), ← hN, up_k (by omega), up_k (by omega), up_k (by omega), up_k (by omega)]
        · rw [← hN]; exact h7
      · rw [g] at g'; cases g'
set_option maxRecDepth 100000 in
set_option maxHeartbeats 4000000 in
theorem ag_wipe {M : sy_Mm} (h : Inv M) : AG i_X7_wipe i_X8_wipe [] M := by
  intro d
  obtain ⟨n, E, ne, L, B, nb, G, F, h1, h2, h3, h4, h5, h6, h7⟩ := id h
  obtain ⟨a1, a2, a3, a4, a5, a6⟩ := id h1
  unfold Ex
  repeat refine fx_n rfl ?_
  refine fx_c rfl (ex_of (ev_empty _ M)) ?_
  rintro _ _ ⟨rfl, rfl⟩
  refine fx_r rfl rfl ⟨⟨_, rfl⟩, ?_⟩
  repeat refine fx_n rfl ?_
  refine fx_r rfl rfl ⟨?_, ?_⟩
  · rw [a2, ← a3]; rfl
  · refine ⟨0, E, ne, L, B, nb, G, F, ⟨by omega, rfl, rfl, fun j hj => by omega, rfl, rfl⟩, h2.cg rfl rfl rfl rfl rfl rfl rfl rfl, h3.cg rfl rfl, h4.cg rfl rfl rfl rfl rfl rfl, h5.cg rfl rfl, h6.cg ?_, h7⟩
    intro k hk1 hk2 hk3
    rw [up_k hk3, up_k (by omega), up_k (by omega), up_k (by omega)]
/-! ===== lasts ===== -/
set_option maxRecDepth 100000 in
set_option maxHeartbeats 4000000 in
theorem ag_lasts {M : sy_Mm} (h : Inv M) (v : Int32) : AG i_X7_lasts i_X8_lasts [.int v] M := by
  intro d
  obtain ⟨n, E, ne, L, B, nb, G, F, h1, h2, h3, h4, h5, h6, h7⟩ := id h
  unfold Ex
  have bad : inR v 1 99 = false → Fx (d + 30) i_X7_lasts 11 [some (.ref 0), some (.int v), none] [] M (fun r N => (∃ w, r = some (.int w)) ∧ Fx (d + 30) i_X8_lasts 0 (sy_en i_X8_lasts [.ref 30, .int v]) [] N (fun r' N' => r' = r ∧ Inv N')) := by
    intro g
    repeat refine fx_n rfl ?_
    refine fx_r rfl rfl ⟨⟨_, rfl⟩, ?_⟩
    repeat refine fx_n rfl ?_
    refine fx_p rfl (em_ir _ _ _ _ _ 1 99 rfl rfl) (fx_zn rfl (fun g' => ?_) (fun _ => ?_))
    · rw [g] at g'; cases g'
    · repeat refine fx_n rfl ?_
      exact fx_r rfl rfl ⟨rfl, h⟩
  repeat refine fx_n rfl ?_
  refine fx_b rfl (fun q => ?_) (fun q => ?_)
  · exact bad (inR_f.mpr (by rw [Int32.lt_iff_toInt_lt] at q; simp at q; omega))
  repeat refine fx_n rfl ?_
  refine fx_b rfl (fun q2 => ?_) (fun q2 => ?_)
  · have g : inR v 1 99 = true := inR_t.mpr (by rw [Int32.lt_iff_toInt_lt] at q; rw [Int32.le_iff_toInt_le] at q2; simp at q q2; omega)
    repeat refine fx_n rfl ?_
    refine fx_r rfl rfl ⟨⟨_, rfl⟩, ?_⟩
    repeat refine fx_n rfl ?_
    refine fx_p rfl (em_ir _ _ _ _ _ 1 99 rfl rfl) (fx_zn rfl (fun _ => ?_) (fun g' => ?_))
    · repeat refine fx_n rfl ?_
      refine fx_r rfl rfl ⟨?_, ?_⟩
      · show some (Value.int (M 30 11)) = some (Value.int (M 9 6))
        rw [h3.1, h3.2.1]
      · obtain ⟨w, hw, rfl⟩ := inR_nI (x := v) (b := 99) (inR_t.mpr (by have := inR_t.mp g; omega))
        have := inR_t.mp g
        rw [nI_toInt (by omega)] at this
        refine ⟨n, E, ne, w, B, nb, G, F, h1.cg rfl rfl rfl rfl, h2.cg rfl rfl rfl rfl rfl rfl rfl rfl, ⟨rfl, rfl, by omega, by omega⟩, h4.cg rfl rfl rfl rfl rfl rfl, h5.cg rfl rfl, h6.cg ?_, h7⟩
        intro k hk1 hk2 hk3
        rw [up_k hk3, up_k (by omega)]
    · rw [g] at g'; cases g'
  · exact bad (inR_f.mpr (by rw [Int32.le_iff_toInt_le] at q2; simp at q2; omega))
/-! ===== guard ===== -/
set_option maxRecDepth 100000 in
set_option maxHeartbeats 4000000 in
theorem ag_guard {M : sy_Mm} (h : Inv M) (x v : Int32) : AG i_X7_guard i_X8_guard [.int x, .int v] M := by
  intro d
  obtain ⟨n, E, ne, L, B, nb, G, F, h1, h2, h3, h4, h5, h6, h7⟩ := id h
  unfold Ex
  have modBad : (inR x 0 7 && inR v 0 16) = false → ∀ r : Option Value, r = some (.int (-2)) → Fx (d + 30) i_X8_guard 0 (sy_en i_X8_guard [.ref 30, .int x, .int v]) [] M (fun r' N' => r' = r ∧ Inv N') := by
    intro g r hr
    repeat refine fx_n rfl ?_
    refine fx_p rfl (em_isHouse _ _ _) (fx_ze rfl (fun g1 => ?_) (fun g1 => ?_))
    · repeat refine fx_n rfl ?_
      exact fx_r rfl rfl ⟨hr.symm, h⟩
    · repeat refine fx_n rfl ?_
      refine fx_p rfl (em_ir _ _ _ _ _ 0 16 rfl rfl) (fx_zn rfl (fun g2 => ?_) (fun g2 => ?_))
      · rw [g1, g2] at g; cases g
      · repeat refine fx_n rfl ?_
        exact fx_r rfl rfl ⟨hr.symm, h⟩
  repeat refine fx_n rfl ?_
  refine fx_p rfl (ev_isHouse _ _ _) (fx_ze rfl (fun g1 => ?_) (fun g1 => ?_))
  · repeat refine fx_n rfl ?_
    exact fx_r rfl rfl ⟨⟨_, rfl⟩, modBad (by simp [g1]) _ rfl⟩
  repeat refine fx_n rfl ?_
  refine fx_p rfl (ev_wi _ _ _ _ 16 rfl) (fx_zn rfl (fun g2 => ?_) (fun g2 => ?_))
  · obtain ⟨q, hq, rfl⟩ := inR_nI (b := 7) g1
    obtain ⟨w, hw, rfl⟩ := inR_nI (b := 16) g2
    have hg := h5 q (by omega)
    repeat refine fx_n rfl ?_
    refine fx_g rfl (ix_nI (by omega) (by omega)) ?_
    rw [nI_cl (by omega)]
    repeat refine fx_n rfl ?_
    refine fx_g rfl (ix_nI (by omega) (by omega)) ?_
    rw [nI_cl (by omega)]
    repeat refine fx_n rfl ?_
    refine fx_r rfl rfl ⟨⟨_, rfl⟩, ?_⟩
    repeat refine fx_n rfl ?_
    refine fx_p rfl (em_isHouse _ _ _) (fx_ze rfl (fun g' => by rw [g1] at g'; cases g') (fun _ => ?_))
    repeat refine fx_n rfl ?_
    refine fx_p rfl (em_ir _ _ _ _ _ 0 16 rfl rfl) (fx_zn rfl (fun _ => ?_) (fun g' => by rw [g2] at g'; cases g'))
    repeat refine fx_n rfl ?_
    refine fx_g rfl (ix_nI (by omega) (by omega)) ?_
    rw [nI_cl (by omega)]
    repeat refine fx_n rfl ?_
    refine fx_g rfl (ix_nI (by omega) (by omega)) ?_
    rw [nI_cl (by omega)]
    repeat refine fx_n rfl ?_
    refine fx_r rfl rfl ⟨?_, ?_⟩
    · show some (Value.int (M 45 q)) = some (Value.int (M 20 q))
      rw [hg.2.1, hg.2.2]
    · refine ⟨n, E, ne, L, B, nb, fun z => if z = q then w else G z, F, h1.cg rfl rfl rfl rfl, h2.cg rfl rfl rfl rfl rfl rfl rfl rfl, h3.cg rfl rfl, h4.cg rfl rfl rfl rfl rfl rfl, ?_, h6.cg ?_, h7⟩
      · intro z hz
        by_cases e : z = q
        · subst e
          refine ⟨by simp; omega, ?_, ?_⟩
          · rw [up_k (by omega), up_s]; simp
          · rw [up_s]; simp
        · have := h5 z hz
          refine ⟨by simp [e]; omega, ?_, ?_⟩
          · rw [up_k (by omega), up_j e, this.2.1]; simp [e]
          · rw [up_j e, up_k (by omega), this.2.2]; simp [e]
      · intro k hk1 hk2 hk3
        rw [up_k (by omega), up_k (by omega)]
  · repeat refine fx_n rfl ?_
    exact fx_r rfl rfl ⟨⟨_, rfl⟩, modBad (by simp [g2]) _ rfl⟩
end
section
/-! ===== event, undo ===== -/
def lastN (E : Evs) (ne : Nat) : Nat := if ne = 0 then 0 else E (ne - 1) 1
def evG (E : Evs) (ne : Nat) (k n s h w : Int32) : Bool := inR k 0 5 && (inR n (lastN E ne) 199 && (inR s 0 8 && (inR h 0 7 && inR w 0 (if k = 0 then 9 else 0))))
def addE (E : Evs) (ne : Nat) (k n s h w : Int32) : Evs := fun e c => if e = ne then (if c = 0 then k else if c = 1 then n else if c = 2 then s else if c = 3 then h else w).toNatClampNeg else E e c
def putC (M : sy_Mm) (ne : Nat) (k n s h w : Int32) : sy_Mm := sy_up (sy_up (sy_up (sy_up (sy_up (sy_up M 4 ne k) 5 ne n) 6 ne s) 7 ne h) 8 ne w) 3 5 (nI (ne + 1))
def putM (M : sy_Mm) (ne : Nat) (k n s h w : Int32) : sy_Mm := sy_up (sy_up (sy_up (sy_up (sy_up (sy_up M 37 (5 * ne) k) 37 (5 * ne + 1) n) 37 (5 * ne + 2) s) 37 (5 * ne + 3) h) 37 (5 * ne + 4) w) 30 12 (nI (ne + 1))
theorem evG_nI {E : Evs} {ne : Nat} {k n s h w : Int32} (g : evG E ne k n s h w = true) : ∃ a b c e f : Nat, (a ≤ 5 ∧ lastN E ne ≤ b ∧ b ≤ 199 ∧ c ≤ 8 ∧ e ≤ 7 ∧ f ≤ 9) ∧ k = nI a ∧ n = nI b ∧ s = nI c ∧ h = nI e ∧ w = nI f := by
  simp only [evG, Bool.and_eq_true] at g
  obtain ⟨g1, g2, g3, g4, g5⟩ := g
  obtain ⟨a, ha, e1⟩ := inR_nI (b := 5) g1
  have g2' := inR_t.mp g2
  obtain ⟨b, hb, e2⟩ := inR_nI (x := n) (b := 199) (inR_t.mpr (by omega))
  obtain ⟨c, hc, e3⟩ := inR_nI (b := 8) g3
  obtain ⟨e, he, e4⟩ := inR_nI (b := 7) g4
  have g5' := inR_t.mp g5
  obtain ⟨f, hf, e5⟩ := inR_nI (x := w) (b := 9) (inR_t.mpr (by split at g5' <;> omega))
  refine ⟨a, b, c, e, f, ⟨ha, ?_, hb, hc, he, hf⟩, e1, e2, e3, e4, e5⟩
  rw [e2, nI_toInt (by omega)] at g2'
  omega
theorem addE_ok {E : Evs} {ne : Nat} {k n s h w : Int32} (hE : taleOK E ne) (hn : ne < 40) (g : evG E ne k n s h w = true) : taleOK (addE E ne k n s h w) (ne + 1) := by
  obtain ⟨a, b, c, e, f, hh, rfl, rfl, rfl, rfl, rfl⟩ := evG_nI g
  refine ⟨by omega, fun q hq => ?_, fun q hq => ?_⟩
  · by_cases e1 : q = ne
    · simp only [addE, e1, if_true]
      simp [nI_cl (show a < 2 ^ 31 by omega), nI_cl (show b < 2 ^ 31 by omega), nI_cl (show c < 2 ^ 31 by omega), nI_cl (show e < 2 ^ 31 by omega), nI_cl (show f < 2 ^ 31 by omega)]
      omega
    · simp only [addE, e1, if_false]
      exact hE.2.1 q (by omega)
  · by_cases e1 : q + 1 = ne
    · have e2 : q ≠ ne := by omega
      simp only [addE, e1, e2, if_true, if_false]
      simp [nI_cl (show b < 2 ^ 31 by omega)]
      have : lastN E ne = E q 1 := by unfold lastN; rw [if_neg (by omega), show ne - 1 = q by omega]
      omega
    · have e2 : q ≠ ne := by omega
      simp only [addE, e1, e2, if_false]
      exact hE.2.2 q (by omega)
theorem putC_ok {M : sy_Mm} {E : Evs} {ne : Nat} {k n s h w : Int32} (hT : taleC M E ne) (hn : ne < 40) (g : evG E ne k n s h w = true) : taleC (putC M ne k n s h w) (addE E ne k n s h w) (ne + 1) := by
  obtain ⟨a, b, c, e, f, hh, rfl, rfl, rfl, rfl, rfl⟩ := evG_nI g
  refine ⟨rfl, fun q hq => ?_⟩
  have r4 : putC M ne (nI a) (nI b) (nI c) (nI e) (nI f) 4 = upd (M 4) ne (nI a) := rfl
  have r5 : putC M ne (nI a) (nI b) (nI c) (nI e) (nI f) 5 = upd (M 5) ne (nI b) := rfl
  have r6 : putC M ne (nI a) (nI b) (nI c) (nI e) (nI f) 6 = upd (M 6) ne (nI c) := rfl
  have r7 : putC M ne (nI a) (nI b) (nI c) (nI e) (nI f) 7 = upd (M 7) ne (nI e) := rfl
  have r8 : putC M ne (nI a) (nI b) (nI c) (nI e) (nI f) 8 = upd (M 8) ne (nI f) := rfl
  rw [r4, r5, r6, r7, r8]
  by_cases e1 : q = ne
  · subst e1
    simp [addE, upd, nI_cl (show a < 2 ^ 31 by omega), nI_cl (show b < 2 ^ 31 by omega), nI_cl (show c < 2 ^ 31 by omega), nI_cl (show e < 2 ^ 31 by omega), nI_cl (show f < 2 ^ 31 by omega)]
  · have := hT.2 q (by omega)
    simp only [addE, upd, e1, if_false]
    exact this
theorem putM_ok {M : sy_Mm} {E : Evs} {ne : Nat} {k n s h w : Int32} (hT : taleM M E ne) (hn : ne < 40) (g : evG E ne k n s h w = true) : taleM (putM M ne k n s h w) (addE E ne k n s h w) (ne + 1) := by
  obtain ⟨a, b, c, e, f, hh, rfl, rfl, rfl, rfl, rfl⟩ := evG_nI g
  refine ⟨rfl, fun q hq z hz => ?_⟩
  have r37 : putM M ne (nI a) (nI b) (nI c) (nI e) (nI f) 37 = upd (upd (upd (upd (upd (M 37) (5 * ne) (nI a)) (5 * ne + 1) (nI b)) (5 * ne + 2) (nI c)) (5 * ne + 3) (nI e)) (5 * ne + 4) (nI f) := rfl
  rw [r37]
  by_cases e1 : q = ne
  · subst e1
    rcases (show z = 0 ∨ z = 1 ∨ z = 2 ∨ z = 3 ∨ z = 4 by omega) with rfl | rfl | rfl | rfl | rfl <;> simp [addE, upd, nI_cl (show a < 2 ^ 31 by omega), nI_cl (show b < 2 ^ 31 by omega), nI_cl (show c < 2 ^ 31 by omega), nI_cl (show e < 2 ^ 31 by omega), nI_cl (show f < 2 ^ 31 by omega)]
  · have := hT.2 q (by omega) z hz
    rw [pk_un (by omega), pk_un (by omega), pk_un (by omega), pk_un (by omega), pk_un (by omega)]
    simp only [addE, e1, if_false]
    exact this
set_option maxRecDepth 100000 in
set_option maxHeartbeats 4000000 in
theorem ev_lastNight (d : Nat) (M : sy_Mm) (E : Evs) (ne : Nat) (hE : taleOK E ne) (hT : taleC M E ne) : Ev d i_X4_lastNight [.ref 3] M (some (.int (nI (lastN E ne)))) M := by
  have hne := hE.1
  unfold lastN
  refine ev_of ?_
  repeat refine fx_n rfl ?_
  rw [hT.1]
  by_cases h : ne = 0
  · refine fx_bf rfl (fun z => z (by rw [h]; rfl)) ?_
    repeat refine fx_n rfl ?_
    refine fx_r rfl rfl ⟨?_, rfl⟩
    rw [if_pos h]; rfl
  · refine fx_bt rfl (nI_ne0 (by omega) (by omega)) ?_
    repeat refine fx_n rfl ?_
    rw [hT.1, show nI ne - 1 = nI (ne - 1) from pk_sub (a := ne) (b := 1) (by omega)]
    refine fx_g rfl (ix_nI (by omega) (by omega)) ?_
    rw [nI_cl (by omega), (hT.2 (ne - 1) (by omega)).2.1]
    refine fx_r rfl rfl ⟨?_, rfl⟩
    rw [if_neg h]
theorem lastN_le {E : Evs} {ne : Nat} (hE : taleOK E ne) : lastN E ne ≤ 199 := by
  unfold lastN
  split
  · omega
  · have := (hE.2.1 (ne - 1) (by omega)).2.1; omega
set_option maxRecDepth 100000 in
set_option maxHeartbeats 4000000 in
theorem ev_mayBe (d : Nat) (M : sy_Mm) (E : Evs) (ne : Nat) (k n s h w : Int32) (hE : taleOK E ne) (hT : taleC M E ne) : Ev (d + 1) i_X4_mayBe [.ref 3, .int k, .int n, .int s, .int h, .int w] M (some (.int (zb (evG E ne k n s h w)))) M := by
  have hl := lastN_le hE
  have ht : (nI (lastN E ne)).toInt = (lastN E ne : Int) := nI_toInt (by omega)
  refine ev_of ?_
  unfold evG
  repeat refine fx_n rfl ?_
  refine fx_p rfl (ev_wi _ _ _ _ 5 rfl) (fx_ze rfl (fun g1 => by ((repeat refine fx_n rfl ?_); exact fx_r rfl rfl ⟨by simp [g1, zb_f], rfl⟩)) (fun g1 => ?_))
  repeat refine fx_n rfl ?_
  refine fx_p rfl (ev_wi _ _ _ _ 199 rfl) (fx_ze rfl (fun g => ?_) (fun g => ?_))
  · have g2 : inR n (lastN E ne) 199 = false := inR_f.mpr (by have := inR_f.mp g; omega)
    repeat refine fx_n rfl ?_
    exact fx_r rfl rfl ⟨by simp [g2, zb], rfl⟩
  repeat refine fx_n rfl ?_
  refine fx_p rfl (ev_lastNight _ _ E ne hE hT) (fx_b rfl (fun q => ?_) (fun q => ?_))
  · have g2 : inR n (lastN E ne) 199 = false := inR_f.mpr (by rw [Int32.lt_iff_toInt_lt, ht] at q; omega)
    repeat refine fx_n rfl ?_
    exact fx_r rfl rfl ⟨by simp [g2, zb], rfl⟩
  have g2 : inR n (lastN E ne) 199 = true := inR_t.mpr (by have := inR_t.mp g; rw [Int32.lt_iff_toInt_lt, ht] at q; omega)
  repeat refine fx_n rfl ?_
  refine fx_p rfl (ev_wi _ _ _ _ 8 rfl) (fx_ze rfl (fun g3 => by ((repeat refine fx_n rfl ?_); exact fx_r rfl rfl ⟨by simp [g3, zb_f], rfl⟩)) (fun g3 => ?_))
  repeat refine fx_n rfl ?_
  refine fx_p rfl (ev_isHouse _ _ _) (fx_ze rfl (fun g4 => by ((repeat refine fx_n rfl ?_); exact fx_r rfl rfl ⟨by simp [g4, zb_f], rfl⟩)) (fun g4 => ?_))
  repeat refine fx_n rfl ?_
  by_cases hk : k = 0
  · refine fx_bf rfl (fun z => z hk) ?_
    rw [if_pos hk]
    repeat refine fx_n rfl ?_
    refine fx_p rfl (ev_wi _ _ _ _ 9 rfl) (fx_ze rfl (fun g5 => by ((repeat refine fx_n rfl ?_); exact fx_r rfl rfl ⟨by simp [g5, zb_f], rfl⟩)) (fun g5 => ?_))
    repeat refine fx_n rfl ?_
    exact fx_r rfl rfl ⟨by simp [g1, g2, g3, g4, g5, zb], rfl⟩
  · refine fx_bt rfl hk ?_
    rw [if_neg hk]
    repeat refine fx_n rfl ?_
    refine fx_p rfl (ev_wi _ _ _ _ 0 rfl) (fx_ze rfl (fun g5 => by ((repeat refine fx_n rfl ?_); exact fx_r rfl rfl ⟨by simp [g5, zb_f], rfl⟩)) (fun g5 => ?_))
    repeat refine fx_n rfl ?_
    exact fx_r rfl rfl ⟨by simp [g1, g2, g3, g4, g5, zb], rfl⟩
set_option maxRecDepth 100000 in
set_option maxHeartbeats 4000000 in
theorem ex_event (d : Nat) (M : sy_Mm) (E : Evs) (ne : Nat) (k n s h w : Int32) (hE : taleOK E ne) (hT : taleC M E ne) : Ex (d + 2) i_X7_event [.ref 0, .int k, .int n, .int s, .int h, .int w] M (fun r N => (evG E ne k n s h w = false ∧ r = some (.int (-2)) ∧ N = M) ∨ (evG E ne k n s h w = true ∧ ne = 40 ∧ r = some (.int (-4)) ∧ N = M) ∨ (evG E ne k n s h w = true ∧ ne < 40 ∧ r = some (.int (nI (ne + 1))) ∧ N = putC M ne k n s h w)) := by
  have hne := hE.1
  have h35 := hT.1
  have full : ∀ d, Ev d i_X4_isFull [.ref 3] M (some (.int (zb (decide (ne = 40))))) M := by
    intro d
    refine ev_of ?_
    repeat refine fx_n rfl ?_
    rw [h35]
    by_cases q : ne = 40
    · refine fx_bf rfl (by rw [q]; decide) ?_
      repeat refine fx_n rfl ?_
      exact fx_r rfl rfl ⟨by simp [q, zb], rfl⟩
    · refine fx_bt rfl (nI_lt (b := 40) (by omega) (by omega)) ?_
      repeat refine fx_n rfl ?_
      exact fx_r rfl rfl ⟨by simp [q, zb], rfl⟩
  unfold Ex
  repeat refine fx_n rfl ?_
  refine fx_p rfl (ev_mayBe _ _ E ne k n s h w hE hT) (fx_zn rfl (fun g => ?_) (fun g => ?_))
  · repeat refine fx_n rfl ?_
    refine fx_p rfl (full _) (fx_ze rfl (fun q => ?_) (fun q => ?_))
    · have q : ¬ ne = 40 := of_decide_eq_false q
      repeat refine fx_n rfl ?_
      refine fx_c (P1 := fun r N => r = some (.int (nI (ne + 1))) ∧ N = putC M ne k n s h w) rfl ?_ ?_
      · unfold Ex
        repeat refine fx_n rfl ?_
        refine fx_p rfl (full _) (fx_ze rfl (fun _ => ?_) (fun z => absurd (of_decide_eq_true z) q))
        repeat refine fx_n rfl ?_
        rw [h35]
        refine fx_g rfl (ix_nI (by omega) (by omega)) ?_
        rw [nI_cl (by omega)]
        repeat refine fx_n rfl ?_
        rw [show sy_up M 4 ne k 3 5 = nI ne from h35]
        refine fx_g rfl (ix_nI (by omega) (by omega)) ?_
        rw [nI_cl (by omega)]
        repeat refine fx_n rfl ?_
        rw [show sy_up (sy_up M 4 ne k) 5 ne n 3 5 = nI ne from h35]
        refine fx_g rfl (ix_nI (by omega) (by omega)) ?_
        rw [nI_cl (by omega)]
        repeat refine fx_n rfl ?_
        rw [show sy_up (sy_up (sy_up M 4 ne k) 5 ne n) 6 ne s 3 5 = nI ne from h35]
        refine fx_g rfl (ix_nI (by omega) (by omega)) ?_
        rw [nI_cl (by omega)]
        repeat refine fx_n rfl ?_
        rw [show sy_up (sy_up (sy_up (sy_up M 4 ne k) 5 ne n) 6 ne s) 7 ne h 3 5 = nI ne from h35]
        refine fx_g rfl (ix_nI (by omega) (by omega)) ?_
        rw [nI_cl (by omega)]
        repeat refine fx_n rfl ?_
        rw [show sy_up (sy_up (sy_up (sy_up (sy_up M 4 ne k) 5 ne n) 6 ne s) 7 ne h) 8 ne w 3 5 = nI ne from h35, nI_1]
        exact fx_r rfl rfl ⟨by rw [up_s], rfl⟩
      · rintro _ _ ⟨rfl, rfl⟩
        exact fx_r rfl rfl (Or.inr (Or.inr ⟨g, by omega, rfl, rfl⟩))
    · repeat refine fx_n rfl ?_
      exact fx_r rfl rfl (Or.inr (Or.inl ⟨g, of_decide_eq_true q, rfl, rfl⟩))
  · repeat refine fx_n rfl ?_
    exact fx_r rfl rfl (Or.inl ⟨g, rfl, rfl⟩)
set_option maxRecDepth 100000 in
set_option maxHeartbeats 4000000 in
theorem em_isLate (d : Nat) (M : sy_Mm) (E : Evs) (ne : Nat) (n : Int32) (hE : taleOK E ne) (hT : taleM M E ne) : Ev (d + 1) i_X8_isLate [.ref 30, .int n] M (some (.int (zb (inR n (lastN E ne) 199)))) M := by
  have hne := hE.1
  have hl := lastN_le hE
  refine ev_of ?_
  repeat refine fx_n rfl ?_
  rw [hT.1]
  by_cases h : ne = 0
  · refine fx_bf rfl (fun z => z (by rw [h]; rfl)) ?_
    repeat refine fx_n rfl ?_
    refine fx_p rfl (em_ir _ _ _ _ _ (lastN E ne) 199 (by unfold lastN; rw [if_pos h]; rfl) rfl) ?_
    exact fx_r rfl (zb_ok _) ⟨rfl, rfl⟩
  · refine fx_bt rfl (nI_ne0 (by omega) (by omega)) ?_
    repeat refine fx_n rfl ?_
    rw [hT.1, fv_nI, show nI (5 * ne) - 4 = nI (5 * ne - 4) from pk_sub (a := 5 * ne) (b := 4) (by omega)]
    refine fx_g rfl (ix_nI (by omega) (by omega)) ?_
    have e : M 37 (5 * ne - 4) = nI (lastN E ne) := by
      have := hT.2 (ne - 1) (by omega) 1 (by omega)
      rw [show 5 * (ne - 1) + 1 = 5 * ne - 4 by omega] at this
      unfold lastN
      rw [if_neg h]; exact this
    rw [nI_cl (by omega), e]
    repeat refine fx_n rfl ?_
    refine fx_p rfl (em_ir _ _ _ _ _ (lastN E ne) 199 (by rw [Int32.toInt_toInt64, nI_toInt (by omega)]) rfl) ?_
    exact fx_r rfl (zb_ok _) ⟨rfl, rfl⟩
set_option maxRecDepth 100000 in
set_option maxHeartbeats 4000000 in
theorem em_event (d : Nat) (M : sy_Mm) (E : Evs) (ne : Nat) (k n s h w : Int32) (hE : taleOK E ne) (hT : taleM M E ne) : Ex (d + 2) i_X8_event [.ref 30, .int k, .int n, .int s, .int h, .int w] M (fun r N => (evG E ne k n s h w = false ∧ r = some (.int (-2)) ∧ N = M) ∨ (evG E ne k n s h w = true ∧ ne = 40 ∧ r = some (.int (-4)) ∧ N = M) ∨ (evG E ne k n s h w = true ∧ ne < 40 ∧ r = some (.int (nI (ne + 1))) ∧ N = putM M ne k n s h w)) := by
  have hne := hE.1
  have bad : evG E ne k n s h w = false → Fx (d + 2) i_X8_event 49 [some (.ref 30), some (.int k), some (.int n), some (.int s), some (.int h), some (.int w), some (.int 0)] [.int 0] M (fun r N => (evG E ne k n s h w = false ∧ r = some (.int (-2)) ∧ N = M) ∨ (evG E ne k n s h w = true ∧ ne = 40 ∧ r = some (.int (-4)) ∧ N = M) ∨ (evG E ne k n s h w = true ∧ ne < 40 ∧ r = some (.int (nI (ne + 1))) ∧ N = putM M ne k n s h w)) := by
    intro g
    refine fx_bt rfl rfl ?_
    repeat refine fx_n rfl ?_
    exact fx_r rfl rfl (Or.inl ⟨g, rfl, rfl⟩)
  unfold Ex
  repeat refine fx_n rfl ?_
  refine fx_p rfl (em_ir _ _ _ _ _ 0 5 rfl rfl) (fx_ze rfl (fun g1 => by ((repeat refine fx_n rfl ?_); exact bad (by simp [evG, g1]))) (fun g1 => ?_))
  repeat refine fx_n rfl ?_
  refine fx_p rfl (em_isLate _ _ E ne _ hE hT) (fx_ze rfl (fun g2 => by ((repeat refine fx_n rfl ?_); exact bad (by simp [evG, g2]))) (fun g2 => ?_))
  repeat refine fx_n rfl ?_
  refine fx_p rfl (em_ir _ _ _ _ _ 0 8 rfl rfl) (fx_ze rfl (fun g3 => by ((repeat refine fx_n rfl ?_); exact bad (by simp [evG, g3]))) (fun g3 => ?_))
  repeat refine fx_n rfl ?_
  refine fx_p rfl (em_isHouse _ _ _) (fx_ze rfl (fun g4 => by ((repeat refine fx_n rfl ?_); exact bad (by simp [evG, g4]))) (fun g4 => ?_))
  repeat refine fx_n rfl ?_
  refine fx_bf rfl (by decide) ?_
  repeat refine fx_n rfl ?_
  have rest : ∀ (b : Int64), b.toInt = (if k = 0 then 9 else 0) → Fx (d + 2) i_X8_event 67 [some (.ref 30), some (.int k), some (.int n), some (.int s), some (.int h), some (.int w), some (.int 1)] [.long b, .long 0, .long w.toInt64] M (fun r N => (evG E ne k n s h w = false ∧ r = some (.int (-2)) ∧ N = M) ∨ (evG E ne k n s h w = true ∧ ne = 40 ∧ r = some (.int (-4)) ∧ N = M) ∨ (evG E ne k n s h w = true ∧ ne < 40 ∧ r = some (.int (nI (ne + 1))) ∧ N = putM M ne k n s h w)) := by
    intro b hb
    refine fx_p rfl (em_ir _ _ _ _ _ 0 _ rfl hb) (fx_zn rfl (fun g5 => ?_) (fun g5 => ?_))
    · have g : evG E ne k n s h w = true := by simp [evG, g1, g2, g3, g4, g5]
      repeat refine fx_n rfl ?_
      rw [hT.1]
      by_cases q : ne = 40
      · refine fx_bf rfl (fun z => z (by rw [q]; rfl)) ?_
        repeat refine fx_n rfl ?_
        exact fx_r rfl rfl (Or.inr (Or.inl ⟨g, q, rfl, rfl⟩))
      · refine fx_bt rfl (fun z => q ((nI_eq (b := 40) (by omega) (by omega)).mp z)) ?_
        repeat refine fx_n rfl ?_
        rw [hT.1, fv_nI]
        refine fx_g rfl (ix_nI (by omega) (by omega)) ?_
        rw [nI_cl (by omega)]
        repeat refine fx_n rfl ?_
        rw [show sy_up M 37 (5 * ne) k 30 12 = nI ne from hT.1, fv_nI, nI_1]
        refine fx_g rfl (ix_nI (by omega) (by omega)) ?_
        rw [nI_cl (by omega)]
        repeat refine fx_n rfl ?_
        rw [show sy_up (sy_up M 37 (5 * ne) k) 37 (5 * ne + 1) n 30 12 = nI ne from hT.1, fv_nI, nI_p2]
        refine fx_g rfl (ix_nI (by omega) (by omega)) ?_
        rw [nI_cl (by omega)]
        repeat refine fx_n rfl ?_
        rw [show sy_up (sy_up (sy_up M 37 (5 * ne) k) 37 (5 * ne + 1) n) 37 (5 * ne + 2) s 30 12 = nI ne from hT.1, fv_nI, nI_p3]
        refine fx_g rfl (ix_nI (by omega) (by omega)) ?_
        rw [nI_cl (by omega)]
        repeat refine fx_n rfl ?_
        rw [show sy_up (sy_up (sy_up (sy_up M 37 (5 * ne) k) 37 (5 * ne + 1) n) 37 (5 * ne + 2) s) 37 (5 * ne + 3) h 30 12 = nI ne from hT.1, fv_nI, nI_p4]
        refine fx_g rfl (ix_nI (by omega) (by omega)) ?_
        rw [nI_cl (by omega)]
        repeat refine fx_n rfl ?_
        rw [show sy_up (sy_up (sy_up (sy_up (sy_up M 37 (5 * ne) k) 37 (5 * ne + 1) n) 37 (5 * ne + 2) s) 37 (5 * ne + 3) h) 37 (5 * ne + 4) w 30 12 = nI ne from hT.1, nI_1]
        exact fx_r rfl rfl (Or.inr (Or.inr ⟨g, by omega, by rw [up_s], rfl⟩))
    · repeat refine fx_n rfl ?_
      exact fx_r rfl rfl (Or.inl ⟨by simp [evG, g5], rfl, rfl⟩)
  by_cases hk : k = 0
  · refine fx_bf rfl (fun z => z hk) ?_
    repeat refine fx_n rfl ?_
    exact rest _ (by rw [if_pos hk]; rfl)
  · refine fx_bt rfl hk ?_
    repeat refine fx_n rfl ?_
    exact rest _ (by rw [if_neg hk]; rfl)
end
section
set_option maxRecDepth 100000 in
set_option maxHeartbeats 4000000 in
theorem ag_event {M : sy_Mm} (h : Inv M) (k n s q w : Int32) : AG i_X7_event i_X8_event [.int k, .int n, .int s, .int q, .int w] M := by
  intro d
  obtain ⟨nn, E, ne, L, B, nb, G, F, h1, h2, h3, h4, h5, h6, h7⟩ := id h
  refine fx_w (ex_event _ M E ne k n s q w h2.1 h2.2.1) ?_
  rintro r N (⟨g, rfl, rfl⟩ | ⟨g, hn, rfl, rfl⟩ | ⟨g, hn, rfl, rfl⟩)
  · refine ⟨⟨_, rfl⟩, fx_w (em_event _ N E ne k n s q w h2.1 h2.2.2) ?_⟩
    rintro r' N' (⟨g', rfl, rfl⟩ | ⟨g', _⟩ | ⟨g', _⟩)
    · exact ⟨rfl, h⟩
    · rw [g] at g'; cases g'
    · rw [g] at g'; cases g'
  · refine ⟨⟨_, rfl⟩, fx_w (em_event _ N E ne k n s q w h2.1 h2.2.2) ?_⟩
    rintro r' N' (⟨g', _⟩ | ⟨g', _, rfl, rfl⟩ | ⟨g', hn', _⟩)
    · rw [g] at g'; cases g'
    · exact ⟨rfl, h⟩
    · omega
  · have hM : taleM (putC M ne k n s q w) E ne := ⟨h2.2.2.1, h2.2.2.2⟩
    refine ⟨⟨_, rfl⟩, fx_w (em_event _ _ E ne k n s q w h2.1 hM) ?_⟩
    rintro r' N' (⟨g', _⟩ | ⟨g', hn', _⟩ | ⟨g', _, rfl, rfl⟩)
    · rw [g] at g'; cases g'
    · omega
    · refine ⟨rfl, nn, addE E ne k n s q w, ne + 1, L, B, nb, G, F, h1.cg rfl rfl rfl rfl, ⟨addE_ok h2.1 hn g, ?_, putM_ok hM hn g⟩, h3.cg rfl rfl, h4.cg rfl rfl rfl rfl rfl rfl, h5.cg rfl rfl, h6.cg ?_, h7⟩
      · exact ⟨(putC_ok h2.2.1 hn g).1, (putC_ok h2.2.1 hn g).2⟩
      · intro z z1 z2 z3
        unfold putM putC
        rw [up_k z3, up_k (by omega), up_k (by omega), up_k (by omega), up_k (by omega), up_k (by omega), up_k (by omega), up_k (by omega), up_k (by omega), up_k (by omega), up_k (by omega), up_k (by omega)]
set_option maxRecDepth 100000 in
set_option maxHeartbeats 4000000 in
theorem ag_undo {M : sy_Mm} (h : Inv M) : AG i_X7_undo i_X8_undo [] M := by
  intro d
  obtain ⟨nn, E, ne, L, B, nb, G, F, h1, h2, h3, h4, h5, h6, h7⟩ := id h
  have hne := h2.1.1
  have c5 := h2.2.1.1
  have m12 := h2.2.2.1
  unfold Ex
  repeat refine fx_n rfl ?_
  by_cases h0 : ne = 0
  · refine fx_bf rfl (fun z => z (by rw [c5, h0]; rfl)) ?_
    repeat refine fx_n rfl ?_
    refine fx_r rfl rfl ⟨⟨_, rfl⟩, ?_⟩
    repeat refine fx_n rfl ?_
    refine fx_bf rfl (fun z => z (by rw [m12, h0]; rfl)) ?_
    repeat refine fx_n rfl ?_
    exact fx_r rfl rfl ⟨rfl, h⟩
  · refine fx_bt rfl (by rw [c5]; exact nI_ne0 (by omega) (by omega)) ?_
    have e1 : nI ne - 1 = nI (ne - 1) := pk_sub (a := ne) (b := 1) (by omega)
    repeat refine fx_n rfl ?_
    refine fx_c (P1 := fun r N => r = some (.int (nI (ne - 1))) ∧ N = sy_up M 3 5 (nI (ne - 1))) rfl ?_ ?_
    · unfold Ex
      repeat refine fx_n rfl ?_
      refine fx_bf rfl (by rw [c5]; exact nI_nle (by omega) (by omega)) ?_
      repeat refine fx_n rfl ?_
      rw [c5, e1]
      exact fx_r rfl rfl ⟨by rw [up_s], rfl⟩
    · rintro _ _ ⟨rfl, rfl⟩
      refine fx_r rfl rfl ⟨⟨_, rfl⟩, ?_⟩
      repeat refine fx_n rfl ?_
      refine fx_bt rfl (by rw [show sy_up M 3 5 (nI (ne - 1)) 30 12 = nI ne from m12]; exact nI_ne0 (by omega) (by omega)) ?_
      repeat refine fx_n rfl ?_
      rw [show sy_up M 3 5 (nI (ne - 1)) 30 12 = nI ne from m12, e1]
      refine fx_r rfl rfl ⟨by rw [up_s], nn, E, ne - 1, L, B, nb, G, F, h1.cg rfl rfl rfl rfl, ⟨⟨by omega, fun e he => h2.1.2.1 e (by omega), fun e he => h2.1.2.2 e (by omega)⟩, ⟨rfl, fun e he => h2.2.1.2 e (by omega)⟩, ⟨rfl, fun e he => h2.2.2.2 e (by omega)⟩⟩, h3.cg rfl rfl, h4.cg rfl rfl rfl rfl rfl rfl, h5.cg rfl rfl, h6.cg ?_, h7⟩
      intro z z1 z2 z3
      rw [up_k z3, up_k (by omega)]
/-! ===== book, forget ===== -/
set_option maxRecDepth 100000 in
set_option maxHeartbeats 4000000 in
theorem ag_forget {M : sy_Mm} (h : Inv M) : AG i_X7_forget i_X8_forget [] M := by
  intro d
  obtain ⟨nn, E, ne, L, B, nb, G, F, h1, h2, h3, h4, h5, h6, h7⟩ := id h
  unfold Ex
  repeat refine fx_n rfl ?_
  refine fx_c (P1 := fun r N => r = some (.int (nI nb)) ∧ N = sy_up M 14 5 0) rfl ?_ ?_
  · unfold Ex
    repeat refine fx_n rfl ?_
    rw [h4.2.1]
    exact fx_r rfl rfl ⟨rfl, rfl⟩
  · rintro _ _ ⟨rfl, rfl⟩
    refine fx_r rfl rfl ⟨⟨_, rfl⟩, ?_⟩
    repeat refine fx_n rfl ?_
    refine fx_r rfl rfl ⟨?_, nn, E, ne, L, B, 0, G, F, h1.cg rfl rfl rfl rfl, h2.cg rfl rfl rfl rfl rfl rfl rfl rfl, h3.cg rfl rfl, ⟨by omega, rfl, rfl, fun b hb => by omega⟩, h5.cg rfl rfl, h6.cg ?_, h7⟩
    · show some (Value.int (M 30 20)) = _
      rw [h4.2.2.1]
    · intro z z1 z2 z3
      rw [up_k z3, up_k (by omega)]
theorem th_nI (e : Nat) : (3 : Int32) * nI e = nI (3 * e) := pk_mul 3 e
set_option maxRecDepth 100000 in
set_option maxHeartbeats 4000000 in
theorem ag_book {M : sy_Mm} (h : Inv M) (x t g : Int32) : AG i_X7_book i_X8_book [.int x, .int t, .int g] M := by
  intro d
  obtain ⟨nn, E, ne, L, B, nb, G, F, h1, h2, h3, h4, h5, h6, h7⟩ := id h
  obtain ⟨b1, b2, b3, b4⟩ := id h4
  have full : ∀ d, Ev d i_X0_isFull [.ref 14] M (some (.int (zb (decide (nb = 8))))) M := by
    intro d
    refine ev_of ?_
    repeat refine fx_n rfl ?_
    rw [b2]
    by_cases q : nb = 8
    · refine fx_bf rfl (by rw [q]; decide) ?_
      repeat refine fx_n rfl ?_
      exact fx_r rfl rfl ⟨by simp [q, zb], rfl⟩
    · refine fx_bt rfl (nI_lt (b := 8) (by omega) (by omega)) ?_
      repeat refine fx_n rfl ?_
      exact fx_r rfl rfl ⟨by simp [q, zb], rfl⟩
  unfold Ex
  have modBad : (inR x 0 7 && (inR t 0 299 && inR g 0 19)) = false → ∀ r : Option Value, r = some (.int (-2)) → Fx (d + 30) i_X8_book 0 (sy_en i_X8_book [.ref 30, .int x, .int t, .int g]) [] M (fun r' N' => r' = r ∧ Inv N') := by
    intro gg r hr
    subst hr
    repeat refine fx_n rfl ?_
    refine fx_p rfl (em_isHouse _ _ _) (fx_ze rfl (fun g1 => by ((repeat refine fx_n rfl ?_); exact fx_r rfl rfl ⟨by simp [g1, zb_f], h⟩)) (fun g1 => ?_))
    repeat refine fx_n rfl ?_
    refine fx_p rfl (em_isNight _ _ _) (fx_ze rfl (fun g2 => by ((repeat refine fx_n rfl ?_); exact fx_r rfl rfl ⟨by simp [g2, zb_f], h⟩)) (fun g2 => ?_))
    repeat refine fx_n rfl ?_
    refine fx_p rfl (em_ir _ _ _ _ _ 0 19 rfl rfl) (fx_zn rfl (fun g3 => ?_) (fun g3 => ?_))
    · rw [g1, g2, g3] at gg; cases gg
    · repeat refine fx_n rfl ?_
      exact fx_r rfl rfl ⟨rfl, h⟩
  repeat refine fx_n rfl ?_
  refine fx_p rfl (ev_isHouse _ _ _) (fx_ze rfl (fun g1 => ?_) (fun g1 => ?_))
  · repeat refine fx_n rfl ?_
    exact fx_r rfl rfl ⟨⟨_, rfl⟩, modBad (by simp [g1]) _ rfl⟩
  repeat refine fx_n rfl ?_
  refine fx_p rfl (ev_wi _ _ _ _ 299 rfl) (fx_ze rfl (fun g2 => ?_) (fun g2 => ?_))
  · repeat refine fx_n rfl ?_
    exact fx_r rfl rfl ⟨⟨_, rfl⟩, modBad (by simp [g2]) _ rfl⟩
  repeat refine fx_n rfl ?_
  refine fx_p rfl (ev_wi _ _ _ _ 19 rfl) (fx_zn rfl (fun g3 => ?_) (fun g3 => ?_))
  · repeat refine fx_n rfl ?_
    have modTo : ∀ (N : sy_Mm) (r : Option Value), Fx (d + 30) i_X8_book 29 [some (.ref 30), some (.int x), some (.int t), some (.int g)] [] N (fun r' N' => r' = r ∧ Inv N') → Fx (d + 30) i_X8_book 0 (sy_en i_X8_book [.ref 30, .int x, .int t, .int g]) [] N (fun r' N' => r' = r ∧ Inv N') := by
      intro N r kk
      repeat refine fx_n rfl ?_
      refine fx_p rfl (em_isHouse _ _ _) (fx_ze rfl (fun z => by rw [g1] at z; cases z) (fun _ => ?_))
      repeat refine fx_n rfl ?_
      refine fx_p rfl (em_isNight _ _ _) (fx_ze rfl (fun z => by rw [g2] at z; cases z) (fun _ => ?_))
      repeat refine fx_n rfl ?_
      exact fx_p rfl (em_ir _ _ _ _ _ 0 19 rfl rfl) (fx_zn rfl (fun _ => kk) (fun z => by rw [g3] at z; cases z))
    refine fx_p rfl (full _) (fx_ze rfl (fun q => ?_) (fun q => ?_))
    · have q : ¬ nb = 8 := of_decide_eq_false q
      repeat refine fx_n rfl ?_
      refine fx_c (P1 := fun r N => r = some (.int (nI (nb + 1))) ∧ N = sy_up (sy_up (sy_up (sy_up M 15 nb x) 16 nb t) 17 nb g) 14 5 (nI (nb + 1))) rfl ?_ ?_
      · unfold Ex
        repeat refine fx_n rfl ?_
        refine fx_p rfl (full _) (fx_ze rfl (fun _ => ?_) (fun z => absurd (of_decide_eq_true z) q))
        repeat refine fx_n rfl ?_
        rw [b2]
        refine fx_g rfl (ix_nI (by omega) (by omega)) ?_
        rw [nI_cl (by omega)]
        repeat refine fx_n rfl ?_
        rw [show sy_up M 15 nb x 14 5 = nI nb from b2]
        refine fx_g rfl (ix_nI (by omega) (by omega)) ?_
        rw [nI_cl (by omega)]
        repeat refine fx_n rfl ?_
        rw [show sy_up (sy_up M 15 nb x) 16 nb t 14 5 = nI nb from b2]
        refine fx_g rfl (ix_nI (by omega) (by omega)) ?_
        rw [nI_cl (by omega)]
        repeat refine fx_n rfl ?_
        rw [show sy_up (sy_up (sy_up M 15 nb x) 16 nb t) 17 nb g 14 5 = nI nb from b2, nI_1]
        exact fx_r rfl rfl ⟨by rw [up_s], rfl⟩
      · rintro _ _ ⟨rfl, rfl⟩
        refine fx_r rfl rfl ⟨⟨_, rfl⟩, modTo _ _ ?_⟩
        generalize hN : sy_up (sy_up (sy_up (sy_up M 15 nb x) 16 nb t) 17 nb g) 14 5 (nI (nb + 1)) = N
        have c20 : N 30 20 = nI nb := by rw [← hN]; exact b3
        repeat refine fx_n rfl ?_
        rw [c20]
        refine fx_bt rfl (fun z => q ((nI_eq (b := 8) (by omega) (by omega)).mp z)) ?_
        repeat refine fx_n rfl ?_
        rw [c20, th_nI]
        refine fx_g rfl (ix_nI (by omega) (by omega)) ?_
        rw [nI_cl (by omega)]
        repeat refine fx_n rfl ?_
        rw [show sy_up N 41 (3 * nb) x 30 20 = nI nb from c20, th_nI, nI_1]
        refine fx_g rfl (ix_nI (by omega) (by omega)) ?_
        rw [nI_cl (by omega)]
        repeat refine fx_n rfl ?_
        rw [show sy_up (sy_up N 41 (3 * nb) x) 41 (3 * nb + 1) t 30 20 = nI nb from c20, th_nI, nI_p2]
        refine fx_g rfl (ix_nI (by omega) (by omega)) ?_
        rw [nI_cl (by omega)]
        repeat refine fx_n rfl ?_
        rw [show sy_up (sy_up (sy_up N 41 (3 * nb) x) 41 (3 * nb + 1) t) 41 (3 * nb + 2) g 30 20 = nI nb from c20, nI_1]
        obtain ⟨X, hX, rfl⟩ := inR_nI (b := 7) g1
        obtain ⟨T, hT, rfl⟩ := inR_nI (b := 299) g2
        obtain ⟨Y, hY, rfl⟩ := inR_nI (b := 19) g3
        refine fx_r rfl rfl ⟨by rw [up_s], nn, E, ne, L, fun b c => if b = nb then (if c = 0 then X else if c = 1 then T else Y) else B b c, nb + 1, G, F, h1.cg ?_ ?_ ?_ ?_, h2.cg ?_ ?_ ?_ ?_ ?_ ?_ ?_ ?_, h3.cg ?_ ?_, ⟨by omega, ?_, rfl, ?_⟩, h5.cg ?_ ?_, h6.cg ?_, ?_⟩
        all_goals (first | (rw [← hN]; rfl; done) | skip)
        · intro b hb
          have e15 : (sy_up (sy_up (sy_up (sy_up N 41 (3 * nb) (nI X)) 41 (3 * nb + 1) (nI T)) 41 (3 * nb + 2) (nI Y)) 30 20 (nI (nb + 1))) 15 = upd (M 15) nb (nI X) := by rw [← hN]; rfl
          have e16 : (sy_up (sy_up (sy_up (sy_up N 41 (3 * nb) (nI X)) 41 (3 * nb + 1) (nI T)) 41 (3 * nb + 2) (nI Y)) 30 20 (nI (nb + 1))) 16 = upd (M 16) nb (nI T) := by rw [← hN]; rfl
          have e17 : (sy_up (sy_up (sy_up (sy_up N 41 (3 * nb) (nI X)) 41 (3 * nb + 1) (nI T)) 41 (3 * nb + 2) (nI Y)) 30 20 (nI (nb + 1))) 17 = upd (M 17) nb (nI Y) := by rw [← hN]; rfl
          have e41 : (sy_up (sy_up (sy_up (sy_up N 41 (3 * nb) (nI X)) 41 (3 * nb + 1) (nI T)) 41 (3 * nb + 2) (nI Y)) 30 20 (nI (nb + 1))) 41 = upd (upd (upd (M 41) (3 * nb) (nI X)) (3 * nb + 1) (nI T)) (3 * nb + 2) (nI Y) := by rw [← hN]; rfl
          rw [e15, e16, e17, e41]
          by_cases e : b = nb
          · subst e
            refine ⟨by simp; omega, by simp [upd], fun c hc => ?_⟩
            rcases (show c = 0 ∨ c = 1 ∨ c = 2 by omega) with rfl | rfl | rfl <;> simp [upd]
          · obtain ⟨q1, q2, q3⟩ := b4 b (by omega)
            simp only [e, if_false]
            refine ⟨q1, ?_, fun c hc => ?_⟩
            · rw [pk_un e, pk_un e, pk_un e]; exact q2
            · rw [pk_un (by omega), pk_un (by omega), pk_un (by omega)]; exact q3 c hc
        · intro z z1 z2 z3
          rw [up_k z3, up_k (by omega), up_k (by omega), up_k (by omega), ← hN, up_k (by omega), up_k (by omega), up_k (by omega), up_k (by omega)]
        · rw [← hN]; exact h7
    · have q : nb = 8 := of_decide_eq_true q
      repeat refine fx_n rfl ?_
      refine fx_r rfl rfl ⟨⟨_, rfl⟩, modTo _ _ ?_⟩
      repeat refine fx_n rfl ?_
      refine fx_bf rfl (fun z => z (by rw [b3, q]; rfl)) ?_
      repeat refine fx_n rfl ?_
      exact fx_r rfl rfl ⟨rfl, h⟩
  · repeat refine fx_n rfl ?_
    exact fx_r rfl rfl ⟨⟨_, rfl⟩, modBad (by simp [g3]) _ rfl⟩
end
section
/-! ===== guards: thief, careless, chance, waits; robs ===== -/
def lpw (v : Int64) : Nat → Int64
  | 0 => 1
  | n + 1 => lpw v n * v
set_option maxRecDepth 100000 in
set_option maxHeartbeats 4000000 in
theorem ev_power (d : Nat) (M : sy_Mm) (v : Int64) (n : Nat) (hn : n < 2 ^ 31) : Ev d i_X1_power [.long v, .int (nI n)] M (some (.long (lpw v n))) M := by
  have loop : ∀ j i, i + j = n → Fx d i_X1_power 8 [some (.long v), none, some (.int (nI n)), some (.long (lpw v i)), none, some (.int (nI i))] [.int (nI n), .int (nI i)] M (fun r N => r = some (.long (lpw v n)) ∧ N = M) := by
    intro j
    induction j with
    | zero =>
      intro i hi
      have e : i = n := by omega
      subst e
      refine fx_bt rfl (nI_le (Nat.le_refl _) hn) ?_
      repeat refine fx_n rfl ?_
      exact fx_r rfl rfl ⟨rfl, rfl⟩
    | succ j ih =>
      intro i hi
      refine fx_bf rfl (nI_ge (by omega) hn) ?_
      repeat refine fx_n rfl ?_
      rw [nI_1]
      exact ih (i + 1) (by omega)
  refine ev_of ?_
  repeat refine fx_n rfl ?_
  exact loop n 0 (by omega)
set_option maxRecDepth 100000 in
set_option maxHeartbeats 4000000 in
theorem em_power (d : Nat) (M : sy_Mm) (v : Int64) (n : Nat) (hn : n < 2 ^ 31) : Ev d i_X8_power [.long v, .int (nI n)] M (some (.long (lpw v n))) M := by
  have loop : ∀ j i, i + j = n → Fx d i_X8_power 8 [some (.long v), none, some (.int (nI n)), some (.long (lpw v i)), none, some (.int (nI i))] [.int (nI n), .int (nI i)] M (fun r N => r = some (.long (lpw v n)) ∧ N = M) := by
    intro j
    induction j with
    | zero =>
      intro i hi
      have e : i = n := by omega
      subst e
      refine fx_bt rfl (nI_le (Nat.le_refl _) hn) ?_
      repeat refine fx_n rfl ?_
      exact fx_r rfl rfl ⟨rfl, rfl⟩
    | succ j ih =>
      intro i hi
      refine fx_bf rfl (nI_ge (by omega) hn) ?_
      repeat refine fx_n rfl ?_
      rw [nI_1]
      exact ih (i + 1) (by omega)
  refine ev_of ?_
  repeat refine fx_n rfl ?_
  exact loop n 0 (by omega)
def lwF : Nat → Int64 → Int64 → Int64 × Int64
  | 0, a, b => (a, b)
  | j + 1, a, b => if a - a / 2 * 2 = 0 ∧ b - b / 2 * 2 = 0 then lwF j (a / 2) (b / 2) else (a, b)
set_option maxRecDepth 100000 in
set_option maxHeartbeats 4000000 in
theorem ev_lowest (d : Nat) (M : sy_Mm) (a b : Int64) (w : Int32) : Ev d i_X1_lowest [.long a, .long b, .int w] M (some (.long (if w = 0 then (lwF 64 a b).1 else (lwF 64 a b).2))) M := by
  have fin : ∀ (x y : Int64) (i : Int32), Fx d i_X1_lowest 62 [some (.long a), none, some (.long b), none, some (.int w), some (.long x), none, some (.long y), none, some (.int i)] [.int w] M (fun r N => r = some (.long (if w = 0 then x else y)) ∧ N = M) := by
    intro x y i
    by_cases hw : w = 0
    · refine fx_bf rfl (fun z => z hw) ?_
      repeat refine fx_n rfl ?_
      exact fx_r rfl rfl ⟨by rw [if_pos hw], rfl⟩
    · refine fx_bt rfl hw ?_
      repeat refine fx_n rfl ?_
      exact fx_r rfl rfl ⟨by rw [if_neg hw], rfl⟩
  have loop : ∀ j i (x y : Int64), i + j = 64 → Fx d i_X1_lowest 13 [some (.long a), none, some (.long b), none, some (.int w), some (.long x), none, some (.long y), none, some (.int (nI i))] [.int 64, .int (nI i)] M (fun r N => r = some (.long (if w = 0 then (lwF j x y).1 else (lwF j x y).2)) ∧ N = M) := by
    intro j
    induction j with
    | zero =>
      intro i x y hi
      refine fx_bt rfl (nI_le (a := 64) (by omega) (by omega)) ?_
      repeat refine fx_n rfl ?_
      exact fin x y _
    | succ j ih =>
      intro i x y hi
      refine fx_bf rfl (nI_ge (b := 64) (by omega) (by omega)) ?_
      repeat refine fx_n rfl ?_
      refine fx_g rfl (by decide) ?_
      repeat refine fx_n rfl ?_
      by_cases h1 : x - x / 2 * 2 = 0
      · refine fx_bf rfl (fun z => z (lcmp_eq.mpr h1)) ?_
        repeat refine fx_n rfl ?_
        refine fx_g rfl (by decide) ?_
        repeat refine fx_n rfl ?_
        by_cases h2 : y - y / 2 * 2 = 0
        · refine fx_bf rfl (fun z => z (lcmp_eq.mpr h2)) ?_
          rw [show lwF (j + 1) x y = lwF j (x / 2) (y / 2) from if_pos ⟨h1, h2⟩]
          repeat refine fx_n rfl ?_
          refine fx_g rfl (by decide) ?_
          repeat refine fx_n rfl ?_
          refine fx_g rfl (by decide) ?_
          repeat refine fx_n rfl ?_
          rw [nI_1]
          exact ih (i + 1) _ _ (by omega)
        · rw [show lwF (j + 1) x y = (x, y) from if_neg (fun z => h2 z.2)]
          refine fx_bt rfl (fun z => h2 (lcmp_eq.mp z)) ?_
          repeat refine fx_n rfl ?_
          exact fin x y _
      · rw [show lwF (j + 1) x y = (x, y) from if_neg (fun z => h1 z.1)]
        refine fx_bt rfl (fun z => h1 (lcmp_eq.mp z)) ?_
        repeat refine fx_n rfl ?_
        exact fin x y _
  refine ev_of ?_
  repeat refine fx_n rfl ?_
  exact loop 64 0 a b (by omega)
def gcF : Nat → Int64 → Int64 → Option Int64
  | 0, _, _ => none
  | j + 1, a, b => if b = 0 then some a else gcF j b (a - a / b * b)
set_option maxRecDepth 100000 in
set_option maxHeartbeats 4000000 in
theorem em_part (d : Nat) (M : sy_Mm) (a b g : Int64) (w : Int32) (n : Nat) (h : gcF n a b = some g) (hg : ¬ g = 0) : Ev d i_X8_part [.long a, .long b, .int w] M (some (.long ((if w = 0 then a else b) / g))) M := by
  have loop : ∀ j (x y : Int64) (q1 q2 : Option Value), gcF j x y = some g → Fx d i_X8_part 10 [some (.long a), none, some (.long b), none, some (.int w), some (.long x), none, some (.long y), none, q1, q2] [.int (lg_cmp y 0)] M (fun r N => r = some (.long ((if w = 0 then a else b) / g)) ∧ N = M) := by
    intro j
    induction j with
    | zero => intro x y q1 q2 h; cases h
    | succ j ih =>
      intro x y q1 q2 h
      unfold gcF at h
      by_cases h0 : y = 0
      · rw [if_pos h0] at h
        cases h
        refine fx_bt rfl (lcmp_eq.mpr h0) ?_
        repeat refine fx_n rfl ?_
        by_cases hw : w = 0
        · refine fx_bf rfl (fun z => z hw) ?_
          repeat refine fx_n rfl ?_
          refine fx_g rfl hg ?_
          exact fx_r rfl rfl ⟨by rw [if_pos hw], rfl⟩
        · refine fx_bt rfl hw ?_
          repeat refine fx_n rfl ?_
          refine fx_g rfl hg ?_
          exact fx_r rfl rfl ⟨by rw [if_neg hw], rfl⟩
      · rw [if_neg h0] at h
        refine fx_bf rfl (fun z => h0 (lcmp_eq.mp z)) ?_
        repeat refine fx_n rfl ?_
        refine fx_g rfl h0 ?_
        repeat refine fx_n rfl ?_
        exact ih _ _ _ _ h
  refine ev_of ?_
  repeat refine fx_n rfl ?_
  exact loop n a b _ _ h
/-- the chance's two parts agree, by trying all -/
def chOK (n g : Nat) : Bool := match gcF 100 (lpw 16 n - lpw (nI g).toInt64 n) (lpw 16 n) with
  | some q => decide (¬ q = 0) && (decide ((lwF 64 (lpw 16 n - lpw (nI g).toInt64 n) (lpw 16 n)).1 = (lpw 16 n - lpw (nI g).toInt64 n) / q) && decide ((lwF 64 (lpw 16 n - lpw (nI g).toInt64 n) (lpw 16 n)).2 = lpw 16 n / q))
  | none => false
theorem chOK_all : ∀ n, n < 13 → ∀ g, g < 17 → chOK n g = true := by decide +kernel
def waOK (g : Nat) : Bool := match gcF 100 16 (16 - (nI g).toInt64) with
  | some q => decide (¬ q = 0) && (decide ((lwF 64 16 ((16 : Int32) - nI g).toInt64).1 = 16 / q) && (decide ((lwF 64 16 ((16 : Int32) - nI g).toInt64).2 = (16 - (nI g).toInt64) / q) && decide (¬ (16 : Int32) - nI g = 0)))
  | none => false
theorem waOK_all : ∀ g, g < 16 → waOK g = true := by decide +kernel
set_option maxRecDepth 100000 in
set_option maxHeartbeats 4000000 in
theorem ev_chance (d : Nat) (M : sy_Mm) (G : Nat → Nat) (x t w : Int32) (hG : ∀ h, h < 8 → G h ≤ 16 ∧ M 20 h = nI (G h)) : Ev (d + 1) i_X7_chance [.ref 0, .int x, .int t, .int w] M (some (.long (cond (inR x 0 7 && (inR t 0 12 && inR w 0 1)) (if w = 0 then (lwF 64 (lpw 16 t.toNatClampNeg - lpw (nI (G x.toNatClampNeg)).toInt64 t.toNatClampNeg) (lpw 16 t.toNatClampNeg)).1 else (lwF 64 (lpw 16 t.toNatClampNeg - lpw (nI (G x.toNatClampNeg)).toInt64 t.toNatClampNeg) (lpw 16 t.toNatClampNeg)).2) (-9223372036854775806)))) M := by
  refine ev_of ?_
  repeat refine fx_n rfl ?_
  refine fx_p rfl (ev_isHouse _ _ _) (fx_ze rfl (fun g1 => by ((repeat refine fx_n rfl ?_); exact fx_r rfl rfl ⟨by simp [g1, zb_f], rfl⟩)) (fun g1 => ?_))
  repeat refine fx_n rfl ?_
  refine fx_p rfl (ev_wi _ _ _ _ 12 rfl) (fx_ze rfl (fun g2 => by ((repeat refine fx_n rfl ?_); exact fx_r rfl rfl ⟨by simp [g2, zb_f], rfl⟩)) (fun g2 => ?_))
  repeat refine fx_n rfl ?_
  refine fx_p rfl (ev_wi _ _ _ _ 1 rfl) (fx_zn rfl (fun g3 => ?_) (fun g3 => by ((repeat refine fx_n rfl ?_); exact fx_r rfl rfl ⟨by simp [g3, zb_f], rfl⟩)))
  obtain ⟨h, hh, rfl⟩ := inR_nI (b := 7) g1
  obtain ⟨n, hn, rfl⟩ := inR_nI (b := 12) g2
  rw [g1, g2, g3, nI_cl (by omega), nI_cl (by omega)]
  repeat refine fx_n rfl ?_
  refine fx_p rfl (ev_power _ _ _ n (by omega)) ?_
  repeat refine fx_n rfl ?_
  refine fx_g rfl (ix_nI (by omega) (by omega)) ?_
  rw [nI_cl (by omega), (hG h (by omega)).2]
  repeat refine fx_n rfl ?_
  refine fx_p rfl (ev_power _ _ _ n (by omega)) ?_
  repeat refine fx_n rfl ?_
  refine fx_p rfl (ev_lowest _ _ _ _ w) ?_
  exact fx_r rfl rfl ⟨rfl, rfl⟩
set_option maxRecDepth 100000 in
set_option maxHeartbeats 4000000 in
theorem em_chanceOf (d : Nat) (M : sy_Mm) (h n g : Nat) (w : Int32) (hh : h < 8) (hn : n ≤ 12) (hg : g ≤ 16) (h45 : M 45 h = nI g) : Ev (d + 1) i_X8_chanceOf [.ref 30, .int (nI h), .int (nI n), .int w] M (some (.long (if w = 0 then (lwF 64 (lpw 16 n - lpw (nI g).toInt64 n) (lpw 16 n)).1 else (lwF 64 (lpw 16 n - lpw (nI g).toInt64 n) (lpw 16 n)).2))) M := by
  have ok := chOK_all n (by omega) g (by omega)
  unfold chOK at ok
  refine ev_of ?_
  repeat refine fx_n rfl ?_
  refine fx_p rfl (em_power _ _ _ n (by omega)) ?_
  repeat refine fx_n rfl ?_
  refine fx_g rfl (ix_nI (by omega) (by omega)) ?_
  rw [nI_cl (by omega), h45]
  repeat refine fx_n rfl ?_
  refine fx_p rfl (em_power _ _ _ n (by omega)) ?_
  repeat refine fx_n rfl ?_
  split at ok
  · rename_i q e
    simp only [Bool.and_eq_true, decide_eq_true_eq] at ok
    refine fx_p rfl (em_part _ _ _ _ q w 100 e ok.1) ?_
    refine fx_r rfl rfl ⟨?_, rfl⟩
    rw [ok.2.1, ok.2.2]
    by_cases hw : w = 0 <;> simp [hw]
  · cases ok
set_option maxRecDepth 100000 in
set_option maxHeartbeats 4000000 in
theorem ag_chance {M : sy_Mm} (h : Inv M) (x t w : Int32) : AGl i_X7_chance i_X8_chance [.int x, .int t, .int w] M := by
  intro d
  obtain ⟨nn, E, ne, L, B, nb, G, F, h1, h2, h3, h4, h5, h6, h7⟩ := id h
  refine fx_w (ex_of (ev_chance _ M G x t w (fun q hq => ⟨(h5 q hq).1, (h5 q hq).2.1⟩))) ?_
  rintro _ N0 ⟨rfl, hN0⟩
  rw [hN0]
  refine ⟨⟨_, rfl⟩, ?_⟩
  have bad : (inR x 0 7 && (inR t 0 12 && inR w 0 1)) = false → Fx (d + 30) i_X8_chance 38 [some (.ref 30), some (.int x), some (.int t), some (.int w)] [.int (-2)] M (fun r' N' => r' = some (.long (cond (inR x 0 7 && (inR t 0 12 && inR w 0 1)) (if w = 0 then (lwF 64 (lpw 16 t.toNatClampNeg - lpw (nI (G x.toNatClampNeg)).toInt64 t.toNatClampNeg) (lpw 16 t.toNatClampNeg)).1 else (lwF 64 (lpw 16 t.toNatClampNeg - lpw (nI (G x.toNatClampNeg)).toInt64 t.toNatClampNeg) (lpw 16 t.toNatClampNeg)).2) (-9223372036854775806))) ∧ Inv N') := by
    intro g
    refine fx_p rfl (em_no _ _ _) ?_
    refine fx_r rfl rfl ⟨?_, h⟩
    rw [g]; rfl
  unfold Ex
  repeat refine fx_n rfl ?_
  refine fx_p rfl (em_isHouse _ _ _) (fx_ze rfl (fun g1 => by ((repeat refine fx_n rfl ?_); exact bad (by simp [g1]))) (fun g1 => ?_))
  repeat refine fx_n rfl ?_
  refine fx_p rfl (em_ir _ _ _ _ _ 0 12 rfl rfl) (fx_ze rfl (fun g2 => by ((repeat refine fx_n rfl ?_); exact bad (by simp [g2]))) (fun g2 => ?_))
  repeat refine fx_n rfl ?_
  refine fx_p rfl (em_isTwo _ _ _) (fx_ze rfl (fun g3 => by ((repeat refine fx_n rfl ?_); exact bad (by simp [g3]))) (fun g3 => ?_))
  repeat refine fx_n rfl ?_
  obtain ⟨q, hq, rfl⟩ := inR_nI (b := 7) g1
  obtain ⟨n, hn, rfl⟩ := inR_nI (b := 12) g2
  rw [g1, g2, g3, nI_cl (by omega), nI_cl (by omega)]
  refine fx_p rfl (em_chanceOf _ _ q n (G q) w (by omega) hn (h5 q (by omega)).1 (h5 q (by omega)).2.2) ?_
  repeat refine fx_n rfl ?_
  exact fx_r rfl rfl ⟨rfl, h⟩
def waS (g : Nat) (w : Int32) : Int64 := if g = 16 then -9223372036854775805 else if w = 0 then (lwF 64 16 ((16 : Int32) - nI g).toInt64).1 else (lwF 64 16 ((16 : Int32) - nI g).toInt64).2
set_option maxRecDepth 100000 in
set_option maxHeartbeats 4000000 in
theorem ev_waits (d : Nat) (M : sy_Mm) (G : Nat → Nat) (x w : Int32) (hG : ∀ h, h < 8 → G h ≤ 16 ∧ M 20 h = nI (G h)) : Ev (d + 1) i_X7_waits [.ref 0, .int x, .int w] M (some (.long (cond (inR x 0 7 && inR w 0 1) (waS (G x.toNatClampNeg) w) (-9223372036854775806)))) M := by
  refine ev_of ?_
  repeat refine fx_n rfl ?_
  refine fx_p rfl (ev_isHouse _ _ _) (fx_ze rfl (fun g1 => by ((repeat refine fx_n rfl ?_); exact fx_r rfl rfl ⟨by simp [g1, zb_f], rfl⟩)) (fun g1 => ?_))
  repeat refine fx_n rfl ?_
  refine fx_p rfl (ev_wi _ _ _ _ 1 rfl) (fx_zn rfl (fun g3 => ?_) (fun g3 => by ((repeat refine fx_n rfl ?_); exact fx_r rfl rfl ⟨by simp [g3, zb_f], rfl⟩)))
  obtain ⟨h, hh, rfl⟩ := inR_nI (b := 7) g1
  rw [g1, g3, nI_cl (by omega)]
  have hg := hG h (by omega)
  repeat refine fx_n rfl ?_
  refine fx_g rfl (ix_nI (by omega) (by omega)) ?_
  rw [nI_cl (by omega), hg.2]
  repeat refine fx_n rfl ?_
  unfold waS
  by_cases q : G h = 16
  · refine fx_bf rfl (fun z => z (by rw [q]; decide)) ?_
    repeat refine fx_n rfl ?_
    refine fx_r rfl rfl ⟨?_, rfl⟩
    rw [if_pos q]; rfl
  · have ok := waOK_all (G h) (by omega)
    unfold waOK at ok
    split at ok
    · simp only [Bool.and_eq_true, decide_eq_true_eq] at ok
      refine fx_bt rfl ok.2.2.2 ?_
      repeat refine fx_n rfl ?_
      refine fx_p rfl (ev_lowest _ _ _ _ w) ?_
      refine fx_r rfl rfl ⟨?_, rfl⟩
      rw [if_neg q]; rfl
    · cases ok
set_option maxRecDepth 100000 in
set_option maxHeartbeats 4000000 in
theorem em_waitsOf (d : Nat) (M : sy_Mm) (h g : Nat) (w : Int32) (hh : h < 8) (hg : g ≤ 16) (h45 : M 45 h = nI g) : Ev (d + 1) i_X8_waitsOf [.ref 30, .int (nI h), .int w] M (some (.long (waS g w))) M := by
  refine ev_of ?_
  repeat refine fx_n rfl ?_
  refine fx_g rfl (ix_nI (by omega) (by omega)) ?_
  rw [nI_cl (by omega), h45]
  repeat refine fx_n rfl ?_
  unfold waS
  by_cases q : g = 16
  · refine fx_bf rfl (fun z => z (by rw [q]; rfl)) ?_
    repeat refine fx_n rfl ?_
    refine fx_p rfl (em_no _ _ _) ?_
    repeat refine fx_n rfl ?_
    refine fx_r rfl rfl ⟨?_, rfl⟩
    rw [if_pos q]; rfl
  · refine fx_bt rfl (fun z => q ((nI_eq (b := 16) (by omega) (by omega)).mp z)) ?_
    repeat refine fx_n rfl ?_
    refine fx_g rfl (ix_nI (by omega) (by omega)) ?_
    rw [nI_cl (by omega), h45]
    repeat refine fx_n rfl ?_
    have ok := waOK_all g (by omega)
    unfold waOK at ok
    split at ok
    · rename_i z e
      simp only [Bool.and_eq_true, decide_eq_true_eq] at ok
      refine fx_p rfl (em_part _ _ _ _ z w 100 e ok.1) ?_
      refine fx_r rfl rfl ⟨?_, rfl⟩
      rw [if_neg q, ok.2.1, ok.2.2.1]
      by_cases hw : w = 0 <;> simp [hw]
    · cases ok
set_option maxRecDepth 100000 in
set_option maxHeartbeats 4000000 in
theorem ag_waits {M : sy_Mm} (h : Inv M) (x w : Int32) : AGl i_X7_waits i_X8_waits [.int x, .int w] M := by
  intro d
  obtain ⟨nn, E, ne, L, B, nb, G, F, h1, h2, h3, h4, h5, h6, h7⟩ := id h
  refine fx_w (ex_of (ev_waits _ M G x w (fun q hq => ⟨(h5 q hq).1, (h5 q hq).2.1⟩))) ?_
  rintro _ N0 ⟨rfl, hN0⟩
  rw [hN0]
  refine ⟨⟨_, rfl⟩, ?_⟩
  have bad : (inR x 0 7 && inR w 0 1) = false → Fx (d + 30) i_X8_waits 25 [some (.ref 30), some (.int x), some (.int w)] [.int (-2)] M (fun r' N' => r' = some (.long (cond (inR x 0 7 && inR w 0 1) (waS (G x.toNatClampNeg) w) (-9223372036854775806))) ∧ Inv N') := by
    intro g
    refine fx_p rfl (em_no _ _ _) ?_
    refine fx_r rfl rfl ⟨?_, h⟩
    rw [g]; rfl
  unfold Ex
  repeat refine fx_n rfl ?_
  refine fx_p rfl (em_isHouse _ _ _) (fx_ze rfl (fun g1 => by ((repeat refine fx_n rfl ?_); exact bad (by simp [g1]))) (fun g1 => ?_))
  repeat refine fx_n rfl ?_
  refine fx_p rfl (em_isTwo _ _ _) (fx_ze rfl (fun g3 => by ((repeat refine fx_n rfl ?_); exact bad (by simp [g3]))) (fun g3 => ?_))
  repeat refine fx_n rfl ?_
  obtain ⟨q, hq, rfl⟩ := inR_nI (b := 7) g1
  rw [g1, g3, nI_cl (by omega)]
  refine fx_p rfl (em_waitsOf _ _ q (G q) w (by omega) (h5 q (by omega)).1 (h5 q (by omega)).2.2) ?_
  repeat refine fx_n rfl ?_
  exact fx_r rfl rfl ⟨rfl, h⟩
end
section
def crF (n : Nat) (c : Int32) : Nat → Nat → Nat
  | 0, _ => 16
  | j + 1, v => if 0 < lg_cmp (100 * (lpw 16 n - lpw (nI v).toInt64 n)) (c.toInt64 * lpw 16 n) then crF n c j (v + 1) else v
set_option maxRecDepth 100000 in
set_option maxHeartbeats 4000000 in
theorem ev_leastFor (d : Nat) (M : sy_Mm) (n : Nat) (c : Int32) (hn : n ≤ 12) : Ev (d + 1) i_X1_leastFor [.int (nI n), .int c] M (some (.int (nI (crF n c 16 0)))) M := by
  have loop : ∀ j v, v + j = 16 → Fx (d + 1) i_X1_leastFor 15 [some (.int (nI n)), some (.int c), some (.long (lpw 16 n)), none, some (.int (nI v))] [.int 16, .int (nI v)] M (fun r N => r = some (.int (nI (crF n c j v))) ∧ N = M) := by
    intro j
    induction j with
    | zero =>
      intro v hv
      refine fx_bt rfl (nI_le (a := 16) (by omega) (by omega)) ?_
      repeat refine fx_n rfl ?_
      exact fx_r rfl rfl ⟨rfl, rfl⟩
    | succ j ih =>
      intro v hv
      refine fx_bf rfl (nI_ge (b := 16) (by omega) (by omega)) ?_
      repeat refine fx_n rfl ?_
      refine fx_p rfl (ev_power _ _ _ n (by omega)) ?_
      repeat refine fx_n rfl ?_
      by_cases q : 0 < lg_cmp (100 * (lpw 16 n - lpw (nI v).toInt64 n)) (c.toInt64 * lpw 16 n)
      · rw [show crF n c (j + 1) v = crF n c j (v + 1) from if_pos q]
        refine fx_bt rfl q ?_
        repeat refine fx_n rfl ?_
        rw [nI_1]
        exact ih (v + 1) (by omega)
      · rw [show crF n c (j + 1) v = v from if_neg q]
        refine fx_bf rfl q ?_
        repeat refine fx_n rfl ?_
        exact fx_r rfl rfl ⟨rfl, rfl⟩
  refine ev_of ?_
  repeat refine fx_n rfl ?_
  refine fx_p rfl (ev_power _ _ _ n (by omega)) ?_
  repeat refine fx_n rfl ?_
  exact loop 16 0 (by omega)
theorem cr16 : ∀ n, n < 13 → ∀ c, c < 101 → ¬ 0 < lg_cmp (100 * (lpw 16 n - lpw (nI 16).toInt64 n)) ((nI c).toInt64 * lpw 16 n) := by decide +kernel
set_option maxRecDepth 100000 in
set_option maxHeartbeats 4000000 in
theorem em_carelessOf (d : Nat) (M : sy_Mm) (n c : Nat) (hn : n ≤ 12) (hc : c ≤ 100) : Ev (d + 1) i_X8_carelessOf [.int (nI n), .int (nI c)] M (some (.int (nI (crF n (nI c) 16 0)))) M := by
  have loop : ∀ j v, v + j = 16 → Fx (d + 1) i_X8_carelessOf 16 [some (.int (nI n)), some (.int (nI c)), some (.long (lpw 16 n)), none, some (.int (nI v))] [.int (nI n), .long (nI v).toInt64, .long (lpw 16 n)] M (fun r N => r = some (.int (nI (crF n (nI c) j v))) ∧ N = M) := by
    intro j
    induction j with
    | zero =>
      intro v hv
      have e : v = 16 := by omega
      subst e
      refine fx_p rfl (em_power _ _ _ n (by omega)) ?_
      repeat refine fx_n rfl ?_
      rw [Int64.mul_comm (lpw 16 n - lpw (nI 16).toInt64 n) 100]
      refine fx_bt rfl (Int32.not_lt.mp (cr16 n (by omega) c (by omega))) ?_
      repeat refine fx_n rfl ?_
      exact fx_r rfl rfl ⟨rfl, rfl⟩
    | succ j ih =>
      intro v hv
      refine fx_p rfl (em_power _ _ _ n (by omega)) ?_
      repeat refine fx_n rfl ?_
      rw [Int64.mul_comm (lpw 16 n - lpw (nI v).toInt64 n) 100]
      by_cases q : 0 < lg_cmp (100 * (lpw 16 n - lpw (nI v).toInt64 n)) ((nI c).toInt64 * lpw 16 n)
      · rw [show crF n (nI c) (j + 1) v = crF n (nI c) j (v + 1) from if_pos q]
        refine fx_bf rfl (Int32.not_le.mpr q) ?_
        repeat refine fx_n rfl ?_
        rw [nI_1]
        exact ih (v + 1) (by omega)
      · rw [show crF n (nI c) (j + 1) v = v from if_neg q]
        refine fx_bt rfl (Int32.not_lt.mp q) ?_
        repeat refine fx_n rfl ?_
        exact fx_r rfl rfl ⟨rfl, rfl⟩
  refine ev_of ?_
  repeat refine fx_n rfl ?_
  refine fx_p rfl (em_power _ _ _ n (by omega)) ?_
  repeat refine fx_n rfl ?_
  exact loop 16 0 (by omega)
def caS (n c : Int32) : Int32 := cond (inR n 1 12 && inR c 0 100) (nI (crF n.toNatClampNeg c 16 0)) (-2)
theorem inR_1 {x : Int32} {b : Nat} (hb : b < 2 ^ 31) (h : inR x 1 b = true) : ∃ k : Nat, 1 ≤ k ∧ k ≤ b ∧ x = nI k := by
  have h1 := inR_t.mp h
  obtain ⟨k, hk, e⟩ := inR_nI (x := x) (b := b) (inR_t.mpr (by omega))
  rw [e, nI_toInt (by omega)] at h1
  exact ⟨k, by omega, hk, e⟩
set_option maxRecDepth 100000 in
set_option maxHeartbeats 4000000 in
theorem ev_careless (d : Nat) (M : sy_Mm) (n c : Int32) : Ev (d + 2) i_X7_careless [.ref 0, .int n, .int c] M (some (.int (caS n c))) M := by
  refine ev_of ?_
  unfold caS
  repeat refine fx_n rfl ?_
  refine fx_b rfl (fun q => ?_) (fun q => ?_)
  · have g : inR n 1 12 = false := inR_f.mpr (by rw [Int32.lt_iff_toInt_lt] at q; simp at q; omega)
    repeat refine fx_n rfl ?_
    exact fx_r rfl rfl ⟨by simp [g], rfl⟩
  repeat refine fx_n rfl ?_
  refine fx_b rfl (fun q2 => ?_) (fun q2 => ?_)
  · have g : inR n 1 12 = false := inR_f.mpr (by rw [Int32.lt_iff_toInt_lt] at q2; simp at q2; omega)
    repeat refine fx_n rfl ?_
    exact fx_r rfl rfl ⟨by simp [g], rfl⟩
  have g : inR n 1 12 = true := inR_t.mpr (by rw [Int32.lt_iff_toInt_lt] at q q2; simp at q q2; omega)
  repeat refine fx_n rfl ?_
  refine fx_p rfl (ev_wi _ _ _ _ 100 rfl) (fx_zn rfl (fun g3 => ?_) (fun g3 => by ((repeat refine fx_n rfl ?_); exact fx_r rfl rfl ⟨by simp [g3, zb_f], rfl⟩)))
  obtain ⟨k, hk1, hk2, rfl⟩ := inR_1 (b := 12) (by omega) g
  rw [g, g3, nI_cl (by omega)]
  repeat refine fx_n rfl ?_
  refine fx_p rfl (ev_leastFor _ _ k c hk2) ?_
  exact fx_r rfl rfl ⟨rfl, rfl⟩
set_option maxRecDepth 100000 in
set_option maxHeartbeats 4000000 in
theorem ag_careless {M : sy_Mm} (h : Inv M) (n c : Int32) : AG i_X7_careless i_X8_careless [.int n, .int c] M := by
  intro d
  refine fx_w (ex_of (ev_careless _ M n c)) ?_
  rintro _ N0 ⟨rfl, hN0⟩
  rw [hN0]
  refine ⟨⟨_, rfl⟩, ?_⟩
  unfold Ex caS
  repeat refine fx_n rfl ?_
  refine fx_p rfl (em_ir _ _ _ _ _ 1 12 rfl rfl) (fx_ze rfl (fun g1 => by ((repeat refine fx_n rfl ?_); exact fx_r rfl rfl ⟨by simp [g1, zb_f], h⟩)) (fun g1 => ?_))
  repeat refine fx_n rfl ?_
  refine fx_p rfl (em_ir _ _ _ _ _ 0 100 rfl rfl) (fx_ze rfl (fun g2 => by ((repeat refine fx_n rfl ?_); exact fx_r rfl rfl ⟨by simp [g2, zb_f], h⟩)) (fun g2 => ?_))
  obtain ⟨k, hk1, hk2, rfl⟩ := inR_1 (b := 12) (by omega) g1
  obtain ⟨q, hq, rfl⟩ := inR_nI (b := 100) g2
  rw [g1, g2, nI_cl (by omega)]
  repeat refine fx_n rfl ?_
  refine fx_p rfl (em_carelessOf _ _ k q hk2 hq) ?_
  repeat refine fx_n rfl ?_
  exact fx_r rfl rfl ⟨rfl, h⟩
/-! thief -/
def lot (x : Int32) : Int32 := ((1103515245 * x + 12345).toUInt32 >>> ((16 : Int32).toUInt32 &&& Int32.toUInt32 31)).toInt32 - ((1103515245 * x + 12345).toUInt32 >>> ((16 : Int32).toUInt32 &&& Int32.toUInt32 31)).toInt32 / 16 * 16
def thF (g : Int32) : Nat → Nat → Int32 → Int32
  | 0, _, _ => -1
  | j + 1, i, x => if lot x < g then thF g j (i + 1) (1103515245 * x + 12345) else nI i
set_option maxRecDepth 100000 in
set_option maxHeartbeats 4000000 in
theorem ev_nightOfTheft (d : Nat) (M : sy_Mm) (h n : Nat) (x : Int32) (hh : h < 8) (hn : n ≤ 200) : Ev d i_X1_nightOfTheft [.ref 19, .int (nI h), .int x, .int (nI n)] M (some (.int (thF (M 20 h) n 0 x))) M := by
  have loop : ∀ j i (y : Int32), i + j = n → Fx d i_X1_nightOfTheft 9 [some (.ref 19), some (.int (nI h)), some (.int x), some (.int (nI n)), some (.int y), some (.int (nI i))] [.int (nI n), .int (nI i)] M (fun r N => r = some (.int (thF (M 20 h) j i y)) ∧ N = M) := by
    intro j
    induction j with
    | zero =>
      intro i y hi
      refine fx_bt rfl (nI_le (by omega) (by omega)) ?_
      repeat refine fx_n rfl ?_
      exact fx_r rfl rfl ⟨rfl, rfl⟩
    | succ j ih =>
      intro i y hi
      refine fx_bf rfl (nI_ge (by omega) (by omega)) ?_
      repeat refine fx_n rfl ?_
      refine fx_g rfl (by decide) ?_
      repeat refine fx_n rfl ?_
      refine fx_g rfl (ix_nI (by omega) (by omega)) ?_
      rw [nI_cl (by omega)]
      by_cases q : lot y < M 20 h
      · rw [show thF (M 20 h) (j + 1) i y = thF (M 20 h) j (i + 1) (1103515245 * y + 12345) from if_pos q]
        refine fx_bt rfl q ?_
        repeat refine fx_n rfl ?_
        rw [nI_1]
        exact ih (i + 1) _ (by omega)
      · rw [show thF (M 20 h) (j + 1) i y = nI i from if_neg q]
        refine fx_bf rfl q ?_
        repeat refine fx_n rfl ?_
        exact fx_r rfl rfl ⟨rfl, rfl⟩
  refine ev_of ?_
  repeat refine fx_n rfl ?_
  exact loop n 0 x (by omega)
set_option maxRecDepth 100000 in
set_option maxHeartbeats 4000000 in
theorem em_thiefOf (d : Nat) (M : sy_Mm) (h n : Nat) (x : Int32) (hh : h < 8) (hn : n ≤ 200) : Ev d i_X8_thiefOf [.ref 30, .int (nI h), .int x, .int (nI n)] M (some (.int (thF (M 45 h) n 0 x))) M := by
  have loop : ∀ j i (y : Int32), i + j = n → Fx d i_X8_thiefOf 9 [some (.ref 30), some (.int (nI h)), some (.int x), some (.int (nI n)), some (.int y), some (.int (nI i))] [.int (nI n), .int (nI i)] M (fun r N => r = some (.int (thF (M 45 h) j i y)) ∧ N = M) := by
    intro j
    induction j with
    | zero =>
      intro i y hi
      refine fx_bt rfl (nI_le (by omega) (by omega)) ?_
      repeat refine fx_n rfl ?_
      exact fx_r rfl rfl ⟨rfl, rfl⟩
    | succ j ih =>
      intro i y hi
      refine fx_bf rfl (nI_ge (by omega) (by omega)) ?_
      repeat refine fx_n rfl ?_
      refine fx_g rfl (by decide) ?_
      repeat refine fx_n rfl ?_
      refine fx_g rfl (ix_nI (by omega) (by omega)) ?_
      rw [nI_cl (by omega)]
      by_cases q : lot y < M 45 h
      · rw [show thF (M 45 h) (j + 1) i y = thF (M 45 h) j (i + 1) (1103515245 * y + 12345) from if_pos q]
        refine fx_bt rfl q ?_
        repeat refine fx_n rfl ?_
        rw [nI_1]
        exact ih (i + 1) _ (by omega)
      · rw [show thF (M 45 h) (j + 1) i y = nI i from if_neg q]
        refine fx_bf rfl q ?_
        repeat refine fx_n rfl ?_
        exact fx_r rfl rfl ⟨rfl, rfl⟩
  refine ev_of ?_
  repeat refine fx_n rfl ?_
  exact loop n 0 x (by omega)
def tfS (G : Nat → Nat) (h x n : Int32) : Int32 := cond (inR h 0 7 && inR n 0 200) (thF (nI (G h.toNatClampNeg)) n.toNatClampNeg 0 x) (-2)
set_option maxRecDepth 100000 in
set_option maxHeartbeats 4000000 in
theorem ev_thief (d : Nat) (M : sy_Mm) (G : Nat → Nat) (h x n : Int32) (hG : ∀ h, h < 8 → G h ≤ 16 ∧ M 20 h = nI (G h)) : Ev (d + 1) i_X7_thief [.ref 0, .int h, .int x, .int n] M (some (.int (tfS G h x n))) M := by
  refine ev_of ?_
  unfold tfS
  repeat refine fx_n rfl ?_
  refine fx_p rfl (ev_isHouse _ _ _) (fx_ze rfl (fun g1 => by ((repeat refine fx_n rfl ?_); exact fx_r rfl rfl ⟨by simp [g1, zb_f], rfl⟩)) (fun g1 => ?_))
  repeat refine fx_n rfl ?_
  refine fx_p rfl (ev_wi _ _ _ _ 200 rfl) (fx_zn rfl (fun g2 => ?_) (fun g2 => by ((repeat refine fx_n rfl ?_); exact fx_r rfl rfl ⟨by simp [g2, zb_f], rfl⟩)))
  obtain ⟨q, hq, rfl⟩ := inR_nI (b := 7) g1
  obtain ⟨m, hm, rfl⟩ := inR_nI (b := 200) g2
  rw [g1, g2, nI_cl (by omega), nI_cl (by omega)]
  repeat refine fx_n rfl ?_
  refine fx_p rfl (ev_nightOfTheft _ _ q m x (by omega) hm) ?_
  rw [(hG q (by omega)).2]
  exact fx_r rfl rfl ⟨rfl, rfl⟩
set_option maxRecDepth 100000 in
set_option maxHeartbeats 4000000 in
theorem ag_thief {M : sy_Mm} (h : Inv M) (s x n : Int32) : AG i_X7_thief i_X8_thief [.int s, .int x, .int n] M := by
  intro d
  obtain ⟨nn, E, ne, L, B, nb, G, F, h1, h2, h3, h4, h5, h6, h7⟩ := id h
  refine fx_w (ex_of (ev_thief _ M G s x n (fun q hq => ⟨(h5 q hq).1, (h5 q hq).2.1⟩))) ?_
  rintro _ N0 ⟨rfl, hN0⟩
  rw [hN0]
  refine ⟨⟨_, rfl⟩, ?_⟩
  unfold Ex tfS
  repeat refine fx_n rfl ?_
  refine fx_p rfl (em_isHouse _ _ _) (fx_ze rfl (fun g1 => by ((repeat refine fx_n rfl ?_); exact fx_r rfl rfl ⟨by simp [g1, zb_f], h⟩)) (fun g1 => ?_))
  repeat refine fx_n rfl ?_
  refine fx_p rfl (em_ir _ _ _ _ _ 0 200 rfl rfl) (fx_ze rfl (fun g2 => by ((repeat refine fx_n rfl ?_); exact fx_r rfl rfl ⟨by simp [g2, zb_f], h⟩)) (fun g2 => ?_))
  obtain ⟨q, hq, rfl⟩ := inR_nI (b := 7) g1
  obtain ⟨m, hm, rfl⟩ := inR_nI (b := 200) g2
  rw [g1, g2, nI_cl (by omega), nI_cl (by omega)]
  repeat refine fx_n rfl ?_
  refine fx_p rfl (em_thiefOf _ _ q m x (by omega) hm) ?_
  rw [(h5 q (by omega)).2.2]
  repeat refine fx_n rfl ?_
  exact fx_r rfl rfl ⟨rfl, h⟩
/-! robs -/
def rbW (L w i : Nat) : Int32 := if i % w < L then nI (i / w % 2) else 2
def rbF (L w : Nat) (x : Int32) : Nat → Nat
  | 0 => 0
  | n + 1 => rbF L w x n + if rbW L w n = x then 1 else 0
def rbS (L : Nat) (w n x : Int32) : Int32 := cond (inR w 1 30 && (inR n 1 200 && inR x 0 2)) (nI (rbF L w.toNatClampNeg x n.toNatClampNeg)) (-2)
theorem rem_nI {a b : Nat} (ha : a < 2 ^ 31) (h0 : 0 < b) (hb : b < 2 ^ 31) : nI a - nI a / nI b * nI b = nI (a % b) := pk_rem ha h0 hb
set_option maxRecDepth 100000 in
set_option maxHeartbeats 4000000 in
theorem ev_robs (d : Nat) (M : sy_Mm) (L : Nat) (w n x : Int32) (hL : L ≤ 99) (h6 : M 9 6 = nI L) : Ev (d + 1) i_X7_robs [.ref 0, .int w, .int n, .int x] M (some (.int (rbS L w n x))) M := by
  refine ev_of ?_
  unfold rbS
  have bad : (inR w 1 30 && (inR n 1 200 && inR x 0 2)) = false → Fx (d + 1) i_X7_robs 31 [some (.ref 0), some (.int w), some (.int n), some (.int x), none, none, none, none] [] M (fun r N => r = some (.int (cond (inR w 1 30 && (inR n 1 200 && inR x 0 2)) (nI (rbF L w.toNatClampNeg x n.toNatClampNeg)) (-2))) ∧ N = M) := by
    intro g
    rw [g]
    repeat refine fx_n rfl ?_
    exact fx_r rfl rfl ⟨rfl, rfl⟩
  repeat refine fx_n rfl ?_
  refine fx_b rfl (fun q => bad (by rw [show inR w 1 30 = false from inR_f.mpr (by rw [Int32.lt_iff_toInt_lt] at q; simp at q; omega)]; rfl)) (fun q1 => ?_)
  repeat refine fx_n rfl ?_
  refine fx_b rfl (fun q => bad (by rw [show inR w 1 30 = false from inR_f.mpr (by rw [Int32.lt_iff_toInt_lt] at q; simp at q; omega)]; rfl)) (fun q2 => ?_)
  repeat refine fx_n rfl ?_
  refine fx_b rfl (fun q => bad (by rw [show inR n 1 200 = false from inR_f.mpr (by rw [Int32.lt_iff_toInt_lt] at q; simp at q; omega)]; simp)) (fun q3 => ?_)
  repeat refine fx_n rfl ?_
  refine fx_b rfl (fun q => bad (by rw [show inR n 1 200 = false from inR_f.mpr (by rw [Int32.lt_iff_toInt_lt] at q; simp at q; omega)]; simp)) (fun q4 => ?_)
  have g1 : inR w 1 30 = true := inR_t.mpr (by rw [Int32.lt_iff_toInt_lt] at q1 q2; simp at q1 q2; omega)
  have g2 : inR n 1 200 = true := inR_t.mpr (by rw [Int32.lt_iff_toInt_lt] at q3 q4; simp at q3 q4; omega)
  repeat refine fx_n rfl ?_
  refine fx_p rfl (ev_wi _ _ _ _ 2 rfl) (fx_zn rfl (fun g3 => ?_) (fun g3 => bad (by simp [g3])))
  obtain ⟨W, hW1, hW2, rfl⟩ := inR_1 (b := 30) (by omega) g1
  obtain ⟨m, hm1, hm2, rfl⟩ := inR_1 (b := 200) (by omega) g2
  rw [g1, g2, g3, nI_cl (by omega), nI_cl (by omega)]
  simp only [Bool.and_self, cond_true]
  have loop : ∀ j i (y z : Option Value), i + j = m → Fx (d + 1) i_X7_robs 43 [some (.ref 0), some (.int (nI W)), some (.int (nI m)), some (.int x), some (.int (nI (rbF L W x i))), some (.int (nI i)), y, z] [.int (nI m), .int (nI i)] M (fun r N => r = some (.int (nI (rbF L W x m))) ∧ N = M) := by
    intro j
    induction j with
    | zero =>
      intro i y z hi
      have e : i = m := by omega
      subst e
      refine fx_bt rfl (nI_le (by omega) (by omega)) ?_
      repeat refine fx_n rfl ?_
      exact fx_r rfl rfl ⟨rfl, rfl⟩
    | succ j ih =>
      intro i y z hi
      refine fx_bf rfl (nI_ge (by omega) (by omega)) ?_
      repeat refine fx_n rfl ?_
      refine fx_g rfl (nI_ne0 (by omega) (by omega)) ?_
      rw [rem_nI (by omega) (by omega) (by omega)]
      repeat refine fx_n rfl ?_
      rw [h6]
      have hmod : i % W < W := Nat.mod_lt _ (by omega)
      have hdv : i / W ≤ i := Nat.div_le_self _ _
      have fin : ∀ (b v : Int32), v = rbW L W i → Fx (d + 1) i_X7_robs 87 [some (.ref 0), some (.int (nI W)), some (.int (nI m)), some (.int x), some (.int (nI (rbF L W x i))), some (.int (nI i)), some (.int b), some (.int v)] [.int x, .int v] M (fun r N => r = some (.int (nI (rbF L W x m))) ∧ N = M) := by
        intro b v hv
        have i2 := ih (i + 1) (some (.int b)) (some (.int v)) (by omega)
        rw [show rbF L W x (i + 1) = rbF L W x i + (if rbW L W i = x then 1 else 0) from rfl] at i2
        by_cases q : v = x
        · refine fx_bf rfl (fun z => z q) ?_
          repeat refine fx_n rfl ?_
          rw [if_pos (hv.symm.trans q)] at i2
          rw [nI_1, nI_1]
          exact i2
        · refine fx_bt rfl q ?_
          repeat refine fx_n rfl ?_
          rw [if_neg (fun z => q (hv.trans z)), Nat.add_zero] at i2
          rw [nI_1]
          exact i2
      by_cases hl : i % W < L
      · refine fx_bf rfl (nI_ge hl (by omega)) ?_
        repeat refine fx_n rfl ?_
        refine fx_bf rfl (by decide) ?_
        repeat refine fx_n rfl ?_
        refine fx_g rfl (nI_ne0 (by omega) (by omega)) ?_
        rw [pk_div (by omega) (by omega) (by omega)]
        repeat refine fx_n rfl ?_
        refine fx_g rfl (by decide) ?_
        rw [rem2 (by omega)]
        repeat refine fx_n rfl ?_
        exact fin _ _ (by unfold rbW; rw [if_pos hl])
      · refine fx_bt rfl (nI_le (by omega) (by omega)) ?_
        repeat refine fx_n rfl ?_
        refine fx_bt rfl (by decide) ?_
        repeat refine fx_n rfl ?_
        exact fin _ _ (by unfold rbW; rw [if_neg hl])
  repeat refine fx_n rfl ?_
  exact loop m 0 _ _ (by omega)
set_option maxRecDepth 100000 in
set_option maxHeartbeats 4000000 in
theorem em_robsOf (d : Nat) (M : sy_Mm) (L W m : Nat) (x : Int32) (hL : L ≤ 99) (hW1 : 1 ≤ W) (hW2 : W ≤ 30) (hm : m ≤ 200) (h6 : M 30 11 = nI L) : Ev d i_X8_robsOf [.ref 30, .int (nI W), .int (nI m), .int x] M (some (.int (nI (rbF L W x m)))) M := by
  have loop : ∀ j i (z : Option Value), i + j = m → Fx d i_X8_robsOf 9 [some (.ref 30), some (.int (nI W)), some (.int (nI m)), some (.int x), some (.int (nI (rbF L W x i))), some (.int (nI i)), z] [.int (nI m), .int (nI i)] M (fun r N => r = some (.int (nI (rbF L W x m))) ∧ N = M) := by
    intro j
    induction j with
    | zero =>
      intro i z hi
      have e : i = m := by omega
      subst e
      refine fx_bt rfl (nI_le (by omega) (by omega)) ?_
      repeat refine fx_n rfl ?_
      exact fx_r rfl rfl ⟨rfl, rfl⟩
    | succ j ih =>
      intro i z hi
      refine fx_bf rfl (nI_ge (by omega) (by omega)) ?_
      repeat refine fx_n rfl ?_
      refine fx_g rfl (nI_ne0 (by omega) (by omega)) ?_
      rw [rem_nI (by omega) (by omega) (by omega)]
      repeat refine fx_n rfl ?_
      rw [h6]
      have hmod : i % W < W := Nat.mod_lt _ (by omega)
      have hdv : i / W ≤ i := Nat.div_le_self _ _
      have fin : ∀ (v : Int32), v = rbW L W i → Fx d i_X8_robsOf 40 [some (.ref 30), some (.int (nI W)), some (.int (nI m)), some (.int x), some (.int (nI (rbF L W x i))), some (.int (nI i)), some (.int v)] [.int x, .int v, .int (nI (rbF L W x i))] M (fun r N => r = some (.int (nI (rbF L W x m))) ∧ N = M) := by
        intro v hv
        have i2 := ih (i + 1) (some (.int v)) (by omega)
        rw [show rbF L W x (i + 1) = rbF L W x i + (if rbW L W i = x then 1 else 0) from rfl] at i2
        by_cases q : v = x
        · refine fx_bf rfl (fun z => z q) ?_
          repeat refine fx_n rfl ?_
          rw [if_pos (hv.symm.trans q)] at i2
          rw [nI_1, nI_1]
          exact i2
        · refine fx_bt rfl q ?_
          repeat refine fx_n rfl ?_
          rw [if_neg (fun z => q (hv.trans z)), Nat.add_zero] at i2
          rw [nI_1, Int32.add_zero]
          exact i2
      by_cases hl : i % W < L
      · refine fx_bf rfl (nI_ge hl (by omega)) ?_
        repeat refine fx_n rfl ?_
        refine fx_g rfl (nI_ne0 (by omega) (by omega)) ?_
        rw [pk_div (by omega) (by omega) (by omega)]
        repeat refine fx_n rfl ?_
        refine fx_g rfl (by decide) ?_
        rw [rem2 (by omega)]
        repeat refine fx_n rfl ?_
        exact fin _ (by unfold rbW; rw [if_pos hl])
      · refine fx_bt rfl (nI_le (by omega) (by omega)) ?_
        repeat refine fx_n rfl ?_
        exact fin _ (by unfold rbW; rw [if_neg hl])
  refine ev_of ?_
  repeat refine fx_n rfl ?_
  exact loop m 0 _ (by omega)
set_option maxRecDepth 100000 in
set_option maxHeartbeats 4000000 in
theorem ag_robs {M : sy_Mm} (h : Inv M) (w n x : Int32) : AG i_X7_robs i_X8_robs [.int w, .int n, .int x] M := by
  intro d
  obtain ⟨nn, E, ne, L, B, nb, G, F, h1, h2, h3, h4, h5, h6, h7⟩ := id h
  refine fx_w (ex_of (ev_robs _ M L w n x h3.2.2.2 h3.1)) ?_
  rintro _ N0 ⟨rfl, hN0⟩
  rw [hN0]
  refine ⟨⟨_, rfl⟩, ?_⟩
  unfold Ex rbS
  repeat refine fx_n rfl ?_
  refine fx_p rfl (em_ir _ _ _ _ _ 1 30 rfl rfl) (fx_ze rfl (fun g1 => by ((repeat refine fx_n rfl ?_); exact fx_r rfl rfl ⟨by simp [g1, zb_f], h⟩)) (fun g1 => ?_))
  repeat refine fx_n rfl ?_
  refine fx_p rfl (em_ir _ _ _ _ _ 1 200 rfl rfl) (fx_ze rfl (fun g2 => by ((repeat refine fx_n rfl ?_); exact fx_r rfl rfl ⟨by simp [g2, zb_f], h⟩)) (fun g2 => ?_))
  repeat refine fx_n rfl ?_
  refine fx_p rfl (em_ir _ _ _ _ _ 0 2 rfl rfl) (fx_ze rfl (fun g3 => by ((repeat refine fx_n rfl ?_); exact fx_r rfl rfl ⟨by simp [g3, zb_f], h⟩)) (fun g3 => ?_))
  obtain ⟨W, hW1, hW2, rfl⟩ := inR_1 (b := 30) (by omega) g1
  obtain ⟨m, hm1, hm2, rfl⟩ := inR_1 (b := 200) (by omega) g2
  rw [g1, g2, g3, nI_cl (by omega), nI_cl (by omega)]
  repeat refine fx_n rfl ?_
  refine fx_p rfl (em_robsOf _ _ L W m x h3.2.2.2 hW1 hW2 hm2 h3.2.1) ?_
  repeat refine fx_n rfl ?_
  exact fx_r rfl rfl ⟨rfl, h⟩
end
section
/-! ===== sheets ===== -/
theorem Inv.fnd {M : sy_Mm} (h : Inv M) (v : Int32) : Inv (sy_up (sy_up M 0 7 v) 30 4 v) := by
  obtain ⟨n, E, ne, L, B, nb, G, F, h1, h2, h3, h4, h5, h6, h7⟩ := h
  refine ⟨n, E, ne, L, B, nb, G, F, h1.cg rfl rfl rfl rfl, h2.cg rfl rfl rfl rfl rfl rfl rfl rfl, h3.cg rfl rfl, h4.cg rfl rfl rfl rfl rfl rfl, h5.cg rfl rfl, h6.cg ?_, rfl⟩
  intro z z1 z2 z3
  rw [up_k z3, up_k (by omega)]
theorem iSht.st {M N : sy_Mm} {F : Nat → Option (Nat × Nat)} {s : Nat} (h : iSht M F) (o : Option (Nat × Nat)) (hk : ∀ k, 22 ≤ k → k < 30 → k ≠ 22 + 2 * s → k ≠ 23 + 2 * s → N k = M k) (h31 : ∀ q, q ≠ s → N 31 q = M 31 q) (h32 : ∀ q, q ≠ s → N 32 q = M 32 q) (h33 : ∀ q, q < 60 * s ∨ 60 * s + 60 ≤ q → N 33 q = M 33 q) (hs : iSh1 N s o) : iSht N (fun q => if q = s then o else F q) := by
  intro q hq
  by_cases e : q = s
  · subst e
    simp only [if_true]
    exact hs
  · have h1 := h q hq
    simp only [e, if_false]
    unfold iSh1 at h1 ⊢
    rw [hk (22 + 2 * q) (by omega) (by omega) (by omega) (by omega), hk (23 + 2 * q) (by omega) (by omega) (by omega) (by omega), h31 q e, h32 q e]
    cases hF : F q with
    | none => rw [hF] at h1; exact h1
    | some fz =>
      rw [hF] at h1
      obtain ⟨a1, a2, a3, a4, a5, a6, a7⟩ := h1
      refine ⟨a1, a2, a3, a4, a5, a6, fun j hj => ?_⟩
      rw [h33 _ (by omega)]
      exact a7 j hj
set_option maxRecDepth 100000 in
set_option maxHeartbeats 4000000 in
theorem ev_isForm (d : Nat) (M : sy_Mm) (v : Int32) : Ev (d + 1) i_X3_isForm [.int v] M (some (.int (zb (inR v 0 2)))) M := by
  refine ev_of ?_
  repeat refine fx_n rfl ?_
  refine fx_p rfl (ev_wi _ _ _ _ 2 rfl) ?_
  exact fx_r rfl (zb_ok _) ⟨rfl, rfl⟩
set_option maxRecDepth 100000 in
set_option maxHeartbeats 4000000 in
theorem ev_isLost (d : Nat) (M : sy_Mm) (s : Nat) (hs : s < 4) : Ev d i_X3_isLost [.ref (22 + 2 * s)] M (some (.int (zb (decide (M (22 + 2 * s) 1 = -1))))) M := by
  rcases (show s = 0 ∨ s = 1 ∨ s = 2 ∨ s = 3 by omega) with rfl | rfl | rfl | rfl
  all_goals
    refine ev_of ?_
    repeat' (first | refine fx_n rfl ?_ | refine fx_b rfl (fun _ => ?_) (fun _ => ?_) | refine fx_r rfl rfl ?_)
    all_goals
      refine ⟨?_, rfl⟩
      simp_all [zb]
def sheetN (M N : sy_Mm) (s : Nat) (f n : Int32) : Prop := N (22 + 2 * s) 1 = f ∧ N (22 + 2 * s) 2 = n ∧ (∀ j, j < 60 → N (23 + 2 * s) j = 0) ∧ ∀ k, k ≠ 22 + 2 * s → k ≠ 23 + 2 * s → N k = M k
set_option maxRecDepth 100000 in
set_option maxHeartbeats 4000000 in
theorem ex_shbegin (d : Nat) (M : sy_Mm) (s : Nat) (f n : Int32) (hs : s < 4) : Ex d i_X3_begin [.ref (22 + 2 * s), .int f, .int n] M (fun r N => r = some (.int n) ∧ sheetN M N s f n) := by
  rcases (show s = 0 ∨ s = 1 ∨ s = 2 ∨ s = 3 by omega) with rfl | rfl | rfl | rfl
  all_goals
    have loop : ∀ (p : Nat), (p = 22 ∨ p = 24 ∨ p = 26 ∨ p = 28) → ∀ (s : Nat), p = 22 + 2 * s → ∀ (j i : Nat) (M1 : sy_Mm), i + j = 60 → M1 p 1 = f → M1 p 2 = n → (∀ q, q < i → M1 (p + 1) q = 0) → (∀ k, k ≠ p → k ≠ p + 1 → M1 k = M k) → Fx d i_X3_begin 15 [some (.ref p), some (.int f), some (.int n), some (.int (nI i))] [.int 60, .int (nI i)] M1 (fun r N => r = some (.int n) ∧ sheetN M N s f n) := by
      intro p hp s hps j
      induction j with
      | zero =>
        intro i M1 hi h1 h2 h3 h4
        have e : i = 60 := by omega
        subst e
        have fin : sheetN M M1 s f n := by
          unfold sheetN
          rw [← hps, show 23 + 2 * s = p + 1 by omega]
          exact ⟨h1, h2, h3, h4⟩
        rcases hp with rfl | rfl | rfl | rfl
        all_goals
          refine fx_bt rfl (by decide) ?_
          repeat refine fx_n rfl ?_
          exact fx_r rfl rfl ⟨rfl, fin⟩
      | succ j ih =>
        intro i M1 hi h1 h2 h3 h4
        have i2 := ih (i + 1) (sy_up M1 (p + 1) i 0) (by omega) (by rw [up_k (by omega)]; exact h1) (by rw [up_k (by omega)]; exact h2) (fun q hq => by
          by_cases e : q = i
          · rw [e, up_s]
          · rw [up_j e]; exact h3 q (by omega)) (fun k k1 k2 => by rw [up_k k2]; exact h4 k k1 k2)
        rcases hp with rfl | rfl | rfl | rfl
        all_goals
          refine fx_bf rfl (nI_ge (b := 60) (by omega) (by omega)) ?_
          repeat refine fx_n rfl ?_
          refine fx_g rfl (ix_nI (by omega) (by omega)) ?_
          rw [nI_cl (by omega)]
          repeat refine fx_n rfl ?_
          rw [nI_1]
          exact i2
    unfold Ex
    repeat refine fx_n rfl ?_
    refine loop _ (by omega) _ rfl 60 0 _ (by omega) rfl rfl (fun q hq => by omega) (fun k k1 k2 => ?_)
    rw [up_k k1, up_k k1]
theorem sx_nI (s : Nat) : (60 : Int32) * nI s = nI (60 * s) := pk_mul 60 s
/-- a place of the four -/
theorem four {Q : Nat → Prop} (h0 : Q 0) (h1 : Q 1) (h2 : Q 2) (h3 : Q 3) {s : Nat} (hs : s < 4) : Q s := co_4 h0 h1 h2 h3 hs
set_option maxRecDepth 100000 in
set_option maxHeartbeats 4000000 in
theorem ag_sheet {M : sy_Mm} (h : Inv M) (x f n : Int32) : AG i_X7_sheet i_X8_sheet [.int x, .int f, .int n] M := by
  intro d
  obtain ⟨nn, E, ne, L, B, nb, G, F, h1, h2, h3, h4, h5, h6, h7⟩ := id h
  have modTo : inR x 0 3 = true → inR f 0 2 = true → n ≤ 60 → ∀ (N : sy_Mm) (P : Option Value → sy_Mm → Prop), Fx (d + 30) i_X8_sheet 29 [some (.ref 30), some (.int x), some (.int f), some (.int n), none] [.int n] N P → Fx (d + 30) i_X8_sheet 0 (sy_en i_X8_sheet [.ref 30, .int x, .int f, .int n]) [] N P := by
    intro g1 g2 g3 N P kk
    repeat refine fx_n rfl ?_
    refine fx_p rfl (em_isSheet _ _ _) (fx_ze rfl (fun z => by rw [g1] at z; cases z) (fun _ => ?_))
    repeat refine fx_n rfl ?_
    refine fx_p rfl (em_ir _ _ _ _ _ 0 2 rfl rfl) (fx_ze rfl (fun z => by rw [g2] at z; cases z) (fun _ => ?_))
    repeat refine fx_n rfl ?_
    refine fx_bt rfl g3 ?_
    repeat refine fx_n rfl ?_
    exact kk
  have modBad : (inR x 0 3 = false ∨ inR f 0 2 = false ∨ ¬ n ≤ 60) → ∀ r : Option Value, r = some (.int (-2)) → Fx (d + 30) i_X8_sheet 0 (sy_en i_X8_sheet [.ref 30, .int x, .int f, .int n]) [] M (fun r' N' => r' = r ∧ Inv N') := by
    intro gg r hr
    subst hr
    repeat refine fx_n rfl ?_
    refine fx_p rfl (em_isSheet _ _ _) (fx_ze rfl (fun g1 => by ((repeat refine fx_n rfl ?_); exact fx_r rfl rfl ⟨by simp [g1, zb_f], h⟩)) (fun g1 => ?_))
    repeat refine fx_n rfl ?_
    refine fx_p rfl (em_ir _ _ _ _ _ 0 2 rfl rfl) (fx_ze rfl (fun g2 => by ((repeat refine fx_n rfl ?_); exact fx_r rfl rfl ⟨by simp [g2, zb_f], h⟩)) (fun g2 => ?_))
    repeat refine fx_n rfl ?_
    refine fx_b rfl (fun g3 => ?_) (fun g3 => ?_)
    · rcases gg with z | z | z
      · rw [g1] at z; cases z
      · rw [g2] at z; cases z
      · exact absurd g3 z
    · repeat refine fx_n rfl ?_
      exact fx_r rfl rfl ⟨rfl, h⟩
  unfold Ex
  repeat refine fx_n rfl ?_
  refine fx_p rfl (ev_isSheet _ _ _) (fx_ze rfl (fun g1 => by ((repeat refine fx_n rfl ?_); exact fx_r rfl rfl ⟨⟨_, rfl⟩, modBad (Or.inl g1) _ rfl⟩)) (fun g1 => ?_))
  repeat refine fx_n rfl ?_
  refine fx_p rfl (ev_isForm _ _ _) (fx_ze rfl (fun g2 => by ((repeat refine fx_n rfl ?_); exact fx_r rfl rfl ⟨⟨_, rfl⟩, modBad (Or.inr (Or.inl g2)) _ rfl⟩)) (fun g2 => ?_))
  repeat refine fx_n rfl ?_
  refine fx_b rfl (fun g3 => ?_) (fun g3 => by ((repeat refine fx_n rfl ?_); exact fx_r rfl rfl ⟨⟨_, rfl⟩, modBad (Or.inr (Or.inr g3)) _ rfl⟩))
  repeat refine fx_n rfl ?_
  refine fx_b rfl (fun g4 => ?_) (fun g4 => ?_)
  · obtain ⟨s, hs, rfl⟩ := inR_nI (b := 3) g1
    obtain ⟨z, hz, rfl⟩ := inR_nI (x := n) (b := 60) (inR_t.mpr (by rw [Int32.le_iff_toInt_le] at g3 g4; simp at g3 g4; omega))
    obtain ⟨fm, hf, rfl⟩ := inR_nI (b := 2) g2
    have cls : ∀ Q : Option Value → sy_Mm → Prop, (∀ N, sheetN M N s (nI fm) (nI z) → Q (some (.int (nI z))) N) → Fx (d + 30) i_X7_sheet 40 [some (.ref 0), some (.int (nI s)), some (.int (nI fm)), some (.int (nI z))] [.int (nI s), .ref 21] M Q := by
      intro Q hQ
      have hb := fun d => ex_shbegin d M s (nI fm) (nI z) (by omega)
      rcases (show s = 0 ∨ s = 1 ∨ s = 2 ∨ s = 3 by omega) with rfl | rfl | rfl | rfl
      all_goals
        refine fx_g rfl (by decide) ?_
        repeat refine fx_n rfl ?_
        refine fx_c rfl (hb _) ?_
        rintro _ N ⟨rfl, hN⟩
        exact fx_r rfl rfl (hQ N hN)
    repeat refine fx_n rfl ?_
    refine cls _ (fun N hN => ⟨⟨_, rfl⟩, modTo g1 g2 g3 N _ ?_⟩)
    obtain ⟨n1, n2, n3, n4⟩ := hN
    refine fx_bt rfl g4 ?_
    repeat refine fx_n rfl ?_
    refine fx_g rfl (ix_nI (by omega) (by omega)) ?_
    rw [nI_cl (by omega)]
    repeat refine fx_n rfl ?_
    refine fx_g rfl (ix_nI (by omega) (by omega)) ?_
    rw [nI_cl (by omega)]
    repeat refine fx_n rfl ?_
    have loop : ∀ (j i : Nat) (M1 : sy_Mm), i + j = z → (∀ q, q < i → M1 33 (60 * s + q) = 0) → (∀ q, q < 60 * s ∨ 60 * s + 60 ≤ q → M1 33 q = M 33 q) → (∀ k, k ≠ 33 → M1 k = (sy_up (sy_up N 31 s (nI fm)) 32 s (nI z)) k) → Fx (d + 30) i_X8_sheet 58 [some (.ref 30), some (.int (nI s)), some (.int (nI fm)), some (.int (nI z)), some (.int (nI i))] [.int (nI z), .int (nI i)] M1 (fun r' N' => r' = some (.int (nI z)) ∧ Inv N') := by
      intro j
      induction j with
      | zero =>
        intro i M1 hi c1 c2 c3
        have e : i = z := by omega
        subst e
        refine fx_bt rfl (nI_le (Nat.le_refl _) (by omega)) ?_
        repeat refine fx_n rfl ?_
        have cK : ∀ k, k ≠ 33 → k ≠ 32 → k ≠ 31 → k ≠ 22 + 2 * s → k ≠ 23 + 2 * s → M1 k = M k := fun k k1 k2 k3 k4 k5 => by rw [c3 k k1, up_k k2, up_k k3, n4 k k4 k5]
        have r30 : M1 30 = M 30 := cK 30 (by omega) (by omega) (by omega) (by omega) (by omega)
        refine fx_r rfl rfl ⟨rfl, nn, E, ne, L, B, nb, G, _, h1.cg ?_ ?_ ?_ ?_, h2.cg ?_ ?_ ?_ ?_ ?_ ?_ ?_ ?_, h3.cg ?_ ?_, h4.cg ?_ ?_ ?_ ?_ ?_ ?_, h5.cg ?_ ?_, h6.st (s := s) (some (fm, i)) (fun k k1 k2 k3 k4 => cK k (by omega) (by omega) (by omega) k3 k4) ?_ ?_ c2 ?_, ?_⟩
        all_goals (first | (rw [r30]; done) | (exact cK _ (by omega) (by omega) (by omega) (by omega) (by omega)) | (exact congrFun (cK _ (by omega) (by omega) (by omega) (by omega) (by omega)) _) | skip)
        · intro q hq; rw [c3 31 (by omega), up_k (by omega), up_j hq, n4 31 (by omega) (by omega)]
        · intro q hq; rw [c3 32 (by omega), up_j hq, up_k (by omega), n4 32 (by omega) (by omega)]
        · refine ⟨hf, hz, ?_, ?_, ?_, ?_, ?_⟩
          · rw [c3 _ (by omega), up_k (by omega), up_k (by omega)]; exact n1
          · rw [c3 _ (by omega), up_k (by omega), up_k (by omega)]; exact n2
          · rw [c3 31 (by omega), up_k (by omega), up_s]
          · rw [c3 32 (by omega), up_s]
          · intro j hj
            rw [c1 j hj, c3 _ (by omega), up_k (by omega), up_k (by omega)]
            exact (n3 j (by omega)).symm
        · rw [r30, cK 0 (by omega) (by omega) (by omega) (by omega) (by omega)]; exact h7
      | succ j ih =>
        intro i M1 hi c1 c2 c3
        refine fx_bf rfl (nI_ge (by omega) (by omega)) ?_
        repeat refine fx_n rfl ?_
        rw [sx_nI, nI_add]
        refine fx_g rfl (ix_nI (by omega) (by omega)) ?_
        rw [nI_cl (by omega)]
        repeat refine fx_n rfl ?_
        rw [nI_1]
        refine ih (i + 1) _ (by omega) (fun q hq => ?_) (fun q hq => ?_) (fun k hk => ?_)
        · by_cases e : q = i
          · rw [e, up_s]
          · rw [up_j (by omega)]; exact c1 q (by omega)
        · rw [up_j (by omega)]; exact c2 q hq
        · rw [up_k hk]; exact c3 k hk
    refine loop z 0 _ (by omega) (fun q hq => by omega) (fun q hq => ?_) (fun k hk => rfl)
    rw [up_k (by omega), up_k (by omega), n4 33 (by omega) (by omega)]
  · repeat refine fx_n rfl ?_
    refine fx_c rfl (ex_of (ev_found _ _ _)) ?_
    rintro _ _ ⟨rfl, rfl⟩
    repeat refine fx_n rfl ?_
    refine fx_r rfl rfl ⟨⟨_, rfl⟩, modTo g1 g2 g3 _ _ ?_⟩
    refine fx_bf rfl g4 ?_
    repeat refine fx_n rfl ?_
    refine fx_c rfl (ex_of (em_met _ _ _)) ?_
    rintro _ _ ⟨rfl, rfl⟩
    exact fx_r rfl rfl ⟨rfl, h.fnd 5⟩
/-- which finding keeps item i from being used as of a form; 0 for none -/
def flS (o : Option (Nat × Nat)) (f i : Int32) : Nat := match o with
  | none => 1
  | some (g, z) => if f = nI g then cond (inR i 0 ((z : Int) - 1)) 0 2 else 3
theorem flS_lt (o : Option (Nat × Nat)) (f i : Int32) : flS o f i < 4 := by
  unfold flS
  split
  · omega
  · split
    · cases inR i 0 _ <;> decide
    · omega
theorem flS_0 {o : Option (Nat × Nat)} {f i : Int32} (h : flS o f i = 0) : ∃ g z : Nat, o = some (g, z) ∧ f = nI g ∧ inR i 0 ((z : Int) - 1) = true := by
  cases o with
  | none => cases h
  | some q =>
    obtain ⟨g, z⟩ := q
    simp only [flS] at h
    split at h
    · rename_i e
      refine ⟨g, z, rfl, e, ?_⟩
      cases q : inR i 0 ((z : Int) - 1) with
      | true => rfl
      | false => rw [q] at h; cases h
    · cases h
set_option maxRecDepth 100000 in
set_option maxHeartbeats 4000000 in
theorem ev_flawOf (d : Nat) (M : sy_Mm) (s : Nat) (o : Option (Nat × Nat)) (f i : Int32) (hs : s < 4) (h : iSh1 M s o) : Ev (d + 1) i_X3_flawOf [.ref (22 + 2 * s), .int f, .int i] M (some (.int (nI (flS o f i)))) M := by
  have hl := fun d => ev_isLost d M s hs
  cases o with
  | none =>
    obtain ⟨a1, a2, a3⟩ := h
    rw [a1] at hl
    rcases (show s = 0 ∨ s = 1 ∨ s = 2 ∨ s = 3 by omega) with rfl | rfl | rfl | rfl
    all_goals
      refine ev_of ?_
      repeat refine fx_n rfl ?_
      refine fx_p rfl (hl _) ?_
      refine fx_bf rfl (by decide) ?_
      repeat refine fx_n rfl ?_
      exact fx_r rfl rfl ⟨rfl, rfl⟩
  | some q =>
    obtain ⟨g, z⟩ := q
    obtain ⟨a1, a2, a3, a4, -⟩ := h
    have ht : (nI z).toInt = (z : Int) := nI_toInt (by omega)
    rw [a3, decide_eq_false (nI_ne_m1 (by omega))] at hl
    simp only [flS]
    rcases (show s = 0 ∨ s = 1 ∨ s = 2 ∨ s = 3 by omega) with rfl | rfl | rfl | rfl
    all_goals
      refine ev_of ?_
      repeat refine fx_n rfl ?_
      refine fx_p rfl (hl _) ?_
      refine fx_bt rfl (by decide) ?_
      repeat refine fx_n rfl ?_
      by_cases hf : f = nI g
      · rw [if_pos hf]
        refine fx_bt rfl (hf.trans a3.symm) ?_
        repeat refine fx_n rfl ?_
        refine fx_b rfl (fun q => ?_) (fun q => ?_)
        · rw [show inR i 0 ((z : Int) - 1) = false from inR_f.mpr (by rw [Int32.lt_iff_toInt_lt] at q; simp at q; omega)]
          repeat refine fx_n rfl ?_
          exact fx_r rfl rfl ⟨rfl, rfl⟩
        · repeat refine fx_n rfl ?_
          refine fx_b rfl (fun q2 => ?_) (fun q2 => ?_)
          · have q3 : nI z ≤ i := by rw [← a4]; exact q2
            rw [show inR i 0 ((z : Int) - 1) = false from inR_f.mpr (by rw [Int32.le_iff_toInt_le, ht] at q3; omega)]
            repeat refine fx_n rfl ?_
            exact fx_r rfl rfl ⟨rfl, rfl⟩
          · have q3 : ¬ nI z ≤ i := by rw [← a4]; exact q2
            rw [show inR i 0 ((z : Int) - 1) = true from inR_t.mpr (by rw [Int32.lt_iff_toInt_lt] at q; rw [Int32.le_iff_toInt_le, ht] at q3; simp at q; omega)]
            repeat refine fx_n rfl ?_
            exact fx_r rfl rfl ⟨rfl, rfl⟩
      · rw [if_neg hf]
        refine fx_bf rfl (fun z => hf (z.trans a3)) ?_
        repeat refine fx_n rfl ?_
        exact fx_r rfl rfl ⟨rfl, rfl⟩
set_option maxRecDepth 100000 in
set_option maxHeartbeats 4000000 in
theorem em_lacks (d : Nat) (M : sy_Mm) (s : Nat) (o : Option (Nat × Nat)) (f i : Int32) (hs : s < 4) (h : iSh1 M s o) : Ex (d + 1) i_X8_lacks [.ref 30, .int (nI s), .int f, .int i] M (fun r N => (flS o f i = 0 ∧ r = some (.int 0) ∧ N = M) ∨ (¬ flS o f i = 0 ∧ r = some (.int (-10 - nI (flS o f i))) ∧ N = sy_up M 30 4 (nI (flS o f i)))) := by
  unfold Ex
  repeat refine fx_n rfl ?_
  refine fx_g rfl (ix_nI (by omega) (by omega)) ?_
  rw [nI_cl (by omega)]
  cases o with
  | none =>
    rw [h.2.2]
    refine fx_bf rfl (by decide) ?_
    repeat refine fx_n rfl ?_
    refine fx_c rfl (ex_of (em_met _ _ _)) ?_
    rintro _ _ ⟨rfl, rfl⟩
    exact fx_r rfl rfl (Or.inr ⟨(fun z => by cases z), rfl, rfl⟩)
  | some q =>
    obtain ⟨g, z⟩ := q
    obtain ⟨a1, a2, a3, a4, a5, a6, a7⟩ := h
    rw [a5]
    refine fx_bt rfl (nI_pos' (by omega)) ?_
    repeat refine fx_n rfl ?_
    refine fx_g rfl (ix_nI (by omega) (by omega)) ?_
    rw [nI_cl (by omega), a5]
    repeat refine fx_n rfl ?_
    simp only [flS]
    by_cases hf : f = nI g
    · rw [if_pos hf]
      refine fx_bt rfl hf.symm ?_
      repeat refine fx_n rfl ?_
      refine fx_g rfl (ix_nI (by omega) (by omega)) ?_
      rw [nI_cl (by omega), a6]
      repeat refine fx_n rfl ?_
      refine fx_p rfl (em_ir _ _ _ _ _ 0 ((z : Int) - 1) rfl (by rw [Int32.toInt_toInt64]; exact pk_sub_toInt (a := z) (b := 1) (by omega) (by omega))) (fx_ze rfl (fun q => ?_) (fun q => ?_))
      · rw [q]
        repeat refine fx_n rfl ?_
        refine fx_c rfl (ex_of (em_met _ _ _)) ?_
        rintro _ _ ⟨rfl, rfl⟩
        exact fx_r rfl rfl (Or.inr ⟨by decide, rfl, rfl⟩)
      · rw [q]
        repeat refine fx_n rfl ?_
        exact fx_r rfl rfl (Or.inl ⟨rfl, rfl, rfl⟩)
    · rw [if_neg hf]
      refine fx_bf rfl (fun z => hf z.symm) ?_
      repeat refine fx_n rfl ?_
      refine fx_c rfl (ex_of (em_met _ _ _)) ?_
      rintro _ _ ⟨rfl, rfl⟩
      exact fx_r rfl rfl (Or.inr ⟨by decide, rfl, rfl⟩)
end
section
theorem ab_flS {o : Option (Nat × Nat)} {f i : Int32} (h : ¬ flS o f i = 0) : ¬ nI (flS o f i) = 0 := nI_ne0 (by omega) (by have := flS_lt o f i; omega)
set_option maxRecDepth 100000 in
set_option maxHeartbeats 4000000 in
theorem ex_sput (d : Nat) (M : sy_Mm) (s i : Nat) (v : Int32) (hs : s < 4) (hi : i < 60) : Ev d i_X3_put [.ref (22 + 2 * s), .int (nI i), .int v] M none (sy_up M (23 + 2 * s) i (cutS (M (22 + 2 * s) 1) v)) := by
  rcases (show s = 0 ∨ s = 1 ∨ s = 2 ∨ s = 3 by omega) with rfl | rfl | rfl | rfl
  all_goals
    refine ev_of ?_
    unfold cutS
    repeat refine fx_n rfl ?_
    refine fx_b rfl (fun q => ?_) (fun q => ?_)
    · rw [if_neg q]
      repeat refine fx_n rfl ?_
      refine fx_b rfl (fun q2 => ?_) (fun q2 => ?_)
      · rw [if_neg q2]
        repeat refine fx_n rfl ?_
        refine fx_g rfl (ix_nI (by omega) (by omega)) ?_
        rw [nI_cl (by omega)]
        exact fx_r rfl rfl ⟨rfl, rfl⟩
      · rw [if_pos (Decidable.byContradiction q2)]
        repeat refine fx_n rfl ?_
        refine fx_g rfl (ix_nI (by omega) (by omega)) ?_
        rw [nI_cl (by omega)]
        exact fx_r rfl rfl ⟨rfl, rfl⟩
    · rw [if_pos (Decidable.byContradiction q)]
      repeat refine fx_n rfl ?_
      refine fx_g rfl (ix_nI (by omega) (by omega)) ?_
      rw [nI_cl (by omega)]
      exact fx_r rfl rfl ⟨rfl, rfl⟩
/-- an item of a sheet laid on both sides -/
theorem Inv.laid {M : sy_Mm} {n : Nat} {E : Evs} {ne L : Nat} {B : Evs} {nb : Nat} {G : Nat → Nat} {F : Nat → Option (Nat × Nat)} (h1 : iText M n) (h2 : iTale M E ne) (h3 : iLast M L) (h4 : iBook M B nb) (h5 : iGrd M G) (h6 : iSht M F) (h7 : M 0 7 = M 30 4) {s i : Nat} (hs : s < 4) (hi : i < 60) (w : Int32) : Inv (sy_up (sy_up M (23 + 2 * s) i w) 33 (60 * s + i) w) := by
  have r : ∀ k, k ≠ 33 → k ≠ 23 + 2 * s → (sy_up (sy_up M (23 + 2 * s) i w) 33 (60 * s + i) w) k = M k := fun k a b => by rw [up_k a, up_k b]
  refine ⟨n, E, ne, L, B, nb, G, fun q => if q = s then F s else F q, h1.cg (r _ (by omega) (by omega)) (r _ (by omega) (by omega)) (r _ (by omega) (by omega)) (congrFun (r _ (by omega) (by omega)) _), h2.cg (r _ (by omega) (by omega)) (r _ (by omega) (by omega)) (r _ (by omega) (by omega)) (r _ (by omega) (by omega)) (r _ (by omega) (by omega)) (r _ (by omega) (by omega)) (r _ (by omega) (by omega)) (congrFun (r _ (by omega) (by omega)) _), h3.cg (congrFun (r _ (by omega) (by omega)) _) (congrFun (r _ (by omega) (by omega)) _), h4.cg (congrFun (r _ (by omega) (by omega)) _) (congrFun (r _ (by omega) (by omega)) _) (r _ (by omega) (by omega)) (r _ (by omega) (by omega)) (r _ (by omega) (by omega)) (r _ (by omega) (by omega)), h5.cg (r _ (by omega) (by omega)) (r _ (by omega) (by omega)), h6.st (s := s) (F s) (fun k k1 k2 k3 k4 => r k (by omega) k4) (fun q hq => congrFun (r _ (by omega) (by omega)) _) (fun q hq => congrFun (r _ (by omega) (by omega)) _) (fun q hq => ?_) ?_, ?_⟩
  · rw [up_j (by omega), up_k (by omega)]
  · have a := h6 s hs
    unfold iSh1 at a ⊢
    cases hF : F s with
    | none =>
      rw [hF] at a
      obtain ⟨a1, a2, a3⟩ := a
      exact ⟨by rw [r _ (by omega) (by omega)]; exact a1, by rw [r _ (by omega) (by omega)]; exact a2, by rw [r _ (by omega) (by omega)]; exact a3⟩
    | some q =>
      rw [hF] at a
      obtain ⟨a1, a2, a3, a4, a5, a6, a7⟩ := a
      refine ⟨a1, a2, by rw [r _ (by omega) (by omega)]; exact a3, by rw [r _ (by omega) (by omega)]; exact a4, by rw [r _ (by omega) (by omega)]; exact a5, by rw [r _ (by omega) (by omega)]; exact a6, fun j hj => ?_⟩
      by_cases e : j = i
      · rw [e, up_s, up_k (by omega), up_s]
      · rw [up_j (by omega), up_k (by omega), up_k (by omega), up_j e]; exact a7 j hj
  · rw [r 0 (by omega) (by omega), r 30 (by omega) (by omega)]; exact h7
set_option maxRecDepth 100000 in
set_option maxHeartbeats 4000000 in
theorem ag_lay {M : sy_Mm} (h : Inv M) (x f i v : Int32) : AG i_X7_lay i_X8_lay [.int x, .int f, .int i, .int v] M := by
  intro d
  obtain ⟨nn, E, ne, L, B, nb, G, F, h1, h2, h3, h4, h5, h6, h7⟩ := id h
  unfold Ex
  have modBad : (inR x 0 3 = false ∨ inR f 0 2 = false) → ∀ r : Option Value, r = some (.int (-2)) → Fx (d + 30) i_X8_lay 0 (sy_en i_X8_lay [.ref 30, .int x, .int f, .int i, .int v]) [] M (fun r' N' => r' = r ∧ Inv N') := by
    intro gg r hr
    subst hr
    repeat refine fx_n rfl ?_
    refine fx_p rfl (em_isSheet _ _ _) (fx_ze rfl (fun g1 => by ((repeat refine fx_n rfl ?_); exact fx_r rfl rfl ⟨by simp [g1, zb_f], h⟩)) (fun g1 => ?_))
    repeat refine fx_n rfl ?_
    refine fx_p rfl (em_ir _ _ _ _ _ 0 2 rfl rfl) (fx_zn rfl (fun g2 => ?_) (fun g2 => ?_))
    · rcases gg with z | z
      · rw [g1] at z; cases z
      · rw [g2] at z; cases z
    · repeat refine fx_n rfl ?_
      exact fx_r rfl rfl ⟨rfl, h⟩
  repeat refine fx_n rfl ?_
  refine fx_p rfl (ev_isSheet _ _ _) (fx_ze rfl (fun g1 => by ((repeat refine fx_n rfl ?_); exact fx_r rfl rfl ⟨⟨_, rfl⟩, modBad (Or.inl g1) _ rfl⟩)) (fun g1 => ?_))
  repeat refine fx_n rfl ?_
  refine fx_p rfl (ev_isForm _ _ _) (fx_zn rfl (fun g2 => ?_) (fun g2 => by ((repeat refine fx_n rfl ?_); exact fx_r rfl rfl ⟨⟨_, rfl⟩, modBad (Or.inr g2) _ rfl⟩)))
  obtain ⟨s, hs, rfl⟩ := inR_nI (b := 3) g1
  have hsh := h6 s (by omega)
  have modTo : ∀ (N : sy_Mm) (P : Option Value → sy_Mm → Prop), Fx (d + 30) i_X8_lay 26 [some (.ref 30), some (.int (nI s)), some (.int f), some (.int i), some (.int v), none] [.int i, .int f, .int (nI s), .ref 30] N P → Fx (d + 30) i_X8_lay 0 (sy_en i_X8_lay [.ref 30, .int (nI s), .int f, .int i, .int v]) [] N P := by
    intro N P kk
    repeat refine fx_n rfl ?_
    refine fx_p rfl (em_isSheet _ _ _) (fx_ze rfl (fun z => by rw [g1] at z; cases z) (fun _ => ?_))
    repeat refine fx_n rfl ?_
    refine fx_p rfl (em_ir _ _ _ _ _ 0 2 rfl rfl) (fx_zn rfl (fun _ => ?_) (fun z => by rw [g2] at z; cases z))
    repeat refine fx_n rfl ?_
    exact kk
  have hfl := fun d => ev_flawOf d M s (F s) f i (by omega) hsh
  have cls : ∀ Q : Option Value → sy_Mm → Prop, (¬ flS (F s) f i = 0 → Q (some (.int (-10 - nI (flS (F s) f i)))) (sy_up M 0 7 (nI (flS (F s) f i)))) → (∀ q : Nat, q < 60 → i = nI q → flS (F s) f i = 0 → Q (some (.int 1)) (sy_up M (23 + 2 * s) q (cutS f v))) → Fx (d + 30) i_X7_lay 22 [some (.ref 0), some (.int (nI s)), some (.int f), some (.int i), some (.int v), none] [.int (nI s), .ref 21] M Q := by
    intro Q hQ1 hQ2
    by_cases h0 : flS (F s) f i = 0
    · obtain ⟨g, z, e1, e2, e3⟩ := flS_0 h0
      rw [e1] at hsh
      obtain ⟨a1, a2, a3, a4, a5, a6, a7⟩ := hsh
      obtain ⟨q, hq, e4⟩ := inR_S e3
      have hp := fun d => ex_sput d M s q v (by omega) (by omega)
      have hQ := hQ2 q (by omega) e4 h0
      rw [h0] at hfl
      rw [a3, ← e2] at hp
      rw [← e4] at hp
      rcases (show s = 0 ∨ s = 1 ∨ s = 2 ∨ s = 3 by omega) with rfl | rfl | rfl | rfl
      all_goals
        refine fx_g rfl (by decide) ?_
        repeat refine fx_n rfl ?_
        refine fx_p rfl (hfl _) ?_
        repeat refine fx_n rfl ?_
        refine fx_bt rfl (by decide) ?_
        repeat refine fx_n rfl ?_
        refine fx_g rfl (by decide) ?_
        repeat refine fx_n rfl ?_
        refine fx_c rfl (ex_of (hp _)) ?_
        rintro _ _ ⟨rfl, rfl⟩
        repeat refine fx_n rfl ?_
        exact fx_r rfl rfl hQ
    · have hQ := hQ1 h0
      rcases (show s = 0 ∨ s = 1 ∨ s = 2 ∨ s = 3 by omega) with rfl | rfl | rfl | rfl
      all_goals
        refine fx_g rfl (by decide) ?_
        repeat refine fx_n rfl ?_
        refine fx_p rfl (hfl _) ?_
        repeat refine fx_n rfl ?_
        refine fx_bf rfl (ab_flS h0) ?_
        repeat refine fx_n rfl ?_
        refine fx_c rfl (ex_of (ev_found _ _ _)) ?_
        rintro _ _ ⟨rfl, rfl⟩
        exact fx_r rfl rfl hQ
  repeat refine fx_n rfl ?_
  refine cls _ (fun h0 => ⟨⟨_, rfl⟩, modTo _ _ ?_⟩) (fun q hq hiq h0 => ⟨⟨_, rfl⟩, modTo _ _ ?_⟩)
  · refine fx_c rfl (em_lacks _ _ s (F s) f i (by omega) (by have := (h6.cg (N := sy_up M 0 7 (nI (flS (F s) f i))) (fun k k1 k2 k3 => up_k (by omega))) s (by omega); exact this)) ?_
    rintro r N (⟨z, _⟩ | ⟨_, rfl, rfl⟩)
    · exact absurd z h0
    · repeat refine fx_n rfl ?_
      refine fx_bf rfl ?_ ?_
      · have := flS_lt (F s) f i
        rcases (show flS (F s) f i = 1 ∨ flS (F s) f i = 2 ∨ flS (F s) f i = 3 by omega) with e | e | e <;> rw [e] <;> decide
      · repeat refine fx_n rfl ?_
        exact fx_r rfl rfl ⟨rfl, h.fnd _⟩
  · have hN : iSh1 (sy_up M (23 + 2 * s) q (cutS f v)) s (F s) ∨ True := Or.inr trivial
    obtain ⟨g, z, e1, e2, e3⟩ := flS_0 h0
    have hM : ∃ o', iSh1 (sy_up M (23 + 2 * s) q (cutS f v)) s (some (g, z)) ∨ o' = 0 := ⟨0, Or.inr rfl⟩
    rw [e1] at hsh
    obtain ⟨a1, a2, a3, a4, a5, a6, a7⟩ := hsh
    generalize hNN : sy_up M (23 + 2 * s) q (cutS f v) = N
    have n31 : N 31 = M 31 := by rw [← hNN, up_k (by omega)]
    have n32 : N 32 = M 32 := by rw [← hNN, up_k (by omega)]
    refine fx_c (P1 := fun r K => r = some (.int 0) ∧ K = N) rfl ?_ ?_
    · unfold Ex
      repeat refine fx_n rfl ?_
      refine fx_g rfl (ix_nI (by omega) (by omega)) ?_
      rw [nI_cl (by omega), n31, a5]
      refine fx_bt rfl (nI_pos' (by omega)) ?_
      repeat refine fx_n rfl ?_
      refine fx_g rfl (ix_nI (by omega) (by omega)) ?_
      rw [nI_cl (by omega), n31, a5]
      repeat refine fx_n rfl ?_
      refine fx_bt rfl e2.symm ?_
      repeat refine fx_n rfl ?_
      refine fx_g rfl (ix_nI (by omega) (by omega)) ?_
      rw [nI_cl (by omega), n32, a6]
      repeat refine fx_n rfl ?_
      refine fx_p rfl (em_ir _ _ _ _ _ 0 ((z : Int) - 1) rfl (by rw [Int32.toInt_toInt64]; exact pk_sub_toInt (a := z) (b := 1) (by omega) (by omega))) (fx_ze rfl (fun y => by rw [e3] at y; cases y) (fun _ => ?_))
      repeat refine fx_n rfl ?_
      exact fx_r rfl rfl ⟨rfl, rfl⟩
    · rintro _ _ ⟨rfl, rfl⟩
      repeat refine fx_n rfl ?_
      refine fx_bt rfl (by decide) ?_
      repeat refine fx_n rfl ?_
      rw [sx_nI, hiq, nI_add]
      refine fx_p rfl (em_cut _ _ _ _) ?_
      refine fx_g rfl (ix_nI (by omega) (by omega)) ?_
      rw [nI_cl (by omega)]
      repeat refine fx_n rfl ?_
      refine fx_r rfl rfl ⟨rfl, ?_⟩
      rw [← hNN]
      exact Inv.laid h1 h2 h3 h4 h5 h6 h7 (by omega) hq _
end
section
set_option maxRecDepth 100000 in
set_option maxHeartbeats 4000000 in
theorem ev_shend (d : Nat) (M : sy_Mm) (s : Nat) (hs : s < 4) : Ev d i_X3_end [.ref (22 + 2 * s)] M (some (.int (M (22 + 2 * s) 2))) (sy_up (sy_up M (22 + 2 * s) 1 (-1)) (22 + 2 * s) 2 0) := by
  rcases (show s = 0 ∨ s = 1 ∨ s = 2 ∨ s = 3 by omega) with rfl | rfl | rfl | rfl
  all_goals
    refine ev_of ?_
    repeat refine fx_n rfl ?_
    exact fx_r rfl rfl ⟨rfl, rfl⟩
set_option maxRecDepth 100000 in
set_option maxHeartbeats 4000000 in
theorem ag_lose {M : sy_Mm} (h : Inv M) (x : Int32) : AG i_X7_lose i_X8_lose [.int x] M := by
  intro d
  obtain ⟨nn, E, ne, L, B, nb, G, F, h1, h2, h3, h4, h5, h6, h7⟩ := id h
  unfold Ex
  repeat refine fx_n rfl ?_
  refine fx_p rfl (ev_isSheet _ _ _) (fx_zn rfl (fun g1 => ?_) (fun g1 => ?_))
  · obtain ⟨s, hs, rfl⟩ := inR_nI (b := 3) g1
    have hsh := h6 s (by omega)
    have hl := fun d => ev_isLost d M s (by omega)
    have modTo : ∀ (N : sy_Mm) (P : Option Value → sy_Mm → Prop), Fx (d + 30) i_X8_lose 15 [some (.ref 30), some (.int (nI s))] [.int (nI s), .ref 31] N P → Fx (d + 30) i_X8_lose 0 (sy_en i_X8_lose [.ref 30, .int (nI s)]) [] N P := by
      intro N P kk
      repeat refine fx_n rfl ?_
      refine fx_p rfl (em_isSheet _ _ _) (fx_zn rfl (fun _ => ?_) (fun z => by rw [g1] at z; cases z))
      repeat refine fx_n rfl ?_
      exact kk
    cases hF : F s with
    | none =>
      rw [hF] at hsh
      obtain ⟨a1, a2, a3⟩ := hsh
      rw [a1] at hl
      have cls : ∀ Q : Option Value → sy_Mm → Prop, Q (some (.int (-10 - 1))) (sy_up M 0 7 1) → Fx (d + 30) i_X7_lose 15 [some (.ref 0), some (.int (nI s))] [.int (nI s), .ref 21] M Q := by
        intro Q hQ
        rcases (show s = 0 ∨ s = 1 ∨ s = 2 ∨ s = 3 by omega) with rfl | rfl | rfl | rfl
        all_goals
          refine fx_g rfl (by decide) ?_
          refine fx_p rfl (hl _) ?_
          refine fx_bf rfl (by decide) ?_
          repeat refine fx_n rfl ?_
          refine fx_c rfl (ex_of (ev_found _ _ _)) ?_
          rintro _ _ ⟨rfl, rfl⟩
          repeat refine fx_n rfl ?_
          exact fx_r rfl rfl hQ
      repeat refine fx_n rfl ?_
      refine cls _ ⟨⟨_, rfl⟩, modTo _ _ ?_⟩
      refine fx_g rfl (ix_nI (by omega) (by omega)) ?_
      rw [nI_cl (by omega), up_k (by omega), a3]
      refine fx_bf rfl (by decide) ?_
      repeat refine fx_n rfl ?_
      refine fx_c rfl (ex_of (em_met _ _ _)) ?_
      rintro _ _ ⟨rfl, rfl⟩
      exact fx_r rfl rfl ⟨rfl, h.fnd 1⟩
    | some q =>
      obtain ⟨g, z⟩ := q
      rw [hF] at hsh
      obtain ⟨a1, a2, a3, a4, a5, a6, a7⟩ := hsh
      rw [a3, decide_eq_false (nI_ne_m1 (by omega))] at hl
      have cls : ∀ Q : Option Value → sy_Mm → Prop, Q (some (.int (nI z))) (sy_up (sy_up M (22 + 2 * s) 1 (-1)) (22 + 2 * s) 2 0) → Fx (d + 30) i_X7_lose 15 [some (.ref 0), some (.int (nI s))] [.int (nI s), .ref 21] M Q := by
        intro Q hQ
        rw [← a4] at hQ
        have he := fun d => ev_shend d M s (by omega)
        rcases (show s = 0 ∨ s = 1 ∨ s = 2 ∨ s = 3 by omega) with rfl | rfl | rfl | rfl
        all_goals
          refine fx_g rfl (by decide) ?_
          refine fx_p rfl (hl _) ?_
          refine fx_bt rfl (by decide) ?_
          repeat refine fx_n rfl ?_
          refine fx_g rfl (by decide) ?_
          refine fx_c rfl (ex_of (he _)) ?_
          rintro _ _ ⟨rfl, rfl⟩
          exact fx_r rfl rfl hQ
      repeat refine fx_n rfl ?_
      refine cls _ ⟨⟨_, rfl⟩, modTo _ _ ?_⟩
      generalize hN : sy_up (sy_up M (22 + 2 * s) 1 (-1)) (22 + 2 * s) 2 0 = N
      have r : ∀ k, k ≠ 22 + 2 * s → N k = M k := fun k hk => by rw [← hN, up_k hk, up_k hk]
      refine fx_g rfl (ix_nI (by omega) (by omega)) ?_
      rw [nI_cl (by omega), r 31 (by omega), a5]
      refine fx_bt rfl (nI_pos' (by omega)) ?_
      repeat refine fx_n rfl ?_
      refine fx_g rfl (ix_nI (by omega) (by omega)) ?_
      rw [nI_cl (by omega)]
      repeat refine fx_n rfl ?_
      refine fx_g rfl (ix_nI (by omega) (by omega)) ?_
      rw [nI_cl (by omega), up_k (by omega), r 32 (by omega), a6]
      have r' : ∀ k, k ≠ 22 + 2 * s → k ≠ 31 → sy_up N 31 s (-1) k = M k := fun k a b => by rw [up_k b, r k a]
      refine fx_r rfl rfl ⟨rfl, nn, E, ne, L, B, nb, G, _, h1.cg ?_ ?_ ?_ ?_, h2.cg ?_ ?_ ?_ ?_ ?_ ?_ ?_ ?_, h3.cg ?_ ?_, h4.cg ?_ ?_ ?_ ?_ ?_ ?_, h5.cg ?_ ?_, h6.st (s := s) none (fun k k1 k2 k3 k4 => r' k k3 (by omega)) ?_ ?_ ?_ ?_, ?_⟩
      all_goals (first | (exact r' _ (by omega) (by omega)) | (exact congrFun (r' _ (by omega) (by omega)) _) | skip)
      · intro q hq; rw [up_j hq, r 31 (by omega)]
      · intro q hq; rw [r' 32 (by omega) (by omega)]
      · intro q hq; rw [r' 33 (by omega) (by omega)]
      · refine ⟨?_, ?_, up_s⟩
        · rw [up_k (by omega), ← hN, up_j (by omega), up_s]
        · rw [up_k (by omega), ← hN, up_s]
      · rw [r' 0 (by omega) (by omega), r' 30 (by omega) (by omega)]; exact h7
  · repeat refine fx_n rfl ?_
    refine fx_r rfl rfl ⟨⟨_, rfl⟩, ?_⟩
    repeat refine fx_n rfl ?_
    refine fx_p rfl (em_isSheet _ _ _) (fx_zn rfl (fun z => by rw [g1] at z; cases z) (fun _ => ?_))
    repeat refine fx_n rfl ?_
    exact fx_r rfl rfl ⟨rfl, h⟩
set_option maxRecDepth 100000 in
set_option maxHeartbeats 4000000 in
theorem ag_get {M : sy_Mm} (h : Inv M) (x f i : Int32) : AG i_X7_get i_X8_get [.int x, .int f, .int i] M := by
  intro d
  obtain ⟨nn, E, ne, L, B, nb, G, F, h1, h2, h3, h4, h5, h6, h7⟩ := id h
  unfold Ex
  have modBad : (inR x 0 3 = false ∨ inR f 0 2 = false) → ∀ r : Option Value, r = some (.int (-2147483648)) → Fx (d + 30) i_X8_get 0 (sy_en i_X8_get [.ref 30, .int x, .int f, .int i]) [] M (fun r' N' => r' = r ∧ Inv N') := by
    intro gg r hr
    subst hr
    repeat refine fx_n rfl ?_
    refine fx_p rfl (em_isSheet _ _ _) (fx_ze rfl (fun g1 => by ((repeat refine fx_n rfl ?_); exact fx_r rfl rfl ⟨by simp [g1, zb_f], h⟩)) (fun g1 => ?_))
    repeat refine fx_n rfl ?_
    refine fx_p rfl (em_ir _ _ _ _ _ 0 2 rfl rfl) (fx_ze rfl (fun g2 => ?_) (fun g2 => ?_))
    · repeat refine fx_n rfl ?_
      exact fx_r rfl rfl ⟨rfl, h⟩
    · rcases gg with z | z
      · rw [g1] at z; cases z
      · rw [g2] at z; cases z
  repeat refine fx_n rfl ?_
  refine fx_p rfl (ev_isSheet _ _ _) (fx_ze rfl (fun g1 => by ((repeat refine fx_n rfl ?_); exact fx_r rfl rfl ⟨⟨_, rfl⟩, modBad (Or.inl g1) _ rfl⟩)) (fun g1 => ?_))
  repeat refine fx_n rfl ?_
  refine fx_p rfl (ev_isForm _ _ _) (fx_zn rfl (fun g2 => ?_) (fun g2 => by ((repeat refine fx_n rfl ?_); exact fx_r rfl rfl ⟨⟨_, rfl⟩, modBad (Or.inr g2) _ rfl⟩)))
  obtain ⟨s, hs, rfl⟩ := inR_nI (b := 3) g1
  have hsh := h6 s (by omega)
  have modTo : ∀ (N : sy_Mm) (P : Option Value → sy_Mm → Prop), Fx (d + 30) i_X8_get 23 [some (.ref 30), some (.int (nI s)), some (.int f), some (.int i)] [.int i, .int f, .int (nI s), .ref 30] N P → Fx (d + 30) i_X8_get 0 (sy_en i_X8_get [.ref 30, .int (nI s), .int f, .int i]) [] N P := by
    intro N P kk
    repeat refine fx_n rfl ?_
    refine fx_p rfl (em_isSheet _ _ _) (fx_ze rfl (fun z => by rw [g1] at z; cases z) (fun _ => ?_))
    repeat refine fx_n rfl ?_
    refine fx_p rfl (em_ir _ _ _ _ _ 0 2 rfl rfl) (fx_ze rfl (fun z => by rw [g2] at z; cases z) (fun _ => ?_))
    repeat refine fx_n rfl ?_
    exact kk
  have hfl := fun d => ev_flawOf d M s (F s) f i (by omega) hsh
  have cls : ∀ Q : Option Value → sy_Mm → Prop, (¬ flS (F s) f i = 0 → Q (some (.int (-2147483648))) (sy_up M 0 7 (nI (flS (F s) f i)))) → (∀ q : Nat, q < 60 → i = nI q → flS (F s) f i = 0 → Q (some (.int (M (23 + 2 * s) q))) M) → Fx (d + 30) i_X7_get 22 [some (.ref 0), some (.int (nI s)), some (.int f), some (.int i), none] [.int (nI s), .ref 21] M Q := by
    intro Q hQ1 hQ2
    by_cases h0 : flS (F s) f i = 0
    · obtain ⟨g, z, e1, e2, e3⟩ := flS_0 h0
      rw [e1] at hsh
      obtain ⟨a1, a2, a3, a4, a5, a6, a7⟩ := hsh
      obtain ⟨q, hq, e4⟩ := inR_S e3
      have hQ := hQ2 q (by omega) e4 h0
      rw [h0] at hfl
      rcases (show s = 0 ∨ s = 1 ∨ s = 2 ∨ s = 3 by omega) with rfl | rfl | rfl | rfl
      all_goals
        refine fx_g rfl (by decide) ?_
        repeat refine fx_n rfl ?_
        refine fx_p rfl (hfl _) ?_
        repeat refine fx_n rfl ?_
        refine fx_bt rfl (by decide) ?_
        repeat refine fx_n rfl ?_
        refine fx_g rfl (by decide) ?_
        repeat refine fx_n rfl ?_
        rw [e4]
        refine fx_g rfl (ix_nI (by omega) (by omega)) ?_
        rw [nI_cl (by omega)]
        exact fx_r rfl rfl hQ
    · have hQ := hQ1 h0
      rcases (show s = 0 ∨ s = 1 ∨ s = 2 ∨ s = 3 by omega) with rfl | rfl | rfl | rfl
      all_goals
        refine fx_g rfl (by decide) ?_
        repeat refine fx_n rfl ?_
        refine fx_p rfl (hfl _) ?_
        repeat refine fx_n rfl ?_
        refine fx_bf rfl (ab_flS h0) ?_
        repeat refine fx_n rfl ?_
        exact fx_r rfl rfl hQ
  repeat refine fx_n rfl ?_
  refine cls _ (fun h0 => ⟨⟨_, rfl⟩, modTo _ _ ?_⟩) (fun q hq hiq h0 => ⟨⟨_, rfl⟩, modTo _ _ ?_⟩)
  · refine fx_c rfl (em_lacks _ _ s (F s) f i (by omega) (by have := (h6.cg (N := sy_up M 0 7 (nI (flS (F s) f i))) (fun k k1 k2 k3 => up_k (by omega))) s (by omega); exact this)) ?_
    rintro r N (⟨z, _⟩ | ⟨_, rfl, rfl⟩)
    · exact absurd z h0
    · refine fx_bf rfl ?_ ?_
      · have := flS_lt (F s) f i
        rcases (show flS (F s) f i = 1 ∨ flS (F s) f i = 2 ∨ flS (F s) f i = 3 by omega) with e | e | e <;> rw [e] <;> decide
      · repeat refine fx_n rfl ?_
        exact fx_r rfl rfl ⟨rfl, h.fnd _⟩
  · refine fx_c rfl (em_lacks _ _ s (F s) f i (by omega) hsh) ?_
    rintro r N (⟨_, rfl, rfl⟩ | ⟨z, _⟩)
    · obtain ⟨g, z, e1, e2, e3⟩ := flS_0 h0
      rw [e1] at hsh
      obtain ⟨a1, a2, a3, a4, a5, a6, a7⟩ := hsh
      have hqz : q < z := by
        obtain ⟨q', hq', e⟩ := inR_S e3
        have := (nI_eq (by omega) (by omega)).mp (hiq.symm.trans e)
        omega
      refine fx_bt rfl (by decide) ?_
      repeat refine fx_n rfl ?_
      rw [sx_nI, hiq, nI_add]
      refine fx_g rfl (ix_nI (by omega) (by omega)) ?_
      rw [nI_cl (by omega), a7 q hqz]
      exact fx_r rfl rfl ⟨rfl, h⟩
    · exact absurd h0 z
/-! ===== count ===== -/
def cuS (M : sy_Mm) (S : Nat) (Y : Yd) (fg : Nat → Bool) (w : Int32) : Int32 := if w = 0 then nI S else if w = 1 then M 1 1 else if w = 2 then M 3 5 else if w = 3 then nI Y.2.2.2.1 else if w = 4 then nI Y.2.2.2.2.2 else if w = 5 then M 9 6 else if w = 6 then M 14 5 else if w = 7 then nI (cnB fg S) else if w = 8 then M 0 7 else -2
theorem cnB_not (p : Nat → Bool) : ∀ n, n - cnB (rlB p) n = cnB p n ∧ cnB (rlB p) n ≤ n
  | 0 => ⟨rfl, Nat.le_refl _⟩
  | n + 1 => by
    obtain ⟨h1, h2⟩ := cnB_not p n
    unfold cnB
    cases q : p n with
    | true => rw [show rlB p n = false by simp [rlB, q]]; simp; omega
    | false => rw [show rlB p n = true by simp [rlB, q]]; simp; omega
theorem sw_in {pc : Nat} {dflt hi : Int} {offs : Array Int} {w : Int32} (h : w.toInt < 0 ∨ hi < w.toInt) : sy_sw pc dflt 0 hi offs w = (pc : Int) + dflt := by unfold sy_sw; rw [if_pos h]
theorem w_cases (w : Int32) : (w = 0 ∨ w = 1 ∨ w = 2 ∨ w = 3 ∨ w = 4 ∨ w = 5 ∨ w = 6 ∨ w = 7 ∨ w = 8) ∨ (w.toInt < 0 ∨ 8 < w.toInt) := by
  by_cases q : w.toInt < 0 ∨ 8 < w.toInt
  · exact Or.inr q
  · left
    obtain ⟨k, hk, rfl⟩ := inR_nI (x := w) (b := 8) (inR_t.mpr (by omega))
    rcases (show k = 0 ∨ k = 1 ∨ k = 2 ∨ k = 3 ∨ k = 4 ∨ k = 5 ∨ k = 6 ∨ k = 7 ∨ k = 8 by omega) with rfl | rfl | rfl | rfl | rfl | rfl | rfl | rfl | rfl <;> decide
theorem cuS_bad {M : sy_Mm} {S : Nat} {Y : Yd} {fg : Nat → Bool} {w : Int32} (h : w.toInt < 0 ∨ 8 < w.toInt) : cuS M S Y fg w = -2 := by
  have n : ∀ k : Nat, k ≤ 8 → ¬ w = nI k := fun k hk e => by rw [e, nI_toInt (by omega)] at h; omega
  unfold cuS
  rw [if_neg (show ¬ w = 0 from n 0 (by omega)), if_neg (show ¬ w = 1 from n 1 (by omega)), if_neg (show ¬ w = 2 from n 2 (by omega)), if_neg (show ¬ w = 3 from n 3 (by omega)), if_neg (show ¬ w = 4 from n 4 (by omega)), if_neg (show ¬ w = 5 from n 5 (by omega)), if_neg (show ¬ w = 6 from n 6 (by omega)), if_neg (show ¬ w = 7 from n 7 (by omega)), if_neg (show ¬ w = 8 from n 8 (by omega))]
set_option maxRecDepth 100000 in
set_option maxHeartbeats 4000000 in
theorem ex_count (d : Nat) (M : sy_Mm) (E : Evs) (ne S L : Nat) (h0 : Nat → Nat) (w : Int32) (hC : ctC M E ne S L h0 (tx_fg (M 2))) : Ex (d + 5) i_X7_count [.ref 0, .int w] M (fun r N => r = some (.int (cuS M S (yF S h0 E none 199 ne) (tx_fg (M 2)) w)) ∧ kpY M N) := by
  obtain ⟨a1, a2, a3, a4, a5, a6, a7, a8, a9⟩ := id hC
  unfold Ex
  repeat refine fx_n rfl ?_
  rcases w_cases w with (rfl | rfl | rfl | rfl | rfl | rfl | rfl | rfl | rfl) | hw
  · refine fx_g rfl (by decide) (show Fx _ _ 52 _ _ _ _ from ?_)
    repeat refine fx_n rfl ?_
    exact fx_r rfl rfl ⟨by rw [a4]; rfl, kpY.rf⟩
  · refine fx_g rfl (by decide) (show Fx _ _ 60 _ _ _ _ from ?_)
    repeat refine fx_n rfl ?_
    exact fx_r rfl rfl ⟨rfl, kpY.rf⟩
  · refine fx_g rfl (by decide) (show Fx _ _ 68 _ _ _ _ from ?_)
    repeat refine fx_n rfl ?_
    exact fx_r rfl rfl ⟨rfl, kpY.rf⟩
  · refine fx_g rfl (by decide) (show Fx _ _ 76 _ _ _ _ from ?_)
    repeat refine fx_n rfl ?_
    refine fx_c rfl (ex_tellAll _ M E ne S L h0 _ hC) ?_
    rintro _ N ⟨rfl, b1, b2⟩
    repeat refine fx_n rfl ?_
    exact fx_r rfl rfl ⟨by rw [b1.2.2.1.2.2.2.1]; rfl, b2⟩
  · refine fx_g rfl (by decide) (show Fx _ _ 91 _ _ _ _ from ?_)
    repeat refine fx_n rfl ?_
    refine fx_c rfl (ex_tellAll _ M E ne S L h0 _ hC) ?_
    rintro _ N ⟨rfl, b1, b2⟩
    repeat refine fx_n rfl ?_
    exact fx_r rfl rfl ⟨by rw [b1.2.2.1.2.2.2.2.2]; rfl, b2⟩
  · refine fx_g rfl (by decide) (show Fx _ _ 106 _ _ _ _ from ?_)
    repeat refine fx_n rfl ?_
    exact fx_r rfl rfl ⟨rfl, kpY.rf⟩
  · refine fx_g rfl (by decide) (show Fx _ _ 114 _ _ _ _ from ?_)
    repeat refine fx_n rfl ?_
    exact fx_r rfl rfl ⟨rfl, kpY.rf⟩
  · refine fx_g rfl (by decide) (show Fx _ _ 122 _ _ _ _ from ?_)
    repeat refine fx_n rfl ?_
    refine fx_p rfl (ev_realStones _ _ S a3 a4) ?_
    refine fx_p rfl (ev_bitCount _ _ _ (bN_9 _ a3)) ?_
    repeat refine fx_n rfl ?_
    rw [a4, pcn_bN _ S a3]
    have hc := cnB_not (tx_fg (M 2)) S
    rw [show (fun s => !tx_fg (M 2) s) = rlB (tx_fg (M 2)) from rfl, pk_sub hc.2, hc.1]
    exact fx_r rfl rfl ⟨rfl, kpY.rf⟩
  · refine fx_g rfl (by decide) (show Fx _ _ 141 _ _ _ _ from ?_)
    repeat refine fx_n rfl ?_
    exact fx_r rfl rfl ⟨rfl, kpY.rf⟩
  · have e := sw_in (pc := 1) (dflt := 145) (offs := #[51, 59, 67, 75, 90, 105, 113, 121, 140]) hw
    rw [cuS_bad hw]
    refine fx_g rfl (by rw [e]; decide) ?_
    rw [e]
    show Fx _ _ 146 _ _ _ _
    repeat refine fx_n rfl ?_
    exact fx_r rfl rfl ⟨rfl, kpY.rf⟩
set_option maxRecDepth 100000 in
set_option maxHeartbeats 4000000 in
theorem em_count (d : Nat) {M : sy_Mm} {n : Nat} {E : Evs} {ne L nb : Nat} {B : Evs} (h1 : iText M n) (h2 : iTale M E ne) (h3 : iLast M L) (h4 : iBook M B nb) (h7 : M 0 7 = M 30 4) (w : Int32) : Ex (d + 5) i_X8_count [.ref 30, .int w] M (fun r N => r = some (.int (cuS M (tx_st (M 2) n) (yF (tx_st (M 2) n) (tx_h (M 2)) E none 199 ne) (tx_fg (M 2)) w)) ∧ kq M N) := by
  unfold Ex
  repeat refine fx_n rfl ?_
  refine fx_c rfl (em_reads' _ h1) ?_
  rintro _ N ⟨rfl, hr⟩
  have hC := inv_ctM h1 h2 h3 hr
  repeat refine fx_n rfl ?_
  refine fx_c rfl (em_goes _ N E ne _ L 199 _ _ none (by omega) (fun _ q => by cases q) hC) ?_
  rintro _ N1 ⟨rfl, c1, c2⟩
  have k : kq M N1 := hr.q.tr c2.q
  obtain ⟨⟨a1, a2, a3, a4, a5, a6, a7, a8, a9⟩, b⟩ := id c1
  repeat refine fx_n rfl ?_
  rcases w_cases w with (rfl | rfl | rfl | rfl | rfl | rfl | rfl | rfl | rfl) | hw
  · refine fx_g rfl (by decide) (show Fx _ _ 64 _ _ _ _ from ?_)
    repeat refine fx_n rfl ?_
    exact fx_r rfl rfl ⟨by rw [a4]; rfl, k⟩
  · refine fx_g rfl (by decide) (show Fx _ _ 69 _ _ _ _ from ?_)
    repeat refine fx_n rfl ?_
    exact fx_r rfl rfl ⟨by rw [k 30 6 (by unfold dead; omega), h1.2.2.1, ← h1.2.1]; rfl, k⟩
  · refine fx_g rfl (by decide) (show Fx _ _ 74 _ _ _ _ from ?_)
    repeat refine fx_n rfl ?_
    exact fx_r rfl rfl ⟨by rw [k 30 12 (by unfold dead; omega), h2.2.2.1, ← h2.2.1.1]; rfl, k⟩
  · refine fx_g rfl (by decide) (show Fx _ _ 79 _ _ _ _ from ?_)
    repeat refine fx_n rfl ?_
    exact fx_r rfl rfl ⟨by rw [b.2.2.2.1]; rfl, k⟩
  · refine fx_g rfl (by decide) (show Fx _ _ 84 _ _ _ _ from ?_)
    repeat refine fx_n rfl ?_
    exact fx_r rfl rfl ⟨by rw [b.2.2.2.2.2]; rfl, k⟩
  · refine fx_g rfl (by decide) (show Fx _ _ 89 _ _ _ _ from ?_)
    repeat refine fx_n rfl ?_
    exact fx_r rfl rfl ⟨by rw [k 30 11 (by unfold dead; omega), h3.2.1, ← h3.1]; rfl, k⟩
  · refine fx_g rfl (by decide) (show Fx _ _ 94 _ _ _ _ from ?_)
    repeat refine fx_n rfl ?_
    exact fx_r rfl rfl ⟨by rw [k 30 20 (by unfold dead; omega), h4.2.2.1, ← h4.2.1]; rfl, k⟩
  · refine fx_g rfl (by decide) (show Fx _ _ 99 _ _ _ _ from ?_)
    repeat refine fx_n rfl ?_
    rw [a9]
    refine fx_p rfl (em_ones _ _ _ (bN_9 _ a3)) ?_
    rw [pcn_bN _ _ a3]
    exact fx_r rfl rfl ⟨rfl, k⟩
  · refine fx_g rfl (by decide) (show Fx _ _ 107 _ _ _ _ from ?_)
    repeat refine fx_n rfl ?_
    exact fx_r rfl rfl ⟨by rw [k 30 4 (by unfold dead; omega), ← h7]; rfl, k⟩
  · have e := sw_in (pc := 14) (dflt := 98) (offs := #[50, 55, 60, 65, 70, 75, 80, 85, 93]) hw
    rw [cuS_bad hw]
    refine fx_g rfl (by rw [e]; decide) ?_
    rw [e]
    show Fx _ _ 112 _ _ _ _
    repeat refine fx_n rfl ?_
    exact fx_r rfl rfl ⟨rfl, k⟩
set_option maxRecDepth 100000 in
set_option maxHeartbeats 4000000 in
theorem ag_count {M : sy_Mm} (h : Inv M) (w : Int32) : AG i_X7_count i_X8_count [.int w] M := by
  intro d
  obtain ⟨n, E, ne, L, B, nb, G, F, h1, h2, h3, h4, h5, h6, h7⟩ := id h
  refine fx_w (ex_count _ M E ne _ L _ w (inv_ctC h1 h2 h3)) ?_
  rintro _ N ⟨rfl, b2⟩
  have k := b2.q
  have e2 : N 2 = M 2 := k.row 2 (fun j => by unfold dead; omega)
  have e7 : N 0 7 = N 30 4 := by rw [k 0 7 (by unfold dead; omega), k 30 4 (by unfold dead; omega)]; exact h7
  refine ⟨⟨_, rfl⟩, fx_w (em_count _ (h1.kp k) (h2.kp k) (h3.kp k) (h4.kp k) e7 w) ?_⟩
  rintro _ N1 ⟨rfl, c2⟩
  rw [e2]
  refine ⟨?_, (h.kp k).kp c2⟩
  unfold cuS
  rw [k 1 1 (by unfold dead; omega), k 3 5 (by unfold dead; omega), k 9 6 (by unfold dead; omega), k 14 5 (by unfold dead; omega), k 0 7 (by unfold dead; omega)]
end
section
/-! ===== read ===== -/
theorem putC_k {M : sy_Mm} {ne : Nat} {k n s h w : Int32} {q : Nat} (hq : q < 3 ∨ 8 < q) : putC M ne k n s h w q = M q := by
  unfold putC
  rw [up_k (by omega), up_k (by omega), up_k (by omega), up_k (by omega), up_k (by omega), up_k (by omega)]
theorem putM_k {M : sy_Mm} {ne : Nat} {k n s h w : Int32} {q : Nat} (h1 : q ≠ 30) (h2 : q ≠ 37) : putM M ne k n s h w q = M q := by
  unfold putM
  rw [up_k h1, up_k h2, up_k h2, up_k h2, up_k h2, up_k h2]
theorem putM_30 {M : sy_Mm} {ne : Nat} {k n s h w : Int32} {j : Nat} (h1 : j ≠ 12) : putM M ne k n s h w 30 j = M 30 j := by
  unfold putM
  rw [up_j h1, up_k (by omega), up_k (by omega), up_k (by omega), up_k (by omega), up_k (by omega)]
def rdS (it : Nat → Int32) : Nat → Nat → Evs → Nat → Nat × Evs × Nat
  | 0, t, E, ne => (t, E, ne)
  | j + 1, t, E, ne => cond (evG E ne (it (5 * t)) (it (5 * t + 1)) (it (5 * t + 2)) (it (5 * t + 3)) (it (5 * t + 4)) && decide (ne < 40)) (rdS it j (t + 1) (addE E ne (it (5 * t)) (it (5 * t + 1)) (it (5 * t + 2)) (it (5 * t + 3)) (it (5 * t + 4))) (ne + 1)) (t, E, ne)
theorem rdS_f {it : Nat → Int32} {j t : Nat} {E : Evs} {ne : Nat} (h : (evG E ne (it (5 * t)) (it (5 * t + 1)) (it (5 * t + 2)) (it (5 * t + 3)) (it (5 * t + 4)) && decide (ne < 40)) = false) : rdS it (j + 1) t E ne = (t, E, ne) := by
  show cond _ _ _ = _
  rw [h]; rfl
theorem rdS_t {it : Nat → Int32} {j t : Nat} {E : Evs} {ne : Nat} (h : (evG E ne (it (5 * t)) (it (5 * t + 1)) (it (5 * t + 2)) (it (5 * t + 3)) (it (5 * t + 4)) && decide (ne < 40)) = true) : rdS it (j + 1) t E ne = rdS it j (t + 1) (addE E ne (it (5 * t)) (it (5 * t + 1)) (it (5 * t + 2)) (it (5 * t + 3)) (it (5 * t + 4))) (ne + 1) := by
  show cond _ _ _ = _
  rw [h]; rfl
set_option maxRecDepth 100000 in
set_option maxHeartbeats 4000000 in
theorem ex_readL (d : Nat) (M : sy_Mm) (s z p q : Nat) (hp : (p = 22 ∧ q = 23) ∨ (p = 24 ∧ q = 25) ∨ (p = 26 ∧ q = 27) ∨ (p = 28 ∧ q = 29)) (hz : z ≤ 60) (h2 : M p 2 = nI z) : ∀ (j t : Nat) (E : Evs) (ne : Nat) (M1 : sy_Mm), t + j = z / 5 → taleOK E ne → taleC M1 E ne → (∀ k, k < 3 ∨ 8 < k → M1 k = M k) → Fx (d + 3) i_X7_read 49 [some (.ref 0), some (.int (nI s)), some (.ref p), some (.ref q), some (.int (nI t)), some (.int (nI (5 * t)))] [.int (M1 p 2), .int (nI (5 * t) + 5)] M1 (fun r N => r = some (.int (nI (rdS (M q) j t E ne).1)) ∧ taleOK (rdS (M q) j t E ne).2.1 (rdS (M q) j t E ne).2.2 ∧ taleC N (rdS (M q) j t E ne).2.1 (rdS (M q) j t E ne).2.2 ∧ ∀ k, k < 3 ∨ 8 < k → N k = M k) := by
  intro j
  induction j with
  | zero =>
    intro t E ne M1 ht hE hT hK
    have e2 : M1 p 2 = nI z := by rw [hK p (by omega)]; exact h2
    rw [e2, nI_p5]
    rcases hp with ⟨rfl, rfl⟩ | ⟨rfl, rfl⟩ | ⟨rfl, rfl⟩ | ⟨rfl, rfl⟩
    all_goals
      refine fx_bt rfl (nI_lt (by omega) (by omega)) ?_
      repeat refine fx_n rfl ?_
      exact fx_r rfl rfl ⟨rfl, hE, hT, hK⟩
  | succ j ih =>
    intro t E ne M1 ht hE hT hK
    have e2 : M1 p 2 = nI z := by rw [hK p (by omega)]; exact h2
    have er : M1 q = M q := hK q (by omega)
    have i2 : evG E ne (M q (5 * t)) (M q (5 * t + 1)) (M q (5 * t + 2)) (M q (5 * t + 3)) (M q (5 * t + 4)) = true → ne < 40 → _ := fun g hn => ih (t + 1) (addE E ne (M q (5 * t)) (M q (5 * t + 1)) (M q (5 * t + 2)) (M q (5 * t + 3)) (M q (5 * t + 4))) (ne + 1) (putC M1 ne (M q (5 * t)) (M q (5 * t + 1)) (M q (5 * t + 2)) (M q (5 * t + 3)) (M q (5 * t + 4))) (by omega) (addE_ok hE hn g) (putC_ok hT hn g) (fun k hk => by rw [putC_k hk]; exact hK k hk)
    rw [e2, nI_p5]
    rcases hp with ⟨rfl, rfl⟩ | ⟨rfl, rfl⟩ | ⟨rfl, rfl⟩ | ⟨rfl, rfl⟩
    all_goals
      refine fx_bf rfl (nI_nlt (by omega) (by omega)) ?_
      repeat refine fx_n rfl ?_
      refine fx_g rfl (ix_nI (by omega) (by omega)) ?_
      rw [nI_cl (by omega)]
      repeat refine fx_n rfl ?_
      rw [nI_1]
      refine fx_g rfl (ix_nI (by omega) (by omega)) ?_
      rw [nI_cl (by omega)]
      repeat refine fx_n rfl ?_
      rw [nI_p2]
      refine fx_g rfl (ix_nI (by omega) (by omega)) ?_
      rw [nI_cl (by omega)]
      repeat refine fx_n rfl ?_
      rw [nI_p3]
      refine fx_g rfl (ix_nI (by omega) (by omega)) ?_
      rw [nI_cl (by omega)]
      repeat refine fx_n rfl ?_
      rw [nI_p4]
      refine fx_g rfl (ix_nI (by omega) (by omega)) ?_
      rw [nI_cl (by omega), er]
      refine fx_c rfl (ex_event _ M1 E ne _ _ _ _ _ hE hT) ?_
      rintro r N (⟨g, rfl, rfl⟩ | ⟨g, hn, rfl, rfl⟩ | ⟨g, hn, rfl, rfl⟩)
      · rw [rdS_f (by rw [g]; rfl)]
        refine fx_bf rfl (by decide) ?_
        repeat refine fx_n rfl ?_
        exact fx_r rfl rfl ⟨rfl, hE, hT, hK⟩
      · rw [rdS_f (by rw [g]; simp; omega)]
        refine fx_bf rfl (by decide) ?_
        repeat refine fx_n rfl ?_
        exact fx_r rfl rfl ⟨rfl, hE, hT, hK⟩
      · rw [rdS_t (by rw [g]; simp; omega)]
        refine fx_bt rfl (nI_pos' (by omega)) ?_
        repeat refine fx_n rfl ?_
        have i3 := i2 g hn
        rw [show 5 * (t + 1) = 5 * t + 5 by omega] at i3
        rw [nI_1, nI_p5]
        exact i3
set_option maxRecDepth 100000 in
set_option maxHeartbeats 4000000 in
theorem em_readL (d : Nat) (M : sy_Mm) (it : Nat → Int32) (s z : Nat) (hs : s < 4) (hz : z ≤ 60) (h32 : M 32 s = nI z) (hit : ∀ j, j < z → M 33 (60 * s + j) = it j) : ∀ (j t : Nat) (E : Evs) (ne : Nat) (x : Option Value) (M1 : sy_Mm), t + j = z / 5 → taleOK E ne → taleM M1 E ne → (∀ k, k ≠ 30 → k ≠ 37 → M1 k = M k) → (∀ j, j ≠ 12 → M1 30 j = M 30 j) → Fx (d + 3) i_X8_read 30 [some (.ref 30), some (.int (nI s)), some (.int (nI t)), some (.int 1), x] [.int 1] M1 (fun r N => r = some (.int (nI (rdS it j t E ne).1)) ∧ taleM N (rdS it j t E ne).2.1 (rdS it j t E ne).2.2 ∧ (∀ k, k ≠ 30 → k ≠ 37 → N k = M k) ∧ ∀ j, j ≠ 12 → N 30 j = M 30 j) := by
  intro j
  induction j with
  | zero =>
    intro t E ne x M1 ht hE hT hK hJ
    have e2 : M1 32 s = nI z := by rw [hK 32 (by omega) (by omega)]; exact h32
    refine fx_bf rfl (by decide) ?_
    repeat refine fx_n rfl ?_
    rw [fv_nI, nI_p5]
    refine fx_g rfl (ix_nI (by omega) (by omega)) ?_
    rw [nI_cl (by omega), e2]
    refine fx_bt rfl (nI_lt (by omega) (by omega)) ?_
    repeat refine fx_n rfl ?_
    exact fx_r rfl rfl ⟨rfl, hT, hK, hJ⟩
  | succ j ih =>
    intro t E ne x M1 ht hE hT hK hJ
    have e2 : M1 32 s = nI z := by rw [hK 32 (by omega) (by omega)]; exact h32
    have er : ∀ j, j < z → M1 33 (60 * s + j) = it j := fun j hj => by rw [hK 33 (by omega) (by omega)]; exact hit j hj
    refine fx_bf rfl (by decide) ?_
    repeat refine fx_n rfl ?_
    rw [fv_nI, nI_p5]
    refine fx_g rfl (ix_nI (by omega) (by omega)) ?_
    rw [nI_cl (by omega), e2]
    refine fx_bf rfl (nI_nlt (by omega) (by omega)) ?_
    repeat refine fx_n rfl ?_
    rw [sx_nI, fv_nI, nI_add]
    refine fx_g rfl (ix_nI (by omega) (by omega)) ?_
    rw [nI_cl (by omega), er (5 * t) (by omega)]
    repeat refine fx_n rfl ?_
    rw [nI_1]
    refine fx_g rfl (ix_nI (by omega) (by omega)) ?_
    rw [nI_cl (by omega), show 60 * s + 5 * t + 1 = 60 * s + (5 * t + 1) by omega, er (5 * t + 1) (by omega)]
    repeat refine fx_n rfl ?_
    rw [nI_p2]
    refine fx_g rfl (ix_nI (by omega) (by omega)) ?_
    rw [nI_cl (by omega), show 60 * s + 5 * t + 2 = 60 * s + (5 * t + 2) by omega, er (5 * t + 2) (by omega)]
    repeat refine fx_n rfl ?_
    rw [nI_p3]
    refine fx_g rfl (ix_nI (by omega) (by omega)) ?_
    rw [nI_cl (by omega), show 60 * s + 5 * t + 3 = 60 * s + (5 * t + 3) by omega, er (5 * t + 3) (by omega)]
    repeat refine fx_n rfl ?_
    rw [nI_p4]
    refine fx_g rfl (ix_nI (by omega) (by omega)) ?_
    rw [nI_cl (by omega), show 60 * s + 5 * t + 4 = 60 * s + (5 * t + 4) by omega, er (5 * t + 4) (by omega)]
    refine fx_c rfl (em_event _ M1 E ne _ _ _ _ _ hE hT) ?_
    rintro r N (⟨g, rfl, rfl⟩ | ⟨g, hn, rfl, rfl⟩ | ⟨g, hn, rfl, rfl⟩)
    · rw [rdS_f (by rw [g]; rfl)]
      refine fx_bt rfl (by decide) ?_
      repeat refine fx_n rfl ?_
      refine fx_bt rfl (by decide) ?_
      repeat refine fx_n rfl ?_
      refine fx_bt rfl (by decide) ?_
      repeat refine fx_n rfl ?_
      exact fx_r rfl rfl ⟨by rw [Int32.add_zero], hT, hK, hJ⟩
    · rw [rdS_f (by rw [g]; simp; omega)]
      refine fx_bt rfl (by decide) ?_
      repeat refine fx_n rfl ?_
      refine fx_bt rfl (by decide) ?_
      repeat refine fx_n rfl ?_
      refine fx_bt rfl (by decide) ?_
      repeat refine fx_n rfl ?_
      exact fx_r rfl rfl ⟨by rw [Int32.add_zero], hT, hK, hJ⟩
    · rw [rdS_t (by rw [g]; simp; omega)]
      refine fx_bf rfl (nI_pos (by omega)) ?_
      repeat refine fx_n rfl ?_
      refine fx_bf rfl (by decide) ?_
      repeat refine fx_n rfl ?_
      rw [nI_1]
      exact ih (t + 1) _ (ne + 1) _ _ (by omega) (addE_ok hE hn g) (putM_ok hT hn g) (fun k k1 k2 => by rw [putM_k k1 k2]; exact hK k k1 k2) (fun j hj => by rw [putM_30 hj]; exact hJ j hj)
set_option maxRecDepth 100000 in
set_option maxHeartbeats 4000000 in
theorem ag_read {M : sy_Mm} (h : Inv M) (x : Int32) : AG i_X7_read i_X8_read [.int x] M := by
  intro d
  obtain ⟨nn, E, ne, L, B, nb, G, F, h1, h2, h3, h4, h5, h6, h7⟩ := id h
  unfold Ex
  repeat refine fx_n rfl ?_
  refine fx_p rfl (ev_isSheet _ _ _) (fx_zn rfl (fun g1 => ?_) (fun g1 => ?_))
  · obtain ⟨s, hs, rfl⟩ := inR_nI (b := 3) g1
    have hsh := h6 s (by omega)
    have hl := fun d => ev_isLost d M s (by omega)
    have modTo : ∀ (N : sy_Mm) (P : Option Value → sy_Mm → Prop), Fx (d + 30) i_X8_read 15 [some (.ref 30), some (.int (nI s)), none, none, none] [.int (nI s), .ref 31] N P → Fx (d + 30) i_X8_read 0 (sy_en i_X8_read [.ref 30, .int (nI s)]) [] N P := by
      intro N P kk
      repeat refine fx_n rfl ?_
      refine fx_p rfl (em_isSheet _ _ _) (fx_zn rfl (fun _ => ?_) (fun z => by rw [g1] at z; cases z))
      repeat refine fx_n rfl ?_
      exact kk
    cases hF : F s with
    | none =>
      rw [hF] at hsh
      obtain ⟨a1, a2, a3⟩ := hsh
      rw [a1] at hl
      have cls : ∀ Q : Option Value → sy_Mm → Prop, Q (some (.int (-10 - 1))) (sy_up M 0 7 1) → Fx (d + 30) i_X7_read 15 [some (.ref 0), some (.int (nI s)), none, none, none, none] [.int (nI s), .ref 21] M Q := by
        intro Q hQ
        rcases (show s = 0 ∨ s = 1 ∨ s = 2 ∨ s = 3 by omega) with rfl | rfl | rfl | rfl
        all_goals
          refine fx_g rfl (by decide) ?_
          repeat refine fx_n rfl ?_
          refine fx_p rfl (hl _) ?_
          refine fx_bf rfl (by decide) ?_
          repeat refine fx_n rfl ?_
          refine fx_c rfl (ex_of (ev_found _ _ _)) ?_
          rintro _ _ ⟨rfl, rfl⟩
          repeat refine fx_n rfl ?_
          exact fx_r rfl rfl hQ
      repeat refine fx_n rfl ?_
      refine cls _ ⟨⟨_, rfl⟩, modTo _ _ ?_⟩
      refine fx_g rfl (ix_nI (by omega) (by omega)) ?_
      rw [nI_cl (by omega), up_k (by omega), a3]
      refine fx_bf rfl (by decide) ?_
      repeat refine fx_n rfl ?_
      refine fx_c rfl (ex_of (em_met _ _ _)) ?_
      rintro _ _ ⟨rfl, rfl⟩
      exact fx_r rfl rfl ⟨rfl, h.fnd 1⟩
    | some q =>
      obtain ⟨g, z⟩ := q
      rw [hF] at hsh
      obtain ⟨a1, a2, a3, a4, a5, a6, a7⟩ := hsh
      rw [a3, decide_eq_false (nI_ne_m1 (by omega))] at hl
      have cls : ∀ Q : Option Value → sy_Mm → Prop, (∀ N, taleOK (rdS (M (23 + 2 * s)) (z / 5) 0 E ne).2.1 (rdS (M (23 + 2 * s)) (z / 5) 0 E ne).2.2 → taleC N (rdS (M (23 + 2 * s)) (z / 5) 0 E ne).2.1 (rdS (M (23 + 2 * s)) (z / 5) 0 E ne).2.2 → (∀ k, k < 3 ∨ 8 < k → N k = M k) → Q (some (.int (nI (rdS (M (23 + 2 * s)) (z / 5) 0 E ne).1))) N) → Fx (d + 30) i_X7_read 15 [some (.ref 0), some (.int (nI s)), none, none, none, none] [.int (nI s), .ref 21] M Q := by
        intro Q hQ
        have lp := ex_readL (d + 27) M s z (22 + 2 * s) (23 + 2 * s) (by omega) a2 a4 (z / 5) 0 E ne M (by omega) h2.1 h2.2.1 (fun _ _ => rfl)
        rcases (show s = 0 ∨ s = 1 ∨ s = 2 ∨ s = 3 by omega) with rfl | rfl | rfl | rfl
        all_goals
          refine fx_g rfl (by decide) ?_
          repeat refine fx_n rfl ?_
          refine fx_p rfl (hl _) ?_
          refine fx_bt rfl (by decide) ?_
          repeat refine fx_n rfl ?_
          refine fx_w lp ?_
          rintro _ N ⟨rfl, b1, b2, b3⟩
          exact hQ N b1 b2 b3
      repeat refine fx_n rfl ?_
      refine cls _ (fun N b1 b2 b3 => ⟨⟨_, rfl⟩, modTo _ _ ?_⟩)
      refine fx_g rfl (ix_nI (by omega) (by omega)) ?_
      rw [nI_cl (by omega), b3 31 (by omega), a5]
      refine fx_bt rfl (nI_pos' (by omega)) ?_
      repeat refine fx_n rfl ?_
      have hTN : taleM N E ne := by unfold taleM; rw [b3 30 (by omega), b3 37 (by omega)]; exact h2.2.2
      refine fx_w (em_readL (d + 27) N (M (23 + 2 * s)) s z (by omega) a2 (by rw [b3 32 (by omega)]; exact a6) (fun j hj => by rw [b3 33 (by omega)]; exact a7 j hj) (z / 5) 0 E ne _ N (by omega) h2.1 hTN (fun _ _ _ => rfl) (fun _ _ => rfl)) ?_
      rintro _ N' ⟨rfl, c1, c2, c3⟩
      have cc : ∀ k, k < 3 ∨ 8 < k → k ≠ 30 → k ≠ 37 → N' k = M k := fun k k1 k2 k3 => by rw [c2 k k2 k3, b3 k k1]
      have c30 : ∀ j, j ≠ 12 → N' 30 j = M 30 j := fun j hj => by rw [c3 j hj, b3 30 (by omega)]
      refine ⟨rfl, nn, _, _, L, B, nb, G, F, h1.cg (cc _ (by omega) (by omega) (by omega)) (cc _ (by omega) (by omega) (by omega)) (cc _ (by omega) (by omega) (by omega)) (c30 _ (by omega)), ⟨b1, ?_, c1⟩, h3.cg (congrFun (cc _ (by omega) (by omega) (by omega)) _) (c30 _ (by omega)), h4.cg (congrFun (cc _ (by omega) (by omega) (by omega)) _) (c30 _ (by omega)) (cc _ (by omega) (by omega) (by omega)) (cc _ (by omega) (by omega) (by omega)) (cc _ (by omega) (by omega) (by omega)) (cc _ (by omega) (by omega) (by omega)), h5.cg (cc _ (by omega) (by omega) (by omega)) (cc _ (by omega) (by omega) (by omega)), h6.cg (fun k k1 k2 k3 => cc k (by omega) k3 (by omega)), ?_⟩
      · unfold taleC
        rw [c2 3 (by omega) (by omega), c2 4 (by omega) (by omega), c2 5 (by omega) (by omega), c2 6 (by omega) (by omega), c2 7 (by omega) (by omega), c2 8 (by omega) (by omega)]
        exact b2
      · rw [cc 0 (by omega) (by omega) (by omega), c30 4 (by omega)]; exact h7
  · repeat refine fx_n rfl ?_
    refine fx_r rfl rfl ⟨⟨_, rfl⟩, ?_⟩
    repeat refine fx_n rfl ?_
    refine fx_p rfl (em_isSheet _ _ _) (fx_zn rfl (fun z => by rw [g1] at z; cases z) (fun _ => ?_))
    repeat refine fx_n rfl ?_
    exact fx_r rfl rfl ⟨rfl, h⟩
end
section
/-! ===== write ===== -/
def kqS (q : Nat) (M N : sy_Mm) : Prop := ∀ k j, k ≠ q → ¬ dead k j → N k j = M k j
theorem kqS.rf {q : Nat} {M : sy_Mm} : kqS q M M := fun _ _ _ _ => rfl
theorem kqS.kq {q : Nat} {M N K : sy_Mm} (h : kqS q M N) (g : kq N K) : kqS q M K := fun k j a b => (g k j b).trans (h k j a b)
theorem kqS.up {q : Nat} {M N : sy_Mm} (h : kqS q M N) {j : Nat} {x : Int32} : kqS q M (sy_up N q j x) := fun k i a b => by rw [up_k a]; exact h k i a b
theorem kqS.row {q : Nat} {M N : sy_Mm} (h : kqS q M N) (k : Nat) (hk : k ≠ q) (d : ∀ j, ¬ dead k j) : N k = M k := funext fun j => h k j hk (d j)
theorem ctC.cg {M N : sy_Mm} {E : Evs} {ne S L : Nat} {h0 : Nat → Nat} {fg : Nat → Bool} (h : ctC M E ne S L h0 fg) (r : ∀ k, k ≤ 12 → N k = M k) : ctC N E ne S L h0 fg := by
  unfold ctC taleC at h ⊢
  rw [r 1 (by omega), r 2 (by omega), r 3 (by omega), r 4 (by omega), r 5 (by omega), r 6 (by omega), r 7 (by omega), r 8 (by omega), r 9 (by omega)]
  exact h
theorem yardC.cg {M N : sy_Mm} {S L : Nat} {Y : Yd} (h : yardC M S L Y) (r : ∀ k, k ≤ 12 → N k = M k) : yardC N S L Y := by
  unfold yardC ownC at h ⊢
  rw [r 9 (by omega), r 10 (by omega), r 11 (by omega), r 12 (by omega)]
  exact h
def egS (S L : Nat) (h0 : Nat → Nat) (fg : Nat → Bool) (E : Evs) (ne h N : Nat) : Int32 := nI (1 + 2 * cnB (lkp (yF S h0 E none N ne).1 (yF S h0 E none N ne).2.1 L N fg h) S)
theorem min_nI {a b : Nat} (ha : a < 2 ^ 31) (hb : b < 2 ^ 31) : (if nI a < nI b then nI a else nI b) = nI (if a < b then a else b) := by
  by_cases h : a < b
  · rw [if_pos (nI_lt h hb), if_pos h]
  · rw [if_neg (nI_nlt (by omega) ha), if_neg h]
set_option maxRecDepth 100000 in
set_option maxHeartbeats 4000000 in
theorem ex_writeL (d : Nat) (M : sy_Mm) (s h N0 m f : Nat) (E : Evs) (ne S L : Nat) (h0 : Nat → Nat) (fg : Nat → Bool) (hs : s < 4) (hh : h < 8) (hm : m ≤ 60) (hN : N0 + m ≤ 300) (h1 : M (22 + 2 * s) 1 = nI f) (hC : ctC M E ne S L h0 fg) : ∀ (j i k : Nat) (M1 : sy_Mm), i + j = m → k ≤ ne → ctC M1 E ne S L h0 fg → yardC M1 S L (yG S h0 E none k) → M1 9 7 = nI k → (∀ e, e < k → E e 1 ≤ N0 + i) → M1 9 5 = nI (bN (rlB fg) S) → (∀ j, j < i → M1 (23 + 2 * s) j = cutS (nI f) (egS S L h0 fg E ne h (N0 + j))) → (∀ j, i ≤ j → M1 (23 + 2 * s) j = M (23 + 2 * s) j) → kqS (23 + 2 * s) M M1 →
    Fx (d + 4) i_X7_write 78 [some (.ref 0), some (.int (nI h)), some (.int (nI N0)), some (.int (nI s)), some (.ref (22 + 2 * s)), some (.int (nI m)), some (.int (nI i))] [.int (nI m), .int (nI i)] M1 (fun r N => r = some (.int (nI m)) ∧ (∀ j, j < m → N (23 + 2 * s) j = cutS (nI f) (egS S L h0 fg E ne h (N0 + j))) ∧ (∀ j, m ≤ j → N (23 + 2 * s) j = M (23 + 2 * s) j) ∧ kqS (23 + 2 * s) M N) := by
  intro j
  induction j with
  | zero =>
    intro i k M1 hi hk hC1 hY h7 hlo h5 c1 c2 c3
    have e : i = m := by omega
    subst e
    rcases (show s = 0 ∨ s = 1 ∨ s = 2 ∨ s = 3 by omega) with rfl | rfl | rfl | rfl
    all_goals
      refine fx_bt rfl (nI_le (Nat.le_refl _) (by omega)) ?_
      repeat refine fx_n rfl ?_
      exact fx_r rfl rfl ⟨rfl, c1, c2, c3⟩
  | succ j ih =>
    intro i k M1 hi hk hC1 hY h7 hlo h5 c1 c2 c3
    have go : ∀ M2 : sy_Mm, atC M2 E ne S L h0 fg none (N0 + i) → kpY M1 M2 → Fx (d + 4) i_X7_write 78 [some (.ref 0), some (.int (nI h)), some (.int (nI N0)), some (.int (nI s)), some (.ref (22 + 2 * s)), some (.int (nI m)), some (.int (nI (i + 1)))] [.int (nI m), .int (nI (i + 1))] (sy_up M2 (23 + 2 * s) i (cutS (M2 (22 + 2 * s) 1) (egS S L h0 fg E ne h (N0 + i)))) (fun r N => r = some (.int (nI m)) ∧ (∀ j, j < m → N (23 + 2 * s) j = cutS (nI f) (egS S L h0 fg E ne h (N0 + j))) ∧ (∀ j, m ≤ j → N (23 + 2 * s) j = M (23 + 2 * s) j) ∧ kqS (23 + 2 * s) M N) := by
      intro M2 b1 b2
      obtain ⟨d1, d2, d3, k', d4, d5⟩ := b1
      rw [yF_stop d1.1 d4] at d3
      obtain ⟨g1, g2⟩ := yStop_next (N' := N0 + (i + 1)) d4 (by omega)
      have r : ∀ k, k ≤ 12 → sy_up M2 (23 + 2 * s) i (cutS (M2 (22 + 2 * s) 1) (egS S L h0 fg E ne h (N0 + i))) k = M2 k := fun k hk => up_k (by omega)
      have eq : M2 (23 + 2 * s) = M1 (23 + 2 * s) := b2.1 _ (by omega) (by omega) (by omega) (by omega)
      have ef : M2 (22 + 2 * s) 1 = nI f := by
        rw [b2.1 _ (by omega) (by omega) (by omega) (by omega), c3 _ _ (by omega) (by unfold dead; omega)]; exact h1
      refine ih (i + 1) k' _ (by omega) g1 (d1.cg r) (d3.cg r) (by rw [r 9 (by omega)]; exact d5) g2 (by rw [r 9 (by omega)]; exact d2) (fun j hj => ?_) (fun j hj => ?_) (c3.kq b2.q).up
      · by_cases e : j = i
        · rw [e, up_s, ef]
        · rw [up_j e, eq]; exact c1 j (by omega)
      · rw [up_j (by omega), eq]; exact c2 j (by omega)
    have sp := fun d M v => ex_sput d M s i v hs (by omega)
    rcases (show s = 0 ∨ s = 1 ∨ s = 2 ∨ s = 3 by omega) with rfl | rfl | rfl | rfl
    all_goals
      refine fx_bf rfl (nI_ge (by omega) (by omega)) ?_
      repeat refine fx_n rfl ?_
      rw [nI_add]
      refine fx_c rfl (ex_tellTo0 _ M1 E ne S L (N0 + i) k h0 fg none (by omega) (fun _ q => by cases q) hC1 hk hY h7 hlo h5) ?_
      rintro _ M2 ⟨rfl, b1, b2⟩
      repeat refine fx_n rfl ?_
      rw [nI_add]
      refine fx_p rfl (ev_eggsOf _ _ S L (N0 + i) h fg _ _ (by omega) hh b1.lk) ?_
      refine fx_c rfl (ex_of (sp _ _ _)) ?_
      rintro _ _ ⟨rfl, rfl⟩
      repeat refine fx_n rfl ?_
      rw [nI_1]
      exact go M2 b1 b2
set_option maxRecDepth 100000 in
set_option maxHeartbeats 4000000 in
theorem em_writeL (d : Nat) (M : sy_Mm) (s h N0 m f : Nat) (E : Evs) (ne S L : Nat) (h0 : Nat → Nat) (fg : Nat → Bool) (hs : s < 4) (hh : h < 8) (hm : m ≤ 60) (hN : N0 + m ≤ 300) (h1 : M 31 s = nI f) : ∀ (j i : Nat) (M1 : sy_Mm), i + j = m → ctM M1 E ne S L h0 fg → (∀ j, j < i → M1 33 (60 * s + j) = cutS (nI f) (egS S L h0 fg E ne h (N0 + j))) → (∀ j, j < 60 * s ∨ 60 * s + i ≤ j → M1 33 j = M 33 j) → kqS 33 M M1 →
    Fx (d + 4) i_X8_write 81 [some (.ref 30), some (.int (nI h)), some (.int (nI N0)), some (.int (nI s)), some (.int (nI m)), some (.int (nI i))] [.int (nI m), .int (nI i)] M1 (fun r N => r = some (.int (nI m)) ∧ (∀ j, j < m → N 33 (60 * s + j) = cutS (nI f) (egS S L h0 fg E ne h (N0 + j))) ∧ (∀ j, j < 60 * s ∨ 60 * s + m ≤ j → N 33 j = M 33 j) ∧ kqS 33 M N) := by
  intro j
  induction j with
  | zero =>
    intro i M1 hi hC1 c1 c2 c3
    have e : i = m := by omega
    subst e
    refine fx_bt rfl (nI_le (Nat.le_refl _) (by omega)) ?_
    repeat refine fx_n rfl ?_
    exact fx_r rfl rfl ⟨rfl, c1, c2, c3⟩
  | succ j ih =>
    intro i M1 hi hC1 c1 c2 c3
    refine fx_bf rfl (nI_ge (by omega) (by omega)) ?_
    repeat refine fx_n rfl ?_
    rw [sx_nI, nI_add]
    refine fx_g rfl (ix_nI (by omega) (by omega)) ?_
    rw [nI_cl (by omega), c3 31 s (by omega) (by unfold dead; omega), h1]
    repeat refine fx_n rfl ?_
    rw [nI_add]
    refine fx_c rfl (em_luckOf _ M1 E ne S L (N0 + i) h 1 h0 fg (by omega) hh hC1) ?_
    rintro _ M2 ⟨rfl, b1, b2⟩
    rw [if_neg (by decide)]
    refine fx_p rfl (em_cut _ _ _ _) ?_
    refine fx_g rfl (ix_nI (by omega) (by omega)) ?_
    rw [nI_cl (by omega)]
    repeat refine fx_n rfl ?_
    rw [nI_1]
    have eq : M2 33 = M1 33 := b2.1 33 (by omega) (by omega) (by omega) (by omega)
    refine ih (i + 1) _ (by omega) ?_ (fun j hj => ?_) (fun j hj => ?_) (c3.kq b2.q).up
    · have := hC1.kp b2
      exact this
    · by_cases e : j = i
      · rw [e, up_s]; rfl
      · rw [up_j (by omega), eq]; exact c1 j (by omega)
    · rw [up_j (by omega), eq]; exact c2 j (by omega)
set_option maxRecDepth 100000 in
set_option maxHeartbeats 4000000 in
theorem ag_write {M : sy_Mm} (h : Inv M) (x t v : Int32) : AG i_X7_write i_X8_write [.int x, .int t, .int v] M := by
  intro d
  obtain ⟨nn, E, ne, L, B, nb, G, F, h1, h2, h3, h4, h5, h6, h7⟩ := id h
  unfold Ex
  have modBad : (inR x 0 7 && (inR t 0 299 && inR v 0 3)) = false → ∀ r : Option Value, r = some (.int (-2)) → Fx (d + 30) i_X8_write 0 (sy_en i_X8_write [.ref 30, .int x, .int t, .int v]) [] M (fun r' N' => r' = r ∧ Inv N') := by
    intro gg r hr
    subst hr
    repeat refine fx_n rfl ?_
    refine fx_p rfl (em_isHouse _ _ _) (fx_ze rfl (fun g1 => by ((repeat refine fx_n rfl ?_); exact fx_r rfl rfl ⟨by simp [g1, zb_f], h⟩)) (fun g1 => ?_))
    repeat refine fx_n rfl ?_
    refine fx_p rfl (em_isNight _ _ _) (fx_ze rfl (fun g2 => by ((repeat refine fx_n rfl ?_); exact fx_r rfl rfl ⟨by simp [g2, zb_f], h⟩)) (fun g2 => ?_))
    repeat refine fx_n rfl ?_
    refine fx_p rfl (em_isSheet _ _ _) (fx_zn rfl (fun g3 => ?_) (fun g3 => ?_))
    · rw [g1, g2, g3] at gg; cases gg
    · repeat refine fx_n rfl ?_
      exact fx_r rfl rfl ⟨rfl, h⟩
  repeat refine fx_n rfl ?_
  refine fx_p rfl (ev_isHouse _ _ _) (fx_ze rfl (fun g1 => by ((repeat refine fx_n rfl ?_); exact fx_r rfl rfl ⟨⟨_, rfl⟩, modBad (by simp [g1]) _ rfl⟩)) (fun g1 => ?_))
  repeat refine fx_n rfl ?_
  refine fx_p rfl (ev_wi _ _ _ _ 299 rfl) (fx_ze rfl (fun g2 => by ((repeat refine fx_n rfl ?_); exact fx_r rfl rfl ⟨⟨_, rfl⟩, modBad (by simp [g2]) _ rfl⟩)) (fun g2 => ?_))
  repeat refine fx_n rfl ?_
  refine fx_p rfl (ev_isSheet _ _ _) (fx_zn rfl (fun g3 => ?_) (fun g3 => by ((repeat refine fx_n rfl ?_); exact fx_r rfl rfl ⟨⟨_, rfl⟩, modBad (by simp [g3]) _ rfl⟩)))
  obtain ⟨hs, hhs, rfl⟩ := inR_nI (b := 7) g1
  obtain ⟨N0, hN0, rfl⟩ := inR_nI (b := 299) g2
  obtain ⟨s, hs4, rfl⟩ := inR_nI (b := 3) g3
  have hsh := h6 s (by omega)
  have hl := fun d => ev_isLost d M s (by omega)
  have modTo : ∀ (N : sy_Mm) (P : Option Value → sy_Mm → Prop), Fx (d + 30) i_X8_write 29 [some (.ref 30), some (.int (nI hs)), some (.int (nI N0)), some (.int (nI s)), none, none] [.int (nI s), .ref 31] N P → Fx (d + 30) i_X8_write 0 (sy_en i_X8_write [.ref 30, .int (nI hs), .int (nI N0), .int (nI s)]) [] N P := by
    intro N P kk
    repeat refine fx_n rfl ?_
    refine fx_p rfl (em_isHouse _ _ _) (fx_ze rfl (fun z => by rw [g1] at z; cases z) (fun _ => ?_))
    repeat refine fx_n rfl ?_
    refine fx_p rfl (em_isNight _ _ _) (fx_ze rfl (fun z => by rw [g2] at z; cases z) (fun _ => ?_))
    repeat refine fx_n rfl ?_
    refine fx_p rfl (em_isSheet _ _ _) (fx_zn rfl (fun _ => ?_) (fun z => by rw [g3] at z; cases z))
    repeat refine fx_n rfl ?_
    exact kk
  cases hF : F s with
  | none =>
    rw [hF] at hsh
    obtain ⟨a1, a2, a3⟩ := hsh
    rw [a1] at hl
    have cls : ∀ Q : Option Value → sy_Mm → Prop, Q (some (.int (-10 - 1))) (sy_up M 0 7 1) → Fx (d + 30) i_X7_write 32 [some (.ref 0), some (.int (nI hs)), some (.int (nI N0)), some (.int (nI s)), none, none, none] [.int (nI s), .ref 21] M Q := by
      intro Q hQ
      rcases (show s = 0 ∨ s = 1 ∨ s = 2 ∨ s = 3 by omega) with rfl | rfl | rfl | rfl
      all_goals
        refine fx_g rfl (by decide) ?_
        repeat refine fx_n rfl ?_
        refine fx_p rfl (hl _) ?_
        refine fx_bf rfl (by decide) ?_
        repeat refine fx_n rfl ?_
        refine fx_c rfl (ex_of (ev_found _ _ _)) ?_
        rintro _ _ ⟨rfl, rfl⟩
        repeat refine fx_n rfl ?_
        exact fx_r rfl rfl hQ
    repeat refine fx_n rfl ?_
    refine cls _ ⟨⟨_, rfl⟩, modTo _ _ ?_⟩
    refine fx_g rfl (ix_nI (by omega) (by omega)) ?_
    rw [nI_cl (by omega), up_k (by omega), a3]
    refine fx_bf rfl (by decide) ?_
    repeat refine fx_n rfl ?_
    refine fx_c rfl (ex_of (em_met _ _ _)) ?_
    rintro _ _ ⟨rfl, rfl⟩
    exact fx_r rfl rfl ⟨rfl, h.fnd 1⟩
  | some q =>
    obtain ⟨f, z⟩ := q
    rw [hF] at hsh
    obtain ⟨a1, a2, a3, a4, a5, a6, a7⟩ := hsh
    rw [a3, decide_eq_false (nI_ne_m1 (by omega))] at hl
    obtain ⟨m, hm⟩ : ∃ m, (if 300 - N0 < z then 300 - N0 else z) = m := ⟨_, rfl⟩
    have hm1 : m ≤ z ∧ N0 + m ≤ 300 := by rw [← hm]; split <;> omega
    have hCC := inv_ctC h1 h2 h3
    have cls : ∀ Q : Option Value → sy_Mm → Prop, (∀ N, (∀ j, j < m → N (23 + 2 * s) j = cutS (nI f) (egS (tx_st (M 2) nn) L (tx_h (M 2)) (tx_fg (M 2)) E ne hs (N0 + j))) → (∀ j, m ≤ j → N (23 + 2 * s) j = M (23 + 2 * s) j) → kqS (23 + 2 * s) M N → Q (some (.int (nI m))) N) → Fx (d + 30) i_X7_write 32 [some (.ref 0), some (.int (nI hs)), some (.int (nI N0)), some (.int (nI s)), none, none, none] [.int (nI s), .ref 21] M Q := by
      intro Q hQ
      have emin : (if (300 : Int32) - nI N0 < M (22 + 2 * s) 2 then (300 : Int32) - nI N0 else M (22 + 2 * s) 2) = nI m := by
        rw [show (300 : Int32) - nI N0 = nI (300 - N0) from pk_sub (a := 300) (b := N0) (by omega), a4, min_nI (by omega) (by omega), hm]
      have lp : ∀ (M1 : sy_Mm), yardC M1 (tx_st (M 2) nn) L (y0 (tx_h (M 2))) → M1 9 7 = nI 0 → M1 9 5 = nI (bN (rlB (tx_fg (M 2))) (tx_st (M 2) nn)) → kpY M M1 → _ := fun M1 b1 b2 b3 b4 => ex_writeL (d + 26) M s hs N0 m f E ne (tx_st (M 2) nn) L (tx_h (M 2)) (tx_fg (M 2)) (by omega) (by omega) (by omega) (by omega) a3 hCC m 0 0 M1 (by omega) (by omega) (hCC.kp b4) b1 b2 (fun e he => by omega) b3 (fun j hj => by omega) (fun j hj => congrFun (b4.1 _ (by omega) (by omega) (by omega) (by omega)) j) (kqS.rf.kq b4.q)
      rcases (show s = 0 ∨ s = 1 ∨ s = 2 ∨ s = 3 by omega) with rfl | rfl | rfl | rfl
      all_goals
        refine fx_g rfl (by decide) ?_
        repeat refine fx_n rfl ?_
        refine fx_p rfl (hl _) ?_
        refine fx_bt rfl (by decide) ?_
        repeat refine fx_n rfl ?_
        refine fx_c rfl (ex_begin _ M E ne _ L _ _ hCC) ?_
        rintro _ M1 ⟨rfl, b1, b2, b3, b4⟩
        repeat refine fx_n rfl ?_
        have lp1 := lp M1 b1 b2 b3 b4
        rw [← emin] at lp1
        refine fx_w lp1 ?_
        rw [emin]
        rintro _ N ⟨rfl, e1, e2, e3⟩
        exact hQ N e1 e2 e3
    repeat refine fx_n rfl ?_
    refine cls _ (fun N b1 b2 b3 => ⟨⟨_, rfl⟩, modTo _ _ ?_⟩)
    have n31 : N 31 = M 31 := b3.row 31 (by omega) (fun j => by unfold dead; omega)
    have n32 : N 32 = M 32 := b3.row 32 (by omega) (fun j => by unfold dead; omega)
    have n33 : N 33 = M 33 := b3.row 33 (by omega) (fun j => by unfold dead; omega)
    have n2 : N 2 = M 2 := b3.row 2 (by omega) (fun j => by unfold dead; omega)
    have h1N : iText N nn := h1.cg (b3.row 1 (by omega) (fun j => by unfold dead; omega)) n2 (b3.row 35 (by omega) (fun j => by unfold dead; omega)) (b3 30 6 (by omega) (by unfold dead; omega))
    have h2N : iTale N E ne := h2.cg (b3.row 3 (by omega) (fun j => by unfold dead; omega)) (b3.row 4 (by omega) (fun j => by unfold dead; omega)) (b3.row 5 (by omega) (fun j => by unfold dead; omega)) (b3.row 6 (by omega) (fun j => by unfold dead; omega)) (b3.row 7 (by omega) (fun j => by unfold dead; omega)) (b3.row 8 (by omega) (fun j => by unfold dead; omega)) (b3.row 37 (by omega) (fun j => by unfold dead; omega)) (b3 30 12 (by omega) (by unfold dead; omega))
    have h3N : iLast N L := h3.cg (b3 9 6 (by omega) (by unfold dead; omega)) (b3 30 11 (by omega) (by unfold dead; omega))
    refine fx_g rfl (ix_nI (by omega) (by omega)) ?_
    rw [nI_cl (by omega), n31, a5]
    refine fx_bt rfl (nI_pos' (by omega)) ?_
    repeat refine fx_n rfl ?_
    refine fx_c rfl (em_reads' _ h1N) ?_
    rintro _ N1 ⟨rfl, hr⟩
    have hCM := inv_ctM h1N h2N h3N hr
    rw [n2] at hCM
    have k1 := hr.q
    repeat refine fx_n rfl ?_
    refine fx_g rfl (ix_nI (by omega) (by omega)) ?_
    rw [nI_cl (by omega), k1 32 s (by unfold dead; omega), n32, a6]
    repeat refine fx_n rfl ?_
    rw [show (300 : Int32) - nI N0 = nI (300 - N0) from pk_sub (a := 300) (b := N0) (by omega)]
    have fin : Fx (d + 30) i_X8_write 81 [some (.ref 30), some (.int (nI hs)), some (.int (nI N0)), some (.int (nI s)), some (.int (nI m)), some (.int (nI 0))] [.int (nI m), .int (nI 0)] N1 (fun r' N' => r' = some (.int (nI m)) ∧ Inv N') := by
      refine fx_w (em_writeL (d + 26) N1 s hs N0 m f E ne (tx_st (M 2) nn) L (tx_h (M 2)) (tx_fg (M 2)) (by omega) (by omega) (by omega) (by omega) (by rw [k1 31 s (by unfold dead; omega), n31]; exact a5) m 0 N1 (by omega) hCM (fun j hj => by omega) (fun j hj => rfl) kqS.rf) ?_
      rintro _ N2 ⟨rfl, c1, c2, c3⟩
      have cK : ∀ k j, k ≠ 33 → k ≠ 23 + 2 * s → ¬ dead k j → N2 k j = M k j := fun k j q1 q2 q3 => by rw [c3 k j q1 q3, k1 k j q3, b3 k j q2 q3]
      have cR : ∀ k, k ≠ 33 → k ≠ 23 + 2 * s → (∀ j, ¬ dead k j) → N2 k = M k := fun k q1 q2 q3 => funext fun j => cK k j q1 q2 (q3 j)
      refine ⟨rfl, nn, E, ne, L, B, nb, G, fun q => if q = s then some (f, z) else F q, h1.cg ?_ ?_ ?_ ?_, h2.cg ?_ ?_ ?_ ?_ ?_ ?_ ?_ ?_, h3.cg ?_ ?_, h4.cg ?_ ?_ ?_ ?_ ?_ ?_, h5.cg ?_ ?_, h6.st (s := s) (some (f, z)) (fun k q1 q2 q3 q4 => cR k (by omega) q4 (fun j => by unfold dead; omega)) ?_ ?_ ?_ ?_, ?_⟩
      all_goals (first | (exact cR _ (by omega) (by omega) (fun j => by unfold dead; omega)) | (exact cK _ _ (by omega) (by omega) (by unfold dead; omega)) | skip)
      · intro q hq; exact cK _ _ (by omega) (by omega) (by unfold dead; omega)
      · intro q hq; exact cK _ _ (by omega) (by omega) (by unfold dead; omega)
      · intro q hq; rw [c2 q (by omega), k1 33 q (by unfold dead; omega), n33]
      · refine ⟨a1, a2, ?_, ?_, ?_, ?_, fun j hj => ?_⟩
        · rw [cK _ _ (by omega) (by omega) (by unfold dead; omega)]; exact a3
        · rw [cK _ _ (by omega) (by omega) (by unfold dead; omega)]; exact a4
        · rw [cK _ _ (by omega) (by omega) (by unfold dead; omega)]; exact a5
        · rw [cK _ _ (by omega) (by omega) (by unfold dead; omega)]; exact a6
        · have eq : N2 (23 + 2 * s) j = N (23 + 2 * s) j := by rw [c3 _ _ (by omega) (by unfold dead; omega), k1 _ _ (by unfold dead; omega)]
          rw [eq]
          by_cases e : j < m
          · rw [c1 j e, b1 j e]
          · rw [c2 _ (by omega), k1 33 _ (by unfold dead; omega), n33, b2 j (by omega)]; exact a7 j hj
      · rw [cK 0 7 (by omega) (by omega) (by unfold dead; omega), cK 30 4 (by omega) (by omega) (by unfold dead; omega)]; exact h7
    by_cases hq : 300 - N0 ≤ z
    · refine fx_bt rfl (nI_le hq (by omega)) ?_
      repeat refine fx_n rfl ?_
      rw [show (300 : Int32) - nI N0 = nI (300 - N0) from pk_sub (a := 300) (b := N0) (by omega), show 300 - N0 = m by rw [← hm]; split <;> omega]
      exact fin
    · refine fx_bf rfl (nI_ge (by omega) (by omega)) ?_
      repeat refine fx_n rfl ?_
      refine fx_g rfl (ix_nI (by omega) (by omega)) ?_
      rw [nI_cl (by omega), k1 32 s (by unfold dead; omega), n32, a6, show z = m by rw [← hm]; split <;> omega]
      repeat refine fx_n rfl ?_
      exact fin
end
section
/-! ===== copy ===== -/
def spB (z : Nat) (i n : Int32) : Bool := decide (0 ≤ i.toInt ∧ 0 ≤ n.toInt ∧ i.toInt + n.toInt ≤ (z : Int))
theorem spB_t {z : Nat} {i n : Int32} (h : spB z i n = true) (hz : z ≤ 60) : ∃ a c : Nat, i = nI a ∧ n = nI c ∧ a + c ≤ z := by
  have h' := of_decide_eq_true h
  obtain ⟨a, ha, rfl⟩ := inR_nI (x := i) (b := 60) (inR_t.mpr (by omega))
  obtain ⟨c, hc, rfl⟩ := inR_nI (x := n) (b := 60) (inR_t.mpr (by omega))
  rw [nI_toInt (by omega), nI_toInt (by omega)] at h'
  exact ⟨a, c, rfl, rfl, by omega⟩
set_option maxRecDepth 100000 in
set_option maxHeartbeats 4000000 in
theorem ev_hasSpan (d : Nat) (M : sy_Mm) (s z : Nat) (i n : Int32) (hs : s < 4) (hz : z ≤ 60) (h2 : M (22 + 2 * s) 2 = nI z) : Ev d i_X3_hasSpan [.ref (22 + 2 * s), .int i, .int n] M (some (.int (zb (spB z i n)))) M := by
  have ht : (nI z).toInt = (z : Int) := nI_toInt (by omega)
  rcases (show s = 0 ∨ s = 1 ∨ s = 2 ∨ s = 3 by omega) with rfl | rfl | rfl | rfl
  all_goals
    refine ev_of ?_
    repeat refine fx_n rfl ?_
    refine fx_b rfl (fun q => ?_) (fun q => ?_)
    · repeat refine fx_n rfl ?_
      refine fx_r rfl rfl ⟨?_, rfl⟩
      rw [show spB z i n = false from decide_eq_false (by rw [Int32.lt_iff_toInt_lt] at q; simp at q; omega)]; rfl
    repeat refine fx_n rfl ?_
    refine fx_b rfl (fun q2 => ?_) (fun q2 => ?_)
    · repeat refine fx_n rfl ?_
      refine fx_r rfl rfl ⟨?_, rfl⟩
      rw [show spB z i n = false from decide_eq_false (by rw [Int32.lt_iff_toInt_lt] at q2; simp at q2; omega)]; rfl
    repeat refine fx_n rfl ?_
    refine fx_b rfl (fun q3 => ?_) (fun q3 => ?_)
    · have q4 : nI z < n := by rw [← h2]; exact q3
      repeat refine fx_n rfl ?_
      refine fx_r rfl rfl ⟨?_, rfl⟩
      rw [show spB z i n = false from decide_eq_false (by rw [Int32.lt_iff_toInt_lt] at q q2 q4; simp at q q2; omega)]; rfl
    have q4 : ¬ nI z < n := by rw [← h2]; exact q3
    rw [Int32.lt_iff_toInt_lt] at q q2 q4
    simp at q q2
    obtain ⟨c, hc, e⟩ := inR_nI (x := n) (b := z) (inR_t.mpr (by omega))
    have es : (nI z - nI c).toInt = (z : Int) - c := pk_sub_toInt (by omega) (by omega)
    have en : n.toInt = (c : Int) := by rw [e]; exact nI_toInt (by omega)
    repeat refine fx_n rfl ?_
    refine fx_b rfl (fun q5 => ?_) (fun q5 => ?_)
    · have q6 : nI z - nI c < i := by rw [← h2, ← e]; exact q5
      rw [Int32.lt_iff_toInt_lt] at q6
      repeat refine fx_n rfl ?_
      refine fx_r rfl rfl ⟨?_, rfl⟩
      rw [show spB z i n = false from decide_eq_false (by omega)]; rfl
    · have q6 : ¬ nI z - nI c < i := by rw [← h2, ← e]; exact q5
      rw [Int32.lt_iff_toInt_lt] at q6
      repeat refine fx_n rfl ?_
      refine fx_r rfl rfl ⟨?_, rfl⟩
      rw [show spB z i n = true from decide_eq_true (by omega)]; rfl
theorem ladd32 (i n : Int32) : (i.toInt64 + n.toInt64).toInt = i.toInt + n.toInt := by
  have h1 := Int32.toInt_lt i
  have h2 := Int32.le_toInt i
  have h3 := Int32.toInt_lt n
  have h4 := Int32.le_toInt n
  have e := Int64.toInt_add i.toInt64 n.toInt64
  rw [Int32.toInt_toInt64, Int32.toInt_toInt64, Int.bmod_def] at e
  rw [e]
  split <;> omega
set_option maxRecDepth 100000 in
set_option maxHeartbeats 4000000 in
theorem ex_copy (d : Nat) (M : sy_Mm) (s t z w : Nat) (i j n : Int32) (hs : s < 4) (ht : t < 4) (hz : z ≤ 60) (hw : w ≤ 60) (s2 : M (22 + 2 * s) 2 = nI z) (t2 : M (22 + 2 * t) 2 = nI w) (Q : Option Value → sy_Mm → Prop)
    (hQ1 : (M (22 + 2 * s) 1 = -1 ∨ M (22 + 2 * t) 1 = -1) → Q (some (.int (-10 - 1))) (sy_up M 0 7 1))
    (hQ4 : ¬ M (22 + 2 * s) 1 = -1 → ¬ M (22 + 2 * t) 1 = -1 → ¬ M (22 + 2 * s) 1 = M (22 + 2 * t) 1 → Q (some (.int (-10 - 4))) (sy_up M 0 7 4))
    (hQ2 : ¬ M (22 + 2 * s) 1 = -1 → ¬ M (22 + 2 * t) 1 = -1 → M (22 + 2 * s) 1 = M (22 + 2 * t) 1 → (spB z i n = false ∨ spB w j n = false) → Q (some (.int (-10 - 2))) (sy_up M 0 7 2))
    (hQ0 : ¬ M (22 + 2 * s) 1 = -1 → ¬ M (22 + 2 * t) 1 = -1 → M (22 + 2 * s) 1 = M (22 + 2 * t) 1 → ∀ a b c : Nat, i = nI a → j = nI b → n = nI c → a + c ≤ z → b + c ≤ w → Q (some (.int 1)) (sy_row M (23 + 2 * t) (va_cpy (M (23 + 2 * s)) (M (23 + 2 * t)) a b c))) :
    Fx (d + 1) i_X7_copy 22 [some (.ref 0), some (.int (nI s)), some (.int i), some (.int (nI t)), some (.int j), some (.int n), none, none] [.int (nI s), .ref 21] M Q := by
  have ls := fun d => ev_isLost d M s hs
  have lt := fun d => ev_isLost d M t ht
  have ps := fun d => ev_hasSpan d M s z i n hs hz s2
  have pt := fun d => ev_hasSpan d M t w j n ht hw t2
  rcases (show s = 0 ∨ s = 1 ∨ s = 2 ∨ s = 3 by omega) with rfl | rfl | rfl | rfl <;> rcases (show t = 0 ∨ t = 1 ∨ t = 2 ∨ t = 3 by omega) with rfl | rfl | rfl | rfl
  all_goals
    refine fx_g rfl (by decide) ?_
    repeat refine fx_n rfl ?_
    refine fx_g rfl (by decide) ?_
    repeat refine fx_n rfl ?_
    refine fx_p rfl (ls _) (fx_zn rfl (fun g1 => ?_) (fun g1 => ?_))
    · repeat refine fx_n rfl ?_
      refine fx_c rfl (ex_of (ev_found _ _ _)) ?_
      rintro _ _ ⟨rfl, rfl⟩
      repeat refine fx_n rfl ?_
      exact fx_r rfl rfl (hQ1 (Or.inl (of_decide_eq_true g1)))
    have g1 := of_decide_eq_false g1
    repeat refine fx_n rfl ?_
    refine fx_p rfl (lt _) (fx_ze rfl (fun g2 => ?_) (fun g2 => ?_))
    · have g2 := of_decide_eq_false g2
      repeat refine fx_n rfl ?_
      refine fx_b rfl (fun g3 => ?_) (fun g3 => ?_)
      · repeat refine fx_n rfl ?_
        refine fx_p rfl (ps _) (fx_ze rfl (fun g4 => ?_) (fun g4 => ?_))
        · repeat refine fx_n rfl ?_
          refine fx_c rfl (ex_of (ev_found _ _ _)) ?_
          rintro _ _ ⟨rfl, rfl⟩
          repeat refine fx_n rfl ?_
          exact fx_r rfl rfl (hQ2 g1 g2 g3 (Or.inl g4))
        · repeat refine fx_n rfl ?_
          refine fx_p rfl (pt _) (fx_zn rfl (fun g5 => ?_) (fun g5 => ?_))
          · obtain ⟨a, c, rfl, rfl, h1⟩ := spB_t g4 hz
            obtain ⟨b, c', rfl, e, h2⟩ := spB_t g5 hw
            have e := (nI_eq (by omega) (by omega)).mp e
            subst e
            repeat refine fx_n rfl ?_
            refine fx_g rfl ⟨⟨nI_pos (by omega), nI_pos (by omega), nI_pos (by omega)⟩, by rw [nI_cl (by omega), nI_cl (by omega)]; omega, by rw [nI_cl (by omega), nI_cl (by omega)]; omega⟩ ?_
            rw [nI_cl (by omega), nI_cl (by omega), nI_cl (by omega)]
            repeat refine fx_n rfl ?_
            exact fx_r rfl rfl (hQ0 g1 g2 g3 a b c rfl rfl rfl h1 h2)
          · repeat refine fx_n rfl ?_
            refine fx_c rfl (ex_of (ev_found _ _ _)) ?_
            rintro _ _ ⟨rfl, rfl⟩
            repeat refine fx_n rfl ?_
            exact fx_r rfl rfl (hQ2 g1 g2 g3 (Or.inr g5))
      · repeat refine fx_n rfl ?_
        refine fx_c rfl (ex_of (ev_found _ _ _)) ?_
        rintro _ _ ⟨rfl, rfl⟩
        repeat refine fx_n rfl ?_
        exact fx_r rfl rfl (hQ4 g1 g2 g3)
    · repeat refine fx_n rfl ?_
      refine fx_c rfl (ex_of (ev_found _ _ _)) ?_
      rintro _ _ ⟨rfl, rfl⟩
      repeat refine fx_n rfl ?_
      exact fx_r rfl rfl (hQ1 (Or.inr (of_decide_eq_true g2)))
set_option maxRecDepth 100000 in
set_option maxHeartbeats 4000000 in
theorem em_copy1 (d : Nat) (M : sy_Mm) (s a c : Nat) (x y z : Option Value) (hs : s < 4) (hac : a + c ≤ 60) (K : Option Value → sy_Mm → Prop) (k : ∀ N, (∀ q, q < c → N 34 q = M 33 (60 * s + a + q)) → (∀ p, p ≠ 34 → N p = M p) → Fx d i_X8_copy 154 [some (.ref 30), some (.int (nI s)), some (.int (nI a)), x, y, some (.int (nI c)), some (.int (nI c))] [] N K) : ∀ (m i : Nat) (M1 : sy_Mm), i + m = c → (∀ q, q < i → M1 34 q = M 33 (60 * s + a + q)) → (∀ p, p ≠ 34 → M1 p = M p) → Fx d i_X8_copy 124 [some (.ref 30), some (.int (nI s)), some (.int (nI a)), x, y, some (.int (nI c)), some (.int (nI i))] [.int (nI c), .int (nI i)] M1 K := by
  intro m
  induction m with
  | zero =>
    intro i M1 hi c1 c2
    have e : i = c := by omega
    subst e
    refine fx_bt rfl (nI_le (Nat.le_refl _) (by omega)) ?_
    exact k M1 c1 c2
  | succ m ih =>
    intro i M1 hi c1 c2
    refine fx_bf rfl (nI_ge (by omega) (by omega)) ?_
    repeat refine fx_n rfl ?_
    rw [sx_nI, nI_add, nI_add]
    refine fx_g rfl (ix_nI (by omega) (by omega)) ?_
    rw [nI_cl (by omega), c2 33 (by omega)]
    refine fx_g rfl (ix_nI (by omega) (by omega)) ?_
    rw [nI_cl (by omega)]
    repeat refine fx_n rfl ?_
    rw [nI_1]
    refine ih (i + 1) _ (by omega) (fun q hq => ?_) (fun p hp => by rw [up_k hp]; exact c2 p hp)
    by_cases e : q = i
    · rw [e, up_s]
    · rw [up_j e]; exact c1 q (by omega)
set_option maxRecDepth 100000 in
set_option maxHeartbeats 4000000 in
theorem em_copy2 (d : Nat) (M : sy_Mm) (t b c : Nat) (x y : Option Value) (ht : t < 4) (hbc : b + c ≤ 60) : ∀ (m i : Nat) (M1 : sy_Mm), i + m = c → (∀ q, q < i → M1 33 (60 * t + b + q) = M 34 q) → (∀ q, q < 60 * t + b ∨ 60 * t + b + i ≤ q → M1 33 q = M 33 q) → (∀ p, p ≠ 33 → M1 p = M p) → Fx d i_X8_copy 161 [some (.ref 30), x, y, some (.int (nI t)), some (.int (nI b)), some (.int (nI c)), some (.int (nI i))] [.int (nI c), .int (nI i)] M1 (fun r N => r = some (.int 1) ∧ (∀ q, q < c → N 33 (60 * t + b + q) = M 34 q) ∧ (∀ q, q < 60 * t + b ∨ 60 * t + b + c ≤ q → N 33 q = M 33 q) ∧ ∀ p, p ≠ 33 → N p = M p) := by
  intro m
  induction m with
  | zero =>
    intro i M1 hi c1 c2 c3
    have e : i = c := by omega
    subst e
    refine fx_bt rfl (nI_le (Nat.le_refl _) (by omega)) ?_
    repeat refine fx_n rfl ?_
    exact fx_r rfl rfl ⟨rfl, c1, c2, c3⟩
  | succ m ih =>
    intro i M1 hi c1 c2 c3
    refine fx_bf rfl (nI_ge (by omega) (by omega)) ?_
    repeat refine fx_n rfl ?_
    rw [sx_nI, nI_add, nI_add]
    refine fx_g rfl (ix_nI (by omega) (by omega)) ?_
    rw [nI_cl (by omega), c3 34 (by omega)]
    refine fx_g rfl (ix_nI (by omega) (by omega)) ?_
    rw [nI_cl (by omega)]
    repeat refine fx_n rfl ?_
    rw [nI_1]
    refine ih (i + 1) _ (by omega) (fun q hq => ?_) (fun q hq => ?_) (fun p hp => by rw [up_k hp]; exact c3 p hp)
    · by_cases e : q = i
      · rw [e, up_s]
      · rw [up_j (by omega)]; exact c1 q (by omega)
    · rw [up_j (by omega)]; exact c2 q (by omega)
theorem row_s {M : sy_Mm} {k : Nat} {f : Nat → Int32} : sy_row M k f k = f := sy_row_s
theorem row_n {M : sy_Mm} {k q : Nat} {f : Nat → Int32} (h : q ≠ k) : sy_row M k f q = M q := sy_row_n h
set_option maxRecDepth 100000 in
set_option maxHeartbeats 4000000 in
theorem ag_copy {M : sy_Mm} (h : Inv M) (x i y j n : Int32) : AG i_X7_copy i_X8_copy [.int x, .int i, .int y, .int j, .int n] M := by
  intro d
  obtain ⟨nn, E, ne, L, B, nb, G, F, h1, h2, h3, h4, h5, h6, h7⟩ := id h
  unfold Ex
  have modBad : (inR x 0 3 && inR y 0 3) = false → ∀ r : Option Value, r = some (.int (-2)) → Fx (d + 30) i_X8_copy 0 (sy_en i_X8_copy [.ref 30, .int x, .int i, .int y, .int j, .int n]) [] M (fun r' N' => r' = r ∧ Inv N') := by
    intro gg r hr
    subst hr
    repeat refine fx_n rfl ?_
    refine fx_p rfl (em_isSheet _ _ _) (fx_ze rfl (fun g1 => by ((repeat refine fx_n rfl ?_); exact fx_r rfl rfl ⟨by simp [g1, zb_f], h⟩)) (fun g1 => ?_))
    repeat refine fx_n rfl ?_
    refine fx_p rfl (em_isSheet _ _ _) (fx_zn rfl (fun g3 => ?_) (fun g3 => ?_))
    · rw [g1, g3] at gg; cases gg
    · repeat refine fx_n rfl ?_
      exact fx_r rfl rfl ⟨rfl, h⟩
  repeat refine fx_n rfl ?_
  refine fx_p rfl (ev_isSheet _ _ _) (fx_ze rfl (fun g1 => by ((repeat refine fx_n rfl ?_); exact fx_r rfl rfl ⟨⟨_, rfl⟩, modBad (by simp [g1]) _ rfl⟩)) (fun g1 => ?_))
  repeat refine fx_n rfl ?_
  refine fx_p rfl (ev_isSheet _ _ _) (fx_zn rfl (fun g2 => ?_) (fun g2 => by ((repeat refine fx_n rfl ?_); exact fx_r rfl rfl ⟨⟨_, rfl⟩, modBad (by simp [g2]) _ rfl⟩)))
  obtain ⟨s, hs, rfl⟩ := inR_nI (b := 3) g1
  obtain ⟨t, ht, rfl⟩ := inR_nI (b := 3) g2
  have hss := h6 s (by omega)
  have hst := h6 t (by omega)
  have modTo : ∀ (N : sy_Mm) (P : Option Value → sy_Mm → Prop), Fx (d + 30) i_X8_copy 22 [some (.ref 30), some (.int (nI s)), some (.int i), some (.int (nI t)), some (.int j), some (.int n), none] [.int (nI s), .ref 31] N P → Fx (d + 30) i_X8_copy 0 (sy_en i_X8_copy [.ref 30, .int (nI s), .int i, .int (nI t), .int j, .int n]) [] N P := by
    intro N P kk
    repeat refine fx_n rfl ?_
    refine fx_p rfl (em_isSheet _ _ _) (fx_ze rfl (fun z => by rw [g1] at z; cases z) (fun _ => ?_))
    repeat refine fx_n rfl ?_
    refine fx_p rfl (em_isSheet _ _ _) (fx_zn rfl (fun _ => ?_) (fun z => by rw [g2] at z; cases z))
    repeat refine fx_n rfl ?_
    exact kk
  have siz : ∀ q, q < 4 → ∃ z, z ≤ 60 ∧ M (22 + 2 * q) 2 = nI z := by
    intro q hq
    have := h6 q hq
    cases hF : F q with
    | none => rw [hF] at this; exact ⟨0, by omega, this.2.1⟩
    | some fz => rw [hF] at this; exact ⟨fz.2, this.2.1, this.2.2.2.1⟩
  obtain ⟨z, hz, ez⟩ := siz s (by omega)
  obtain ⟨w, hw, ew⟩ := siz t (by omega)
  have some_of : ∀ q, q < 4 → ¬ M (22 + 2 * q) 1 = -1 → ∃ f zz, F q = some (f, zz) := by
    intro q hq hn
    have := h6 q hq
    cases hF : F q with
    | none => rw [hF] at this; exact absurd this.1 hn
    | some fz => exact ⟨fz.1, fz.2, rfl⟩
  repeat refine fx_n rfl ?_
  refine ex_copy _ M s t z w i j n (by omega) (by omega) hz hw ez ew _ (fun l => ⟨⟨_, rfl⟩, modTo _ _ ?_⟩) (fun l1 l2 l3 => ⟨⟨_, rfl⟩, modTo _ _ ?_⟩) (fun l1 l2 l3 l4 => ⟨⟨_, rfl⟩, modTo _ _ ?_⟩) (fun l1 l2 l3 a b c ei ej en hac hbc => ⟨⟨_, rfl⟩, modTo _ _ ?_⟩)
  · refine fx_g rfl (ix_nI (by omega) (by omega)) ?_
    rw [nI_cl (by omega), up_k (by omega)]
    cases hF : F s with
    | none =>
      rw [hF] at hss
      rw [hss.2.2]
      refine fx_bt rfl (by decide) ?_
      repeat refine fx_n rfl ?_
      refine fx_c rfl (ex_of (em_met _ _ _)) ?_
      rintro _ _ ⟨rfl, rfl⟩
      exact fx_r rfl rfl ⟨rfl, h.fnd 1⟩
    | some fz =>
      obtain ⟨f, zz⟩ := fz
      rw [hF] at hss
      obtain ⟨a1, a2, a3, a4, a5, a6, a7⟩ := hss
      rw [a5]
      refine fx_bf rfl (nI_pos (by omega)) ?_
      repeat refine fx_n rfl ?_
      refine fx_g rfl (ix_nI (by omega) (by omega)) ?_
      rw [nI_cl (by omega), up_k (by omega)]
      cases hG : F t with
      | none =>
        rw [hG] at hst
        rw [hst.2.2]
        refine fx_bf rfl (by decide) ?_
        repeat refine fx_n rfl ?_
        refine fx_c rfl (ex_of (em_met _ _ _)) ?_
        rintro _ _ ⟨rfl, rfl⟩
        exact fx_r rfl rfl ⟨rfl, h.fnd 1⟩
      | some gz =>
        obtain ⟨g, zt⟩ := gz
        rw [hG] at hst
        obtain ⟨b1, b2, b3, -⟩ := hst
        rw [a3, b3] at l
        rcases l with l | l
        · exact absurd l (nI_ne_m1 (by omega))
        · exact absurd l (nI_ne_m1 (by omega))
  all_goals
    obtain ⟨f, zs, hF⟩ := some_of s (by omega) l1
    obtain ⟨g, zt, hG⟩ := some_of t (by omega) l2
    rw [hF] at hss
    rw [hG] at hst
    obtain ⟨a1, a2, a3, a4, a5, a6, a7⟩ := hss
    obtain ⟨b1, b2, b3, b4, b5, b6, b7⟩ := hst
    rw [a3, b3] at l3
    have ezz : z = zs := (nI_eq (by omega) (by omega)).mp (ez.symm.trans a4)
    have eww : w = zt := (nI_eq (by omega) (by omega)).mp (ew.symm.trans b4)
    subst ezz
    subst eww
  · refine fx_g rfl (ix_nI (by omega) (by omega)) ?_
    rw [nI_cl (by omega), up_k (by omega), a5]
    refine fx_bf rfl (nI_pos (by omega)) ?_
    repeat refine fx_n rfl ?_
    refine fx_g rfl (ix_nI (by omega) (by omega)) ?_
    rw [nI_cl (by omega), up_k (by omega), b5]
    refine fx_bt rfl (nI_pos' (by omega)) ?_
    repeat refine fx_n rfl ?_
    refine fx_g rfl (ix_nI (by omega) (by omega)) ?_
    rw [nI_cl (by omega), up_k (by omega), a5]
    repeat refine fx_n rfl ?_
    refine fx_g rfl (ix_nI (by omega) (by omega)) ?_
    rw [nI_cl (by omega), up_k (by omega), b5]
    refine fx_bf rfl l3 ?_
    repeat refine fx_n rfl ?_
    refine fx_c rfl (ex_of (em_met _ _ _)) ?_
    rintro _ _ ⟨rfl, rfl⟩
    exact fx_r rfl rfl ⟨rfl, h.fnd 4⟩
  · refine fx_g rfl (ix_nI (by omega) (by omega)) ?_
    rw [nI_cl (by omega), up_k (by omega), a5]
    refine fx_bf rfl (nI_pos (by omega)) ?_
    repeat refine fx_n rfl ?_
    refine fx_g rfl (ix_nI (by omega) (by omega)) ?_
    rw [nI_cl (by omega), up_k (by omega), b5]
    refine fx_bt rfl (nI_pos' (by omega)) ?_
    repeat refine fx_n rfl ?_
    refine fx_g rfl (ix_nI (by omega) (by omega)) ?_
    rw [nI_cl (by omega), up_k (by omega), a5]
    repeat refine fx_n rfl ?_
    refine fx_g rfl (ix_nI (by omega) (by omega)) ?_
    rw [nI_cl (by omega), up_k (by omega), b5]
    refine fx_bt rfl l3 ?_
    have fin : ∀ x5 : Option Value, Fx (d + 30) i_X8_copy 111 [some (.ref 30), some (.int (nI s)), some (.int i), some (.int (nI t)), some (.int j), some (.int n), x5] [] (sy_up M 0 7 2) (fun r' N' => r' = some (.int (-10 - 2)) ∧ Inv N') := by
      intro x5
      repeat refine fx_n rfl ?_
      refine fx_c rfl (ex_of (em_met _ _ _)) ?_
      rintro _ _ ⟨rfl, rfl⟩
      exact fx_r rfl rfl ⟨rfl, h.fnd 2⟩
    repeat refine fx_n rfl ?_
    refine fx_b rfl (fun _ => fin _) (fun q1 => ?_)
    repeat refine fx_n rfl ?_
    refine fx_b rfl (fun _ => fin _) (fun q2 => ?_)
    repeat refine fx_n rfl ?_
    refine fx_b rfl (fun _ => fin _) (fun q3 => ?_)
    rw [Int32.lt_iff_toInt_lt] at q1 q2 q3
    simp at q1 q2 q3
    repeat refine fx_n rfl ?_
    refine fx_g rfl (ix_nI (by omega) (by omega)) ?_
    rw [nI_cl (by omega), up_k (by omega), a6]
    repeat refine fx_n rfl ?_
    refine fx_b rfl (fun _ => fin _) (fun q4 => ?_)
    repeat refine fx_n rfl ?_
    refine fx_g rfl (ix_nI (by omega) (by omega)) ?_
    rw [nI_cl (by omega), up_k (by omega), b6]
    repeat refine fx_n rfl ?_
    refine fx_b rfl (fun q5 => ?_) (fun _ => fin _)
    exfalso
    rw [lcmp_gt, Int64.lt_iff_toInt_lt, ladd32, Int32.toInt_toInt64, nI_toInt (by omega)] at q4
    have q6 : ¬ 0 < lg_cmp (j.toInt64 + n.toInt64) (nI w).toInt64 := Int32.not_lt.mpr q5
    rw [lcmp_gt, Int64.lt_iff_toInt_lt, ladd32, Int32.toInt_toInt64, nI_toInt (by omega)] at q6
    rcases l4 with l4 | l4
    · exact absurd (of_decide_eq_false l4) (fun k => k (by omega))
    · exact absurd (of_decide_eq_false l4) (fun k => k (by omega))
  · subst ei ej en
    generalize hN : sy_row M (23 + 2 * t) (va_cpy (M (23 + 2 * s)) (M (23 + 2 * t)) a b c) = N
    have r : ∀ k, k ≠ 23 + 2 * t → N k = M k := fun k hk => by rw [← hN, row_n hk]
    refine fx_g rfl (ix_nI (by omega) (by omega)) ?_
    rw [nI_cl (by omega), r 31 (by omega), a5]
    refine fx_bf rfl (nI_pos (by omega)) ?_
    repeat refine fx_n rfl ?_
    refine fx_g rfl (ix_nI (by omega) (by omega)) ?_
    rw [nI_cl (by omega), r 31 (by omega), b5]
    refine fx_bt rfl (nI_pos' (by omega)) ?_
    repeat refine fx_n rfl ?_
    refine fx_g rfl (ix_nI (by omega) (by omega)) ?_
    rw [nI_cl (by omega), r 31 (by omega), a5]
    repeat refine fx_n rfl ?_
    refine fx_g rfl (ix_nI (by omega) (by omega)) ?_
    rw [nI_cl (by omega), r 31 (by omega), b5]
    refine fx_bt rfl l3 ?_
    repeat refine fx_n rfl ?_
    refine fx_bf rfl (nI_pos (by omega)) ?_
    repeat refine fx_n rfl ?_
    refine fx_bf rfl (nI_pos (by omega)) ?_
    repeat refine fx_n rfl ?_
    refine fx_bf rfl (nI_pos (by omega)) ?_
    repeat refine fx_n rfl ?_
    refine fx_g rfl (ix_nI (by omega) (by omega)) ?_
    rw [nI_cl (by omega), r 32 (by omega), a6]
    repeat refine fx_n rfl ?_
    refine fx_bf rfl (by rw [lcmp_gt, Int64.lt_iff_toInt_lt, ladd32, Int32.toInt_toInt64, nI_toInt (by omega), nI_toInt (by omega), nI_toInt (by omega)]; omega) ?_
    repeat refine fx_n rfl ?_
    refine fx_g rfl (ix_nI (by omega) (by omega)) ?_
    rw [nI_cl (by omega), r 32 (by omega), b6]
    repeat refine fx_n rfl ?_
    refine fx_bt rfl (Int32.not_lt.mp (by rw [lcmp_gt, Int64.lt_iff_toInt_lt, ladd32, Int32.toInt_toInt64, nI_toInt (by omega), nI_toInt (by omega), nI_toInt (by omega)]; omega)) ?_
    repeat refine fx_n rfl ?_
    refine em_copy1 _ N s a c _ _ none (by omega) (by omega) _ (fun N1 m1 m2 => ?_) c 0 N (by omega) (fun q hq => by omega) (fun _ _ => rfl)
    repeat refine fx_n rfl ?_
    refine fx_w (em_copy2 _ N1 t b c _ _ (by omega) (by omega) c 0 N1 (by omega) (fun q hq => by omega) (fun _ _ => rfl) (fun _ _ => rfl)) ?_
    rintro _ N2 ⟨rfl, p1, p2, p3⟩
    have cR : ∀ k, k ≠ 33 → k ≠ 34 → k ≠ 23 + 2 * t → N2 k = M k := fun k k1 k2 k3 => by rw [p3 k k1, m2 k k2, r k k3]
    have e33 : N1 33 = M 33 := by rw [m2 33 (by omega), r 33 (by omega)]
    have n33 : N 33 = M 33 := r 33 (by omega)
    refine ⟨rfl, nn, E, ne, L, B, nb, G, fun q => if q = t then some (g, w) else F q, h1.cg ?_ ?_ ?_ ?_, h2.cg ?_ ?_ ?_ ?_ ?_ ?_ ?_ ?_, h3.cg ?_ ?_, h4.cg ?_ ?_ ?_ ?_ ?_ ?_, h5.cg ?_ ?_, h6.st (s := t) (some (g, w)) (fun k q1 q2 q3 q4 => cR k (by omega) (by omega) q4) ?_ ?_ ?_ ?_, ?_⟩
    all_goals (first | (exact cR _ (by omega) (by omega) (by omega)) | (exact congrFun (cR _ (by omega) (by omega) (by omega)) _) | skip)
    · intro q hq; rw [cR 31 (by omega) (by omega) (by omega)]
    · intro q hq; rw [cR 32 (by omega) (by omega) (by omega)]
    · intro q hq; rw [p2 q (by omega), e33]
    · refine ⟨b1, b2, ?_, ?_, ?_, ?_, fun q hq => ?_⟩
      · rw [cR _ (by omega) (by omega) (by omega)]; exact b3
      · rw [cR _ (by omega) (by omega) (by omega)]; exact b4
      · rw [cR _ (by omega) (by omega) (by omega)]; exact b5
      · rw [cR _ (by omega) (by omega) (by omega)]; exact b6
      · rw [p3 (23 + 2 * t) (by omega), m2 (23 + 2 * t) (by omega), ← hN, row_s]
        by_cases e : b ≤ q ∧ q < b + c
        · rw [pk_cpy_in e.1 e.2, show 60 * t + q = 60 * t + b + (q - b) by omega, p1 _ (by omega), m1 _ (by omega), n33, show 60 * s + a + (q - b) = 60 * s + (a + (q - b)) by omega]
          exact a7 _ (by omega)
        · rw [pk_cpy_out (by omega), p2 _ (by omega), e33]; exact b7 q hq
    · rw [cR 0 (by omega) (by omega) (by omega), cR 30 (by omega) (by omega) (by omega)]; exact h7
end
section
/-! ===== fitting ===== -/
theorem and_nI {a : Nat} (h : a < 512) (y : Int32) : nI a &&& y = nI (a &&& y.toBitVec.toNat) := by
  have h2 : a &&& y.toBitVec.toNat ≤ a := Nat.and_le_left
  apply Int32.toBitVec_inj.mp
  apply BitVec.eq_of_toNat_eq
  rw [Int32.toBitVec_and, BitVec.toNat_and, pk_tn (by omega), pk_tn (by omega)]
def pcA (a : Nat) (y : Int32) : Nat := pcn (a &&& y.toBitVec.toNat)
theorem and_512 {a : Nat} (h : a < 512) (b : Nat) : a &&& b < 512 := Nat.lt_of_le_of_lt Nat.and_le_left h
theorem ev_bitA (d : Nat) (M : sy_Mm) {a : Nat} (h : a < 512) (y : Int32) : Ev d i_J6_bitCount [.int (nI a &&& y)] M (some (.int (nI (pcA a y)))) M := by
  rw [and_nI h]; exact ev_bitCount d M _ (and_512 h _)
theorem em_onesA (d : Nat) (M : sy_Mm) {a : Nat} (h : a < 512) (y : Int32) : Ev d i_X8_ones [.int (nI a &&& y)] M (some (.int (nI (pcA a y)))) M := by
  rw [and_nI h]; exact em_ones d M _ (and_512 h _)
theorem pcn_le (n : Nat) : pcn n ≤ 9 := by unfold pcn; omega
def alB (p : Nat → Bool) : Nat → Bool
  | 0 => true
  | n + 1 => alB p n && p n
theorem alB_f {p : Nat → Bool} {i : Nat} (h : p i = false) : ∀ n, i < n → alB p n = false
  | 0, h2 => by omega
  | n + 1, h2 => by
    unfold alB
    by_cases e : i = n
    · subst e; rw [h]; simp
    · rw [alB_f h n (by omega)]; rfl
/-- the sets of forged stones tried so far: how many come out, the least, those in all, those in none -/
def fsS (fit : Nat → Bool) (all : Int32) : Nat → Nat × Int32 × Int32 × Int32
  | 0 => (0, -1, all, all)
  | x + 1 => cond (fit x) ((fsS fit all x).1 + 1, (if (fsS fit all x).1 = 0 then nI x else (fsS fit all x).2.1), (fsS fit all x).2.2.1 &&& nI x, (fsS fit all x).2.2.2 &&& (nI x ^^^ (-1))) (fsS fit all x)
theorem fsS_t {fit : Nat → Bool} {all : Int32} {x : Nat} (h : fit x = true) : fsS fit all (x + 1) = ((fsS fit all x).1 + 1, (if (fsS fit all x).1 = 0 then nI x else (fsS fit all x).2.1), (fsS fit all x).2.2.1 &&& nI x, (fsS fit all x).2.2.2 &&& (nI x ^^^ (-1))) := by
  show cond _ _ _ = _
  rw [h]; rfl
theorem fsS_f {fit : Nat → Bool} {all : Int32} {x : Nat} (h : fit x = false) : fsS fit all (x + 1) = fsS fit all x := by
  show cond _ _ _ = _
  rw [h]; rfl
theorem fsS_ok (fit : Nat → Bool) (all : Int32) : ∀ x, x ≤ 512 → (fsS fit all x).1 ≤ x ∧ ((fsS fit all x).1 = 0 ↔ (fsS fit all x).2.1 = -1)
  | 0, _ => ⟨Nat.le_refl _, by simp [fsS]⟩
  | x + 1, hx => by
    obtain ⟨h1, h2⟩ := fsS_ok fit all x (by omega)
    cases hf : fit x with
    | false => rw [fsS_f hf]; exact ⟨by omega, h2⟩
    | true =>
      rw [fsS_t hf]
      refine ⟨by show _ + 1 ≤ _; omega, ?_⟩
      show (_ + 1 = 0) ↔ (if (fsS fit all x).1 = 0 then nI x else (fsS fit all x).2.1) = -1
      constructor
      · intro q; omega
      · intro q
        exfalso
        split at q
        · exact nI_ne_m1 (by omega) q
        · rename_i z; exact z (h2.mpr q)
def ftS (q : Nat × Int32 × Int32 × Int32) (w : Int32) : Int32 := if w = 0 then nI q.1 else if q.1 = 0 then -1 else if w = 1 then q.2.1 else if w = 2 then q.2.2.1 else q.2.2.2
/-- the stones that were lucky, were they real, at a line of the books -/
def wdS (S L : Nat) (h0 : Nat → Nat) (E : Evs) (ne : Nat) (B : Evs) (b : Nat) : Nat := bN (fun s => decide ((yF S h0 E none (B b 1) ne).1 s = some (B b 0)) && lk1 L (B b 1) ((yF S h0 E none (B b 1) ne).2.1 s)) S
def fpB (S L : Nat) (h0 : Nat → Nat) (E : Evs) (ne : Nat) (B : Evs) (x b : Nat) : Bool := decide (1 + 2 * pcA (wdS S L h0 E ne B b) (nI x ^^^ (-1)) = B b 2)
def fiT (S L : Nat) (h0 : Nat → Nat) (E : Evs) (ne : Nat) (B : Evs) (nb : Nat) : Nat × Int32 × Int32 × Int32 := fsS (fun x => alB (fpB S L h0 E ne B x) nb) (nI (2 ^ S - 1)) (2 ^ S)
theorem sh_all : ∀ n, n < 10 → ((1 : Int32) <<< (nI n &&& 31)) - 1 = nI (2 ^ n - 1) := by decide +kernel
theorem pow_9 {S : Nat} (h : S ≤ 9) : 1 ≤ 2 ^ S ∧ 2 ^ S ≤ 512 := ⟨Nat.two_pow_pos S, Nat.le_trans (Nat.pow_le_pow_right (by omega) h) (by decide)⟩
theorem ctC.kk {M N : sy_Mm} {E : Evs} {ne S L : Nat} {h0 : Nat → Nat} {fg : Nat → Bool} (h : ctC M E ne S L h0 fg) (k : kq M N) : ctC N E ne S L h0 fg := by
  obtain ⟨a1, a2, a3, a4, a5, a6, a7, a8, a9⟩ := h
  have k2 := k.row 2 (fun j => by unfold dead; omega)
  exact ⟨a1, a2.kk k, a3, by rw [k 1 3 (by unfold dead; omega)]; exact a4, by rw [k 9 6 (by unfold dead; omega)]; exact a5, a6, by rw [k2]; exact a7, a8, by rw [k2]; exact a9⟩
def bkC (M : sy_Mm) (B : Evs) (nb : Nat) : Prop := nb ≤ 8 ∧ M 14 5 = nI nb ∧ ∀ b, b < nb → (B b 0 < 8 ∧ B b 1 ≤ 299 ∧ B b 2 ≤ 19) ∧ M 15 b = nI (B b 0) ∧ M 16 b = nI (B b 1) ∧ M 17 b = nI (B b 2)
def bkM (M : sy_Mm) (B : Evs) (nb : Nat) : Prop := nb ≤ 8 ∧ M 30 20 = nI nb ∧ ∀ b, b < nb → (B b 0 < 8 ∧ B b 1 ≤ 299 ∧ B b 2 ≤ 19) ∧ ∀ c, c < 3 → M 41 (3 * b + c) = nI (B b c)
theorem iBook.c {M : sy_Mm} {B : Evs} {nb : Nat} (h : iBook M B nb) : bkC M B nb := ⟨h.1, h.2.1, fun b hb => ⟨(h.2.2.2 b hb).1, (h.2.2.2 b hb).2.1⟩⟩
theorem iBook.m {M : sy_Mm} {B : Evs} {nb : Nat} (h : iBook M B nb) : bkM M B nb := ⟨h.1, h.2.2.1, fun b hb => ⟨(h.2.2.2 b hb).1, (h.2.2.2 b hb).2.2⟩⟩
theorem bkC.kk {M N : sy_Mm} {B : Evs} {nb : Nat} (h : bkC M B nb) (k : kq M N) : bkC N B nb := by
  refine ⟨h.1, by rw [k 14 5 (by unfold dead; omega)]; exact h.2.1, fun b hb => ?_⟩
  rw [k 15 b (by unfold dead; omega), k 16 b (by unfold dead; omega), k 17 b (by unfold dead; omega)]
  exact h.2.2 b hb
theorem kq.up {M N : sy_Mm} (h : kq M N) {k j : Nat} {x : Int32} (hd : dead k j) : kq M (sy_up N k j x) := by
  intro q i hq
  by_cases e : q = k
  · subst e
    by_cases e2 : i = j
    · subst e2; exact absurd hd hq
    · rw [up_j e2]; exact h q i hq
  · rw [up_k e]; exact h q i hq
set_option maxRecDepth 100000 in
set_option maxHeartbeats 4000000 in
theorem ev_comesOut (d : Nat) (M : sy_Mm) (S L : Nat) (h0 : Nat → Nat) (E : Evs) (ne : Nat) (B : Evs) (nb x : Nat) (hS : S ≤ 9) (hB : bkC M B nb) (h18 : ∀ b, b < nb → M 18 b = nI (wdS S L h0 E ne B b)) : Ev (d + 1) i_X0_comesOut [.ref 14, .int (nI x)] M (some (.int (zb (alB (fpB S L h0 E ne B x) nb)))) M := by
  obtain ⟨b1, b2, b3⟩ := hB
  have loop : ∀ j i, i + j = nb → alB (fpB S L h0 E ne B x) i = true → Fx (d + 1) i_X0_comesOut 7 [some (.ref 14), some (.int (nI x)), some (.int (nI i))] [.int (M 14 5), .int (nI i)] M (fun r N => r = some (.int (zb (alB (fpB S L h0 E ne B x) nb))) ∧ N = M) := by
    intro j
    induction j with
    | zero =>
      intro i hi ha
      have e : i = nb := by omega
      subst e
      refine fx_bt rfl (by rw [b2]; exact nI_le (Nat.le_refl _) (by omega)) ?_
      repeat refine fx_n rfl ?_
      exact fx_r rfl rfl ⟨by rw [ha]; rfl, rfl⟩
    | succ j ih =>
      intro i hi ha
      obtain ⟨c1, c2, c3, c4⟩ := b3 i (by omega)
      refine fx_bf rfl (by rw [b2]; exact nI_ge (by omega) (by omega)) ?_
      repeat refine fx_n rfl ?_
      refine fx_g rfl (ix_nI (by omega) (by omega)) ?_
      rw [nI_cl (by omega), h18 i (by omega)]
      repeat refine fx_n rfl ?_
      refine fx_p rfl (ev_bitA _ _ (bN_9 _ hS) _) ?_
      repeat refine fx_n rfl ?_
      rw [show nI (pcA (bN (fun s => decide ((yF S h0 E none (B i 1) ne).1 s = some (B i 0)) && lk1 L (B i 1) ((yF S h0 E none (B i 1) ne).2.1 s)) S) (nI x ^^^ -1)) = nI (pcA (wdS S L h0 E ne B i) (nI x ^^^ (-1))) from rfl, egg_nI]
      refine fx_g rfl (ix_nI (by omega) (by omega)) ?_
      rw [nI_cl (by omega), c4]
      have hp : pcA (wdS S L h0 E ne B i) (nI x ^^^ (-1)) ≤ 9 := pcn_le _
      by_cases q : 1 + 2 * pcA (wdS S L h0 E ne B i) (nI x ^^^ (-1)) = B i 2
      · refine fx_bt rfl (by rw [q]) ?_
        repeat refine fx_n rfl ?_
        rw [nI_1]
        refine ih (i + 1) (by omega) ?_
        unfold alB
        rw [ha]
        exact decide_eq_true q
      · refine fx_bf rfl (fun z => q ((nI_eq (by omega) (by omega)).mp z)) ?_
        repeat refine fx_n rfl ?_
        refine fx_r rfl rfl ⟨?_, rfl⟩
        rw [alB_f (i := i) (decide_eq_false q) nb (by omega)]; rfl
  refine ev_of ?_
  repeat refine fx_n rfl ?_
  exact loop nb 0 (by omega) rfl
set_option maxRecDepth 100000 in
set_option maxHeartbeats 4000000 in
theorem ex_tryAll (d : Nat) (M : sy_Mm) (E : Evs) (ne S L : Nat) (h0 : Nat → Nat) (fg : Nat → Bool) (B : Evs) (nb : Nat) (hC : ctC M E ne S L h0 fg) (hB : bkC M B nb) : Ex (d + 4) i_X0_tryAllSets [.ref 14] M (fun r N => r = none ∧ N 14 6 = nI (fiT S L h0 E ne B nb).1 ∧ N 14 7 = (fiT S L h0 E ne B nb).2.1 ∧ N 14 8 = (fiT S L h0 E ne B nb).2.2.1 ∧ N 14 9 = (fiT S L h0 E ne B nb).2.2.2 ∧ kq M N) := by
  have hS := hC.2.2.1
  have hpw := pow_9 hS
  have loop2 : ∀ (j x : Nat) (M1 : sy_Mm), x + j = 2 ^ S → kq M M1 → (∀ b, b < nb → M1 18 b = nI (wdS S L h0 E ne B b)) → M1 14 6 = nI (fsS (fun x => alB (fpB S L h0 E ne B x) nb) (nI (2 ^ S - 1)) x).1 → M1 14 7 = (fsS (fun x => alB (fpB S L h0 E ne B x) nb) (nI (2 ^ S - 1)) x).2.1 → M1 14 8 = (fsS (fun x => alB (fpB S L h0 E ne B x) nb) (nI (2 ^ S - 1)) x).2.2.1 → M1 14 9 = (fsS (fun x => alB (fpB S L h0 E ne B x) nb) (nI (2 ^ S - 1)) x).2.2.2 → Fx (d + 4) i_X0_tryAllSets 93 [some (.ref 14), some (.int (nI (2 ^ S - 1))), some (.int (nI x))] [.int (nI (2 ^ S - 1)), .int (nI x)] M1 (fun r N => r = none ∧ N 14 6 = nI (fiT S L h0 E ne B nb).1 ∧ N 14 7 = (fiT S L h0 E ne B nb).2.1 ∧ N 14 8 = (fiT S L h0 E ne B nb).2.2.1 ∧ N 14 9 = (fiT S L h0 E ne B nb).2.2.2 ∧ kq M N) := by
    intro j
    induction j with
    | zero =>
      intro x M1 hx hK h18 s1 s2 s3 s4
      have e : x = 2 ^ S := by omega
      refine fx_bt rfl (nI_lt (by omega) (by omega)) ?_
      subst e
      exact fx_r rfl rfl ⟨rfl, s1, s2, s3, s4, hK⟩
    | succ j ih =>
      intro x M1 hx hK h18 s1 s2 s3 s4
      refine fx_bf rfl (nI_nlt (by omega) (by omega)) ?_
      repeat refine fx_n rfl ?_
      refine fx_p rfl (ev_comesOut _ M1 S L h0 E ne B nb x hS (hB.kk hK) h18) ?_
      have ok := fsS_ok (fun x => alB (fpB S L h0 E ne B x) nb) (nI (2 ^ S - 1)) x (by omega)
      cases hf : alB (fpB S L h0 E ne B x) nb with
      | false =>
        have i2 := ih (x + 1) M1 (by omega) hK h18
        rw [fsS_f (fit := fun x => alB (fpB S L h0 E ne B x) nb) (x := x) hf] at i2
        refine fx_bt rfl (by decide) ?_
        repeat refine fx_n rfl ?_
        rw [nI_1]
        exact i2 s1 s2 s3 s4
      | true =>
        have i2 := fun M2 => ih (x + 1) M2 (by omega)
        rw [fsS_t (fit := fun x => alB (fpB S L h0 E ne B x) nb) (x := x) hf] at i2
        generalize fsS (fun x => alB (fpB S L h0 E ne B x) nb) (nI (2 ^ S - 1)) x = q at s1 s2 s3 s4 i2 ok
        refine fx_bf rfl (by decide) ?_
        repeat refine fx_n rfl ?_
        have fin : ∀ v : Int32, v = (if q.1 = 0 then nI x else q.2.1) → Fx (d + 4) i_X0_tryAllSets 120 [some (.ref 14), some (.int (nI (2 ^ S - 1))), some (.int (nI x))] [.int v, .ref 14] M1 (fun r N => r = none ∧ N 14 6 = nI (fiT S L h0 E ne B nb).1 ∧ N 14 7 = (fiT S L h0 E ne B nb).2.1 ∧ N 14 8 = (fiT S L h0 E ne B nb).2.2.1 ∧ N 14 9 = (fiT S L h0 E ne B nb).2.2.2 ∧ kq M N) := by
          intro v hv
          repeat refine fx_n rfl ?_
          rw [nI_1]
          refine i2 _ ((((hK.up ?_).up ?_).up ?_).up ?_) (fun b hb => ?_) ?_ ?_ ?_ ?_
          all_goals (first | (unfold dead; omega) | skip)
          · rw [up_k (by omega), up_k (by omega), up_k (by omega), up_k (by omega)]; exact h18 b hb
          · rw [up_j (by omega), up_j (by omega), up_s, up_j (by omega), s1, nI_1]
          · rw [up_j (by omega), up_j (by omega), up_j (by omega), up_s, hv]
          · rw [up_j (by omega), up_s, up_j (by omega), up_j (by omega), s3]
          · rw [up_s, up_j (by omega), up_j (by omega), up_j (by omega), s4]
        by_cases hq : q.1 = 0
        · refine fx_bf rfl (fun z => z (by rw [s1, hq]; rfl)) ?_
          refine fx_n rfl (fx_n rfl ?_)
          exact fin _ (by rw [if_pos hq])
        · refine fx_bt rfl (by rw [s1]; exact nI_ne0 (by omega) (by omega)) ?_
          refine fx_n rfl (fx_n rfl ?_)
          exact fin _ (by rw [if_neg hq]; exact s2)
  have loop1 : ∀ (j b : Nat) (M1 : sy_Mm), b + j = nb → kq M M1 → (∀ q, q < b → M1 18 q = nI (wdS S L h0 E ne B q)) → Fx (d + 4) i_X0_tryAllSets 7 [some (.ref 14), some (.int (nI b)), none] [.int (M1 14 5), .int (nI b)] M1 (fun r N => r = none ∧ N 14 6 = nI (fiT S L h0 E ne B nb).1 ∧ N 14 7 = (fiT S L h0 E ne B nb).2.1 ∧ N 14 8 = (fiT S L h0 E ne B nb).2.2.1 ∧ N 14 9 = (fiT S L h0 E ne B nb).2.2.2 ∧ kq M N) := by
    intro j
    induction j with
    | zero =>
      intro b M1 hb hK h18
      have e : b = nb := by omega
      subst e
      obtain ⟨b1, b2, b3⟩ := hB.kk hK
      have c13 : M1 1 3 = nI S := (hC.kk hK).2.2.2.1
      refine fx_bt rfl (by rw [b2]; exact nI_le (Nat.le_refl _) (by omega)) ?_
      repeat refine fx_n rfl ?_
      rw [c13, sh_all S (by omega)]
      refine loop2 (2 ^ S) 0 _ (by omega) ((((hK.up ?_).up ?_).up ?_).up ?_) (fun q hq => ?_) ?_ ?_ ?_ ?_
      all_goals (first | (unfold dead; omega) | rfl | skip)
      rw [up_k (by omega), up_k (by omega), up_k (by omega), up_k (by omega)]; exact h18 q hq
    | succ j ih =>
      intro b M1 hb hK h18
      obtain ⟨b1, b2, b3⟩ := hB.kk hK
      obtain ⟨⟨l1, l2, l3⟩, c1, c2, c3⟩ := b3 b (by omega)
      refine fx_bf rfl (by rw [b2]; exact nI_ge (by omega) (by omega)) ?_
      repeat refine fx_n rfl ?_
      refine fx_g rfl (ix_nI (by omega) (by omega)) ?_
      rw [nI_cl (by omega), c2]
      refine fx_c rfl (ex_tellFrom _ M1 E ne S L (B b 1) h0 fg (by omega) (hC.kk hK)) ?_
      rintro _ M2 ⟨rfl, d1, d2⟩
      have e15 : M2 15 = M1 15 := d2.1 15 (by omega) (by omega) (by omega) (by omega)
      have e16 : M2 16 = M1 16 := d2.1 16 (by omega) (by omega) (by omega) (by omega)
      have e18 : M2 18 = M1 18 := d2.1 18 (by omega) (by omega) (by omega) (by omega)
      repeat refine fx_n rfl ?_
      refine fx_g rfl (ix_nI (by omega) (by omega)) ?_
      rw [nI_cl (by omega), e15, c1]
      repeat refine fx_n rfl ?_
      refine fx_g rfl (ix_nI (by omega) (by omega)) ?_
      rw [nI_cl (by omega), e16, c2]
      refine fx_p rfl (ev_luckyIfReal _ _ S L (B b 1) (B b 0) fg _ _ (by omega) l1 d1.lk) ?_
      refine fx_g rfl (ix_nI (by omega) (by omega)) ?_
      rw [nI_cl (by omega)]
      repeat refine fx_n rfl ?_
      rw [nI_1]
      refine ih (b + 1) _ (by omega) ((hK.tr d2.q).up (by unfold dead; omega)) (fun q hq => ?_)
      by_cases e : q = b
      · rw [e, up_s]; rfl
      · rw [up_j e, e18]; exact h18 q (by omega)
  unfold Ex
  repeat refine fx_n rfl ?_
  exact loop1 nb 0 M (by omega) kq.rf (fun q hq => by omega)
set_option maxRecDepth 100000 in
set_option maxHeartbeats 4000000 in
theorem ex_fitting (d : Nat) (M : sy_Mm) (E : Evs) (ne S L : Nat) (h0 : Nat → Nat) (fg : Nat → Bool) (B : Evs) (nb : Nat) (w : Int32) (hC : ctC M E ne S L h0 fg) (hB : bkC M B nb) : Ex (d + 5) i_X7_fitting [.ref 0, .int w] M (fun r N => r = some (.int (cond (inR w 0 3) (ftS (fiT S L h0 E ne B nb) w) (-2))) ∧ kq M N) := by
  have hS := hC.2.2.1
  have hpw := pow_9 hS
  unfold Ex
  repeat refine fx_n rfl ?_
  refine fx_p rfl (ev_wi _ _ _ _ 3 rfl) (fx_zn rfl (fun g => ?_) (fun g => by ((repeat refine fx_n rfl ?_); exact fx_r rfl rfl ⟨by simp [g, zb_f], kq.rf⟩)))
  rw [g]
  repeat refine fx_n rfl ?_
  refine fx_c rfl (ex_tryAll _ M E ne S L h0 fg B nb hC hB) ?_
  rintro _ N ⟨rfl, s1, s2, s3, s4, hK⟩
  have ok : (fiT S L h0 E ne B nb).1 ≤ 2 ^ S := (fsS_ok (fun x => alB (fpB S L h0 E ne B x) nb) (nI (2 ^ S - 1)) (2 ^ S) (by omega)).1
  generalize fiT S L h0 E ne B nb = q at s1 s2 s3 s4 ok
  repeat refine fx_n rfl ?_
  simp only [cond_true]
  unfold ftS
  by_cases w0 : w = 0
  · refine fx_bf rfl (fun z => z w0) ?_
    repeat refine fx_n rfl ?_
    refine fx_r rfl rfl ⟨?_, hK⟩
    rw [if_pos w0, s1]
  · refine fx_bt rfl w0 ?_
    rw [if_neg w0]
    repeat refine fx_n rfl ?_
    by_cases hq : q.1 = 0
    · refine fx_bf rfl (fun z => z (by rw [s1, hq]; rfl)) ?_
      repeat refine fx_n rfl ?_
      refine fx_r rfl rfl ⟨?_, hK⟩
      rw [if_pos hq]
    · refine fx_bt rfl (by rw [s1]; exact nI_ne0 (by omega) (by omega)) ?_
      rw [if_neg hq]
      repeat refine fx_n rfl ?_
      by_cases w1 : w = 1
      · refine fx_bf rfl (fun z => z w1) ?_
        repeat refine fx_n rfl ?_
        refine fx_r rfl rfl ⟨?_, hK⟩
        rw [if_pos w1, s2]
      · refine fx_bt rfl w1 ?_
        rw [if_neg w1]
        repeat refine fx_n rfl ?_
        by_cases w2 : w = 2
        · refine fx_bf rfl (fun z => z w2) ?_
          repeat refine fx_n rfl ?_
          refine fx_r rfl rfl ⟨?_, hK⟩
          rw [if_pos w2, s3]
        · refine fx_bt rfl w2 ?_
          rw [if_neg w2]
          repeat refine fx_n rfl ?_
          refine fx_r rfl rfl ⟨?_, hK⟩
          rw [s4]
end
section
/-! ===== fitting, as the reference answers it ===== -/
def kpX (M N : sy_Mm) : Prop := (∀ k, k ≠ 30 → k ≠ 38 → k ≠ 39 → k ≠ 40 → k ≠ 42 → k ≠ 43 → k ≠ 44 → N k = M k) ∧ ∀ j, j ≠ 17 → j ≠ 18 → j ≠ 19 → N 30 j = M 30 j
theorem kpX.rf {M : sy_Mm} : kpX M M := ⟨fun _ _ _ _ _ _ _ _ => rfl, fun _ _ _ _ => rfl⟩
theorem kpX.tr {M N K : sy_Mm} (h : kpX M N) (g : kpX N K) : kpX M K := ⟨fun k a b c d e f i => (g.1 k a b c d e f i).trans (h.1 k a b c d e f i), fun j a b c => (g.2 j a b c).trans (h.2 j a b c)⟩
theorem kpM.x {M N : sy_Mm} (h : kpM M N) : kpX M N := ⟨fun k a b c d _ _ _ => h.1 k a b c d, h.2⟩
theorem kpX.up {M N : sy_Mm} (h : kpX M N) {k j : Nat} {x : Int32} (hk : k = 38 ∨ k = 39 ∨ k = 40 ∨ k = 42 ∨ k = 43 ∨ k = 44) : kpX M (sy_up N k j x) := ⟨fun q a b c d e f i => by rw [up_k (by omega)]; exact h.1 q a b c d e f i, fun i a b c => by rw [up_k (by omega)]; exact h.2 i a b c⟩
theorem kpX.q {M N : sy_Mm} (h : kpX M N) : kq M N := by
  intro k j q
  unfold dead at q
  by_cases h9 : k = 30
  · subst h9
    exact h.2 j (by omega) (by omega) (by omega)
  · rw [h.1 k h9 (by omega) (by omega) (by omega) (by omega) (by omega) (by omega)]
theorem ctM.kx {M N : sy_Mm} {E : Evs} {ne S L : Nat} {h0 : Nat → Nat} {fg : Nat → Bool} (h : ctM M E ne S L h0 fg) (k : kpX M N) : ctM N E ne S L h0 fg := by
  obtain ⟨a1, a2, a3, a4, a5, a6, a7, a8, a9⟩ := h
  have k1 := k.1 36 (by omega) (by omega) (by omega) (by omega) (by omega) (by omega) (by omega)
  have k2 := k.1 37 (by omega) (by omega) (by omega) (by omega) (by omega) (by omega) (by omega)
  refine ⟨a1, ⟨by rw [k.2 12 (by omega) (by omega) (by omega)]; exact a2.1, by rw [k2]; exact a2.2⟩, a3, by rw [k.2 8 (by omega) (by omega) (by omega)]; exact a4, by rw [k.2 11 (by omega) (by omega) (by omega)]; exact a5, a6, by rw [k1]; exact a7, a8, by rw [k.2 10 (by omega) (by omega) (by omega)]; exact a9⟩
theorem bkM.kx {M N : sy_Mm} {B : Evs} {nb : Nat} (h : bkM M B nb) (k : kpX M N) : bkM N B nb := by
  unfold bkM
  rw [k.2 20 (by omega) (by omega) (by omega), k.1 41 (by omega) (by omega) (by omega) (by omega) (by omega) (by omega) (by omega)]
  exact h
theorem bkM.kk {M N : sy_Mm} {B : Evs} {nb : Nat} (h : bkM M B nb) (k : kq M N) : bkM N B nb := by
  unfold bkM
  rw [k 30 20 (by unfold dead; omega), k.row 41 (fun j => by unfold dead; omega)]
  exact h
theorem lkM.cg {M N : sy_Mm} {S L : Nat} {fg : Nat → Bool} {ow si : Nat → Option Nat} (h : lkM M S L fg ow si) (r30 : N 30 = M 30) (r38 : N 38 = M 38) (r39 : N 39 = M 39) : lkM N S L fg ow si := by
  unfold lkM; rw [r30, r38, r39]; exact h
set_option maxRecDepth 100000 in
set_option maxHeartbeats 4000000 in
theorem em_fitL (d : Nat) (M0 : sy_Mm) (S L : Nat) (fg : Nat → Bool) (ow si : Nat → Option Nat) (b h N : Nat) (w : Int32) (hb : b < 8) (hh : h < 8) (hN : N ≤ 299) (hK : lkM M0 S L fg ow si) (h41 : M0 41 (3 * b) = nI h) (h42 : M0 41 (3 * b + 1) = nI N) (K : Option Value → sy_Mm → Prop) (k : ∀ M3 : sy_Mm, M3 42 b = nI (bN (fun s => decide (ow s = some h) && lk1 L N (si s)) S) → (∀ k, k ≠ 42 → M3 k = M0 k) → (∀ q, q ≠ b → M3 42 q = M0 42 q) → Fx (d + 3) i_X8_fittingOf 7 [some (.ref 30), some (.int w), some (.int (nI (b + 1))), some (.int (nI S)), none, none, none, none, none, none] [.int (M3 30 20), .int (nI (b + 1))] M3 K) :
    ∀ (j s : Nat) (M2 : sy_Mm), s + j = S → M2 42 b = nI (bN (fun s => decide (ow s = some h) && lk1 L N (si s)) s) → (∀ k, k ≠ 42 → M2 k = M0 k) → (∀ q, q ≠ b → M2 42 q = M0 42 q) → Fx (d + 3) i_X8_fittingOf 39 [some (.ref 30), some (.int w), some (.int (nI b)), some (.int (nI s)), none, none, none, none, none, none] [.int (M2 30 8), .int (nI s)] M2 K := by
  obtain ⟨hS, h8, hL, h11, h10, hO, hT, hw8, ht⟩ := id hK
  intro j
  induction j with
  | zero =>
    intro s M2 hs m1 m2 m3
    have e : s = S := by omega
    subst e
    refine fx_bt rfl (by rw [m2 30 (by omega), h8]; exact nI_le (Nat.le_refl _) (by omega)) ?_
    repeat refine fx_n rfl ?_
    rw [nI_1]
    exact k M2 m1 m2 m3
  | succ j ih =>
    intro s M2 hs m1 m2 m3
    have hb' : ∀ k, ow s = some k → k < 2 ^ 31 := fun k hk => by have := hw8 _ _ hk; omega
    have hK2 : lkM M2 S L fg ow si := hK.cg (m2 30 (by omega)) (m2 38 (by omega)) (m2 39 (by omega))
    have i2 : ∀ v : Int32, v = nI (bN (fun s => decide (ow s = some h) && lk1 L N (si s)) (s + 1)) → _ := fun v hv => ih (s + 1) (sy_up M2 42 b v) (by omega) (by rw [up_s]; exact hv) (fun k hk => by rw [up_k hk]; exact m2 k hk) (fun q hq => by rw [up_j hq]; exact m3 q hq)
    refine fx_bf rfl (by rw [m2 30 (by omega), h8]; exact nI_ge (by omega) (by omega)) ?_
    repeat refine fx_n rfl ?_
    refine fx_g rfl (ix_nI (by omega) (by omega)) ?_
    rw [nI_cl (by omega), m1]
    repeat refine fx_n rfl ?_
    refine fx_g rfl (ix_nI (by omega) (by omega)) ?_
    rw [nI_cl (by omega), m2 38 (by omega), hO s (by omega)]
    repeat refine fx_n rfl ?_
    rw [th_nI]
    refine fx_g rfl (ix_nI (by omega) (by omega)) ?_
    rw [nI_cl (by omega), m2 41 (by omega), h41]
    by_cases ho : ow s = some h
    · refine fx_bf rfl (fun z => z ((oI_s hb' (by omega)).mpr ho)) ?_
      repeat refine fx_n rfl ?_
      rw [th_nI, nI_1]
      refine fx_g rfl (ix_nI (by omega) (by omega)) ?_
      rw [nI_cl (by omega), m2 41 (by omega), h42]
      refine fx_p rfl (em_leftAt _ _ S L N s fg ow si (by omega) (by omega) hK2) ?_
      have hlf : lfS L N (si s) < 2 ^ 31 := by
        cases hq : si s with
        | none => simp [lfS]
        | some t => have := ht s t hq; simp only [lfS]; omega
      by_cases h0 : 0 < lfS L N (si s)
      · have hl : lk1 L N (si s) = true := by rw [← lf_lk]; exact decide_eq_true h0
        refine fx_bf rfl (nI_nle h0 hlf) ?_
        repeat refine fx_n rfl ?_
        refine fx_g rfl (ix_nI (by omega) (by omega)) ?_
        rw [nI_cl (by omega)]
        repeat refine fx_n rfl ?_
        rw [nI_1]
        exact i2 _ (bN_step (fun s => decide (ow s = some h) && lk1 L N (si s)) (by omega) (by simp [ho, hl]))
      · have hl : lk1 L N (si s) = false := by rw [← lf_lk]; exact decide_eq_false h0
        refine fx_bt rfl (by rw [show lfS L N (si s) = 0 by omega]; decide) ?_
        repeat refine fx_n rfl ?_
        refine fx_g rfl (ix_nI (by omega) (by omega)) ?_
        rw [nI_cl (by omega)]
        repeat refine fx_n rfl ?_
        rw [nI_1]
        exact i2 _ (by rw [Int32.or_zero, bN_skip (fun s => decide (ow s = some h) && lk1 L N (si s)) (by simp [hl])])
    · refine fx_bt rfl (fun z => ho ((oI_s hb' (by omega)).mp z)) ?_
      repeat refine fx_n rfl ?_
      refine fx_g rfl (ix_nI (by omega) (by omega)) ?_
      rw [nI_cl (by omega)]
      repeat refine fx_n rfl ?_
      rw [nI_1]
      exact i2 _ (by rw [Int32.or_zero, bN_skip (fun s => decide (ow s = some h) && lk1 L N (si s)) (by simp [ho])])
set_option maxRecDepth 100000 in
set_option maxHeartbeats 4000000 in
theorem em_fittingOf (d : Nat) (M : sy_Mm) (E : Evs) (ne S L : Nat) (h0 : Nat → Nat) (fg : Nat → Bool) (B : Evs) (nb : Nat) (w : Int32) (hC : ctM M E ne S L h0 fg) (hB : bkM M B nb) : Ex (d + 3) i_X8_fittingOf [.ref 30, .int w] M (fun r N => r = some (.int (ftS (fiT S L h0 E ne B nb) w)) ∧ kpX M N) := by
  have hS := hC.2.2.1
  have hpw := pow_9 hS
  have inner : ∀ (M1 : sy_Mm) (x : Nat) (a3 a4 a5 a6 : Int32) (K : Option Value → sy_Mm → Prop), bkM M1 B nb → (∀ q, q < nb → M1 42 q = nI (wdS S L h0 E ne B q)) → (Fx (d + 3) i_X8_fittingOf 202 [some (.ref 30), some (.int w), some (.int (nI (2 ^ S - 1))), some (.int a3), some (.int a4), some (.int a5), some (.int a6), some (.int (nI x)), some (.int (zb (alB (fpB S L h0 E ne B x) nb))), some (.int (nI nb))] [.int (zb (alB (fpB S L h0 E ne B x) nb))] M1 K) → ∀ (j b : Nat), b + j = nb → Fx (d + 3) i_X8_fittingOf 146 [some (.ref 30), some (.int w), some (.int (nI (2 ^ S - 1))), some (.int a3), some (.int a4), some (.int a5), some (.int a6), some (.int (nI x)), some (.int (zb (alB (fpB S L h0 E ne B x) b))), some (.int (nI b))] [.int (M1 30 20), .int (nI b)] M1 K := by
    intro M1 x a3 a4 a5 a6 K hB1 h42 k j
    obtain ⟨b1, b2, b3⟩ := hB1
    induction j with
    | zero =>
      intro b hb
      have e : b = nb := by omega
      subst e
      refine fx_bt rfl (by rw [b2]; exact nI_le (Nat.le_refl _) (by omega)) ?_
      repeat refine fx_n rfl ?_
      exact k
    | succ j ih =>
      intro b hb
      obtain ⟨⟨l1, l2, l3⟩, c1⟩ := b3 b (by omega)
      have i2 := ih (b + 1) (by omega)
      refine fx_bf rfl (by rw [b2]; exact nI_ge (by omega) (by omega)) ?_
      repeat refine fx_n rfl ?_
      cases hf : alB (fpB S L h0 E ne B x) b with
      | false =>
        rw [show alB (fpB S L h0 E ne B x) (b + 1) = false by unfold alB; rw [hf]; rfl] at i2
        refine fx_bt rfl (by decide) ?_
        repeat refine fx_n rfl ?_
        rw [nI_1]
        exact i2
      | true =>
        rw [show alB (fpB S L h0 E ne B x) (b + 1) = fpB S L h0 E ne B x b by unfold alB; rw [hf]; rfl] at i2
        refine fx_bf rfl (by decide) ?_
        repeat refine fx_n rfl ?_
        refine fx_g rfl (ix_nI (by omega) (by omega)) ?_
        rw [nI_cl (by omega), h42 b (by omega)]
        repeat refine fx_n rfl ?_
        refine fx_p rfl (em_onesA _ _ (show wdS S L h0 E ne B b < 512 from bN_9 _ hS) _) ?_
        repeat refine fx_n rfl ?_
        rw [egg_nI, th_nI, nI_p2]
        refine fx_g rfl (ix_nI (by omega) (by omega)) ?_
        rw [nI_cl (by omega), c1 2 (by omega)]
        have hp : pcA (wdS S L h0 E ne B b) (nI x ^^^ (-1)) ≤ 9 := pcn_le _
        by_cases q : 1 + 2 * pcA (wdS S L h0 E ne B b) (nI x ^^^ (-1)) = B b 2
        · rw [show fpB S L h0 E ne B x b = true from decide_eq_true q] at i2
          refine fx_bf rfl (fun z => z (by rw [q])) ?_
          repeat refine fx_n rfl ?_
          rw [nI_1]
          exact i2
        · rw [show fpB S L h0 E ne B x b = false from decide_eq_false q] at i2
          refine fx_bt rfl (fun z => q ((nI_eq (by omega) (by omega)).mp z)) ?_
          repeat refine fx_n rfl ?_
          rw [nI_1]
          exact i2
  have loop2 : ∀ (M1 : sy_Mm), kpX M M1 → bkM M1 B nb → (∀ q, q < nb → M1 42 q = nI (wdS S L h0 E ne B q)) → ∀ (j x : Nat) (x8 x9 : Option Value), x + j = 2 ^ S → Fx (d + 3) i_X8_fittingOf 131 [some (.ref 30), some (.int w), some (.int (nI (2 ^ S - 1))), some (.int (nI (fsS (fun x => alB (fpB S L h0 E ne B x) nb) (nI (2 ^ S - 1)) x).1)), some (.int (fsS (fun x => alB (fpB S L h0 E ne B x) nb) (nI (2 ^ S - 1)) x).2.1), some (.int (fsS (fun x => alB (fpB S L h0 E ne B x) nb) (nI (2 ^ S - 1)) x).2.2.1), some (.int (fsS (fun x => alB (fpB S L h0 E ne B x) nb) (nI (2 ^ S - 1)) x).2.2.2), some (.int (nI x)), x8, x9] [.int (nI (2 ^ S - 1)), .int (nI x)] M1 (fun r N => r = some (.int (ftS (fiT S L h0 E ne B nb) w)) ∧ kpX M N) := by
    intro M1 hK hB1 h42 j
    induction j with
    | zero =>
      intro x x8 x9 hx
      have e : x = 2 ^ S := by omega
      subst e
      refine fx_bt rfl (nI_lt (by omega) (by omega)) ?_
      have ok : (fiT S L h0 E ne B nb).1 ≤ 2 ^ S := (fsS_ok (fun x => alB (fpB S L h0 E ne B x) nb) (nI (2 ^ S - 1)) (2 ^ S) (by omega)).1
      rw [show fsS (fun x => alB (fpB S L h0 E ne B x) nb) (nI (2 ^ S - 1)) (2 ^ S) = fiT S L h0 E ne B nb from rfl]
      generalize fiT S L h0 E ne B nb = q at ok ⊢
      repeat refine fx_n rfl ?_
      unfold ftS
      by_cases w0 : w = 0
      · refine fx_bf rfl (fun z => z w0) ?_
        repeat refine fx_n rfl ?_
        refine fx_r rfl rfl ⟨?_, hK⟩
        rw [if_pos w0]
      · refine fx_bt rfl w0 ?_
        rw [if_neg w0]
        repeat refine fx_n rfl ?_
        by_cases hq : q.1 = 0
        · refine fx_bf rfl (fun z => z (by rw [hq]; rfl)) ?_
          repeat refine fx_n rfl ?_
          refine fx_r rfl rfl ⟨?_, hK⟩
          rw [if_pos hq]
        · refine fx_bt rfl (nI_ne0 (by omega) (by omega)) ?_
          rw [if_neg hq]
          repeat refine fx_n rfl ?_
          by_cases w1 : w = 1
          · refine fx_bf rfl (fun z => z w1) ?_
            repeat refine fx_n rfl ?_
            refine fx_r rfl rfl ⟨?_, hK⟩
            rw [if_pos w1]
          · refine fx_bt rfl w1 ?_
            rw [if_neg w1]
            repeat refine fx_n rfl ?_
            by_cases w2 : w = 2
            · refine fx_bf rfl (fun z => z w2) ?_
              repeat refine fx_n rfl ?_
              refine fx_r rfl rfl ⟨?_, hK⟩
              rw [if_pos w2]
            · refine fx_bt rfl w2 ?_
              rw [if_neg w2]
              repeat refine fx_n rfl ?_
              exact fx_r rfl rfl ⟨rfl, hK⟩
    | succ j ih =>
      intro x x8 x9 hx
      refine fx_bf rfl (nI_nlt (by omega) (by omega)) ?_
      repeat refine fx_n rfl ?_
      refine inner M1 x _ _ _ _ _ hB1 h42 ?_ nb 0 (by omega)
      have ok := fsS_ok (fun x => alB (fpB S L h0 E ne B x) nb) (nI (2 ^ S - 1)) x (by omega)
      cases hf : alB (fpB S L h0 E ne B x) nb with
      | false =>
        have i2 := ih (x + 1) (some (.int (zb false))) (some (.int (nI nb))) (by omega)
        rw [fsS_f (fit := fun x => alB (fpB S L h0 E ne B x) nb) (x := x) hf] at i2
        refine fx_bt rfl (by decide) ?_
        repeat refine fx_n rfl ?_
        rw [nI_1]
        exact i2
      | true =>
        have i2 := ih (x + 1) (some (.int (zb true))) (some (.int (nI nb))) (by omega)
        rw [fsS_t (fit := fun x => alB (fpB S L h0 E ne B x) nb) (x := x) hf] at i2
        generalize fsS (fun x => alB (fpB S L h0 E ne B x) nb) (nI (2 ^ S - 1)) x = q at i2 ok
        refine fx_bf rfl (by decide) ?_
        repeat refine fx_n rfl ?_
        by_cases hq : q.1 = 0
        · rw [if_pos hq] at i2
          refine fx_bf rfl (fun z => z (ok.2.mp hq)) ?_
          repeat refine fx_n rfl ?_
          rw [nI_1, nI_1]
          exact i2
        · rw [if_neg hq] at i2
          refine fx_bt rfl (fun z => hq (ok.2.mpr z)) ?_
          repeat refine fx_n rfl ?_
          rw [nI_1, nI_1]
          exact i2
  have loop1 : ∀ (j b : Nat) (x3 : Option Value) (M1 : sy_Mm), b + j = nb → kpX M M1 → (∀ q, q < b → M1 42 q = nI (wdS S L h0 E ne B q)) → Fx (d + 3) i_X8_fittingOf 7 [some (.ref 30), some (.int w), some (.int (nI b)), x3, none, none, none, none, none, none] [.int (M1 30 20), .int (nI b)] M1 (fun r N => r = some (.int (ftS (fiT S L h0 E ne B nb) w)) ∧ kpX M N) := by
    intro j
    induction j with
    | zero =>
      intro b x3 M1 hb hK h42
      have e : b = nb := by omega
      subst e
      obtain ⟨b1, b2, b3⟩ := id (hB.kx hK)
      have c8 : M1 30 8 = nI S := (hC.kx hK).2.2.2.1
      refine fx_bt rfl (by rw [b2]; exact nI_le (Nat.le_refl _) (by omega)) ?_
      repeat refine fx_n rfl ?_
      rw [c8, sh_all S (by omega)]
      exact loop2 M1 hK (hB.kx hK) h42 (2 ^ S) 0 none none (by omega)
    | succ j ih =>
      intro b x3 M1 hb hK h42
      obtain ⟨b1, b2, b3⟩ := id (hB.kx hK)
      obtain ⟨⟨l1, l2, l3⟩, c1⟩ := b3 b (by omega)
      refine fx_bf rfl (by rw [b2]; exact nI_ge (by omega) (by omega)) ?_
      repeat refine fx_n rfl ?_
      rw [th_nI, nI_1]
      refine fx_g rfl (ix_nI (by omega) (by omega)) ?_
      rw [nI_cl (by omega), c1 1 (by omega)]
      repeat refine fx_n rfl ?_
      refine fx_c rfl (em_goes _ M1 E ne S L (B b 1) h0 fg none (by omega) (fun _ q => by cases q) (hC.kx hK)) ?_
      rintro _ M2 ⟨rfl, d1, d2⟩
      have e41 : M2 41 = M1 41 := d2.1 41 (by omega) (by omega) (by omega) (by omega)
      have e42 : M2 42 = M1 42 := d2.1 42 (by omega) (by omega) (by omega) (by omega)
      repeat refine fx_n rfl ?_
      refine fx_g rfl (ix_nI (by omega) (by omega)) ?_
      rw [nI_cl (by omega)]
      repeat refine fx_n rfl ?_
      refine em_fitL d (sy_up M2 42 b 0) S L fg _ _ b (B b 0) (B b 1) w (by omega) l1 l2 (d1.lk.cg (up_k (by omega)) (up_k (by omega)) (up_k (by omega))) (by rw [up_k (by omega), e41]; exact c1 0 (by omega)) (by rw [up_k (by omega), e41]; exact c1 1 (by omega)) _ (fun M3 m1 m2 m3 => ?_) S 0 _ (by omega) up_s (fun _ _ => rfl) (fun _ _ => rfl)
      have k3 : kpX M M3 := by
        refine ⟨fun k a1 a2 a3 a4 a5 a6 a7 => ?_, fun j a1 a2 a3 => ?_⟩
        · rw [m2 k a5, up_k a5, d2.1 k a1 a2 a3 a4]; exact hK.1 k a1 a2 a3 a4 a5 a6 a7
        · rw [m2 30 (by omega), up_k (by omega), d2.2 j a1 a2 a3]; exact hK.2 j a1 a2 a3
      refine ih (b + 1) _ M3 (by omega) k3 (fun q hq => ?_)
      by_cases e : q = b
      · rw [e, m1]; rfl
      · rw [m3 q e, up_j e, e42]; exact h42 q (by omega)
  unfold Ex
  repeat refine fx_n rfl ?_
  exact loop1 nb 0 none M (by omega) kpX.rf (fun q hq => by omega)
set_option maxRecDepth 100000 in
set_option maxHeartbeats 4000000 in
theorem ag_fitting {M : sy_Mm} (h : Inv M) (w : Int32) : AG i_X7_fitting i_X8_fitting [.int w] M := by
  intro d
  obtain ⟨n, E, ne, L, B, nb, G, F, h1, h2, h3, h4, h5, h6, h7⟩ := id h
  refine fx_w (ex_fitting _ M E ne _ L _ _ B nb w (inv_ctC h1 h2 h3) h4.c) ?_
  rintro _ N ⟨rfl, k⟩
  have e2 : N 2 = M 2 := k.row 2 (fun j => by unfold dead; omega)
  refine ⟨⟨_, rfl⟩, ?_⟩
  have hI1 := h.kp k
  unfold Ex
  repeat refine fx_n rfl ?_
  refine fx_c rfl (em_reads' _ (h1.kp k)) ?_
  rintro _ N1 ⟨rfl, hr⟩
  have hC := inv_ctM (h1.kp k) (h2.kp k) (h3.kp k) hr
  rw [e2] at hC
  have hI2 := hI1.kp hr.q
  repeat refine fx_n rfl ?_
  refine fx_p rfl (em_ir _ _ _ _ _ 0 3 rfl rfl) (fx_ze rfl (fun g => by ((repeat refine fx_n rfl ?_); exact fx_r rfl rfl ⟨by simp [g, zb_f], hI2⟩)) (fun g => ?_))
  rw [g]
  repeat refine fx_n rfl ?_
  refine fx_c rfl (em_fittingOf _ N1 E ne _ L _ _ B nb w hC ((h4.kp k).kp hr.q).m) ?_
  rintro _ N2 ⟨rfl, c2⟩
  repeat refine fx_n rfl ?_
  exact fx_r rfl rfl ⟨rfl, hI2.kp c2.q⟩
end
section
/-! ===== lets: what is best, and what bounds it ===== -/
abbrev St : Type := (Nat → Option Nat) × (Nat → Option Nat)
def lkN (S L : Nat) (fg : Nat → Bool) (σ : St) (N : Nat) : Nat := cnB (anyL σ.1 σ.2 L N fg S) 8
def stP (σ : St) (k N : Nat) : St := (uO σ.1 (k / 8) (some (k % 8)), uO σ.2 (k / 8) (some N))
def woB (fg : Nat → Bool) (σ : St) (s : Nat) : Bool := !fg s && decide (σ.1 s ≠ none)
def stN (S : Nat) (fg : Nat → Bool) (σ : St) : Nat := cnB (woB fg σ) S
def alR (S : Nat) (σ : St) (k : Nat) : Bool := decide (k / 8 < S) && (decide (σ.1 (k / 8) ≠ none) && decide (σ.1 (k / 8) ≠ some (k % 8)))
def alP (S : Nat) (fg : Nat → Bool) (σ : St) (k : Nat) : Bool := alR S σ k && !fg (k / 8)
def bfP (al : Nat → Bool) (f : Nat → Nat) (f0 : Nat) : Nat → Nat × Option Nat
  | 0 => (f0, none)
  | k + 1 => cond (al k && decide ((bfP al f f0 k).1 < f k)) (f k, some k) (bfP al f f0 k)
def VV (S L : Nat) (fg : Nat → Bool) : Nat → Nat → St → Nat
  | 0, _, _ => 0
  | n + 1, N, σ => (bfP (alP S fg σ) (fun k => lkN S L fg (stP σ k N) N + VV S L fg n (N + 1) (stP σ k N)) (lkN S L fg σ N + VV S L fg n (N + 1) σ) (8 * S)).1
def fK (S L : Nat) (fg : Nat → Bool) (n N : Nat) (σ : St) (k : Nat) : Nat := lkN S L fg (stP σ k N) N + VV S L fg n (N + 1) (stP σ k N)
def fO (S L : Nat) (fg : Nat → Bool) (n N : Nat) (σ : St) : Nat := lkN S L fg σ N + VV S L fg n (N + 1) σ
/-- the best of n + 1 nights, and its first theft -/
def BB (S L : Nat) (fg : Nat → Bool) (n N : Nat) (σ : St) : Nat × Option Nat := bfP (alP S fg σ) (fK S L fg n N σ) (fO S L fg n N σ) (8 * S)
theorem VV_s (S L : Nat) (fg : Nat → Bool) (n N : Nat) (σ : St) : VV S L fg (n + 1) N σ = (BB S L fg n N σ).1 := rfl
theorem cnB_pos {p : Nat → Bool} : ∀ n, 0 < cnB p n ↔ ∃ s, s < n ∧ p s = true
  | 0 => by simp [cnB]
  | n + 1 => by
    have ih := cnB_pos (p := p) n
    unfold cnB
    constructor
    · intro h
      cases hp : p n with
      | true => exact ⟨n, by omega, hp⟩
      | false =>
        rw [hp] at h
        obtain ⟨s, h1, h2⟩ := ih.mp h
        exact ⟨s, by omega, h2⟩
    · rintro ⟨s, h1, h2⟩
      by_cases e : s = n
      · subst e; rw [h2]; simp
      · have := ih.mpr ⟨s, by omega, h2⟩; omega
theorem cnB_mono {p q : Nat → Bool} : ∀ n, (∀ i, i < n → p i = true → q i = true) → cnB p n ≤ cnB q n
  | 0, _ => Nat.le_refl _
  | n + 1, h => by
    have ih := cnB_mono n (fun i hi => h i (by omega))
    unfold cnB
    cases hp : p n with
    | false => simp; omega
    | true => rw [h n (by omega) hp]; simp; omega
theorem cnB_add1 {p q : Nat → Bool} (x : Nat) : ∀ n, (∀ i, i < n → i ≠ x → p i = true → q i = true) → cnB p n ≤ cnB q n + 1
  | 0, _ => by simp [cnB]
  | n + 1, h => by
    unfold cnB
    by_cases e : n = x
    · have := cnB_mono (p := p) (q := q) n (fun i hi => h i (by omega) (by omega))
      cases p n <;> cases q n <;> simp <;> omega
    · have ih := cnB_add1 x n (fun i hi => h i (by omega))
      cases hp : p n with
      | false => simp; omega
      | true => rw [h n (by omega) e hp]; simp; omega
theorem cnB_new {p q : Nat → Bool} (x : Nat) (hp : p x = true) (hq : q x = false) : ∀ n, x < n → (∀ i, i < n → q i = true → p i = true) → cnB q n + 1 ≤ cnB p n
  | 0, h, _ => by omega
  | n + 1, h, hs => by
    unfold cnB
    by_cases e : n = x
    · subst e
      have := cnB_mono (p := q) (q := p) n (fun i hi => hs i (by omega))
      rw [hp, hq]; simp; omega
    · have ih := cnB_new x hp hq n (by omega) (fun i hi => hs i (by omega))
      cases hq2 : q n with
      | false => simp; omega
      | true => rw [hs n (by omega) hq2]; simp; omega
theorem cnB_swap {p q : Nat → Bool} (x o : Nat) {n : Nat} (ho : o < n) (hq : q o = true) (hp : p o = false) (h : ∀ i, i < n → i ≠ x → p i = true → q i = true) : cnB p n ≤ cnB q n := by
  have h1 : cnB p n ≤ cnB (fun i => q i && !decide (i = o)) n + 1 := cnB_add1 x n (fun i hi e hpi => by
    have : i ≠ o := fun e2 => by rw [e2, hp] at hpi; cases hpi
    simp [h i hi e hpi, this])
  have h2 : cnB (fun i => q i && !decide (i = o)) n + 1 ≤ cnB q n := cnB_new o hq (by simp) n ho (fun i hi z => by simp at z; exact z.1)
  omega
theorem anyL_iff {ow si : Nat → Option Nat} {L N : Nat} {fg : Nat → Bool} {S h : Nat} : anyL ow si L N fg S h = true ↔ ∃ s, s < S ∧ ow s = some h ∧ fg s = false ∧ lk1 L N (si s) = true := by
  unfold anyL
  rw [decide_eq_true_eq, cnB_pos]
  constructor
  · rintro ⟨s, h1, h2⟩
    simp only [lkp, lkS, Bool.and_eq_true, decide_eq_true_eq, Bool.not_eq_true'] at h2
    exact ⟨s, h1, h2.1, h2.2.1, h2.2.2⟩
  · rintro ⟨s, h1, h2, h3, h4⟩
    refine ⟨s, h1, ?_⟩
    simp [lkp, lkS, h2, h3, h4]
theorem bool_ext {a b : Bool} (h1 : a = true → b = true) (h2 : b = true → a = true) : a = b := by
  cases a <;> cases b <;> simp_all
theorem lkN_cg {S L : Nat} {fg : Nat → Bool} {σ τ : St} (h : ∀ s, s < S → fg s = false → σ.1 s = τ.1 s ∧ σ.2 s = τ.2 s) (N : Nat) : lkN S L fg σ N = lkN S L fg τ N := by
  refine cnB_congr 8 (fun x _ => bool_ext (fun q => ?_) (fun q => ?_))
  · obtain ⟨s, a1, a2, a3, a4⟩ := anyL_iff.mp q
    obtain ⟨b1, b2⟩ := h s a1 a3
    exact anyL_iff.mpr ⟨s, a1, by rw [← b1]; exact a2, a3, by rw [← b2]; exact a4⟩
  · obtain ⟨s, a1, a2, a3, a4⟩ := anyL_iff.mp q
    obtain ⟨b1, b2⟩ := h s a1 a3
    exact anyL_iff.mpr ⟨s, a1, by rw [b1]; exact a2, a3, by rw [b2]; exact a4⟩
theorem lk_step {S L : Nat} {fg : Nat → Bool} (σ : St) (k N i : Nat) : lkN S L fg (stP σ k N) (N + i) ≤ lkN S L fg σ (N + i) + (if i < L then 1 else 0) := by
  have key : ∀ x, anyL (stP σ k N).1 (stP σ k N).2 L (N + i) fg S x = true → (x ≠ k % 8 ∨ ¬ i < L) → anyL σ.1 σ.2 L (N + i) fg S x = true := by
    intro x q hx
    obtain ⟨s, a1, a2, a3, a4⟩ := anyL_iff.mp q
    by_cases e : s = k / 8
    · exfalso
      simp only [stP, uO, e, if_true] at a2 a4
      simp only [lk1, decide_eq_true_eq] at a4
      injection a2 with a2
      rcases hx with hx | hx
      · exact hx a2.symm
      · omega
    · simp only [stP, uO, e, if_false] at a2 a4
      exact anyL_iff.mpr ⟨s, a1, a2, a3, a4⟩
  unfold lkN
  by_cases hi : i < L
  · rw [if_pos hi]
    exact cnB_add1 (k % 8) 8 (fun x _ hx q => key x q (Or.inl hx))
  · rw [if_neg hi]
    exact cnB_mono 8 (fun x _ q => key x q (Or.inr hi))
theorem lk_st {L : Nat} {fg : Nat → Bool} (σ : St) (N : Nat) : ∀ S, lkN S L fg σ N ≤ stN S fg σ
  | 0 => by
    have : lkN 0 L fg σ N ≤ cnB (fun _ => false) 8 := cnB_mono 8 (fun x _ q => by
      obtain ⟨s, a1, _⟩ := anyL_iff.mp q; omega)
    exact this
  | S + 1 => by
    have ih := lk_st (L := L) (fg := fg) σ N S
    unfold lkN stN at ih ⊢
    show _ ≤ cnB (woB fg σ) S + cond (woB fg σ S) 1 0
    cases hw : woB fg σ S with
    | false =>
      have : cnB (anyL σ.1 σ.2 L N fg (S + 1)) 8 ≤ cnB (anyL σ.1 σ.2 L N fg S) 8 := cnB_mono 8 (fun x _ q => by
        obtain ⟨s, a1, a2, a3, a4⟩ := anyL_iff.mp q
        by_cases e : s = S
        · subst e
          simp [woB, a3, a2] at hw
        · exact anyL_iff.mpr ⟨s, by omega, a2, a3, a4⟩)
      simp; omega
    | true =>
      have : cnB (anyL σ.1 σ.2 L N fg (S + 1)) 8 ≤ cnB (anyL σ.1 σ.2 L N fg S) 8 + 1 := by
        cases ho : σ.1 S with
        | none => simp [woB, ho] at hw
        | some o =>
          exact cnB_add1 o 8 (fun x _ hx q => by
            obtain ⟨s, a1, a2, a3, a4⟩ := anyL_iff.mp q
            by_cases e : s = S
            · subst e
              rw [ho] at a2; injection a2 with a2; exact absurd a2.symm hx
            · exact anyL_iff.mpr ⟨s, by omega, a2, a3, a4⟩)
      simp; omega
theorem stN_st {S : Nat} {fg : Nat → Bool} {σ : St} {k : Nat} (h : alR S σ k = true) (N : Nat) : stN S fg (stP σ k N) = stN S fg σ := by
  refine cnB_congr S (fun s _ => ?_)
  simp only [alR, Bool.and_eq_true, decide_eq_true_eq] at h
  unfold woB stP
  by_cases e : s = k / 8
  · subst e
    simp only [uO_s]
    simp [h.2.1]
  · simp only [uO_n e]
theorem bf_t {al : Nat → Bool} {f : Nat → Nat} {f0 k : Nat} (h : al k = true) (h2 : (bfP al f f0 k).1 < f k) : bfP al f f0 (k + 1) = (f k, some k) := by
  show cond _ _ _ = _
  rw [h, decide_eq_true h2]; rfl
theorem bf_f {al : Nat → Bool} {f : Nat → Nat} {f0 k : Nat} (h : al k = false) : bfP al f f0 (k + 1) = bfP al f f0 k := by
  show cond _ _ _ = _
  rw [h]; rfl
theorem bf_l {al : Nat → Bool} {f : Nat → Nat} {f0 k : Nat} (h2 : f k ≤ (bfP al f f0 k).1) : bfP al f f0 (k + 1) = bfP al f f0 k := by
  show cond _ _ _ = _
  rw [decide_eq_false (by omega), Bool.and_false]; rfl
theorem bf_le {al : Nat → Bool} {f : Nat → Nat} {f0 C : Nat} (h0 : f0 ≤ C) (h : ∀ k, al k = true → f k ≤ C) : ∀ k, (bfP al f f0 k).1 ≤ C
  | 0 => h0
  | k + 1 => by
    have ih := bf_le h0 h k
    cases ha : al k with
    | false => rw [bf_f ha]; exact ih
    | true =>
      by_cases q : (bfP al f f0 k).1 < f k
      · rw [bf_t ha q]; exact h k ha
      · rw [bf_l (by omega)]; exact ih
theorem bf_ge0 {al : Nat → Bool} {f : Nat → Nat} {f0 : Nat} : ∀ k, f0 ≤ (bfP al f f0 k).1
  | 0 => Nat.le_refl _
  | k + 1 => by
    have ih := bf_ge0 (al := al) (f := f) (f0 := f0) k
    cases ha : al k with
    | false => rw [bf_f ha]; exact ih
    | true =>
      by_cases q : (bfP al f f0 k).1 < f k
      · rw [bf_t ha q]; show f0 ≤ f k; omega
      · rw [bf_l (by omega)]; exact ih
theorem bf_ge {al : Nat → Bool} {f : Nat → Nat} {f0 x : Nat} (hx : al x = true) : ∀ k, x < k → f x ≤ (bfP al f f0 k).1
  | 0, h => by omega
  | k + 1, h => by
    by_cases e : x = k
    · subst e
      by_cases q : (bfP al f f0 x).1 < f x
      · rw [bf_t hx q]; exact Nat.le_refl _
      · rw [bf_l (by omega)]; omega
    · have ih := bf_ge (f := f) (f0 := f0) hx k (by omega)
      cases ha : al k with
      | false => rw [bf_f ha]; exact ih
      | true =>
        by_cases q : (bfP al f f0 k).1 < f k
        · rw [bf_t ha q]; show f x ≤ f k; omega
        · rw [bf_l (by omega)]; exact ih
theorem bf_stop {al : Nat → Bool} {f : Nat → Nat} {f0 C k : Nat} (h : ∀ k, al k = true → f k ≤ C) (hk : C ≤ (bfP al f f0 k).1) : ∀ j, bfP al f f0 (k + j) = bfP al f f0 k
  | 0 => rfl
  | j + 1 => by
    have ih := bf_stop (f0 := f0) h hk j
    show bfP al f f0 (k + j + 1) = _
    cases ha : al (k + j) with
    | false => rw [bf_f ha]; exact ih
    | true => rw [bf_l (by rw [ih]; have := h _ ha; omega)]; exact ih
theorem bf_skip {al : Nat → Bool} {f : Nat → Nat} {f0 k : Nat} : ∀ j, (∀ i, i < j → al (k + i) = false) → bfP al f f0 (k + j) = bfP al f f0 k
  | 0, _ => rfl
  | j + 1, h => by
    show bfP al f f0 (k + j + 1) = _
    rw [bf_f (h j (by omega))]
    exact bf_skip j (fun i hi => h i (by omega))
theorem bf_cg {al al' : Nat → Bool} {f f' : Nat → Nat} {f0 f0' : Nat} (h0 : f0 = f0') (ha : ∀ k, al k = al' k) (hf : ∀ k, al k = true → f k = f' k) : ∀ k, bfP al f f0 k = bfP al' f' f0' k
  | 0 => by show (f0, none) = (f0', none); rw [h0]
  | k + 1 => by
    have ih := bf_cg h0 ha hf k
    show cond _ _ _ = cond _ _ _
    rw [ih, ← ha k]
    cases hq : al k with
    | false => rfl
    | true => rw [hf k hq]
/-- what is of no more use than none may be tried or not -/
theorem bf_more {al al' : Nat → Bool} {f : Nat → Nat} {f0 : Nat} (h1 : ∀ k, al k = true → al' k = true) (h2 : ∀ k, al' k = true → al k = false → f k ≤ f0) : ∀ k, bfP al' f f0 k = bfP al f f0 k
  | 0 => rfl
  | k + 1 => by
    have ih := bf_more h1 h2 k
    show cond _ _ _ = cond _ _ _
    rw [ih]
    cases ha : al k with
    | true => rw [h1 k ha]
    | false =>
      cases hb : al' k with
      | false => rfl
      | true =>
        have := h2 k hb ha
        have := bf_ge0 (al := al) (f := f) (f0 := f0) k
        rw [decide_eq_false (by omega)]; rfl
theorem stP_cg {S : Nat} {fg : Nat → Bool} {σ τ : St} (h : ∀ s, s < S → fg s = false → σ.1 s = τ.1 s ∧ σ.2 s = τ.2 s) (k N : Nat) : ∀ s, s < S → fg s = false → (stP σ k N).1 s = (stP τ k N).1 s ∧ (stP σ k N).2 s = (stP τ k N).2 s := by
  intro s hs hf
  unfold stP
  by_cases e : s = k / 8
  · subst e; exact ⟨by simp only [uO_s], by simp only [uO_s]⟩
  · simp only [uO_n e]; exact h s hs hf
theorem VV_cg {S L : Nat} {fg : Nat → Bool} : ∀ (n N : Nat) (σ τ : St), (∀ s, s < S → fg s = false → σ.1 s = τ.1 s ∧ σ.2 s = τ.2 s) → VV S L fg n N σ = VV S L fg n N τ
  | 0, _, _, _, _ => rfl
  | n + 1, N, σ, τ, h => by
    show (bfP _ _ _ _).1 = (bfP _ _ _ _).1
    congr 1
    refine bf_cg ?_ (fun k => ?_) (fun k hk => ?_) _
    · rw [lkN_cg h, VV_cg n (N + 1) σ τ h]
    · unfold alP alR
      by_cases e : k / 8 < S
      · cases hf : fg (k / 8) with
        | true => simp
        | false => rw [(h _ e hf).1]
      · simp [e]
    · show lkN S L fg (stP σ k N) N + VV S L fg n (N + 1) (stP σ k N) = lkN S L fg (stP τ k N) N + VV S L fg n (N + 1) (stP τ k N)
      rw [lkN_cg (stP_cg h k N), VV_cg n (N + 1) _ _ (stP_cg h k N)]
theorem BB_R (S L : Nat) (fg : Nat → Bool) (n N : Nat) (σ : St) (k : Nat) : bfP (alR S σ) (fK S L fg n N σ) (fO S L fg n N σ) k = bfP (alP S fg σ) (fK S L fg n N σ) (fO S L fg n N σ) k := by
  refine bf_more (fun k h => ?_) (fun k h1 h2 => ?_) k
  · simp only [alP, Bool.and_eq_true] at h; exact h.1
  · have hf : fg (k / 8) = true := by
      cases hq : fg (k / 8) with
      | true => rfl
      | false => simp [alP, h1, hq] at h2
    have hs : ∀ s, s < S → fg s = false → (stP σ k N).1 s = σ.1 s ∧ (stP σ k N).2 s = σ.2 s := by
      intro s hs hfs
      have e : s ≠ k / 8 := fun e => by rw [e, hf] at hfs; cases hfs
      exact ⟨uO_n e, uO_n e⟩
    unfold fK fO
    rw [lkN_cg hs, VV_cg n (N + 1) _ _ hs]
    exact Nat.le_refl _
/-! the ceiling -/
def mN (a b : Nat) : Nat := if a < b then a else b
theorem mN_le {a b : Nat} : mN a b ≤ a ∧ mN a b ≤ b := by unfold mN; split <;> omega
theorem mN_ge {a b c : Nat} (h1 : c ≤ a) (h2 : c ≤ b) : c ≤ mN a b := by unfold mN; split <;> omega
def gC (S L : Nat) (fg : Nat → Bool) (σ : St) (N i : Nat) : Nat := mN (lkN S L fg σ (N + i) + mN L (i + 1)) (mN 8 (stN S fg σ))
def ceS (S L : Nat) (fg : Nat → Bool) (σ : St) (N n : Nat) : Nat := dayS (gC S L fg σ N) 0 n
theorem dayS_le {f g : Nat → Nat} {a b : Nat} : ∀ j, (∀ i, i < j → f (a + i) ≤ g (b + i)) → dayS f a j ≤ dayS g b j
  | 0, _ => Nat.le_refl _
  | j + 1, h => by
    have ih := dayS_le j (fun i hi => h i (by omega))
    have := h j (by omega)
    unfold dayS
    omega
theorem VV_ce {S L : Nat} {fg : Nat → Bool} (hL : 1 ≤ L) : ∀ (n N : Nat) (σ : St), VV S L fg n N σ ≤ ceS S L fg σ N n
  | 0, _, _ => Nat.le_refl _
  | n + 1, N, σ => by
    have lk8 : ∀ (τ : St) (T : Nat), lkN S L fg τ T ≤ 8 := fun τ T => cnB_le _ 8
    have m1 : mN L 1 = 1 := by unfold mN; split <;> omega
    have one : ∀ τ : St, stN S fg τ = stN S fg σ → (∀ i, lkN S L fg τ (N + i) ≤ lkN S L fg σ (N + i) + (if i < L then 1 else 0)) → lkN S L fg τ N + VV S L fg n (N + 1) τ ≤ ceS S L fg σ N (n + 1) := by
      intro τ hst hlk
      have ih := VV_ce (S := S) (fg := fg) hL n (N + 1) τ
      unfold ceS at ih ⊢
      rw [dayS_cons]
      have hh : lkN S L fg τ N ≤ gC S L fg σ N 0 := by
        unfold gC
        refine mN_ge ?_ (mN_ge (lk8 τ N) ?_)
        · have := hlk 0
          simp only [Nat.add_zero, show 0 < L from hL, if_true] at this
          simp only [Nat.add_zero, Nat.zero_add, m1]
          exact this
        · rw [← hst]; exact lk_st τ N S
      have ht : dayS (gC S L fg τ (N + 1)) 0 n ≤ dayS (gC S L fg σ N) (0 + 1) n := by
        refine dayS_le n (fun i hi => ?_)
        rw [show 0 + i = i by omega, show 0 + 1 + i = i + 1 by omega]
        unfold gC
        rw [hst]
        refine mN_ge (Nat.le_trans mN_le.1 ?_) mN_le.2
        have := hlk (i + 1)
        rw [show N + 1 + i = N + (i + 1) by omega]
        unfold mN
        split at this <;> split <;> split <;> omega
      omega
    show (bfP _ _ _ _).1 ≤ _
    refine bf_le (one σ rfl (fun i => by omega)) (fun k hk => ?_) _
    simp only [alP, Bool.and_eq_true] at hk
    exact one (stP σ k N) (stN_st hk.1 N) (fun i => lk_step σ k N i)
/-! the last night -/
def twB (S L : Nat) (fg : Nat → Bool) (σ : St) (N x : Nat) : Bool := decide (2 ≤ cnB (lkp σ.1 σ.2 L N fg x) S)
def frB (S L : Nat) (fg : Nat → Bool) (σ : St) (N o x : Nat) : Bool := !anyL σ.1 σ.2 L N fg S x && !decide (x = o)
theorem cnB_two {p : Nat → Bool} {s : Nat} : ∀ n, 2 ≤ cnB p n → ∃ i, i < n ∧ i ≠ s ∧ p i = true
  | 0, h => by simp [cnB] at h
  | n + 1, h => by
    unfold cnB at h
    cases hp : p n with
    | false =>
      rw [hp] at h
      obtain ⟨i, h1, h2, h3⟩ := cnB_two (s := s) n h
      exact ⟨i, by omega, h2, h3⟩
    | true =>
      rw [hp] at h
      by_cases e : n = s
      · have h : 0 < cnB p n := by simp at h; omega
        obtain ⟨i, h1, h2⟩ := (cnB_pos n).mp h
        exact ⟨i, by omega, by omega, h2⟩
      · exact ⟨n, by omega, e, hp⟩
theorem two_cnB {p : Nat → Bool} {s i n : Nat} (h1 : s < n) (h2 : i < n) (hn : i ≠ s) (h3 : p s = true) (h4 : p i = true) : 2 ≤ cnB p n := by
  have a := cnB_new (p := p) (q := fun x => p x && !decide (x = s)) s h3 (by simp) n h1 (fun x hx z => by simp at z; exact z.1)
  have b : 0 < cnB (fun x => p x && !decide (x = s)) n := (cnB_pos n).mpr ⟨i, h2, by simp [h4, hn]⟩
  omega
theorem VV1_t {S L : Nat} {fg : Nat → Bool} {σ : St} {N s o x : Nat} (hL : 1 ≤ L) (hs : s < S) (ho : σ.1 s = some o) (hf : fg s = false) (hsp : lkS L N (fg s) (σ.2 s) = false ∨ twB S L fg σ N o = true) (hx : x < 8) (hfr : frB S L fg σ N o x = true) : VV S L fg 1 N σ = lkN S L fg σ N + 1 := by
  simp only [frB, Bool.and_eq_true, Bool.not_eq_true', decide_eq_false_iff_not] at hfr
  obtain ⟨h1, h2⟩ := hfr
  have e8 : (8 * s + x) / 8 = s := by omega
  have m8 : (8 * s + x) % 8 = x := by omega
  have hal : alP S fg σ (8 * s + x) = true := by
    simp only [alP, alR, e8, m8, ho, hf]
    simp [hs]
    exact fun q => h2 q.symm
  have hgain : lkN S L fg σ N + 1 ≤ lkN S L fg (stP σ (8 * s + x) N) N := by
    refine cnB_new x ?_ h1 8 hx (fun y hy q => ?_)
    · refine anyL_iff.mpr ⟨s, hs, ?_, hf, ?_⟩
      · simp only [stP, e8, m8, uO_s]
      · simp only [stP, e8, uO_s, lk1]; exact decide_eq_true (by omega)
    · obtain ⟨i, a1, a2, a3, a4⟩ := anyL_iff.mp q
      by_cases e : i = s
      · subst e
        rw [ho] at a2; injection a2 with a2
        have htw : twB S L fg σ N o = true := by
          rcases hsp with z | z
          · simp [lkS, a3, a4] at z
          · exact z
        obtain ⟨i', c1, c2, c3⟩ := cnB_two (s := i) S (of_decide_eq_true htw)
        simp only [lkp, lkS, Bool.and_eq_true, decide_eq_true_eq, Bool.not_eq_true'] at c3
        refine anyL_iff.mpr ⟨i', c1, ?_, c3.2.1, ?_⟩
        · simp only [stP, e8, uO_n c2]; rw [← a2]; exact c3.1
        · simp only [stP, e8, uO_n c2]; exact c3.2.2
      · refine anyL_iff.mpr ⟨i, a1, ?_, a3, ?_⟩
        · simp only [stP, e8, uO_n e]; exact a2
        · simp only [stP, e8, uO_n e]; exact a4
  have hge := bf_ge (f := fK S L fg 0 N σ) (f0 := fO S L fg 0 N σ) hal (8 * S) (by omega)
  have hle : VV S L fg 1 N σ ≤ lkN S L fg σ N + 1 := by
    refine bf_le (by show lkN S L fg σ N + 0 ≤ _; omega) (fun k hk => ?_) _
    have := lk_step (S := S) (L := L) (fg := fg) σ k N 0
    rw [if_pos (by omega)] at this
    exact this
  have e1 : fK S L fg 0 N σ (8 * s + x) = lkN S L fg (stP σ (8 * s + x) N) N := rfl
  rw [e1] at hge
  have e2 : VV S L fg 1 N σ = (bfP (alP S fg σ) (fK S L fg 0 N σ) (fO S L fg 0 N σ) (8 * S)).1 := rfl
  omega
theorem VV1_f {S L : Nat} {fg : Nat → Bool} {σ : St} {N : Nat} (h8 : ∀ s h, σ.1 s = some h → h < 8) (h : ∀ s o, s < S → σ.1 s = some o → fg s = false → (lkS L N (fg s) (σ.2 s) = false ∨ twB S L fg σ N o = true) → ∀ x, x < 8 → frB S L fg σ N o x = false) : VV S L fg 1 N σ = lkN S L fg σ N := by
  have hge : lkN S L fg σ N ≤ VV S L fg 1 N σ := bf_ge0 (f0 := fO S L fg 0 N σ) (8 * S)
  have hle : VV S L fg 1 N σ ≤ lkN S L fg σ N := by
    refine bf_le (Nat.le_refl _) (fun k hk => ?_) _
    show lkN S L fg (stP σ k N) N + 0 ≤ _
    rw [Nat.add_zero]
    simp only [alP, alR, Bool.and_eq_true, decide_eq_true_eq, Bool.not_eq_true'] at hk
    obtain ⟨⟨k1, k2, k3⟩, k4⟩ := hk
    cases ho : σ.1 (k / 8) with
    | none => exact absurd ho k2
    | some o =>
      have ho8 := h8 _ _ ho
      have hko : k % 8 ≠ o := fun e => k3 (by rw [ho, e])
      have other : ∀ y, y ≠ k % 8 → anyL (stP σ k N).1 (stP σ k N).2 L N fg S y = true → anyL σ.1 σ.2 L N fg S y = true := by
        intro y hy q
        obtain ⟨i, a1, a2, a3, a4⟩ := anyL_iff.mp q
        by_cases e : i = k / 8
        · subst e
          simp only [stP, uO_s] at a2
          injection a2 with a2
          exact absurd a2.symm hy
        · simp only [stP, uO_n e] at a2 a4
          exact anyL_iff.mpr ⟨i, a1, a2, a3, a4⟩
      by_cases hsp : lkS L N (fg (k / 8)) (σ.2 (k / 8)) = false ∨ twB S L fg σ N o = true
      · have hfr := h (k / 8) o k1 ho k4 hsp (k % 8) (by omega)
        have hin : anyL σ.1 σ.2 L N fg S (k % 8) = true := by
          simp only [frB, hko, decide_false, Bool.not_false, Bool.and_true, Bool.not_eq_false'] at hfr
          exact hfr
        refine cnB_mono 8 (fun y hy q => ?_)
        by_cases e : y = k % 8
        · rw [e]; exact hin
        · exact other y e q
      · have hsp1 : lkS L N (fg (k / 8)) (σ.2 (k / 8)) = true := by
          cases q : lkS L N (fg (k / 8)) (σ.2 (k / 8)) with
          | true => rfl
          | false => exact absurd (Or.inl q) hsp
        have hsp2 : ¬ 2 ≤ cnB (lkp σ.1 σ.2 L N fg o) S := fun q => hsp (Or.inr (decide_eq_true q))
        have hl1 : lk1 L N (σ.2 (k / 8)) = true := by
          simp only [lkS, Bool.and_eq_true] at hsp1; exact hsp1.2
        refine cnB_swap (k % 8) o ho8 (anyL_iff.mpr ⟨k / 8, k1, ho, k4, hl1⟩) ?_ (fun y hy e q => other y e q)
        cases q : anyL (stP σ k N).1 (stP σ k N).2 L N fg S o with
        | false => rfl
        | true =>
          exfalso
          obtain ⟨i, a1, a2, a3, a4⟩ := anyL_iff.mp q
          by_cases e : i = k / 8
          · subst e
            simp only [stP, uO_s] at a2
            injection a2 with a2
            exact hko a2
          · simp only [stP, uO_n e] at a2 a4
            exact hsp2 (two_cnB k1 a1 e (by simp [lkp, lkS, ho, k4, hl1]) (by simp [lkp, lkS, a2, a3, a4]))
  omega
end
section
/-! ===== lets: the class's search ===== -/
/-- all but what was picked is as it was -/
def kL (M N : sy_Mm) : Prop := ∀ k j, (k = 13 → j ≠ 1) → N k j = M k j
theorem kL.rf {M : sy_Mm} : kL M M := fun _ _ _ => rfl
theorem kL.tr {M N K : sy_Mm} (h : kL M N) (g : kL N K) : kL M K := fun k j q => (g k j q).trans (h k j q)
theorem kL.row {M N : sy_Mm} (h : kL M N) {k : Nat} (hk : k ≠ 13) : N k = M k := funext fun j => h k j (fun e => absurd e hk)
theorem kL.up {M N : sy_Mm} (h : kL M N) {x : Int32} : kL M (sy_up N 13 1 x) := fun k j q => by
  by_cases e : k = 13
  · subst e; rw [up_j (q rfl)]; exact h 13 j q
  · rw [up_k e]; exact h k j q
def lsC (M : sy_Mm) (S L : Nat) (fg : Nat → Bool) (σ : St) : Prop := lkC M S L fg σ.1 σ.2 ∧ M 9 6 = nI L ∧ 1 ≤ L
theorem lsC.kl {M N : sy_Mm} {S L : Nat} {fg : Nat → Bool} {σ : St} (h : lsC M S L fg σ) (k : kL M N) : lsC N S L fg σ := by
  unfold lsC lkC ownC at h ⊢
  rw [k.row (k := 1) (by omega), k.row (k := 9) (by omega), k.row (k := 10) (by omega), k.row (k := 11) (by omega)]
  exact h
set_option maxRecDepth 100000 in
set_option maxHeartbeats 4000000 in
theorem ev_worth (d : Nat) (M : sy_Mm) (S L s : Nat) (fg : Nat → Bool) (σ : St) (hs : s < S) (h : lsC M S L fg σ) : Ev (d + 1) i_X2_isWorthStealing [.ref 13, .int (nI s)] M (some (.int (zb (woB fg σ s)))) M := by
  obtain ⟨⟨hS, h3, hL, h5, hO, h11, hw8, ht⟩, h6, hL1⟩ := h
  refine ev_of ?_
  repeat refine fx_n rfl ?_
  refine fx_g rfl (ix_nI (by omega) (by omega)) ?_
  rw [nI_cl (by omega), hO s hs]
  repeat refine fx_n rfl ?_
  unfold woB
  cases ho : σ.1 s with
  | none =>
    refine fx_bt rfl rfl ?_
    repeat refine fx_n rfl ?_
    refine fx_r rfl rfl ⟨?_, rfl⟩
    simp [zb]
  | some o =>
    have := hw8 s o ho
    refine fx_bf rfl (nI_ne_m1 (by omega)) ?_
    repeat refine fx_n rfl ?_
    refine fx_p rfl (ev_isReal _ _ S s fg hS hs h5) ?_
    cases hf : fg s with
    | true =>
      refine fx_bt rfl (by decide) ?_
      repeat refine fx_n rfl ?_
      exact fx_r rfl rfl ⟨rfl, rfl⟩
    | false =>
      refine fx_bf rfl (by decide) ?_
      repeat refine fx_n rfl ?_
      refine fx_r rfl rfl ⟨?_, rfl⟩
      simp [zb]
theorem lkN_le (S L : Nat) (fg : Nat → Bool) (σ : St) (N : Nat) : lkN S L fg σ N ≤ 8 := cnB_le _ 8
theorem VV_le (S L : Nat) (fg : Nat → Bool) : ∀ (n N : Nat) (σ : St), VV S L fg n N σ ≤ 8 * n
  | 0, _, _ => Nat.le_refl _
  | n + 1, N, σ => bf_le (C := 8 * (n + 1)) (by have := VV_le S L fg n (N + 1) σ; have := lkN_le S L fg σ N; omega) (fun k _ => by
      show lkN S L fg (stP σ k N) N + VV S L fg n (N + 1) (stP σ k N) ≤ _
      have := VV_le S L fg n (N + 1) (stP σ k N)
      have := lkN_le S L fg (stP σ k N) N
      omega) _
theorem bN_256 (p : Nat → Bool) : bN p 8 < 512 := by have := bN_lt p 8; omega
set_option maxRecDepth 100000 in
set_option maxHeartbeats 4000000 in
theorem ev_ceiling (d : Nat) (M : sy_Mm) (S L N n : Nat) (fg : Nat → Bool) (σ : St) (hN : N ≤ 300) (hn : n ≤ 3) (h : lsC M S L fg σ) : Ev (d + 3) i_X2_ceiling [.ref 13, .int (nI N), .int (nI n)] M (some (.int (nI (ceS S L fg σ N n)))) M := by
  obtain ⟨⟨hS, h3, hL, h5, hO, h11, hw8, ht⟩, h6, hL1⟩ := id h
  have loop2 : ∀ (j i : Nat) (x6 x7 : Option Value), i + j = n → Fx (d + 3) i_X2_ceiling 52 [some (.ref 13), some (.int (nI N)), some (.int (nI n)), some (.int (nI (stN S fg σ))), some (.int (nI (dayS (gC S L fg σ N) 0 i))), some (.int (nI i)), x6, x7] [.int (nI n), .int (nI i)] M (fun r M' => r = some (.int (nI (ceS S L fg σ N n))) ∧ M' = M) := by
    intro j
    induction j with
    | zero =>
      intro i x6 x7 hi
      have e : i = n := by omega
      subst e
      refine fx_bt rfl (nI_le (Nat.le_refl _) (by omega)) ?_
      repeat refine fx_n rfl ?_
      exact fx_r rfl rfl ⟨rfl, rfl⟩
    | succ j ih =>
      intro i x6 x7 hi
      refine fx_bf rfl (nI_ge (by omega) (by omega)) ?_
      repeat refine fx_n rfl ?_
      rw [nI_add]
      refine fx_p rfl (ev_luckyHouses _ M S L (N + i) fg σ.1 σ.2 (by omega) h.1) ?_
      refine fx_p rfl (ev_bitCount _ _ _ (bN_256 _)) ?_
      rw [pcn_bN _ 8 (by omega)]
      repeat refine fx_n rfl ?_
      have l8 := lkN_le S L fg σ (N + i)
      have s9 : stN S fg σ ≤ S := cnB_le _ S
      have mL := mN_le (a := L) (b := i + 1)
      have e1 : (if M 9 6 < nI i + 1 then M 9 6 else nI i + 1) = nI (mN L (i + 1)) := by rw [h6, nI_1, min_nI (by omega) (by omega)]; rfl
      have e2 : (if (8 : Int32) < nI (stN S fg σ) then (8 : Int32) else nI (stN S fg σ)) = nI (mN 8 (stN S fg σ)) := min_nI (a := 8) (by omega) (by omega)
      have m8 := mN_le (a := 8) (b := stN S fg σ)
      rw [e1, e2, show cnB (anyL σ.1 σ.2 L (N + i) fg S) 8 = lkN S L fg σ (N + i) from rfl, nI_add, min_nI (by omega) (by omega), nI_add, nI_1]
      have := ih (i + 1) (some (.int (nI (lkN S L fg σ (N + i))))) (some (.int (nI (mN L (i + 1))))) (by omega)
      have eD : dayS (gC S L fg σ N) 0 (i + 1) = dayS (gC S L fg σ N) 0 i + (if lkN S L fg σ (N + i) + mN L (i + 1) < mN 8 (stN S fg σ) then lkN S L fg σ (N + i) + mN L (i + 1) else mN 8 (stN S fg σ)) := by
        show dayS (gC S L fg σ N) 0 i + gC S L fg σ N (0 + i) = _
        rw [Nat.zero_add]; rfl
      rw [eD] at this
      exact this
  have loop1 : ∀ (j s : Nat), s + j = S → Fx (d + 3) i_X2_ceiling 17 [some (.ref 13), some (.int (nI N)), some (.int (nI n)), some (.int (nI (cnB (woB fg σ) s))), some (.int (nI s)), none, none, none] [.int (M 1 3), .int (nI s)] M (fun r M' => r = some (.int (nI (ceS S L fg σ N n))) ∧ M' = M) := by
    intro j
    induction j with
    | zero =>
      intro s hs
      have e : s = S := by omega
      subst e
      refine fx_bt rfl (by rw [h3]; exact nI_le (Nat.le_refl _) (by omega)) ?_
      repeat refine fx_n rfl ?_
      exact loop2 n 0 none none (by omega)
    | succ j ih =>
      intro s hs
      have i2 := ih (s + 1) (by omega)
      refine fx_bf rfl (by rw [h3]; exact nI_ge (by omega) (by omega)) ?_
      repeat refine fx_n rfl ?_
      refine fx_p rfl (ev_worth _ M S L s fg σ (by omega) h) ?_
      cases hw : woB fg σ s with
      | true =>
        rw [cnB_t hw] at i2
        refine fx_bf rfl (by decide) ?_
        repeat refine fx_n rfl ?_
        rw [nI_1, nI_1]
        exact i2
      | false =>
        rw [cnB_f hw] at i2
        refine fx_bt rfl (by decide) ?_
        repeat refine fx_n rfl ?_
        rw [Int32.add_zero, nI_1]
        exact i2
  refine ev_of ?_
  repeat refine fx_n rfl ?_
  exact loop1 S 0 (by omega)
/-! the last night -/
theorem or_nI {a b : Nat} (ha : a < 256) (hb : b < 256) : nI a ||| nI b = nI (a ||| b) := by
  have h : a ||| b < 256 := Nat.or_lt_two_pow (n := 8) ha hb
  apply Int32.toBitVec_inj.mp
  apply BitVec.eq_of_toNat_eq
  rw [Int32.toBitVec_or, BitVec.toNat_or, pk_tn (by omega), pk_tn (by omega), pk_tn (by omega)]
theorem not_255 : ∀ a, a < 256 → (255 : Int32) &&& (nI a ^^^ (-1)) = nI (255 - a) := by decide +kernel
theorem and_nbit : ∀ o, o < 8 → ∀ a, a < 256 → nI a &&& (((1 : Int32) <<< (nI o &&& 31)) ^^^ (-1)) = nI (a &&& (255 - 2 ^ o)) := by decide +kernel
theorem bN_not (p : Nat → Bool) : ∀ n, bN p n + bN (fun x => !p x) n = 2 ^ n - 1
  | 0 => rfl
  | n + 1 => by
    have ih := bN_not p n
    have := Nat.two_pow_pos n
    unfold bN
    rw [Nat.pow_succ]
    cases p n <;> simp <;> omega
theorem bN_0 (p : Nat → Bool) : ∀ n, bN p n = 0 → ∀ x, x < n → p x = false
  | 0, _, x, hx => by omega
  | n + 1, h, x, hx => by
    unfold bN at h
    cases hp : p n with
    | true => rw [hp] at h; have := Nat.two_pow_pos n; simp at h
    | false =>
      rw [hp] at h
      by_cases e : x = n
      · rw [e]; exact hp
      · exact bN_0 p n (by simpa using h) x (by omega)
theorem bN_ne (p : Nat → Bool) : ∀ n, bN p n ≠ 0 → ∃ x, x < n ∧ p x = true
  | 0, h => absurd rfl h
  | n + 1, h => by
    cases hp : p n with
    | true => exact ⟨n, by omega, hp⟩
    | false =>
      rw [bN_skip p hp] at h
      obtain ⟨x, h1, h2⟩ := bN_ne p n h
      exact ⟨x, by omega, h2⟩
theorem fr_bits {S L : Nat} {fg : Nat → Bool} {σ : St} {N o : Nat} (ho : o < 8) : ((255 : Int32) &&& (nI (bN (anyL σ.1 σ.2 L N fg S) 8) ^^^ (-1))) &&& (((1 : Int32) <<< (nI o &&& 31)) ^^^ (-1)) = nI (bN (frB S L fg σ N o) 8) := by
  have h1 := bN_lt (anyL σ.1 σ.2 L N fg S) 8
  have e1 := bN_not (anyL σ.1 σ.2 L N fg S) 8
  have e2 := bN_not (fun x => decide (x = o)) 8
  rw [bN_one ho] at e2
  rw [not_255 _ (by omega), and_nbit o ho _ (by omega)]
  rw [show 255 - bN (anyL σ.1 σ.2 L N fg S) 8 = bN (fun x => !anyL σ.1 σ.2 L N fg S x) 8 by omega, show 255 - 2 ^ o = bN (fun x => !decide (x = o)) 8 by omega, bN_and]
  rfl
theorem tw_bits {S L : Nat} {fg : Nat → Bool} {σ : St} {N o : Nat} (ho : o < 8) : nI (bN (twB S L fg σ N) 8) &&& ((1 : Int32) <<< (nI o &&& 31)) = 0 ↔ twB S L fg σ N o = false := by
  rw [nI_and8 _ (bN_lt _ 8) o ho, ← bN_one ho, bN_and]
  have hlt := bN_lt (fun s => twB S L fg σ N s && decide (s = o)) 8
  constructor
  · intro q
    have q := (nI_eq (b := 0) (by omega) (by omega)).mp q
    have := bN_0 _ 8 q o ho
    simpa using this
  · intro q
    have : bN (fun s => twB S L fg σ N s && decide (s = o)) 8 = 0 := by
      apply Decidable.byContradiction
      intro z
      obtain ⟨x, h1, h2⟩ := bN_ne _ 8 z
      simp at h2
      rw [h2.2, q] at h2
      cases h2.1
    rw [this]; rfl
set_option maxRecDepth 100000 in
set_option maxHeartbeats 4000000 in
theorem ev_mostInLast (d : Nat) (M : sy_Mm) (S L N : Nat) (fg : Nat → Bool) (σ : St) (hN : N ≤ 300) (h : lsC M S L fg σ) : Ev (d + 2) i_X2_mostInLast [.ref 13, .int (nI N)] M (some (.int (nI (VV S L fg 1 N σ)))) M := by
  obtain ⟨⟨hS, h3, hL, h5, hO, h11, hw8, ht⟩, h6, hL1⟩ := id h
  have l8 := lkN_le S L fg σ N
  have loop2 : ∀ (j s : Nat) (x6 x7 : Option Value), s + j = S → (∀ i o, i < s → σ.1 i = some o → fg i = false → (lkS L N (fg i) (σ.2 i) = false ∨ twB S L fg σ N o = true) → ∀ x, x < 8 → frB S L fg σ N o x = false) → Fx (d + 2) i_X2_mostInLast 102 [some (.ref 13), some (.int (nI N)), some (.int (nI (bN (anyL σ.1 σ.2 L N fg S) 8))), some (.int (nI (bN (twB S L fg σ N) 8))), some (.int (nI (lkN S L fg σ N))), some (.int (nI s)), x6, x7] [.int (M 1 3), .int (nI s)] M (fun r M' => r = some (.int (nI (VV S L fg 1 N σ))) ∧ M' = M) := by
    intro j
    induction j with
    | zero =>
      intro s x6 x7 hs hno
      have e : s = S := by omega
      subst e
      refine fx_bt rfl (by rw [h3]; exact nI_le (Nat.le_refl _) (by omega)) ?_
      repeat refine fx_n rfl ?_
      exact fx_r rfl rfl ⟨by rw [VV1_f hw8 hno], rfl⟩
    | succ j ih =>
      intro s x6 x7 hs hno
      have i2 : ∀ x6 x7 : Option Value, (∀ o, σ.1 s = some o → fg s = false → (lkS L N (fg s) (σ.2 s) = false ∨ twB S L fg σ N o = true) → ∀ x, x < 8 → frB S L fg σ N o x = false) → _ := fun x6 x7 hq => ih (s + 1) x6 x7 (by omega) (fun i o hi => by
        by_cases e : i = s
        · subst e; exact hq o
        · exact hno i o (by omega))
      refine fx_bf rfl (by rw [h3]; exact nI_ge (by omega) (by omega)) ?_
      repeat refine fx_n rfl ?_
      refine fx_p rfl (ev_worth _ M S L s fg σ (by omega) h) ?_
      cases hw : woB fg σ s with
      | false =>
        refine fx_bt rfl (by decide) ?_
        repeat refine fx_n rfl ?_
        rw [nI_1]
        refine i2 _ _ (fun o h1 h2 => ?_)
        simp [woB, h1, h2] at hw
      | true =>
        refine fx_bf rfl (by decide) ?_
        simp only [woB, Bool.and_eq_true, Bool.not_eq_true', decide_eq_true_eq] at hw
        obtain ⟨hf, hno2⟩ := hw
        cases ho : σ.1 s with
        | none => exact absurd ho hno2
        | some o =>
          have ho8 := hw8 s o ho
          repeat refine fx_n rfl ?_
          refine fx_g rfl (ix_nI (by omega) (by omega)) ?_
          rw [nI_cl (by omega), hO s (by omega), ho, show oI (some o) = nI o from rfl]
          repeat refine fx_n rfl ?_
          refine fx_p rfl (ev_isLucky _ _ S L N s fg σ.2 hS (by omega) (by omega) hL h5 h11 ht) ?_
          have go : (lkS L N (fg s) (σ.2 s) = false ∨ twB S L fg σ N o = true) → Fx (d + 2) i_X2_mostInLast 157 [some (.ref 13), some (.int (nI N)), some (.int (nI (bN (anyL σ.1 σ.2 L N fg S) 8))), some (.int (nI (bN (twB S L fg σ N) 8))), some (.int (nI (lkN S L fg σ N))), some (.int (nI s)), some (.int ((1 : Int32) <<< (nI o &&& 31))), some (.int 1)] [.int 1] M (fun r M' => r = some (.int (nI (VV S L fg 1 N σ))) ∧ M' = M) := by
            intro hsp
            refine fx_bf rfl (by decide) ?_
            repeat refine fx_n rfl ?_
            rw [fr_bits ho8]
            have hlt := bN_lt (frB S L fg σ N o) 8
            by_cases hz : bN (frB S L fg σ N o) 8 = 0
            · refine fx_bt rfl (by rw [hz]; rfl) ?_
              repeat refine fx_n rfl ?_
              rw [nI_1]
              refine i2 _ _ (fun o' h1 _ _ => ?_)
              rw [ho] at h1; injection h1 with h1
              subst h1
              exact bN_0 _ 8 hz
            · refine fx_bf rfl (nI_ne0 (by omega) (by omega)) ?_
              repeat refine fx_n rfl ?_
              obtain ⟨x, hx, hfr⟩ := bN_ne _ 8 hz
              rw [nI_1]
              exact fx_r rfl rfl ⟨by rw [VV1_t hL1 (by omega) ho hf hsp hx hfr], rfl⟩
          cases hl : lkS L N (fg s) (σ.2 s) with
          | false =>
            refine fx_bt rfl (by decide) ?_
            repeat refine fx_n rfl ?_
            exact go (Or.inl hl)
          | true =>
            refine fx_bf rfl (by decide) ?_
            repeat refine fx_n rfl ?_
            by_cases htw : twB S L fg σ N o = true
            · refine fx_bf rfl (fun z => by rw [tw_bits ho8, htw] at z; cases z) ?_
              repeat refine fx_n rfl ?_
              exact go (Or.inr htw)
            · have htf : twB S L fg σ N o = false := by
                cases q : twB S L fg σ N o with
                | false => rfl
                | true => exact absurd q htw
              refine fx_bt rfl ((tw_bits ho8).mpr htf) ?_
              repeat refine fx_n rfl ?_
              refine fx_bt rfl (by decide) ?_
              repeat refine fx_n rfl ?_
              rw [nI_1]
              refine i2 _ _ (fun o' h1 _ h3' => ?_)
              rw [ho] at h1; injection h1 with h1
              subst h1
              rcases h3' with z | z
              · rw [hl] at z; cases z
              · rw [htf] at z; cases z
  have loop1 : ∀ (j s : Nat) (x5 : Option Value), s + j = S → Fx (d + 2) i_X2_mostInLast 19 [some (.ref 13), some (.int (nI N)), some (.int (nI (bN (anyL σ.1 σ.2 L N fg s) 8))), some (.int (nI (bN (twB s L fg σ N) 8))), some (.int (nI s)), x5, none, none] [.int (M 1 3), .int (nI s)] M (fun r M' => r = some (.int (nI (VV S L fg 1 N σ))) ∧ M' = M) := by
    intro j
    induction j with
    | zero =>
      intro s x5 hs
      have e : s = S := by omega
      subst e
      refine fx_bt rfl (by rw [h3]; exact nI_le (Nat.le_refl _) (by omega)) ?_
      repeat refine fx_n rfl ?_
      refine fx_p rfl (ev_bitCount _ _ _ (bN_256 _)) ?_
      rw [pcn_bN _ 8 (by omega)]
      repeat refine fx_n rfl ?_
      exact loop2 s 0 none none (by omega) (fun i o hi => by omega)
    | succ j ih =>
      intro s x5 hs
      have i2 := fun x5 => ih (s + 1) x5 (by omega)
      refine fx_bf rfl (by rw [h3]; exact nI_ge (by omega) (by omega)) ?_
      repeat refine fx_n rfl ?_
      refine fx_g rfl (ix_nI (by omega) (by omega)) ?_
      rw [nI_cl (by omega), hO s (by omega)]
      repeat refine fx_n rfl ?_
      have skip : (∀ x, lkp σ.1 σ.2 L N fg x s = false) → bN (anyL σ.1 σ.2 L N fg (s + 1)) 8 = bN (anyL σ.1 σ.2 L N fg s) 8 ∧ bN (twB (s + 1) L fg σ N) 8 = bN (twB s L fg σ N) 8 := fun q => ⟨bN_congr 8 (fun x _ => anyL_f (q x)), bN_congr 8 (fun x _ => by unfold twB; rw [cnB_f (q x)])⟩
      cases ho : σ.1 s with
      | none =>
        obtain ⟨k1, k2⟩ := skip (fun x => by simp [lkp, ho])
        rw [k1, k2] at i2
        refine fx_bt rfl rfl ?_
        repeat refine fx_n rfl ?_
        rw [nI_1]
        exact i2 _
      | some o =>
        have ho8 := hw8 s o ho
        refine fx_bf rfl (nI_ne_m1 (by omega)) ?_
        repeat refine fx_n rfl ?_
        refine fx_p rfl (ev_isLucky _ _ S L N s fg σ.2 hS (by omega) (by omega) hL h5 h11 ht) ?_
        cases hq : lkS L N (fg s) (σ.2 s) with
        | false =>
          obtain ⟨k1, k2⟩ := skip (fun x => by simp [lkp, hq])
          rw [k1, k2] at i2
          refine fx_bt rfl (by decide) ?_
          repeat refine fx_n rfl ?_
          rw [nI_1]
          exact i2 _
        | true =>
          refine fx_bf rfl (by decide) ?_
          repeat refine fx_n rfl ?_
          refine fx_g rfl (ix_nI (by omega) (by omega)) ?_
          rw [nI_cl (by omega), hO s (by omega), ho, show oI (some o) = nI o from rfl]
          repeat refine fx_n rfl ?_
          have la := bN_lt (anyL σ.1 σ.2 L N fg s) 8
          have lt := bN_lt (twB s L fg σ N) 8
          have e1 : nI (bN (anyL σ.1 σ.2 L N fg s) 8) ||| ((1 : Int32) <<< (nI o &&& 31)) = nI (bN (anyL σ.1 σ.2 L N fg (s + 1)) 8) := by
            rw [nI_or _ la o ho8, ← bN_one ho8, bN_or]
            congr 1
            refine bN_congr 8 (fun x _ => ?_)
            by_cases hx : x = o
            · subst hx
              rw [anyL_t (by simp [lkp, ho, hq])]; simp
            · rw [anyL_f (by simp [lkp, ho, Ne.symm hx])]; simp [hx]
          have e2 : nI (bN (twB s L fg σ N) 8) ||| (nI (bN (anyL σ.1 σ.2 L N fg s) 8) &&& ((1 : Int32) <<< (nI o &&& 31))) = nI (bN (twB (s + 1) L fg σ N) 8) := by
            rw [nI_and8 _ la o ho8, ← bN_one ho8, bN_and, or_nI lt (bN_lt _ 8), bN_or]
            congr 1
            refine bN_congr 8 (fun x _ => ?_)
            by_cases hx : x = o
            · subst hx
              unfold twB anyL
              rw [cnB_t (n := s) (p := lkp σ.1 σ.2 L N fg x) (by simp [lkp, ho, hq])]
              apply bool_ext <;> simp <;> omega
            · unfold twB
              rw [cnB_f (n := s) (p := lkp σ.1 σ.2 L N fg x) (by simp [lkp, ho, Ne.symm hx])]; simp [hx]
          rw [e1, e2, nI_1]
          exact i2 _
  refine ev_of ?_
  repeat refine fx_n rfl ?_
  have z1 : bN (anyL σ.1 σ.2 L N fg 0) 8 = 0 := by
    have : anyL σ.1 σ.2 L N fg 0 = fun _ => false := by funext x; simp [anyL, cnB]
    rw [this]; rfl
  have z2 : bN (twB 0 L fg σ N) 8 = 0 := by
    have : twB 0 L fg σ N = fun _ => false := by funext x; simp [twB, cnB]
    rw [this]; rfl
  have := loop1 S 0 none (by omega)
  rw [z1, z2] at this
  exact this
end
section
/-! ===== lets: the class's search, night by night ===== -/
def HF (S L : Nat) (fg : Nat → Bool) (n D : Nat) : Prop := ∀ (d : Nat) (M : sy_Mm) (σ : St) (N : Nat), D ≤ d → N + n ≤ 250 → lsC M S L fg σ → Ex d i_X2_nightsFrom [.ref 13, .int (nI N), .int (nI (n + 1))] M (fun r M' => r = some (.int (nI (fO S L fg n N σ))) ∧ kL M M')
theorem e_nI (s h : Nat) : (8 : Int32) * nI s + nI h = nI (8 * s + h) := by rw [show (8 : Int32) * nI s = nI (8 * s) from pk_mul 8 s, nI_add]
set_option maxRecDepth 100000 in
set_option maxHeartbeats 4000000 in
theorem ex_nightsWith (d : Nat) (M : sy_Mm) (S L N n s h : Nat) (fg : Nat → Bool) (σ : St) (hN : N + n ≤ 250) (hs : s < S) (hh : h < 8) (hC : lsC M S L fg σ) (D : Nat) (hF : HF S L fg n D) (hD : D ≤ d) : Ex (d + 1) i_X2_nightsWith [.ref 13, .int (nI s), .int (nI h), .int (nI N), .int (nI (n + 1))] M (fun r M' => r = some (.int (nI (fK S L fg n N σ (8 * s + h)))) ∧ kL M M') := by
  obtain ⟨⟨hS, h3, hL, h5, hO, h11, hw8, ht⟩, h6, hL1⟩ := id hC
  have e8 : (8 * s + h) / 8 = s := by omega
  have m8 : (8 * s + h) % 8 = h := by omega
  unfold Ex
  repeat refine fx_n rfl ?_
  refine fx_g rfl (ix_nI (by omega) (by omega)) ?_
  rw [nI_cl (by omega)]
  repeat refine fx_n rfl ?_
  refine fx_g rfl (ix_nI (by omega) (by omega)) ?_
  rw [nI_cl (by omega)]
  repeat refine fx_n rfl ?_
  refine fx_g rfl (ix_nI (by omega) (by omega)) ?_
  rw [nI_cl (by omega)]
  repeat refine fx_n rfl ?_
  rw [show sy_up M 10 s (nI h) 9 6 = nI L from h6, nI_add]
  refine fx_g rfl (ix_nI (by omega) (by omega)) ?_
  rw [nI_cl (by omega)]
  repeat refine fx_n rfl ?_
  have hC2 : lsC (sy_up (sy_up M 10 s (nI h)) 11 s (nI (N + L))) S L fg (stP σ (8 * s + h) N) := by
    refine ⟨⟨hS, h3, hL, h5, fun q hq => ?_, fun q hq => ?_, fun q x hx => ?_, fun q x hx => ?_⟩, h6, hL1⟩
    · rw [up_k (by omega)]
      by_cases e : q = s
      · rw [e, up_s]; simp only [stP, e8, m8, uO_s]; rfl
      · rw [up_j e]; simp only [stP, e8, uO_n e]; exact hO q hq
    · by_cases e : q = s
      · rw [e, up_s]; simp only [stP, e8, uO_s]; rfl
      · rw [up_j e, up_k (by omega)]; simp only [stP, e8, uO_n e]; exact h11 q hq
    · by_cases e : q = s
      · rw [e] at hx; simp only [stP, e8, m8, uO_s] at hx; cases hx; exact hh
      · simp only [stP, e8, uO_n e] at hx; exact hw8 q x hx
    · by_cases e : q = s
      · rw [e] at hx; simp only [stP, e8, uO_s] at hx; cases hx; omega
      · simp only [stP, e8, uO_n e] at hx; exact ht q x hx
  refine fx_c rfl (hF _ _ _ N hD hN hC2) ?_
  rintro _ M3 ⟨rfl, k3⟩
  repeat refine fx_n rfl ?_
  refine fx_g rfl (ix_nI (by omega) (by omega)) ?_
  rw [nI_cl (by omega)]
  repeat refine fx_n rfl ?_
  refine fx_g rfl (ix_nI (by omega) (by omega)) ?_
  rw [nI_cl (by omega)]
  repeat refine fx_n rfl ?_
  refine fx_r rfl rfl ⟨rfl, fun k j q => ?_⟩
  by_cases e11 : k = 11
  · subst e11
    by_cases e : j = s
    · rw [e, up_s]
    · rw [up_j e, up_k (by omega), k3 11 j q, up_j e, up_k (by omega)]
  · rw [up_k e11]
    by_cases e10 : k = 10
    · subst e10
      by_cases e : j = s
      · rw [e, up_s]
      · rw [up_j e, k3 10 j q, up_k (by omega), up_j e]
    · rw [up_k e10, k3 k j q, up_k e11, up_k e10]
theorem fK_le (S L : Nat) (fg : Nat → Bool) (n N : Nat) (σ : St) (k : Nat) : fK S L fg n N σ k ≤ 8 * (n + 1) := by
  unfold fK
  have := VV_le S L fg n (N + 1) (stP σ k N)
  have := lkN_le S L fg (stP σ k N) N
  omega
theorem fO_le (S L : Nat) (fg : Nat → Bool) (n N : Nat) (σ : St) : fO S L fg n N σ ≤ 8 * (n + 1) := by
  unfold fO
  have := VV_le S L fg n (N + 1) σ
  have := lkN_le S L fg σ N
  omega
set_option maxRecDepth 100000 in
set_option maxHeartbeats 4000000 in
theorem ex_mostNights (d : Nat) (M : sy_Mm) (S L N n : Nat) (fg : Nat → Bool) (σ : St) (hN : N + n ≤ 250) (hn : n ≤ 2) (hC : lsC M S L fg σ) (D : Nat) (hF : HF S L fg n D) (hD : D ≤ d + 2) : Ex (d + 4) i_X2_mostNights [.ref 13, .int (nI N), .int (nI (n + 1))] M (fun r M' => r = some (.int (nI (BB S L fg n N σ).1)) ∧ M' 13 1 = oI (BB S L fg n N σ).2 ∧ kL M M') := by
  obtain ⟨⟨hS, h3, hL, h5, hO, h11, hw8, ht⟩, h6, hL1⟩ := id hC
  have hce : ∀ k, alP S fg σ k = true → fK S L fg n N σ k ≤ ceS S L fg σ N (n + 1) := by
    intro k hk
    have hk8 : k < 8 * S := by
      simp only [alP, alR, Bool.and_eq_true, decide_eq_true_eq] at hk
      omega
    have := bf_ge (f := fK S L fg n N σ) (f0 := fO S L fg n N σ) hk (8 * S) hk8
    have := VV_ce (S := S) (fg := fg) hL1 (n + 1) N σ
    rw [VV_s] at this
    unfold BB at this
    omega
  have hb : ∀ k, (bfP (alP S fg σ) (fK S L fg n N σ) (fO S L fg n N σ) k).1 ≤ 24 := fun k => bf_le (by have := fO_le S L fg n N σ; omega) (fun k _ => by have := fK_le S L fg n N σ k; omega) k
  have hcb : ceS S L fg σ N (n + 1) ≤ 24 := by
    have h8 : ∀ j, dayS (gC S L fg σ N) 0 j ≤ 8 * j := by
      intro j
      induction j with
      | zero => exact Nat.le_refl _
      | succ j ih =>
        show dayS (gC S L fg σ N) 0 j + gC S L fg σ N (0 + j) ≤ _
        have a : gC S L fg σ N (0 + j) ≤ mN 8 (stN S fg σ) := mN_le.2
        have b := mN_le (a := 8) (b := stN S fg σ)
        omega
    have := h8 (n + 1)
    unfold ceS
    omega
  have inner : ∀ (s : Nat) (K : Option Value → sy_Mm → Prop), s < S → woB fg σ s = true → (∀ (M2 : sy_Mm) (x7 x8 : Option Value), kL M M2 → Fx (d + 4) i_X2_mostNights 50 [some (.ref 13), some (.int (nI N)), some (.int (nI (n + 1))), some (.int (nI (ceS S L fg σ N (n + 1)))), some (.int (nI (bfP (alP S fg σ) (fK S L fg n N σ) (fO S L fg n N σ) (8 * s + 8)).1)), some (.int (oI (bfP (alP S fg σ) (fK S L fg n N σ) (fO S L fg n N σ) (8 * s + 8)).2)), some (.int (nI (s + 1))), x7, x8] [.int (M2 1 3), .int (nI (s + 1))] M2 K) → ∀ (j h : Nat) (x8 : Option Value) (M1 : sy_Mm), h + j = 8 → kL M M1 → Fx (d + 4) i_X2_mostNights 78 [some (.ref 13), some (.int (nI N)), some (.int (nI (n + 1))), some (.int (nI (ceS S L fg σ N (n + 1)))), some (.int (nI (bfP (alP S fg σ) (fK S L fg n N σ) (fO S L fg n N σ) (8 * s + h)).1)), some (.int (oI (bfP (alP S fg σ) (fK S L fg n N σ) (fO S L fg n N σ) (8 * s + h)).2)), some (.int (nI s)), some (.int (nI h)), x8] [.int 8, .int (nI h)] M1 K := by
    intro s K hs hw k j
    simp only [woB, Bool.and_eq_true, Bool.not_eq_true', decide_eq_true_eq] at hw
    obtain ⟨hf, hno⟩ := hw
    induction j with
    | zero =>
      intro h x8 M1 hh hK
      have e : h = 8 := by omega
      subst e
      refine fx_bt rfl (by decide) ?_
      repeat refine fx_n rfl ?_
      rw [nI_1]
      exact k M1 _ _ hK
    | succ j ih =>
      intro h x8 M1 hh hK
      have hC1 := hC.kl hK
      have e8 : (8 * s + h) / 8 = s := by omega
      have m8 : (8 * s + h) % 8 = h := by omega
      have hb1 := hb (8 * s + h)
      have hfk := fK_le S L fg n N σ (8 * s + h)
      refine fx_bf rfl (nI_ge (b := 8) (by omega) (by omega)) ?_
      repeat refine fx_n rfl ?_
      refine fx_g rfl (ix_nI (by omega) (by omega)) ?_
      rw [nI_cl (by omega), hC1.1.2.2.2.2.1 s hs]
      cases ho : σ.1 s with
      | none => exact absurd ho hno
      | some o =>
        have ho8 := hw8 s o ho
        by_cases hho : h = o
        · have hal : alP S fg σ (8 * s + h) = false := by
            simp only [alP, alR, e8, m8, ho]
            simp [hho]
          have i2 := fun x8 M2 hK => ih (h + 1) x8 M2 (by omega) hK
          rw [show 8 * s + (h + 1) = 8 * s + h + 1 by omega, bf_f hal] at i2
          refine fx_bf rfl (fun z => z (by rw [hho]; rfl)) ?_
          repeat refine fx_n rfl ?_
          refine fx_bt rfl (nI_pos' (by omega)) ?_
          repeat refine fx_n rfl ?_
          rw [nI_1]
          exact i2 _ M1 hK
        · have hal : alP S fg σ (8 * s + h) = true := by
            simp only [alP, alR, e8, m8, ho, hf]
            simp [hs]
            exact fun q => hho q.symm
          refine fx_bt rfl (fun z => hho ((nI_eq (by omega) (by omega)).mp z)) ?_
          repeat refine fx_n rfl ?_
          refine fx_c rfl (ex_nightsWith _ M1 S L N n s h fg σ hN hs (by omega) hC1 D hF hD) ?_
          rintro _ M2 ⟨rfl, k2⟩
          repeat refine fx_n rfl ?_
          have i2 := fun x8 => ih (h + 1) x8 M2 (by omega) (hK.tr k2)
          by_cases hq : (bfP (alP S fg σ) (fK S L fg n N σ) (fO S L fg n N σ) (8 * s + h)).1 < fK S L fg n N σ (8 * s + h)
          · rw [show 8 * s + (h + 1) = 8 * s + h + 1 by omega, bf_t hal hq] at i2
            refine fx_bf rfl (nI_ge hq (by omega)) ?_
            repeat refine fx_n rfl ?_
            rw [e_nI, nI_1]
            exact i2 _
          · rw [show 8 * s + (h + 1) = 8 * s + h + 1 by omega, bf_l (by omega)] at i2
            refine fx_bt rfl (nI_le (by omega) (by omega)) ?_
            repeat refine fx_n rfl ?_
            rw [nI_1]
            exact i2 _
  have outer : ∀ (j s : Nat) (x7 x8 : Option Value) (M1 : sy_Mm), s + j = S → kL M M1 → Fx (d + 4) i_X2_mostNights 50 [some (.ref 13), some (.int (nI N)), some (.int (nI (n + 1))), some (.int (nI (ceS S L fg σ N (n + 1)))), some (.int (nI (bfP (alP S fg σ) (fK S L fg n N σ) (fO S L fg n N σ) (8 * s)).1)), some (.int (oI (bfP (alP S fg σ) (fK S L fg n N σ) (fO S L fg n N σ) (8 * s)).2)), some (.int (nI s)), x7, x8] [.int (M1 1 3), .int (nI s)] M1 (fun r M' => r = some (.int (nI (BB S L fg n N σ).1)) ∧ M' 13 1 = oI (BB S L fg n N σ).2 ∧ kL M M') := by
    intro j
    induction j with
    | zero =>
      intro s x7 x8 M1 hs hK
      have e : s = S := by omega
      subst e
      have c3 : M1 1 3 = nI s := (hC.kl hK).1.2.1
      refine fx_bt rfl (by rw [c3]; exact nI_le (Nat.le_refl _) (by omega)) ?_
      repeat refine fx_n rfl ?_
      exact fx_r rfl rfl ⟨rfl, up_s, hK.up⟩
    | succ j ih =>
      intro s x7 x8 M1 hs hK
      have hC1 := hC.kl hK
      have c3 : M1 1 3 = nI S := hC1.1.2.1
      have hb1 := hb (8 * s)
      refine fx_bf rfl (by rw [c3]; exact nI_ge (by omega) (by omega)) ?_
      repeat refine fx_n rfl ?_
      by_cases hq : ceS S L fg σ N (n + 1) ≤ (bfP (alP S fg σ) (fK S L fg n N σ) (fO S L fg n N σ) (8 * s)).1
      · have est := bf_stop hce hq (8 * S - 8 * s)
        rw [show 8 * s + (8 * S - 8 * s) = 8 * S by omega] at est
        refine fx_bt rfl (nI_le hq (by omega)) ?_
        repeat refine fx_n rfl ?_
        refine fx_r rfl rfl ⟨?_, ?_, hK.up⟩
        · unfold BB; rw [est]
        · rw [up_s]; unfold BB; rw [est]
      · refine fx_bf rfl (nI_ge (by omega) (by omega)) ?_
        repeat refine fx_n rfl ?_
        refine fx_p rfl (ev_worth _ M1 S L s fg σ (by omega) hC1) ?_
        cases hw : woB fg σ s with
        | false =>
          have i2 := fun x7 x8 => ih (s + 1) x7 x8 M1 (by omega) hK
          rw [show 8 * (s + 1) = 8 * s + 8 by omega, bf_skip 8 (fun i hi => by
            have e8 : (8 * s + i) / 8 = s := by omega
            simp only [alP, alR, e8]
            cases hf : fg s with
            | true => simp
            | false =>
              cases ho : σ.1 s with
              | none => simp
              | some o => simp [woB, hf, ho] at hw)] at i2
          refine fx_bf rfl (by decide) ?_
          repeat refine fx_n rfl ?_
          rw [nI_1]
          exact i2 _ _
        | true =>
          refine fx_bt rfl (by decide) ?_
          repeat refine fx_n rfl ?_
          refine inner s _ (by omega) hw (fun M2 x7 x8 k2 => ?_) 8 0 _ M1 (by omega) hK
          have i2 := ih (s + 1) x7 x8 M2 (by omega) k2
          rw [show 8 * (s + 1) = 8 * s + 8 by omega] at i2
          exact i2
  unfold Ex
  repeat refine fx_n rfl ?_
  refine fx_bf rfl (nI_nlt (b := 1) (by omega) (by omega)) ?_
  repeat refine fx_n rfl ?_
  refine fx_bt rfl (nI_le (b := 3) (by omega) (by omega)) ?_
  have k0 : kL M (sy_up M 13 1 (-1)) := kL.rf.up
  repeat refine fx_n rfl ?_
  refine fx_p rfl (ev_ceiling _ _ S L N (n + 1) fg σ (by omega) (by omega) (hC.kl k0)) ?_
  repeat refine fx_n rfl ?_
  refine fx_c rfl (hF _ _ σ N (by omega) hN (hC.kl k0)) ?_
  rintro _ M2 ⟨rfl, k2⟩
  repeat refine fx_n rfl ?_
  exact outer S 0 none none M2 (by omega) (k0.tr k2)
set_option maxRecDepth 100000 in
set_option maxHeartbeats 4000000 in
theorem hf_0 (S L : Nat) (fg : Nat → Bool) : HF S L fg 0 3 := by
  intro d M σ N hd hN hC
  obtain ⟨d, rfl⟩ : ∃ d', d = d' + 3 := ⟨d - 3, by omega⟩
  unfold Ex
  repeat refine fx_n rfl ?_
  refine fx_p rfl (ev_luckyHouses _ M S L N fg σ.1 σ.2 (by omega) hC.1) ?_
  refine fx_p rfl (ev_bitCount _ _ _ (bN_256 _)) ?_
  rw [pcn_bN _ 8 (by omega)]
  repeat refine fx_n rfl ?_
  refine fx_bf rfl (by decide) ?_
  repeat refine fx_n rfl ?_
  exact fx_r rfl rfl ⟨rfl, kL.rf⟩
set_option maxRecDepth 100000 in
set_option maxHeartbeats 4000000 in
theorem hf_1 (S L : Nat) (fg : Nat → Bool) : HF S L fg 1 3 := by
  intro d M σ N hd hN hC
  obtain ⟨d, rfl⟩ : ∃ d', d = d' + 3 := ⟨d - 3, by omega⟩
  unfold Ex
  repeat refine fx_n rfl ?_
  refine fx_p rfl (ev_luckyHouses _ M S L N fg σ.1 σ.2 (by omega) hC.1) ?_
  refine fx_p rfl (ev_bitCount _ _ _ (bN_256 _)) ?_
  rw [pcn_bN _ 8 (by omega)]
  repeat refine fx_n rfl ?_
  refine fx_bt rfl (by decide) ?_
  repeat refine fx_n rfl ?_
  refine fx_bf rfl (by decide) ?_
  repeat refine fx_n rfl ?_
  rw [nI_1]
  refine fx_p rfl (ev_mostInLast _ M S L (N + 1) fg σ (by omega) hC) ?_
  repeat refine fx_n rfl ?_
  rw [nI_add]
  exact fx_r rfl rfl ⟨rfl, kL.rf⟩
set_option maxRecDepth 100000 in
set_option maxHeartbeats 4000000 in
theorem hf_2 (S L : Nat) (fg : Nat → Bool) : HF S L fg 2 6 := by
  intro d M σ N hd hN hC
  obtain ⟨d, rfl⟩ : ∃ d', d = d' + 6 := ⟨d - 6, by omega⟩
  · unfold Ex
    repeat refine fx_n rfl ?_
    refine fx_p rfl (ev_luckyHouses _ M S L N fg σ.1 σ.2 (by omega) hC.1) ?_
    refine fx_p rfl (ev_bitCount _ _ _ (bN_256 _)) ?_
    rw [pcn_bN _ 8 (by omega)]
    repeat refine fx_n rfl ?_
    refine fx_bt rfl (by decide) ?_
    repeat refine fx_n rfl ?_
    refine fx_bt rfl (by decide) ?_
    repeat refine fx_n rfl ?_
    rw [nI_1]
    refine fx_c rfl (ex_mostNights _ M S L (N + 1) 1 fg σ (by omega) (by omega) hC 3 (hf_1 S L fg) (by omega)) ?_
    rintro _ M2 ⟨rfl, _, k2⟩
    repeat refine fx_n rfl ?_
    rw [nI_add]
    exact fx_r rfl rfl ⟨rfl, k2⟩
end
section
/-! ===== lets: the reference's search, its parts ===== -/
def lvM (M : sy_Mm) (S l : Nat) (σ : St) : Prop := ∀ s, s < S → M 38 (9 * l + s) = oI (σ.1 s) ∧ M 39 (9 * l + s) = oI (σ.2 s)
theorem nn_nI (s : Nat) : (9 : Int32) * nI s = nI (9 * s) := pk_mul 9 s
set_option maxRecDepth 100000 in
set_option maxHeartbeats 4000000 in
theorem em_copies (d : Nat) (M : sy_Mm) (S l : Nat) (σ : St) (hl : l ≤ 2) (hS : S ≤ 9) (h8 : M 30 8 = nI S) (hv : lvM M S l σ) : Ex d i_X8_copies [.ref 30, .int (nI l)] M (fun r N => r = none ∧ lvM N S (l + 1) σ ∧ (∀ q, q < 9 * (l + 1) → N 38 q = M 38 q ∧ N 39 q = M 39 q) ∧ ∀ k, k ≠ 38 → k ≠ 39 → N k = M k) := by
  have loop : ∀ (j s : Nat) (M1 : sy_Mm), s + j = S → (∀ i, i < s → M1 38 (9 * (l + 1) + i) = oI (σ.1 i) ∧ M1 39 (9 * (l + 1) + i) = oI (σ.2 i)) → (∀ q, q < 9 * (l + 1) → M1 38 q = M 38 q ∧ M1 39 q = M 39 q) → (∀ k, k ≠ 38 → k ≠ 39 → M1 k = M k) → Fx d i_X8_copies 7 [some (.ref 30), some (.int (nI l)), some (.int (nI s))] [.int (M1 30 8), .int (nI s)] M1 (fun r N => r = none ∧ lvM N S (l + 1) σ ∧ (∀ q, q < 9 * (l + 1) → N 38 q = M 38 q ∧ N 39 q = M 39 q) ∧ ∀ k, k ≠ 38 → k ≠ 39 → N k = M k) := by
    intro j
    induction j with
    | zero =>
      intro s M1 hs c1 c2 c3
      have e : s = S := by omega
      subst e
      refine fx_bt rfl (by rw [c3 30 (by omega) (by omega), h8]; exact nI_le (Nat.le_refl _) (by omega)) ?_
      exact fx_r rfl rfl ⟨rfl, c1, c2, c3⟩
    | succ j ih =>
      intro s M1 hs c1 c2 c3
      refine fx_bf rfl (by rw [c3 30 (by omega) (by omega), h8]; exact nI_ge (by omega) (by omega)) ?_
      repeat refine fx_n rfl ?_
      rw [nI_1, nn_nI, nn_nI, nI_add, nI_add]
      refine fx_g rfl (ix_nI (by omega) (by omega)) ?_
      rw [nI_cl (by omega), (c2 _ (by omega)).1, (hv s (by omega)).1]
      refine fx_g rfl (ix_nI (by omega) (by omega)) ?_
      rw [nI_cl (by omega)]
      repeat refine fx_n rfl ?_
      rw [nI_1, nn_nI, nn_nI, nI_add, nI_add]
      refine fx_g rfl (ix_nI (by omega) (by omega)) ?_
      rw [nI_cl (by omega), up_k (by omega), (c2 _ (by omega)).2, (hv s (by omega)).2]
      refine fx_g rfl (ix_nI (by omega) (by omega)) ?_
      rw [nI_cl (by omega)]
      repeat refine fx_n rfl ?_
      rw [nI_1]
      refine ih (s + 1) _ (by omega) (fun i hi => ?_) (fun q hq => ?_) (fun k k1 k2 => ?_)
      · by_cases e : i = s
        · rw [e]
          exact ⟨by rw [up_k (by omega), up_s], up_s⟩
        · rw [up_k (by omega), up_j (by omega), up_j (by omega), up_k (by omega)]
          exact c1 i (by omega)
      · rw [up_k (by omega), up_j (by omega), up_j (by omega), up_k (by omega)]
        exact c2 q hq
      · rw [up_k k2, up_k k1]; exact c3 k k1 k2
  unfold Ex
  repeat refine fx_n rfl ?_
  exact loop S 0 M (by omega) (fun i hi => by omega) (fun _ _ => ⟨rfl, rfl⟩) (fun _ _ _ => rfl)
def lrM (M : sy_Mm) (S L : Nat) (fg : Nat → Bool) : Prop := S ≤ 9 ∧ M 30 8 = nI S ∧ L ≤ 99 ∧ M 30 11 = nI L ∧ M 30 10 = nI (bN fg S)
def stOK (σ : St) : Prop := (∀ s h, σ.1 s = some h → h < 8) ∧ ∀ s x, σ.2 s = some x → x < 400
theorem bN_zsh (p : Nat → Bool) {s n : Nat} (h : s < n) (hn : n ≤ 9) : (nI (bN p n) >>> (nI s &&& 31)) &&& 1 = zb (p s) := bN_sh p h hn
set_option maxRecDepth 100000 in
set_option maxHeartbeats 4000000 in
theorem em_lucky (d : Nat) (M : sy_Mm) (S L l N : Nat) (fg : Nat → Bool) (σ : St) (hl : l ≤ 3) (hN : N ≤ 400) (hR : lrM M S L fg) (hv : lvM M S l σ) (hσ : stOK σ) : Ev (d + 1) i_X8_lucky [.ref 30, .int (nI l), .int (nI N)] M (some (.int (nI (lkN S L fg σ N)))) M := by
  obtain ⟨hS, h8, hL, h11, h10⟩ := hR
  obtain ⟨hw8, ht⟩ := hσ
  have loop : ∀ (j s : Nat) (x5 x6 : Option Value), s + j = S → Fx (d + 1) i_X8_lucky 11 [some (.ref 30), some (.int (nI l)), some (.int (nI N)), some (.int (nI (bN (anyL σ.1 σ.2 L N fg s) 8))), some (.int (nI s)), x5, x6] [.int (M 30 8), .int (nI s)] M (fun r M' => r = some (.int (nI (lkN S L fg σ N))) ∧ M' = M) := by
    intro j
    induction j with
    | zero =>
      intro s x5 x6 hs
      have e : s = S := by omega
      subst e
      refine fx_bt rfl (by rw [h8]; exact nI_le (Nat.le_refl _) (by omega)) ?_
      repeat refine fx_n rfl ?_
      refine fx_p rfl (em_ones _ _ _ (bN_256 _)) ?_
      rw [pcn_bN _ 8 (by omega)]
      exact fx_r rfl rfl ⟨rfl, rfl⟩
    | succ j ih =>
      intro s x5 x6 hs
      have i2 := fun x5 x6 => ih (s + 1) x5 x6 (by omega)
      have skip : (∀ x, lkp σ.1 σ.2 L N fg x s = false) → bN (anyL σ.1 σ.2 L N fg (s + 1)) 8 = bN (anyL σ.1 σ.2 L N fg s) 8 := fun q => bN_congr 8 (fun x _ => anyL_f (q x))
      refine fx_bf rfl (by rw [h8]; exact nI_ge (by omega) (by omega)) ?_
      repeat refine fx_n rfl ?_
      rw [nn_nI, nI_add]
      refine fx_g rfl (ix_nI (by omega) (by omega)) ?_
      rw [nI_cl (by omega), (hv s (by omega)).2]
      repeat refine fx_n rfl ?_
      rw [h10, bN_sh _ (show s < S by omega) hS]
      have off : lkS L N (fg s) (σ.2 s) = false → Fx (d + 1) i_X8_lucky 61 [some (.ref 30), some (.int (nI l)), some (.int (nI N)), some (.int (nI (bN (anyL σ.1 σ.2 L N fg s) 8))), some (.int (nI s)), some (.int (oI (σ.2 s))), x6] [] M (fun r M' => r = some (.int (nI (lkN S L fg σ N))) ∧ M' = M) := by
        intro hq
        rw [skip (fun x => by simp [lkp, hq])] at i2
        repeat refine fx_n rfl ?_
        refine fx_bt rfl (by decide) ?_
        repeat refine fx_n rfl ?_
        rw [Int32.or_zero, nI_1]
        exact i2 _ _
      cases hf : fg s with
      | true =>
        refine fx_bt rfl (by decide) ?_
        exact off (by simp [lkS, hf])
      | false =>
        refine fx_bf rfl (by decide) ?_
        repeat refine fx_n rfl ?_
        cases hsi : σ.2 s with
        | none =>
          rw [hsi] at off
          refine fx_bt rfl rfl ?_
          exact off (by simp [lkS, hf, lk1])
        | some t =>
          rw [hsi] at off
          have := ht s t hsi
          rw [show oI (some t) = nI t from rfl] at off ⊢
          refine fx_bf rfl (nI_ne_m1 (by omega)) ?_
          repeat refine fx_n rfl ?_
          rw [h11, nI_add]
          by_cases hlt : N < t + L
          · refine fx_bf rfl (nI_ge hlt (by omega)) ?_
            have hq : lkS L N (fg s) (σ.2 s) = true := by simp [lkS, hf, hsi, lk1, hlt]
            repeat refine fx_n rfl ?_
            refine fx_bf rfl (by decide) ?_
            repeat refine fx_n rfl ?_
            rw [nn_nI, nI_add]
            refine fx_g rfl (ix_nI (by omega) (by omega)) ?_
            rw [nI_cl (by omega), (hv s (by omega)).1]
            repeat refine fx_n rfl ?_
            cases ho : σ.1 s with
            | none =>
              rw [skip (fun x => by simp [lkp, ho])] at i2
              refine fx_bt rfl rfl ?_
              repeat refine fx_n rfl ?_
              rw [Int32.or_zero, nI_1]
              exact i2 _ _
            | some h =>
              have h8' := hw8 s h ho
              refine fx_bf rfl (nI_ne_m1 (by omega)) ?_
              repeat refine fx_n rfl ?_
              rw [nn_nI, nI_add]
              refine fx_g rfl (ix_nI (by omega) (by omega)) ?_
              rw [nI_cl (by omega), (hv s (by omega)).1, ho]
              repeat refine fx_n rfl ?_
              have eb : nI (bN (anyL σ.1 σ.2 L N fg s) 8) ||| ((1 : Int32) <<< (oI (some h) &&& 31)) = nI (bN (anyL σ.1 σ.2 L N fg (s + 1)) 8) := by
                have h256 : bN (anyL σ.1 σ.2 L N fg s) 8 < 256 := bN_lt _ 8
                rw [show oI (some h) = nI h from rfl, nI_or _ h256 h h8', ← bN_one h8', bN_or]
                congr 1
                refine bN_congr 8 (fun x _ => ?_)
                by_cases hx : x = h
                · subst hx
                  rw [anyL_t (by simp [lkp, ho, hq])]; simp
                · rw [anyL_f (by simp [lkp, ho, Ne.symm hx])]; simp [hx]
              rw [eb, nI_1]
              exact i2 _ _
          · refine fx_bt rfl (nI_le (by omega) (by omega)) ?_
            exact off (by simp [lkS, hf, lk1, hlt])
  refine ev_of ?_
  repeat refine fx_n rfl ?_
  have e0 : bN (anyL σ.1 σ.2 L N fg 0) 8 = 0 := by
    have : anyL σ.1 σ.2 L N fg 0 = fun _ => false := by funext h; simp [anyL, cnB]
    rw [this]; rfl
  have := loop S 0 none none (by omega)
  rw [e0] at this
  exact this
def cI : Nat → Int32
  | 0 => -1
  | k + 1 => nI k
theorem cI_1 (q : Nat) : cI q + 1 = cI (q + 1) := by
  cases q with
  | zero => rfl
  | succ k => exact nI_1 k
def okQ (S : Nat) (σ : St) : Nat → Bool
  | 0 => true
  | k + 1 => alR S σ k
theorem div8 {k : Nat} (h : k < 2 ^ 31) : nI k / 8 = nI (k / 8) := pk_div (d := 8) h (by omega) (by omega)
theorem rem8 {k : Nat} (h : k < 2 ^ 31) : nI k - nI k / 8 * 8 = nI (k % 8) := pk_rem (d := 8) h (by omega) (by omega)
set_option maxRecDepth 100000 in
set_option maxHeartbeats 4000000 in
theorem em_mayPick (d : Nat) (M : sy_Mm) (S l q : Nat) (σ : St) (hl : l ≤ 2) (hq : q < 73) (hS : S ≤ 9) (h8 : M 30 8 = nI S) (hv : lvM M S l σ) (hσ : stOK σ) : Ev d i_X8_mayPick [.ref 30, .int (nI l), .int (cI q)] M (some (.int (zb (okQ S σ q)))) M := by
  refine ev_of ?_
  cases q with
  | zero =>
    repeat refine fx_n rfl ?_
    refine fx_g rfl (by decide) ?_
    repeat refine fx_n rfl ?_
    refine fx_bt rfl rfl ?_
    repeat refine fx_n rfl ?_
    exact fx_r rfl rfl ⟨rfl, rfl⟩
  | succ k =>
    have hb : ∀ x, σ.1 (k / 8) = some x → x < 2 ^ 31 := fun x hx => by have := hσ.1 _ _ hx; omega
    show Fx d i_X8_mayPick 0 (sy_en i_X8_mayPick [.ref 30, .int (nI l), .int (nI k)]) [] M (fun r N => r = some (.int (zb (alR S σ k))) ∧ N = M)
    repeat refine fx_n rfl ?_
    refine fx_g rfl (by decide) ?_
    rw [div8 (by omega)]
    repeat refine fx_n rfl ?_
    refine fx_bf rfl (nI_ne_m1 (by omega)) ?_
    repeat refine fx_n rfl ?_
    rw [h8]
    unfold alR
    by_cases h1 : k / 8 < S
    · refine fx_bf rfl (nI_ge h1 (by omega)) ?_
      repeat refine fx_n rfl ?_
      rw [nn_nI, nI_add]
      refine fx_g rfl (ix_nI (by omega) (by omega)) ?_
      rw [nI_cl (by omega), (hv _ h1).1]
      repeat refine fx_n rfl ?_
      by_cases h2 : σ.1 (k / 8) = none
      · refine fx_bt rfl ((oI_n hb).mpr h2) ?_
        repeat refine fx_n rfl ?_
        exact fx_r rfl rfl ⟨by simp [h2, zb], rfl⟩
      · refine fx_bf rfl (fun z => h2 ((oI_n hb).mp z)) ?_
        repeat refine fx_n rfl ?_
        rw [nn_nI, nI_add]
        refine fx_g rfl (ix_nI (by omega) (by omega)) ?_
        rw [nI_cl (by omega), (hv _ h1).1]
        repeat refine fx_n rfl ?_
        refine fx_g rfl (by decide) ?_
        rw [rem8 (by omega)]
        by_cases h3 : σ.1 (k / 8) = some (k % 8)
        · refine fx_bt rfl ((oI_s hb (by omega)).mpr h3) ?_
          repeat refine fx_n rfl ?_
          exact fx_r rfl rfl ⟨by simp [h3, zb], rfl⟩
        · refine fx_bf rfl (fun z => h3 ((oI_s hb (by omega)).mp z)) ?_
          repeat refine fx_n rfl ?_
          exact fx_r rfl rfl ⟨by simp [h1, h2, h3, zb], rfl⟩
    · refine fx_bt rfl (nI_le (by omega) (by omega)) ?_
      repeat refine fx_n rfl ?_
      exact fx_r rfl rfl ⟨by simp [h1, zb], rfl⟩
/-! the order of the tries -/
def upB (b : Option Nat × Int32) (v : Nat) (p : Int32) : Option Nat × Int32 := match b.1 with
  | none => (some v, p)
  | some x => if x < v then (some v, p) else b
def goF (ok : Nat → Bool) (f : Nat → Nat) (T : Nat) (pp : Nat → Int32) (b0 : Option Nat × Int32) : Nat → Option Nat × Int32
  | 0 => b0
  | q + 1 => cond (ok q) (upB (goF ok f T pp b0 q) (T + f q) (pp q)) (goF ok f T pp b0 q)
def fQ (S L : Nat) (fg : Nat → Bool) (n N : Nat) (σ : St) : Nat → Nat
  | 0 => fO S L fg n N σ
  | k + 1 => fK S L fg n N σ k
def stQ (σ : St) (N : Nat) : Nat → St
  | 0 => σ
  | k + 1 => stP σ k N
theorem fQ_st (S L : Nat) (fg : Nat → Bool) (n N : Nat) (σ : St) (q : Nat) : fQ S L fg n N σ q = lkN S L fg (stQ σ N q) N + VV S L fg n (N + 1) (stQ σ N q) := by
  cases q <;> rfl
theorem fQ_le (S L : Nat) (fg : Nat → Bool) (n N : Nat) (σ : St) (q : Nat) : fQ S L fg n N σ q ≤ 8 * (n + 1) := by
  cases q with
  | zero => exact fO_le S L fg n N σ
  | succ k => exact fK_le S L fg n N σ k
theorem upB_up (b : Option Nat × Int32) (a c : Nat) (p : Int32) : upB (upB b a p) c p = upB b (if a < c then c else a) p := by
  obtain ⟨b1, b2⟩ := b
  cases b1 with
  | none =>
    simp only [upB]
    split <;> rfl
  | some x =>
    simp only [upB]
    by_cases h1 : x < a
    · rw [if_pos h1]
      by_cases h2 : a < c
      · simp only [if_pos h2]
        rw [if_pos (by omega)]
      · simp only [if_neg h2]
        rw [if_pos h1]
    · rw [if_neg h1]
      by_cases h2 : a < c
      · simp only [if_pos h2]
      · simp only [if_neg h2]
        rw [if_neg (by omega), if_neg h1]
theorem goF_t {ok : Nat → Bool} {f : Nat → Nat} {T : Nat} {pp : Nat → Int32} {b0 : Option Nat × Int32} {q : Nat} (h : ok q = true) : goF ok f T pp b0 (q + 1) = upB (goF ok f T pp b0 q) (T + f q) (pp q) := by
  show cond _ _ _ = _
  rw [h]; rfl
theorem goF_f {ok : Nat → Bool} {f : Nat → Nat} {T : Nat} {pp : Nat → Int32} {b0 : Option Nat × Int32} {q : Nat} (h : ok q = false) : goF ok f T pp b0 (q + 1) = goF ok f T pp b0 q := by
  show cond _ _ _ = _
  rw [h]; rfl
theorem goF_c (S L : Nat) (fg : Nat → Bool) (n N : Nat) (σ : St) (T : Nat) (p : Int32) (b0 : Option Nat × Int32) : ∀ q, goF (okQ S σ) (fQ S L fg n N σ) T (fun _ => p) b0 (q + 1) = upB b0 (T + (bfP (alR S σ) (fK S L fg n N σ) (fO S L fg n N σ) q).1) p
  | 0 => rfl
  | q + 1 => by
    have ih := goF_c S L fg n N σ T p b0 q
    cases ha : alR S σ q with
    | false => rw [goF_f (q := q + 1) ha, ih, bf_f ha]
    | true =>
      rw [goF_t (q := q + 1) ha, ih, upB_up]
      congr 1
      show (if T + _ < T + fK S L fg n N σ q then _ else _) = _
      by_cases hq : (bfP (alR S σ) (fK S L fg n N σ) (fO S L fg n N σ) q).1 < fK S L fg n N σ q
      · rw [bf_t ha hq, if_pos (by omega)]; rfl
      · rw [bf_l (by omega), if_neg (by omega)]
theorem goF_0 (S L : Nat) (fg : Nat → Bool) (n N : Nat) (σ : St) : ∀ q, goF (okQ S σ) (fQ S L fg n N σ) 0 cI (none, -1) (q + 1) = (some (bfP (alR S σ) (fK S L fg n N σ) (fO S L fg n N σ) q).1, oI (bfP (alR S σ) (fK S L fg n N σ) (fO S L fg n N σ) q).2)
  | 0 => by
    show (some (0 + fO S L fg n N σ), _) = (some (fO S L fg n N σ), _)
    rw [Nat.zero_add]; rfl
  | q + 1 => by
    have ih := goF_0 S L fg n N σ q
    cases ha : alR S σ q with
    | false => rw [goF_f (q := q + 1) ha, ih, bf_f ha]
    | true =>
      rw [goF_t (q := q + 1) ha, ih]
      show (if _ < 0 + fK S L fg n N σ q then (some (0 + fK S L fg n N σ q), nI q) else _) = _
      rw [Nat.zero_add]
      by_cases hq : (bfP (alR S σ) (fK S L fg n N σ) (fO S L fg n N σ) q).1 < fK S L fg n N σ q
      · rw [bf_t ha hq, if_pos hq]; rfl
      · rw [bf_l (by omega), if_neg hq]
theorem BB_72 (S L : Nat) (fg : Nat → Bool) (n N : Nat) (σ : St) (hS : S ≤ 9) : bfP (alR S σ) (fK S L fg n N σ) (fO S L fg n N σ) 72 = BB S L fg n N σ := by
  unfold BB
  rw [BB_R, show 72 = 8 * S + (72 - 8 * S) by omega]
  exact bf_skip _ (fun i hi => by
    have : ¬ (8 * S + i) / 8 < S := by omega
    simp [alP, alR, this])
theorem upB_ok {b : Option Nat × Int32} {v C : Nat} {p : Int32} (hb : ∀ x, b.1 = some x → x ≤ C) (hv : v ≤ C) : ∀ x, (upB b v p).1 = some x → x ≤ C := by
  obtain ⟨b1, b2⟩ := b
  intro x hx
  cases b1 with
  | none => simp only [upB] at hx; cases hx; exact hv
  | some y =>
    simp only [upB] at hx
    split at hx
    · cases hx; exact hv
    · exact hb x hx
end
section
/-! ===== lets: the reference's search ===== -/
def bel (a c : Nat) (M M' : sy_Mm) : Prop := (∀ q, q < 9 * (a + 1) → M' 38 q = M 38 q ∧ M' 39 q = M 39 q) ∧ (∀ q, q < c → M' 43 q = M 43 q) ∧ ∀ q, q ≤ a → M' 44 q = M 44 q
theorem bel.rf {a c : Nat} {M : sy_Mm} : bel a c M M := ⟨fun _ _ => ⟨rfl, rfl⟩, fun _ _ => rfl, fun _ _ => rfl⟩
theorem bel.tr {a c : Nat} {M N K : sy_Mm} (h : bel a c M N) (g : bel a c N K) : bel a c M K := ⟨fun q hq => ⟨(g.1 q hq).1.trans (h.1 q hq).1, (g.1 q hq).2.trans (h.1 q hq).2⟩, fun q hq => (g.2.1 q hq).trans (h.2.1 q hq), fun q hq => (g.2.2 q hq).trans (h.2.2 q hq)⟩
theorem bel.up {a c : Nat} {M N : sy_Mm} (h : bel a c M N) {x : Int32} {j : Nat} (hj : c ≤ j) : bel a c M (sy_up N 43 j x) := ⟨fun q hq => by rw [up_k (by omega), up_k (by omega)]; exact h.1 q hq, fun q hq => by rw [up_j (by omega)]; exact h.2.1 q hq, fun q hq => by rw [up_k (by omega)]; exact h.2.2 q hq⟩
theorem gt_m1 {v : Nat} (h : v < 2 ^ 31) : ¬ nI v ≤ -1 := by
  rw [Int32.le_iff_toInt_le, nI_toInt h]
  have : (-1 : Int32).toInt = -1 := rfl
  omega
theorem goF_ok {ok : Nat → Bool} {f : Nat → Nat} {T C : Nat} {pp : Nat → Int32} {b0 : Option Nat × Int32} (hb : ∀ x, b0.1 = some x → x ≤ C) (hf : ∀ q, T + f q ≤ C) : ∀ q, ∀ x, (goF ok f T pp b0 q).1 = some x → x ≤ C
  | 0 => hb
  | q + 1 => by
    have ih := goF_ok (ok := ok) (pp := pp) hb hf q
    cases ha : ok q with
    | false => rw [goF_f ha]; exact ih
    | true => rw [goF_t ha]; exact upB_ok ih (hf q)
theorem lrM.kx {M N : sy_Mm} {S L : Nat} {fg : Nat → Bool} (h : lrM M S L fg) (k : kpX M N) : lrM N S L fg := by
  unfold lrM
  rw [k.2 8 (by omega) (by omega) (by omega), k.2 10 (by omega) (by omega) (by omega), k.2 11 (by omega) (by omega) (by omega)]
  exact h
theorem stQ_ok {σ : St} {N : Nat} (hσ : stOK σ) (hN : N < 400) : ∀ q, stOK (stQ σ N q)
  | 0 => hσ
  | k + 1 => by
    refine ⟨fun s h hs => ?_, fun s x hs => ?_⟩
    · simp only [stQ, stP] at hs
      by_cases e : s = k / 8
      · rw [e, uO_s] at hs; cases hs; omega
      · rw [uO_n e] at hs; exact hσ.1 s h hs
    · simp only [stQ, stP] at hs
      by_cases e : s = k / 8
      · rw [e, uO_s] at hs; cases hs; omega
      · rw [uO_n e] at hs; exact hσ.2 s x hs
theorem cI_72 {q : Nat} (h : q < 73) : ¬ (72 : Int32) ≤ cI q := by
  cases q with
  | zero => decide
  | succ k => exact nI_ge (b := 72) (by omega) (by omega)
theorem cI_n72 {q : Nat} (h : q < 73) : ¬ cI q = (72 : Int32) := by
  cases q with
  | zero => decide
  | succ k => exact fun z => by have := (nI_eq (b := 72) (by omega) (by omega)).mp z; omega
set_option maxRecDepth 100000 in
set_option maxHeartbeats 4000000 in
theorem em_pos (d : Nat) (M0 M : sy_Mm) (S L N n l T m : Nat) (fg : Nat → Bool) (w p : Int32) (σ : St) (b0 : Option Nat × Int32) (K : Option Value → sy_Mm → Prop) (hR : lrM M0 S L fg) (hn : n ≤ 3) (hlm : l + (m + 1) = n) (hN : N ≤ 199) (hT : T ≤ 8 * l) (hb0 : ∀ x, b0.1 = some x → x ≤ 24) (hσ : stOK σ) (hv : lvM M S l σ) (h44 : M 44 l = nI T) (hp : l ≠ 0 → M 43 0 = p)
    (child : ∀ (q : Nat) (M3 : sy_Mm) (b : Option Nat × Int32), q < 73 → okQ S σ q = true → (∀ x, b.1 = some x → x ≤ 24) → lvM M3 S (l + 1) (stQ σ (N + l) q) → M3 43 0 = (if l = 0 then cI q else p) → kpX M0 M3 → (∀ (M4 : sy_Mm) (x7 : Option Value), bel l (l + 1) M3 M4 → kpX M0 M4 → Fx (d + 3) i_X8_letsOf 34 [some (.ref 30), some (.int (nI N)), some (.int (nI n)), some (.int w), some (.int (oI (upB b (T + fQ S L fg m (N + l) σ q) (if l = 0 then cI q else p)).1)), some (.int (upB b (T + fQ S L fg m (N + l) σ q) (if l = 0 then cI q else p)).2), some (.int (nI l)), x7] [.int (nI l)] M4 K) → Fx (d + 3) i_X8_letsOf 212 [some (.ref 30), some (.int (nI N)), some (.int (nI n)), some (.int w), some (.int (oI b.1)), some (.int b.2), some (.int (nI l)), some (.int (nI (T + lkN S L fg (stQ σ (N + l) q) (N + l))))] [.int (nI n), .int (nI (l + 1))] M3 K)
    (fin : ∀ (M4 : sy_Mm) (x7 : Option Value), bel l l M M4 → kpX M0 M4 → Fx (d + 3) i_X8_letsOf 34 [some (.ref 30), some (.int (nI N)), some (.int (nI n)), some (.int w), some (.int (oI (goF (okQ S σ) (fQ S L fg m (N + l) σ) T (fun q => if l = 0 then cI q else p) b0 73).1)), some (.int (goF (okQ S σ) (fQ S L fg m (N + l) σ) T (fun q => if l = 0 then cI q else p) b0 73).2), some (.int (nI l + (-1))), x7] [.int (nI l + (-1))] M4 K) :
    ∀ (j q : Nat) (M1 : sy_Mm) (x7 : Option Value), q + j = 73 → bel l l M M1 → kpX M0 M1 → M1 43 l = cI q → Fx (d + 3) i_X8_letsOf 57 [some (.ref 30), some (.int (nI N)), some (.int (nI n)), some (.int w), some (.int (oI (goF (okQ S σ) (fQ S L fg m (N + l) σ) T (fun q => if l = 0 then cI q else p) b0 q).1)), some (.int (goF (okQ S σ) (fQ S L fg m (N + l) σ) T (fun q => if l = 0 then cI q else p) b0 q).2), some (.int (nI l)), x7] [.int 72, .int (M1 43 l)] M1 K := by
  have hS := hR.1
  have hgo := fun q => goF_ok (ok := okQ S σ) (pp := fun q => if l = 0 then cI q else p) (f := fQ S L fg m (N + l) σ) (T := T) hb0 (fun q => by have := fQ_le S L fg m (N + l) σ q; omega) q
  intro j
  induction j with
  | zero =>
    intro q M1 x7 hq hB hK h43
    have e : q = 73 := by omega
    subst e
    refine fx_bt rfl (by rw [h43]; decide) ?_
    repeat refine fx_n rfl ?_
    refine fx_g rfl (ix_nI (by omega) (by omega)) ?_
    rw [nI_cl (by omega), h43]
    repeat refine fx_n rfl ?_
    refine fx_bf rfl (by decide) ?_
    repeat refine fx_n rfl ?_
    exact fin M1 _ hB hK
  | succ j ih =>
    intro q M1 x7 hq hB hK h43
    have hR1 := hR.kx hK
    have hv1 : lvM M1 S l σ := fun s hs => by
      rw [(hB.1 (9 * l + s) (by omega)).1, (hB.1 (9 * l + s) (by omega)).2]; exact hv s hs
    have h441 : M1 44 l = nI T := (hB.2.2 l (Nat.le_refl _)).trans h44
    have hp1 : M1 43 0 = (if l = 0 then cI q else p) := by
      by_cases e : l = 0
      · rw [if_pos e]; rw [e] at h43; exact h43
      · rw [if_neg e, hB.2.1 0 (by omega)]; exact hp e
    have res : ∀ (M4 : sy_Mm) (x7 : Option Value), bel l l M M4 → kpX M0 M4 → M4 43 l = cI q → Fx (d + 3) i_X8_letsOf 34 [some (.ref 30), some (.int (nI N)), some (.int (nI n)), some (.int w), some (.int (oI (goF (okQ S σ) (fQ S L fg m (N + l) σ) T (fun q => if l = 0 then cI q else p) b0 (q + 1)).1)), some (.int (goF (okQ S σ) (fQ S L fg m (N + l) σ) T (fun q => if l = 0 then cI q else p) b0 (q + 1)).2), some (.int (nI l)), x7] [.int (nI l)] M4 K := by
      intro M4 x7 b4 k4 c4
      refine fx_bf rfl (nI_pos (by omega)) ?_
      repeat refine fx_n rfl ?_
      refine fx_g rfl (ix_nI (by omega) (by omega)) ?_
      rw [nI_cl (by omega), c4]
      repeat refine fx_n rfl ?_
      refine fx_g rfl (ix_nI (by omega) (by omega)) ?_
      rw [nI_cl (by omega), cI_1]
      repeat refine fx_n rfl ?_
      refine fx_g rfl (ix_nI (by omega) (by omega)) ?_
      rw [nI_cl (by omega)]
      repeat refine fx_n rfl ?_
      exact ih (q + 1) _ x7 (by omega) (b4.up (Nat.le_refl _)) (k4.up (by omega)) up_s
    refine fx_bf rfl (by rw [h43]; exact cI_72 (by omega)) ?_
    repeat refine fx_n rfl ?_
    refine fx_g rfl (ix_nI (by omega) (by omega)) ?_
    rw [nI_cl (by omega), h43]
    refine fx_p rfl (em_mayPick _ M1 S l q σ (by omega) (by omega) hS hR1.2.1 hv1 hσ) ?_
    cases hok : okQ S σ q with
    | false =>
      refine fx_bf rfl (by decide) ?_
      repeat refine fx_n rfl ?_
      refine fx_g rfl (ix_nI (by omega) (by omega)) ?_
      rw [nI_cl (by omega), h43]
      repeat refine fx_n rfl ?_
      refine fx_g rfl (ix_nI (by omega) (by omega)) ?_
      rw [nI_cl (by omega), cI_1]
      repeat refine fx_n rfl ?_
      refine fx_g rfl (ix_nI (by omega) (by omega)) ?_
      rw [nI_cl (by omega)]
      repeat refine fx_n rfl ?_
      have i2 := ih (q + 1) (sy_up M1 43 l (cI (q + 1))) x7 (by omega) (hB.up (Nat.le_refl _)) (hK.up (by omega)) up_s
      rw [goF_f hok] at i2
      exact i2
    | true =>
      refine fx_bt rfl (by decide) ?_
      repeat refine fx_n rfl ?_
      refine fx_g rfl (ix_nI (by omega) (by omega)) ?_
      rw [nI_cl (by omega), h43]
      repeat refine fx_n rfl ?_
      refine fx_bt rfl (cI_n72 (by omega)) ?_
      repeat refine fx_n rfl ?_
      refine fx_c rfl (em_copies _ M1 S l σ (by omega) hS hR1.2.1 hv1) ?_
      rintro _ M2 ⟨rfl, d1, d2, d3⟩
      have k2 : kpX M1 M2 := ⟨fun k a1 a2 a3 a4 a5 a6 a7 => d3 k a2 a3, fun j a1 a2 a3 => by rw [d3 30 (by omega) (by omega)]⟩
      have e43 : M2 43 = M1 43 := d3 43 (by omega) (by omega)
      have e44 : M2 44 = M1 44 := d3 44 (by omega) (by omega)
      have b2 : bel l (l + 1) M1 M2 := ⟨d2, fun q _ => by rw [e43], fun q _ => by rw [e44]⟩
      repeat refine fx_n rfl ?_
      refine fx_g rfl (ix_nI (by omega) (by omega)) ?_
      rw [nI_cl (by omega), e43, h43]
      repeat refine fx_n rfl ?_
      have rest : ∀ M3 : sy_Mm, lvM M3 S (l + 1) (stQ σ (N + l) q) → bel l (l + 1) M1 M3 → kpX M0 M3 → Fx (d + 3) i_X8_letsOf 185 [some (.ref 30), some (.int (nI N)), some (.int (nI n)), some (.int w), some (.int (oI (goF (okQ S σ) (fQ S L fg m (N + l) σ) T (fun q => if l = 0 then cI q else p) b0 q).1)), some (.int (goF (okQ S σ) (fQ S L fg m (N + l) σ) T (fun q => if l = 0 then cI q else p) b0 q).2), some (.int (nI l)), x7] [] M3 K := by
        intro M3 f1 f2 f3
        repeat refine fx_n rfl ?_
        refine fx_g rfl (ix_nI (by omega) (by omega)) ?_
        rw [nI_cl (by omega), f2.2.2 l (Nat.le_refl _), h441]
        repeat refine fx_n rfl ?_
        rw [nI_1, nI_add]
        refine fx_p rfl (em_lucky _ M3 S L (l + 1) (N + l) fg _ (by omega) (by omega) (hR.kx f3) f1 (stQ_ok hσ (by omega) q)) ?_
        repeat refine fx_n rfl ?_
        rw [nI_add, nI_1]
        refine child q M3 _ (by omega) hok (hgo q) f1 (by rw [f2.2.1 0 (by omega)]; exact hp1) f3 (fun M4 x7 g1 g2 => ?_)
        have g3 : bel l (l + 1) M1 M4 := f2.tr g1
        have r4 := res M4 x7 ⟨fun q hq => ⟨(g3.1 q hq).1.trans (hB.1 q hq).1, (g3.1 q hq).2.trans (hB.1 q hq).2⟩, fun q hq => (g3.2.1 q (by omega)).trans (hB.2.1 q hq), fun q hq => (g3.2.2 q hq).trans (hB.2.2 q hq)⟩ g2 ((g3.2.1 l (by omega)).trans h43)
        rw [goF_t hok] at r4
        exact r4
      cases q with
      | zero =>
        refine fx_bt rfl rfl ?_
        exact rest M2 d1 b2 (hK.tr k2)
      | succ k =>
        refine fx_bf rfl (nI_ne_m1 (by omega)) ?_
        have h43k : M2 43 l = nI k := by rw [e43]; exact h43
        repeat refine fx_n rfl ?_
        refine fx_g rfl (ix_nI (by omega) (by omega)) ?_
        rw [nI_cl (by omega), h43k]
        repeat refine fx_n rfl ?_
        refine fx_g rfl (by decide) ?_
        rw [div8 (by omega)]
        repeat refine fx_n rfl ?_
        refine fx_g rfl (ix_nI (by omega) (by omega)) ?_
        rw [nI_cl (by omega), h43k]
        repeat refine fx_n rfl ?_
        refine fx_g rfl (by decide) ?_
        rw [rem8 (by omega), nI_1, nn_nI, nI_add]
        refine fx_g rfl (ix_nI (by omega) (by omega)) ?_
        rw [nI_cl (by omega)]
        repeat refine fx_n rfl ?_
        refine fx_g rfl (ix_nI (by omega) (by omega)) ?_
        rw [nI_cl (by omega), up_k (by omega), h43k]
        repeat refine fx_n rfl ?_
        refine fx_g rfl (by decide) ?_
        rw [div8 (by omega), nI_1, nn_nI]
        repeat refine fx_n rfl ?_
        rw [nI_add, nI_add]
        refine fx_g rfl (ix_nI (by omega) (by omega)) ?_
        rw [nI_cl (by omega)]
        refine rest _ (fun s hs => ?_) ⟨fun q hq => ?_, fun q hq => ?_, fun q hq => ?_⟩ (((hK.tr k2).up (by omega)).up (by omega))
        · simp only [stQ, stP]
          by_cases e : s = k / 8
          · rw [e, uO_s, uO_s]
            exact ⟨by rw [up_k (by omega), up_s]; rfl, by rw [up_s]; rfl⟩
          · rw [uO_n e, uO_n e, up_k (by omega), up_j (by omega), up_j (by omega), up_k (by omega)]
            exact d1 s hs
        · rw [up_k (by omega), up_j (by omega), up_j (by omega), up_k (by omega)]; exact d2 q hq
        · rw [up_k (by omega), up_k (by omega), e43]
        · rw [up_k (by omega), up_k (by omega), e44]
set_option maxRecDepth 100000 in
set_option maxHeartbeats 4000000 in
theorem em_leaf (d : Nat) (M3 : sy_Mm) (N n l v : Nat) (w p : Int32) (b : Option Nat × Int32) (K : Option Value → sy_Mm → Prop) (hn : n ≤ 3) (hln : l + 1 = n) (hv : v ≤ 24) (hb : ∀ x, b.1 = some x → x ≤ 24) (hp : M3 43 0 = p) (k : Fx (d + 3) i_X8_letsOf 34 [some (.ref 30), some (.int (nI N)), some (.int (nI n)), some (.int w), some (.int (oI (upB b v p).1)), some (.int (upB b v p).2), some (.int (nI l)), some (.int (nI v))] [.int (nI l)] M3 K) : Fx (d + 3) i_X8_letsOf 212 [some (.ref 30), some (.int (nI N)), some (.int (nI n)), some (.int w), some (.int (oI b.1)), some (.int b.2), some (.int (nI l)), some (.int (nI v))] [.int (nI n), .int (nI (l + 1))] M3 K := by
  subst hln
  refine fx_bf rfl (fun z => z rfl) ?_
  repeat refine fx_n rfl ?_
  obtain ⟨b1, b2⟩ := b
  have win : ¬ nI v ≤ oI b1 → upB (b1, b2) v p = (some v, p) → Fx (d + 3) i_X8_letsOf 219 [some (.ref 30), some (.int (nI N)), some (.int (nI (l + 1))), some (.int w), some (.int (oI ((b1, b2) : Option Nat × Int32).1)), some (.int ((b1, b2) : Option Nat × Int32).2), some (.int (nI l)), some (.int (nI v))] [.int (oI b1), .int (nI v)] M3 K := by
    intro hlt e
    rw [e] at k
    refine fx_bf rfl hlt ?_
    repeat refine fx_n rfl ?_
    refine fx_g rfl (by decide) ?_
    rw [show (M3 43 (Int32.toNatClampNeg 0) : Int32) = p from hp]
    repeat refine fx_n rfl ?_
    refine fx_bf rfl hlt ?_
    repeat refine fx_n rfl ?_
    exact k
  have lose : nI v ≤ oI b1 → upB (b1, b2) v p = (b1, b2) → Fx (d + 3) i_X8_letsOf 219 [some (.ref 30), some (.int (nI N)), some (.int (nI (l + 1))), some (.int w), some (.int (oI ((b1, b2) : Option Nat × Int32).1)), some (.int ((b1, b2) : Option Nat × Int32).2), some (.int (nI l)), some (.int (nI v))] [.int (oI b1), .int (nI v)] M3 K := by
    intro hle e
    rw [e] at k
    refine fx_bt rfl hle ?_
    repeat refine fx_n rfl ?_
    refine fx_bt rfl hle ?_
    repeat refine fx_n rfl ?_
    exact k
  cases b1 with
  | none => exact win (gt_m1 (by omega)) rfl
  | some x =>
    have hx := hb x rfl
    by_cases hq : x < v
    · exact win (nI_ge hq (by omega)) (by simp only [upB]; rw [if_pos hq])
    · exact lose (nI_le (by omega) (by omega)) (by simp only [upB]; rw [if_neg hq])
set_option maxRecDepth 100000 in
set_option maxHeartbeats 4000000 in
theorem em_lvl (d : Nat) (M0 : sy_Mm) (S L N n : Nat) (fg : Nat → Bool) (w : Int32) (K : Option Value → sy_Mm → Prop) (hR : lrM M0 S L fg) (hn : n ≤ 3) (hN : N ≤ 199) : ∀ (m l : Nat) (M : sy_Mm) (T : Nat) (p : Int32) (σ : St) (b0 : Option Nat × Int32) (x7 : Option Value), l + (m + 1) = n → T ≤ 8 * l → (∀ x, b0.1 = some x → x ≤ 24) → stOK σ → lvM M S l σ → M 43 l = -2 → M 44 l = nI T → (l ≠ 0 → M 43 0 = p) → kpX M0 M → (∀ (M4 : sy_Mm) (x7 : Option Value), bel l l M M4 → kpX M0 M4 → Fx (d + 3) i_X8_letsOf 34 [some (.ref 30), some (.int (nI N)), some (.int (nI n)), some (.int w), some (.int (oI (goF (okQ S σ) (fQ S L fg m (N + l) σ) T (fun q => if l = 0 then cI q else p) b0 73).1)), some (.int (goF (okQ S σ) (fQ S L fg m (N + l) σ) T (fun q => if l = 0 then cI q else p) b0 73).2), some (.int (nI l + (-1))), x7] [.int (nI l + (-1))] M4 K) → Fx (d + 3) i_X8_letsOf 34 [some (.ref 30), some (.int (nI N)), some (.int (nI n)), some (.int w), some (.int (oI b0.1)), some (.int b0.2), some (.int (nI l)), x7] [.int (nI l)] M K := by
  intro m
  induction m with
  | zero =>
    intro l M T p σ b0 x7 hlm hT hb0 hσ hv h43 h44 hp hK fin
    refine fx_bf rfl (nI_pos (by omega)) ?_
    repeat refine fx_n rfl ?_
    refine fx_g rfl (ix_nI (by omega) (by omega)) ?_
    rw [nI_cl (by omega), h43]
    repeat refine fx_n rfl ?_
    refine fx_g rfl (ix_nI (by omega) (by omega)) ?_
    rw [nI_cl (by omega)]
    repeat refine fx_n rfl ?_
    refine fx_g rfl (ix_nI (by omega) (by omega)) ?_
    rw [nI_cl (by omega)]
    repeat refine fx_n rfl ?_
    refine em_pos d M0 M S L N n l T 0 fg w p σ b0 K hR hn hlm hN hT hb0 hσ hv h44 hp ?_ fin 73 0 _ x7 (by omega) (bel.rf.up (Nat.le_refl _)) (hK.up (by omega)) up_s
    intro q M3 b hq hok hb c1 c2 c3 k
    have e : fQ S L fg 0 (N + l) σ q = lkN S L fg (stQ σ (N + l) q) (N + l) := by rw [fQ_st]; rfl
    have hle := lkN_le S L fg (stQ σ (N + l) q) (N + l)
    rw [e] at k
    exact em_leaf d M3 N n l _ w _ b K hn (by omega) (by omega) hb c2 (k M3 _ bel.rf c3)
  | succ m ih =>
    intro l M T p σ b0 x7 hlm hT hb0 hσ hv h43 h44 hp hK fin
    refine fx_bf rfl (nI_pos (by omega)) ?_
    repeat refine fx_n rfl ?_
    refine fx_g rfl (ix_nI (by omega) (by omega)) ?_
    rw [nI_cl (by omega), h43]
    repeat refine fx_n rfl ?_
    refine fx_g rfl (ix_nI (by omega) (by omega)) ?_
    rw [nI_cl (by omega)]
    repeat refine fx_n rfl ?_
    refine fx_g rfl (ix_nI (by omega) (by omega)) ?_
    rw [nI_cl (by omega)]
    repeat refine fx_n rfl ?_
    refine em_pos d M0 M S L N n l T (m + 1) fg w p σ b0 K hR hn hlm hN hT hb0 hσ hv h44 hp ?_ fin 73 0 _ x7 (by omega) (bel.rf.up (Nat.le_refl _)) (hK.up (by omega)) up_s
    intro q M3 b hq hok hb c1 c2 c3 k
    have hle := lkN_le S L fg (stQ σ (N + l) q) (N + l)
    refine fx_bt rfl (fun z => by have := (nI_eq (by omega) (by omega)).mp z; omega) ?_
    repeat refine fx_n rfl ?_
    rw [nI_1]
    refine fx_g rfl (ix_nI (by omega) (by omega)) ?_
    rw [nI_cl (by omega)]
    repeat refine fx_n rfl ?_
    refine fx_g rfl (ix_nI (by omega) (by omega)) ?_
    rw [nI_cl (by omega)]
    repeat refine fx_n rfl ?_
    refine ih (l + 1) _ (T + lkN S L fg (stQ σ (N + l) q) (N + l)) (if l = 0 then cI q else p) (stQ σ (N + l) q) b _ (by omega) (by omega) hb (stQ_ok hσ (by omega) q) (fun s hs => ?_) ?_ up_s (fun _ => ?_) ((c3.up (by omega)).up (by omega)) (fun M4 x7 g1 g2 => ?_)
    · rw [up_k (by omega), up_k (by omega), up_k (by omega), up_k (by omega)]; exact c1 s hs
    · rw [up_k (by omega), up_s]
    · rw [up_k (by omega), up_j (by omega)]; exact c2
    · have k4 := k M4 x7 ⟨fun q hq => ?_, fun q hq => ?_, fun q hq => ?_⟩ g2
      · rw [show nI (l + 1) + (-1) = nI l from pk_m1 l]
        rw [show (fun q_1 => if l + 1 = 0 then cI q_1 else if l = 0 then cI q else p) = (fun _ => if l = 0 then cI q else p) from funext fun _ => if_neg (by omega)]
        rw [goF_c, BB_72 _ _ _ _ _ _ hR.1, ← VV_s, show T + lkN S L fg (stQ σ (N + l) q) (N + l) + VV S L fg (m + 1) (N + (l + 1)) (stQ σ (N + l) q) = T + fQ S L fg (m + 1) (N + l) σ q by rw [fQ_st, Nat.add_assoc]; rfl]
        exact k4
      · have := g1.1 q (by omega)
        rw [up_k (by omega), up_k (by omega), up_k (by omega), up_k (by omega)] at this
        exact this
      · have := g1.2.1 q (by omega)
        rw [up_k (by omega), up_j (by omega)] at this
        exact this
      · have := g1.2.2 q (by omega)
        rw [up_j (by omega), up_k (by omega)] at this
        exact this
end
section
/-! ===== lets ===== -/
def sgY (Y : Yd) : St := (Y.1, Y.2.1)
def ltA (q : Nat × Option Nat) (w : Int32) : Int32 := if w = 0 then nI q.1 else oI q.2
set_option maxRecDepth 100000 in
set_option maxHeartbeats 4000000 in
theorem em_letsOf (d : Nat) (M : sy_Mm) (E : Evs) (ne S L N n : Nat) (h0 : Nat → Nat) (fg : Nat → Bool) (w : Int32) (hN : N ≤ 199) (hn : n ≤ 2) (hC : ctM M E ne S L h0 fg) : Ex (d + 3) i_X8_letsOf [.ref 30, .int (nI N), .int (nI (n + 1)), .int w] M (fun r M' => r = some (.int (ltA (BB S L fg n N (sgY (yF S h0 E none 199 ne))) w)) ∧ kpX M M') := by
  unfold Ex
  repeat refine fx_n rfl ?_
  refine fx_c rfl (em_goes _ M E ne S L 199 h0 fg none (by omega) (fun _ q => by cases q) hC) ?_
  rintro _ M1 ⟨rfl, b1, b2⟩
  obtain ⟨⟨a1, a2, a3, a4, a5, a6, a7, a8, a9⟩, c1, c2, c3⟩ := id b1
  have hok := yF_ok (S := S) (h0 := h0) (aside := none) (N := 199) a1 a8 ne (Nat.le_refl _)
  repeat refine fx_n rfl ?_
  refine fx_g rfl (by decide) ?_
  rw [show Int32.toNatClampNeg 0 = 0 from rfl]
  repeat refine fx_n rfl ?_
  refine fx_g rfl (by decide) ?_
  rw [show Int32.toNatClampNeg 0 = 0 from rfl]
  repeat refine fx_n rfl ?_
  have kx : kpX M1 (sy_up (sy_up M1 43 0 (-2)) 44 0 0) := (kpX.rf.up (by omega)).up (by omega)
  refine em_lvl d M1 S L N (n + 1) fg w _ ⟨a3, a4, a6.2, a5, a9⟩ (by omega) hN n 0 _ 0 0 (sgY (yF S h0 E none 199 ne)) (none, -1) none (by omega) (by omega) (fun x hx => by cases hx) ⟨hok.1, fun s x hx => by have := hok.2.1 s x hx; omega⟩ (fun s hs => ?_) rfl rfl (fun z => absurd rfl z) kx (fun M4 x7 g1 g2 => ?_)
  · rw [Nat.mul_zero, Nat.zero_add, up_k (by omega), up_k (by omega), up_k (by omega), up_k (by omega)]
    exact ⟨c1 s hs, c2 s hs⟩
  · have e : (fun q => if 0 = 0 then cI q else (0 : Int32)) = cI := funext fun q => if_pos rfl
    rw [e, Nat.add_zero, goF_0, BB_72 _ _ _ _ _ _ a3]
    unfold ltA
    refine fx_bt rfl (by decide) ?_
    repeat refine fx_n rfl ?_
    by_cases hw : w = 0
    · refine fx_bf rfl (fun z => z hw) ?_
      repeat refine fx_n rfl ?_
      refine fx_r rfl rfl ⟨?_, b2.x.tr g2⟩
      rw [if_pos hw]; rfl
    · refine fx_bt rfl hw ?_
      repeat refine fx_n rfl ?_
      refine fx_r rfl rfl ⟨?_, b2.x.tr g2⟩
      rw [if_neg hw]; rfl
def ltS (S L : Nat) (h0 : Nat → Nat) (fg : Nat → Bool) (E : Evs) (ne : Nat) (t n w : Int32) : Int32 := cond (inR t (lastN E ne) 199 && (inR n 1 3 && inR w 0 1)) (ltA (BB S L fg (n.toNatClampNeg - 1) t.toNatClampNeg (sgY (yF S h0 E none 199 ne))) w) (-2)
theorem yF_all {S : Nat} {h0 : Nat → Nat} {E : Evs} {ne N : Nat} (hE : taleOK E ne) (h : lastN E ne ≤ N) : yF S h0 E none N ne = yG S h0 E none ne := by
  refine yF_lo ne (fun e he => ?_)
  have := tale_mono hE (ne - 1 - e) e (by omega)
  rw [show e + (ne - 1 - e) = ne - 1 by omega] at this
  unfold lastN at h
  rw [if_neg (by omega)] at h
  omega
theorem inR_13 {n : Int32} (h : inR n 1 3 = true) : ∃ k : Nat, k ≤ 2 ∧ n = nI (k + 1) := by
  have := inR_t.mp h
  obtain ⟨k, hk, rfl⟩ := inR_nI (x := n) (b := 3) (inR_t.mpr (by omega))
  rw [nI_toInt (by omega)] at this
  exact ⟨k - 1, by omega, by rw [show k - 1 + 1 = k by omega]⟩
set_option maxRecDepth 100000 in
set_option maxHeartbeats 4000000 in
theorem ex_lets (d : Nat) (M : sy_Mm) (E : Evs) (ne S L : Nat) (h0 : Nat → Nat) (fg : Nat → Bool) (t n w : Int32) (hC : ctC M E ne S L h0 fg) : Ex (d + 10) i_X7_lets [.ref 0, .int t, .int n, .int w] M (fun r N => r = some (.int (ltS S L h0 fg E ne t n w)) ∧ kq M N) := by
  obtain ⟨a1, a2, a3, a4, a5, a6, a7, a8, a9⟩ := id hC
  have hl := lastN_le a1
  have ht : (nI (lastN E ne)).toInt = (lastN E ne : Int) := nI_toInt (by omega)
  unfold Ex ltS
  repeat refine fx_n rfl ?_
  refine fx_p rfl (ev_wi _ _ _ _ 199 rfl) (fx_ze rfl (fun g => ?_) (fun g => ?_))
  · have g2 : inR t (lastN E ne) 199 = false := inR_f.mpr (by have := inR_f.mp g; omega)
    repeat refine fx_n rfl ?_
    exact fx_r rfl rfl ⟨by simp [g2], kq.rf⟩
  repeat refine fx_n rfl ?_
  refine fx_p rfl (ev_lastNight _ _ E ne a1 a2) (fx_b rfl (fun q => ?_) (fun q => ?_))
  · have g2 : inR t (lastN E ne) 199 = false := inR_f.mpr (by rw [Int32.lt_iff_toInt_lt, ht] at q; omega)
    repeat refine fx_n rfl ?_
    exact fx_r rfl rfl ⟨by simp [g2], kq.rf⟩
  have g1 : inR t (lastN E ne) 199 = true := inR_t.mpr (by have := inR_t.mp g; rw [Int32.lt_iff_toInt_lt, ht] at q; omega)
  repeat refine fx_n rfl ?_
  refine fx_b rfl (fun q => ?_) (fun q => ?_)
  · have g2 : inR n 1 3 = false := inR_f.mpr (by rw [Int32.lt_iff_toInt_lt] at q; simp at q; omega)
    repeat refine fx_n rfl ?_
    exact fx_r rfl rfl ⟨by simp [g2], kq.rf⟩
  repeat refine fx_n rfl ?_
  refine fx_b rfl (fun q2 => ?_) (fun q2 => ?_)
  · have g2 : inR n 1 3 = false := inR_f.mpr (by rw [Int32.lt_iff_toInt_lt] at q2; simp at q2; omega)
    repeat refine fx_n rfl ?_
    exact fx_r rfl rfl ⟨by simp [g2], kq.rf⟩
  have g2 : inR n 1 3 = true := inR_t.mpr (by rw [Int32.lt_iff_toInt_lt] at q q2; simp at q q2; omega)
  repeat refine fx_n rfl ?_
  refine fx_p rfl (ev_wi _ _ _ _ 1 rfl) (fx_zn rfl (fun g3 => ?_) (fun g3 => by ((repeat refine fx_n rfl ?_); exact fx_r rfl rfl ⟨by simp [g3, zb_f], kq.rf⟩)))
  rw [g1, g2, g3]
  obtain ⟨N, hN, rfl⟩ := inR_nI (b := 199) g
  obtain ⟨k, hk, rfl⟩ := inR_13 g2
  have hlN : lastN E ne ≤ N := by
    have := inR_t.mp g1
    rw [nI_toInt (by omega)] at this
    omega
  rw [nI_cl (by omega), nI_cl (by omega), show k + 1 - 1 = k by omega]
  simp only [Bool.and_self, cond_true]
  repeat refine fx_n rfl ?_
  refine fx_c rfl (ex_tellFrom _ M E ne S L N h0 fg (by omega) hC) ?_
  rintro _ M1 ⟨rfl, b1, b2⟩
  have eY : yF S h0 E none N ne = yF S h0 E none 199 ne := by rw [yF_all a1 hlN, yF_all a1 hl]
  have hls : lsC M1 S L fg (sgY (yF S h0 E none 199 ne)) := by
    rw [← eY]
    exact ⟨b1.lk, b1.1.2.2.2.2.1, a6.1⟩
  have hF : HF S L fg k 6 := by
    rcases (show k = 0 ∨ k = 1 ∨ k = 2 by omega) with rfl | rfl | rfl
    · exact fun d M σ N h => hf_0 S L fg d M σ N (by omega)
    · exact fun d M σ N h => hf_1 S L fg d M σ N (by omega)
    · exact hf_2 S L fg
  repeat refine fx_n rfl ?_
  refine fx_c rfl (ex_mostNights _ M1 S L N k fg _ (by omega) hk hls 6 hF (by omega)) ?_
  rintro _ M2 ⟨rfl, c1, c2⟩
  have kk : kq M M2 := b2.q.tr (fun k j hd => c2 k j (fun e => by subst e; exact absurd (by unfold dead; omega) hd))
  repeat refine fx_n rfl ?_
  unfold ltA
  by_cases hw : w = 0
  · refine fx_bf rfl (fun z => z hw) ?_
    repeat refine fx_n rfl ?_
    refine fx_r rfl rfl ⟨?_, kk⟩
    rw [if_pos hw]
  · refine fx_bt rfl hw ?_
    repeat refine fx_n rfl ?_
    refine fx_r rfl rfl ⟨?_, kk⟩
    rw [if_neg hw, c1]
set_option maxRecDepth 100000 in
set_option maxHeartbeats 4000000 in
theorem ag_lets {M : sy_Mm} (h : Inv M) (t n w : Int32) : AG i_X7_lets i_X8_lets [.int t, .int n, .int w] M := by
  intro d
  obtain ⟨nn, E, ne, L, B, nb, G, F, h1, h2, h3, h4, h5, h6, h7⟩ := id h
  refine fx_w (ex_lets _ M E ne _ L _ _ t n w (inv_ctC h1 h2 h3)) ?_
  rintro _ N ⟨rfl, k⟩
  have e2 : N 2 = M 2 := k.row 2 (fun j => by unfold dead; omega)
  refine ⟨⟨_, rfl⟩, ?_⟩
  have hI1 := h.kp k
  unfold Ex
  repeat refine fx_n rfl ?_
  refine fx_c rfl (em_reads' _ (h1.kp k)) ?_
  rintro _ N1 ⟨rfl, hr⟩
  have hC := inv_ctM (h1.kp k) (h2.kp k) (h3.kp k) hr
  rw [e2] at hC
  have hI2 := hI1.kp hr.q
  unfold ltS
  repeat refine fx_n rfl ?_
  refine fx_p rfl (em_isLate _ _ E ne _ hC.1 hC.2.1) (fx_ze rfl (fun g1 => by ((repeat refine fx_n rfl ?_); exact fx_r rfl rfl ⟨by simp [g1, zb_f], hI2⟩)) (fun g1 => ?_))
  repeat refine fx_n rfl ?_
  refine fx_p rfl (em_ir _ _ _ _ _ 1 3 rfl rfl) (fx_ze rfl (fun g2 => by ((repeat refine fx_n rfl ?_); exact fx_r rfl rfl ⟨by simp [g2, zb_f], hI2⟩)) (fun g2 => ?_))
  repeat refine fx_n rfl ?_
  refine fx_p rfl (em_isTwo _ _ _) (fx_ze rfl (fun g3 => by ((repeat refine fx_n rfl ?_); exact fx_r rfl rfl ⟨by simp [g3, zb_f], hI2⟩)) (fun g3 => ?_))
  rw [g1, g2, g3]
  obtain ⟨T, hT, rfl⟩ := inR_nI (x := t) (b := 199) (inR_t.mpr (by have := inR_t.mp g1; omega))
  obtain ⟨q, hq, rfl⟩ := inR_13 g2
  rw [nI_cl (by omega), nI_cl (by omega), show q + 1 - 1 = q by omega]
  repeat refine fx_n rfl ?_
  refine fx_c rfl (em_letsOf _ N1 E ne _ L T q _ _ w hT hq hC) ?_
  rintro _ N2 ⟨rfl, c2⟩
  repeat refine fx_n rfl ?_
  exact fx_r rfl rfl ⟨rfl, hI2.kp c2.q⟩
end
section
/-! ===== digest: its value, and the class's way to it ===== -/
abbrev mx (h : Int64) (v : Int32) : Int64 := 31 * h + v.toInt64
abbrev ml (h v : Int64) : Int64 := 31 * h + v
def ndS (f : Nat → Int64 → Int64) : Nat → Int64 → Int64
  | 0, h => h
  | k + 1, h => f k (ndS f k h)
theorem nd_0 (f : Nat → Int64 → Int64) (h : Int64) : ndS f 0 h = h := rfl
theorem nd_s (f : Nat → Int64 → Int64) (k : Nat) (h : Int64) : ndS f (k + 1) h = f k (ndS f k h) := rfl
theorem i01 : (0 : Int32) + 1 = 1 := rfl
theorem i12 : (1 : Int32) + 1 = 2 := rfl
theorem i23 : (2 : Int32) + 1 = 3 := rfl
theorem i26 : (20 : Int32) + 40 = 60 := rfl
theorem i60 : (60 : Int32) + 40 = 100 := rfl
def dwS (ston : Nat → Int32 → Int32) (att : Nat → Int32 → Int32 → Int32) (s : Nat) (h : Int64) : Int64 := mx (mx (mx (mx (mx (mx (mx (mx h (ston s 0)) (ston s 1)) (att s 20 0)) (att s 20 1)) (att s 20 2)) (att s 60 0)) (att s 60 1)) (att s 60 2)
def dhS (luc : Nat → Int32 → Int32) (dayf ledf thif : Nat → Int32) (cha wai : Nat → Int32 → Int64) (x : Nat) (h : Int64) : Int64 := mx (ml (ml (ml (ml (mx (mx (mx (mx h (luc x 0)) (luc x 1)) (dayf x)) (ledf x)) (cha x 0)) (cha x 1)) (wai x 0)) (wai x 1)) (thif x)
def dg1 (cnt : Int32 → Int32) (flt jdg : Int32) : Int64 := mx (mx (ndS (fun k h => mx h (cnt (nI k))) 8 17) flt) jdg
def dg2 (fit lett rob : Int32 → Int32) (wof car : Int32) (h : Int64) : Int64 := mx (ndS (fun k h => mx h (rob (nI k))) 3 (mx (mx (ndS (fun k h => mx h (fit (nI k))) 4 (mx h wof)) (lett 0)) (lett 1))) car
set_option maxRecDepth 100000 in
set_option maxHeartbeats 400000 in
theorem ex_withStone {ston : Nat → Int32 → Int32} {att : Nat → Int32 → Int32 → Int32} (d : Nat) (M M1 : sy_Mm) (S s : Nat) (h : Int64) (hs : s < S) (k1 : kq M M1) (hsto : ∀ (d : Nat) (s : Nat) (w : Int32) (M1 : sy_Mm), s < S → kq M M1 → Ex (d + 10) i_X7_stone [.ref 0, .int (nI s), .int w] M1 (fun r N => r = some (.int (ston s w)) ∧ kq M N)) (hatt : ∀ (d : Nat) (s : Nat) (t w : Int32) (M1 : sy_Mm), s < S → kq M M1 → Ex (d + 10) i_X7_at [.ref 0, .int (nI s), .int t, .int w] M1 (fun r N => r = some (.int (att s t w)) ∧ kq M N)) : Ex (d + 20) i_X7_withStone [.ref 0, .long h, .int (nI s)] M1 (fun r N => r = some (.long (dwS ston att s h)) ∧ kq M N) := by
  unfold Ex
  repeat refine fx_n rfl ?_
  refine fx_c rfl (hsto _ _ _ _ hs k1) ?_
  rintro _ M1 ⟨rfl, k1⟩
  repeat refine fx_n rfl ?_
  refine fx_c rfl (hsto _ _ _ _ hs k1) ?_
  rintro _ M1 ⟨rfl, k1⟩
  repeat refine fx_n rfl ?_
  refine fx_bf rfl (by decide) ?_
  repeat refine fx_n rfl ?_
  refine fx_bf rfl (by decide) ?_
  repeat refine fx_n rfl ?_
  refine fx_c rfl (hatt _ _ _ _ _ hs k1) ?_
  rintro _ M1 ⟨rfl, k1⟩
  repeat refine fx_n rfl ?_
  rw [i01]
  refine fx_bf rfl (by decide) ?_
  repeat refine fx_n rfl ?_
  refine fx_c rfl (hatt _ _ _ _ _ hs k1) ?_
  rintro _ M1 ⟨rfl, k1⟩
  repeat refine fx_n rfl ?_
  rw [i12]
  refine fx_bf rfl (by decide) ?_
  repeat refine fx_n rfl ?_
  refine fx_c rfl (hatt _ _ _ _ _ hs k1) ?_
  rintro _ M1 ⟨rfl, k1⟩
  repeat refine fx_n rfl ?_
  rw [i23]
  refine fx_bt rfl (by decide) ?_
  repeat refine fx_n rfl ?_
  rw [i26]
  refine fx_bf rfl (by decide) ?_
  repeat refine fx_n rfl ?_
  refine fx_bf rfl (by decide) ?_
  repeat refine fx_n rfl ?_
  refine fx_c rfl (hatt _ _ _ _ _ hs k1) ?_
  rintro _ M1 ⟨rfl, k1⟩
  repeat refine fx_n rfl ?_
  rw [i01]
  refine fx_bf rfl (by decide) ?_
  repeat refine fx_n rfl ?_
  refine fx_c rfl (hatt _ _ _ _ _ hs k1) ?_
  rintro _ M1 ⟨rfl, k1⟩
  repeat refine fx_n rfl ?_
  rw [i12]
  refine fx_bf rfl (by decide) ?_
  repeat refine fx_n rfl ?_
  refine fx_c rfl (hatt _ _ _ _ _ hs k1) ?_
  rintro _ M1 ⟨rfl, k1⟩
  repeat refine fx_n rfl ?_
  rw [i23]
  refine fx_bt rfl (by decide) ?_
  repeat refine fx_n rfl ?_
  rw [i60]
  refine fx_bt rfl (by decide) ?_
  repeat refine fx_n rfl ?_
  refine fx_r rfl rfl ⟨?_, k1⟩
  unfold dwS
  rfl
set_option maxRecDepth 100000 in
set_option maxHeartbeats 400000 in
theorem ex_withHouse {luc : Nat → Int32 → Int32} {dayf ledf thif : Nat → Int32} {cha wai : Nat → Int32 → Int64} (d : Nat) (M M1 : sy_Mm) (x : Nat) (h : Int64) (hx : x < 8) (k1 : kq M M1) (hluc : ∀ (d : Nat) (x : Nat) (w : Int32) (M1 : sy_Mm), x < 8 → kq M M1 → Ex (d + 10) i_X7_luck [.ref 0, .int (nI x), .int 20, .int w] M1 (fun r N => r = some (.int (luc x w)) ∧ kq M N)) (hday : ∀ (d : Nat) (x : Nat) (M1 : sy_Mm), x < 8 → kq M M1 → Ex (d + 10) i_X7_days [.ref 0, .int (nI x), .int 0, .int 99] M1 (fun r N => r = some (.int (dayf x)) ∧ kq M N)) (hled : ∀ (d : Nat) (x : Nat) (M1 : sy_Mm), x < 8 → kq M M1 → Ex (d + 10) i_X7_led [.ref 0, .int (nI x), .int 20, .int 0] M1 (fun r N => r = some (.int (ledf x)) ∧ kq M N)) (hcha : ∀ (d : Nat) (x : Nat) (w : Int32) (M1 : sy_Mm), x < 8 → kq M M1 → Ex (d + 10) i_X7_chance [.ref 0, .int (nI x), .int 5, .int w] M1 (fun r N => r = some (.long (cha x w)) ∧ kq M N)) (hwai : ∀ (d : Nat) (x : Nat) (w : Int32) (M1 : sy_Mm), x < 8 → kq M M1 → Ex (d + 10) i_X7_waits [.ref 0, .int (nI x), .int w] M1 (fun r N => r = some (.long (wai x w)) ∧ kq M N)) (hthi : ∀ (d : Nat) (x : Nat) (M1 : sy_Mm), x < 8 → kq M M1 → Ex (d + 10) i_X7_thief [.ref 0, .int (nI x), .int 7, .int 9] M1 (fun r N => r = some (.int (thif x)) ∧ kq M N)) : Ex (d + 20) i_X7_withHouse [.ref 0, .long h, .int (nI x)] M1 (fun r N => r = some (.long (dhS luc dayf ledf thif cha wai x h)) ∧ kq M N) := by
  unfold Ex
  repeat refine fx_n rfl ?_
  refine fx_c rfl (hluc _ _ _ _ hx k1) ?_
  rintro _ M1 ⟨rfl, k1⟩
  repeat refine fx_n rfl ?_
  refine fx_c rfl (hluc _ _ _ _ hx k1) ?_
  rintro _ M1 ⟨rfl, k1⟩
  repeat refine fx_n rfl ?_
  refine fx_c rfl (hday _ _ _ hx k1) ?_
  rintro _ M1 ⟨rfl, k1⟩
  repeat refine fx_n rfl ?_
  refine fx_c rfl (hled _ _ _ hx k1) ?_
  rintro _ M1 ⟨rfl, k1⟩
  repeat refine fx_n rfl ?_
  refine fx_c rfl (hcha _ _ _ _ hx k1) ?_
  rintro _ M1 ⟨rfl, k1⟩
  repeat refine fx_n rfl ?_
  refine fx_c rfl (hcha _ _ _ _ hx k1) ?_
  rintro _ M1 ⟨rfl, k1⟩
  repeat refine fx_n rfl ?_
  refine fx_c rfl (hwai _ _ _ _ hx k1) ?_
  rintro _ M1 ⟨rfl, k1⟩
  repeat refine fx_n rfl ?_
  refine fx_c rfl (hwai _ _ _ _ hx k1) ?_
  rintro _ M1 ⟨rfl, k1⟩
  repeat refine fx_n rfl ?_
  refine fx_c rfl (hthi _ _ _ hx k1) ?_
  rintro _ M1 ⟨rfl, k1⟩
  repeat refine fx_n rfl ?_
  refine fx_r rfl rfl ⟨?_, k1⟩
  unfold dhS
  rfl
set_option maxRecDepth 100000 in
set_option maxHeartbeats 400000 in
theorem ex_digest {cnt : Int32 → Int32} {flt jdg : Int32} {ston : Nat → Int32 → Int32} {att : Nat → Int32 → Int32 → Int32} {luc : Nat → Int32 → Int32} {dayf ledf thif : Nat → Int32} {cha wai : Nat → Int32 → Int64} {wof : Int32} {fit lett rob : Int32 → Int32} {car : Int32} (d : Nat) (M : sy_Mm) (S : Nat) (hS : S ≤ 9) (h13 : M 1 3 = nI S) (hcnt : ∀ (d : Nat) (w : Int32) (M1 : sy_Mm), kq M M1 → Ex (d + 10) i_X7_count [.ref 0, .int w] M1 (fun r N => r = some (.int (cnt w)) ∧ kq M N)) (hflt : ∀ (d : Nat)  (M1 : sy_Mm), kq M M1 → Ex (d + 10) i_X7_fault [.ref 0] M1 (fun r N => r = some (.int (flt)) ∧ kq M N)) (hjdg : ∀ (d : Nat)  (M1 : sy_Mm), kq M M1 → Ex (d + 10) i_X7_judged [.ref 0] M1 (fun r N => r = some (.int (jdg)) ∧ kq M N)) (hsto : ∀ (d : Nat) (s : Nat) (w : Int32) (M1 : sy_Mm), s < S → kq M M1 → Ex (d + 10) i_X7_stone [.ref 0, .int (nI s), .int w] M1 (fun r N => r = some (.int (ston s w)) ∧ kq M N)) (hatt : ∀ (d : Nat) (s : Nat) (t w : Int32) (M1 : sy_Mm), s < S → kq M M1 → Ex (d + 10) i_X7_at [.ref 0, .int (nI s), .int t, .int w] M1 (fun r N => r = some (.int (att s t w)) ∧ kq M N)) (hluc : ∀ (d : Nat) (x : Nat) (w : Int32) (M1 : sy_Mm), x < 8 → kq M M1 → Ex (d + 10) i_X7_luck [.ref 0, .int (nI x), .int 20, .int w] M1 (fun r N => r = some (.int (luc x w)) ∧ kq M N)) (hday : ∀ (d : Nat) (x : Nat) (M1 : sy_Mm), x < 8 → kq M M1 → Ex (d + 10) i_X7_days [.ref 0, .int (nI x), .int 0, .int 99] M1 (fun r N => r = some (.int (dayf x)) ∧ kq M N)) (hled : ∀ (d : Nat) (x : Nat) (M1 : sy_Mm), x < 8 → kq M M1 → Ex (d + 10) i_X7_led [.ref 0, .int (nI x), .int 20, .int 0] M1 (fun r N => r = some (.int (ledf x)) ∧ kq M N)) (hcha : ∀ (d : Nat) (x : Nat) (w : Int32) (M1 : sy_Mm), x < 8 → kq M M1 → Ex (d + 10) i_X7_chance [.ref 0, .int (nI x), .int 5, .int w] M1 (fun r N => r = some (.long (cha x w)) ∧ kq M N)) (hwai : ∀ (d : Nat) (x : Nat) (w : Int32) (M1 : sy_Mm), x < 8 → kq M M1 → Ex (d + 10) i_X7_waits [.ref 0, .int (nI x), .int w] M1 (fun r N => r = some (.long (wai x w)) ∧ kq M N)) (hthi : ∀ (d : Nat) (x : Nat) (M1 : sy_Mm), x < 8 → kq M M1 → Ex (d + 10) i_X7_thief [.ref 0, .int (nI x), .int 7, .int 9] M1 (fun r N => r = some (.int (thif x)) ∧ kq M N)) (hwo : ∀ (d : Nat)  (M1 : sy_Mm), kq M M1 → Ex (d + 10) i_X7_without [.ref 0, .int 0, .int 99] M1 (fun r N => r = some (.int (wof)) ∧ kq M N)) (hfit : ∀ (d : Nat) (w : Int32) (M1 : sy_Mm), kq M M1 → Ex (d + 10) i_X7_fitting [.ref 0, .int w] M1 (fun r N => r = some (.int (fit w)) ∧ kq M N)) (hlet : ∀ (d : Nat) (w : Int32) (M1 : sy_Mm), kq M M1 → Ex (d + 10) i_X7_lets [.ref 0, .int 199, .int 1, .int w] M1 (fun r N => r = some (.int (lett w)) ∧ kq M N)) (hrob : ∀ (d : Nat) (w : Int32) (M1 : sy_Mm), kq M M1 → Ex (d + 10) i_X7_robs [.ref 0, .int 7, .int 50, .int w] M1 (fun r N => r = some (.int (rob w)) ∧ kq M N)) (hcar : ∀ (d : Nat)  (M1 : sy_Mm), kq M M1 → Ex (d + 10) i_X7_careless [.ref 0, .int 5, .int 40] M1 (fun r N => r = some (.int (car)) ∧ kq M N)) : Ex (d + 30) i_X7_digest [.ref 0] M (fun r N => r = some (.long (dg2 fit lett rob wof car (ndS (dhS luc dayf ledf thif cha wai) 8 (ndS (dwS ston att) S (dg1 cnt flt jdg))))) ∧ kq M N) := by
  have l5 : ∀ (h0 : Int64) (j k : Nat) (M1 : sy_Mm), k + j = 3 → kq M M1 → Fx (d + 30) i_X7_digest 181 [some (.ref 0), some (.long ((ndS (fun k h => mx h (rob (nI k))) k h0))), none, some (.int (nI k))] [.int 2, .int (nI k)] M1 (fun r N => r = some (.long (mx (ndS (fun k h => mx h (rob (nI k))) 3 h0) car)) ∧ kq M N) := by
    intro h0 j
    induction j with
    | zero =>
      intro k M1 hk k1
      have e : k = 3 := by omega
      subst e
      refine fx_bt rfl (by decide) ?_
      repeat refine fx_n rfl ?_
      refine fx_c rfl (hcar _  _  k1) ?_
      rintro _ M1 ⟨rfl, k1⟩
      repeat refine fx_n rfl ?_
      exact fx_r rfl rfl ⟨rfl, k1⟩
    | succ j ih =>
      intro k M1 hk k1
      refine fx_bf rfl (nI_nlt (a := 2) (by omega) (by omega)) ?_
      repeat refine fx_n rfl ?_
      refine fx_c rfl (hrob _ _ _  k1) ?_
      rintro _ M1 ⟨rfl, k1⟩
      repeat refine fx_n rfl ?_
      rw [nI_1]
      have q := ih (k + 1) M1 (by omega) k1
      rw [nd_s] at q
      exact q
  have l4 : ∀ (h0 : Int64) (j k : Nat) (M1 : sy_Mm), k + j = 4 → kq M M1 → Fx (d + 30) i_X7_digest 121 [some (.ref 0), some (.long ((ndS (fun k h => mx h (fit (nI k))) k h0))), none, some (.int (nI k))] [.int 3, .int (nI k)] M1 (fun r N => r = some (.long (mx (ndS (fun k h => mx h (rob (nI k))) 3 (mx (mx (ndS (fun k h => mx h (fit (nI k))) 4 h0) (lett 0)) (lett 1))) car)) ∧ kq M N) := by
    intro h0 j
    induction j with
    | zero =>
      intro k M1 hk k1
      have e : k = 4 := by omega
      subst e
      refine fx_bt rfl (by decide) ?_
      repeat refine fx_n rfl ?_
      refine fx_c rfl (hlet _ _ _  k1) ?_
      rintro _ M1 ⟨rfl, k1⟩
      repeat refine fx_n rfl ?_
      refine fx_c rfl (hlet _ _ _  k1) ?_
      rintro _ M1 ⟨rfl, k1⟩
      repeat refine fx_n rfl ?_
      have q := l5 (mx (mx (ndS (fun k h => mx h (fit (nI k))) 4 h0) (lett 0)) (lett 1)) 3 0 M1 (by omega) k1
      rw [nd_0] at q
      exact q
    | succ j ih =>
      intro k M1 hk k1
      refine fx_bf rfl (nI_nlt (a := 3) (by omega) (by omega)) ?_
      repeat refine fx_n rfl ?_
      refine fx_c rfl (hfit _ _ _  k1) ?_
      rintro _ M1 ⟨rfl, k1⟩
      repeat refine fx_n rfl ?_
      rw [nI_1]
      have q := ih (k + 1) M1 (by omega) k1
      rw [nd_s] at q
      exact q
  have l3 : ∀ (h0 : Int64) (j k : Nat) (M1 : sy_Mm), k + j = 8 → kq M M1 → Fx (d + 30) i_X7_digest 86 [some (.ref 0), some (.long ((ndS (dhS luc dayf ledf thif cha wai) k h0))), none, some (.int (nI k))] [.int 8, .int (nI k)] M1 (fun r N => r = some (.long (dg2 fit lett rob wof car (ndS (dhS luc dayf ledf thif cha wai) 8 h0))) ∧ kq M N) := by
    intro h0 j
    induction j with
    | zero =>
      intro k M1 hk k1
      have e : k = 8 := by omega
      subst e
      refine fx_bt rfl (by decide) ?_
      repeat refine fx_n rfl ?_
      refine fx_c rfl (hwo _  _  k1) ?_
      rintro _ M1 ⟨rfl, k1⟩
      repeat refine fx_n rfl ?_
      have q := l4 (mx (ndS (dhS luc dayf ledf thif cha wai) 8 h0) wof) 4 0 M1 (by omega) k1
      rw [nd_0] at q
      exact q
    | succ j ih =>
      intro k M1 hk k1
      refine fx_bf rfl (nI_ge (b := 8) (by omega) (by omega)) ?_
      repeat refine fx_n rfl ?_
      refine fx_c rfl (ex_withHouse _ M M1 k _ (by omega) k1 hluc hday hled hcha hwai hthi) ?_
      rintro _ M1 ⟨rfl, k1⟩
      repeat refine fx_n rfl ?_
      rw [nI_1]
      have q := ih (k + 1) M1 (by omega) k1
      rw [nd_s] at q
      exact q
  have l2 : ∀ (h0 : Int64) (j k : Nat) (M1 : sy_Mm), k + j = S → kq M M1 → Fx (d + 30) i_X7_digest 65 [some (.ref 0), some (.long ((ndS (dwS ston att) k h0))), none, some (.int (nI k))] [.int (M1 1 3), .int (nI k)] M1 (fun r N => r = some (.long (dg2 fit lett rob wof car (ndS (dhS luc dayf ledf thif cha wai) 8 (ndS (dwS ston att) S h0)))) ∧ kq M N) := by
    intro h0 j
    induction j with
    | zero =>
      intro k M1 hk k1
      have e : k = S := by omega
      subst e
      refine fx_bt rfl (by rw [k1 1 3 (by unfold dead; omega), h13]; exact nI_le (Nat.le_refl _) (by omega)) ?_
      repeat refine fx_n rfl ?_
      have q := l3 (ndS (dwS ston att) k h0) 8 0 M1 (by omega) k1
      rw [nd_0] at q
      exact q
    | succ j ih =>
      intro k M1 hk k1
      refine fx_bf rfl (by rw [k1 1 3 (by unfold dead; omega), h13]; exact nI_ge (by omega) (by omega)) ?_
      repeat refine fx_n rfl ?_
      refine fx_c rfl (ex_withStone _ M M1 S k _ (by omega) k1 hsto hatt) ?_
      rintro _ M1 ⟨rfl, k1⟩
      repeat refine fx_n rfl ?_
      rw [nI_1]
      have q := ih (k + 1) M1 (by omega) k1
      rw [nd_s] at q
      exact q
  have l1 : ∀ (j k : Nat) (M1 : sy_Mm), k + j = 8 → kq M M1 → Fx (d + 30) i_X7_digest 9 [some (.ref 0), some (.long ((ndS (fun k h => mx h (cnt (nI k))) k 17))), none, some (.int (nI k))] [.int 7, .int (nI k)] M1 (fun r N => r = some (.long (dg2 fit lett rob wof car (ndS (dhS luc dayf ledf thif cha wai) 8 (ndS (dwS ston att) S (dg1 cnt flt jdg))))) ∧ kq M N) := by
    intro j
    induction j with
    | zero =>
      intro k M1 hk k1
      have e : k = 8 := by omega
      subst e
      refine fx_bt rfl (by decide) ?_
      repeat refine fx_n rfl ?_
      refine fx_c rfl (hflt _  _  k1) ?_
      rintro _ M1 ⟨rfl, k1⟩
      repeat refine fx_n rfl ?_
      refine fx_c rfl (hjdg _  _  k1) ?_
      rintro _ M1 ⟨rfl, k1⟩
      repeat refine fx_n rfl ?_
      have q := l2 (dg1 cnt flt jdg) S 0 M1 (by omega) k1
      rw [nd_0] at q
      exact q
    | succ j ih =>
      intro k M1 hk k1
      refine fx_bf rfl (nI_nlt (a := 7) (by omega) (by omega)) ?_
      repeat refine fx_n rfl ?_
      refine fx_c rfl (hcnt _ _ _  k1) ?_
      rintro _ M1 ⟨rfl, k1⟩
      repeat refine fx_n rfl ?_
      rw [nI_1]
      have q := ih (k + 1) M1 (by omega) k1
      rw [nd_s] at q
      exact q
  unfold Ex
  repeat refine fx_n rfl ?_
  have q := l1 8 0 M (by omega) kq.rf
  rw [nd_0] at q
  exact q
end
