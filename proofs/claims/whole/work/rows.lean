section
-- ===== PART A: goes FIRST, ahead of the names: the tables' words, and 'selects' of the private methods out of them =====
/-- a private method of a class that the tables say can be made, by its rows of tables_1 -/
def lw_okq (q : MethodName × Nat) : Prop := (q.1.cls ≠ "java/lang/invoke/MethodHandle" ∧ q.1.cls ≠ "java/lang/invoke/VarHandle") ∧ Cond.instantiable q.1.cls q.2 ∈ tables_1 ∧ Cond.privateMethod q.1 ∈ tables_1 ∧ Cond.instanceMethod q.1 ∈ tables_1
theorem lw_p0 : lw_okq (⟨"java/lang/Throwable", "fillInStackTrace", "(I)Ljava/lang/Throwable;"⟩, 6) := ⟨⟨by decide +kernel, by decide +kernel⟩, List.mem_of_getElem? (i := 314) (by decide +kernel), List.mem_of_getElem? (i := 312) (by decide +kernel), List.mem_of_getElem? (i := 313) (by decide +kernel)⟩
theorem lw_p1 : lw_okq (⟨"KayfabeRing", "isWrestler", "(I)Z"⟩, 9) := ⟨⟨by decide +kernel, by decide +kernel⟩, List.mem_of_getElem? (i := 17) (by decide +kernel), List.mem_of_getElem? (i := 376) (by decide +kernel), List.mem_of_getElem? (i := 377) (by decide +kernel)⟩
theorem lw_p2 : lw_okq (⟨"KayfabeRing", "isTitle", "(I)Z"⟩, 9) := ⟨⟨by decide +kernel, by decide +kernel⟩, List.mem_of_getElem? (i := 17) (by decide +kernel), List.mem_of_getElem? (i := 415) (by decide +kernel), List.mem_of_getElem? (i := 416) (by decide +kernel)⟩
theorem lw_p3 : lw_okq (⟨"KayfabeRing", "cardOf", "(I)LKayfabeRing$Card;"⟩, 9) := ⟨⟨by decide +kernel, by decide +kernel⟩, List.mem_of_getElem? (i := 17) (by decide +kernel), List.mem_of_getElem? (i := 421) (by decide +kernel), List.mem_of_getElem? (i := 422) (by decide +kernel)⟩
theorem lw_p4 : lw_okq (⟨"KayfabeRing", "isAtStake", "(III)Z"⟩, 9) := ⟨⟨by decide +kernel, by decide +kernel⟩, List.mem_of_getElem? (i := 17) (by decide +kernel), List.mem_of_getElem? (i := 446) (by decide +kernel), List.mem_of_getElem? (i := 447) (by decide +kernel)⟩
theorem lw_p5 : lw_okq (⟨"KayfabeRing", "cardToBook", "(I)LKayfabeRing$Card;"⟩, 9) := ⟨⟨by decide +kernel, by decide +kernel⟩, List.mem_of_getElem? (i := 17) (by decide +kernel), List.mem_of_getElem? (i := 455) (by decide +kernel), List.mem_of_getElem? (i := 456) (by decide +kernel)⟩
theorem lw_p6 : lw_okq (⟨"KayfabeRing", "injure", "(II)I"⟩, 9) := ⟨⟨by decide +kernel, by decide +kernel⟩, List.mem_of_getElem? (i := 17) (by decide +kernel), List.mem_of_getElem? (i := 495) (by decide +kernel), List.mem_of_getElem? (i := 496) (by decide +kernel)⟩
theorem lw_p7 : lw_okq (⟨"KayfabeRing", "vacateTitlesOf", "(I)V"⟩, 9) := ⟨⟨by decide +kernel, by decide +kernel⟩, List.mem_of_getElem? (i := 17) (by decide +kernel), List.mem_of_getElem? (i := 502) (by decide +kernel), List.mem_of_getElem? (i := 503) (by decide +kernel)⟩
theorem lw_p8 : lw_okq (⟨"KayfabeRing", "mendersView", "()LKayfabeRing$Mender;"⟩, 9) := ⟨⟨by decide +kernel, by decide +kernel⟩, List.mem_of_getElem? (i := 17) (by decide +kernel), List.mem_of_getElem? (i := 524) (by decide +kernel), List.mem_of_getElem? (i := 525) (by decide +kernel)⟩
theorem lw_p9 : lw_okq (⟨"KayfabeRing$Mender", "lookAtSeat", "(II)V"⟩, 14) := ⟨⟨by decide +kernel, by decide +kernel⟩, List.mem_of_getElem? (i := 95) (by decide +kernel), List.mem_of_getElem? (i := 533) (by decide +kernel), List.mem_of_getElem? (i := 534) (by decide +kernel)⟩
theorem lw_p10 : lw_okq (⟨"KayfabeRing$Mender", "keepIfBetter", "(I)V"⟩, 14) := ⟨⟨by decide +kernel, by decide +kernel⟩, List.mem_of_getElem? (i := 95) (by decide +kernel), List.mem_of_getElem? (i := 555) (by decide +kernel), List.mem_of_getElem? (i := 556) (by decide +kernel)⟩
theorem lw_p11 : lw_okq (⟨"KayfabeRing$Mender", "isBarred", "(I)Z"⟩, 14) := ⟨⟨by decide +kernel, by decide +kernel⟩, List.mem_of_getElem? (i := 95) (by decide +kernel), List.mem_of_getElem? (i := 559) (by decide +kernel), List.mem_of_getElem? (i := 560) (by decide +kernel)⟩
theorem lw_p12 : lw_okq (⟨"KayfabeRing", "hasHurtOnes", "(LKayfabeRing$Card;)Z"⟩, 9) := ⟨⟨by decide +kernel, by decide +kernel⟩, List.mem_of_getElem? (i := 17) (by decide +kernel), List.mem_of_getElem? (i := 579) (by decide +kernel), List.mem_of_getElem? (i := 580) (by decide +kernel)⟩
theorem lw_p13 : lw_okq (⟨"KayfabeRing", "playMatch", "(LKayfabeRing$Match;I)I"⟩, 9) := ⟨⟨by decide +kernel, by decide +kernel⟩, List.mem_of_getElem? (i := 17) (by decide +kernel), List.mem_of_getElem? (i := 584) (by decide +kernel), List.mem_of_getElem? (i := 585) (by decide +kernel)⟩
theorem lw_p14 : lw_okq (⟨"KayfabeRing", "decide", "(III)V"⟩, 9) := ⟨⟨by decide +kernel, by decide +kernel⟩, List.mem_of_getElem? (i := 17) (by decide +kernel), List.mem_of_getElem? (i := 597) (by decide +kernel), List.mem_of_getElem? (i := 598) (by decide +kernel)⟩
theorem lw_p15 : lw_okq (⟨"KayfabeRing", "handOver", "(LKayfabeRing$Match;)V"⟩, 9) := ⟨⟨by decide +kernel, by decide +kernel⟩, List.mem_of_getElem? (i := 17) (by decide +kernel), List.mem_of_getElem? (i := 606) (by decide +kernel), List.mem_of_getElem? (i := 607) (by decide +kernel)⟩
def lw_privs_1 : List (MethodName × Nat) := [(⟨"java/lang/Throwable", "fillInStackTrace", "(I)Ljava/lang/Throwable;"⟩, 6), (⟨"KayfabeRing", "isWrestler", "(I)Z"⟩, 9), (⟨"KayfabeRing", "isTitle", "(I)Z"⟩, 9), (⟨"KayfabeRing", "cardOf", "(I)LKayfabeRing$Card;"⟩, 9), (⟨"KayfabeRing", "isAtStake", "(III)Z"⟩, 9), (⟨"KayfabeRing", "cardToBook", "(I)LKayfabeRing$Card;"⟩, 9), (⟨"KayfabeRing", "injure", "(II)I"⟩, 9), (⟨"KayfabeRing", "vacateTitlesOf", "(I)V"⟩, 9), (⟨"KayfabeRing", "mendersView", "()LKayfabeRing$Mender;"⟩, 9), (⟨"KayfabeRing$Mender", "lookAtSeat", "(II)V"⟩, 14), (⟨"KayfabeRing$Mender", "keepIfBetter", "(I)V"⟩, 14), (⟨"KayfabeRing$Mender", "isBarred", "(I)Z"⟩, 14), (⟨"KayfabeRing", "hasHurtOnes", "(LKayfabeRing$Card;)Z"⟩, 9), (⟨"KayfabeRing", "playMatch", "(LKayfabeRing$Match;I)I"⟩, 9), (⟨"KayfabeRing", "decide", "(III)V"⟩, 9), (⟨"KayfabeRing", "handOver", "(LKayfabeRing$Match;)V"⟩, 9)]
theorem lw_r1 : ∀ q ∈ lw_privs_1, lw_okq q := List.forall_mem_cons.mpr ⟨lw_p0, List.forall_mem_cons.mpr ⟨lw_p1, List.forall_mem_cons.mpr ⟨lw_p2, List.forall_mem_cons.mpr ⟨lw_p3, List.forall_mem_cons.mpr ⟨lw_p4, List.forall_mem_cons.mpr ⟨lw_p5, List.forall_mem_cons.mpr ⟨lw_p6, List.forall_mem_cons.mpr ⟨lw_p7, List.forall_mem_cons.mpr ⟨lw_p8, List.forall_mem_cons.mpr ⟨lw_p9, List.forall_mem_cons.mpr ⟨lw_p10, List.forall_mem_cons.mpr ⟨lw_p11, List.forall_mem_cons.mpr ⟨lw_p12, List.forall_mem_cons.mpr ⟨lw_p13, List.forall_mem_cons.mpr ⟨lw_p14, List.forall_mem_cons.mpr ⟨lw_p15, fun _ h => absurd h List.not_mem_nil⟩⟩⟩⟩⟩⟩⟩⟩⟩⟩⟩⟩⟩⟩⟩⟩
theorem lw_p16 : lw_okq (⟨"KayfabeRing$Mender", "sumOfWay", "()I"⟩, 14) := ⟨⟨by decide +kernel, by decide +kernel⟩, List.mem_of_getElem? (i := 95) (by decide +kernel), List.mem_of_getElem? (i := 733) (by decide +kernel), List.mem_of_getElem? (i := 734) (by decide +kernel)⟩
theorem lw_p17 : lw_okq (⟨"KayfabeRing$Mender", "isAllowed", "(I)Z"⟩, 14) := ⟨⟨by decide +kernel, by decide +kernel⟩, List.mem_of_getElem? (i := 95) (by decide +kernel), List.mem_of_getElem? (i := 737) (by decide +kernel), List.mem_of_getElem? (i := 738) (by decide +kernel)⟩
theorem lw_p18 : lw_okq (⟨"KayfabeRing$Mender", "goToNextWay", "()Z"⟩, 14) := ⟨⟨by decide +kernel, by decide +kernel⟩, List.mem_of_getElem? (i := 95) (by decide +kernel), List.mem_of_getElem? (i := 742) (by decide +kernel), List.mem_of_getElem? (i := 743) (by decide +kernel)⟩
theorem lw_p19 : lw_okq (⟨"KayfabeRingModel", "goes", "(ZZZ)Z"⟩, 29) := ⟨⟨by decide +kernel, by decide +kernel⟩, List.mem_of_getElem? (i := 746) (by decide +kernel), List.mem_of_getElem? (i := 852) (by decide +kernel), List.mem_of_getElem? (i := 853) (by decide +kernel)⟩
theorem lw_p20 : lw_okq (⟨"KayfabeRingModel", "isOne", "(I)Z"⟩, 29) := ⟨⟨by decide +kernel, by decide +kernel⟩, List.mem_of_getElem? (i := 746) (by decide +kernel), List.mem_of_getElem? (i := 864) (by decide +kernel), List.mem_of_getElem? (i := 865) (by decide +kernel)⟩
theorem lw_p21 : lw_okq (⟨"KayfabeRingModel", "isTitle", "(I)Z"⟩, 29) := ⟨⟨by decide +kernel, by decide +kernel⟩, List.mem_of_getElem? (i := 746) (by decide +kernel), List.mem_of_getElem? (i := 879) (by decide +kernel), List.mem_of_getElem? (i := 880) (by decide +kernel)⟩
theorem lw_p22 : lw_okq (⟨"KayfabeRingModel", "fits", "(IIIIII)Z"⟩, 29) := ⟨⟨by decide +kernel, by decide +kernel⟩, List.mem_of_getElem? (i := 746) (by decide +kernel), List.mem_of_getElem? (i := 883) (by decide +kernel), List.mem_of_getElem? (i := 884) (by decide +kernel)⟩
theorem lw_p23 : lw_okq (⟨"KayfabeRingModel", "minutesOf", "(I)I"⟩, 29) := ⟨⟨by decide +kernel, by decide +kernel⟩, List.mem_of_getElem? (i := 746) (by decide +kernel), List.mem_of_getElem? (i := 887) (by decide +kernel), List.mem_of_getElem? (i := 888) (by decide +kernel)⟩
theorem lw_p24 : lw_okq (⟨"KayfabeRingModel", "of", "(III)I"⟩, 29) := ⟨⟨by decide +kernel, by decide +kernel⟩, List.mem_of_getElem? (i := 746) (by decide +kernel), List.mem_of_getElem? (i := 891) (by decide +kernel), List.mem_of_getElem? (i := 892) (by decide +kernel)⟩
theorem lw_p25 : lw_okq (⟨"KayfabeRingModel", "championOf", "(I)I"⟩, 29) := ⟨⟨by decide +kernel, by decide +kernel⟩, List.mem_of_getElem? (i := 746) (by decide +kernel), List.mem_of_getElem? (i := 895) (by decide +kernel), List.mem_of_getElem? (i := 896) (by decide +kernel)⟩
theorem lw_p26 : lw_okq (⟨"KayfabeRingModel", "isOnCard", "(II)Z"⟩, 29) := ⟨⟨by decide +kernel, by decide +kernel⟩, List.mem_of_getElem? (i := 746) (by decide +kernel), List.mem_of_getElem? (i := 899) (by decide +kernel), List.mem_of_getElem? (i := 900) (by decide +kernel)⟩
theorem lw_p27 : lw_okq (⟨"KayfabeRingModel", "isHurt", "(II)Z"⟩, 29) := ⟨⟨by decide +kernel, by decide +kernel⟩, List.mem_of_getElem? (i := 746) (by decide +kernel), List.mem_of_getElem? (i := 903) (by decide +kernel), List.mem_of_getElem? (i := 904) (by decide +kernel)⟩
theorem lw_p28 : lw_okq (⟨"KayfabeRingModel", "isBarred", "(III)Z"⟩, 29) := ⟨⟨by decide +kernel, by decide +kernel⟩, List.mem_of_getElem? (i := 746) (by decide +kernel), List.mem_of_getElem? (i := 907) (by decide +kernel), List.mem_of_getElem? (i := 908) (by decide +kernel)⟩
theorem lw_p29 : lw_okq (⟨"KayfabeRingModel", "isMatch", "(II)Z"⟩, 29) := ⟨⟨by decide +kernel, by decide +kernel⟩, List.mem_of_getElem? (i := 746) (by decide +kernel), List.mem_of_getElem? (i := 915) (by decide +kernel), List.mem_of_getElem? (i := 916) (by decide +kernel)⟩
theorem lw_p30 : lw_okq (⟨"KayfabeRingModel", "strikes", "(II)V"⟩, 29) := ⟨⟨by decide +kernel, by decide +kernel⟩, List.mem_of_getElem? (i := 746) (by decide +kernel), List.mem_of_getElem? (i := 919) (by decide +kernel), List.mem_of_getElem? (i := 920) (by decide +kernel)⟩
theorem lw_p31 : lw_okq (⟨"KayfabeRingModel", "hurts", "(II)I"⟩, 29) := ⟨⟨by decide +kernel, by decide +kernel⟩, List.mem_of_getElem? (i := 746) (by decide +kernel), List.mem_of_getElem? (i := 931) (by decide +kernel), List.mem_of_getElem? (i := 932) (by decide +kernel)⟩
def lw_privs_2 : List (MethodName × Nat) := [(⟨"KayfabeRing$Mender", "sumOfWay", "()I"⟩, 14), (⟨"KayfabeRing$Mender", "isAllowed", "(I)Z"⟩, 14), (⟨"KayfabeRing$Mender", "goToNextWay", "()Z"⟩, 14), (⟨"KayfabeRingModel", "goes", "(ZZZ)Z"⟩, 29), (⟨"KayfabeRingModel", "isOne", "(I)Z"⟩, 29), (⟨"KayfabeRingModel", "isTitle", "(I)Z"⟩, 29), (⟨"KayfabeRingModel", "fits", "(IIIIII)Z"⟩, 29), (⟨"KayfabeRingModel", "minutesOf", "(I)I"⟩, 29), (⟨"KayfabeRingModel", "of", "(III)I"⟩, 29), (⟨"KayfabeRingModel", "championOf", "(I)I"⟩, 29), (⟨"KayfabeRingModel", "isOnCard", "(II)Z"⟩, 29), (⟨"KayfabeRingModel", "isHurt", "(II)Z"⟩, 29), (⟨"KayfabeRingModel", "isBarred", "(III)Z"⟩, 29), (⟨"KayfabeRingModel", "isMatch", "(II)Z"⟩, 29), (⟨"KayfabeRingModel", "strikes", "(II)V"⟩, 29), (⟨"KayfabeRingModel", "hurts", "(II)I"⟩, 29)]
theorem lw_r2 : ∀ q ∈ lw_privs_2, lw_okq q := List.forall_mem_cons.mpr ⟨lw_p16, List.forall_mem_cons.mpr ⟨lw_p17, List.forall_mem_cons.mpr ⟨lw_p18, List.forall_mem_cons.mpr ⟨lw_p19, List.forall_mem_cons.mpr ⟨lw_p20, List.forall_mem_cons.mpr ⟨lw_p21, List.forall_mem_cons.mpr ⟨lw_p22, List.forall_mem_cons.mpr ⟨lw_p23, List.forall_mem_cons.mpr ⟨lw_p24, List.forall_mem_cons.mpr ⟨lw_p25, List.forall_mem_cons.mpr ⟨lw_p26, List.forall_mem_cons.mpr ⟨lw_p27, List.forall_mem_cons.mpr ⟨lw_p28, List.forall_mem_cons.mpr ⟨lw_p29, List.forall_mem_cons.mpr ⟨lw_p30, List.forall_mem_cons.mpr ⟨lw_p31, fun _ h => absurd h List.not_mem_nil⟩⟩⟩⟩⟩⟩⟩⟩⟩⟩⟩⟩⟩⟩⟩⟩
theorem lw_p32 : lw_okq (⟨"KayfabeRingModel", "crowns", "(II)V"⟩, 29) := ⟨⟨by decide +kernel, by decide +kernel⟩, List.mem_of_getElem? (i := 746) (by decide +kernel), List.mem_of_getElem? (i := 935) (by decide +kernel), List.mem_of_getElem? (i := 936) (by decide +kernel)⟩
theorem lw_p33 : lw_okq (⟨"KayfabeRingModel", "isMendable", "()Z"⟩, 29) := ⟨⟨by decide +kernel, by decide +kernel⟩, List.mem_of_getElem? (i := 746) (by decide +kernel), List.mem_of_getElem? (i := 947) (by decide +kernel), List.mem_of_getElem? (i := 948) (by decide +kernel)⟩
theorem lw_p34 : lw_okq (⟨"KayfabeRingModel", "finds", "()I"⟩, 29) := ⟨⟨by decide +kernel, by decide +kernel⟩, List.mem_of_getElem? (i := 746) (by decide +kernel), List.mem_of_getElem? (i := 951) (by decide +kernel), List.mem_of_getElem? (i := 952) (by decide +kernel)⟩
theorem lw_p35 : lw_okq (⟨"KayfabeRingModel", "mends", "()I"⟩, 29) := ⟨⟨by decide +kernel, by decide +kernel⟩, List.mem_of_getElem? (i := 746) (by decide +kernel), List.mem_of_getElem? (i := 955) (by decide +kernel), List.mem_of_getElem? (i := 956) (by decide +kernel)⟩
theorem lw_p36 : lw_okq (⟨"KayfabeRingModel", "sumOf", "()I"⟩, 29) := ⟨⟨by decide +kernel, by decide +kernel⟩, List.mem_of_getElem? (i := 746) (by decide +kernel), List.mem_of_getElem? (i := 959) (by decide +kernel), List.mem_of_getElem? (i := 960) (by decide +kernel)⟩
theorem lw_p37 : lw_okq (⟨"KayfabeRingModel", "wouldBe", "(II)I"⟩, 29) := ⟨⟨by decide +kernel, by decide +kernel⟩, List.mem_of_getElem? (i := 746) (by decide +kernel), List.mem_of_getElem? (i := 963) (by decide +kernel), List.mem_of_getElem? (i := 964) (by decide +kernel)⟩
theorem lw_p38 : lw_okq (⟨"KayfabeRingModel", "worthOf", "(II)I"⟩, 29) := ⟨⟨by decide +kernel, by decide +kernel⟩, List.mem_of_getElem? (i := 746) (by decide +kernel), List.mem_of_getElem? (i := 967) (by decide +kernel), List.mem_of_getElem? (i := 968) (by decide +kernel)⟩
theorem lw_p39 : lw_okq (⟨"KayfabeRingModel", "playsMatch", "(I)I"⟩, 29) := ⟨⟨by decide +kernel, by decide +kernel⟩, List.mem_of_getElem? (i := 746) (by decide +kernel), List.mem_of_getElem? (i := 984) (by decide +kernel), List.mem_of_getElem? (i := 985) (by decide +kernel)⟩
theorem lw_p40 : lw_okq (⟨"KayfabeRingModel", "wins", "(III)V"⟩, 29) := ⟨⟨by decide +kernel, by decide +kernel⟩, List.mem_of_getElem? (i := 746) (by decide +kernel), List.mem_of_getElem? (i := 988) (by decide +kernel), List.mem_of_getElem? (i := 989) (by decide +kernel)⟩
theorem lw_p41 : lw_okq (⟨"KayfabeRingModel", "loves", "(III)V"⟩, 29) := ⟨⟨by decide +kernel, by decide +kernel⟩, List.mem_of_getElem? (i := 746) (by decide +kernel), List.mem_of_getElem? (i := 992) (by decide +kernel), List.mem_of_getElem? (i := 993) (by decide +kernel)⟩
theorem lw_p42 : lw_okq (⟨"KayfabeRingModel", "turns", "(I)V"⟩, 29) := ⟨⟨by decide +kernel, by decide +kernel⟩, List.mem_of_getElem? (i := 746) (by decide +kernel), List.mem_of_getElem? (i := 996) (by decide +kernel), List.mem_of_getElem? (i := 997) (by decide +kernel)⟩
theorem lw_p43 : lw_okq (⟨"KayfabeRingModel", "wonOf", "(I)I"⟩, 29) := ⟨⟨by decide +kernel, by decide +kernel⟩, List.mem_of_getElem? (i := 746) (by decide +kernel), List.mem_of_getElem? (i := 1016) (by decide +kernel), List.mem_of_getElem? (i := 1017) (by decide +kernel)⟩
def lw_privs_3 : List (MethodName × Nat) := [(⟨"KayfabeRingModel", "crowns", "(II)V"⟩, 29), (⟨"KayfabeRingModel", "isMendable", "()Z"⟩, 29), (⟨"KayfabeRingModel", "finds", "()I"⟩, 29), (⟨"KayfabeRingModel", "mends", "()I"⟩, 29), (⟨"KayfabeRingModel", "sumOf", "()I"⟩, 29), (⟨"KayfabeRingModel", "wouldBe", "(II)I"⟩, 29), (⟨"KayfabeRingModel", "worthOf", "(II)I"⟩, 29), (⟨"KayfabeRingModel", "playsMatch", "(I)I"⟩, 29), (⟨"KayfabeRingModel", "wins", "(III)V"⟩, 29), (⟨"KayfabeRingModel", "loves", "(III)V"⟩, 29), (⟨"KayfabeRingModel", "turns", "(I)V"⟩, 29), (⟨"KayfabeRingModel", "wonOf", "(I)I"⟩, 29)]
theorem lw_r3 : ∀ q ∈ lw_privs_3, lw_okq q := List.forall_mem_cons.mpr ⟨lw_p32, List.forall_mem_cons.mpr ⟨lw_p33, List.forall_mem_cons.mpr ⟨lw_p34, List.forall_mem_cons.mpr ⟨lw_p35, List.forall_mem_cons.mpr ⟨lw_p36, List.forall_mem_cons.mpr ⟨lw_p37, List.forall_mem_cons.mpr ⟨lw_p38, List.forall_mem_cons.mpr ⟨lw_p39, List.forall_mem_cons.mpr ⟨lw_p40, List.forall_mem_cons.mpr ⟨lw_p41, List.forall_mem_cons.mpr ⟨lw_p42, List.forall_mem_cons.mpr ⟨lw_p43, fun _ h => absurd h List.not_mem_nil⟩⟩⟩⟩⟩⟩⟩⟩⟩⟩⟩⟩
def lw_privs : List (MethodName × Nat) := lw_privs_1 ++ (lw_privs_2 ++ (lw_privs_3))
def lw_tbl : List Cond := k2_sels lw_privs ++ tables_1
theorem lw_privs_ok : ∀ q ∈ lw_privs, lw_okq q := by
  show ∀ q ∈ lw_privs_1 ++ (lw_privs_2 ++ (lw_privs_3)), lw_okq q
  exact List.forall_mem_append.mpr ⟨lw_r1, List.forall_mem_append.mpr ⟨lw_r2, lw_r3⟩⟩
-- ===== end of PART A; then your names; then what follows =====
end
section
/-! ===== BEGIN words of one list among another's, by their places ===== -/
theorem goodIn_r {big : List Cond} (ws : List Cond) (ps : List Nat) (hp : ws = ps.filterMap (fun i => big[i]?)) (h : ws.all goodWord = true) : GoodIn big ws := by
  intro w hw
  have h1 := List.all_eq_true.mp h w hw
  rw [hp] at hw
  obtain ⟨i, -, hi⟩ := List.mem_filterMap.mp hw
  have hm : w ∈ big := by first | exact List.mem_of_getElem? hi | exact List.getElem?_mem hi
  exact ⟨hm, good_of_word h1⟩
theorem goodIn_app {big a b : List Cond} (ha : GoodIn big a) (hb : GoodIn big b) : GoodIn big (a ++ b) := fun w h => (List.mem_append.mp h).elim (ha w) (hb w)
theorem goodIn_ca {big a b : List Cond} {c : Cond} (ha : GoodIn big (c :: a)) (hb : GoodIn big b) : GoodIn big (c :: (a ++ b)) := fun w h => (List.mem_cons.mp h).elim (fun e => ha w (List.mem_cons.mpr (Or.inl e))) (fun h => (List.mem_append.mp h).elim (fun h => ha w (List.mem_cons.mpr (Or.inr h))) (hb w))
theorem goodIn_sub {big ws : List Cond} (hm : ∀ w ∈ ws, w ∈ big) (h : ws.all goodWord = true) : GoodIn big ws := fun w hw => ⟨hm w hw, good_of_word (List.all_eq_true.mp h w hw)⟩
/-! ===== END ===== -/

/-! ===== BEGIN exceptions that leave a method, and their catching by the caller (launches without stack traces) ===== -/
section VXA
/-! The laws vx_back, vx_callV, vx_callS, vx_callSW, vx_throw0, vx_throwS follow proofs of the library, with one case more: JvmDerived/Free/Laws.lean (Back.of_free), Shelf42/LK1.lean (callV, callS), Shelf/KitTraced.lean (throwNew0V, throwNewS). -/
/-- where a method has thrown q: the class by its name, the cell, what was written, the world -/
def vx_T (XC : String → State → State → Prop) (st : State) (q : Addr) (t : State) (mc ms : Nat) (free : Addr → Prop) : Prop :=
  ∃ (E : String) (ce : Cell) (L : List Loc), XC E st t ∧ t.heap[q]? = some ce ∧ ce.vm = .none ∧ st.vm.findClass E = some ce.cls ∧ st.WarmedH t.vm ∧ st.sameButNew ({ t with vm := st.vm } : State) L mc ms ∧ ∀ z ∈ L, free z.base
def vx_Q (Qc : Array Value → State → Outcome → State → Prop) (XC : String → State → State → Prop) (mc ms : Nat) (free : Addr → Prop) : Array Value → State → Outcome → State → Prop := fun a st o t =>
  (Qc a st o t ∧ ∃ L, FrameEnd st o t L mc ms ∧ ∀ q ∈ L, free q.base) ∨ ∃ q, o = .threw q ∧ vx_T XC st q t mc ms free
/-- a callee that returns or throws -/
def vx_Met (l : Launch) (y : MethodName) (ws : List Cond) (rm : Room) (Pc : Array Value → State → Prop) (Qc : Array Value → State → Outcome → State → Prop) (XC : String → State → State → Prop) (mc ms : Nat) (free : Addr → Prop) : Prop :=
  MetFree l y (headSpec ws rm) Pc (fun _ _ _ _ _ => True) (vx_Q Qc XC mc ms free)
def vx_Post (XC : String → State → State → Prop) (mc ms : Nat) (free : Addr → Prop) : Pt → Array Value → Addr → Pt → Prop := fun A a q B =>
  ∃ (g : JFrame) (mk : MethodId) (t : State) (L : List Loc) (E : String) (ce : Cell), B.U.heap = t.heap ∧ B.U.vm = t.vm ∧ XC E (A.U.calling g mk a) t ∧ t.heap[q]? = some ce ∧ ce.vm = .none ∧ A.U.vm.findClass E = some ce.cls ∧ B.locs = A.locs ++ L ∧ (∀ z ∈ L, free z.base) ∧ B.cells = A.cells + mc ∧ B.slots = A.slots + ms
def vx_Back (l : Launch) (R : Room) (p : Program) (e : Env) (below : List Frame) (s : State) (sargs : Array Value) (y : MethodName) (len W9 : Nat)
    (Pre : Pt → Array Value → Prop) (Post : Pt → Array Value → Option Value → Pt → Prop) (PostX : Pt → Array Value → Addr → Pt → Prop) : Prop :=
  ∀ (m : MethodId) (meth : Method) (c : Code) (A : Pt) (g : JFrame) (ig : Instr) (mk : MethodId) (a : Array Value),
    Stand p l e R s m sargs below meth c A.U A.locs A.cells A.slots → g.method = m → g.locals.size = c.maxLocals → decode c.code g.pc = .ok (ig, len) →
    2 * g.monitorRoom + (g.stack.map fun v => v.category).sum ≤ W9 → A.U.methodNamed? y = some mk → Pre A a →
    (∃ (v : Option Value) (B : Pt), Stand p l e R s m sargs below meth c B.U B.locs B.cells B.slots ∧ Post A a v B ∧
      Steps p.tables e below (doInvoke e (A.U.setTop g) [] mk a).1 (B.U.setTop { g with pc := g.pc + len, stack := v.toList ++ g.stack })) ∨
    (∃ (q : Addr) (B : Pt), Stand p l e R s m sargs below meth c B.U B.locs B.cells B.slots ∧ PostX A a q B ∧
      Steps p.tables e below (doInvoke e (A.U.setTop g) [] mk a).1 ((B.U.setTop g).pushFrame (.throwing q)))
section Payer
variable {l : Launch} {R : Room} {p : Program} {e : Env} {below : List Frame} {s : State} {sargs : Array Value} {y : MethodName} {len W9 : Nat}
theorem vx_back {ws : List Cond} {rm : Room} {Pc : Array Value → State → Prop} {Qc : Array Value → State → Outcome → State → Prop} {XC : String → State → State → Prop} {mc ms : Nat} {free : Addr → Prop} {bytes : ByteArray} {maxL : Nat} {ret : Option FieldType}
    (hM : vx_Met l y ws rm Pc Qc XC mc ms free) (hblind : FrameBlind Pc) (hrc : rm.cells = mc) (hrs : rm.slots = ms)
    (hframes : rm.frames + 1 ≤ R.frames) (hlocals : W9 + (maxL + 11) + rm.locals ≤ R.locals)
    (hws : ∀ w ∈ ws, ∀ a' U, s.WarmedH U.vm → w.before a' U = true) (hcode : Cond.code y bytes maxL ret ∈ ws) (hinit : ∀ a' U, s.WarmedH U.vm → (Cond.initialized y.cls).before a' U = true) :
    vx_Back l R p e below s sargs y len W9 (PreOf R mc ms Pc) (PostOf Qc mc ms free) (vx_Post XC mc ms free) := by
  intro m meth c A g ig mk a X hg hsize hdg hW hn hp
  have h1 : (headSpec ws rm).pre.before a A.U = true := atoms_intro fun w hw => hws w hw _ _ X.warmed
  have h2 : (Cond.code y bytes maxL ret).before a A.U = true := hws _ hcode _ _ X.warmed
  have h3 : (Cond.initialized y.cls).before a A.U = true := hinit _ _ X.warmed
  have h4 : A.cells + (headSpec ws rm).room.cells ≤ R.cells := by rw [show (headSpec ws rm).room.cells = mc from hrc]; exact hp.1
  have h5 : A.slots + (headSpec ws rm).room.slots ≤ R.slots := by rw [show (headSpec ws rm).room.slots = ms from hrs]; exact hp.2.1
  have hPc : Pc a (A.U.calling g mk a) := hblind _ _ _ _ hp.2.2
  obtain ⟨U, Ls, c0, s0⟩ := A
  dsimp only [Pt.U, Pt.locs, Pt.cells, Pt.slots] at h1 h2 h3 h4 h5 X hn hPc ⊢
  obtain ⟨methY, cY, hmY, hcY, -, hlY, -, -, -, -⟩ := Cond.code_spec hn h2
  obtain ⟨kY, hkY, -⟩ := className_of_methodNamed hn
  have hinitY : kY.init = .initialized := Cond.initialized_spec (findClass_of_methodNamed hn) hkY h3
  have h : At U g.method c below := by rw [hg]; exact X.here
  have hlocals9 : W9 + (maxL + 11) + (headSpec ws rm).room.locals ≤ R.locals := hlocals
  have happ : (headSpec ws rm).appliesLoose y e.platform (U.calling g mk a) = true :=
    Spec.appliesLoose_calling (g := g) h hdg hn hkY hinitY
      (X.room_calling (g := g) (R' := (headSpec ws rm).room) hsize hmY hcY hframes (by rw [hlY]; omega) h4 h5) h1
  obtain ⟨mid, hmid⟩ := h.above
  have hfr : (U.setTop g).frames = (.java g :: mid) ++ below := by rw [State.frames_setTop' g h.top, hmid]; rfl
  obtain ⟨o, s₂, hsteps, -, hend, hq⟩ := Steps.callFree hM p X.admits X.cas X.clock (acts := []) hfr happ hPc trivial
  have hq' : vx_Q Qc XC mc ms free a (U.calling g mk a) o s₂ := hq
  rw [State.frames_setTop' g h.top] at hend
  obtain ⟨g₀, hg0⟩ := Option.isSome_iff_exists.mp h.top
  obtain ⟨r, hr⟩ := State.topJava?_eq_some.mp hg0
  have hr' : (({ U with heap := s₂.heap, slotsUsed := s₂.slotsUsed } : State).setVm s₂.vm).frames = .java g₀ :: r := hr
  rcases hq' with ⟨hqc, L, hfe, hL⟩ | ⟨q, rfl, E, ce, L, hx, hce, hcv, hcl, hW₂, hsm, hL⟩
  · obtain ⟨⟨v, rfl⟩, hW₂, e2, q2, q3, q4, q5, q6⟩ := id hfe
    have e3 : s₂ = ({ (U.calling g mk a).setFrames s₂.frames with heap := s₂.heap, slotsUsed := s₂.slotsUsed } : State).setVm s₂.vm := by
      have : s₂ = ({ s₂ with vm := (U.calling g mk a).vm } : State).setVm s₂.vm := rfl
      rw [e2] at this
      exact this
    obtain ⟨c₂, i₂, len₂, hc₂, hd₂, hf₂⟩ := hend
    have hW' : U.WarmedH s₂.vm := hW₂
    have hcc : c₂ = c := by
      have h1 : s₂.code? g.method = U.code? g.method := by
        rw [State.code?_eq, State.code?_eq, hW'.alike.method?]
      exact Option.some.inj (hc₂.symm.trans (h1.trans h.code))
    subst hcc
    have hlen : len₂ = len := by rw [hdg] at hd₂; cases hd₂; rfl
    subst hlen
    have hs₂ : s₂ = (({ U with heap := s₂.heap, slotsUsed := s₂.slotsUsed } : State).setVm s₂.vm).setTop { g with pc := g.pc + len₂, stack := v.toList ++ g.stack } := by
      refine e3.trans ?_
      rw [hf₂, State.calling_eq h.top, State.setFrames_setFrames, State.setTop_of_frames _ hr', hr]
      rfl
    have hsame : U.sameButNew ({ U with heap := s₂.heap, slotsUsed := s₂.slotsUsed } : State) L mc ms := by
      refine ⟨?_, q2, q3, q4, q5, q6⟩
      obtain ⟨t, ht, -⟩ := State.frames_cons hr
      show ({ U with heap := s₂.heap, slotsUsed := s₂.slotsUsed } : State) = { U.setFrames U.frames with heap := s₂.heap, slotsUsed := s₂.slotsUsed }
      rw [State.setFrames_self ht]
    subst hg
    refine Or.inl ⟨v, ⟨(({ U with heap := s₂.heap, slotsUsed := s₂.slotsUsed } : State).setVm s₂.vm), Ls ++ L, c0 + mc, s0 + ms⟩,
      ⟨X.admits, X.cas, X.clock, X.frames, X.room, X.hears, X.method, X.code, (X.here.setHeapUsed s₂.heap s₂.slotsUsed).setVm hW'.alike, X.tail, State.WarmedH.trans X.warmed hW', X.limits, X.bytes, X.same.trans (hsame.setVm s.vm)⟩,
      ⟨g, mk, s₂, L, rfl, rfl, hqc, rfl, hL, rfl, rfl⟩, ?_⟩
    show Steps p.tables e below _ ((({ U with heap := s₂.heap, slotsUsed := s₂.slotsUsed } : State).setVm s₂.vm).setTop { g with pc := g.pc + len₂, stack := v.toList ++ g.stack })
    rw [← hs₂]
    exact hsteps
  · obtain ⟨e2, q2, q3, q4, q5, q6⟩ := id hsm
    have e3 : s₂ = ({ (U.calling g mk a).setFrames s₂.frames with heap := s₂.heap, slotsUsed := s₂.slotsUsed } : State).setVm s₂.vm := by
      have : s₂ = ({ s₂ with vm := (U.calling g mk a).vm } : State).setVm s₂.vm := rfl
      rw [e2] at this
      exact this
    have hf₂ : s₂.frames = .throwing q :: .java g :: U.frames.tail := hend
    have hW' : U.WarmedH s₂.vm := hW₂
    have hs₂ : s₂ = ((({ U with heap := s₂.heap, slotsUsed := s₂.slotsUsed } : State).setVm s₂.vm).setTop g).pushFrame (.throwing q) := by
      refine e3.trans ?_
      rw [hf₂, State.calling_eq h.top, State.setFrames_setFrames, State.pushFrame, State.frames_setTop _ hr', State.setTop_of_frames _ hr', State.setFrames_setFrames, hr]
      rfl
    have hsame : U.sameButNew ({ U with heap := s₂.heap, slotsUsed := s₂.slotsUsed } : State) L mc ms := by
      refine ⟨?_, q2, q3, q4, q5, q6⟩
      obtain ⟨t, ht, -⟩ := State.frames_cons hr
      show ({ U with heap := s₂.heap, slotsUsed := s₂.slotsUsed } : State) = { U.setFrames U.frames with heap := s₂.heap, slotsUsed := s₂.slotsUsed }
      rw [State.setFrames_self ht]
    subst hg
    refine Or.inr ⟨q, ⟨(({ U with heap := s₂.heap, slotsUsed := s₂.slotsUsed } : State).setVm s₂.vm), Ls ++ L, c0 + mc, s0 + ms⟩,
      ⟨X.admits, X.cas, X.clock, X.frames, X.room, X.hears, X.method, X.code, (X.here.setHeapUsed s₂.heap s₂.slotsUsed).setVm hW'.alike, X.tail, State.WarmedH.trans X.warmed hW', X.limits, X.bytes, X.same.trans (hsame.setVm s.vm)⟩,
      ⟨g, mk, s₂, L, E, ce, rfl, rfl, hx, hce, hcv, hcl, rfl, hL, rfl, rfl⟩, ?_⟩
    show Steps p.tables e below _ (((({ U with heap := s₂.heap, slotsUsed := s₂.slotsUsed } : State).setVm s₂.vm).setTop g).pushFrame (.throwing q))
    rw [← hs₂]
    exact hsteps
end Payer
section Calls
variable {p : Program} {l : Launch} {e : Env} {R : Room} {s : State} {m : MethodId} {args : Array Value} {below : List Frame} {meth : Method} {c : Code} {T : State} {locs : List Loc} {cells slots : Nat}
theorem vx_callV (X : Stand p l e R s m args below meth c T locs cells slots) (hexec : p.tables.exec = Jvm.exec) {own C : String} {index : Nat} {y : MethodName} {bytes : ByteArray} {maxL : Nat} {ret : Option FieldType}
    (hown : s.vm.findClass own = some m.cls) (hlink : (Cond.methodLink own index y).before args s = true) (hinst : (Cond.instanceMethod y).before args s = true) (hsel : (Cond.selects C y y).before args s = true)
    (hcode : (Cond.code y bytes maxL ret).before args s = true) (hy : y.cls ≠ "java/lang/invoke/MethodHandle" ∧ y.cls ≠ "java/lang/invoke/VarHandle")
    {W9 : Nat} {Pre : Pt → Array Value → Prop} {Post : Pt → Array Value → Option Value → Pt → Prop} {PostX : Pt → Array Value → Addr → Pt → Prop} (hK : vx_Back l R p e below s args y 3 W9 Pre Post PostX)
    {b : Addr} {cellB : Cell} (hcell : T.heap[b]? = some cellB) (hobj : cellB.vm.isStatics = false) (hcls : s.vm.findClass C = some cellB.cls)
    {g : JFrame} (hg : g.method = m) (hsize : g.locals.size = c.maxLocals) {argsL rest : List Value} (hlen : ∀ sig, parseMethodDescriptor y.desc = some sig → argsL.length = sig.parameters.length)
    (hstack : g.stack = argsL.reverse ++ .ref b :: rest) (hW : 2 * g.monitorRoom + (rest.map fun v => v.category).sum ≤ W9) (hdg : decode c.code g.pc = .ok (.invokevirtual index, 3))
    (hpre : ∀ vm₁, s.WarmedH vm₁ → Pre ⟨T.setVm vm₁, locs, cells, slots⟩ (Value.ref b :: argsL).toArray) :
    (∃ (v : Option Value) (vm₁ : Vm) (B : Pt), s.WarmedH vm₁ ∧ Stand p l e R s m args below meth c B.U B.locs B.cells B.slots ∧ Post ⟨T.setVm vm₁, locs, cells, slots⟩ (Value.ref b :: argsL).toArray v B ∧
      ∀ target, Steps p.tables e below (B.U.setTop { g with pc := g.pc + 3, stack := v.toList ++ rest }) target → Steps p.tables e below (T.setTop g) target) ∨
    (∃ (q : Addr) (vm₁ : Vm) (B : Pt), s.WarmedH vm₁ ∧ Stand p l e R s m args below meth c B.U B.locs B.cells B.slots ∧ PostX ⟨T.setVm vm₁, locs, cells, slots⟩ (Value.ref b :: argsL).toArray q B ∧
      Steps p.tables e below (T.setTop g) ((B.U.setTop { g with stack := rest }).pushFrame (.throwing q))) := by
  obtain ⟨mk, methM, hnamed, hmethM, hstM, habM⟩ := Cond.instanceMethod_spec hinst
  obtain ⟨methM', cM, hmethM', -, -, -, -, -, -, hsigM⟩ := Cond.code_spec hnamed hcode
  cases hmethM.symm.trans hmethM'
  obtain ⟨c2, r2, m2, q1, q2, q3, q4, kP, hkP, hkPi⟩ := Cond.selects_spec hsel
  cases hcls.symm.trans q1
  cases (State.methodFound?_of_named hnamed hy).symm.trans q2
  cases hnamed.symm.trans q3
  have hselP : selectMethod e.platform s.vm cellB.cls mk = .method mk := by rw [Launch.admits_selectMethod X.admits]; exact q4
  obtain ⟨vm₁, X₁, hstep₁⟩ := X.invokevirtual hexec hown hlink hnamed hmethM hstM hkP hkPi hy (a := b) (cell := cellB) hcell
    (fun z h => by rw [h] at hobj; cases hobj) hselP hmethM habM hkP hkPi (g := g) hg (argsL := argsL) (rest := rest) (hlen _ hsigM) hstack hdg
  rcases hK m meth c ⟨T.setVm vm₁, locs, cells, slots⟩ { g with stack := rest } (.invokevirtual index) mk (Value.ref b :: argsL).toArray X₁ hg hsize hdg hW (X₁.named hnamed) (hpre vm₁ X₁.warmed) with ⟨v, B, X', hpost, hsteps⟩ | ⟨q, B, X', hpost, hsteps⟩
  · exact Or.inl ⟨v, vm₁, B, X₁.warmed, X', hpost, fun target h => hstep₁ _ fun acts => by rw [doInvoke_state]; exact hsteps.trans h⟩
  · exact Or.inr ⟨q, vm₁, B, X₁.warmed, X', hpost, hstep₁ _ fun acts => by rw [doInvoke_state]; exact hsteps⟩
theorem vx_callS (X : Stand p l e R s m args below meth c T locs cells slots) (hexec : p.tables.exec = Jvm.exec) {own : String} {index : Nat} {y : MethodName} {bytes : ByteArray} {maxL : Nat} {ret : Option FieldType}
    (hown : s.vm.findClass own = some m.cls) (hlink : (Cond.methodLink own index y).before args s = true) (hstat : (Cond.static y).before args s = true) (hinit : (Cond.initialized y.cls).before args s = true)
    (hcode : (Cond.code y bytes maxL ret).before args s = true) (hy : y.cls ≠ "java/lang/invoke/MethodHandle" ∧ y.cls ≠ "java/lang/invoke/VarHandle")
    {W9 : Nat} {Pre : Pt → Array Value → Prop} {Post : Pt → Array Value → Option Value → Pt → Prop} {PostX : Pt → Array Value → Addr → Pt → Prop} (hK : vx_Back l R p e below s args y 3 W9 Pre Post PostX)
    {g : JFrame} (hg : g.method = m) (hsize : g.locals.size = c.maxLocals) {argsL rest : List Value} (hlen : ∀ sig, parseMethodDescriptor y.desc = some sig → argsL.length = sig.parameters.length)
    (hstack : g.stack = argsL.reverse ++ rest) (hW : 2 * g.monitorRoom + (rest.map fun v => v.category).sum ≤ W9) (hdg : decode c.code g.pc = .ok (.invokestatic index, 3))
    (hpre : ∀ vm₁, s.WarmedH vm₁ → Pre ⟨T.setVm vm₁, locs, cells, slots⟩ argsL.toArray) :
    (∃ (v : Option Value) (vm₁ : Vm) (B : Pt), s.WarmedH vm₁ ∧ Stand p l e R s m args below meth c B.U B.locs B.cells B.slots ∧ Post ⟨T.setVm vm₁, locs, cells, slots⟩ argsL.toArray v B ∧
      ∀ target, Steps p.tables e below (B.U.setTop { g with pc := g.pc + 3, stack := v.toList ++ rest }) target → Steps p.tables e below (T.setTop g) target) ∨
    (∃ (q : Addr) (vm₁ : Vm) (B : Pt), s.WarmedH vm₁ ∧ Stand p l e R s m args below meth c B.U B.locs B.cells B.slots ∧ PostX ⟨T.setVm vm₁, locs, cells, slots⟩ argsL.toArray q B ∧
      Steps p.tables e below (T.setTop g) ((B.U.setTop { g with stack := rest }).pushFrame (.throwing q))) := by
  obtain ⟨mk, hnamed⟩ := Cond.code_named hcode
  obtain ⟨methM, cM, hmethM, -, -, -, -, -, -, hsigM⟩ := Cond.code_spec hnamed hcode
  have hstatic : methM.isStatic = true := Cond.static_spec hnamed hmethM hstat
  obtain ⟨kP, hkP, -⟩ := className_of_methodNamed hnamed
  have hinitP : kP.init = .initialized := Cond.initialized_spec (findClass_of_methodNamed hnamed) hkP hinit
  obtain ⟨vm₁, X₁, hstep₁⟩ := X.invokestatic hexec hown hlink hnamed hmethM hstatic hkP hinitP hy (g := g) hg (argsL := argsL) (rest := rest) (hlen _ hsigM) hstack hdg
  rcases hK m meth c ⟨T.setVm vm₁, locs, cells, slots⟩ { g with stack := rest } (.invokestatic index) mk argsL.toArray X₁ hg hsize hdg hW (X₁.named hnamed) (hpre vm₁ X₁.warmed) with ⟨v, B, X', hpost, hsteps⟩ | ⟨q, B, X', hpost, hsteps⟩
  · exact Or.inl ⟨v, vm₁, B, X₁.warmed, X', hpost, fun target h => hstep₁ _ fun acts => by rw [doInvoke_state]; exact hsteps.trans h⟩
  · exact Or.inr ⟨q, vm₁, B, X₁.warmed, X', hpost, hstep₁ _ fun acts => by rw [doInvoke_state]; exact hsteps⟩
end Calls
theorem vx_cls {s : State} {T : State} {vm₁ : Vm} {E : String} {k : ClassId} (hW : s.WarmedH vm₁) (h : (T.setVm vm₁).vm.findClass E = some k) : s.vm.findClass E = some k := by
  have h1 : vm₁.findClass E = some k := h
  rw [hW.alike.findClass] at h1
  exact h1
/-- the method's frame g, with q thrown over it -/
def vx_W (p : Program) (l : Launch) (e : Env) (R : Room) (s : State) (m : MethodId) (args : Array Value) (below : List Frame) (meth : Method) (c : Code) (H : Heap) (locs : List Loc) (cells slots : Nat) (Q : State → Prop) (g : JFrame) (q : Addr) : Prop :=
  ∀ T : State, T.heap = H → Stand p l e R s m args below meth c T locs cells slots → ∃ t, Steps p.tables e below ((T.setTop g).pushFrame (.throwing q)) t ∧ Q t
def vx_Run (p : Program) (l : Launch) (e : Env) (R : Room) (s : State) (m : MethodId) (args : Array Value) (below : List Frame) (meth : Method) (c : Code) (H : Heap) (locs : List Loc) (cells slots mc ms : Nat) (g : JFrame) (rest : List Value) (Qa : State → Outcome → State → Prop) (XC : String → State → State → Prop) (free : Addr → Prop) : Prop :=
  ∀ T : State, T.heap = H → Stand p l e R s m args below meth c T locs cells slots →
    (∃ (v : Option Value) (st₀ t T' : State) (L : List Loc), st₀.heap = H ∧ Stand p l e R s m args below meth c T' (locs ++ L) (cells + mc) (slots + ms) ∧ (∀ q ∈ L, free q.base) ∧ T'.heap = t.heap ∧ T'.vm = t.vm ∧ Qa st₀ (.returned v) t ∧
      Goes p e below T g T' { g with pc := g.pc + 3, stack := v.toList ++ rest }) ∨
    (∃ (q : Addr) (st₀ t T' : State) (L : List Loc) (E : String) (ce : Cell), st₀.heap = H ∧ Stand p l e R s m args below meth c T' (locs ++ L) (cells + mc) (slots + ms) ∧ (∀ z ∈ L, free z.base) ∧ T'.heap = t.heap ∧ T'.vm = t.vm ∧ XC E st₀ t ∧ t.heap[q]? = some ce ∧ ce.vm = .none ∧ s.vm.findClass E = some ce.cls ∧
      Steps p.tables e below (T.setTop g) ((T'.setTop { g with stack := rest }).pushFrame (.throwing q)))
def vx_X {S : Type} (px : S → Prop) (B : String → S → State → Prop) (A : Nat → Prop) : String → State → State → Prop := fun E st t => ∃ u : S, px u ∧ B E u t ∧ va_F A st t
section Runs
variable {p : Program} {l : Launch} {e : Env} {R : Room} {s : State} {m : MethodId} {args : Array Value} {below : List Frame} {meth : Method} {c : Code} {H : Heap} {locs : List Loc} {cells slots : Nat}
variable {y : MethodName} {bytes cc : ByteArray} {maxL nL mc ms n index : Nat} {ret : Option FieldType} {ws : List Cond} {rm : Room} {Pc : Array Value → State → Prop} {Qc : Array Value → State → Outcome → State → Prop} {XC : String → State → State → Prop} {free : Addr → Prop} {Ts : List Cond} {own C : String} {b : Addr} {As rest : List Value} {g : JFrame}
theorem vx_callBack (cb : CallB R s args own index y bytes maxL ret ws rm mc ms n) (hM : vx_Met l y ws rm Pc Qc XC mc ms free) (hbl : FrameBlind Pc) : vx_Back l R p e below s args y 3 8 (PreOf R mc ms Pc) (PostOf Qc mc ms free) (vx_Post XC mc ms free) := by
  obtain ⟨hrc, hrs, hfr, hlo, hws, hcw, -, hini, -⟩ := cb
  exact vx_back (bytes := bytes) (maxL := maxL) (ret := ret) hM hbl hrc hrs hfr hlo hws hcw (fun a' U hW => word_at hW (Or.inl (by first | rfl | simp [Cond.onTables, Cond.keeps, Cond.steady])) hini)
theorem vx_runV (S : CallFix p m c cc nL s args Ts own) (hM : vx_Met l y ws rm Pc Qc XC mc ms free) (cw : CallW R s args own C index y bytes maxL ret ws rm mc ms n) (hp : PreV s H C b Pc As)
    (hg : g.method = m) (hn : As.length = n) (hsize : g.locals.size = nL) (hstack : g.stack = As.reverse ++ .ref b :: rest) (hW : 2 * g.monitorRoom + (rest.map fun v => v.category).sum ≤ 8) (hdg : decode cc g.pc = .ok (.invokevirtual index, 3)) (hf : cells + mc ≤ R.cells ∧ slots + ms ≤ R.slots) :
    vx_Run p l e R s m args below meth c H locs cells slots mc ms g rest (Qc (Value.ref b :: As).toArray) XC free := by
  have hK : vx_Back l R p e below s args y 3 8 (PreOf R mc ms Pc) (PostOf Qc mc ms free) (vx_Post XC mc ms free) := vx_callBack cw.1 hM hp.1
  obtain ⟨⟨-, -, -, -, -, -, hcode, -, hy, hlen, hl⟩, hin, hse⟩ := cw
  obtain ⟨hx, hb, hml, ho, -⟩ := S
  obtain ⟨-, ⟨cellB, hcB, hoB, hclB⟩, hPc⟩ := hp
  intro T hT X
  rcases vx_callV X hx (C := C) (bytes := bytes) (maxL := maxL) (ret := ret) ho hl hin hse hcode hy hK (by rw [hT]; exact hcB) hoB hclB hg (hsize.trans hml.symm) (argsL := As) (rest := rest) (fun sig h => hn.trans (hlen sig h)) hstack hW (by rw [hb]; exact hdg)
    (fun vm₁ hW₁ => ⟨hf.1, hf.2, hPc (T.setVm vm₁) hT hW₁⟩) with ⟨v, vm₁, ⟨U', l2, c2, s2⟩, hW₁, X', ⟨g', mk, t, L, e1, e2, hq, h1, hL, h2, h3⟩, st⟩ | ⟨q, vm₁, ⟨U', l2, c2, s2⟩, hW₁, X', ⟨g', mk, t, L, E, ce, e1, e2, hq, hce, hcv, hcl, h1, hL, h2, h3⟩, st⟩
  · dsimp only [Pt.U, Pt.locs, Pt.cells, Pt.slots] at X' e1 e2 h1 h2 h3 st
    subst h1; subst h2; subst h3
    exact Or.inl ⟨v, (T.setVm vm₁).calling g' mk (Value.ref b :: As).toArray, t, U', L, hT, X', hL, e1, e2, hq, st⟩
  · dsimp only [Pt.U, Pt.locs, Pt.cells, Pt.slots] at X' e1 e2 h1 h2 h3 st hcl
    subst h1; subst h2; subst h3
    exact Or.inr ⟨q, (T.setVm vm₁).calling g' mk (Value.ref b :: As).toArray, t, U', L, E, ce, hT, X', hL, e1, e2, hq, hce, hcv, vx_cls hW₁ hcl, st⟩
theorem vx_runS (S : CallFix p m c cc nL s args Ts own) (hM : vx_Met l y ws rm Pc Qc XC mc ms free) (cw : CallB R s args own index y bytes maxL ret ws rm mc ms n ∧ (Cond.static y).before args s = true) (hp : PreS s H Pc As)
    (hg : g.method = m) (hn : As.length = n) (hsize : g.locals.size = nL) (hstack : g.stack = As.reverse ++ rest) (hW : 2 * g.monitorRoom + (rest.map fun v => v.category).sum ≤ 8) (hdg : decode cc g.pc = .ok (.invokestatic index, 3)) (hf : cells + mc ≤ R.cells ∧ slots + ms ≤ R.slots) :
    vx_Run p l e R s m args below meth c H locs cells slots mc ms g rest (Qc As.toArray) XC free := by
  have hK : vx_Back l R p e below s args y 3 8 (PreOf R mc ms Pc) (PostOf Qc mc ms free) (vx_Post XC mc ms free) := vx_callBack cw.1 hM hp.1
  obtain ⟨⟨-, -, -, -, -, -, hcode, hini, hy, hlen, hl⟩, hstt⟩ := cw
  obtain ⟨hx, hb, hml, ho, -⟩ := S
  intro T hT X
  rcases vx_callS X hx (bytes := bytes) (maxL := maxL) (ret := ret) ho hl hstt hini hcode hy hK hg (hsize.trans hml.symm) (argsL := As) (rest := rest) (fun sig h => hn.trans (hlen sig h)) hstack hW (by rw [hb]; exact hdg)
    (fun vm₁ hW₁ => ⟨hf.1, hf.2, hp.2 (T.setVm vm₁) hT hW₁⟩) with ⟨v, vm₁, ⟨U', l2, c2, s2⟩, hW₁, X', ⟨g', mk, t, L, e1, e2, hq, h1, hL, h2, h3⟩, st⟩ | ⟨q, vm₁, ⟨U', l2, c2, s2⟩, hW₁, X', ⟨g', mk, t, L, E, ce, e1, e2, hq, hce, hcv, hcl, h1, hL, h2, h3⟩, st⟩
  · dsimp only [Pt.U, Pt.locs, Pt.cells, Pt.slots] at X' e1 e2 h1 h2 h3 st
    subst h1; subst h2; subst h3
    exact Or.inl ⟨v, (T.setVm vm₁).calling g' mk As.toArray, t, U', L, hT, X', hL, e1, e2, hq, st⟩
  · dsimp only [Pt.U, Pt.locs, Pt.cells, Pt.slots] at X' e1 e2 h1 h2 h3 st hcl
    subst h1; subst h2; subst h3
    exact Or.inr ⟨q, (T.setVm vm₁).calling g' mk As.toArray, t, U', L, E, ce, hT, X', hL, e1, e2, hq, hce, hcv, vx_cls hW₁ hcl, st⟩
end Runs
section Rows
variable {p : Program} {l : Launch} {e : Env} {R : Room} {s : State} {m : MethodId} {args : Array Value} {below : List Frame} {meth : Method} {c : Code} {H : Heap} {locs : List Loc} {cells slots : Nat} {Q : State → Prop}
variable {mc ms : Nat} {free : Addr → Prop} {A0 A1 : Nat → Prop} {H0 : Heap} {a : Array Value} {pc : Nat} {ls : Array Slot} {st0 rest : List Value}
theorem vx_keep {st₀ t T' : State} {L : List Loc} (h0 : st₀.heap = H) (e1 : T'.heap = t.heap) (hS : va_S A0 H0 H locs) (hA : ∀ q, q < H.size → A1 q → A0 q) (hf : ∀ q, free q → A0 q) (hL : ∀ q ∈ L, free q.base) (hF : va_F A1 st₀ t) :
    H.size ≤ T'.heap.size ∧ (∀ q : Nat, q < H.size → ¬ A1 q → T'.heap[q]? = H[q]?) ∧ va_S A0 H0 T'.heap (locs ++ L) := by
  obtain ⟨hz, hk⟩ := hF
  rw [h0] at hz hk
  exact ⟨by rw [e1]; exact hz, fun q h1 h2 => by rw [e1]; exact hk q h1 h2,
    ⟨Nat.le_trans hS.1 (by rw [e1]; exact hz), fun q h1 h2 => by rw [e1, hk q (Nat.lt_of_lt_of_le h1 hS.1) (fun z => h2 (hA q (Nat.lt_of_lt_of_le h1 hS.1) z))]; exact hS.2.1 q h1 h2, fun q hq => by
      rcases List.mem_append.mp hq with h | h
      · exact hS.2.2 q h
      · exact hf _ (hL q h)⟩⟩
theorem vx_calli {S SX : Type} {post : Int32 → S → Prop} {px : SX → Prop} {B : S → State → Prop} {BX : String → SX → State → Prop} {AX : Nat → Prop} (hr : vx_Run p l e R s m args below meth c H locs cells slots mc ms (F0 m pc ls st0) rest (va_Qi post B A1 a) (vx_X px BX AX) free) (hS : va_S A0 H0 H locs) (hA : ∀ q, q < H.size → A1 q → A0 q) (hf : ∀ q, free q → A0 q) (hAX : ∀ q, q < H.size → AX q → A0 q)
    (kx : ∀ (E : String) (ce : Cell) (q9 : Addr) (u : SX) (t : State) (H1 : Heap) (locs1 : List Loc), t.heap = H1 → s.vm.Alike t.vm → px u → BX E u t → H.size ≤ H1.size → (∀ q : Nat, q < H.size → ¬ AX q → H1[q]? = H[q]?) → va_S A0 H0 H1 locs1 → H1[q9]? = some ce → ce.vm = .none → s.vm.findClass E = some ce.cls → vx_W p l e R s m args below meth c H1 locs1 (cells + mc) (slots + ms) Q (F0 m pc ls rest) q9)
    (kk : ∀ (r : Int32) (u : S) (t : State) (H1 : Heap) (locs1 : List Loc), t.heap = H1 → s.vm.Alike t.vm → post r u → B u t → H.size ≤ H1.size → (∀ q : Nat, q < H.size → ¬ A1 q → H1[q]? = H[q]?) → va_S A0 H0 H1 locs1 → W p l e R s m args below meth c H1 locs1 (cells + mc) (slots + ms) Q (F0 m (pc + 3) ls (.int r :: rest))) : W p l e R s m args below meth c H locs cells slots Q (F0 m pc ls st0) := by
  intro T hT X
  rcases hr T hT X with ⟨v, st₀, t, T', L, h0, X', hL, e1, e2, ⟨⟨r, u, hv, hp, hb⟩, hF⟩, st⟩ | ⟨q, st₀, t, T', L, E, ce, h0, X', hL, e1, e2, ⟨u, hp, hb, hF⟩, hce, hcv, hcl, st⟩
  · cases hv
    obtain ⟨k1, k2, k3⟩ := vx_keep h0 e1 hS hA hf hL hF
    obtain ⟨t2, a1, b1⟩ := kk r u t T'.heap (locs ++ L) e1.symm (by rw [← e2]; exact X'.warmed.alike) hp hb k1 k2 k3 T' rfl X'
    exact ⟨t2, st t2 a1, b1⟩
  · obtain ⟨k1, k2, k3⟩ := vx_keep h0 e1 hS hAX hf hL hF
    obtain ⟨t2, a1, b1⟩ := kx E ce q u t T'.heap (locs ++ L) e1.symm (by rw [← e2]; exact X'.warmed.alike) hp hb k1 k2 k3 (by rw [e1]; exact hce) hcv hcl T' rfl X'
    exact ⟨t2, st.trans a1, b1⟩
theorem vx_calll {S SX : Type} {post : Int64 → S → Prop} {px : SX → Prop} {B : S → State → Prop} {BX : String → SX → State → Prop} {AX : Nat → Prop} (hr : vx_Run p l e R s m args below meth c H locs cells slots mc ms (F0 m pc ls st0) rest (va_Ql post B A1 a) (vx_X px BX AX) free) (hS : va_S A0 H0 H locs) (hA : ∀ q, q < H.size → A1 q → A0 q) (hf : ∀ q, free q → A0 q) (hAX : ∀ q, q < H.size → AX q → A0 q)
    (kx : ∀ (E : String) (ce : Cell) (q9 : Addr) (u : SX) (t : State) (H1 : Heap) (locs1 : List Loc), t.heap = H1 → s.vm.Alike t.vm → px u → BX E u t → H.size ≤ H1.size → (∀ q : Nat, q < H.size → ¬ AX q → H1[q]? = H[q]?) → va_S A0 H0 H1 locs1 → H1[q9]? = some ce → ce.vm = .none → s.vm.findClass E = some ce.cls → vx_W p l e R s m args below meth c H1 locs1 (cells + mc) (slots + ms) Q (F0 m pc ls rest) q9)
    (kk : ∀ (r : Int64) (u : S) (t : State) (H1 : Heap) (locs1 : List Loc), t.heap = H1 → s.vm.Alike t.vm → post r u → B u t → H.size ≤ H1.size → (∀ q : Nat, q < H.size → ¬ A1 q → H1[q]? = H[q]?) → va_S A0 H0 H1 locs1 → W p l e R s m args below meth c H1 locs1 (cells + mc) (slots + ms) Q (F0 m (pc + 3) ls (.long r :: rest))) : W p l e R s m args below meth c H locs cells slots Q (F0 m pc ls st0) := by
  intro T hT X
  rcases hr T hT X with ⟨v, st₀, t, T', L, h0, X', hL, e1, e2, ⟨⟨r, u, hv, hp, hb⟩, hF⟩, st⟩ | ⟨q, st₀, t, T', L, E, ce, h0, X', hL, e1, e2, ⟨u, hp, hb, hF⟩, hce, hcv, hcl, st⟩
  · cases hv
    obtain ⟨k1, k2, k3⟩ := vx_keep h0 e1 hS hA hf hL hF
    obtain ⟨t2, a1, b1⟩ := kk r u t T'.heap (locs ++ L) e1.symm (by rw [← e2]; exact X'.warmed.alike) hp hb k1 k2 k3 T' rfl X'
    exact ⟨t2, st t2 a1, b1⟩
  · obtain ⟨k1, k2, k3⟩ := vx_keep h0 e1 hS hAX hf hL hF
    obtain ⟨t2, a1, b1⟩ := kx E ce q u t T'.heap (locs ++ L) e1.symm (by rw [← e2]; exact X'.warmed.alike) hp hb k1 k2 k3 (by rw [e1]; exact hce) hcv hcl T' rfl X'
    exact ⟨t2, st.trans a1, b1⟩
theorem vx_callf {S SX : Type} {post : UInt32 → S → Prop} {px : SX → Prop} {B : S → State → Prop} {BX : String → SX → State → Prop} {AX : Nat → Prop} (hr : vx_Run p l e R s m args below meth c H locs cells slots mc ms (F0 m pc ls st0) rest (va_Qf post B A1 a) (vx_X px BX AX) free) (hS : va_S A0 H0 H locs) (hA : ∀ q, q < H.size → A1 q → A0 q) (hf : ∀ q, free q → A0 q) (hAX : ∀ q, q < H.size → AX q → A0 q)
    (kx : ∀ (E : String) (ce : Cell) (q9 : Addr) (u : SX) (t : State) (H1 : Heap) (locs1 : List Loc), t.heap = H1 → s.vm.Alike t.vm → px u → BX E u t → H.size ≤ H1.size → (∀ q : Nat, q < H.size → ¬ AX q → H1[q]? = H[q]?) → va_S A0 H0 H1 locs1 → H1[q9]? = some ce → ce.vm = .none → s.vm.findClass E = some ce.cls → vx_W p l e R s m args below meth c H1 locs1 (cells + mc) (slots + ms) Q (F0 m pc ls rest) q9)
    (kk : ∀ (r : UInt32) (u : S) (t : State) (H1 : Heap) (locs1 : List Loc), t.heap = H1 → s.vm.Alike t.vm → post r u → B u t → H.size ≤ H1.size → (∀ q : Nat, q < H.size → ¬ A1 q → H1[q]? = H[q]?) → va_S A0 H0 H1 locs1 → W p l e R s m args below meth c H1 locs1 (cells + mc) (slots + ms) Q (F0 m (pc + 3) ls (.float r :: rest))) : W p l e R s m args below meth c H locs cells slots Q (F0 m pc ls st0) := by
  intro T hT X
  rcases hr T hT X with ⟨v, st₀, t, T', L, h0, X', hL, e1, e2, ⟨⟨r, u, hv, hp, hb⟩, hF⟩, st⟩ | ⟨q, st₀, t, T', L, E, ce, h0, X', hL, e1, e2, ⟨u, hp, hb, hF⟩, hce, hcv, hcl, st⟩
  · cases hv
    obtain ⟨k1, k2, k3⟩ := vx_keep h0 e1 hS hA hf hL hF
    obtain ⟨t2, a1, b1⟩ := kk r u t T'.heap (locs ++ L) e1.symm (by rw [← e2]; exact X'.warmed.alike) hp hb k1 k2 k3 T' rfl X'
    exact ⟨t2, st t2 a1, b1⟩
  · obtain ⟨k1, k2, k3⟩ := vx_keep h0 e1 hS hAX hf hL hF
    obtain ⟨t2, a1, b1⟩ := kx E ce q u t T'.heap (locs ++ L) e1.symm (by rw [← e2]; exact X'.warmed.alike) hp hb k1 k2 k3 (by rw [e1]; exact hce) hcv hcl T' rfl X'
    exact ⟨t2, st.trans a1, b1⟩
theorem vx_calld {S SX : Type} {post : UInt64 → S → Prop} {px : SX → Prop} {B : S → State → Prop} {BX : String → SX → State → Prop} {AX : Nat → Prop} (hr : vx_Run p l e R s m args below meth c H locs cells slots mc ms (F0 m pc ls st0) rest (va_Qd post B A1 a) (vx_X px BX AX) free) (hS : va_S A0 H0 H locs) (hA : ∀ q, q < H.size → A1 q → A0 q) (hf : ∀ q, free q → A0 q) (hAX : ∀ q, q < H.size → AX q → A0 q)
    (kx : ∀ (E : String) (ce : Cell) (q9 : Addr) (u : SX) (t : State) (H1 : Heap) (locs1 : List Loc), t.heap = H1 → s.vm.Alike t.vm → px u → BX E u t → H.size ≤ H1.size → (∀ q : Nat, q < H.size → ¬ AX q → H1[q]? = H[q]?) → va_S A0 H0 H1 locs1 → H1[q9]? = some ce → ce.vm = .none → s.vm.findClass E = some ce.cls → vx_W p l e R s m args below meth c H1 locs1 (cells + mc) (slots + ms) Q (F0 m pc ls rest) q9)
    (kk : ∀ (r : UInt64) (u : S) (t : State) (H1 : Heap) (locs1 : List Loc), t.heap = H1 → s.vm.Alike t.vm → post r u → B u t → H.size ≤ H1.size → (∀ q : Nat, q < H.size → ¬ A1 q → H1[q]? = H[q]?) → va_S A0 H0 H1 locs1 → W p l e R s m args below meth c H1 locs1 (cells + mc) (slots + ms) Q (F0 m (pc + 3) ls (.double r :: rest))) : W p l e R s m args below meth c H locs cells slots Q (F0 m pc ls st0) := by
  intro T hT X
  rcases hr T hT X with ⟨v, st₀, t, T', L, h0, X', hL, e1, e2, ⟨⟨r, u, hv, hp, hb⟩, hF⟩, st⟩ | ⟨q, st₀, t, T', L, E, ce, h0, X', hL, e1, e2, ⟨u, hp, hb, hF⟩, hce, hcv, hcl, st⟩
  · cases hv
    obtain ⟨k1, k2, k3⟩ := vx_keep h0 e1 hS hA hf hL hF
    obtain ⟨t2, a1, b1⟩ := kk r u t T'.heap (locs ++ L) e1.symm (by rw [← e2]; exact X'.warmed.alike) hp hb k1 k2 k3 T' rfl X'
    exact ⟨t2, st t2 a1, b1⟩
  · obtain ⟨k1, k2, k3⟩ := vx_keep h0 e1 hS hAX hf hL hF
    obtain ⟨t2, a1, b1⟩ := kx E ce q u t T'.heap (locs ++ L) e1.symm (by rw [← e2]; exact X'.warmed.alike) hp hb k1 k2 k3 (by rw [e1]; exact hce) hcv hcl T' rfl X'
    exact ⟨t2, st.trans a1, b1⟩
theorem vx_callv {S SX : Type} {post : S → Prop} {px : SX → Prop} {B : S → State → Prop} {BX : String → SX → State → Prop} {AX : Nat → Prop} (hr : vx_Run p l e R s m args below meth c H locs cells slots mc ms (F0 m pc ls st0) rest (va_Qv post B A1 a) (vx_X px BX AX) free) (hS : va_S A0 H0 H locs) (hA : ∀ q, q < H.size → A1 q → A0 q) (hf : ∀ q, free q → A0 q) (hAX : ∀ q, q < H.size → AX q → A0 q)
    (kx : ∀ (E : String) (ce : Cell) (q9 : Addr) (u : SX) (t : State) (H1 : Heap) (locs1 : List Loc), t.heap = H1 → s.vm.Alike t.vm → px u → BX E u t → H.size ≤ H1.size → (∀ q : Nat, q < H.size → ¬ AX q → H1[q]? = H[q]?) → va_S A0 H0 H1 locs1 → H1[q9]? = some ce → ce.vm = .none → s.vm.findClass E = some ce.cls → vx_W p l e R s m args below meth c H1 locs1 (cells + mc) (slots + ms) Q (F0 m pc ls rest) q9)
    (kk : ∀ (u : S) (t : State) (H1 : Heap) (locs1 : List Loc), t.heap = H1 → s.vm.Alike t.vm → post u → B u t → H.size ≤ H1.size → (∀ q : Nat, q < H.size → ¬ A1 q → H1[q]? = H[q]?) → va_S A0 H0 H1 locs1 → W p l e R s m args below meth c H1 locs1 (cells + mc) (slots + ms) Q (F0 m (pc + 3) ls (rest))) : W p l e R s m args below meth c H locs cells slots Q (F0 m pc ls st0) := by
  intro T hT X
  rcases hr T hT X with ⟨v, st₀, t, T', L, h0, X', hL, e1, e2, ⟨⟨u, hv, hp, hb⟩, hF⟩, st⟩ | ⟨q, st₀, t, T', L, E, ce, h0, X', hL, e1, e2, ⟨u, hp, hb, hF⟩, hce, hcv, hcl, st⟩
  · cases hv
    obtain ⟨k1, k2, k3⟩ := vx_keep h0 e1 hS hA hf hL hF
    obtain ⟨t2, a1, b1⟩ := kk u t T'.heap (locs ++ L) e1.symm (by rw [← e2]; exact X'.warmed.alike) hp hb k1 k2 k3 T' rfl X'
    exact ⟨t2, st t2 a1, b1⟩
  · obtain ⟨k1, k2, k3⟩ := vx_keep h0 e1 hS hAX hf hL hF
    obtain ⟨t2, a1, b1⟩ := kx E ce q u t T'.heap (locs ++ L) e1.symm (by rw [← e2]; exact X'.warmed.alike) hp hb k1 k2 k3 (by rw [e1]; exact hce) hcv hcl T' rfl X'
    exact ⟨t2, st.trans a1, b1⟩
/-- caught by the row x of this method's table; the rows ahead don't take it -/
theorem vx_catch {own name : String} {E : String} {ce : Cell} {q : Addr} (hown : s.vm.findClass own = some m.cls) (pre : List ExceptionTableEntry) (x : ExceptionTableEntry) (suf : List ExceptionTableEntry) (hsplit : c.exceptionTable.toList = pre ++ x :: suf)
    (hpass : ∀ z ∈ pre, covers z pc = false ∨ (z.catchType ≠ 0 ∧ ∃ nm : String, (Cond.classLink own z.catchType nm).before args s = true ∧ va_Nc E nm s)) (hx : covers x pc = true) (h0 : x.catchType ≠ 0)
    (hlink : (Cond.classLink own x.catchType name).before args s = true) (hcast : (Cond.castable E name).before args s = true) (hcell : H[q]? = some ce) (hv : ce.vm = .none) (hcl : s.vm.findClass E = some ce.cls)
    (kk : W p l e R s m args below meth c H locs cells slots Q (F0 m x.handlerPc ls [.ref q])) : vx_W p l e R s m args below meth c H locs cells slots Q (F0 m pc ls rest) q := by
  intro T hT X
  have hpl : e.platform.magicAccessors = ({} : Platform).magicAccessors := by rw [X.admits.platform]
  obtain ⟨c3, c4, hc3, hc4, hasg⟩ := Cond.castable_spec hcast
  cases Option.some.inj (hc3.symm.trans hcl)
  obtain ⟨c5, hc5, hcl5⟩ := Cond.classLink_spec hown hlink e.platform hpl
  cases Option.some.inj (hc4.symm.trans hc5)
  obtain ⟨vm', X', st⟩ := X.thenCaughtThrough q (g := F0 m pc ls rest) rfl (Steps.refl _) (by rw [hT]; exact hcell) (by rw [hv]; rfl) (by obtain ⟨k9, h9, -⟩ := Vm.findClass_spec hcl; exact ⟨k9, h9⟩) pre x suf hsplit
    (fun z hz => by
      rcases hpass z hz with h | ⟨hz0, nm, hl1, hn1⟩
      · exact Or.inl h
      · obtain ⟨c6, hc6, hcl6⟩ := Cond.classLink_spec hown hl1 e.platform hpl
        obtain ⟨a8, b8, h1, h2, h3⟩ := hn1
        cases Option.some.inj (h1.symm.trans hcl)
        cases Option.some.inj (h2.symm.trans hc6)
        exact Or.inr ⟨hz0, _, hcl6, h3⟩) hx (Or.inr ⟨h0, c4, hcl5, hasg⟩)
  obtain ⟨t, a1, b1⟩ := kk (T.setVm vm') hT X'
  exact ⟨t, st.trans a1, b1⟩
end Rows
section Ends
variable {p : Program} {l : Launch} {e : Env} {R : Room} {s : State} {m : MethodId} {args : Array Value} {below : List Frame} {meth : Method} {c : Code} {H : Heap} {locs : List Loc} {cells slots : Nat} {Q : State → Prop}
variable {mc ms : Nat} {free : Addr → Prop} {A0 A1 : Nat → Prop} {H0 : Heap} {a : Array Value} {ls : Array Slot} {st0 rest : List Value}
variable {Qc : Array Value → State → Outcome → State → Prop} {XC : String → State → State → Prop}
/-- what a body that may throw owes at its end -/
def vx_MQ (below : List Frame) (Qc : Array Value → State → Outcome → State → Prop) (XC : String → State → State → Prop) (a : Array Value) (s : State) (mc ms : Nat) (free : Addr → Prop) : State → Prop := fun t =>
  ∃ o, t.status = .running ∧ Ended t below o ∧ vx_Q Qc XC mc ms free a s o t
theorem vx_ret {g : JFrame} {mc ms : Nat} (k : W p l e R s m args below meth c H locs cells slots (MQ below Qc args s mc ms free) g) : W p l e R s m args below meth c H locs cells slots (vx_MQ below Qc XC args s mc ms free) g := by
  intro T hT X
  obtain ⟨t, a1, o, b1, b2, b3, b4⟩ := k T hT X
  exact ⟨t, a1, o, b1, b2, Or.inl ⟨b3, b4⟩⟩
/-- not caught here: it goes on to the caller -/
theorem vx_widen {g : JFrame} {q : Addr} {k n : Nat} (h1 : cells ≤ k) (h2 : slots ≤ n) (kk : vx_W p l e R s m args below meth c H locs k n Q g q) : vx_W p l e R s m args below meth c H locs cells slots Q g q := fun T hT X => kk T hT (stand_widen X h1 h2)
theorem vx_out {pc : Nat} {E : String} {ce : Cell} {q : Addr} {mc ms : Nat} (hout : ∀ x ∈ c.exceptionTable.toList, covers x pc = false) (hlocks : meth.locks = false) (hcell : H[q]? = some ce) (hv : ce.vm = .none) (hcl : s.vm.findClass E = some ce.cls)
    (hx : ∀ t : State, t.heap = H → s.vm.Alike t.vm → XC E s t) (hf : ∀ z ∈ locs, free z.base) (hc : cells ≤ mc) (hs : slots ≤ ms) :
    vx_W p l e R s m args below meth c H locs cells slots (vx_MQ below Qc XC args s mc ms free) (F0 m pc ls rest) q := by
  intro T hT X
  obtain ⟨st1, hrun, hend, hW, hsm⟩ := X.leaveThrown q (g := F0 m pc ls rest) rfl rfl rfl hout hlocks
  have hcell9 : (T.setFrames (.throwing q :: below)).heap[q]? = some ce := by
    show T.heap[q]? = some ce
    rw [hT]; exact hcell
  exact ⟨_, st1, .threw q, hrun, hend, Or.inr ⟨q, rfl, E, ce, locs, hx _ hT hW.alike, hcell9, hv, hcl, hW, hsm.mono hc hs, hf⟩⟩
theorem vx_frame {U : State} {k n : Nat} (h : s.sameButNew ({ U with vm := s.vm } : State) locs k n) : s.heap.size ≤ U.heap.size ∧ ∀ q : Nat, q < s.heap.size → (∀ z ∈ locs, z.base ≠ q) → U.heap[q]? = s.heap[q]? := by
  obtain ⟨-, h2, -, -, -, h6⟩ := h
  refine ⟨h2, fun q hq hz => ?_⟩
  obtain ⟨c9, e1, e2, e3, e4⟩ := h6 q _ (Array.getElem?_eq_getElem hq)
  have hs : c9.slots = (s.heap[q]).slots := Array.ext_getElem? fun i => e4 i fun hm => hz _ hm rfl
  have h9 : c9 = s.heap[q] := by
    rw [hs] at e2
    exact e2
  have e5 : U.heap[q]? = some c9 := e1
  rw [e5, h9, Array.getElem?_eq_getElem hq]
/-- the words of a throw but the four that speak of the heap -/
def vx_no (w : Cond) : Bool := decide (w ≠ .isRef (.static Bundle.tN "UNASSIGNED_STACK" Bundle.steD)) && decide (w ≠ .isRef (.static Bundle.tN "SUPPRESSED_SENTINEL" Bundle.listD)) && decide (w ≠ .laysStatic Bundle.tN "UNASSIGNED_STACK" Bundle.steD) && decide (w ≠ .laysStatic Bundle.tN "SUPPRESSED_SENTINEL" Bundle.listD)
def vx_at0 (own : String) (ic : Nat) (X : String) (names : List String) : List Cond := (Bundle.ownAtoms0 own ic X names).filter vx_no
def vx_atS (own : String) (ic : Nat) (X : String) (names : List String) : List Cond := (Bundle.ownAtoms own ic X names).filter vx_no
/-- a word that the tables alone decide, or a good one -/
def vx_ot (w : Cond) : Bool := w.onTables || goodWord w
theorem vx_ot_at {args a' : Array Value} {s U : State} {w : Cond} (hW : s.WarmedH U.vm) (hvm : s.vm = U.vm) (hg : vx_ot w = true) (h : w.before args s = true) : w.before a' U = true := by
  simp only [vx_ot, Bool.or_eq_true] at hg
  rcases hg with hg | hg
  · exact va_tabs hg hvm h
  · exact word_at hW (good_of_word hg) h
/-- a list's words: the good ones out of the method's own list, the others by premises of their own -/
theorem vx_hat {args : Array Value} {s : State} {L B : List Cond} (h1 : ∀ w ∈ L.filter goodWord, w.before args s = true) (h2 : ∀ w ∈ L.filter (fun w => !goodWord w), w ∈ B) (h3 : ∀ w ∈ B, w.before args s = true) : ∀ w ∈ L, w.before args s = true := by
  intro w hw
  by_cases g : goodWord w = true
  · exact h1 w (List.mem_filter.mpr ⟨hw, g⟩)
  · refine h3 w (h2 w (List.mem_filter.mpr ⟨hw, ?_⟩))
    show (!goodWord w) = true
    cases hgw : goodWord w
    · rfl
    · exact absurd hgw g
theorem vx_c {args : Array Value} {s : State} {w : Cond} {B : List Cond} (h : w.before args s = true) (t : ∀ w ∈ B, w.before args s = true) : ∀ w' ∈ w :: B, w'.before args s = true := fun w' h' => (List.mem_cons.mp h').elim (fun e => by rw [e]; exact h) (t w')
theorem vx_n {args : Array Value} {s : State} : ∀ w ∈ ([] : List Cond), w.before args s = true := fun _ h => nomatch h
theorem vx_own {args : Array Value} {s : State} {L : List Cond} (h1 : ∀ w ∈ L.filter vx_no, w.before args s = true)
    (hU : (Cond.isRef (.static Bundle.tN "UNASSIGNED_STACK" Bundle.steD)).before args s = true) (hN : (Cond.isRef (.static Bundle.tN "SUPPRESSED_SENTINEL" Bundle.listD)).before args s = true)
    (lU : (Cond.laysStatic Bundle.tN "UNASSIGNED_STACK" Bundle.steD).before args s = true) (lN : (Cond.laysStatic Bundle.tN "SUPPRESSED_SENTINEL" Bundle.listD).before args s = true) : ∀ w ∈ L, w.before args s = true := by
  intro w hw
  by_cases e1 : w = .isRef (.static Bundle.tN "UNASSIGNED_STACK" Bundle.steD)
  · rw [e1]; exact hU
  · by_cases e2 : w = .isRef (.static Bundle.tN "SUPPRESSED_SENTINEL" Bundle.listD)
    · rw [e2]; exact hN
    · by_cases e3 : w = .laysStatic Bundle.tN "UNASSIGNED_STACK" Bundle.steD
      · rw [e3]; exact lU
      · by_cases e4 : w = .laysStatic Bundle.tN "SUPPRESSED_SENTINEL" Bundle.listD
        · rw [e4]; exact lN
        · exact h1 w (List.mem_filter.mpr ⟨hw, by unfold vx_no; rw [decide_eq_true e1, decide_eq_true e2, decide_eq_true e3, decide_eq_true e4]; rfl⟩)
/-- where a static field lies, its class's statics cell in H -/
def vx_L (C n d : String) (A : Nat → Prop) (U : State) (H : Heap) : Prop := ∃ (c : ClassId) (k : Class) (i : Nat) (f : Field) (a : Nat) (cell : Cell), U.vm.findClass C = some c ∧ U.fieldFound? C n d = some (c, k, i, f) ∧ f.isStatic = true ∧ k.statics = some a ∧ H[a]? = some cell ∧ cell.vm.isStatics = true ∧ cell.cls = c ∧ f.slot < cell.slots.size ∧ k.staticTypes[f.slot]? = some f.type ∧ ¬ A a
theorem vx_L.moved {C n d : String} {A : Nat → Prop} {u U : State} {H : Heap} (hvm : u.vm.Alike U.vm) (h : vx_L C n d A u H) : vx_L C n d A U H := by
  obtain ⟨c, k, i, f, a, cell, h1, h2, h3, h4, h5, h6, h7, h8, h9, h10⟩ := h
  obtain ⟨k', hi', he⟩ := State.fieldFound?_setVm hvm h2
  exact ⟨c, k', i, f, a, cell, by rw [hvm.findClass]; exact h1, hi', h3, by rw [he]; exact h4, h5, h6, h7, h8, by rw [he]; exact h9, h10⟩
theorem vx_L.kept {C n d : String} {A : Nat → Prop} {U : State} {H H1 : Heap} (h : vx_L C n d A U H) (hq : ∀ a : Nat, a < H.size → ¬ A a → H1[a]? = H[a]?) : vx_L C n d A U H1 := by
  obtain ⟨c, k, i, f, a, cell, h1, h2, h3, h4, h5, h6, h7, h8, h9, h10⟩ := h
  exact ⟨c, k, i, f, a, cell, h1, h2, h3, h4, by rw [hq a (Array.getElem?_eq_some_iff.mp h5).1 h10]; exact h5, h6, h7, h8, h9, h10⟩
theorem vx_L.narrow {C n d : String} {A B : Nat → Prop} {U : State} {H : Heap} (h : vx_L C n d A U H) (hAB : ∀ q, B q → A q) : vx_L C n d B U H := by
  obtain ⟨c, k, i, f, a, cell, h1, h2, h3, h4, h5, h6, h7, h8, h9, h10⟩ := h
  exact ⟨c, k, i, f, a, cell, h1, h2, h3, h4, h5, h6, h7, h8, h9, fun z => h10 (hAB _ z)⟩
theorem vx_L.word {C n d : String} {A : Nat → Prop} {s : State} {args : Array Value} (h : vx_L C n d A s s.heap) : (Cond.laysStatic C n d).before args s = true := by
  obtain ⟨c, k, i, f, a, cell, h1, h2, h3, h4, h5, h6, h7, h8, h9, -⟩ := h
  show (Cond.laysStatic C n d).holds args s none s [] = true
  exact Cond.laysStatic_of h1 h2 h3 h4 h5 h6 h7 h8 h9
/-- .. and what it holds: null or some reference -/
def vx_Zq (C n d : String) (A : Nat → Prop) (U : State) (H : Heap) : Prop := va_Zq C n d A U H ∧ vx_L C n d A U H
theorem vx_Zq.moved {C n d : String} {A : Nat → Prop} {u U : State} {H : Heap} (hvm : u.vm.Alike U.vm) (h : vx_Zq C n d A u H) : vx_Zq C n d A U H := ⟨va_Zq.moved hvm h.1, vx_L.moved hvm h.2⟩
theorem vx_Zq.kept {C n d : String} {A : Nat → Prop} {U : State} {H H1 : Heap} (h : vx_Zq C n d A U H) (hq : ∀ a : Nat, a < H.size → ¬ A a → H1[a]? = H[a]?) : vx_Zq C n d A U H1 := ⟨va_Zq.kept h.1 hq, vx_L.kept h.2 hq⟩
theorem vx_Zq.narrow {C n d : String} {A B : Nat → Prop} {U : State} {H : Heap} (h : vx_Zq C n d A U H) (hAB : ∀ q, B q → A q) : vx_Zq C n d B U H := ⟨va_Zq.narrow h.1 hAB, vx_L.narrow h.2 hAB⟩
theorem vx_Zqof {args : Array Value} {s : State} {C n d : String} {A : Nat → Prop} (hl : (Cond.laysStatic C n d).before args s = true) (hini : (Cond.initialized C).before args s = true) (h : (Cond.isRef (.static C n d)).before args s = true) (hA : ∀ a : Nat, a < s.heap.size → ¬ A a) : vx_Zq C n d A s s.heap := by
  refine ⟨va_Zqof hl hini h hA, ?_⟩
  obtain ⟨c, k, i, f, a, cell, h1, h2, h3, h4, h5, h6, h7, h8, h9⟩ := Cond.laysStatic_spec hl
  exact ⟨c, k, i, f, a, cell, h1, h2, h3, h4, h5, h6, h7, h8, h9, hA a (Array.getElem?_eq_some_iff.mp h5).1⟩
theorem vx_isRef {C n d : String} {v : Value} {A : Nat → Prop} {s : State} {args : Array Value} (h : va_Z C n d v A s s.heap) (hv : v.isRef = true) : (Cond.isRef (.static C n d)).before args s = true := by
  obtain ⟨cf, kf, fi, f, a, cell, h1, h2, h3, h4, h5, h6, h7, -⟩ := h
  have he : (Term.static C n d).eval args s none [] s = some v := by
    simp [Term.eval, State.fieldNamed?, h1, h2, h4, h5, h6, h7]
  simp only [Cond.before, Cond.holds, Cond.value, he]
  cases v <;> simp_all [Value.isRef]
theorem vx_isRefq {C n d : String} {A : Nat → Prop} {s : State} {args : Array Value} (h : va_Zq C n d A s s.heap) : (Cond.isRef (.static C n d)).before args s = true := by
  rcases h with h | ⟨t, h⟩
  · exact vx_isRef h rfl
  · exact vx_isRef h rfl
/-- the same frame, seen from here: as if the method were called anew in this heap -/
theorem vx_rebase {T : State} (X : Stand p l e R s m args below meth c T locs cells slots) {R' : Room} (hf : R'.frames ≤ R.frames) (hl : R'.locals ≤ R.locals) (hc : cells + R'.cells ≤ R.cells) (hs : slots + R'.slots ≤ R.slots) :
    Stand p l e R' ((T.setVm s.vm).setFrames (.invoking m args :: below)) m args below meth c T [] 0 0 := by
  have htop : (T.setVm s.vm).topJava?.isSome := X.here.top
  have hF : ((T.setVm s.vm).setFrames (.invoking m args :: below)).frames = .invoking m args :: below := State.frames_setFrames _ (State.cur_lt_of_top htop)
  obtain ⟨g₀, hg0⟩ := Option.isSome_iff_exists.mp htop
  obtain ⟨r, hr⟩ := State.topJava?_eq_some.mp hg0
  have hl9 : e.platform.stackLimits (T.setVm s.vm).me = e.platform.stackLimits s.me := X.limits
  have hb9 : (T.setVm s.vm).me.stackBytes = s.me.stackBytes := X.bytes
  refine ⟨X.admits, X.cas, X.clock, hF, ?_, X.hears, X.method, X.code, X.here, X.tail, X.warmed, ?_, ?_, ?_⟩
  · have h := X.room
    have hU : ((T.setVm s.vm).setFrames (.invoking m args :: below)).localsInUse = s.localsInUse := by
      rw [State.localsInUse_invoking hF (meth := meth) (c := c) X.method X.code, State.localsInUse_invoking X.frames X.method X.code]
    simp only [State.hasRoom, Bool.and_eq_true, decide_eq_true_eq] at h ⊢
    obtain ⟨⟨⟨⟨h1, h2, h3, h4, h5, h6⟩, h7⟩, h8⟩, h9⟩ := h
    rw [X.frames, List.length_cons] at h2 h3
    have q1 := X.heapSize
    have q2 := X.used
    simp only [hF, hU, List.length_cons, State.stackLimits_setFrames, State.stackBytes_setFrames, hl9, hb9]
    refine ⟨⟨⟨⟨by omega, by omega, by omega, by omega, by omega, h6⟩, ?_⟩, ?_⟩, X.book⟩
    · show T.heap.size + R'.cells ≤ e.platform.maxCells
      omega
    · show T.slotsUsed + R'.slots ≤ e.platform.maxSlots
      omega
  · rw [State.stackLimits_setFrames]; rfl
  · rw [State.stackBytes_setFrames]; rfl
  · refine ⟨?_, Nat.le_refl _, Nat.le_refl _, ?_, ?_, fun a c9 h9 => ⟨c9, h9, rfl, rfl, fun _ _ => rfl⟩⟩
    · obtain ⟨t, ht, -⟩ := State.frames_cons hr
      show T.setVm s.vm = { ((T.setVm s.vm).setFrames (.invoking m args :: below)).setFrames (T.setVm s.vm).frames with heap := T.heap, slotsUsed := T.slotsUsed }
      rw [State.setFrames_setFrames, State.setFrames_self ht]
      rfl
    · show T.slotsUsed = T.slotsUsed + ((T.heap.toList.drop T.heap.size).map (·.slots.size)).sum
      rw [List.drop_eq_nil_of_le (Nat.le_of_eq Array.length_toList)]
      rfl
    · show ((T.heap.toList.drop T.heap.size).map (·.slots.size)).sum ≤ 0
      rw [List.drop_eq_nil_of_le (Nat.le_of_eq Array.length_toList)]
      exact Nat.le_refl _
/-- 'throw new E()': new; dup; invokespecial; athrow -/
theorem vx_throw0 {cc : ByteArray} {pc : Nat} (hexec : p.tables.exec = Jvm.exec) (hb : c.code = cc) (hl : l.stackTraces = false) {own cls : String} {names : List String} {ik ic mc ms : Nat} {A : Nat → Prop}
    (hown : s.vm.findClass own = some m.cls) (hcls : Bundle.fit cls = true) (hnames : ∀ n ∈ names, Bundle.fit n = true)
    (hk : (Cond.classLink own ik cls).before args s = true) (hini : (Cond.initialized cls).before args s = true) (hat : ∀ w ∈ vx_at0 own ic cls names, w.before args s = true)
    (hgood : ∀ w ∈ Cond.classLink own ik cls :: Cond.initialized cls :: vx_at0 own ic cls names, vx_ot w = true)
    (hU : vx_Zq Bundle.tN "UNASSIGNED_STACK" Bundle.steD A s s.heap) (hN : vx_Zq Bundle.tN "SUPPRESSED_SENTINEL" Bundle.listD A s s.heap) (hS : va_S A s.heap H locs) (hsize : ls.size = c.maxLocals)
    (d0 : decode cc pc = .ok (.new ik, 3)) (d3 : decode cc (pc + 3) = .ok (.dup, 1)) (d4 : decode cc (pc + 4) = .ok (.invokespecial ic, 3)) (d7 : decode cc (pc + 7) = .ok (.athrow, 1))
    (hout : ∀ x ∈ c.exceptionTable.toList, covers x (pc + 7) = false)
    (hRframes : names.length + 3 < R.frames) (hRlocals : (rest.map fun v => v.category).sum + (13 * (names.length + 1) + 42) ≤ R.locals) (hRcells : cells + 1 ≤ R.cells) (hRslots : slots + 6 ≤ R.slots) (hlocks : meth.locks = false)
    (hx : ∀ t : State, s.vm.Alike t.vm → H.size ≤ t.heap.size → (∀ q : Nat, q < H.size → t.heap[q]? = H[q]?) → XC cls s t)
    (hf : ∀ z ∈ locs, free z.base) (hc : cells + 1 ≤ mc) (hs : slots + 6 ≤ ms) :
    W p l e R s m args below meth c H locs cells slots (vx_MQ below Qc XC args s mc ms free) (F0 m pc ls rest) := by
  intro T hT X
  have htr : e.platform.stackTraces = false := (show e.platform.stackTraces = l.stackTraces by rw [X.admits.platform]).trans hl
  have Y := vx_rebase X (R' := { frames := R.frames, locals := R.locals, cells := 1, slots := 6 }) (Nat.le_refl _) (Nat.le_refl _) hRcells hRslots
  obtain ⟨s', hA⟩ : ∃ z, z = (T.setVm s.vm).setFrames (.invoking m args :: below) := ⟨_, rfl⟩
  rw [← hA] at Y
  have hvm : s'.vm = s.vm := by rw [hA]; rfl
  have hhp : s'.heap = H := by rw [hA]; exact hT
  have hW0 : s.WarmedH s'.vm := by rw [hvm]; exact State.WarmedH.refl s
  have hat' : ∀ w ∈ vx_at0 own ic cls names, w.before args s' = true := fun w hw => vx_ot_at hW0 hvm.symm (hgood w (List.mem_cons_of_mem _ (List.mem_cons_of_mem _ hw))) (hat w hw)
  have hk' : (Cond.classLink own ik cls).before args s' = true := vx_ot_at hW0 hvm.symm (hgood _ List.mem_cons_self) hk
  have hini' : (Cond.initialized cls).before args s' = true := vx_ot_at hW0 hvm.symm (hgood _ (List.mem_cons_of_mem _ List.mem_cons_self)) hini
  have hU' : vx_Zq Bundle.tN "UNASSIGNED_STACK" Bundle.steD A s' s'.heap := by rw [hhp]; exact vx_Zq.moved hW0.alike (hU.kept hS.2.1)
  have hN' : vx_Zq Bundle.tN "SUPPRESSED_SENTINEL" Bundle.listD A s' s'.heap := by rw [hhp]; exact vx_Zq.moved hW0.alike (hN.kept hS.2.1)
  have h : ∀ w ∈ Bundle.ownAtoms0 own ic cls names, w.before args s' = true := vx_own hat' (vx_isRefq hU'.1) (vx_isRefq hN'.1) hU'.2.word hN'.2.word
  have hown' : s'.vm.findClass own = some m.cls := by rw [hvm]; exact hown
  have hins : (Cond.instantiable cls 6).before args s' = true := h _ (by simp [Bundle.ownAtoms0])
  obtain ⟨vm₁, cX, kX, hfX, hkX, -, -, X₁, st1⟩ := Y.newCold hexec (own := own) (C := cls) (index := ik) (n := 6) hown' hk' hins hini'
    (g := F0 m pc ls rest) rfl (by rw [hb]; exact d0) (Nat.le_refl _) (Nat.le_refl _)
  generalize hT1 : (T.setVm vm₁).pushCell { cls := cX, slots := kX.instanceTypes.map defaultValue, vm := .none } = T1 at X₁ st1
  have hcat : (Value.ref T.heap.size).category = 1 := rfl
  have hcellA : T1.heap[T.heap.size]? = some (freshCell cX kX) := by rw [← hT1]; exact State.heap_pushCell_size _ _
  have d3' : decode c.code (pc + 3) = .ok (.dup, 1) := by rw [hb]; exact d3
  obtain ⟨U, hsteps, hrun, hend, hW, hsame, ce, hce, hO⟩ := X₁.ctorThrow0 hexec htr (own := own) (cls := cls) (names := names) (ic := ic) hown' hcls hnames h (fun x hx => nomatch hx) hfX hkX hcellA (by rw [hhp, hT]; exact Nat.le_refl _)
    (g := { method := m, pc := pc + 4, locals := ls, stack := .ref T.heap.size :: .ref T.heap.size :: rest, locked := none }) rfl hsize rfl rfl (rest := rest) rfl
    (by rw [hb]; exact d4) (by rw [hb]; exact d7) hout hRframes (by simp only [List.map_cons, List.sum_cons, hcat]; omega) hlocks
  obtain ⟨f1, f2⟩ := vx_frame hsame
  rw [hhp] at f1 f2
  have hWs : s.WarmedH U.vm := State.WarmedH.trans hW0 hW
  have hcl : s.vm.findClass cls = some ce.cls := by
    have h9 := hO.cls
    rw [hvm] at h9
    exact h9
  have hall : s.sameButNew ({ U with vm := s.vm } : State) locs mc ms := by
    subst hA
    obtain ⟨e1, e2⟩ := hsame
    rw [State.setFrames_setFrames] at e1
    have h2 : (T.setVm s.vm).sameButNew ({ U with vm := s.vm } : State) [] (0 + 1) (0 + 6) := ⟨e1, e2⟩
    have h3 := X.same.trans h2
    rw [List.append_nil] at h3
    exact h3.mono hc hs
  refine ⟨U, ?_, .threw T.heap.size, hrun, hend, Or.inr ⟨T.heap.size, rfl, cls, ce, locs, hx U hWs.alike f1 (fun q hq => f2 q hq (fun z hz => nomatch hz)), hce, hO.vm, hcl, hWs, hall, hf⟩⟩
  refine st1 _ ?_
  show Steps p.tables e below (T1.setTop { method := m, pc := pc + 3, locals := ls, stack := .ref T.heap.size :: rest, locked := none }) _
  jvm_step X₁.here [X₁.here.top, hexec, d3', Value.category]
  exact hsteps
/-- 'throw new E("text")': new; dup; ldc; invokespecial; athrow -/
theorem vx_throwS {cc : ByteArray} {pc : Nat} (hexec : p.tables.exec = Jvm.exec) (hb : c.code = cc) (hl : l.stackTraces = false) {own cls text : String} {names : List String} {ik is ic mc ms sa : Nat} {A : Nat → Prop}
    (hown : s.vm.findClass own = some m.cls) (hcls : Bundle.fit cls = true) (hnames : ∀ n ∈ names, Bundle.fit n = true)
    (hk : (Cond.classLink own ik cls).before args s = true) (hini : (Cond.initialized cls).before args s = true) (hstr : vk_R own is text sa s) (hat : ∀ w ∈ vx_atS own ic cls names, w.before args s = true)
    (hgood : ∀ w ∈ Cond.classLink own ik cls :: Cond.initialized cls :: vx_atS own ic cls names, vx_ot w = true)
    (hU : vx_Zq Bundle.tN "UNASSIGNED_STACK" Bundle.steD A s s.heap) (hN : vx_Zq Bundle.tN "SUPPRESSED_SENTINEL" Bundle.listD A s s.heap) (hS : va_S A s.heap H locs) (hsize : ls.size = c.maxLocals)
    (d0 : decode cc pc = .ok (.new ik, 3)) (d3 : decode cc (pc + 3) = .ok (.dup, 1)) (d4 : decode cc (pc + 4) = .ok (.ldc is, 2)) (d6 : decode cc (pc + 6) = .ok (.invokespecial ic, 3)) (d9 : decode cc (pc + 9) = .ok (.athrow, 1))
    (hout : ∀ x ∈ c.exceptionTable.toList, covers x (pc + 9) = false)
    (hRframes : names.length + 3 < R.frames) (hRlocals : (rest.map fun v => v.category).sum + (13 * (names.length + 1) + 43) ≤ R.locals) (hRcells : cells + 1 ≤ R.cells) (hRslots : slots + 6 ≤ R.slots) (hlocks : meth.locks = false)
    (hx : ∀ t : State, s.vm.Alike t.vm → H.size ≤ t.heap.size → (∀ q : Nat, q < H.size → t.heap[q]? = H[q]?) → XC cls s t)
    (hf : ∀ z ∈ locs, free z.base) (hc : cells + 1 ≤ mc) (hs : slots + 6 ≤ ms) :
    W p l e R s m args below meth c H locs cells slots (vx_MQ below Qc XC args s mc ms free) (F0 m pc ls rest) := by
  intro T hT X
  have htr : e.platform.stackTraces = false := (show e.platform.stackTraces = l.stackTraces by rw [X.admits.platform]).trans hl
  have Y := vx_rebase X (R' := { frames := R.frames, locals := R.locals, cells := 1, slots := 6 }) (Nat.le_refl _) (Nat.le_refl _) hRcells hRslots
  obtain ⟨s', hA⟩ : ∃ z, z = (T.setVm s.vm).setFrames (.invoking m args :: below) := ⟨_, rfl⟩
  rw [← hA] at Y
  have hvm : s'.vm = s.vm := by rw [hA]; rfl
  have hhp : s'.heap = H := by rw [hA]; exact hT
  have hW0 : s.WarmedH s'.vm := by rw [hvm]; exact State.WarmedH.refl s
  have hat' : ∀ w ∈ vx_atS own ic cls names, w.before args s' = true := fun w hw => vx_ot_at hW0 hvm.symm (hgood w (List.mem_cons_of_mem _ (List.mem_cons_of_mem _ hw))) (hat w hw)
  have hk' : (Cond.classLink own ik cls).before args s' = true := vx_ot_at hW0 hvm.symm (hgood _ List.mem_cons_self) hk
  have hini' : (Cond.initialized cls).before args s' = true := vx_ot_at hW0 hvm.symm (hgood _ (List.mem_cons_of_mem _ List.mem_cons_self)) hini
  have hU' : vx_Zq Bundle.tN "UNASSIGNED_STACK" Bundle.steD A s' s'.heap := by rw [hhp]; exact vx_Zq.moved hW0.alike (hU.kept hS.2.1)
  have hN' : vx_Zq Bundle.tN "SUPPRESSED_SENTINEL" Bundle.listD A s' s'.heap := by rw [hhp]; exact vx_Zq.moved hW0.alike (hN.kept hS.2.1)
  have h : ∀ w ∈ Bundle.ownAtoms own ic cls names, w.before args s' = true := vx_own hat' (vx_isRefq hU'.1) (vx_isRefq hN'.1) hU'.2.word hN'.2.word
  have hown' : s'.vm.findClass own = some m.cls := by rw [hvm]; exact hown
  have hins : (Cond.instantiable cls 6).before args s' = true := h _ (by simp [Bundle.ownAtoms])
  obtain ⟨vm₁, cX, kX, hfX, hkX, -, -, X₁, st1⟩ := Y.newCold hexec (own := own) (C := cls) (index := ik) (n := 6) hown' hk' hins hini'
    (g := F0 m pc ls rest) rfl (by rw [hb]; exact d0) (Nat.le_refl _) (Nat.le_refl _)
  generalize hT1 : (T.setVm vm₁).pushCell { cls := cX, slots := kX.instanceTypes.map defaultValue, vm := .none } = T1 at X₁ st1
  have hcat : (Value.ref T.heap.size).category = 1 := rfl
  have hcellA : T1.heap[T.heap.size]? = some (freshCell cX kX) := by rw [← hT1]; exact State.heap_pushCell_size _ _
  have d3' : decode c.code (pc + 3) = .ok (.dup, 1) := by rw [hb]; exact d3
  have d4' : decode c.code (pc + 4) = .ok (.ldc is, 2) := by rw [hb]; exact d4
  have hstr' : vk_R own is text sa s' := vk_R.warm hW0 hstr
  obtain ⟨U, hsteps, hrun, hend, hW, hsame, ce, hce, hO⟩ := X₁.ctorThrowS hexec htr (own := own) (cls := cls) (names := names) (ic := ic) hown' hcls hnames h (fun x hx => nomatch hx) hfX hkX hcellA (by rw [hhp, hT]; exact Nat.le_refl _) (msg := .ref sa) rfl
    (g := { method := m, pc := pc + 6, locals := ls, stack := .ref sa :: .ref T.heap.size :: .ref T.heap.size :: rest, locked := none }) rfl hsize rfl rfl (rest := rest) rfl
    (by rw [hb]; exact d6) (by rw [hb]; exact d9) hout hRframes (by simp only [List.map_cons, List.sum_cons, hcat]; omega) hlocks
  obtain ⟨f1, f2⟩ := vx_frame hsame
  rw [hhp] at f1 f2
  have hWs : s.WarmedH U.vm := State.WarmedH.trans hW0 hW
  have hcl : s.vm.findClass cls = some ce.cls := by
    have h9 := hO.cls
    rw [hvm] at h9
    exact h9
  have hall : s.sameButNew ({ U with vm := s.vm } : State) locs mc ms := by
    subst hA
    obtain ⟨e1, e2⟩ := hsame
    rw [State.setFrames_setFrames] at e1
    have h2 : (T.setVm s.vm).sameButNew ({ U with vm := s.vm } : State) [] (0 + 1) (0 + 6) := ⟨e1, e2⟩
    have h3 := X.same.trans h2
    rw [List.append_nil] at h3
    exact h3.mono hc hs
  refine ⟨U, ?_, .threw T.heap.size, hrun, hend, Or.inr ⟨T.heap.size, rfl, cls, ce, locs, hx U hWs.alike f1 (fun q hq => f2 q hq (fun z hz => nomatch hz)), hce, hO.vm, hcl, hWs, hall, hf⟩⟩
  refine st1 _ ?_
  show Steps p.tables e below (T1.setTop { method := m, pc := pc + 3, locals := ls, stack := .ref T.heap.size :: rest, locked := none }) _
  jvm_step X₁.here [X₁.here.top, hexec, d3', Value.category]
  exact X₁.ldcString hexec (own := own) (text := text) (index := is) (a := sa) hown' hstr'.1 hstr'.2
    (g := { method := m, pc := pc + 4, locals := ls, stack := .ref T.heap.size :: .ref T.heap.size :: rest, locked := none }) rfl d4' _ hsteps
/-- 'throw new E("text")', the text by a wide index -/
theorem vx_throwSW {cc : ByteArray} {pc : Nat} (hexec : p.tables.exec = Jvm.exec) (hb : c.code = cc) (hl : l.stackTraces = false) {own cls text : String} {names : List String} {ik is ic mc ms sa : Nat} {A : Nat → Prop}
    (hown : s.vm.findClass own = some m.cls) (hcls : Bundle.fit cls = true) (hnames : ∀ n ∈ names, Bundle.fit n = true)
    (hk : (Cond.classLink own ik cls).before args s = true) (hini : (Cond.initialized cls).before args s = true) (hstr : vk_R own is text sa s) (hat : ∀ w ∈ vx_atS own ic cls names, w.before args s = true)
    (hgood : ∀ w ∈ Cond.classLink own ik cls :: Cond.initialized cls :: vx_atS own ic cls names, vx_ot w = true)
    (hU : vx_Zq Bundle.tN "UNASSIGNED_STACK" Bundle.steD A s s.heap) (hN : vx_Zq Bundle.tN "SUPPRESSED_SENTINEL" Bundle.listD A s s.heap) (hS : va_S A s.heap H locs) (hsize : ls.size = c.maxLocals)
    (d0 : decode cc pc = .ok (.new ik, 3)) (d3 : decode cc (pc + 3) = .ok (.dup, 1)) (d4 : decode cc (pc + 4) = .ok (.ldc_w is, 3)) (d7 : decode cc (pc + 7) = .ok (.invokespecial ic, 3)) (d10 : decode cc (pc + 10) = .ok (.athrow, 1))
    (hout : ∀ x ∈ c.exceptionTable.toList, covers x (pc + 10) = false)
    (hRframes : names.length + 3 < R.frames) (hRlocals : (rest.map fun v => v.category).sum + (13 * (names.length + 1) + 43) ≤ R.locals) (hRcells : cells + 1 ≤ R.cells) (hRslots : slots + 6 ≤ R.slots) (hlocks : meth.locks = false)
    (hx : ∀ t : State, s.vm.Alike t.vm → H.size ≤ t.heap.size → (∀ q : Nat, q < H.size → t.heap[q]? = H[q]?) → XC cls s t)
    (hf : ∀ z ∈ locs, free z.base) (hc : cells + 1 ≤ mc) (hs : slots + 6 ≤ ms) :
    W p l e R s m args below meth c H locs cells slots (vx_MQ below Qc XC args s mc ms free) (F0 m pc ls rest) := by
  intro T hT X
  have htr : e.platform.stackTraces = false := (show e.platform.stackTraces = l.stackTraces by rw [X.admits.platform]).trans hl
  have Y := vx_rebase X (R' := { frames := R.frames, locals := R.locals, cells := 1, slots := 6 }) (Nat.le_refl _) (Nat.le_refl _) hRcells hRslots
  obtain ⟨s', hA⟩ : ∃ z, z = (T.setVm s.vm).setFrames (.invoking m args :: below) := ⟨_, rfl⟩
  rw [← hA] at Y
  have hvm : s'.vm = s.vm := by rw [hA]; rfl
  have hhp : s'.heap = H := by rw [hA]; exact hT
  have hW0 : s.WarmedH s'.vm := by rw [hvm]; exact State.WarmedH.refl s
  have hat' : ∀ w ∈ vx_atS own ic cls names, w.before args s' = true := fun w hw => vx_ot_at hW0 hvm.symm (hgood w (List.mem_cons_of_mem _ (List.mem_cons_of_mem _ hw))) (hat w hw)
  have hk' : (Cond.classLink own ik cls).before args s' = true := vx_ot_at hW0 hvm.symm (hgood _ List.mem_cons_self) hk
  have hini' : (Cond.initialized cls).before args s' = true := vx_ot_at hW0 hvm.symm (hgood _ (List.mem_cons_of_mem _ List.mem_cons_self)) hini
  have hU' : vx_Zq Bundle.tN "UNASSIGNED_STACK" Bundle.steD A s' s'.heap := by rw [hhp]; exact vx_Zq.moved hW0.alike (hU.kept hS.2.1)
  have hN' : vx_Zq Bundle.tN "SUPPRESSED_SENTINEL" Bundle.listD A s' s'.heap := by rw [hhp]; exact vx_Zq.moved hW0.alike (hN.kept hS.2.1)
  have h : ∀ w ∈ Bundle.ownAtoms own ic cls names, w.before args s' = true := vx_own hat' (vx_isRefq hU'.1) (vx_isRefq hN'.1) hU'.2.word hN'.2.word
  have hown' : s'.vm.findClass own = some m.cls := by rw [hvm]; exact hown
  have hins : (Cond.instantiable cls 6).before args s' = true := h _ (by simp [Bundle.ownAtoms])
  obtain ⟨vm₁, cX, kX, hfX, hkX, -, -, X₁, st1⟩ := Y.newCold hexec (own := own) (C := cls) (index := ik) (n := 6) hown' hk' hins hini'
    (g := F0 m pc ls rest) rfl (by rw [hb]; exact d0) (Nat.le_refl _) (Nat.le_refl _)
  generalize hT1 : (T.setVm vm₁).pushCell { cls := cX, slots := kX.instanceTypes.map defaultValue, vm := .none } = T1 at X₁ st1
  have hcat : (Value.ref T.heap.size).category = 1 := rfl
  have hcellA : T1.heap[T.heap.size]? = some (freshCell cX kX) := by rw [← hT1]; exact State.heap_pushCell_size _ _
  have d3' : decode c.code (pc + 3) = .ok (.dup, 1) := by rw [hb]; exact d3
  have d4' : decode c.code (pc + 4) = .ok (.ldc_w is, 3) := by rw [hb]; exact d4
  have hstr' : vk_R own is text sa s' := vk_R.warm hW0 hstr
  obtain ⟨U, hsteps, hrun, hend, hW, hsame, ce, hce, hO⟩ := X₁.ctorThrowS hexec htr (own := own) (cls := cls) (names := names) (ic := ic) hown' hcls hnames h (fun x hx => nomatch hx) hfX hkX hcellA (by rw [hhp, hT]; exact Nat.le_refl _) (msg := .ref sa) rfl
    (g := { method := m, pc := pc + 7, locals := ls, stack := .ref sa :: .ref T.heap.size :: .ref T.heap.size :: rest, locked := none }) rfl hsize rfl rfl (rest := rest) rfl
    (by rw [hb]; exact d7) (by rw [hb]; exact d10) hout hRframes (by simp only [List.map_cons, List.sum_cons, hcat]; omega) hlocks
  obtain ⟨f1, f2⟩ := vx_frame hsame
  rw [hhp] at f1 f2
  have hWs : s.WarmedH U.vm := State.WarmedH.trans hW0 hW
  have hcl : s.vm.findClass cls = some ce.cls := by
    have h9 := hO.cls
    rw [hvm] at h9
    exact h9
  have hall : s.sameButNew ({ U with vm := s.vm } : State) locs mc ms := by
    subst hA
    obtain ⟨e1, e2⟩ := hsame
    rw [State.setFrames_setFrames] at e1
    have h2 : (T.setVm s.vm).sameButNew ({ U with vm := s.vm } : State) [] (0 + 1) (0 + 6) := ⟨e1, e2⟩
    have h3 := X.same.trans h2
    rw [List.append_nil] at h3
    exact h3.mono hc hs
  refine ⟨U, ?_, .threw T.heap.size, hrun, hend, Or.inr ⟨T.heap.size, rfl, cls, ce, locs, hx U hWs.alike f1 (fun q hq => f2 q hq (fun z hz => nomatch hz)), hce, hO.vm, hcl, hWs, hall, hf⟩⟩
  refine st1 _ ?_
  show Steps p.tables e below (T1.setTop { method := m, pc := pc + 3, locals := ls, stack := .ref T.heap.size :: rest, locked := none }) _
  jvm_step X₁.here [X₁.here.top, hexec, d3', Value.category]
  exact X₁.ldcStringW hexec (own := own) (text := text) (index := is) (a := sa) hown' hstr'.1 hstr'.2
    (g := { method := m, pc := pc + 4, locals := ls, stack := .ref T.heap.size :: .ref T.heap.size :: rest, locked := none }) rfl d4' _ hsteps
end Ends
section Bodies
variable {l : Launch}
theorem vx_ofW {y : MethodName} {ws ws' : List Cond} {rm : Room} {Pc : Array Value → State → Prop} {Qc : Array Value → State → Outcome → State → Prop} {XC : String → State → State → Prop} {mc ms : Nat} {free : Addr → Prop} {cc : ByteArray} {maxL : Nat} {ret : Option FieldType}
    (hy : plainName y.cls = true) (hw : ws = Cond.code y cc maxL ret :: ws')
    (body : ∀ p e s m args below meth c s₁, BodyLoose p l y (headSpec ws rm) cc maxL ret e s m args below meth c s₁ → c.maxLocals = maxL → (∀ x ∈ c.exceptionTable.toList, False) → Pc args s →
      W p l e (headSpec ws rm).room s m args below meth c s.heap [] 0 0 (vx_MQ below Qc XC args s mc ms free) (entryFrame m args maxL)) : vx_Met l y ws rm Pc Qc XC mc ms free := by
  refine MetFree.of_bodyS (code := cc) (maxLocals := maxL) (ret := ret) hy ?_ ?_
  · intro args s m h hn
    obtain ⟨meth, c, h1, h2, h3, h4, h5, h6, -, -⟩ := Cond.code_spec hn (atoms_spec (ws := ws) h _ (by rw [hw]; exact List.mem_cons_self))
    exact ⟨meth, c, h1, h2, h3, h4, h5, h6⟩
  · intro p e s m args below meth c s₁ B hml hP _
    have hh0 : s₁.heap = s.heap := by rw [B.state]; rfl
    have ht : ∀ x ∈ c.exceptionTable.toList, False := by
      obtain ⟨meth9, c9, h1, h2, -, -, -, -, h7, -⟩ := Cond.code_spec B.named (atoms_spec (ws := ws) B.pre _ (by rw [hw]; exact List.mem_cons_self))
      cases Option.some.inj (h1.symm.trans B.method)
      cases Option.some.inj (h2.symm.trans (Stand.of_body B).code)
      intro x hx
      rw [Array.isEmpty_iff.mp h7] at hx
      cases hx
    obtain ⟨t, a1, o, b1, b2, b3⟩ := body p e s m args below meth c s₁ B hml ht hP s₁ hh0 (Stand.of_body B)
    exact ⟨t, o, a1, b1, b2, b3⟩
/-- the table of a body with handlers -/
theorem vx_table {p : Program} {x y : MethodName} {S : Spec} {cc bytes : ByteArray} {maxL maxL' : Nat} {ret ret' : Option FieldType} {e : Env} {s s₁ : State} {m : MethodId} {args : Array Value} {below : List Frame} {meth : Method} {c : Code} {hh : List (Nat × Nat × Nat × Nat)}
    (B : BodyLoose p l y S cc maxL ret e s m args below meth c s₁) (h : (Cond.codeWith y bytes maxL' ret' hh).before args s = true) : c.exceptionTable.toList = tableOf hh := by
  obtain ⟨m9, meth9, c9, hn9, h1, h2, -, -, h6, -⟩ := Cond.codeWith_spec h
  cases Option.some.inj (hn9.symm.trans B.named)
  cases Option.some.inj (h1.symm.trans B.method)
  cases Option.some.inj (h2.symm.trans (Stand.of_body B).code)
  rw [← h6, table_eq]
end Bodies
end VXA
/-! ===== END ===== -/
/-! ===== BEGIN a static call of a method with an exception table ===== -/
section VXS
variable {p : Program} {l : Launch} {e : Env} {R : Room} {s : State} {m : MethodId} {args : Array Value} {below : List Frame} {meth : Method} {c : Code} {T : State} {H : Heap} {locs : List Loc} {cells slots : Nat}
abbrev vx_CSW (R : Room) (s : State) (args : Array Value) (own : String) (index : Nat) (y : MethodName) (bytes : ByteArray) (maxL : Nat) (ret : Option FieldType) (hh : List (Nat × Nat × Nat × Nat)) (ws : List Cond) (rm : Room) (mc ms n : Nat) : Prop :=
  (rm.cells = mc ∧ rm.slots = ms ∧ rm.frames + 1 ≤ R.frames ∧ 8 + (maxL + 11) + rm.locals ≤ R.locals ∧ (∀ w ∈ ws, ∀ (a' : Array Value) (U : State), s.WarmedH U.vm → w.before a' U = true) ∧ Cond.codeWith y bytes maxL ret hh ∈ ws) ∧
  (Cond.codeWith y bytes maxL ret hh).before args s = true ∧ (Cond.initialized y.cls).before args s = true ∧ (y.cls ≠ "java/lang/invoke/MethodHandle" ∧ y.cls ≠ "java/lang/invoke/VarHandle") ∧
  (∀ sig, parseMethodDescriptor y.desc = some sig → n = sig.parameters.length) ∧ (Cond.methodLink own index y).before args s = true ∧ (Cond.static y).before args s = true
theorem vx_cwSW {own : String} {index maxL mc ms : Nat} {y : MethodName} {bytes : ByteArray} {ret : Option FieldType} {hh : List (Nat × Nat × Nat × Nat)} {Ts ws ws' : List Cond} {rm : Room} (n : Nat) (ht : ∀ w ∈ Ts, w.before args s = true) (hT : GoodIn Ts (va_wsS own index y ws)) (hw : ws = Cond.codeWith y bytes maxL ret hh :: ws') (hrc : rm.cells = mc) (hrs : rm.slots = ms)
    (hd : y.cls ≠ "java/lang/invoke/MethodHandle" ∧ y.cls ≠ "java/lang/invoke/VarHandle" ∧ (parseMethodDescriptor y.desc).map (fun d => d.parameters.length) = some n) (hR : rm.frames + 1 ≤ R.frames ∧ 8 + (maxL + 11) + rm.locals ≤ R.locals) :
    vx_CSW R s args own index y bytes maxL ret hh ws rm mc ms n := by
  have ok : ∀ w ∈ va_wsS own index y ws, w.before args s = true := fun w h => ht w (hT w h).1
  have hG : GoodIn Ts ws := fun w h => hT w (by unfold va_wsS; exact List.mem_append_right _ h)
  have hc : Cond.codeWith y bytes maxL ret hh ∈ ws := by rw [hw]; exact List.mem_cons_self
  refine ⟨⟨hrc, hrs, hR.1, hR.2, pay_in ht hG, hc⟩, ht _ (hG _ hc).1, ok _ (by simp [va_wsS]), ⟨hd.1, hd.2.1⟩, fun sig h => ?_, ok _ (by simp [va_wsS]), ok _ (by simp [va_wsS])⟩
  have h2 := hd.2.2
  rw [h] at h2
  exact (Option.some.inj h2).symm
theorem vx_callSW (X : Stand p l e R s m args below meth c T locs cells slots) (hexec : p.tables.exec = Jvm.exec) {own : String} {index : Nat} {y : MethodName} {bytes : ByteArray} {maxL : Nat} {ret : Option FieldType} {hh : List (Nat × Nat × Nat × Nat)}
    (hown : s.vm.findClass own = some m.cls) (hlink : (Cond.methodLink own index y).before args s = true) (hstat : (Cond.static y).before args s = true) (hinit : (Cond.initialized y.cls).before args s = true)
    (hcode : (Cond.codeWith y bytes maxL ret hh).before args s = true) (hy : y.cls ≠ "java/lang/invoke/MethodHandle" ∧ y.cls ≠ "java/lang/invoke/VarHandle")
    {W9 : Nat} {Pre : Pt → Array Value → Prop} {Post : Pt → Array Value → Option Value → Pt → Prop} (hK : Back l R p e below s args y 3 W9 Pre Post)
    {g : JFrame} (hg : g.method = m) (hsize : g.locals.size = c.maxLocals) {argsL rest : List Value} (hlen : ∀ sig, parseMethodDescriptor y.desc = some sig → argsL.length = sig.parameters.length)
    (hstack : g.stack = argsL.reverse ++ rest) (hW : 2 * g.monitorRoom + (rest.map fun v => v.category).sum ≤ W9) (hdg : decode c.code g.pc = .ok (.invokestatic index, 3))
    (hpre : ∀ vm₁, s.WarmedH vm₁ → Pre ⟨T.setVm vm₁, locs, cells, slots⟩ argsL.toArray) :
    ∃ (v : Option Value) (vm₁ : Vm) (B : Pt), s.WarmedH vm₁ ∧ Stand p l e R s m args below meth c B.U B.locs B.cells B.slots ∧ Post ⟨T.setVm vm₁, locs, cells, slots⟩ argsL.toArray v B ∧
      ∀ target, Steps p.tables e below (B.U.setTop { g with pc := g.pc + 3, stack := v.toList ++ rest }) target → Steps p.tables e below (T.setTop g) target := by
  obtain ⟨mk, methM, cM, hnamed, hmethM, -, -, -, -, -, -, hsigM⟩ := Cond.codeWith_spec hcode
  have hstatic : methM.isStatic = true := Cond.static_spec hnamed hmethM hstat
  obtain ⟨kP, hkP, -⟩ := className_of_methodNamed hnamed
  have hinitP : kP.init = .initialized := Cond.initialized_spec (findClass_of_methodNamed hnamed) hkP hinit
  obtain ⟨vm₁, X₁, hstep₁⟩ := X.invokestatic hexec hown hlink hnamed hmethM hstatic hkP hinitP hy (g := g) hg (argsL := argsL) (rest := rest) (hlen _ hsigM) hstack hdg
  obtain ⟨v, B, X', hpost, hsteps⟩ := hK m meth c ⟨T.setVm vm₁, locs, cells, slots⟩ { g with stack := rest } (.invokestatic index) mk argsL.toArray X₁ hg hsize hdg hW (X₁.named hnamed) (hpre vm₁ X₁.warmed)
  exact ⟨v, vm₁, B, X₁.warmed, X', hpost, fun target h => hstep₁ _ fun acts => by rw [doInvoke_state]; exact hsteps.trans h⟩
theorem vx_runSW {y : MethodName} {bytes cc : ByteArray} {maxL nL mc ms n index : Nat} {ret : Option FieldType} {hh : List (Nat × Nat × Nat × Nat)} {ws : List Cond} {rm : Room} {Pc : Array Value → State → Prop} {Qc : Array Value → State → Outcome → State → Prop} {free : Addr → Prop} {Ts : List Cond} {own : String} {As rest : List Value} {g : JFrame}
    (S : CallFix p m c cc nL s args Ts own) (hM : Met l y ws rm Pc Qc mc ms free) (cw : vx_CSW R s args own index y bytes maxL ret hh ws rm mc ms n) (hp : PreS s H Pc As)
    (hg : g.method = m) (hn : As.length = n) (hsize : g.locals.size = nL) (hstack : g.stack = As.reverse ++ rest) (hW : 2 * g.monitorRoom + (rest.map fun v => v.category).sum ≤ 8) (hdg : decode cc g.pc = .ok (.invokestatic index, 3)) (hf : cells + mc ≤ R.cells ∧ slots + ms ≤ R.slots) :
    va_Run p l e R s m args below meth c H locs cells slots mc ms g rest (Qc As.toArray) (free) := by
  obtain ⟨⟨hrc, hrs, hfr, hlo, hws, hcw⟩, hcode, hini, hy, hlen, hl, hstt⟩ := cw
  have hK : Back l R p e below s args y 3 8 (PreOf R mc ms Pc) (PostOf Qc mc ms free) := va_backW (hh := hh) (bytes := bytes) (maxL := maxL) (ret := ret) hM hp.1 hrc hrs hfr hlo hws hcw (fun a' U hW => word_at hW (Or.inl (by first | rfl | simp [Cond.onTables, Cond.keeps, Cond.steady])) hini)
  obtain ⟨hx, hb, hml, ho, -⟩ := S
  intro T hT X
  obtain ⟨v, vm₁, ⟨U', l2, c2, s2⟩, hW₁, X', ⟨g', mk, t, L, e1, e2, hq, h1, hL, h2, h3⟩, st⟩ := vx_callSW X hx (hh := hh) (bytes := bytes) (maxL := maxL) (ret := ret) ho hl hstt hini hcode hy hK hg (hsize.trans hml.symm) (argsL := As) (rest := rest) (fun sig h => hn.trans (hlen sig h)) hstack hW (by rw [hb]; exact hdg)
    (fun vm₁ hW₁ => ⟨hf.1, hf.2, hp.2 (T.setVm vm₁) hT hW₁⟩)
  dsimp only [Pt.U, Pt.locs, Pt.cells, Pt.slots] at X' e1 e2 h1 h2 h3 st
  subst h1; subst h2; subst h3
  exact ⟨v, (T.setVm vm₁).calling g' mk As.toArray, t, U', L, hT, X', hL, e1, e2, hq, st⟩
/-- not caught here, past rows that name other classes: it goes on to the caller -/
theorem vx_outP {p : Program} {l : Launch} {e : Env} {R : Room} {s : State} {m : MethodId} {args : Array Value} {below : List Frame} {meth : Method} {c : Code} {H : Heap} {locs : List Loc} {cells slots : Nat} {free : Addr → Prop} {ls : Array Slot} {rest : List Value} {Qc : Array Value → State → Outcome → State → Prop} {XC : String → State → State → Prop}
    {pc : Nat} {own E : String} {ce : Cell} {q : Addr} {mc ms : Nat} (hown : s.vm.findClass own = some m.cls) (hlocks : meth.locks = false)
    (hpass : ∀ z ∈ c.exceptionTable.toList, covers z pc = false ∨ (z.catchType ≠ 0 ∧ ∃ nm : String, (Cond.classLink own z.catchType nm).before args s = true ∧ va_Nc E nm s)) (hcell : H[q]? = some ce) (hv : ce.vm = .none) (hcl : s.vm.findClass E = some ce.cls)
    (hx : ∀ t : State, t.heap = H → s.vm.Alike t.vm → XC E s t) (hf : ∀ z ∈ locs, free z.base) (hc : cells ≤ mc) (hs : slots ≤ ms) :
    vx_W p l e R s m args below meth c H locs cells slots (vx_MQ below Qc XC args s mc ms free) (F0 m pc ls rest) q := by
  intro T hT X
  have hpl : e.platform.magicAccessors = ({} : Platform).magicAccessors := by rw [X.admits.platform]
  obtain ⟨vm', hW', X', st⟩ := X.outThrough hlocks q (g := F0 m pc ls rest) rfl rfl rfl (cell := ce) (by rw [hT]; exact hcell) (by rw [hv]; rfl)
    (by obtain ⟨k9, h9, -⟩ := Vm.findClass_spec hcl; exact ⟨k9, h9⟩) (fun z hz => by
      rcases hpass z hz with h | ⟨hz0, nm, hl1, hn1⟩
      · exact Or.inl h
      · obtain ⟨c6, hc6, hcl6⟩ := Cond.classLink_spec hown hl1 e.platform hpl
        obtain ⟨a8, b8, h1, h2, h3⟩ := hn1
        cases Option.some.inj (h1.symm.trans hcl)
        cases Option.some.inj (h2.symm.trans hc6)
        exact Or.inr ⟨hz0, _, hcl6, h3⟩)
  obtain ⟨g₀, hfr⟩ := X'.frames_eq
  have hcell9 : ((T.setVm vm').setFrames (.throwing q :: below)).heap[q]? = some ce := by
    show T.heap[q]? = some ce
    rw [hT]; exact hcell
  have hend : Ended ((T.setVm vm').setFrames (.throwing q :: below)) below (.threw q) := State.frames_setFrames _ (State.cur_lt_of_frames hfr)
  refine ⟨(T.setVm vm').setFrames (.throwing q :: below), ?_, .threw q, X'.here.running, hend, Or.inr ⟨q, rfl, E, ce, locs, hx _ hT (X'.ends _).1.alike, hcell9, hv, hcl, (X'.ends _).1, (X'.ends _).2.mono hc hs, hf⟩⟩
  rw [X.pushThrowing_eq]
  exact st
/-- a thing of a world lies in the heap -/
theorem vx_lt {D : va_G} {cl : List vw_C} {ws : va_W} {H1 : Heap} (h : va_P D cl ws H1) {k : Nat} {q : Nat × va_E} (hk : ws[k]? = some q) : q.1 < H1.size := (h k q hk).lt
end VXS
/-! ===== END ===== -/
/-! ===== BEGIN methods with a table of their own: called by a name, returning or throwing ===== -/
section VXH
/-! vx_backW, vx_callVX, vx_callSX, vx_callVW, vx_runVW, vx_runVX, vx_runSX, vx_ofWH follow the same proofs as their sisters above (Free/Laws.lean, Shelf42/LK1.lean); vx_outP calls Shelf42/NT130.lean (outThrough). -/
section
variable {l : Launch} {R : Room} {p : Program} {e : Env} {below : List Frame} {s : State} {sargs : Array Value} {y : MethodName} {len W9 : Nat}
theorem vx_backW {ws : List Cond} {rm : Room} {Pc : Array Value → State → Prop} {Qc : Array Value → State → Outcome → State → Prop} {XC : String → State → State → Prop} {mc ms : Nat} {free : Addr → Prop} {bytes : ByteArray} {maxL : Nat} {ret : Option FieldType} {hh : List (Nat × Nat × Nat × Nat)}
    (hM : vx_Met l y ws rm Pc Qc XC mc ms free) (hblind : FrameBlind Pc) (hrc : rm.cells = mc) (hrs : rm.slots = ms)
    (hframes : rm.frames + 1 ≤ R.frames) (hlocals : W9 + (maxL + 11) + rm.locals ≤ R.locals)
    (hws : ∀ w ∈ ws, ∀ a' U, s.WarmedH U.vm → w.before a' U = true) (hcode : Cond.codeWith y bytes maxL ret hh ∈ ws) (hinit : ∀ a' U, s.WarmedH U.vm → (Cond.initialized y.cls).before a' U = true) :
    vx_Back l R p e below s sargs y len W9 (PreOf R mc ms Pc) (PostOf Qc mc ms free) (vx_Post XC mc ms free) := by
  intro m meth c A g ig mk a X hg hsize hdg hW hn hp
  have h1 : (headSpec ws rm).pre.before a A.U = true := atoms_intro fun w hw => hws w hw _ _ X.warmed
  have h2 : (Cond.codeWith y bytes maxL ret hh).before a A.U = true := hws _ hcode _ _ X.warmed
  have h3 : (Cond.initialized y.cls).before a A.U = true := hinit _ _ X.warmed
  have h4 : A.cells + (headSpec ws rm).room.cells ≤ R.cells := by rw [show (headSpec ws rm).room.cells = mc from hrc]; exact hp.1
  have h5 : A.slots + (headSpec ws rm).room.slots ≤ R.slots := by rw [show (headSpec ws rm).room.slots = ms from hrs]; exact hp.2.1
  have hPc : Pc a (A.U.calling g mk a) := hblind _ _ _ _ hp.2.2
  obtain ⟨U, Ls, c0, s0⟩ := A
  dsimp only [Pt.U, Pt.locs, Pt.cells, Pt.slots] at h1 h2 h3 h4 h5 X hn hPc ⊢
  obtain ⟨m9, methY, cY, hn9, hmY, hcY, -, hlY, -⟩ := Cond.codeWith_spec h2
  cases Option.some.inj (hn9.symm.trans hn)
  obtain ⟨kY, hkY, -⟩ := className_of_methodNamed hn
  have hinitY : kY.init = .initialized := Cond.initialized_spec (findClass_of_methodNamed hn) hkY h3
  have h : At U g.method c below := by rw [hg]; exact X.here
  have hlocals9 : W9 + (maxL + 11) + (headSpec ws rm).room.locals ≤ R.locals := hlocals
  have happ : (headSpec ws rm).appliesLoose y e.platform (U.calling g mk a) = true :=
    Spec.appliesLoose_calling (g := g) h hdg hn hkY hinitY
      (X.room_calling (g := g) (R' := (headSpec ws rm).room) hsize hmY hcY hframes (by rw [hlY]; omega) h4 h5) h1
  obtain ⟨mid, hmid⟩ := h.above
  have hfr : (U.setTop g).frames = (.java g :: mid) ++ below := by rw [State.frames_setTop' g h.top, hmid]; rfl
  obtain ⟨o, s₂, hsteps, -, hend, hq⟩ := Steps.callFree hM p X.admits X.cas X.clock (acts := []) hfr happ hPc trivial
  have hq' : vx_Q Qc XC mc ms free a (U.calling g mk a) o s₂ := hq
  rw [State.frames_setTop' g h.top] at hend
  obtain ⟨g₀, hg0⟩ := Option.isSome_iff_exists.mp h.top
  obtain ⟨r, hr⟩ := State.topJava?_eq_some.mp hg0
  have hr' : (({ U with heap := s₂.heap, slotsUsed := s₂.slotsUsed } : State).setVm s₂.vm).frames = .java g₀ :: r := hr
  rcases hq' with ⟨hqc, L, hfe, hL⟩ | ⟨q, rfl, E, ce, L, hx, hce, hcv, hcl, hW₂, hsm, hL⟩
  · obtain ⟨⟨v, rfl⟩, hW₂, e2, q2, q3, q4, q5, q6⟩ := id hfe
    have e3 : s₂ = ({ (U.calling g mk a).setFrames s₂.frames with heap := s₂.heap, slotsUsed := s₂.slotsUsed } : State).setVm s₂.vm := by
      have : s₂ = ({ s₂ with vm := (U.calling g mk a).vm } : State).setVm s₂.vm := rfl
      rw [e2] at this
      exact this
    obtain ⟨c₂, i₂, len₂, hc₂, hd₂, hf₂⟩ := hend
    have hW' : U.WarmedH s₂.vm := hW₂
    have hcc : c₂ = c := by
      have h1 : s₂.code? g.method = U.code? g.method := by
        rw [State.code?_eq, State.code?_eq, hW'.alike.method?]
      exact Option.some.inj (hc₂.symm.trans (h1.trans h.code))
    subst hcc
    have hlen : len₂ = len := by rw [hdg] at hd₂; cases hd₂; rfl
    subst hlen
    have hs₂ : s₂ = (({ U with heap := s₂.heap, slotsUsed := s₂.slotsUsed } : State).setVm s₂.vm).setTop { g with pc := g.pc + len₂, stack := v.toList ++ g.stack } := by
      refine e3.trans ?_
      rw [hf₂, State.calling_eq h.top, State.setFrames_setFrames, State.setTop_of_frames _ hr', hr]
      rfl
    have hsame : U.sameButNew ({ U with heap := s₂.heap, slotsUsed := s₂.slotsUsed } : State) L mc ms := by
      refine ⟨?_, q2, q3, q4, q5, q6⟩
      obtain ⟨t, ht, -⟩ := State.frames_cons hr
      show ({ U with heap := s₂.heap, slotsUsed := s₂.slotsUsed } : State) = { U.setFrames U.frames with heap := s₂.heap, slotsUsed := s₂.slotsUsed }
      rw [State.setFrames_self ht]
    subst hg
    refine Or.inl ⟨v, ⟨(({ U with heap := s₂.heap, slotsUsed := s₂.slotsUsed } : State).setVm s₂.vm), Ls ++ L, c0 + mc, s0 + ms⟩,
      ⟨X.admits, X.cas, X.clock, X.frames, X.room, X.hears, X.method, X.code, (X.here.setHeapUsed s₂.heap s₂.slotsUsed).setVm hW'.alike, X.tail, State.WarmedH.trans X.warmed hW', X.limits, X.bytes, X.same.trans (hsame.setVm s.vm)⟩,
      ⟨g, mk, s₂, L, rfl, rfl, hqc, rfl, hL, rfl, rfl⟩, ?_⟩
    show Steps p.tables e below _ ((({ U with heap := s₂.heap, slotsUsed := s₂.slotsUsed } : State).setVm s₂.vm).setTop { g with pc := g.pc + len₂, stack := v.toList ++ g.stack })
    rw [← hs₂]
    exact hsteps
  · obtain ⟨e2, q2, q3, q4, q5, q6⟩ := id hsm
    have e3 : s₂ = ({ (U.calling g mk a).setFrames s₂.frames with heap := s₂.heap, slotsUsed := s₂.slotsUsed } : State).setVm s₂.vm := by
      have : s₂ = ({ s₂ with vm := (U.calling g mk a).vm } : State).setVm s₂.vm := rfl
      rw [e2] at this
      exact this
    have hf₂ : s₂.frames = .throwing q :: .java g :: U.frames.tail := hend
    have hW' : U.WarmedH s₂.vm := hW₂
    have hs₂ : s₂ = ((({ U with heap := s₂.heap, slotsUsed := s₂.slotsUsed } : State).setVm s₂.vm).setTop g).pushFrame (.throwing q) := by
      refine e3.trans ?_
      rw [hf₂, State.calling_eq h.top, State.setFrames_setFrames, State.pushFrame, State.frames_setTop _ hr', State.setTop_of_frames _ hr', State.setFrames_setFrames, hr]
      rfl
    have hsame : U.sameButNew ({ U with heap := s₂.heap, slotsUsed := s₂.slotsUsed } : State) L mc ms := by
      refine ⟨?_, q2, q3, q4, q5, q6⟩
      obtain ⟨t, ht, -⟩ := State.frames_cons hr
      show ({ U with heap := s₂.heap, slotsUsed := s₂.slotsUsed } : State) = { U.setFrames U.frames with heap := s₂.heap, slotsUsed := s₂.slotsUsed }
      rw [State.setFrames_self ht]
    subst hg
    refine Or.inr ⟨q, ⟨(({ U with heap := s₂.heap, slotsUsed := s₂.slotsUsed } : State).setVm s₂.vm), Ls ++ L, c0 + mc, s0 + ms⟩,
      ⟨X.admits, X.cas, X.clock, X.frames, X.room, X.hears, X.method, X.code, (X.here.setHeapUsed s₂.heap s₂.slotsUsed).setVm hW'.alike, X.tail, State.WarmedH.trans X.warmed hW', X.limits, X.bytes, X.same.trans (hsame.setVm s.vm)⟩,
      ⟨g, mk, s₂, L, E, ce, rfl, rfl, hx, hce, hcv, hcl, rfl, hL, rfl, rfl⟩, ?_⟩
    show Steps p.tables e below _ (((({ U with heap := s₂.heap, slotsUsed := s₂.slotsUsed } : State).setVm s₂.vm).setTop g).pushFrame (.throwing q))
    rw [← hs₂]
    exact hsteps
end
variable {p : Program} {l : Launch} {e : Env} {R : Room} {s : State} {m : MethodId} {args : Array Value} {below : List Frame} {meth : Method} {c : Code} {T : State} {H : Heap} {locs : List Loc} {cells slots : Nat}
theorem vx_callVX (X : Stand p l e R s m args below meth c T locs cells slots) (hexec : p.tables.exec = Jvm.exec) {own C : String} {index : Nat} {y : MethodName} {bytes : ByteArray} {maxL : Nat} {ret : Option FieldType} {hh : List (Nat × Nat × Nat × Nat)}
    (hown : s.vm.findClass own = some m.cls) (hlink : (Cond.methodLink own index y).before args s = true) (hinst : (Cond.instanceMethod y).before args s = true) (hsel : (Cond.selects C y y).before args s = true)
    (hcode : (Cond.codeWith y bytes maxL ret hh).before args s = true) (hy : y.cls ≠ "java/lang/invoke/MethodHandle" ∧ y.cls ≠ "java/lang/invoke/VarHandle")
    {W9 : Nat} {Pre : Pt → Array Value → Prop} {Post : Pt → Array Value → Option Value → Pt → Prop} {PostX : Pt → Array Value → Addr → Pt → Prop} (hK : vx_Back l R p e below s args y 3 W9 Pre Post PostX)
    {b : Addr} {cellB : Cell} (hcell : T.heap[b]? = some cellB) (hobj : cellB.vm.isStatics = false) (hcls : s.vm.findClass C = some cellB.cls)
    {g : JFrame} (hg : g.method = m) (hsize : g.locals.size = c.maxLocals) {argsL rest : List Value} (hlen : ∀ sig, parseMethodDescriptor y.desc = some sig → argsL.length = sig.parameters.length)
    (hstack : g.stack = argsL.reverse ++ .ref b :: rest) (hW : 2 * g.monitorRoom + (rest.map fun v => v.category).sum ≤ W9) (hdg : decode c.code g.pc = .ok (.invokevirtual index, 3))
    (hpre : ∀ vm₁, s.WarmedH vm₁ → Pre ⟨T.setVm vm₁, locs, cells, slots⟩ (Value.ref b :: argsL).toArray) :
    (∃ (v : Option Value) (vm₁ : Vm) (B : Pt), s.WarmedH vm₁ ∧ Stand p l e R s m args below meth c B.U B.locs B.cells B.slots ∧ Post ⟨T.setVm vm₁, locs, cells, slots⟩ (Value.ref b :: argsL).toArray v B ∧
      ∀ target, Steps p.tables e below (B.U.setTop { g with pc := g.pc + 3, stack := v.toList ++ rest }) target → Steps p.tables e below (T.setTop g) target) ∨
    (∃ (q : Addr) (vm₁ : Vm) (B : Pt), s.WarmedH vm₁ ∧ Stand p l e R s m args below meth c B.U B.locs B.cells B.slots ∧ PostX ⟨T.setVm vm₁, locs, cells, slots⟩ (Value.ref b :: argsL).toArray q B ∧
      Steps p.tables e below (T.setTop g) ((B.U.setTop { g with stack := rest }).pushFrame (.throwing q))) := by
  obtain ⟨mk, methM, hnamed, hmethM, hstM, habM⟩ := Cond.instanceMethod_spec hinst
  obtain ⟨m8, methM', cM, hn8, hmethM', -, -, -, -, -, -, hsigM⟩ := Cond.codeWith_spec hcode
  cases Option.some.inj (hn8.symm.trans hnamed)
  cases hmethM.symm.trans hmethM'
  obtain ⟨c2, r2, m2, q1, q2, q3, q4, kP, hkP, hkPi⟩ := Cond.selects_spec hsel
  cases hcls.symm.trans q1
  cases (State.methodFound?_of_named hnamed hy).symm.trans q2
  cases hnamed.symm.trans q3
  have hselP : selectMethod e.platform s.vm cellB.cls mk = .method mk := by rw [Launch.admits_selectMethod X.admits]; exact q4
  obtain ⟨vm₁, X₁, hstep₁⟩ := X.invokevirtual hexec hown hlink hnamed hmethM hstM hkP hkPi hy (a := b) (cell := cellB) hcell
    (fun z h => by rw [h] at hobj; cases hobj) hselP hmethM habM hkP hkPi (g := g) hg (argsL := argsL) (rest := rest) (hlen _ hsigM) hstack hdg
  rcases hK m meth c ⟨T.setVm vm₁, locs, cells, slots⟩ { g with stack := rest } (.invokevirtual index) mk (Value.ref b :: argsL).toArray X₁ hg hsize hdg hW (X₁.named hnamed) (hpre vm₁ X₁.warmed) with ⟨v, B, X', hpost, hsteps⟩ | ⟨q, B, X', hpost, hsteps⟩
  · exact Or.inl ⟨v, vm₁, B, X₁.warmed, X', hpost, fun target h => hstep₁ _ fun acts => by rw [doInvoke_state]; exact hsteps.trans h⟩
  · exact Or.inr ⟨q, vm₁, B, X₁.warmed, X', hpost, hstep₁ _ fun acts => by rw [doInvoke_state]; exact hsteps⟩
theorem vx_callSX (X : Stand p l e R s m args below meth c T locs cells slots) (hexec : p.tables.exec = Jvm.exec) {own : String} {index : Nat} {y : MethodName} {bytes : ByteArray} {maxL : Nat} {ret : Option FieldType} {hh : List (Nat × Nat × Nat × Nat)}
    (hown : s.vm.findClass own = some m.cls) (hlink : (Cond.methodLink own index y).before args s = true) (hstat : (Cond.static y).before args s = true) (hinit : (Cond.initialized y.cls).before args s = true)
    (hcode : (Cond.codeWith y bytes maxL ret hh).before args s = true) (hy : y.cls ≠ "java/lang/invoke/MethodHandle" ∧ y.cls ≠ "java/lang/invoke/VarHandle")
    {W9 : Nat} {Pre : Pt → Array Value → Prop} {Post : Pt → Array Value → Option Value → Pt → Prop} {PostX : Pt → Array Value → Addr → Pt → Prop} (hK : vx_Back l R p e below s args y 3 W9 Pre Post PostX)
    {g : JFrame} (hg : g.method = m) (hsize : g.locals.size = c.maxLocals) {argsL rest : List Value} (hlen : ∀ sig, parseMethodDescriptor y.desc = some sig → argsL.length = sig.parameters.length)
    (hstack : g.stack = argsL.reverse ++ rest) (hW : 2 * g.monitorRoom + (rest.map fun v => v.category).sum ≤ W9) (hdg : decode c.code g.pc = .ok (.invokestatic index, 3))
    (hpre : ∀ vm₁, s.WarmedH vm₁ → Pre ⟨T.setVm vm₁, locs, cells, slots⟩ argsL.toArray) :
    (∃ (v : Option Value) (vm₁ : Vm) (B : Pt), s.WarmedH vm₁ ∧ Stand p l e R s m args below meth c B.U B.locs B.cells B.slots ∧ Post ⟨T.setVm vm₁, locs, cells, slots⟩ argsL.toArray v B ∧
      ∀ target, Steps p.tables e below (B.U.setTop { g with pc := g.pc + 3, stack := v.toList ++ rest }) target → Steps p.tables e below (T.setTop g) target) ∨
    (∃ (q : Addr) (vm₁ : Vm) (B : Pt), s.WarmedH vm₁ ∧ Stand p l e R s m args below meth c B.U B.locs B.cells B.slots ∧ PostX ⟨T.setVm vm₁, locs, cells, slots⟩ argsL.toArray q B ∧
      Steps p.tables e below (T.setTop g) ((B.U.setTop { g with stack := rest }).pushFrame (.throwing q))) := by
  obtain ⟨mk, methM, cM, hnamed, hmethM, -, -, -, -, -, -, hsigM⟩ := Cond.codeWith_spec hcode
  have hstatic : methM.isStatic = true := Cond.static_spec hnamed hmethM hstat
  obtain ⟨kP, hkP, -⟩ := className_of_methodNamed hnamed
  have hinitP : kP.init = .initialized := Cond.initialized_spec (findClass_of_methodNamed hnamed) hkP hinit
  obtain ⟨vm₁, X₁, hstep₁⟩ := X.invokestatic hexec hown hlink hnamed hmethM hstatic hkP hinitP hy (g := g) hg (argsL := argsL) (rest := rest) (hlen _ hsigM) hstack hdg
  rcases hK m meth c ⟨T.setVm vm₁, locs, cells, slots⟩ { g with stack := rest } (.invokestatic index) mk argsL.toArray X₁ hg hsize hdg hW (X₁.named hnamed) (hpre vm₁ X₁.warmed) with ⟨v, B, X', hpost, hsteps⟩ | ⟨q, B, X', hpost, hsteps⟩
  · exact Or.inl ⟨v, vm₁, B, X₁.warmed, X', hpost, fun target h => hstep₁ _ fun acts => by rw [doInvoke_state]; exact hsteps.trans h⟩
  · exact Or.inr ⟨q, vm₁, B, X₁.warmed, X', hpost, hstep₁ _ fun acts => by rw [doInvoke_state]; exact hsteps⟩
theorem vx_callVW (X : Stand p l e R s m args below meth c T locs cells slots) (hexec : p.tables.exec = Jvm.exec) {own C : String} {index : Nat} {y : MethodName} {bytes : ByteArray} {maxL : Nat} {ret : Option FieldType} {hh : List (Nat × Nat × Nat × Nat)}
    (hown : s.vm.findClass own = some m.cls) (hlink : (Cond.methodLink own index y).before args s = true) (hinst : (Cond.instanceMethod y).before args s = true) (hsel : (Cond.selects C y y).before args s = true)
    (hcode : (Cond.codeWith y bytes maxL ret hh).before args s = true) (hy : y.cls ≠ "java/lang/invoke/MethodHandle" ∧ y.cls ≠ "java/lang/invoke/VarHandle")
    {W9 : Nat} {Pre : Pt → Array Value → Prop} {Post : Pt → Array Value → Option Value → Pt → Prop} (hK : Back l R p e below s args y 3 W9 Pre Post)
    {b : Addr} {cellB : Cell} (hcell : T.heap[b]? = some cellB) (hobj : cellB.vm.isStatics = false) (hcls : s.vm.findClass C = some cellB.cls)
    {g : JFrame} (hg : g.method = m) (hsize : g.locals.size = c.maxLocals) {argsL rest : List Value} (hlen : ∀ sig, parseMethodDescriptor y.desc = some sig → argsL.length = sig.parameters.length)
    (hstack : g.stack = argsL.reverse ++ .ref b :: rest) (hW : 2 * g.monitorRoom + (rest.map fun v => v.category).sum ≤ W9) (hdg : decode c.code g.pc = .ok (.invokevirtual index, 3))
    (hpre : ∀ vm₁, s.WarmedH vm₁ → Pre ⟨T.setVm vm₁, locs, cells, slots⟩ (Value.ref b :: argsL).toArray) :
    ∃ (v : Option Value) (vm₁ : Vm) (B : Pt), s.WarmedH vm₁ ∧ Stand p l e R s m args below meth c B.U B.locs B.cells B.slots ∧ Post ⟨T.setVm vm₁, locs, cells, slots⟩ (Value.ref b :: argsL).toArray v B ∧
      ∀ target, Steps p.tables e below (B.U.setTop { g with pc := g.pc + 3, stack := v.toList ++ rest }) target → Steps p.tables e below (T.setTop g) target := by
  obtain ⟨mk, methM, hnamed, hmethM, hstM, habM⟩ := Cond.instanceMethod_spec hinst
  obtain ⟨m8, methM', cM, hn8, hmethM', -, -, -, -, -, -, hsigM⟩ := Cond.codeWith_spec hcode
  cases Option.some.inj (hn8.symm.trans hnamed)
  cases hmethM.symm.trans hmethM'
  obtain ⟨c2, r2, m2, q1, q2, q3, q4, kP, hkP, hkPi⟩ := Cond.selects_spec hsel
  cases hcls.symm.trans q1
  cases (State.methodFound?_of_named hnamed hy).symm.trans q2
  cases hnamed.symm.trans q3
  have hselP : selectMethod e.platform s.vm cellB.cls mk = .method mk := by rw [Launch.admits_selectMethod X.admits]; exact q4
  obtain ⟨vm₁, X₁, hstep₁⟩ := X.invokevirtual hexec hown hlink hnamed hmethM hstM hkP hkPi hy (a := b) (cell := cellB) hcell
    (fun z h => by rw [h] at hobj; cases hobj) hselP hmethM habM hkP hkPi (g := g) hg (argsL := argsL) (rest := rest) (hlen _ hsigM) hstack hdg
  obtain ⟨v, B, X', hpost, hsteps⟩ := hK m meth c ⟨T.setVm vm₁, locs, cells, slots⟩ { g with stack := rest } (.invokevirtual index) mk (Value.ref b :: argsL).toArray X₁ hg hsize hdg hW (X₁.named hnamed) (hpre vm₁ X₁.warmed)
  exact ⟨v, vm₁, B, X₁.warmed, X', hpost, fun target h => hstep₁ _ fun acts => by rw [doInvoke_state]; exact hsteps.trans h⟩
abbrev vx_CVW (R : Room) (s : State) (args : Array Value) (own C : String) (index : Nat) (y : MethodName) (bytes : ByteArray) (maxL : Nat) (ret : Option FieldType) (hh : List (Nat × Nat × Nat × Nat)) (ws : List Cond) (rm : Room) (mc ms n : Nat) : Prop :=
  (rm.cells = mc ∧ rm.slots = ms ∧ rm.frames + 1 ≤ R.frames ∧ 8 + (maxL + 11) + rm.locals ≤ R.locals ∧ (∀ w ∈ ws, ∀ (a' : Array Value) (U : State), s.WarmedH U.vm → w.before a' U = true) ∧ Cond.codeWith y bytes maxL ret hh ∈ ws) ∧
  (Cond.codeWith y bytes maxL ret hh).before args s = true ∧ (Cond.initialized y.cls).before args s = true ∧ (y.cls ≠ "java/lang/invoke/MethodHandle" ∧ y.cls ≠ "java/lang/invoke/VarHandle") ∧
  (∀ sig, parseMethodDescriptor y.desc = some sig → n = sig.parameters.length) ∧ (Cond.methodLink own index y).before args s = true ∧ (Cond.instanceMethod y).before args s = true ∧ (Cond.selects C y y).before args s = true
theorem vx_cwVW {own C : String} {index maxL mc ms : Nat} {y : MethodName} {bytes : ByteArray} {ret : Option FieldType} {hh : List (Nat × Nat × Nat × Nat)} {Ts ws ws' : List Cond} {rm : Room} (n : Nat) (ht : ∀ w ∈ Ts, w.before args s = true) (hT : GoodIn Ts (wsV own index C y ws)) (hw : ws = Cond.codeWith y bytes maxL ret hh :: ws') (hrc : rm.cells = mc) (hrs : rm.slots = ms)
    (hd : y.cls = C ∧ y.cls ≠ "java/lang/invoke/MethodHandle" ∧ y.cls ≠ "java/lang/invoke/VarHandle" ∧ (parseMethodDescriptor y.desc).map (fun d => d.parameters.length) = some n) (hR : rm.frames + 1 ≤ R.frames ∧ 8 + (maxL + 11) + rm.locals ≤ R.locals) :
    vx_CVW R s args own C index y bytes maxL ret hh ws rm mc ms n := by
  obtain ⟨hC, hd⟩ := hd
  subst hC
  have ok : ∀ w ∈ wsV own index y.cls y ws, w.before args s = true := fun w h => ht w (hT w h).1
  have hG : GoodIn Ts ws := fun w h => hT w (by unfold wsV; exact List.mem_append_right _ h)
  have hc : Cond.codeWith y bytes maxL ret hh ∈ ws := by rw [hw]; exact List.mem_cons_self
  refine ⟨⟨hrc, hrs, hR.1, hR.2, pay_in ht hG, hc⟩, ht _ (hG _ hc).1, ok _ (by simp [wsV]), ⟨hd.1, hd.2.1⟩, fun sig h => ?_, ok _ (by simp [wsV]), ok _ (by simp [wsV]), ok _ (by simp [wsV])⟩
  have h2 := hd.2.2
  rw [h] at h2
  exact (Option.some.inj h2).symm
theorem vx_runVW {y : MethodName} {bytes cc : ByteArray} {maxL nL mc ms n index : Nat} {ret : Option FieldType} {hh : List (Nat × Nat × Nat × Nat)} {ws : List Cond} {rm : Room} {Pc : Array Value → State → Prop} {Qc : Array Value → State → Outcome → State → Prop} {free : Addr → Prop} {Ts : List Cond} {own C : String} {b : Addr} {As rest : List Value} {g : JFrame}
    (S : CallFix p m c cc nL s args Ts own) (hM : Met l y ws rm Pc Qc mc ms free) (cw : vx_CVW R s args own C index y bytes maxL ret hh ws rm mc ms n) (hp : PreV s H C b Pc As)
    (hg : g.method = m) (hn : As.length = n) (hsize : g.locals.size = nL) (hstack : g.stack = As.reverse ++ .ref b :: rest) (hW : 2 * g.monitorRoom + (rest.map fun v => v.category).sum ≤ 8) (hdg : decode cc g.pc = .ok (.invokevirtual index, 3)) (hf : cells + mc ≤ R.cells ∧ slots + ms ≤ R.slots) :
    va_Run p l e R s m args below meth c H locs cells slots mc ms g rest (Qc (Value.ref b :: As).toArray) free := by
  obtain ⟨⟨hrc, hrs, hfr, hlo, hws, hcw⟩, hcode, hini, hy, hlen, hl, hin, hse⟩ := cw
  have hK : Back l R p e below s args y 3 8 (PreOf R mc ms Pc) (PostOf Qc mc ms free) := va_backW (hh := hh) (bytes := bytes) (maxL := maxL) (ret := ret) hM hp.1 hrc hrs hfr hlo hws hcw (fun a' U hW => word_at hW (Or.inl (by first | rfl | simp [Cond.onTables, Cond.keeps, Cond.steady])) hini)
  obtain ⟨hx, hb, hml, ho, -⟩ := S
  obtain ⟨-, ⟨cellB, hcB, hoB, hclB⟩, hPc⟩ := hp
  intro T hT X
  obtain ⟨v, vm₁, ⟨U', l2, c2, s2⟩, hW₁, X', ⟨g', mk, t, L, e1, e2, hq, h1, hL, h2, h3⟩, st⟩ := vx_callVW X hx (C := C) (hh := hh) (bytes := bytes) (maxL := maxL) (ret := ret) ho hl hin hse hcode hy hK (by rw [hT]; exact hcB) hoB hclB hg (hsize.trans hml.symm) (argsL := As) (rest := rest) (fun sig h => hn.trans (hlen sig h)) hstack hW (by rw [hb]; exact hdg)
    (fun vm₁ hW₁ => ⟨hf.1, hf.2, hPc (T.setVm vm₁) hT hW₁⟩)
  dsimp only [Pt.U, Pt.locs, Pt.cells, Pt.slots] at X' e1 e2 h1 h2 h3 st
  subst h1; subst h2; subst h3
  exact ⟨v, (T.setVm vm₁).calling g' mk (Value.ref b :: As).toArray, t, U', L, hT, X', hL, e1, e2, hq, st⟩
section
variable {y : MethodName} {bytes cc : ByteArray} {maxL nL mc ms n index : Nat} {ret : Option FieldType} {ws : List Cond} {rm : Room} {Pc : Array Value → State → Prop} {Qc : Array Value → State → Outcome → State → Prop} {XC : String → State → State → Prop} {free : Addr → Prop} {Ts : List Cond} {own C : String} {b : Addr} {As rest : List Value} {g : JFrame}
theorem vx_runVX {hh : List (Nat × Nat × Nat × Nat)} (S : CallFix p m c cc nL s args Ts own) (hM : vx_Met l y ws rm Pc Qc XC mc ms free) (cw : vx_CVW R s args own C index y bytes maxL ret hh ws rm mc ms n) (hp : PreV s H C b Pc As)
    (hg : g.method = m) (hn : As.length = n) (hsize : g.locals.size = nL) (hstack : g.stack = As.reverse ++ .ref b :: rest) (hW : 2 * g.monitorRoom + (rest.map fun v => v.category).sum ≤ 8) (hdg : decode cc g.pc = .ok (.invokevirtual index, 3)) (hf : cells + mc ≤ R.cells ∧ slots + ms ≤ R.slots) :
    vx_Run p l e R s m args below meth c H locs cells slots mc ms g rest (Qc (Value.ref b :: As).toArray) XC free := by
  obtain ⟨⟨hrc, hrs, hfr, hlo, hws, hcw⟩, hcode, hini, hy, hlen, hl, hin, hse⟩ := cw
  have hK : vx_Back l R p e below s args y 3 8 (PreOf R mc ms Pc) (PostOf Qc mc ms free) (vx_Post XC mc ms free) := vx_backW (hh := hh) (bytes := bytes) (maxL := maxL) (ret := ret) hM hp.1 hrc hrs hfr hlo hws hcw (fun a' U hW => word_at hW (Or.inl (by first | rfl | simp [Cond.onTables, Cond.keeps, Cond.steady])) hini)
  obtain ⟨hx, hb, hml, ho, -⟩ := S
  obtain ⟨-, ⟨cellB, hcB, hoB, hclB⟩, hPc⟩ := hp
  intro T hT X
  rcases vx_callVX X hx (C := C) (hh := hh) (bytes := bytes) (maxL := maxL) (ret := ret) ho hl hin hse hcode hy hK (by rw [hT]; exact hcB) hoB hclB hg (hsize.trans hml.symm) (argsL := As) (rest := rest) (fun sig h => hn.trans (hlen sig h)) hstack hW (by rw [hb]; exact hdg)
    (fun vm₁ hW₁ => ⟨hf.1, hf.2, hPc (T.setVm vm₁) hT hW₁⟩) with ⟨v, vm₁, ⟨U', l2, c2, s2⟩, hW₁, X', ⟨g', mk, t, L, e1, e2, hq, h1, hL, h2, h3⟩, st⟩ | ⟨q, vm₁, ⟨U', l2, c2, s2⟩, hW₁, X', ⟨g', mk, t, L, E, ce, e1, e2, hq, hce, hcv, hcl, h1, hL, h2, h3⟩, st⟩
  · dsimp only [Pt.U, Pt.locs, Pt.cells, Pt.slots] at X' e1 e2 h1 h2 h3 st
    subst h1; subst h2; subst h3
    exact Or.inl ⟨v, (T.setVm vm₁).calling g' mk (Value.ref b :: As).toArray, t, U', L, hT, X', hL, e1, e2, hq, st⟩
  · dsimp only [Pt.U, Pt.locs, Pt.cells, Pt.slots] at X' e1 e2 h1 h2 h3 st hcl
    subst h1; subst h2; subst h3
    exact Or.inr ⟨q, (T.setVm vm₁).calling g' mk (Value.ref b :: As).toArray, t, U', L, E, ce, hT, X', hL, e1, e2, hq, hce, hcv, vx_cls hW₁ hcl, st⟩
theorem vx_runSX {hh : List (Nat × Nat × Nat × Nat)} (S : CallFix p m c cc nL s args Ts own) (hM : vx_Met l y ws rm Pc Qc XC mc ms free) (cw : vx_CSW R s args own index y bytes maxL ret hh ws rm mc ms n) (hp : PreS s H Pc As)
    (hg : g.method = m) (hn : As.length = n) (hsize : g.locals.size = nL) (hstack : g.stack = As.reverse ++ rest) (hW : 2 * g.monitorRoom + (rest.map fun v => v.category).sum ≤ 8) (hdg : decode cc g.pc = .ok (.invokestatic index, 3)) (hf : cells + mc ≤ R.cells ∧ slots + ms ≤ R.slots) :
    vx_Run p l e R s m args below meth c H locs cells slots mc ms g rest (Qc As.toArray) XC free := by
  obtain ⟨⟨hrc, hrs, hfr, hlo, hws, hcw⟩, hcode, hini, hy, hlen, hl, hstt⟩ := cw
  have hK : vx_Back l R p e below s args y 3 8 (PreOf R mc ms Pc) (PostOf Qc mc ms free) (vx_Post XC mc ms free) := vx_backW (hh := hh) (bytes := bytes) (maxL := maxL) (ret := ret) hM hp.1 hrc hrs hfr hlo hws hcw (fun a' U hW => word_at hW (Or.inl (by first | rfl | simp [Cond.onTables, Cond.keeps, Cond.steady])) hini)
  obtain ⟨hx, hb, hml, ho, -⟩ := S
  intro T hT X
  rcases vx_callSX X hx (hh := hh) (bytes := bytes) (maxL := maxL) (ret := ret) ho hl hstt hini hcode hy hK hg (hsize.trans hml.symm) (argsL := As) (rest := rest) (fun sig h => hn.trans (hlen sig h)) hstack hW (by rw [hb]; exact hdg)
    (fun vm₁ hW₁ => ⟨hf.1, hf.2, hp.2 (T.setVm vm₁) hT hW₁⟩) with ⟨v, vm₁, ⟨U', l2, c2, s2⟩, hW₁, X', ⟨g', mk, t, L, e1, e2, hq, h1, hL, h2, h3⟩, st⟩ | ⟨q, vm₁, ⟨U', l2, c2, s2⟩, hW₁, X', ⟨g', mk, t, L, E, ce, e1, e2, hq, hce, hcv, hcl, h1, hL, h2, h3⟩, st⟩
  · dsimp only [Pt.U, Pt.locs, Pt.cells, Pt.slots] at X' e1 e2 h1 h2 h3 st
    subst h1; subst h2; subst h3
    exact Or.inl ⟨v, (T.setVm vm₁).calling g' mk As.toArray, t, U', L, hT, X', hL, e1, e2, hq, st⟩
  · dsimp only [Pt.U, Pt.locs, Pt.cells, Pt.slots] at X' e1 e2 h1 h2 h3 st hcl
    subst h1; subst h2; subst h3
    exact Or.inr ⟨q, (T.setVm vm₁).calling g' mk As.toArray, t, U', L, E, ce, hT, X', hL, e1, e2, hq, hce, hcv, vx_cls hW₁ hcl, st⟩
end
end VXH
theorem vx_ofWH {l : Launch} {y : MethodName} {ws ws' : List Cond} {rm : Room} {Pc : Array Value → State → Prop} {Qc : Array Value → State → Outcome → State → Prop} {XC : String → State → State → Prop} {mc ms : Nat} {free : Addr → Prop} {cc : ByteArray} {maxL : Nat} {ret : Option FieldType} {hh : List (Nat × Nat × Nat × Nat)}
    (hy : plainName y.cls = true) (hw : ws = Cond.codeWith y cc maxL ret hh :: ws')
    (body : ∀ p e s m args below meth c s₁, BodyLoose p l y (headSpec ws rm) cc maxL ret e s m args below meth c s₁ → c.maxLocals = maxL → Pc args s →
      W p l e (headSpec ws rm).room s m args below meth c s.heap [] 0 0 (vx_MQ below Qc XC args s mc ms free) (entryFrame m args maxL)) : vx_Met l y ws rm Pc Qc XC mc ms free := by
  refine MetFree.of_bodyS (code := cc) (maxLocals := maxL) (ret := ret) hy ?_ ?_
  · intro args s m h hn
    obtain ⟨m9, meth, c, hn9, h1, h2, h3, h4, -, h5, h6, -⟩ := Cond.codeWith_spec (atoms_spec (ws := ws) h _ (by rw [hw]; exact List.mem_cons_self))
    cases hn.symm.trans hn9
    exact ⟨meth, c, h1, h2, h3, h4, h5, h6⟩
  · intro p e s m args below meth c s₁ B hml hP _
    have hh0 : s₁.heap = s.heap := by rw [B.state]; rfl
    obtain ⟨t, a1, o, b1, b2, b3⟩ := body p e s m args below meth c s₁ B hml hP s₁ hh0 (Stand.of_body B)
    exact ⟨t, o, a1, b1, b2, b3⟩
/-! ===== END ===== -/
end
section
/-! ===== BEGIN printed: names, fields, word lists, decode rows ===== -/
def RX0 : String := "KayfabeRing$Card"
def TX0 : u_T := fun k => match k with
  | 0 => ("KayfabeRing$Card", "matches", "[LKayfabeRing$Match;", true)
  | 1 => ("KayfabeRing$Card", "town", "I", false)
  | 2 => ("KayfabeRing$Card", "size", "I", false)
  | _ => ("KayfabeRing$Card", "isPlayed", "Z", false)
def tyX0 : Nat → FieldType := fun k => match k with
  | 0 => .array (.object "KayfabeRing$Match")
  | 1 => .int
  | 2 => .int
  | _ => .boolean
abbrev wsX00 : List Cond := u_ws RX0 TX0 4
theorem nmX0 : ∀ a, a < 4 → ∀ b, b < 4 → a ≠ b → (TX0 a).2.1 ≠ (TX0 b).2.1 := by decide +kernel
theorem tyX0_ok : ∀ k, k < 4 → parseFieldDescriptor (TX0 k).2.2.1 = some (tyX0 k) := by decide +kernel
abbrev cX0_init : ByteArray := prog_2_method_1_code
def yX0_init : MethodName := ⟨RX0, "<init>", "()V"⟩
abbrev cX0_hasMatch : ByteArray := prog_2_method_2_code
def yX0_hasMatch : MethodName := ⟨RX0, "hasMatch", "(I)Z"⟩
abbrev cX0_hasRoom : ByteArray := prog_2_method_3_code
def yX0_hasRoom : MethodName := ⟨RX0, "hasRoom", "(II)Z"⟩
abbrev cX0_hasWrestler : ByteArray := prog_2_method_4_code
def yX0_hasWrestler : MethodName := ⟨RX0, "hasWrestler", "(I)Z"⟩
abbrev cX0_hasTitle : ByteArray := prog_2_method_5_code
def yX0_hasTitle : MethodName := ⟨RX0, "hasTitle", "(I)Z"⟩
abbrev cX0_allMinutes : ByteArray := prog_2_method_6_code
def yX0_allMinutes : MethodName := ⟨RX0, "allMinutes", "()I"⟩
abbrev cX0_winsOf : ByteArray := prog_2_method_7_code
def yX0_winsOf : MethodName := ⟨RX0, "winsOf", "(II)I"⟩
abbrev cX0_remove : ByteArray := prog_2_method_8_code
def yX0_remove : MethodName := ⟨RX0, "remove", "(I)V"⟩
def RX1 : String := "KayfabeRing$Match"
def TX1 : u_T := fun k => match k with
  | 0 => ("KayfabeRing$Match", "first", "I", false)
  | 1 => ("KayfabeRing$Match", "second", "I", false)
  | 2 => ("KayfabeRing$Match", "firstWins", "Z", false)
  | 3 => ("KayfabeRing$Match", "minutes", "I", false)
  | 4 => ("KayfabeRing$Match", "title", "I", false)
  | _ => ("KayfabeRing$Match", "isReal", "Z", false)
def tyX1 : Nat → FieldType := fun k => match k with
  | 0 => .int
  | 1 => .int
  | 2 => .boolean
  | 3 => .int
  | 4 => .int
  | _ => .boolean
abbrev wsX10 : List Cond := u_ws RX1 TX1 6
theorem nmX1 : ∀ a, a < 6 → ∀ b, b < 6 → a ≠ b → (TX1 a).2.1 ≠ (TX1 b).2.1 := by decide +kernel
theorem tyX1_ok : ∀ k, k < 6 → parseFieldDescriptor (TX1 k).2.2.1 = some (tyX1 k) := by decide +kernel
abbrev cX1_init : ByteArray := prog_3_method_1_code
def yX1_init : MethodName := ⟨RX1, "<init>", "()V"⟩
abbrev cX1_become : ByteArray := prog_3_method_2_code
def yX1_become : MethodName := ⟨RX1, "become", "(IIZII)V"⟩
abbrev cX1_winner : ByteArray := prog_3_method_3_code
def yX1_winner : MethodName := ⟨RX1, "winner", "()I"⟩
abbrev cX1_loser : ByteArray := prog_3_method_4_code
def yX1_loser : MethodName := ⟨RX1, "loser", "()I"⟩
def RX2 : String := "KayfabeRing$Mender"
def TX2 : u_T := fun k => match k with
  | 0 => ("KayfabeRing$Mender", "seats", "[I", true)
  | 1 => ("KayfabeRing$Mender", "isOpen", "[Z", true)
  | 2 => ("KayfabeRing$Mender", "openSeats", "[I", true)
  | 3 => ("KayfabeRing$Mender", "bestComers", "[I", true)
  | 4 => ("KayfabeRing$Mender", "choices", "[I", true)
  | 5 => ("KayfabeRing$Mender", "candidates", "[I", true)
  | 6 => ("KayfabeRing$Mender", "worths", "[I", true)
  | 7 => ("KayfabeRing$Mender", "isTaken", "[Z", true)
  | 8 => ("KayfabeRing$Mender", "roster", "[LKayfabeRing$Wrestler;", false)
  | 9 => ("KayfabeRing$Mender", "card", "LKayfabeRing$Card;", false)
  | 10 => ("KayfabeRing$Mender", "day", "I", false)
  | 11 => ("KayfabeRing$Mender", "openCount", "I", false)
  | 12 => ("KayfabeRing$Mender", "candidateCount", "I", false)
  | _ => ("KayfabeRing$Mender", "bestSum", "I", false)
def tyX2 : Nat → FieldType := fun k => match k with
  | 0 => .array .int
  | 1 => .array .boolean
  | 2 => .array .int
  | 3 => .array .int
  | 4 => .array .int
  | 5 => .array .int
  | 6 => .array .int
  | 7 => .array .boolean
  | 8 => .array (.object "KayfabeRing$Wrestler")
  | 9 => .object "KayfabeRing$Card"
  | 10 => .int
  | 11 => .int
  | 12 => .int
  | _ => .int
abbrev wsX20 : List Cond := u_ws RX2 TX2 14
theorem nmX2 : ∀ a, a < 14 → ∀ b, b < 14 → a ≠ b → (TX2 a).2.1 ≠ (TX2 b).2.1 := by decide +kernel
theorem tyX2_ok : ∀ k, k < 14 → parseFieldDescriptor (TX2 k).2.2.1 = some (tyX2 k) := by decide +kernel
abbrev cX2_init : ByteArray := prog_4_method_1_code
def yX2_init : MethodName := ⟨RX2, "<init>", "()V"⟩
abbrev cX2_lookAt : ByteArray := prog_4_method_2_code
def yX2_lookAt : MethodName := ⟨RX2, "lookAt", "(LKayfabeRing$Card;I[LKayfabeRing$Wrestler;I)V"⟩
abbrev cX2_lookAtSeat : ByteArray := prog_4_method_3_code
def yX2_lookAtSeat : MethodName := ⟨RX2, "lookAtSeat", "(II)V"⟩
abbrev cX2_findBest : ByteArray := prog_4_method_4_code
def yX2_findBest : MethodName := ⟨RX2, "findBest", "()I"⟩
abbrev cX2_fillFrom : ByteArray := prog_4_method_5_code
def yX2_fillFrom : MethodName := ⟨RX2, "fillFrom", "(LKayfabeRing$Mender;II)V"⟩
abbrev cX2_keepIfBetter : ByteArray := prog_4_method_6_code
def yX2_keepIfBetter : MethodName := ⟨RX2, "keepIfBetter", "(I)V"⟩
abbrev cX2_isBarred : ByteArray := prog_4_method_7_code
def yX2_isBarred : MethodName := ⟨RX2, "isBarred", "(I)Z"⟩
abbrev cX2_carryOut : ByteArray := prog_4_method_8_code
def yX2_carryOut : MethodName := ⟨RX2, "carryOut", "()I"⟩
abbrev cX2_tryAllWays : ByteArray := prog_4_method_9_code
def yX2_tryAllWays : MethodName := ⟨RX2, "tryAllWays", "()I"⟩
abbrev cX2_goToNextWay : ByteArray := prog_4_method_10_code
def yX2_goToNextWay : MethodName := ⟨RX2, "goToNextWay", "()Z"⟩
abbrev cX2_sumOfWay : ByteArray := prog_4_method_11_code
def yX2_sumOfWay : MethodName := ⟨RX2, "sumOfWay", "()I"⟩
abbrev cX2_isAllowed : ByteArray := prog_4_method_12_code
def yX2_isAllowed : MethodName := ⟨RX2, "isAllowed", "(I)Z"⟩
def RX3 : String := "KayfabeRing$Title"
def TX3 : u_T := fun k => match k with
  | 0 => ("KayfabeRing$Title", "holders", "[I", true)
  | 1 => ("KayfabeRing$Title", "days", "[I", true)
  | 2 => ("KayfabeRing$Title", "length", "I", false)
  | _ => ("KayfabeRing$Title", "holder", "I", false)
def tyX3 : Nat → FieldType := fun k => match k with
  | 0 => .array .int
  | 1 => .array .int
  | 2 => .int
  | _ => .int
abbrev wsX30 : List Cond := u_ws RX3 TX3 4
theorem nmX3 : ∀ a, a < 4 → ∀ b, b < 4 → a ≠ b → (TX3 a).2.1 ≠ (TX3 b).2.1 := by decide +kernel
theorem tyX3_ok : ∀ k, k < 4 → parseFieldDescriptor (TX3 k).2.2.1 = some (tyX3 k) := by decide +kernel
abbrev cX3_init : ByteArray := prog_5_method_1_code
def yX3_init : MethodName := ⟨RX3, "<init>", "()V"⟩
abbrev cX3_goTo : ByteArray := prog_5_method_2_code
def yX3_goTo : MethodName := ⟨RX3, "goTo", "(II)V"⟩
def RX4 : String := "KayfabeRing$Wrestler"
def TX4 : u_T := fun k => match k with
  | 0 => ("KayfabeRing$Wrestler", "loves", "[I", true)
  | 1 => ("KayfabeRing$Wrestler", "clauseDays", "[I", true)
  | 2 => ("KayfabeRing$Wrestler", "wonAgainst", "[I", true)
  | 3 => ("KayfabeRing$Wrestler", "skill", "I", false)
  | 4 => ("KayfabeRing$Wrestler", "mic", "I", false)
  | 5 => ("KayfabeRing$Wrestler", "role", "I", false)
  | 6 => ("KayfabeRing$Wrestler", "strain", "I", false)
  | 7 => ("KayfabeRing$Wrestler", "hurtBefore", "I", false)
  | 8 => ("KayfabeRing$Wrestler", "heads", "I", false)
  | 9 => ("KayfabeRing$Wrestler", "won", "I", false)
  | 10 => ("KayfabeRing$Wrestler", "lost", "I", false)
  | 11 => ("KayfabeRing$Wrestler", "real", "I", false)
  | 12 => ("KayfabeRing$Wrestler", "protectedBefore", "I", false)
  | _ => ("KayfabeRing$Wrestler", "promoDay", "I", false)
def tyX4 : Nat → FieldType := fun k => match k with
  | 0 => .array .int
  | 1 => .array .int
  | 2 => .array .int
  | 3 => .int
  | 4 => .int
  | 5 => .int
  | 6 => .int
  | 7 => .int
  | 8 => .int
  | 9 => .int
  | 10 => .int
  | 11 => .int
  | 12 => .int
  | _ => .int
abbrev wsX40 : List Cond := u_ws RX4 TX4 14
theorem nmX4 : ∀ a, a < 14 → ∀ b, b < 14 → a ≠ b → (TX4 a).2.1 ≠ (TX4 b).2.1 := by decide +kernel
theorem tyX4_ok : ∀ k, k < 14 → parseFieldDescriptor (TX4 k).2.2.1 = some (tyX4 k) := by decide +kernel
abbrev cX4_init : ByteArray := prog_6_method_1_code
def yX4_init : MethodName := ⟨RX4, "<init>", "()V"⟩
abbrev cX4_isHurtOn : ByteArray := prog_6_method_2_code
def yX4_isHurtOn : MethodName := ⟨RX4, "isHurtOn", "(I)Z"⟩
abbrev cX4_isBarredFromLosing : ByteArray := prog_6_method_3_code
def yX4_isBarredFromLosing : MethodName := ⟨RX4, "isBarredFromLosing", "(II)Z"⟩
abbrev cX4_worthIn : ByteArray := prog_6_method_4_code
def yX4_worthIn : MethodName := ⟨RX4, "worthIn", "(I)I"⟩
abbrev cX4_addLove : ByteArray := prog_6_method_5_code
def yX4_addLove : MethodName := ⟨RX4, "addLove", "(II)V"⟩
abbrev cX4_turn : ByteArray := prog_6_method_6_code
def yX4_turn : MethodName := ⟨RX4, "turn", "()V"⟩
def RX5 : String := "KayfabeRing"
def TX5 : u_T := fun k => match k with
  | 0 => ("KayfabeRing", "roster", "[LKayfabeRing$Wrestler;", true)
  | 1 => ("KayfabeRing", "titles", "[LKayfabeRing$Title;", true)
  | 2 => ("KayfabeRing", "cards", "[LKayfabeRing$Card;", true)
  | 3 => ("KayfabeRing", "noCard", "LKayfabeRing$Card;", true)
  | 4 => ("KayfabeRing", "gates", "[I", true)
  | 5 => ("KayfabeRing", "mender", "LKayfabeRing$Mender;", true)
  | 6 => ("KayfabeRing", "rosterSize", "I", false)
  | 7 => ("KayfabeRing", "titleCount", "I", false)
  | _ => ("KayfabeRing", "today", "I", false)
def tyX5 : Nat → FieldType := fun k => match k with
  | 0 => .array (.object "KayfabeRing$Wrestler")
  | 1 => .array (.object "KayfabeRing$Title")
  | 2 => .array (.object "KayfabeRing$Card")
  | 3 => .object "KayfabeRing$Card"
  | 4 => .array .int
  | 5 => .object "KayfabeRing$Mender"
  | 6 => .int
  | 7 => .int
  | _ => .int
abbrev wsX50 : List Cond := u_ws RX5 TX5 9
theorem nmX5 : ∀ a, a < 9 → ∀ b, b < 9 → a ≠ b → (TX5 a).2.1 ≠ (TX5 b).2.1 := by decide +kernel
theorem tyX5_ok : ∀ k, k < 9 → parseFieldDescriptor (TX5 k).2.2.1 = some (tyX5 k) := by decide +kernel
abbrev cX5_init : ByteArray := prog_1_method_1_code
def yX5_init : MethodName := ⟨RX5, "<init>", "()V"⟩
abbrev cX5_wrestler : ByteArray := prog_1_method_2_code
def yX5_wrestler : MethodName := ⟨RX5, "wrestler", "(III)I"⟩
abbrev cX5_title : ByteArray := prog_1_method_3_code
def yX5_title : MethodName := ⟨RX5, "title", "()I"⟩
abbrev cX5_clause : ByteArray := prog_1_method_4_code
def yX5_clause : MethodName := ⟨RX5, "clause", "(III)I"⟩
abbrev cX5_protect : ByteArray := prog_1_method_5_code
def yX5_protect : MethodName := ⟨RX5, "protect", "(II)I"⟩
abbrev cX5_book : ByteArray := prog_1_method_6_code
def yX5_book : MethodName := ⟨RX5, "book", "(IIIIZII)I"⟩
abbrev cX5_strike : ByteArray := prog_1_method_7_code
def yX5_strike : MethodName := ⟨RX5, "strike", "(II)I"⟩
abbrev cX5_shoot : ByteArray := prog_1_method_8_code
def yX5_shoot : MethodName := ⟨RX5, "shoot", "(I)Z"⟩
abbrev cX5_hurt : ByteArray := prog_1_method_9_code
def yX5_hurt : MethodName := ⟨RX5, "hurt", "(II)I"⟩
abbrev cX5_head : ByteArray := prog_1_method_10_code
def yX5_head : MethodName := ⟨RX5, "head", "(I)I"⟩
abbrev cX5_mend : ByteArray := prog_1_method_11_code
def yX5_mend : MethodName := ⟨RX5, "mend", "()I"⟩
abbrev cX5_play : ByteArray := prog_1_method_12_code
def yX5_play : MethodName := ⟨RX5, "play", "()I"⟩
abbrev cX5_promo : ByteArray := prog_1_method_13_code
def yX5_promo : MethodName := ⟨RX5, "promo", "(III)I"⟩
abbrev cX5_pass : ByteArray := prog_1_method_14_code
def yX5_pass : MethodName := ⟨RX5, "pass", "()I"⟩
abbrev cX5_day : ByteArray := prog_1_method_15_code
def yX5_day : MethodName := ⟨RX5, "day", "()I"⟩
abbrev cX5_ofWrestler : ByteArray := prog_1_method_16_code
def yX5_ofWrestler : MethodName := ⟨RX5, "ofWrestler", "(II)I"⟩
abbrev cX5_love : ByteArray := prog_1_method_17_code
def yX5_love : MethodName := ⟨RX5, "love", "(II)I"⟩
abbrev cX5_worth : ByteArray := prog_1_method_18_code
def yX5_worth : MethodName := ⟨RX5, "worth", "(II)I"⟩
abbrev cX5_ofCard : ByteArray := prog_1_method_19_code
def yX5_ofCard : MethodName := ⟨RX5, "ofCard", "(II)I"⟩
abbrev cX5_ofMatch : ByteArray := prog_1_method_20_code
def yX5_ofMatch : MethodName := ⟨RX5, "ofMatch", "(III)I"⟩
abbrev cX5_lineage : ByteArray := prog_1_method_21_code
def yX5_lineage : MethodName := ⟨RX5, "lineage", "(IIZ)I"⟩
abbrev cX5_champion : ByteArray := prog_1_method_22_code
def yX5_champion : MethodName := ⟨RX5, "champion", "(I)I"⟩
abbrev cX5_beat : ByteArray := prog_1_method_23_code
def yX5_beat : MethodName := ⟨RX5, "beat", "(II)I"⟩
abbrev cX5_beatAnew : ByteArray := prog_1_method_24_code
def yX5_beatAnew : MethodName := ⟨RX5, "beatAnew", "(II)I"⟩
abbrev cX5_gate : ByteArray := prog_1_method_25_code
def yX5_gate : MethodName := ⟨RX5, "gate", "(I)I"⟩
abbrev cX5_mending : ByteArray := prog_1_method_26_code
def yX5_mending : MethodName := ⟨RX5, "mending", "()I"⟩
abbrev cX5_mendingAnew : ByteArray := prog_1_method_27_code
def yX5_mendingAnew : MethodName := ⟨RX5, "mendingAnew", "()I"⟩
abbrev cX5_isWithin : ByteArray := prog_1_method_28_code
def yX5_isWithin : MethodName := ⟨RX5, "isWithin", "(III)Z"⟩
abbrev cX5_isWrestler : ByteArray := prog_1_method_29_code
def yX5_isWrestler : MethodName := ⟨RX5, "isWrestler", "(I)Z"⟩
abbrev cX5_isTitle : ByteArray := prog_1_method_30_code
def yX5_isTitle : MethodName := ⟨RX5, "isTitle", "(I)Z"⟩
abbrev cX5_isTown : ByteArray := prog_1_method_31_code
def yX5_isTown : MethodName := ⟨RX5, "isTown", "(I)Z"⟩
abbrev cX5_cardOf : ByteArray := prog_1_method_32_code
def yX5_cardOf : MethodName := ⟨RX5, "cardOf", "(I)LKayfabeRing$Card;"⟩
abbrev cX5_cardToBook : ByteArray := prog_1_method_33_code
def yX5_cardToBook : MethodName := ⟨RX5, "cardToBook", "(I)LKayfabeRing$Card;"⟩
abbrev cX5_isAtStake : ByteArray := prog_1_method_34_code
def yX5_isAtStake : MethodName := ⟨RX5, "isAtStake", "(III)Z"⟩
abbrev cX5_injure : ByteArray := prog_1_method_35_code
def yX5_injure : MethodName := ⟨RX5, "injure", "(II)I"⟩
abbrev cX5_vacateTitlesOf : ByteArray := prog_1_method_36_code
def yX5_vacateTitlesOf : MethodName := ⟨RX5, "vacateTitlesOf", "(I)V"⟩
abbrev cX5_hasHurtOnes : ByteArray := prog_1_method_37_code
def yX5_hasHurtOnes : MethodName := ⟨RX5, "hasHurtOnes", "(LKayfabeRing$Card;)Z"⟩
abbrev cX5_playMatch : ByteArray := prog_1_method_38_code
def yX5_playMatch : MethodName := ⟨RX5, "playMatch", "(LKayfabeRing$Match;I)I"⟩
abbrev cX5_decide : ByteArray := prog_1_method_39_code
def yX5_decide : MethodName := ⟨RX5, "decide", "(III)V"⟩
abbrev cX5_handOver : ByteArray := prog_1_method_40_code
def yX5_handOver : MethodName := ⟨RX5, "handOver", "(LKayfabeRing$Match;)V"⟩
abbrev cX5_mendersView : ByteArray := prog_1_method_41_code
def yX5_mendersView : MethodName := ⟨RX5, "mendersView", "()LKayfabeRing$Mender;"⟩
def RX6 : String := "KayfabeRingModel"
def TX6 : u_T := fun k => match k with
  | 0 => ("KayfabeRingModel", "day", "I", false)
  | 1 => ("KayfabeRingModel", "skills", "[I", true)
  | 2 => ("KayfabeRingModel", "mics", "[I", true)
  | 3 => ("KayfabeRingModel", "roles", "[I", true)
  | 4 => ("KayfabeRingModel", "loves", "[I", true)
  | 5 => ("KayfabeRingModel", "strains", "[I", true)
  | 6 => ("KayfabeRingModel", "untils", "[I", true)
  | 7 => ("KayfabeRingModel", "heads", "[I", true)
  | 8 => ("KayfabeRingModel", "lost", "[I", true)
  | 9 => ("KayfabeRingModel", "reals", "[I", true)
  | 10 => ("KayfabeRingModel", "spoke", "[Z", true)
  | 11 => ("KayfabeRingModel", "clauses", "[I", true)
  | 12 => ("KayfabeRingModel", "protects", "[I", true)
  | 13 => ("KayfabeRingModel", "beaten", "[I", true)
  | 14 => ("KayfabeRingModel", "people", "I", false)
  | 15 => ("KayfabeRingModel", "champions", "[I", true)
  | 16 => ("KayfabeRingModel", "since", "[I", true)
  | 17 => ("KayfabeRingModel", "lengths", "[I", true)
  | 18 => ("KayfabeRingModel", "titles", "I", false)
  | 19 => ("KayfabeRingModel", "matches", "[I", true)
  | 20 => ("KayfabeRingModel", "many", "[I", true)
  | 21 => ("KayfabeRingModel", "towns", "[I", true)
  | 22 => ("KayfabeRingModel", "played", "[Z", true)
  | 23 => ("KayfabeRingModel", "gates", "[I", true)
  | 24 => ("KayfabeRingModel", "opens", "[I", true)
  | 25 => ("KayfabeRingModel", "best", "[I", true)
  | 26 => ("KayfabeRingModel", "tried", "[I", true)
  | 27 => ("KayfabeRingModel", "open", "I", false)
  | _ => ("KayfabeRingModel", "last", "I", false)
def tyX6 : Nat → FieldType := fun k => match k with
  | 0 => .int
  | 1 => .array .int
  | 2 => .array .int
  | 3 => .array .int
  | 4 => .array .int
  | 5 => .array .int
  | 6 => .array .int
  | 7 => .array .int
  | 8 => .array .int
  | 9 => .array .int
  | 10 => .array .boolean
  | 11 => .array .int
  | 12 => .array .int
  | 13 => .array .int
  | 14 => .int
  | 15 => .array .int
  | 16 => .array .int
  | 17 => .array .int
  | 18 => .int
  | 19 => .array .int
  | 20 => .array .int
  | 21 => .array .int
  | 22 => .array .boolean
  | 23 => .array .int
  | 24 => .array .int
  | 25 => .array .int
  | 26 => .array .int
  | 27 => .int
  | _ => .int
abbrev wsX60 : List Cond := u_ws RX6 TX6 29
theorem nmX6 : ∀ a, a < 29 → ∀ b, b < 29 → a ≠ b → (TX6 a).2.1 ≠ (TX6 b).2.1 := by decide +kernel
theorem tyX6_ok : ∀ k, k < 29 → parseFieldDescriptor (TX6 k).2.2.1 = some (tyX6 k) := by decide +kernel
abbrev cX6_init : ByteArray := prog_8_method_1_code
def yX6_init : MethodName := ⟨RX6, "<init>", "()V"⟩
abbrev cX6_thrown : ByteArray := prog_8_method_2_code
def yX6_thrown : MethodName := ⟨RX6, "thrown", "()I"⟩
abbrev cX6_in : ByteArray := prog_8_method_3_code
def yX6_in : MethodName := ⟨RX6, "in", "(III)Z"⟩
abbrev cX6_goes : ByteArray := prog_8_method_4_code
def yX6_goes : MethodName := ⟨RX6, "goes", "(ZZZ)Z"⟩
abbrev cX6_isTown : ByteArray := prog_8_method_5_code
def yX6_isTown : MethodName := ⟨RX6, "isTown", "(I)Z"⟩
abbrev cX6_isOne : ByteArray := prog_8_method_6_code
def yX6_isOne : MethodName := ⟨RX6, "isOne", "(I)Z"⟩
abbrev cX6_isTitle : ByteArray := prog_8_method_7_code
def yX6_isTitle : MethodName := ⟨RX6, "isTitle", "(I)Z"⟩
abbrev cX6_isMatch : ByteArray := prog_8_method_8_code
def yX6_isMatch : MethodName := ⟨RX6, "isMatch", "(II)Z"⟩
abbrev cX6_of : ByteArray := prog_8_method_9_code
def yX6_of : MethodName := ⟨RX6, "of", "(III)I"⟩
abbrev cX6_isHurt : ByteArray := prog_8_method_10_code
def yX6_isHurt : MethodName := ⟨RX6, "isHurt", "(II)Z"⟩
abbrev cX6_wrestler : ByteArray := prog_8_method_11_code
def yX6_wrestler : MethodName := ⟨RX6, "wrestler", "(III)I"⟩
abbrev cX6_title : ByteArray := prog_8_method_12_code
def yX6_title : MethodName := ⟨RX6, "title", "()I"⟩
abbrev cX6_clause : ByteArray := prog_8_method_13_code
def yX6_clause : MethodName := ⟨RX6, "clause", "(III)I"⟩
abbrev cX6_protect : ByteArray := prog_8_method_14_code
def yX6_protect : MethodName := ⟨RX6, "protect", "(II)I"⟩
abbrev cX6_isBarred : ByteArray := prog_8_method_15_code
def yX6_isBarred : MethodName := ⟨RX6, "isBarred", "(III)Z"⟩
abbrev cX6_championOf : ByteArray := prog_8_method_16_code
def yX6_championOf : MethodName := ⟨RX6, "championOf", "(I)I"⟩
abbrev cX6_crowns : ByteArray := prog_8_method_17_code
def yX6_crowns : MethodName := ⟨RX6, "crowns", "(II)V"⟩
abbrev cX6_isOnCard : ByteArray := prog_8_method_18_code
def yX6_isOnCard : MethodName := ⟨RX6, "isOnCard", "(II)Z"⟩
abbrev cX6_minutesOf : ByteArray := prog_8_method_19_code
def yX6_minutesOf : MethodName := ⟨RX6, "minutesOf", "(I)I"⟩
abbrev cX6_fits : ByteArray := prog_8_method_20_code
def yX6_fits : MethodName := ⟨RX6, "fits", "(IIIIII)Z"⟩
abbrev cX6_book : ByteArray := prog_8_method_21_code
def yX6_book : MethodName := ⟨RX6, "book", "(IIIIZII)I"⟩
abbrev cX6_strikes : ByteArray := prog_8_method_22_code
def yX6_strikes : MethodName := ⟨RX6, "strikes", "(II)V"⟩
abbrev cX6_strike : ByteArray := prog_8_method_23_code
def yX6_strike : MethodName := ⟨RX6, "strike", "(II)I"⟩
abbrev cX6_shoot : ByteArray := prog_8_method_24_code
def yX6_shoot : MethodName := ⟨RX6, "shoot", "(I)Z"⟩
abbrev cX6_hurts : ByteArray := prog_8_method_25_code
def yX6_hurts : MethodName := ⟨RX6, "hurts", "(II)I"⟩
abbrev cX6_hurt : ByteArray := prog_8_method_26_code
def yX6_hurt : MethodName := ⟨RX6, "hurt", "(II)I"⟩
abbrev cX6_head : ByteArray := prog_8_method_27_code
def yX6_head : MethodName := ⟨RX6, "head", "(I)I"⟩
abbrev cX6_finds : ByteArray := prog_8_method_28_code
def yX6_finds : MethodName := ⟨RX6, "finds", "()I"⟩
abbrev cX6_wouldBe : ByteArray := prog_8_method_29_code
def yX6_wouldBe : MethodName := ⟨RX6, "wouldBe", "(II)I"⟩
abbrev cX6_sumOf : ByteArray := prog_8_method_30_code
def yX6_sumOf : MethodName := ⟨RX6, "sumOf", "()I"⟩
abbrev cX6_mends : ByteArray := prog_8_method_31_code
def yX6_mends : MethodName := ⟨RX6, "mends", "()I"⟩
abbrev cX6_isMendable : ByteArray := prog_8_method_32_code
def yX6_isMendable : MethodName := ⟨RX6, "isMendable", "()Z"⟩
abbrev cX6_mend : ByteArray := prog_8_method_33_code
def yX6_mend : MethodName := ⟨RX6, "mend", "()I"⟩
abbrev cX6_mending : ByteArray := prog_8_method_34_code
def yX6_mending : MethodName := ⟨RX6, "mending", "()I"⟩
abbrev cX6_mendingAnew : ByteArray := prog_8_method_35_code
def yX6_mendingAnew : MethodName := ⟨RX6, "mendingAnew", "()I"⟩
abbrev cX6_loves : ByteArray := prog_8_method_36_code
def yX6_loves : MethodName := ⟨RX6, "loves", "(III)V"⟩
abbrev cX6_turns : ByteArray := prog_8_method_37_code
def yX6_turns : MethodName := ⟨RX6, "turns", "(I)V"⟩
abbrev cX6_worthOf : ByteArray := prog_8_method_38_code
def yX6_worthOf : MethodName := ⟨RX6, "worthOf", "(II)I"⟩
abbrev cX6_wins : ByteArray := prog_8_method_39_code
def yX6_wins : MethodName := ⟨RX6, "wins", "(III)V"⟩
abbrev cX6_playsMatch : ByteArray := prog_8_method_40_code
def yX6_playsMatch : MethodName := ⟨RX6, "playsMatch", "(I)I"⟩
abbrev cX6_play : ByteArray := prog_8_method_41_code
def yX6_play : MethodName := ⟨RX6, "play", "()I"⟩
abbrev cX6_promo : ByteArray := prog_8_method_42_code
def yX6_promo : MethodName := ⟨RX6, "promo", "(III)I"⟩
abbrev cX6_pass : ByteArray := prog_8_method_43_code
def yX6_pass : MethodName := ⟨RX6, "pass", "()I"⟩
abbrev cX6_day : ByteArray := prog_8_method_44_code
def yX6_day : MethodName := ⟨RX6, "day", "()I"⟩
abbrev cX6_wonOf : ByteArray := prog_8_method_45_code
def yX6_wonOf : MethodName := ⟨RX6, "wonOf", "(I)I"⟩
abbrev cX6_ofWrestler : ByteArray := prog_8_method_46_code
def yX6_ofWrestler : MethodName := ⟨RX6, "ofWrestler", "(II)I"⟩
abbrev cX6_love : ByteArray := prog_8_method_47_code
def yX6_love : MethodName := ⟨RX6, "love", "(II)I"⟩
abbrev cX6_worth : ByteArray := prog_8_method_48_code
def yX6_worth : MethodName := ⟨RX6, "worth", "(II)I"⟩
abbrev cX6_ofCard : ByteArray := prog_8_method_49_code
def yX6_ofCard : MethodName := ⟨RX6, "ofCard", "(II)I"⟩
abbrev cX6_ofMatch : ByteArray := prog_8_method_50_code
def yX6_ofMatch : MethodName := ⟨RX6, "ofMatch", "(III)I"⟩
abbrev cX6_lineage : ByteArray := prog_8_method_51_code
def yX6_lineage : MethodName := ⟨RX6, "lineage", "(IIZ)I"⟩
abbrev cX6_champion : ByteArray := prog_8_method_52_code
def yX6_champion : MethodName := ⟨RX6, "champion", "(I)I"⟩
abbrev cX6_beat : ByteArray := prog_8_method_53_code
def yX6_beat : MethodName := ⟨RX6, "beat", "(II)I"⟩
abbrev cX6_beatAnew : ByteArray := prog_8_method_54_code
def yX6_beatAnew : MethodName := ⟨RX6, "beatAnew", "(II)I"⟩
abbrev cX6_gate : ByteArray := prog_8_method_55_code
def yX6_gate : MethodName := ⟨RX6, "gate", "(I)I"⟩
def RJx145de : String := "java/io/Serializable"
def TJx145de : u_T := fun k => match k with
  | _ => ("", "", "", false)
def tyJx145de : Nat → FieldType := fun k => match k with
  | _ => .int
abbrev wsJx145de0 : List Cond := u_ws RJx145de TJx145de 0
theorem nmJx145de : ∀ a, a < 0 → ∀ b, b < 0 → a ≠ b → (TJx145de a).2.1 ≠ (TJx145de b).2.1 := by decide +kernel
theorem tyJx145de_ok : ∀ k, k < 0 → parseFieldDescriptor (TJx145de k).2.2.1 = some (tyJx145de k) := by decide +kernel
def RJ9 : String := "java/lang/Math"
def TJ9 : u_T := fun k => match k with
  | _ => ("", "", "", false)
def tyJ9 : Nat → FieldType := fun k => match k with
  | _ => .int
abbrev wsJ90 : List Cond := u_ws RJ9 TJ9 0
theorem nmJ9 : ∀ a, a < 0 → ∀ b, b < 0 → a ≠ b → (TJ9 a).2.1 ≠ (TJ9 b).2.1 := by decide +kernel
theorem tyJ9_ok : ∀ k, k < 0 → parseFieldDescriptor (TJ9 k).2.2.1 = some (tyJ9 k) := by decide +kernel
abbrev cJ9_abs_0f7a4 : ByteArray := prog_13_method_59_code
def yJ9_abs_0f7a4 : MethodName := ⟨RJ9, "abs", "(I)I"⟩
abbrev cJ9_max_7cf53 : ByteArray := prog_13_method_65_code
def yJ9_max_7cf53 : MethodName := ⟨RJ9, "max", "(II)I"⟩
abbrev cJ9_min_7cf53 : ByteArray := prog_13_method_69_code
def yJ9_min_7cf53 : MethodName := ⟨RJ9, "min", "(II)I"⟩
def RJ0 : String := "java/lang/String"
def TJ0 : u_T := fun k => match k with
  | _ => ("", "", "", false)
def tyJ0 : Nat → FieldType := fun k => match k with
  | _ => .int
abbrev wsJ00 : List Cond := u_ws RJ0 TJ0 0
theorem nmJ0 : ∀ a, a < 0 → ∀ b, b < 0 → a ≠ b → (TJ0 a).2.1 ≠ (TJ0 b).2.1 := by decide +kernel
theorem tyJ0_ok : ∀ k, k < 0 → parseFieldDescriptor (TJ0 k).2.2.1 = some (tyJ0 k) := by decide +kernel
def RJ7 : String := "java/util/Arrays"
def TJ7 : u_T := fun k => match k with
  | _ => ("", "", "", false)
def tyJ7 : Nat → FieldType := fun k => match k with
  | _ => .int
abbrev wsJ70 : List Cond := u_ws RJ7 TJ7 0
theorem nmJ7 : ∀ a, a < 0 → ∀ b, b < 0 → a ≠ b → (TJ7 a).2.1 ≠ (TJ7 b).2.1 := by decide +kernel
theorem tyJ7_ok : ∀ k, k < 0 → parseFieldDescriptor (TJ7 k).2.2.1 = some (tyJ7 k) := by decide +kernel
abbrev cJ7_fill_53178 : ByteArray := prog_17_method_103_code
def yJ7_fill_53178 : MethodName := ⟨RJ7, "fill", "([II)V"⟩
def RL : String := "KayfabeRingLaw"
abbrev cL_wrestler : ByteArray := method_3_code
def yL_wrestler : MethodName := ⟨RL, "wrestler", "(LKayfabeRing;III[J)I"⟩
abbrev cL_title : ByteArray := method_4_code
def yL_title : MethodName := ⟨RL, "title", "(LKayfabeRing;[J)I"⟩
abbrev cL_clause : ByteArray := method_5_code
def yL_clause : MethodName := ⟨RL, "clause", "(LKayfabeRing;III[J)I"⟩
abbrev cL_protect : ByteArray := method_6_code
def yL_protect : MethodName := ⟨RL, "protect", "(LKayfabeRing;II[J)I"⟩
abbrev cL_book : ByteArray := method_7_code
def yL_book : MethodName := ⟨RL, "book", "(LKayfabeRing;IIIIZII[J)I"⟩
abbrev cL_strike : ByteArray := method_8_code
def yL_strike : MethodName := ⟨RL, "strike", "(LKayfabeRing;II[J)I"⟩
abbrev cL_shoot : ByteArray := method_9_code
def yL_shoot : MethodName := ⟨RL, "shoot", "(LKayfabeRing;I[J)I"⟩
abbrev cL_hurt : ByteArray := method_10_code
def yL_hurt : MethodName := ⟨RL, "hurt", "(LKayfabeRing;II[J)I"⟩
abbrev cL_head : ByteArray := method_11_code
def yL_head : MethodName := ⟨RL, "head", "(LKayfabeRing;I[J)I"⟩
abbrev cL_mend : ByteArray := method_12_code
def yL_mend : MethodName := ⟨RL, "mend", "(LKayfabeRing;[J)I"⟩
abbrev cL_play : ByteArray := method_13_code
def yL_play : MethodName := ⟨RL, "play", "(LKayfabeRing;[J)I"⟩
abbrev cL_promo : ByteArray := method_14_code
def yL_promo : MethodName := ⟨RL, "promo", "(LKayfabeRing;III[J)I"⟩
abbrev cL_pass : ByteArray := method_15_code
def yL_pass : MethodName := ⟨RL, "pass", "(LKayfabeRing;[J)I"⟩
abbrev cL_ofWrestler : ByteArray := method_16_code
def yL_ofWrestler : MethodName := ⟨RL, "ofWrestler", "(LKayfabeRing;II[J)I"⟩
abbrev cL_love : ByteArray := method_17_code
def yL_love : MethodName := ⟨RL, "love", "(LKayfabeRing;II[J)I"⟩
abbrev cL_worth : ByteArray := method_18_code
def yL_worth : MethodName := ⟨RL, "worth", "(LKayfabeRing;II[J)I"⟩
abbrev cL_ofCard : ByteArray := method_19_code
def yL_ofCard : MethodName := ⟨RL, "ofCard", "(LKayfabeRing;II[J)I"⟩
abbrev cL_ofMatch : ByteArray := method_20_code
def yL_ofMatch : MethodName := ⟨RL, "ofMatch", "(LKayfabeRing;III[J)I"⟩
abbrev cL_lineage : ByteArray := method_21_code
def yL_lineage : MethodName := ⟨RL, "lineage", "(LKayfabeRing;IIZ[J)I"⟩
abbrev cL_champion : ByteArray := method_22_code
def yL_champion : MethodName := ⟨RL, "champion", "(LKayfabeRing;I[J)I"⟩
abbrev cL_beat : ByteArray := method_23_code
def yL_beat : MethodName := ⟨RL, "beat", "(LKayfabeRing;II[J)I"⟩
abbrev cL_beatAnew : ByteArray := method_24_code
def yL_beatAnew : MethodName := ⟨RL, "beatAnew", "(LKayfabeRing;II[J)I"⟩
abbrev cL_gate : ByteArray := method_25_code
def yL_gate : MethodName := ⟨RL, "gate", "(LKayfabeRing;I[J)I"⟩
abbrev cL_mending : ByteArray := method_26_code
def yL_mending : MethodName := ⟨RL, "mending", "(LKayfabeRing;[J)I"⟩
abbrev cL_mendingAnew : ByteArray := method_27_code
def yL_mendingAnew : MethodName := ⟨RL, "mendingAnew", "(LKayfabeRing;[J)I"⟩
abbrev cL_law : ByteArray := code
def yL_law : MethodName := ⟨RL, "law", "([I)Z"⟩
abbrev vwCl : List vw_C := [(RX0, TX0, 4), (RX1, TX1, 6), (RX2, TX2, 14), (RX3, TX3, 4), (RX4, TX4, 14), (RX5, TX5, 9), (RX6, TX6, 29)]
end
section
/-! the program as tables: by my own program (wip/whole/tools) out of the printed claim -/
abbrev RI : Type := Nat × Nat × Nat × Int
/-- 0: KayfabeRing$Card.<init>()V -/
def pg_c0 : List RI := [(3, 0, 0, 0), (43, 0, 0, 3), (3, 0, 0, 0), (0, 0, 0, 6), (39, 10, 0, 9), (36, 0, 0, 11), (0, 0, 0, 0), (2, 1, 0, 0), (1, 1, 0, 0), (0, 0, 0, 6), (18, 20, 3, 0), (3, 0, 0, 0), (34, 0, 0, 11), (1, 1, 0, 0), (37, 1, 0, 9), (13, 0, 0, 0), (42, 8, 1, 17), (32, 0, 0, 0), (5, 1, 0, 1), (16, 8, 0, 0), (47, 0, 0, 0)]
def pg_p0 : List Nat := [0, 1, 4, 5, 7, 10, 13, 14, 15, 16, 18, 21, 22, 25, 26, 29, 30, 33, 34, 37, 40]
def pg_w0 : List (List Nat) := [[], [78, 66, 67], [], [], [79], [118], [], [], [], [], [], [], [118], [], [79, 81, 47], [], [82], [], [], [], []]
/-- 1: KayfabeRing$Card.hasMatch(I)Z -/
def pg_c1 : List RI := [(1, 1, 0, 0), (17, 8, 2, 0), (1, 1, 0, 0), (3, 0, 0, 0), (33, 0, 2, 18), (18, 8, 3, 0), (0, 0, 0, 1), (16, 9, 0, 0), (0, 0, 0, 0), (45, 0, 0, 0)]
def pg_p1 : List Nat := [0, 1, 4, 5, 6, 9, 12, 13, 16, 17]
def pg_w1 : List (List Nat) := [[], [], [], [], [124], [], [], [], [], []]
/-- 2: KayfabeRing$Card.hasRoom(II)Z -/
def pg_c2 : List RI := [(3, 0, 0, 0), (33, 0, 3, 22), (17, 13, 1, 0), (3, 0, 0, 0), (33, 0, 2, 18), (0, 0, 0, 6), (18, 13, 3, 0), (3, 0, 0, 0), (41, 5, 0, 26), (1, 2, 0, 0), (6, 0, 0, 0), (0, 0, 0, 120), (18, 15, 5, 0), (0, 0, 0, 0), (45, 0, 0, 0), (3, 0, 0, 0), (33, 0, 2, 18), (17, 22, 0, 0), (3, 0, 0, 0), (33, 0, 1, 30), (1, 1, 0, 0), (18, 24, 1, 0), (0, 0, 0, 1), (16, 25, 0, 0), (0, 0, 0, 0), (45, 0, 0, 0)]
def pg_p2 : List Nat := [0, 1, 4, 7, 8, 11, 13, 16, 17, 20, 21, 22, 24, 27, 28, 29, 30, 33, 36, 37, 40, 41, 44, 45, 48, 49]
def pg_w2 : List (List Nat) := [[], [127], [], [], [124], [], [], [], [472], [], [], [], [], [], [], [], [124], [], [], [122], [], [], [], [], [], []]
/-- 3: KayfabeRing$Card.hasWrestler(I)Z -/
def pg_c3 : List RI := [(0, 0, 0, 0), (2, 2, 0, 0), (1, 2, 0, 0), (3, 0, 0, 0), (33, 0, 2, 18), (18, 24, 3, 0), (3, 0, 0, 0), (34, 0, 0, 11), (1, 2, 0, 0), (31, 0, 0, 0), (33, 1, 0, 33), (1, 1, 0, 0), (18, 20, 0, 0), (3, 0, 0, 0), (34, 0, 0, 11), (1, 2, 0, 0), (31, 0, 0, 0), (33, 1, 1, 36), (1, 1, 0, 0), (18, 22, 1, 0), (0, 0, 0, 1), (45, 0, 0, 0), (5, 2, 0, 1), (16, 2, 0, 0), (0, 0, 0, 0), (45, 0, 0, 0)]
def pg_p3 : List Nat := [0, 1, 2, 3, 4, 7, 10, 11, 14, 15, 16, 19, 20, 23, 24, 27, 28, 29, 32, 33, 36, 37, 38, 41, 44, 45]
def pg_w3 : List (List Nat) := [[], [], [], [], [124], [], [], [118], [], [], [88], [], [], [], [118], [], [], [92], [], [], [], [], [], [], [], []]
/-- 4: KayfabeRing$Card.hasTitle(I)Z -/
def pg_c4 : List RI := [(0, 0, 0, 0), (2, 2, 0, 0), (1, 2, 0, 0), (3, 0, 0, 0), (33, 0, 2, 18), (18, 20, 3, 0), (1, 1, 0, 0), (0, 0, 0, (-1)), (18, 18, 0, 0), (3, 0, 0, 0), (34, 0, 0, 11), (1, 2, 0, 0), (31, 0, 0, 0), (33, 1, 4, 39), (1, 1, 0, 0), (18, 18, 1, 0), (0, 0, 0, 1), (45, 0, 0, 0), (5, 2, 0, 1), (16, 2, 0, 0), (0, 0, 0, 0), (45, 0, 0, 0)]
def pg_p4 : List Nat := [0, 1, 2, 3, 4, 7, 10, 11, 12, 15, 16, 19, 20, 21, 24, 25, 28, 29, 30, 33, 36, 37]
def pg_w4 : List (List Nat) := [[], [], [], [], [124], [], [], [], [], [], [118], [], [], [100], [], [], [], [], [], [], [], []]
/-- 5: KayfabeRing$Card.allMinutes()I -/
def pg_c5 : List RI := [(0, 0, 0, 0), (2, 1, 0, 0), (0, 0, 0, 0), (2, 2, 0, 0), (1, 2, 0, 0), (3, 0, 0, 0), (33, 0, 2, 18), (18, 18, 3, 0), (1, 1, 0, 0), (3, 0, 0, 0), (34, 0, 0, 11), (1, 2, 0, 0), (31, 0, 0, 0), (33, 1, 3, 42), (6, 0, 0, 0), (2, 1, 0, 0), (5, 2, 0, 1), (16, 4, 0, 0), (1, 1, 0, 0), (45, 0, 0, 0)]
def pg_p5 : List Nat := [0, 1, 2, 3, 4, 5, 6, 9, 12, 13, 14, 17, 18, 19, 22, 23, 24, 27, 30, 31]
def pg_w5 : List (List Nat) := [[], [], [], [], [], [], [124], [], [], [], [118], [], [], [97], [], [], [], [], [], []]
/-- 6: KayfabeRing$Card.winsOf(II)I -/
def pg_c6 : List RI := [(0, 0, 0, 0), (2, 3, 0, 0), (0, 0, 0, 0), (2, 4, 0, 0), (1, 4, 0, 0), (3, 0, 0, 0), (33, 0, 2, 18), (18, 27, 3, 0), (3, 0, 0, 0), (34, 0, 0, 11), (1, 4, 0, 0), (31, 0, 0, 0), (4, 5, 0, 0), (3, 5, 0, 0), (33, 1, 5, 45), (17, 25, 1, 0), (3, 5, 0, 0), (41, 10, 0, 48), (1, 1, 0, 0), (18, 25, 1, 0), (3, 5, 0, 0), (41, 11, 0, 51), (1, 2, 0, 0), (18, 25, 1, 0), (5, 3, 0, 1), (5, 4, 0, 1), (16, 4, 0, 0), (1, 3, 0, 0), (45, 0, 0, 0)]
def pg_p6 : List Nat := [0, 1, 2, 3, 5, 7, 8, 11, 14, 15, 18, 20, 21, 23, 25, 28, 31, 33, 36, 37, 40, 42, 45, 46, 49, 52, 55, 58, 59]
def pg_w6 : List (List Nat) := [[], [], [], [], [], [], [124], [], [], [118], [], [], [], [], [103], [], [], [746], [], [], [], [747], [], [], [], [], [], [], []]
/-- 7: KayfabeRing$Card.remove(I)V -/
def pg_c7 : List RI := [(3, 0, 0, 0), (34, 0, 0, 11), (1, 1, 0, 0), (31, 0, 0, 0), (4, 2, 0, 0), (1, 1, 0, 0), (2, 3, 0, 0), (1, 3, 0, 0), (3, 0, 0, 0), (33, 0, 2, 18), (0, 0, 0, 1), (7, 0, 0, 0), (18, 25, 3, 0), (3, 0, 0, 0), (34, 0, 0, 11), (1, 3, 0, 0), (3, 0, 0, 0), (34, 0, 0, 11), (1, 3, 0, 0), (0, 0, 0, 1), (6, 0, 0, 0), (31, 0, 0, 0), (32, 0, 0, 0), (5, 3, 0, 1), (16, 7, 0, 0), (3, 0, 0, 0), (34, 0, 0, 11), (3, 0, 0, 0), (33, 0, 2, 18), (0, 0, 0, 1), (7, 0, 0, 0), (3, 2, 0, 0), (32, 0, 0, 0), (3, 0, 0, 0), (13, 0, 0, 0), (33, 0, 2, 18), (0, 0, 0, 1), (7, 0, 0, 0), (35, 0, 2, 18), (47, 0, 0, 0)]
def pg_p7 : List Nat := [0, 1, 4, 5, 6, 7, 8, 9, 10, 11, 14, 15, 16, 19, 20, 23, 24, 25, 28, 29, 30, 31, 32, 33, 36, 39, 40, 43, 44, 47, 48, 49, 50, 51, 52, 53, 56, 57, 58, 61]
def pg_w7 : List (List Nat) := [[], [118], [], [], [], [], [], [], [], [124], [], [], [], [], [118], [], [], [118], [], [], [], [], [], [], [], [], [118], [], [124], [], [], [], [], [], [], [124], [], [], [124], []]
/-- 8: KayfabeRing$Match.<init>()V -/
def pg_c8 : List RI := [(3, 0, 0, 0), (43, 0, 0, 1), (47, 0, 0, 0)]
def pg_p8 : List Nat := [0, 1, 4]
def pg_w8 : List (List Nat) := [[], [85, 66, 67], []]
/-- 9: KayfabeRing$Match.become(IIZII)V -/
def pg_c9 : List RI := [(3, 0, 0, 0), (1, 1, 0, 0), (35, 1, 0, 7), (3, 0, 0, 0), (1, 2, 0, 0), (35, 1, 1, 13), (3, 0, 0, 0), (1, 3, 0, 0), (50, 1, 2, 16), (3, 0, 0, 0), (1, 4, 0, 0), (35, 1, 3, 20), (3, 0, 0, 0), (1, 5, 0, 0), (35, 1, 4, 23), (3, 0, 0, 0), (0, 0, 0, 0), (50, 1, 5, 26), (47, 0, 0, 0)]
def pg_p9 : List Nat := [0, 1, 2, 5, 6, 7, 10, 11, 12, 15, 16, 18, 21, 22, 24, 27, 28, 29, 32]
def pg_w9 : List (List Nat) := [[], [], [86], [], [], [90], [], [], [94], [], [], [96], [], [], [99], [], [], [102], []]
/-- 10: KayfabeRing$Match.winner()I -/
def pg_c10 : List RI := [(3, 0, 0, 0), (33, 1, 2, 16), (17, 6, 0, 0), (3, 0, 0, 0), (33, 1, 0, 7), (16, 8, 0, 0), (3, 0, 0, 0), (33, 1, 1, 13), (45, 0, 0, 0)]
def pg_p10 : List Nat := [0, 1, 4, 7, 8, 11, 14, 15, 18]
def pg_w10 : List (List Nat) := [[], [94], [], [], [86], [], [], [90], []]
/-- 11: KayfabeRing$Match.loser()I -/
def pg_c11 : List RI := [(3, 0, 0, 0), (33, 1, 2, 16), (17, 6, 0, 0), (3, 0, 0, 0), (33, 1, 1, 13), (16, 8, 0, 0), (3, 0, 0, 0), (33, 1, 0, 7), (45, 0, 0, 0)]
def pg_p11 : List Nat := [0, 1, 4, 7, 8, 11, 14, 15, 18]
def pg_w11 : List (List Nat) := [[], [94], [], [], [90], [], [], [86], []]
/-- 12: KayfabeRing$Mender.<init>()V -/
def pg_c12 : List RI := [(3, 0, 0, 0), (43, 0, 0, 3), (3, 0, 0, 0), (0, 0, 0, 12), (38, 7, 0, 0), (36, 2, 0, 9), (3, 0, 0, 0), (0, 0, 0, 12), (38, 8, 0, 0), (36, 2, 1, 15), (3, 0, 0, 0), (0, 0, 0, 4), (38, 7, 0, 0), (36, 2, 2, 19), (3, 0, 0, 0), (0, 0, 0, 4), (38, 7, 0, 0), (36, 2, 3, 22), (3, 0, 0, 0), (0, 0, 0, 4), (38, 7, 0, 0), (36, 2, 4, 25), (3, 0, 0, 0), (0, 0, 0, 10), (38, 7, 0, 0), (36, 2, 5, 28), (3, 0, 0, 0), (0, 0, 0, 10), (38, 7, 0, 0), (36, 2, 6, 31), (3, 0, 0, 0), (0, 0, 0, 10), (38, 8, 0, 0), (36, 2, 7, 34), (3, 0, 0, 0), (0, 0, 0, 0), (39, 12, 0, 37), (36, 2, 8, 39), (3, 0, 0, 0), (37, 0, 0, 43), (13, 0, 0, 0), (42, 0, 0, 45), (36, 2, 9, 46), (47, 0, 0, 0)]
def pg_p12 : List Nat := [0, 1, 4, 5, 7, 9, 12, 13, 15, 17, 20, 21, 22, 24, 27, 28, 29, 31, 34, 35, 36, 38, 41, 42, 44, 46, 49, 50, 52, 54, 57, 58, 60, 62, 65, 66, 67, 70, 73, 74, 77, 78, 81, 84]
def pg_w12 : List (List Nat) := [[], [143, 66, 67], [], [], [191], [147], [], [], [192], [148], [], [], [191], [149], [], [], [191], [150], [], [], [191], [151], [], [], [191], [152], [], [], [191], [153], [], [], [192], [154], [], [], [144], [155], [], [145, 74, 46], [], [146], [156], []]
/-- 13: KayfabeRing$Mender.lookAt(LKayfabeRing$Card;I[LKayfabeRing$Wrestler;I)V -/
def pg_c13 : List RI := [(3, 0, 0, 0), (3, 1, 0, 0), (36, 2, 9, 46), (3, 0, 0, 0), (1, 2, 0, 0), (35, 2, 10, 50), (3, 0, 0, 0), (3, 3, 0, 0), (36, 2, 8, 39), (3, 0, 0, 0), (0, 0, 0, 0), (35, 2, 11, 54), (0, 0, 0, 0), (2, 5, 0, 0), (1, 5, 0, 0), (3, 0, 0, 0), (34, 2, 9, 46), (33, 0, 2, 57), (18, 45, 3, 0), (3, 0, 0, 0), (0, 0, 0, 2), (1, 5, 0, 0), (8, 0, 0, 0), (3, 0, 0, 0), (34, 2, 9, 46), (34, 0, 0, 60), (1, 5, 0, 0), (31, 0, 0, 0), (33, 1, 0, 64), (41, 14, 0, 69), (3, 0, 0, 0), (0, 0, 0, 2), (1, 5, 0, 0), (8, 0, 0, 0), (0, 0, 0, 1), (6, 0, 0, 0), (3, 0, 0, 0), (34, 2, 9, 46), (34, 0, 0, 60), (1, 5, 0, 0), (31, 0, 0, 0), (33, 1, 1, 73), (41, 14, 0, 69), (5, 5, 0, 1), (16, 14, 0, 0), (3, 0, 0, 0), (0, 0, 0, 0), (35, 2, 12, 76), (0, 0, 0, 0), (2, 5, 0, 0), (1, 5, 0, 0), (1, 4, 0, 0), (18, 99, 3, 0), (3, 0, 0, 0), (34, 2, 8, 39), (1, 5, 0, 0), (31, 0, 0, 0), (3, 0, 0, 0), (33, 2, 10, 50), (41, 27, 0, 79), (17, 97, 1, 0), (3, 0, 0, 0), (34, 2, 9, 46), (1, 5, 0, 0), (41, 3, 0, 83), (17, 97, 1, 0), (3, 0, 0, 0), (34, 2, 5, 28), (3, 0, 0, 0), (33, 2, 12, 76), (1, 5, 0, 0), (28, 0, 0, 0), (3, 0, 0, 0), (34, 2, 6, 31), (3, 0, 0, 0), (33, 2, 12, 76), (3, 0, 0, 0), (34, 2, 8, 39), (1, 5, 0, 0), (31, 0, 0, 0), (3, 0, 0, 0), (34, 2, 9, 46), (33, 0, 1, 86), (41, 29, 0, 89), (28, 0, 0, 0), (3, 0, 0, 0), (34, 2, 7, 34), (3, 0, 0, 0), (33, 2, 12, 76), (0, 0, 0, 0), (30, 0, 0, 0), (3, 0, 0, 0), (13, 0, 0, 0), (33, 2, 12, 76), (0, 0, 0, 1), (6, 0, 0, 0), (35, 2, 12, 76), (5, 5, 0, 1), (16, 50, 0, 0), (47, 0, 0, 0)]
def pg_p13 : List Nat := [0, 1, 2, 5, 6, 7, 10, 11, 12, 15, 16, 17, 20, 21, 23, 25, 26, 29, 32, 35, 36, 37, 39, 40, 41, 44, 47, 49, 50, 53, 56, 57, 58, 60, 61, 62, 63, 64, 67, 70, 72, 73, 76, 79, 82, 85, 86, 87, 90, 91, 93, 95, 97, 100, 101, 104, 106, 107, 108, 111, 114, 117, 118, 121, 123, 126, 129, 130, 133, 134, 137, 139, 140, 141, 144, 145, 148, 149, 152, 154, 155, 156, 159, 162, 165, 166, 167, 170, 171, 174, 175, 176, 177, 178, 181, 182, 183, 186, 189, 192]
def pg_w13 : List (List Nat) := [[], [], [156], [], [], [157], [], [], [155], [], [], [158], [], [], [], [], [156], [125], [], [], [], [], [], [], [156], [119], [], [], [87], [576], [], [], [], [], [], [], [], [156], [119], [], [], [91], [576], [], [], [], [], [160], [], [], [], [], [], [], [155], [], [], [], [157], [580], [], [], [156], [], [581], [], [], [152], [], [160], [], [], [], [153], [], [160], [], [155], [], [], [], [156], [121], [582], [], [], [154], [], [160], [], [], [], [], [160], [], [], [160], [], [], []]
/-- 14: KayfabeRing$Mender.lookAtSeat(II)V -/
def pg_c14 : List RI := [(3, 0, 0, 0), (34, 2, 1, 15), (1, 1, 0, 0), (3, 0, 0, 0), (34, 2, 8, 39), (1, 2, 0, 0), (31, 0, 0, 0), (3, 0, 0, 0), (33, 2, 10, 50), (41, 27, 0, 79), (30, 0, 0, 0), (3, 0, 0, 0), (34, 2, 0, 9), (1, 1, 0, 0), (3, 0, 0, 0), (34, 2, 1, 15), (1, 1, 0, 0), (29, 0, 0, 0), (17, 21, 0, 0), (0, 0, 0, (-1)), (16, 22, 0, 0), (1, 2, 0, 0), (28, 0, 0, 0), (3, 0, 0, 0), (34, 2, 1, 15), (1, 1, 0, 0), (29, 0, 0, 0), (17, 44, 0, 0), (3, 0, 0, 0), (33, 2, 11, 54), (0, 0, 0, 4), (18, 38, 3, 0), (3, 0, 0, 0), (34, 2, 2, 19), (3, 0, 0, 0), (33, 2, 11, 54), (1, 1, 0, 0), (28, 0, 0, 0), (3, 0, 0, 0), (13, 0, 0, 0), (33, 2, 11, 54), (0, 0, 0, 1), (6, 0, 0, 0), (35, 2, 11, 54), (47, 0, 0, 0)]
def pg_p14 : List Nat := [0, 1, 4, 5, 6, 9, 10, 11, 12, 15, 18, 19, 20, 23, 24, 25, 28, 29, 30, 33, 34, 37, 38, 39, 40, 43, 44, 45, 48, 49, 52, 53, 56, 57, 60, 61, 64, 65, 66, 67, 68, 71, 72, 73, 76]
def pg_w14 : List (List Nat) := [[], [148], [], [], [155], [], [], [], [157], [580], [], [], [147], [], [], [148], [], [], [], [], [], [], [], [], [148], [], [], [], [], [158], [], [], [], [149], [], [158], [], [], [], [], [158], [], [], [158], []]
/-- 15: KayfabeRing$Mender.findBest()I -/
def pg_c15 : List RI := [(3, 0, 0, 0), (0, 0, 0, (-1)), (35, 2, 13, 93), (3, 0, 0, 0), (0, 0, 0, 0), (0, 0, 0, 0), (40, 16, 0, 96), (3, 0, 0, 0), (33, 2, 13, 93), (45, 0, 0, 0)]
def pg_p15 : List Nat := [0, 1, 2, 5, 6, 7, 8, 11, 12, 15]
def pg_w15 : List (List Nat) := [[], [], [161], [], [], [], [595], [], [161], []]
/-- 16: KayfabeRing$Mender.fillFrom(LKayfabeRing$Mender;II)V -/
def pg_c16 : List RI := [(1, 1, 0, 0), (3, 0, 0, 0), (33, 2, 11, 54), (18, 7, 3, 0), (1, 1, 0, 0), (0, 0, 0, 4), (18, 11, 2, 0), (3, 0, 0, 0), (1, 2, 0, 0), (41, 17, 0, 100), (47, 0, 0, 0), (3, 0, 0, 0), (34, 2, 2, 19), (1, 1, 0, 0), (27, 0, 0, 0), (2, 3, 0, 0), (1, 3, 0, 0), (0, 0, 0, 2), (10, 0, 0, 0), (0, 0, 0, 1), (18, 30, 1, 0), (3, 0, 0, 0), (34, 2, 1, 15), (1, 3, 0, 0), (0, 0, 0, 1), (7, 0, 0, 0), (29, 0, 0, 0), (17, 30, 0, 0), (0, 0, 0, 1), (16, 31, 0, 0), (0, 0, 0, 0), (2, 4, 0, 0), (1, 4, 0, 0), (17, 44, 0, 0), (3, 0, 0, 0), (34, 2, 0, 9), (1, 3, 0, 0), (0, 0, 0, 1), (7, 0, 0, 0), (27, 0, 0, 0), (0, 0, 0, (-1)), (18, 44, 1, 0), (0, 0, 0, 1), (16, 45, 0, 0), (0, 0, 0, 0), (2, 5, 0, 0), (0, 0, 0, 0), (2, 6, 0, 0), (1, 6, 0, 0), (3, 0, 0, 0), (33, 2, 12, 76), (18, 97, 3, 0), (1, 5, 0, 0), (17, 97, 1, 0), (3, 0, 0, 0), (34, 2, 7, 34), (1, 6, 0, 0), (29, 0, 0, 0), (17, 60, 0, 0), (16, 95, 0, 0), (3, 0, 0, 0), (34, 2, 0, 9), (1, 3, 0, 0), (3, 0, 0, 0), (34, 2, 5, 28), (1, 6, 0, 0), (27, 0, 0, 0), (28, 0, 0, 0), (3, 0, 0, 0), (1, 3, 0, 0), (0, 0, 0, 2), (9, 0, 0, 0), (41, 18, 0, 104), (17, 95, 1, 0), (3, 0, 0, 0), (34, 2, 7, 34), (1, 6, 0, 0), (0, 0, 0, 1), (30, 0, 0, 0), (3, 0, 0, 0), (1, 1, 0, 0), (0, 0, 0, 1), (6, 0, 0, 0), (1, 2, 0, 0), (3, 0, 0, 0), (34, 2, 6, 31), (1, 6, 0, 0), (27, 0, 0, 0), (6, 0, 0, 0), (40, 16, 0, 96), (3, 0, 0, 0), (34, 2, 7, 34), (1, 6, 0, 0), (0, 0, 0, 0), (30, 0, 0, 0), (5, 6, 0, 1), (16, 48, 0, 0), (3, 0, 0, 0), (34, 2, 0, 9), (1, 3, 0, 0), (0, 0, 0, (-1)), (28, 0, 0, 0), (1, 4, 0, 0), (17, 106, 0, 0), (1, 5, 0, 0), (17, 112, 0, 0), (3, 0, 0, 0), (1, 1, 0, 0), (0, 0, 0, 1), (6, 0, 0, 0), (1, 2, 0, 0), (40, 16, 0, 96), (47, 0, 0, 0)]
def pg_p16 : List Nat := [0, 1, 2, 5, 8, 9, 10, 13, 14, 15, 18, 19, 20, 23, 24, 25, 26, 27, 28, 29, 30, 33, 34, 37, 38, 39, 40, 41, 44, 45, 48, 49, 51, 53, 56, 57, 60, 61, 62, 63, 64, 65, 68, 69, 72, 73, 75, 76, 78, 80, 81, 84, 87, 89, 92, 93, 96, 98, 99, 102, 105, 106, 109, 110, 111, 114, 116, 117, 118, 119, 120, 121, 122, 125, 128, 129, 132, 134, 135, 136, 137, 138, 139, 140, 141, 142, 145, 147, 148, 149, 152, 153, 156, 158, 159, 160, 163, 166, 167, 170, 171, 172, 173, 175, 178, 180, 183, 184, 185, 186, 187, 188, 191]
def pg_w16 : List (List Nat) := [[], [], [158], [], [], [], [], [], [], [598], [], [], [149], [], [], [], [], [], [], [], [], [], [148], [], [], [], [], [], [], [], [], [], [], [], [], [147], [], [], [], [], [], [], [], [], [], [], [], [], [], [], [160], [], [], [], [], [154], [], [], [], [], [], [147], [], [], [152], [], [], [], [], [], [], [], [602], [], [], [154], [], [], [], [], [], [], [], [], [], [153], [], [], [], [595], [], [154], [], [], [], [], [], [], [147], [], [], [], [], [], [], [], [], [], [], [], [], [595], []]
/-- 17: KayfabeRing$Mender.keepIfBetter(I)V -/
def pg_c17 : List RI := [(1, 1, 0, 0), (3, 0, 0, 0), (33, 2, 13, 93), (18, 5, 4, 0), (47, 0, 0, 0), (3, 0, 0, 0), (1, 1, 0, 0), (35, 2, 13, 93), (0, 0, 0, 0), (2, 2, 0, 0), (1, 2, 0, 0), (3, 0, 0, 0), (33, 2, 11, 54), (18, 30, 3, 0), (1, 2, 0, 0), (0, 0, 0, 4), (18, 30, 3, 0), (3, 0, 0, 0), (34, 2, 3, 22), (1, 2, 0, 0), (3, 0, 0, 0), (34, 2, 0, 9), (3, 0, 0, 0), (34, 2, 2, 19), (1, 2, 0, 0), (27, 0, 0, 0), (27, 0, 0, 0), (28, 0, 0, 0), (5, 2, 0, 1), (16, 10, 0, 0), (47, 0, 0, 0)]
def pg_p17 : List Nat := [0, 1, 2, 5, 8, 9, 10, 11, 14, 15, 16, 17, 18, 21, 24, 25, 26, 29, 30, 33, 34, 35, 38, 39, 42, 43, 44, 45, 46, 49, 52]
def pg_w17 : List (List Nat) := [[], [], [161], [], [], [], [], [161], [], [], [], [], [158], [], [], [], [], [], [150], [], [], [147], [], [149], [], [], [], [], [], [], []]
/-- 18: KayfabeRing$Mender.isBarred(I)Z -/
def pg_c18 : List RI := [(3, 0, 0, 0), (34, 2, 0, 9), (0, 0, 0, 2), (1, 1, 0, 0), (8, 0, 0, 0), (27, 0, 0, 0), (2, 2, 0, 0), (3, 0, 0, 0), (34, 2, 0, 9), (0, 0, 0, 2), (1, 1, 0, 0), (8, 0, 0, 0), (0, 0, 0, 1), (6, 0, 0, 0), (27, 0, 0, 0), (2, 3, 0, 0), (1, 2, 0, 0), (0, 0, 0, (-1)), (18, 22, 0, 0), (1, 3, 0, 0), (0, 0, 0, (-1)), (18, 24, 1, 0), (0, 0, 0, 0), (45, 0, 0, 0), (3, 0, 0, 0), (34, 2, 9, 46), (34, 0, 0, 60), (1, 1, 0, 0), (31, 0, 0, 0), (33, 1, 2, 107), (2, 4, 0, 0), (3, 0, 0, 0), (34, 2, 8, 39), (1, 4, 0, 0), (17, 37, 0, 0), (1, 3, 0, 0), (16, 38, 0, 0), (1, 2, 0, 0), (31, 0, 0, 0), (4, 5, 0, 0), (3, 5, 0, 0), (1, 4, 0, 0), (17, 45, 0, 0), (1, 2, 0, 0), (16, 46, 0, 0), (1, 3, 0, 0), (3, 0, 0, 0), (33, 2, 10, 50), (41, 28, 0, 111), (45, 0, 0, 0)]
def pg_p18 : List Nat := [0, 1, 4, 5, 6, 7, 8, 9, 10, 13, 14, 15, 16, 17, 18, 19, 20, 21, 22, 25, 26, 27, 30, 31, 32, 33, 36, 39, 40, 41, 44, 46, 47, 50, 52, 55, 56, 59, 60, 61, 63, 65, 67, 70, 71, 74, 75, 76, 79, 82]
def pg_w18 : List (List Nat) := [[], [147], [], [], [], [], [], [], [147], [], [], [], [], [], [], [], [], [], [], [], [], [], [], [], [], [156], [119], [], [], [95], [], [], [155], [], [], [], [], [], [], [], [], [], [], [], [], [], [], [157], [606], []]
/-- 19: KayfabeRing$Mender.carryOut()I -/
def pg_c19 : List RI := [(0, 0, 0, 0), (2, 1, 0, 0), (3, 0, 0, 0), (33, 2, 11, 54), (0, 0, 0, 4), (52, 0, 0, 115), (0, 0, 0, 1), (7, 0, 0, 0), (2, 2, 0, 0), (1, 2, 0, 0), (17, 77, 2, 0), (3, 0, 0, 0), (34, 2, 2, 19), (1, 2, 0, 0), (27, 0, 0, 0), (2, 3, 0, 0), (1, 3, 0, 0), (0, 0, 0, 2), (10, 0, 0, 0), (17, 22, 1, 0), (0, 0, 0, 1), (16, 23, 0, 0), (0, 0, 0, 0), (2, 4, 0, 0), (3, 0, 0, 0), (34, 2, 3, 22), (1, 2, 0, 0), (27, 0, 0, 0), (0, 0, 0, (-1)), (18, 48, 1, 0), (1, 4, 0, 0), (17, 40, 0, 0), (3, 0, 0, 0), (34, 2, 1, 15), (1, 3, 0, 0), (0, 0, 0, 1), (6, 0, 0, 0), (29, 0, 0, 0), (17, 40, 0, 0), (16, 75, 0, 0), (3, 0, 0, 0), (34, 2, 9, 46), (1, 3, 0, 0), (0, 0, 0, 2), (9, 0, 0, 0), (41, 7, 0, 121), (5, 1, 0, 1), (16, 75, 0, 0), (1, 4, 0, 0), (17, 63, 0, 0), (3, 0, 0, 0), (34, 2, 9, 46), (34, 0, 0, 60), (1, 3, 0, 0), (0, 0, 0, 2), (9, 0, 0, 0), (31, 0, 0, 0), (3, 0, 0, 0), (34, 2, 3, 22), (1, 2, 0, 0), (27, 0, 0, 0), (35, 1, 0, 64), (16, 75, 0, 0), (3, 0, 0, 0), (34, 2, 9, 46), (34, 0, 0, 60), (1, 3, 0, 0), (0, 0, 0, 2), (9, 0, 0, 0), (31, 0, 0, 0), (3, 0, 0, 0), (34, 2, 3, 22), (1, 2, 0, 0), (27, 0, 0, 0), (35, 1, 1, 73), (5, 2, 0, (-1)), (16, 9, 0, 0), (1, 1, 0, 0), (45, 0, 0, 0)]
def pg_p19 : List Nat := [0, 1, 2, 3, 6, 7, 10, 11, 12, 13, 14, 17, 18, 21, 22, 23, 24, 25, 26, 27, 30, 31, 34, 35, 37, 38, 41, 42, 43, 44, 47, 49, 52, 53, 56, 57, 58, 59, 60, 63, 66, 67, 70, 71, 72, 73, 76, 79, 82, 84, 87, 88, 91, 94, 95, 96, 97, 98, 99, 102, 103, 104, 107, 110, 111, 114, 117, 118, 119, 120, 121, 122, 125, 126, 127, 130, 133, 136, 137]
def pg_w19 : List (List Nat) := [[], [], [], [158], [], [611, 612, 59, 613], [], [], [], [], [], [], [149], [], [], [], [], [], [], [], [], [], [], [], [], [150], [], [], [], [], [], [], [], [148], [], [], [], [], [], [], [], [156], [], [], [], [614], [], [], [], [], [], [156], [119], [], [], [], [], [], [150], [], [], [87], [], [], [156], [119], [], [], [], [], [], [150], [], [], [91], [], [], [], []]
/-- 20: KayfabeRing$Mender.tryAllWays()I -/
def pg_c20 : List RI := [(3, 0, 0, 0), (34, 2, 4, 25), (0, 0, 0, 0), (40, 131, 0, 124), (0, 0, 0, 0), (2, 1, 0, 0), (0, 0, 0, 1), (2, 2, 0, 0), (0, 0, 0, 0), (2, 3, 0, 0), (1, 2, 0, 0), (17, 25, 0, 0), (1, 3, 0, 0), (0, 0, 130, 1000000), (18, 25, 3, 0), (1, 1, 0, 0), (3, 0, 0, 0), (41, 22, 0, 131), (51, 0, 0, 135), (2, 1, 0, 0), (3, 0, 0, 0), (41, 21, 0, 138), (2, 2, 0, 0), (5, 3, 0, 1), (16, 10, 0, 0), (1, 1, 0, 0), (45, 0, 0, 0)]
def pg_p20 : List Nat := [0, 1, 4, 5, 8, 9, 10, 11, 12, 13, 14, 15, 18, 19, 21, 24, 25, 26, 29, 32, 33, 34, 37, 38, 41, 44, 45]
def pg_w20 : List (List Nat) := [[], [151], [], [774], [], [], [], [], [], [], [], [], [], [775], [], [], [], [776], [784, 543, 59, 544], [], [], [785], [], [], [], [], []]
/-- 21: KayfabeRing$Mender.goToNextWay()Z -/
def pg_c21 : List RI := [(0, 0, 0, 0), (2, 1, 0, 0), (1, 1, 0, 0), (3, 0, 0, 0), (33, 2, 11, 54), (18, 33, 3, 0), (1, 1, 0, 0), (0, 0, 0, 4), (18, 33, 3, 0), (3, 0, 0, 0), (34, 2, 4, 25), (1, 1, 0, 0), (27, 0, 0, 0), (3, 0, 0, 0), (33, 2, 12, 76), (18, 26, 3, 0), (3, 0, 0, 0), (34, 2, 4, 25), (1, 1, 0, 0), (14, 0, 0, 0), (27, 0, 0, 0), (0, 0, 0, 1), (6, 0, 0, 0), (28, 0, 0, 0), (0, 0, 0, 1), (45, 0, 0, 0), (3, 0, 0, 0), (34, 2, 4, 25), (1, 1, 0, 0), (0, 0, 0, 0), (28, 0, 0, 0), (5, 1, 0, 1), (16, 2, 0, 0), (0, 0, 0, 0), (45, 0, 0, 0)]
def pg_p21 : List Nat := [0, 1, 2, 3, 4, 7, 10, 11, 12, 15, 16, 19, 20, 21, 22, 25, 28, 29, 32, 33, 34, 35, 36, 37, 38, 39, 40, 41, 44, 45, 46, 47, 50, 53, 54]
def pg_w21 : List (List Nat) := [[], [], [], [], [158], [], [], [], [], [], [151], [], [], [], [160], [], [], [151], [], [], [], [], [], [], [], [], [], [151], [], [], [], [], [], [], []]
/-- 22: KayfabeRing$Mender.sumOfWay()I -/
def pg_c22 : List RI := [(3, 0, 0, 0), (33, 2, 11, 54), (0, 0, 0, 4), (52, 0, 0, 115), (2, 1, 0, 0), (0, 0, 0, 0), (2, 2, 0, 0), (1, 2, 0, 0), (1, 1, 0, 0), (18, 35, 3, 0), (3, 0, 0, 0), (34, 2, 0, 9), (3, 0, 0, 0), (34, 2, 2, 19), (1, 2, 0, 0), (27, 0, 0, 0), (3, 0, 0, 0), (34, 2, 4, 25), (1, 2, 0, 0), (27, 0, 0, 0), (3, 0, 0, 0), (33, 2, 12, 76), (18, 31, 3, 0), (3, 0, 0, 0), (34, 2, 5, 28), (3, 0, 0, 0), (34, 2, 4, 25), (1, 2, 0, 0), (27, 0, 0, 0), (27, 0, 0, 0), (16, 32, 0, 0), (0, 0, 0, (-1)), (28, 0, 0, 0), (5, 2, 0, 1), (16, 7, 0, 0), (0, 0, 0, 0), (2, 2, 0, 0), (0, 0, 0, 0), (2, 3, 0, 0), (1, 3, 0, 0), (1, 1, 0, 0), (18, 69, 3, 0), (3, 0, 0, 0), (1, 3, 0, 0), (41, 23, 0, 142), (17, 48, 1, 0), (0, 0, 0, (-1)), (45, 0, 0, 0), (1, 2, 0, 0), (3, 0, 0, 0), (34, 2, 4, 25), (1, 3, 0, 0), (27, 0, 0, 0), (3, 0, 0, 0), (33, 2, 12, 76), (18, 64, 3, 0), (3, 0, 0, 0), (34, 2, 6, 31), (3, 0, 0, 0), (34, 2, 4, 25), (1, 3, 0, 0), (27, 0, 0, 0), (27, 0, 0, 0), (16, 65, 0, 0), (0, 0, 0, 0), (6, 0, 0, 0), (2, 2, 0, 0), (5, 3, 0, 1), (16, 39, 0, 0), (1, 2, 0, 0), (45, 0, 0, 0)]
def pg_p22 : List Nat := [0, 1, 4, 5, 8, 9, 10, 11, 12, 13, 16, 17, 20, 21, 24, 25, 26, 27, 30, 31, 32, 33, 36, 39, 40, 43, 44, 47, 48, 49, 50, 53, 54, 55, 58, 61, 62, 63, 64, 65, 66, 67, 70, 71, 72, 75, 78, 79, 80, 81, 82, 85, 86, 87, 88, 91, 94, 95, 98, 99, 102, 103, 104, 105, 108, 109, 110, 111, 114, 117, 118]
def pg_w22 : List (List Nat) := [[], [158], [], [611, 612, 59, 613], [], [], [], [], [], [], [], [147], [], [149], [], [], [], [151], [], [], [], [160], [], [], [152], [], [151], [], [], [], [], [], [], [], [], [], [], [], [], [], [], [], [], [], [780], [], [], [], [], [], [151], [], [], [], [160], [], [], [153], [], [151], [], [], [], [], [], [], [], [], [], [], []]
/-- 23: KayfabeRing$Mender.isAllowed(I)Z -/
def pg_c23 : List RI := [(3, 0, 0, 0), (34, 2, 2, 19), (1, 1, 0, 0), (27, 0, 0, 0), (2, 2, 0, 0), (1, 2, 0, 0), (0, 0, 0, 2), (10, 0, 0, 0), (17, 13, 1, 0), (1, 2, 0, 0), (0, 0, 0, 1), (6, 0, 0, 0), (16, 16, 0, 0), (1, 2, 0, 0), (0, 0, 0, 1), (7, 0, 0, 0), (2, 3, 0, 0), (3, 0, 0, 0), (34, 2, 1, 15), (1, 3, 0, 0), (29, 0, 0, 0), (17, 43, 0, 0), (3, 0, 0, 0), (34, 2, 0, 9), (1, 2, 0, 0), (27, 0, 0, 0), (0, 0, 0, (-1)), (18, 30, 1, 0), (0, 0, 0, 1), (16, 31, 0, 0), (0, 0, 0, 0), (3, 0, 0, 0), (34, 2, 0, 9), (1, 3, 0, 0), (27, 0, 0, 0), (0, 0, 0, (-1)), (18, 39, 1, 0), (0, 0, 0, 1), (16, 40, 0, 0), (0, 0, 0, 0), (18, 43, 0, 0), (0, 0, 0, 0), (45, 0, 0, 0), (0, 0, 0, 0), (2, 4, 0, 0), (1, 4, 0, 0), (1, 1, 0, 0), (18, 67, 3, 0), (3, 0, 0, 0), (34, 2, 0, 9), (1, 2, 0, 0), (27, 0, 0, 0), (0, 0, 0, (-1)), (18, 65, 0, 0), (3, 0, 0, 0), (34, 2, 4, 25), (1, 4, 0, 0), (27, 0, 0, 0), (3, 0, 0, 0), (34, 2, 4, 25), (1, 1, 0, 0), (27, 0, 0, 0), (18, 65, 1, 0), (0, 0, 0, 0), (45, 0, 0, 0), (5, 4, 0, 1), (16, 45, 0, 0), (3, 0, 0, 0), (1, 2, 0, 0), (0, 0, 0, 2), (9, 0, 0, 0), (41, 18, 0, 104), (17, 75, 1, 0), (0, 0, 0, 1), (16, 76, 0, 0), (0, 0, 0, 0), (45, 0, 0, 0)]
def pg_p23 : List Nat := [0, 1, 4, 5, 6, 7, 8, 9, 10, 13, 14, 15, 16, 19, 20, 21, 22, 23, 24, 27, 28, 29, 32, 33, 36, 37, 38, 39, 42, 43, 46, 47, 48, 51, 52, 53, 54, 57, 58, 61, 62, 65, 66, 67, 68, 70, 72, 73, 76, 77, 80, 81, 82, 83, 86, 87, 90, 92, 93, 94, 97, 98, 99, 102, 103, 104, 107, 110, 111, 112, 113, 114, 117, 120, 121, 124, 125]
def pg_w23 : List (List Nat) := [[], [149], [], [], [], [], [], [], [], [], [], [], [], [], [], [], [], [], [148], [], [], [], [], [147], [], [], [], [], [], [], [], [], [147], [], [], [], [], [], [], [], [], [], [], [], [], [], [], [], [], [147], [], [], [], [], [], [151], [], [], [], [151], [], [], [], [], [], [], [], [], [], [], [], [602], [], [], [], [], []]
/-- 24: KayfabeRing$Title.<init>()V -/
def pg_c24 : List RI := [(3, 0, 0, 0), (43, 0, 0, 3), (3, 0, 0, 0), (0, 0, 0, 512), (38, 7, 0, 0), (36, 3, 0, 9), (3, 0, 0, 0), (0, 0, 0, 512), (38, 7, 0, 0), (36, 3, 1, 15), (3, 0, 0, 0), (0, 0, 0, (-1)), (35, 3, 3, 18), (47, 0, 0, 0)]
def pg_p24 : List Nat := [0, 1, 4, 5, 8, 10, 13, 14, 17, 19, 22, 23, 24, 27]
def pg_w24 : List (List Nat) := [[], [257, 66, 67], [], [], [191], [258], [], [], [191], [260], [], [], [264], []]
/-- 25: KayfabeRing$Title.goTo(II)V -/
def pg_c25 : List RI := [(3, 0, 0, 0), (1, 1, 0, 0), (35, 3, 3, 18), (3, 0, 0, 0), (33, 3, 2, 22), (0, 0, 0, 512), (18, 25, 3, 0), (3, 0, 0, 0), (34, 3, 0, 9), (3, 0, 0, 0), (33, 3, 2, 22), (1, 1, 0, 0), (28, 0, 0, 0), (3, 0, 0, 0), (34, 3, 1, 15), (3, 0, 0, 0), (33, 3, 2, 22), (1, 2, 0, 0), (28, 0, 0, 0), (3, 0, 0, 0), (13, 0, 0, 0), (33, 3, 2, 22), (0, 0, 0, 1), (6, 0, 0, 0), (35, 3, 2, 22), (47, 0, 0, 0)]
def pg_p25 : List Nat := [0, 1, 2, 5, 6, 9, 12, 15, 16, 19, 20, 23, 24, 25, 26, 29, 30, 33, 34, 35, 36, 37, 40, 41, 42, 45]
def pg_w25 : List (List Nat) := [[], [], [264], [], [262], [], [], [], [258], [], [262], [], [], [], [260], [], [262], [], [], [], [], [262], [], [], [262], []]
/-- 26: KayfabeRing$Wrestler.<init>()V -/
def pg_c26 : List RI := [(3, 0, 0, 0), (43, 0, 0, 3), (3, 0, 0, 0), (0, 0, 0, 4), (38, 7, 0, 0), (36, 4, 0, 9), (3, 0, 0, 0), (0, 0, 0, 10), (38, 7, 0, 0), (36, 4, 1, 15), (3, 0, 0, 0), (0, 0, 0, 10), (38, 7, 0, 0), (36, 4, 2, 18), (3, 0, 0, 0), (0, 0, 0, (-1)), (35, 4, 13, 21), (3, 0, 0, 0), (34, 4, 1, 15), (0, 0, 0, (-1)), (40, 131, 0, 25), (47, 0, 0, 0)]
def pg_p26 : List Nat := [0, 1, 4, 5, 6, 8, 11, 12, 14, 16, 19, 20, 22, 24, 27, 28, 29, 32, 33, 36, 37, 40]
def pg_w26 : List (List Nat) := [[], [197, 66, 67], [], [], [191], [201], [], [], [191], [203], [], [], [191], [205], [], [], [222], [], [203], [], [198], []]
/-- 27: KayfabeRing$Wrestler.isHurtOn(I)Z -/
def pg_c27 : List RI := [(1, 1, 0, 0), (3, 0, 0, 0), (33, 4, 7, 31), (18, 6, 3, 0), (0, 0, 0, 1), (16, 7, 0, 0), (0, 0, 0, 0), (45, 0, 0, 0)]
def pg_p27 : List Nat := [0, 1, 2, 5, 8, 9, 12, 13]
def pg_w27 : List (List Nat) := [[], [], [214], [], [], [], [], []]
/-- 28: KayfabeRing$Wrestler.isBarredFromLosing(II)Z -/
def pg_c28 : List RI := [(1, 2, 0, 0), (3, 0, 0, 0), (34, 4, 1, 15), (1, 1, 0, 0), (27, 0, 0, 0), (18, 10, 5, 0), (1, 2, 0, 0), (3, 0, 0, 0), (33, 4, 12, 34), (18, 12, 3, 0), (0, 0, 0, 1), (16, 13, 0, 0), (0, 0, 0, 0), (45, 0, 0, 0)]
def pg_p28 : List Nat := [0, 1, 2, 5, 6, 7, 10, 11, 12, 15, 18, 19, 22, 23]
def pg_w28 : List (List Nat) := [[], [], [203], [], [], [], [], [], [220], [], [], [], [], []]
/-- 29: KayfabeRing$Wrestler.worthIn(I)I -/
def pg_c29 : List RI := [(0, 0, 0, 1), (3, 0, 0, 0), (33, 4, 3, 37), (3, 0, 0, 0), (34, 4, 0, 9), (1, 1, 0, 0), (27, 0, 0, 0), (53, 0, 0, 40), (6, 0, 0, 0), (3, 0, 0, 0), (33, 4, 6, 46), (0, 0, 0, 10), (9, 0, 0, 0), (7, 0, 0, 0), (51, 0, 0, 49), (45, 0, 0, 0)]
def pg_p29 : List Nat := [0, 1, 2, 5, 6, 9, 10, 11, 14, 15, 16, 19, 21, 22, 23, 26]
def pg_w29 : List (List Nat) := [[], [], [208], [], [201], [], [], [586, 587, 59, 588], [], [], [212], [], [], [], [589, 543, 59, 544], []]
/-- 30: KayfabeRing$Wrestler.addLove(II)V -/
def pg_c30 : List RI := [(3, 0, 0, 0), (34, 4, 0, 9), (1, 1, 0, 0), (0, 0, 0, (-99)), (0, 0, 0, 99), (3, 0, 0, 0), (34, 4, 0, 9), (1, 1, 0, 0), (27, 0, 0, 0), (1, 2, 0, 0), (6, 0, 0, 0), (52, 0, 0, 53), (51, 0, 0, 49), (28, 0, 0, 0), (47, 0, 0, 0)]
def pg_p30 : List Nat := [0, 1, 4, 5, 7, 9, 10, 13, 14, 15, 16, 17, 20, 23, 24]
def pg_w30 : List (List Nat) := [[], [201], [], [], [], [], [201], [], [], [], [], [648, 612, 59, 613], [589, 543, 59, 544], [], []]
/-- 31: KayfabeRing$Wrestler.turn()V -/
def pg_c31 : List RI := [(0, 0, 0, 0), (2, 1, 0, 0), (0, 0, 0, 0), (2, 2, 0, 0), (0, 0, 0, 0), (2, 3, 0, 0), (1, 3, 0, 0), (0, 0, 0, 4), (18, 25, 3, 0), (3, 0, 0, 0), (34, 4, 0, 9), (1, 3, 0, 0), (27, 0, 0, 0), (0, 0, 0, 50), (18, 16, 2, 0), (5, 1, 0, 1), (3, 0, 0, 0), (34, 4, 0, 9), (1, 3, 0, 0), (27, 0, 0, 0), (0, 0, 0, (-50)), (18, 23, 4, 0), (5, 2, 0, 1), (5, 3, 0, 1), (16, 6, 0, 0), (3, 0, 0, 0), (33, 4, 5, 56), (0, 0, 0, 1), (18, 36, 1, 0), (1, 1, 0, 0), (0, 0, 0, 2), (18, 36, 2, 0), (3, 0, 0, 0), (0, 0, 0, 0), (35, 4, 5, 56), (16, 45, 0, 0), (3, 0, 0, 0), (33, 4, 5, 56), (17, 45, 1, 0), (1, 2, 0, 0), (0, 0, 0, 2), (18, 45, 2, 0), (3, 0, 0, 0), (0, 0, 0, 1), (35, 4, 5, 56), (47, 0, 0, 0)]
def pg_p31 : List Nat := [0, 1, 2, 3, 4, 5, 6, 7, 8, 11, 12, 15, 16, 17, 19, 22, 25, 26, 29, 30, 31, 33, 36, 39, 42, 45, 46, 49, 50, 53, 54, 55, 58, 59, 60, 63, 66, 67, 70, 73, 74, 75, 78, 79, 80, 83]
def pg_w31 : List (List Nat) := [[], [], [], [], [], [], [], [], [], [], [201], [], [], [], [], [], [], [201], [], [], [], [], [], [], [], [], [211], [], [], [], [], [], [], [], [211], [], [], [211], [], [], [], [], [], [], [211], []]
/-- 32: KayfabeRing.<init>()V -/
def pg_c32 : List RI := [(3, 0, 0, 0), (43, 0, 0, 3), (3, 0, 0, 0), (0, 0, 0, 10), (39, 12, 0, 9), (36, 5, 0, 11), (3, 0, 0, 0), (0, 0, 0, 4), (39, 11, 0, 15), (36, 5, 1, 17), (3, 0, 0, 0), (0, 0, 0, 1000), (39, 9, 0, 21), (36, 5, 2, 23), (3, 0, 0, 0), (37, 0, 0, 21), (13, 0, 0, 0), (42, 0, 0, 27), (36, 5, 3, 28), (3, 0, 0, 0), (0, 0, 0, 4), (38, 7, 0, 0), (36, 5, 4, 32), (3, 0, 0, 0), (37, 2, 0, 36), (13, 0, 0, 0), (42, 12, 1, 38), (36, 5, 5, 39), (0, 0, 0, 0), (2, 1, 0, 0), (1, 1, 0, 0), (0, 0, 0, 10), (18, 42, 3, 0), (3, 0, 0, 0), (34, 5, 0, 11), (1, 1, 0, 0), (37, 4, 0, 9), (13, 0, 0, 0), (42, 26, 0, 43), (32, 0, 0, 0), (5, 1, 0, 1), (16, 30, 0, 0), (0, 0, 0, 0), (2, 1, 0, 0), (1, 1, 0, 0), (0, 0, 0, 4), (18, 56, 3, 0), (3, 0, 0, 0), (34, 5, 1, 17), (1, 1, 0, 0), (37, 3, 0, 15), (13, 0, 0, 0), (42, 24, 1, 44), (32, 0, 0, 0), (5, 1, 0, 1), (16, 44, 0, 0), (47, 0, 0, 0)]
def pg_p32 : List Nat := [0, 1, 4, 5, 7, 10, 13, 14, 15, 18, 21, 22, 25, 28, 31, 32, 35, 36, 39, 42, 43, 44, 46, 49, 50, 53, 54, 57, 60, 61, 62, 63, 65, 68, 69, 72, 73, 76, 77, 80, 81, 84, 87, 88, 89, 90, 91, 94, 95, 98, 99, 102, 103, 106, 107, 110, 113]
def pg_w32 : List (List Nat) := [[], [65, 66, 67], [], [], [68], [275], [], [], [70], [276], [], [], [72], [277], [], [72, 74, 46], [], [75], [278], [], [], [191], [279], [], [138, 139, 48], [], [140], [280], [], [], [], [], [], [], [275], [], [68, 193, 49], [], [194], [], [], [], [], [], [], [], [], [], [276], [], [70, 253, 51], [], [254], [], [], [], []]
/-- 33: KayfabeRing.wrestler(III)I -/
def pg_c33 : List RI := [(1, 1, 0, 0), (0, 0, 0, 0), (0, 0, 0, 99), (40, 59, 0, 45), (17, 15, 0, 0), (1, 2, 0, 0), (0, 0, 0, 0), (0, 0, 0, 99), (40, 59, 0, 45), (17, 15, 0, 0), (1, 3, 0, 0), (0, 0, 0, 0), (0, 0, 0, 1), (40, 59, 0, 45), (17, 20, 1, 0), (44, 1, 0, 0), (49, 0, 0, 0), (49, 0, 0, 0), (49, 0, 0, 0), (49, 0, 0, 0), (3, 0, 0, 0), (33, 5, 6, 56), (0, 0, 0, 10), (18, 29, 2, 0), (44, 2, 1, 0), (49, 0, 0, 0), (49, 0, 0, 0), (49, 0, 0, 0), (49, 0, 0, 0), (3, 0, 0, 0), (34, 5, 0, 11), (3, 0, 0, 0), (33, 5, 6, 56), (31, 0, 0, 0), (4, 4, 0, 0), (3, 4, 0, 0), (1, 1, 0, 0), (35, 4, 3, 65), (3, 4, 0, 0), (1, 2, 0, 0), (35, 4, 4, 68), (3, 4, 0, 0), (1, 3, 0, 0), (35, 4, 5, 71), (3, 0, 0, 0), (13, 0, 0, 0), (33, 5, 6, 56), (0, 0, 0, 1), (6, 0, 0, 0), (35, 5, 6, 56), (3, 0, 0, 0), (33, 5, 6, 56), (0, 0, 0, 1), (7, 0, 0, 0), (45, 0, 0, 0)]
def pg_p33 : List Nat := [0, 1, 2, 4, 7, 10, 11, 12, 14, 17, 20, 21, 22, 23, 26, 29, 32, 33, 35, 38, 39, 40, 43, 45, 48, 51, 52, 54, 57, 58, 59, 62, 63, 66, 67, 69, 71, 72, 75, 77, 78, 81, 83, 84, 87, 88, 89, 92, 93, 94, 97, 98, 101, 102, 103]
def pg_w33 : List (List Nat) := [[], [], [], [316], [], [], [], [], [316], [], [], [], [], [316], [], [319, 56, 49, 53, 0], [], [], [], [], [], [281], [], [], [387, 57, 60, 64, 0], [], [], [], [], [], [275], [], [281], [], [], [], [], [207], [], [], [209], [], [], [210], [], [], [281], [], [], [281], [], [281], [], [], []]
/-- 34: KayfabeRing.title()I -/
def pg_c34 : List RI := [(3, 0, 0, 0), (33, 5, 7, 74), (0, 0, 0, 4), (18, 9, 2, 0), (44, 2, 2, 0), (49, 0, 0, 0), (49, 0, 0, 0), (49, 0, 0, 0), (49, 0, 0, 0), (3, 0, 0, 0), (13, 0, 0, 0), (33, 5, 7, 74), (0, 0, 0, 1), (6, 0, 0, 0), (35, 5, 7, 74), (3, 0, 0, 0), (33, 5, 7, 74), (0, 0, 0, 1), (7, 0, 0, 0), (45, 0, 0, 0)]
def pg_p34 : List Nat := [0, 1, 4, 5, 8, 11, 12, 14, 17, 18, 19, 20, 23, 24, 25, 28, 29, 32, 33, 34]
def pg_w34 : List (List Nat) := [[], [282], [], [], [387, 57, 60, 64, 0], [], [], [], [], [], [], [282], [], [], [282], [], [282], [], [], []]
/-- 35: KayfabeRing.clause(III)I -/
def pg_c35 : List RI := [(3, 0, 0, 0), (1, 1, 0, 0), (41, 60, 0, 79), (17, 8, 0, 0), (3, 0, 0, 0), (1, 2, 0, 0), (41, 60, 0, 79), (17, 13, 1, 0), (44, 3, 3, 0), (49, 0, 0, 0), (49, 0, 0, 0), (49, 0, 0, 0), (49, 0, 0, 0), (1, 1, 0, 0), (1, 2, 0, 0), (18, 21, 0, 0), (1, 3, 0, 0), (0, 0, 0, (-1)), (0, 0, 0, 999), (40, 59, 0, 45), (17, 26, 1, 0), (44, 1, 4, 0), (49, 0, 0, 0), (49, 0, 0, 0), (49, 0, 0, 0), (49, 0, 0, 0), (3, 0, 0, 0), (34, 5, 0, 11), (1, 1, 0, 0), (31, 0, 0, 0), (34, 4, 1, 90), (4, 4, 0, 0), (3, 4, 0, 0), (1, 2, 0, 0), (27, 0, 0, 0), (2, 5, 0, 0), (3, 4, 0, 0), (1, 2, 0, 0), (1, 3, 0, 0), (28, 0, 0, 0), (1, 5, 0, 0), (45, 0, 0, 0)]
def pg_p35 : List Nat := [0, 1, 2, 5, 8, 9, 10, 13, 16, 19, 20, 22, 25, 26, 27, 28, 31, 32, 33, 36, 39, 42, 45, 46, 48, 51, 52, 53, 56, 57, 58, 61, 63, 65, 66, 67, 69, 71, 72, 73, 74, 76]
def pg_w35 : List (List Nat) := [[], [], [419], [], [], [], [419], [], [423, 58, 83, 87, 0], [], [], [], [], [], [], [], [], [], [], [316], [], [319, 56, 49, 53, 0], [], [], [], [], [], [275], [], [], [204], [], [], [], [], [], [], [], [], [], [], []]
/-- 36: KayfabeRing.protect(II)I -/
def pg_c36 : List RI := [(3, 0, 0, 0), (1, 1, 0, 0), (41, 60, 0, 79), (17, 9, 1, 0), (44, 3, 3, 0), (49, 0, 0, 0), (49, 0, 0, 0), (49, 0, 0, 0), (49, 0, 0, 0), (1, 2, 0, 0), (0, 0, 0, 0), (0, 0, 0, 999), (40, 59, 0, 45), (17, 19, 1, 0), (44, 1, 5, 0), (49, 0, 0, 0), (49, 0, 0, 0), (49, 0, 0, 0), (49, 0, 0, 0), (3, 0, 0, 0), (34, 5, 0, 11), (1, 1, 0, 0), (31, 0, 0, 0), (33, 4, 12, 95), (2, 3, 0, 0), (3, 0, 0, 0), (34, 5, 0, 11), (1, 1, 0, 0), (31, 0, 0, 0), (1, 2, 0, 0), (35, 4, 12, 95), (1, 3, 0, 0), (45, 0, 0, 0)]
def pg_p36 : List Nat := [0, 1, 2, 5, 8, 11, 12, 14, 17, 18, 19, 20, 23, 26, 29, 32, 33, 35, 38, 39, 40, 43, 44, 45, 48, 49, 50, 53, 54, 55, 56, 59, 60]
def pg_w36 : List (List Nat) := [[], [], [419], [], [423, 58, 83, 87, 0], [], [], [], [], [], [], [], [316], [], [319, 56, 49, 53, 0], [], [], [], [], [], [275], [], [], [221], [], [], [275], [], [], [], [221], [], []]
/-- 37: KayfabeRing.book(IIIIZII)I -/
def pg_c37 : List RI := [(1, 2, 0, 0), (40, 62, 0, 98), (17, 18, 0, 0), (3, 0, 0, 0), (1, 3, 0, 0), (41, 60, 0, 79), (17, 18, 0, 0), (3, 0, 0, 0), (1, 4, 0, 0), (41, 60, 0, 79), (17, 18, 0, 0), (1, 7, 0, 0), (0, 0, 0, (-1)), (18, 23, 0, 0), (3, 0, 0, 0), (1, 7, 0, 0), (41, 61, 0, 101), (17, 23, 1, 0), (44, 3, 6, 0), (49, 0, 0, 0), (49, 0, 0, 0), (49, 0, 0, 0), (49, 0, 0, 0), (1, 1, 0, 0), (3, 0, 0, 0), (33, 5, 8, 106), (0, 0, 0, 999), (40, 59, 0, 45), (17, 37, 0, 0), (1, 6, 0, 0), (0, 0, 0, 1), (0, 0, 0, 60), (40, 59, 0, 45), (17, 37, 0, 0), (1, 3, 0, 0), (1, 4, 0, 0), (18, 42, 1, 0), (44, 1, 7, 0), (49, 0, 0, 0), (49, 0, 0, 0), (49, 0, 0, 0), (49, 0, 0, 0), (3, 0, 0, 0), (1, 1, 0, 0), (41, 63, 0, 111), (4, 8, 0, 0), (3, 8, 0, 0), (1, 2, 0, 0), (1, 6, 0, 0), (41, 2, 0, 115), (17, 63, 0, 0), (3, 8, 0, 0), (1, 3, 0, 0), (41, 3, 0, 119), (17, 63, 1, 0), (3, 8, 0, 0), (1, 4, 0, 0), (41, 3, 0, 119), (17, 63, 1, 0), (3, 8, 0, 0), (1, 7, 0, 0), (41, 4, 0, 122), (17, 68, 0, 0), (44, 2, 8, 0), (49, 0, 0, 0), (49, 0, 0, 0), (49, 0, 0, 0), (49, 0, 0, 0), (1, 5, 0, 0), (17, 72, 0, 0), (1, 3, 0, 0), (16, 73, 0, 0), (1, 4, 0, 0), (2, 9, 0, 0), (1, 5, 0, 0), (17, 78, 0, 0), (1, 4, 0, 0), (16, 79, 0, 0), (1, 3, 0, 0), (2, 10, 0, 0), (3, 0, 0, 0), (34, 5, 0, 11), (1, 3, 0, 0), (31, 0, 0, 0), (1, 1, 0, 0), (41, 27, 0, 127), (17, 108, 1, 0), (3, 0, 0, 0), (34, 5, 0, 11), (1, 4, 0, 0), (31, 0, 0, 0), (1, 1, 0, 0), (41, 27, 0, 127), (17, 108, 1, 0), (3, 0, 0, 0), (1, 7, 0, 0), (1, 3, 0, 0), (1, 4, 0, 0), (41, 65, 0, 130), (17, 108, 0, 0), (3, 0, 0, 0), (34, 5, 0, 11), (1, 10, 0, 0), (31, 0, 0, 0), (1, 9, 0, 0), (1, 1, 0, 0), (41, 28, 0, 133), (17, 113, 0, 0), (44, 2, 9, 0), (49, 0, 0, 0), (49, 0, 0, 0), (49, 0, 0, 0), (49, 0, 0, 0), (3, 0, 0, 0), (1, 1, 0, 0), (41, 64, 0, 138), (4, 11, 0, 0), (3, 11, 0, 0), (1, 2, 0, 0), (35, 0, 1, 141), (3, 11, 0, 0), (13, 0, 0, 0), (33, 0, 2, 144), (0, 0, 0, 1), (6, 0, 0, 0), (35, 0, 2, 144), (3, 11, 0, 0), (34, 0, 0, 147), (3, 11, 0, 0), (33, 0, 2, 144), (0, 0, 0, 1), (7, 0, 0, 0), (31, 0, 0, 0), (1, 3, 0, 0), (1, 4, 0, 0), (1, 5, 0, 0), (1, 6, 0, 0), (1, 7, 0, 0), (41, 9, 0, 151), (3, 11, 0, 0), (33, 0, 2, 144), (0, 0, 0, 1), (7, 0, 0, 0), (45, 0, 0, 0)]
def pg_p37 : List Nat := [0, 1, 4, 7, 8, 9, 12, 15, 16, 18, 21, 24, 26, 27, 30, 31, 33, 36, 39, 42, 43, 45, 48, 49, 50, 51, 54, 57, 60, 63, 65, 66, 68, 71, 74, 75, 77, 80, 83, 84, 86, 89, 90, 91, 92, 95, 97, 99, 100, 102, 105, 108, 110, 111, 114, 117, 119, 121, 124, 127, 129, 131, 134, 137, 140, 141, 143, 146, 147, 149, 152, 153, 156, 158, 160, 162, 165, 167, 170, 171, 173, 174, 177, 178, 179, 180, 183, 186, 187, 190, 192, 193, 194, 197, 200, 201, 203, 204, 206, 209, 212, 213, 216, 218, 219, 221, 222, 225, 228, 231, 232, 234, 237, 238, 239, 240, 243, 245, 247, 248, 251, 253, 254, 257, 258, 259, 262, 264, 267, 269, 272, 273, 274, 275, 276, 278, 280, 282, 284, 287, 289, 292, 293, 294]
def pg_w37 : List (List Nat) := [[], [455], [], [], [], [419], [], [], [], [419], [], [], [], [], [], [], [458], [], [423, 58, 83, 87, 0], [], [], [], [], [], [], [283], [], [316], [], [], [], [], [316], [], [], [], [], [319, 56, 49, 53, 0], [], [], [], [], [], [], [464], [], [], [], [], [468], [], [], [], [476], [], [], [], [476], [], [], [], [480], [], [387, 57, 60, 64, 0], [], [], [], [], [], [], [], [], [], [], [], [], [], [], [], [], [], [275], [], [], [], [485], [], [], [275], [], [], [], [485], [], [], [], [], [], [489], [], [], [275], [], [], [], [], [493], [], [387, 57, 60, 64, 0], [], [], [], [], [], [], [498], [], [], [], [123], [], [], [126], [], [], [126], [], [120], [], [126], [], [], [], [], [], [], [], [], [502], [], [126], [], [], []]
/-- 38: KayfabeRing.strike(II)I -/
def pg_c38 : List RI := [(3, 0, 0, 0), (1, 1, 0, 0), (41, 63, 0, 111), (4, 3, 0, 0), (3, 3, 0, 0), (1, 2, 0, 0), (41, 1, 0, 157), (17, 13, 1, 0), (44, 3, 10, 0), (49, 0, 0, 0), (49, 0, 0, 0), (49, 0, 0, 0), (49, 0, 0, 0), (3, 3, 0, 0), (33, 0, 3, 162), (17, 21, 0, 0), (44, 2, 11, 0), (49, 0, 0, 0), (49, 0, 0, 0), (49, 0, 0, 0), (49, 0, 0, 0), (3, 3, 0, 0), (1, 2, 0, 0), (41, 7, 0, 168), (3, 3, 0, 0), (33, 0, 2, 144), (45, 0, 0, 0)]
def pg_p38 : List Nat := [0, 1, 2, 5, 6, 7, 8, 11, 14, 17, 18, 20, 23, 24, 25, 28, 31, 34, 35, 37, 40, 41, 42, 43, 46, 47, 50]
def pg_w38 : List (List Nat) := [[], [], [464], [], [], [], [513], [], [423, 58, 83, 87, 0], [], [], [], [], [], [128], [], [387, 57, 60, 64, 0], [], [], [], [], [], [], [519], [], [126], []]
/-- 39: KayfabeRing.shoot(I)Z -/
def pg_c39 : List RI := [(3, 0, 0, 0), (3, 0, 0, 0), (33, 5, 8, 106), (41, 63, 0, 111), (4, 2, 0, 0), (3, 2, 0, 0), (1, 1, 0, 0), (41, 1, 0, 157), (17, 14, 1, 0), (44, 3, 10, 0), (49, 0, 0, 0), (49, 0, 0, 0), (49, 0, 0, 0), (49, 0, 0, 0), (3, 2, 0, 0), (33, 0, 3, 162), (17, 22, 0, 0), (44, 2, 11, 0), (49, 0, 0, 0), (49, 0, 0, 0), (49, 0, 0, 0), (49, 0, 0, 0), (3, 2, 0, 0), (34, 0, 0, 147), (1, 1, 0, 0), (31, 0, 0, 0), (33, 1, 5, 172), (2, 3, 0, 0), (3, 2, 0, 0), (34, 0, 0, 147), (1, 1, 0, 0), (31, 0, 0, 0), (0, 0, 0, 1), (50, 1, 5, 172), (1, 3, 0, 0), (45, 0, 0, 0)]
def pg_p39 : List Nat := [0, 1, 2, 5, 8, 9, 10, 11, 14, 17, 20, 21, 23, 26, 27, 28, 31, 34, 37, 38, 40, 43, 44, 45, 48, 49, 50, 53, 54, 55, 58, 59, 60, 61, 64, 65]
def pg_w39 : List (List Nat) := [[], [], [283], [464], [], [], [], [513], [], [423, 58, 83, 87, 0], [], [], [], [], [], [128], [], [387, 57, 60, 64, 0], [], [], [], [], [], [120], [], [], [104], [], [], [120], [], [], [], [104], [], []]
/-- 40: KayfabeRing.hurt(II)I -/
def pg_c40 : List RI := [(3, 0, 0, 0), (1, 1, 0, 0), (41, 60, 0, 79), (17, 9, 1, 0), (44, 3, 3, 0), (49, 0, 0, 0), (49, 0, 0, 0), (49, 0, 0, 0), (49, 0, 0, 0), (1, 2, 0, 0), (0, 0, 0, 1), (0, 0, 0, 200), (40, 59, 0, 45), (17, 19, 1, 0), (44, 1, 12, 0), (49, 0, 0, 0), (49, 0, 0, 0), (49, 0, 0, 0), (49, 0, 0, 0), (3, 0, 0, 0), (1, 1, 0, 0), (3, 0, 0, 0), (33, 5, 8, 106), (1, 2, 0, 0), (6, 0, 0, 0), (41, 66, 0, 177), (45, 0, 0, 0)]
def pg_p40 : List Nat := [0, 1, 2, 5, 8, 11, 12, 14, 17, 18, 19, 20, 23, 26, 29, 32, 33, 35, 38, 39, 40, 41, 42, 45, 46, 47, 50]
def pg_w40 : List (List Nat) := [[], [], [419], [], [423, 58, 83, 87, 0], [], [], [], [], [], [], [], [316], [], [319, 56, 49, 53, 0], [], [], [], [], [], [], [], [283], [], [], [538], []]
/-- 41: KayfabeRing.head(I)I -/
def pg_c41 : List RI := [(3, 0, 0, 0), (1, 1, 0, 0), (41, 60, 0, 79), (17, 9, 1, 0), (44, 3, 3, 0), (49, 0, 0, 0), (49, 0, 0, 0), (49, 0, 0, 0), (49, 0, 0, 0), (3, 0, 0, 0), (34, 5, 0, 11), (1, 1, 0, 0), (31, 0, 0, 0), (4, 2, 0, 0), (3, 2, 0, 0), (13, 0, 0, 0), (33, 4, 8, 181), (0, 0, 0, 1), (6, 0, 0, 0), (35, 4, 8, 181), (3, 2, 0, 0), (33, 4, 8, 181), (0, 0, 0, 1), (18, 32, 1, 0), (3, 0, 0, 0), (1, 1, 0, 0), (3, 0, 0, 0), (33, 5, 8, 106), (0, 0, 0, 30), (6, 0, 0, 0), (41, 66, 0, 177), (45, 0, 0, 0), (3, 0, 0, 0), (1, 1, 0, 0), (3, 2, 0, 0), (33, 4, 8, 181), (0, 0, 0, 2), (18, 43, 1, 0), (3, 0, 0, 0), (33, 5, 8, 106), (0, 0, 0, 60), (6, 0, 0, 0), (16, 44, 0, 0), (0, 0, 0, 10000), (41, 66, 0, 177), (45, 0, 0, 0)]
def pg_p41 : List Nat := [0, 1, 2, 5, 8, 11, 12, 14, 17, 18, 19, 22, 23, 24, 25, 26, 27, 30, 31, 32, 35, 36, 39, 40, 43, 44, 45, 46, 49, 51, 52, 55, 56, 57, 58, 59, 62, 63, 66, 67, 70, 72, 73, 76, 79, 82]
def pg_w41 : List (List Nat) := [[], [], [419], [], [423, 58, 83, 87, 0], [], [], [], [], [], [275], [], [], [], [], [], [216], [], [], [216], [], [216], [], [], [], [], [], [283], [], [], [538], [], [], [], [], [216], [], [], [], [283], [], [], [], [], [538], []]
/-- 42: KayfabeRing.mend()I -/
def pg_c42 : List RI := [(3, 0, 0, 0), (41, 72, 0, 184), (4, 1, 0, 0), (3, 1, 0, 0), (41, 15, 0, 188), (15, 0, 0, 0), (3, 1, 0, 0), (41, 19, 0, 192), (45, 0, 0, 0)]
def pg_p42 : List Nat := [0, 1, 4, 5, 6, 9, 10, 11, 14]
def pg_w42 : List (List Nat) := [[], [567], [], [], [591], [], [], [607], []]
/-- 43: KayfabeRing.play()I -/
def pg_c43 : List RI := [(3, 0, 0, 0), (3, 0, 0, 0), (33, 5, 8, 106), (41, 63, 0, 111), (4, 1, 0, 0), (3, 1, 0, 0), (33, 0, 2, 144), (17, 15, 0, 0), (3, 1, 0, 0), (33, 0, 3, 162), (17, 15, 1, 0), (3, 0, 0, 0), (3, 1, 0, 0), (41, 68, 0, 195), (17, 20, 0, 0), (44, 2, 13, 0), (49, 0, 0, 0), (49, 0, 0, 0), (49, 0, 0, 0), (49, 0, 0, 0), (0, 0, 0, 0), (2, 2, 0, 0), (0, 0, 0, 0), (2, 3, 0, 0), (1, 3, 0, 0), (3, 1, 0, 0), (33, 0, 2, 144), (18, 41, 3, 0), (1, 2, 0, 0), (3, 0, 0, 0), (3, 1, 0, 0), (34, 0, 0, 147), (1, 3, 0, 0), (31, 0, 0, 0), (3, 1, 0, 0), (33, 0, 1, 141), (41, 69, 0, 201), (6, 0, 0, 0), (2, 2, 0, 0), (5, 3, 0, 1), (16, 24, 0, 0), (3, 1, 0, 0), (0, 0, 0, 1), (50, 0, 3, 162), (1, 2, 0, 0), (45, 0, 0, 0)]
def pg_p43 : List Nat := [0, 1, 2, 5, 8, 9, 10, 13, 16, 17, 20, 23, 24, 25, 28, 31, 34, 35, 37, 40, 41, 42, 43, 44, 45, 46, 47, 50, 53, 54, 55, 56, 59, 60, 61, 62, 65, 68, 69, 70, 73, 76, 77, 78, 81, 82]
def pg_w43 : List (List Nat) := [[], [], [283], [464], [], [], [126], [], [], [128], [], [], [], [622], [], [387, 57, 60, 64, 0], [], [], [], [], [], [], [], [], [], [], [126], [], [], [], [], [120], [], [], [], [123], [627], [], [], [], [], [], [], [128], [], []]
/-- 44: KayfabeRing.promo(III)I -/
def pg_c44 : List RI := [(1, 1, 0, 0), (40, 62, 0, 98), (17, 7, 0, 0), (3, 0, 0, 0), (1, 2, 0, 0), (41, 60, 0, 79), (17, 12, 1, 0), (44, 3, 14, 0), (49, 0, 0, 0), (49, 0, 0, 0), (49, 0, 0, 0), (49, 0, 0, 0), (1, 3, 0, 0), (0, 0, 0, 0), (0, 0, 0, 9), (40, 59, 0, 45), (17, 22, 1, 0), (44, 1, 15, 0), (49, 0, 0, 0), (49, 0, 0, 0), (49, 0, 0, 0), (49, 0, 0, 0), (3, 0, 0, 0), (34, 5, 0, 11), (1, 2, 0, 0), (31, 0, 0, 0), (4, 4, 0, 0), (3, 4, 0, 0), (3, 0, 0, 0), (33, 5, 8, 106), (41, 27, 0, 127), (17, 37, 1, 0), (3, 4, 0, 0), (33, 4, 13, 209), (3, 0, 0, 0), (33, 5, 8, 106), (18, 42, 1, 0), (44, 2, 16, 0), (49, 0, 0, 0), (49, 0, 0, 0), (49, 0, 0, 0), (49, 0, 0, 0), (3, 4, 0, 0), (3, 0, 0, 0), (33, 5, 8, 106), (35, 4, 13, 209), (0, 0, 0, 0), (3, 4, 0, 0), (33, 4, 4, 68), (0, 0, 0, 10), (9, 0, 0, 0), (1, 3, 0, 0), (7, 0, 0, 0), (51, 0, 0, 214), (2, 5, 0, 0), (3, 4, 0, 0), (1, 1, 0, 0), (3, 4, 0, 0), (33, 4, 5, 71), (17, 62, 1, 0), (1, 5, 0, 0), (16, 64, 0, 0), (1, 5, 0, 0), (11, 0, 0, 0), (41, 30, 0, 219), (3, 4, 0, 0), (41, 31, 0, 223), (3, 4, 0, 0), (34, 4, 0, 226), (1, 1, 0, 0), (27, 0, 0, 0), (45, 0, 0, 0)]
def pg_p44 : List Nat := [0, 1, 4, 7, 8, 9, 12, 15, 18, 19, 21, 24, 25, 26, 27, 29, 32, 35, 38, 39, 41, 44, 45, 46, 49, 50, 51, 53, 55, 56, 59, 62, 65, 67, 70, 71, 74, 77, 80, 81, 83, 86, 87, 89, 90, 93, 96, 97, 99, 102, 104, 105, 106, 107, 110, 112, 114, 115, 117, 120, 123, 125, 128, 130, 131, 134, 136, 139, 141, 144, 145, 146]
def pg_w44 : List (List Nat) := [[], [455], [], [], [], [419], [], [423, 58, 83, 87, 0], [], [], [], [], [], [], [], [316], [], [319, 56, 49, 53, 0], [], [], [], [], [], [275], [], [], [], [], [], [283], [485], [], [], [223], [], [283], [], [387, 57, 60, 64, 0], [], [], [], [], [], [], [283], [223], [], [], [209], [], [], [], [], [542, 543, 59, 544], [], [], [], [], [210], [], [], [], [], [], [644], [], [653], [], [202], [], [], []]
/-- 45: KayfabeRing.pass()I -/
def pg_c45 : List RI := [(3, 0, 0, 0), (33, 5, 8, 106), (0, 0, 0, 999), (18, 9, 2, 0), (44, 2, 17, 0), (49, 0, 0, 0), (49, 0, 0, 0), (49, 0, 0, 0), (49, 0, 0, 0), (3, 0, 0, 0), (3, 0, 0, 0), (33, 5, 8, 106), (41, 63, 0, 111), (4, 1, 0, 0), (3, 1, 0, 0), (33, 0, 3, 162), (17, 20, 1, 0), (3, 1, 0, 0), (0, 0, 0, 0), (35, 0, 2, 144), (0, 0, 0, 0), (2, 2, 0, 0), (1, 2, 0, 0), (3, 0, 0, 0), (33, 5, 6, 56), (18, 42, 3, 0), (3, 0, 0, 0), (34, 5, 0, 11), (1, 2, 0, 0), (31, 0, 0, 0), (0, 0, 0, 0), (3, 0, 0, 0), (34, 5, 0, 11), (1, 2, 0, 0), (31, 0, 0, 0), (33, 4, 6, 231), (0, 0, 0, 10), (7, 0, 0, 0), (51, 0, 0, 214), (35, 4, 6, 231), (5, 2, 0, 1), (16, 22, 0, 0), (3, 0, 0, 0), (13, 0, 0, 0), (33, 5, 8, 106), (0, 0, 0, 1), (6, 0, 0, 0), (35, 5, 8, 106), (3, 0, 0, 0), (33, 5, 8, 106), (45, 0, 0, 0)]
def pg_p45 : List Nat := [0, 1, 4, 7, 10, 13, 14, 16, 19, 20, 21, 22, 25, 28, 29, 30, 33, 36, 37, 38, 41, 42, 43, 44, 45, 48, 51, 52, 55, 56, 57, 58, 59, 62, 63, 64, 67, 69, 70, 73, 76, 79, 82, 83, 84, 87, 88, 89, 92, 93, 96]
def pg_w45 : List (List Nat) := [[], [283], [], [], [387, 57, 60, 64, 0], [], [], [], [], [], [], [283], [464], [], [], [128], [], [], [], [126], [], [], [], [], [281], [], [], [275], [], [], [], [], [275], [], [], [213], [], [], [542, 543, 59, 544], [213], [], [], [], [], [283], [], [], [283], [], [283], []]
/-- 46: KayfabeRing.day()I -/
def pg_c46 : List RI := [(3, 0, 0, 0), (33, 5, 8, 106), (45, 0, 0, 0)]
def pg_p46 : List Nat := [0, 1, 4]
def pg_w46 : List (List Nat) := [[], [283], []]
/-- 47: KayfabeRing.ofWrestler(II)I -/
def pg_c47 : List RI := [(3, 0, 0, 0), (1, 1, 0, 0), (41, 60, 0, 79), (17, 9, 1, 0), (44, 3, 3, 0), (49, 0, 0, 0), (49, 0, 0, 0), (49, 0, 0, 0), (49, 0, 0, 0), (3, 0, 0, 0), (34, 5, 0, 11), (1, 1, 0, 0), (31, 0, 0, 0), (4, 3, 0, 0), (1, 2, 0, 0), (20, 0, 0, 0), (3, 3, 0, 0), (33, 4, 5, 71), (45, 0, 0, 0), (3, 3, 0, 0), (33, 4, 6, 231), (45, 0, 0, 0), (3, 3, 0, 0), (3, 0, 0, 0), (33, 5, 8, 106), (41, 27, 0, 127), (17, 30, 0, 0), (3, 3, 0, 0), (33, 4, 7, 234), (16, 31, 0, 0), (0, 0, 0, 0), (45, 0, 0, 0), (3, 3, 0, 0), (33, 4, 8, 181), (45, 0, 0, 0), (3, 3, 0, 0), (33, 4, 9, 237), (45, 0, 0, 0), (3, 3, 0, 0), (33, 4, 10, 240), (45, 0, 0, 0), (3, 3, 0, 0), (33, 4, 11, 243), (45, 0, 0, 0), (44, 1, 18, 0), (49, 0, 0, 0), (49, 0, 0, 0), (49, 0, 0, 0), (49, 0, 0, 0)]
def pg_p47 : List Nat := [0, 1, 2, 5, 8, 11, 12, 14, 17, 18, 19, 22, 23, 24, 25, 26, 68, 69, 72, 73, 74, 77, 78, 79, 80, 83, 86, 89, 90, 93, 96, 97, 98, 99, 102, 103, 104, 107, 108, 109, 112, 113, 114, 117, 118, 121, 122, 124, 127]
def pg_w47 : List (List Nat) := [[], [], [419], [], [423, 58, 83, 87, 0], [], [], [], [], [], [275], [], [], [], [], [], [], [210], [], [], [213], [], [], [], [283], [485], [], [], [215], [], [], [], [], [216], [], [], [217], [], [], [218], [], [], [219], [], [319, 56, 49, 53, 0], [], [], [], []]
/-- 48: KayfabeRing.love(II)I -/
def pg_c48 : List RI := [(1, 1, 0, 0), (40, 62, 0, 98), (17, 7, 0, 0), (3, 0, 0, 0), (1, 2, 0, 0), (41, 60, 0, 79), (17, 12, 1, 0), (44, 3, 14, 0), (49, 0, 0, 0), (49, 0, 0, 0), (49, 0, 0, 0), (49, 0, 0, 0), (3, 0, 0, 0), (34, 5, 0, 11), (1, 2, 0, 0), (31, 0, 0, 0), (34, 4, 0, 226), (1, 1, 0, 0), (27, 0, 0, 0), (45, 0, 0, 0)]
def pg_p48 : List Nat := [0, 1, 4, 7, 8, 9, 12, 15, 18, 19, 21, 24, 25, 26, 29, 30, 31, 34, 35, 36]
def pg_w48 : List (List Nat) := [[], [455], [], [], [], [419], [], [423, 58, 83, 87, 0], [], [], [], [], [], [275], [], [], [202], [], [], []]
/-- 49: KayfabeRing.worth(II)I -/
def pg_c49 : List RI := [(1, 1, 0, 0), (40, 62, 0, 98), (17, 7, 0, 0), (3, 0, 0, 0), (1, 2, 0, 0), (41, 60, 0, 79), (17, 12, 1, 0), (44, 3, 14, 0), (49, 0, 0, 0), (49, 0, 0, 0), (49, 0, 0, 0), (49, 0, 0, 0), (3, 0, 0, 0), (34, 5, 0, 11), (1, 2, 0, 0), (31, 0, 0, 0), (1, 1, 0, 0), (41, 29, 0, 248), (45, 0, 0, 0)]
def pg_p49 : List Nat := [0, 1, 4, 7, 8, 9, 12, 15, 18, 19, 21, 24, 25, 26, 29, 30, 31, 32, 35]
def pg_w49 : List (List Nat) := [[], [455], [], [], [], [419], [], [423, 58, 83, 87, 0], [], [], [], [], [], [275], [], [], [], [631], []]
/-- 50: KayfabeRing.ofCard(II)I -/
def pg_c50 : List RI := [(1, 1, 0, 0), (0, 0, 0, 0), (0, 0, 0, 999), (40, 59, 0, 45), (17, 10, 1, 0), (44, 1, 5, 0), (49, 0, 0, 0), (49, 0, 0, 0), (49, 0, 0, 0), (49, 0, 0, 0), (3, 0, 0, 0), (1, 1, 0, 0), (41, 63, 0, 111), (4, 3, 0, 0), (1, 2, 0, 0), (20, 1, 0, 0), (3, 3, 0, 0), (33, 0, 2, 144), (17, 21, 1, 0), (0, 0, 0, (-1)), (16, 23, 0, 0), (3, 3, 0, 0), (33, 0, 1, 141), (45, 0, 0, 0), (3, 3, 0, 0), (33, 0, 2, 144), (45, 0, 0, 0), (3, 3, 0, 0), (41, 5, 0, 252), (45, 0, 0, 0), (3, 3, 0, 0), (33, 0, 3, 162), (17, 35, 0, 0), (0, 0, 0, 1), (16, 36, 0, 0), (0, 0, 0, 0), (45, 0, 0, 0), (44, 1, 18, 0), (49, 0, 0, 0), (49, 0, 0, 0), (49, 0, 0, 0), (49, 0, 0, 0)]
def pg_p50 : List Nat := [0, 1, 2, 5, 8, 11, 14, 15, 17, 20, 21, 22, 23, 26, 27, 28, 60, 61, 64, 67, 68, 71, 72, 75, 76, 77, 80, 81, 82, 85, 86, 87, 90, 93, 94, 97, 98, 99, 102, 103, 105, 108]
def pg_w50 : List (List Nat) := [[], [], [], [316], [], [319, 56, 49, 53, 0], [], [], [], [], [], [], [464], [], [], [], [], [126], [], [], [], [], [123], [], [], [126], [], [], [704], [], [], [128], [], [], [], [], [], [319, 56, 49, 53, 0], [], [], [], []]
/-- 51: KayfabeRing.ofMatch(III)I -/
def pg_c51 : List RI := [(3, 0, 0, 0), (1, 1, 0, 0), (41, 63, 0, 111), (4, 4, 0, 0), (3, 4, 0, 0), (1, 2, 0, 0), (41, 1, 0, 157), (17, 13, 1, 0), (44, 3, 10, 0), (49, 0, 0, 0), (49, 0, 0, 0), (49, 0, 0, 0), (49, 0, 0, 0), (3, 4, 0, 0), (34, 0, 0, 147), (1, 2, 0, 0), (31, 0, 0, 0), (4, 5, 0, 0), (1, 3, 0, 0), (20, 2, 0, 0), (3, 5, 0, 0), (33, 1, 0, 255), (45, 0, 0, 0), (3, 5, 0, 0), (33, 1, 1, 258), (45, 0, 0, 0), (3, 4, 0, 0), (33, 0, 3, 162), (17, 34, 0, 0), (3, 5, 0, 0), (33, 1, 5, 172), (17, 34, 0, 0), (0, 0, 0, (-1)), (16, 36, 0, 0), (3, 5, 0, 0), (41, 10, 0, 261), (45, 0, 0, 0), (3, 5, 0, 0), (33, 1, 3, 264), (45, 0, 0, 0), (3, 5, 0, 0), (33, 1, 4, 267), (45, 0, 0, 0), (3, 5, 0, 0), (33, 1, 5, 172), (17, 48, 0, 0), (0, 0, 0, 1), (16, 49, 0, 0), (0, 0, 0, 0), (45, 0, 0, 0), (44, 1, 18, 0), (49, 0, 0, 0), (49, 0, 0, 0), (49, 0, 0, 0), (49, 0, 0, 0)]
def pg_p51 : List Nat := [0, 1, 2, 5, 7, 9, 10, 13, 16, 19, 20, 22, 25, 26, 28, 31, 32, 33, 35, 36, 76, 78, 81, 82, 84, 87, 88, 90, 93, 96, 98, 101, 104, 105, 108, 110, 113, 114, 116, 119, 120, 122, 125, 126, 128, 131, 134, 135, 138, 139, 140, 143, 144, 146, 149]
def pg_w51 : List (List Nat) := [[], [], [464], [], [], [], [513], [], [423, 58, 83, 87, 0], [], [], [], [], [], [120], [], [], [], [], [], [], [89], [], [], [93], [], [], [128], [], [], [104], [], [], [], [], [632], [], [], [98], [], [], [101], [], [], [104], [], [], [], [], [], [319, 56, 49, 53, 0], [], [], [], []]
/-- 52: KayfabeRing.lineage(IIZ)I -/
def pg_c52 : List RI := [(3, 0, 0, 0), (1, 1, 0, 0), (41, 61, 0, 101), (17, 15, 0, 0), (1, 2, 0, 0), (0, 0, 0, 0), (3, 0, 0, 0), (34, 5, 1, 17), (1, 1, 0, 0), (31, 0, 0, 0), (33, 3, 2, 270), (0, 0, 0, 1), (7, 0, 0, 0), (40, 59, 0, 45), (17, 20, 1, 0), (44, 3, 19, 0), (49, 0, 0, 0), (49, 0, 0, 0), (49, 0, 0, 0), (49, 0, 0, 0), (1, 3, 0, 0), (17, 30, 0, 0), (3, 0, 0, 0), (34, 5, 1, 17), (1, 1, 0, 0), (31, 0, 0, 0), (34, 3, 1, 275), (1, 2, 0, 0), (27, 0, 0, 0), (16, 37, 0, 0), (3, 0, 0, 0), (34, 5, 1, 17), (1, 1, 0, 0), (31, 0, 0, 0), (34, 3, 0, 278), (1, 2, 0, 0), (27, 0, 0, 0), (45, 0, 0, 0)]
def pg_p52 : List Nat := [0, 1, 2, 5, 8, 9, 10, 11, 14, 15, 16, 19, 20, 21, 24, 27, 30, 31, 34, 37, 38, 39, 42, 43, 46, 47, 48, 51, 52, 53, 56, 57, 60, 61, 62, 65, 66, 67]
def pg_w52 : List (List Nat) := [[], [], [458], [], [], [], [], [276], [], [], [263], [], [], [316], [], [423, 58, 83, 87, 1], [], [], [], [], [], [], [], [276], [], [], [261], [], [], [], [], [276], [], [], [259], [], [], []]
/-- 53: KayfabeRing.champion(I)I -/
def pg_c53 : List RI := [(3, 0, 0, 0), (1, 1, 0, 0), (41, 61, 0, 101), (17, 9, 1, 0), (44, 3, 20, 0), (49, 0, 0, 0), (49, 0, 0, 0), (49, 0, 0, 0), (49, 0, 0, 0), (3, 0, 0, 0), (34, 5, 1, 17), (1, 1, 0, 0), (31, 0, 0, 0), (33, 3, 3, 283), (45, 0, 0, 0)]
def pg_p53 : List Nat := [0, 1, 2, 5, 8, 11, 12, 15, 18, 19, 20, 23, 24, 25, 28]
def pg_w53 : List (List Nat) := [[], [], [458], [], [423, 58, 83, 87, 1], [], [], [], [], [], [276], [], [], [265], []]
/-- 54: KayfabeRing.beat(II)I -/
def pg_c54 : List RI := [(3, 0, 0, 0), (1, 1, 0, 0), (41, 60, 0, 79), (17, 8, 0, 0), (3, 0, 0, 0), (1, 2, 0, 0), (41, 60, 0, 79), (17, 13, 1, 0), (44, 3, 3, 0), (49, 0, 0, 0), (49, 0, 0, 0), (49, 0, 0, 0), (49, 0, 0, 0), (3, 0, 0, 0), (34, 5, 0, 11), (1, 1, 0, 0), (31, 0, 0, 0), (34, 4, 2, 286), (1, 2, 0, 0), (27, 0, 0, 0), (45, 0, 0, 0)]
def pg_p54 : List Nat := [0, 1, 2, 5, 8, 9, 10, 13, 16, 19, 20, 22, 25, 26, 27, 30, 31, 32, 35, 36, 37]
def pg_w54 : List (List Nat) := [[], [], [419], [], [], [], [419], [], [423, 58, 83, 87, 0], [], [], [], [], [], [275], [], [], [206], [], [], []]
/-- 55: KayfabeRing.beatAnew(II)I -/
def pg_c55 : List RI := [(3, 0, 0, 0), (1, 1, 0, 0), (41, 60, 0, 79), (17, 8, 0, 0), (3, 0, 0, 0), (1, 2, 0, 0), (41, 60, 0, 79), (17, 13, 1, 0), (44, 3, 3, 0), (49, 0, 0, 0), (49, 0, 0, 0), (49, 0, 0, 0), (49, 0, 0, 0), (0, 0, 0, 0), (2, 3, 0, 0), (0, 0, 0, 0), (2, 4, 0, 0), (1, 4, 0, 0), (3, 0, 0, 0), (33, 5, 8, 106), (18, 37, 4, 0), (3, 0, 0, 0), (1, 4, 0, 0), (41, 63, 0, 111), (4, 5, 0, 0), (3, 5, 0, 0), (33, 0, 3, 162), (17, 35, 0, 0), (1, 3, 0, 0), (3, 5, 0, 0), (1, 1, 0, 0), (1, 2, 0, 0), (41, 6, 0, 289), (6, 0, 0, 0), (2, 3, 0, 0), (5, 4, 0, 1), (16, 17, 0, 0), (1, 3, 0, 0), (45, 0, 0, 0)]
def pg_p55 : List Nat := [0, 1, 2, 5, 8, 9, 10, 13, 16, 19, 20, 22, 25, 26, 27, 28, 29, 31, 33, 34, 37, 40, 41, 43, 46, 48, 50, 53, 56, 57, 59, 60, 61, 64, 65, 66, 69, 72, 73]
def pg_w55 : List (List Nat) := [[], [], [419], [], [], [], [419], [], [423, 58, 83, 87, 0], [], [], [], [], [], [], [], [], [], [], [283], [], [], [], [464], [], [], [128], [], [], [], [], [], [742], [], [], [], [], [], []]
/-- 56: KayfabeRing.gate(I)I -/
def pg_c56 : List RI := [(1, 1, 0, 0), (40, 62, 0, 98), (17, 8, 1, 0), (44, 3, 21, 0), (49, 0, 0, 0), (49, 0, 0, 0), (49, 0, 0, 0), (49, 0, 0, 0), (3, 0, 0, 0), (34, 5, 4, 32), (1, 1, 0, 0), (27, 0, 0, 0), (45, 0, 0, 0)]
def pg_p56 : List Nat := [0, 1, 4, 7, 10, 11, 14, 17, 18, 19, 22, 23, 24]
def pg_w56 : List (List Nat) := [[], [455], [], [423, 58, 83, 87, 1], [], [], [], [], [], [279], [], [], []]
/-- 57: KayfabeRing.mending()I -/
def pg_c57 : List RI := [(3, 0, 0, 0), (41, 72, 0, 184), (41, 15, 0, 188), (45, 0, 0, 0)]
def pg_p57 : List Nat := [0, 1, 4, 7]
def pg_w57 : List (List Nat) := [[], [567], [591], []]
/-- 58: KayfabeRing.mendingAnew()I -/
def pg_c58 : List RI := [(3, 0, 0, 0), (41, 72, 0, 184), (41, 20, 0, 294), (45, 0, 0, 0)]
def pg_p58 : List Nat := [0, 1, 4, 7]
def pg_w58 : List (List Nat) := [[], [567], [770], []]
/-- 59: KayfabeRing.isWithin(III)Z -/
def pg_c59 : List RI := [(1, 0, 0, 0), (1, 1, 0, 0), (18, 8, 2, 0), (1, 0, 0, 0), (1, 2, 0, 0), (18, 8, 4, 0), (0, 0, 0, 1), (16, 9, 0, 0), (0, 0, 0, 0), (45, 0, 0, 0)]
def pg_p59 : List Nat := [0, 1, 2, 5, 6, 7, 10, 11, 14, 15]
def pg_w59 : List (List Nat) := [[], [], [], [], [], [], [], [], [], []]
/-- 60: KayfabeRing.isWrestler(I)Z -/
def pg_c60 : List RI := [(1, 1, 0, 0), (17, 8, 2, 0), (1, 1, 0, 0), (3, 0, 0, 0), (33, 5, 6, 56), (18, 8, 3, 0), (0, 0, 0, 1), (16, 9, 0, 0), (0, 0, 0, 0), (45, 0, 0, 0)]
def pg_p60 : List Nat := [0, 1, 4, 5, 6, 9, 12, 13, 16, 17]
def pg_w60 : List (List Nat) := [[], [], [], [], [281], [], [], [], [], []]
/-- 61: KayfabeRing.isTitle(I)Z -/
def pg_c61 : List RI := [(1, 1, 0, 0), (17, 8, 2, 0), (1, 1, 0, 0), (3, 0, 0, 0), (33, 5, 7, 74), (18, 8, 3, 0), (0, 0, 0, 1), (16, 9, 0, 0), (0, 0, 0, 0), (45, 0, 0, 0)]
def pg_p61 : List Nat := [0, 1, 4, 5, 6, 9, 12, 13, 16, 17]
def pg_w61 : List (List Nat) := [[], [], [], [], [282], [], [], [], [], []]
/-- 62: KayfabeRing.isTown(I)Z -/
def pg_c62 : List RI := [(1, 0, 0, 0), (17, 7, 2, 0), (1, 0, 0, 0), (0, 0, 0, 4), (18, 7, 3, 0), (0, 0, 0, 1), (16, 8, 0, 0), (0, 0, 0, 0), (45, 0, 0, 0)]
def pg_p62 : List Nat := [0, 1, 4, 5, 6, 9, 10, 13, 14]
def pg_w62 : List (List Nat) := [[], [], [], [], [], [], [], [], []]
/-- 63: KayfabeRing.cardOf(I)LKayfabeRing$Card; -/
def pg_c63 : List RI := [(1, 1, 0, 0), (0, 0, 0, 0), (0, 0, 0, 999), (40, 59, 0, 45), (17, 10, 0, 0), (3, 0, 0, 0), (34, 5, 2, 23), (1, 1, 0, 0), (31, 0, 0, 0), (19, 13, 0, 0), (3, 0, 0, 0), (34, 5, 3, 28), (46, 0, 0, 0), (3, 0, 0, 0), (34, 5, 2, 23), (1, 1, 0, 0), (31, 0, 0, 0), (46, 0, 0, 0)]
def pg_p63 : List Nat := [0, 1, 2, 5, 8, 11, 12, 15, 16, 17, 20, 21, 24, 25, 26, 29, 30, 31]
def pg_w63 : List (List Nat) := [[], [], [], [316], [], [], [277], [], [], [], [], [278], [], [], [277], [], [], []]
/-- 64: KayfabeRing.cardToBook(I)LKayfabeRing$Card; -/
def pg_c64 : List RI := [(3, 0, 0, 0), (34, 5, 2, 23), (1, 1, 0, 0), (31, 0, 0, 0), (19, 12, 0, 0), (3, 0, 0, 0), (34, 5, 2, 23), (1, 1, 0, 0), (37, 0, 0, 21), (13, 0, 0, 0), (42, 0, 0, 27), (32, 0, 0, 0), (3, 0, 0, 0), (34, 5, 2, 23), (1, 1, 0, 0), (31, 0, 0, 0), (46, 0, 0, 0)]
def pg_p64 : List Nat := [0, 1, 4, 5, 6, 9, 10, 13, 14, 17, 18, 21, 22, 23, 26, 27, 28]
def pg_w64 : List (List Nat) := [[], [277], [], [], [], [], [277], [], [72, 74, 46], [], [75], [], [], [277], [], [], []]
/-- 65: KayfabeRing.isAtStake(III)Z -/
def pg_c65 : List RI := [(1, 1, 0, 0), (0, 0, 0, (-1)), (18, 5, 1, 0), (0, 0, 0, 1), (45, 0, 0, 0), (3, 0, 0, 0), (34, 5, 1, 17), (1, 1, 0, 0), (31, 0, 0, 0), (33, 3, 3, 283), (2, 4, 0, 0), (1, 4, 0, 0), (0, 0, 0, (-1)), (18, 20, 0, 0), (1, 4, 0, 0), (1, 2, 0, 0), (18, 20, 0, 0), (1, 4, 0, 0), (1, 3, 0, 0), (18, 22, 1, 0), (0, 0, 0, 1), (16, 23, 0, 0), (0, 0, 0, 0), (45, 0, 0, 0)]
def pg_p65 : List Nat := [0, 1, 2, 5, 6, 7, 8, 11, 12, 13, 16, 18, 20, 21, 24, 26, 27, 30, 32, 33, 36, 37, 40, 41]
def pg_w65 : List (List Nat) := [[], [], [], [], [], [], [276], [], [], [265], [], [], [], [], [], [], [], [], [], [], [], [], [], []]
/-- 66: KayfabeRing.injure(II)I -/
def pg_c66 : List RI := [(3, 0, 0, 0), (34, 5, 0, 11), (1, 1, 0, 0), (31, 0, 0, 0), (4, 3, 0, 0), (3, 3, 0, 0), (3, 3, 0, 0), (33, 4, 7, 234), (1, 2, 0, 0), (51, 0, 0, 214), (35, 4, 7, 234), (3, 3, 0, 0), (33, 4, 7, 234), (3, 0, 0, 0), (33, 5, 8, 106), (7, 0, 0, 0), (0, 0, 0, 60), (18, 21, 5, 0), (3, 0, 0, 0), (1, 1, 0, 0), (41, 67, 0, 297), (3, 3, 0, 0), (33, 4, 7, 234), (45, 0, 0, 0)]
def pg_p66 : List Nat := [0, 1, 4, 5, 6, 7, 8, 9, 12, 13, 16, 19, 20, 23, 24, 27, 28, 30, 33, 34, 35, 38, 39, 42]
def pg_w66 : List (List Nat) := [[], [275], [], [], [], [], [], [215], [], [542, 543, 59, 544], [215], [], [215], [], [283], [], [], [], [], [], [545], [], [215], []]
/-- 67: KayfabeRing.vacateTitlesOf(I)V -/
def pg_c67 : List RI := [(0, 0, 0, 0), (2, 2, 0, 0), (1, 2, 0, 0), (3, 0, 0, 0), (33, 5, 7, 74), (18, 23, 3, 0), (3, 0, 0, 0), (34, 5, 1, 17), (1, 2, 0, 0), (31, 0, 0, 0), (33, 3, 3, 283), (1, 1, 0, 0), (18, 21, 1, 0), (3, 0, 0, 0), (34, 5, 1, 17), (1, 2, 0, 0), (31, 0, 0, 0), (0, 0, 0, (-1)), (3, 0, 0, 0), (33, 5, 8, 106), (41, 25, 0, 300), (5, 2, 0, 1), (16, 2, 0, 0), (47, 0, 0, 0)]
def pg_p67 : List Nat := [0, 1, 2, 3, 4, 7, 10, 11, 14, 15, 16, 19, 20, 23, 24, 27, 28, 29, 30, 31, 34, 37, 40, 43]
def pg_w67 : List (List Nat) := [[], [], [], [], [282], [], [], [276], [], [], [265], [], [], [], [276], [], [], [], [], [283], [549], [], [], []]
/-- 68: KayfabeRing.hasHurtOnes(LKayfabeRing$Card;)Z -/
def pg_c68 : List RI := [(0, 0, 0, 0), (2, 2, 0, 0), (1, 2, 0, 0), (3, 1, 0, 0), (33, 0, 2, 144), (18, 33, 3, 0), (3, 1, 0, 0), (34, 0, 0, 147), (1, 2, 0, 0), (31, 0, 0, 0), (4, 3, 0, 0), (3, 0, 0, 0), (34, 5, 0, 11), (3, 3, 0, 0), (33, 1, 0, 255), (31, 0, 0, 0), (3, 0, 0, 0), (33, 5, 8, 106), (41, 27, 0, 127), (17, 29, 1, 0), (3, 0, 0, 0), (34, 5, 0, 11), (3, 3, 0, 0), (33, 1, 1, 258), (31, 0, 0, 0), (3, 0, 0, 0), (33, 5, 8, 106), (41, 27, 0, 127), (17, 31, 0, 0), (0, 0, 0, 1), (45, 0, 0, 0), (5, 2, 0, 1), (16, 2, 0, 0), (0, 0, 0, 0), (45, 0, 0, 0)]
def pg_p68 : List Nat := [0, 1, 2, 3, 4, 7, 10, 11, 14, 15, 16, 17, 18, 21, 22, 25, 26, 27, 30, 33, 36, 37, 40, 41, 44, 45, 46, 49, 52, 55, 56, 57, 60, 63, 64]
def pg_w68 : List (List Nat) := [[], [], [], [], [126], [], [], [120], [], [], [], [], [275], [], [89], [], [], [283], [485], [], [], [275], [], [93], [], [], [283], [485], [], [], [], [], [], [], []]
/-- 69: KayfabeRing.playMatch(LKayfabeRing$Match;I)I -/
def pg_c69 : List RI := [(3, 0, 0, 0), (34, 5, 0, 11), (3, 1, 0, 0), (33, 1, 0, 255), (31, 0, 0, 0), (4, 3, 0, 0), (3, 0, 0, 0), (34, 5, 0, 11), (3, 1, 0, 0), (33, 1, 1, 258), (31, 0, 0, 0), (4, 4, 0, 0), (3, 3, 0, 0), (1, 2, 0, 0), (41, 29, 0, 248), (3, 4, 0, 0), (1, 2, 0, 0), (41, 29, 0, 248), (6, 0, 0, 0), (2, 5, 0, 0), (3, 0, 0, 0), (34, 5, 4, 32), (1, 2, 0, 0), (14, 0, 0, 0), (27, 0, 0, 0), (1, 5, 0, 0), (6, 0, 0, 0), (28, 0, 0, 0), (3, 1, 0, 0), (33, 1, 5, 172), (17, 44, 0, 0), (3, 3, 0, 0), (13, 0, 0, 0), (33, 4, 11, 243), (0, 0, 0, 1), (6, 0, 0, 0), (35, 4, 11, 243), (3, 4, 0, 0), (13, 0, 0, 0), (33, 4, 11, 243), (0, 0, 0, 1), (6, 0, 0, 0), (35, 4, 11, 243), (16, 51, 0, 0), (3, 0, 0, 0), (3, 1, 0, 0), (41, 10, 0, 261), (3, 1, 0, 0), (41, 11, 0, 303), (1, 2, 0, 0), (41, 70, 0, 306), (3, 3, 0, 0), (13, 0, 0, 0), (33, 4, 6, 231), (3, 1, 0, 0), (33, 1, 3, 264), (6, 0, 0, 0), (35, 4, 6, 231), (3, 4, 0, 0), (13, 0, 0, 0), (33, 4, 6, 231), (3, 1, 0, 0), (33, 1, 3, 264), (6, 0, 0, 0), (35, 4, 6, 231), (3, 1, 0, 0), (33, 1, 5, 172), (17, 71, 1, 0), (3, 0, 0, 0), (3, 1, 0, 0), (41, 71, 0, 310), (3, 3, 0, 0), (41, 31, 0, 223), (3, 4, 0, 0), (41, 31, 0, 223), (1, 5, 0, 0), (45, 0, 0, 0)]
def pg_p69 : List Nat := [0, 1, 4, 5, 8, 9, 10, 11, 14, 15, 18, 19, 21, 22, 23, 26, 28, 29, 32, 33, 35, 36, 39, 40, 41, 42, 44, 45, 46, 47, 50, 53, 54, 55, 58, 59, 60, 63, 65, 66, 69, 70, 71, 74, 77, 78, 79, 82, 83, 86, 87, 90, 91, 92, 95, 96, 99, 100, 103, 105, 106, 109, 110, 113, 114, 117, 118, 121, 124, 125, 126, 129, 130, 133, 135, 138, 140]
def pg_w69 : List (List Nat) := [[], [275], [], [89], [], [], [], [275], [], [93], [], [], [], [], [631], [], [], [631], [], [], [], [279], [], [], [], [], [], [], [], [104], [], [], [], [219], [], [], [219], [], [], [219], [], [], [219], [], [], [], [632], [], [636], [], [640], [], [], [213], [], [98], [], [213], [], [], [213], [], [98], [], [213], [], [104], [], [], [], [649], [], [653], [], [653], [], []]
/-- 70: KayfabeRing.decide(III)V -/
def pg_c70 : List RI := [(3, 0, 0, 0), (34, 5, 0, 11), (1, 1, 0, 0), (31, 0, 0, 0), (4, 4, 0, 0), (3, 0, 0, 0), (34, 5, 0, 11), (1, 2, 0, 0), (31, 0, 0, 0), (4, 5, 0, 0), (3, 4, 0, 0), (13, 0, 0, 0), (33, 4, 9, 237), (0, 0, 0, 1), (6, 0, 0, 0), (35, 4, 9, 237), (3, 5, 0, 0), (13, 0, 0, 0), (33, 4, 10, 240), (0, 0, 0, 1), (6, 0, 0, 0), (35, 4, 10, 240), (3, 4, 0, 0), (34, 4, 2, 286), (1, 2, 0, 0), (14, 0, 0, 0), (27, 0, 0, 0), (0, 0, 0, 1), (6, 0, 0, 0), (28, 0, 0, 0), (3, 4, 0, 0), (33, 4, 5, 71), (3, 5, 0, 0), (33, 4, 5, 71), (18, 44, 1, 0), (3, 4, 0, 0), (1, 3, 0, 0), (0, 0, 0, 3), (41, 30, 0, 219), (3, 5, 0, 0), (1, 3, 0, 0), (0, 0, 0, (-1)), (41, 30, 0, 219), (16, 62, 0, 0), (3, 4, 0, 0), (1, 3, 0, 0), (3, 4, 0, 0), (33, 4, 5, 71), (17, 51, 1, 0), (0, 0, 0, 6), (16, 52, 0, 0), (0, 0, 0, (-6)), (41, 30, 0, 219), (3, 5, 0, 0), (1, 3, 0, 0), (3, 5, 0, 0), (33, 4, 5, 71), (17, 60, 1, 0), (0, 0, 0, 2), (16, 61, 0, 0), (0, 0, 0, (-2)), (41, 30, 0, 219), (47, 0, 0, 0)]
def pg_p70 : List Nat := [0, 1, 4, 5, 6, 8, 9, 12, 13, 14, 16, 18, 19, 22, 23, 24, 27, 29, 30, 33, 34, 35, 38, 40, 43, 44, 45, 46, 47, 48, 49, 51, 54, 56, 59, 62, 64, 65, 66, 69, 71, 72, 73, 76, 79, 81, 82, 84, 87, 90, 92, 95, 97, 100, 102, 103, 105, 108, 111, 112, 115, 117, 120]
def pg_w70 : List (List Nat) := [[], [275], [], [], [], [], [275], [], [], [], [], [], [217], [], [], [217], [], [], [218], [], [], [218], [], [206], [], [], [], [], [], [], [], [210], [], [210], [], [], [], [], [644], [], [], [], [644], [], [], [], [], [210], [], [], [], [], [644], [], [], [], [210], [], [], [], [], [644], []]
/-- 71: KayfabeRing.handOver(LKayfabeRing$Match;)V -/
def pg_c71 : List RI := [(3, 1, 0, 0), (33, 1, 4, 267), (0, 0, 0, (-1)), (18, 13, 0, 0), (3, 0, 0, 0), (3, 1, 0, 0), (33, 1, 4, 267), (3, 1, 0, 0), (33, 1, 0, 255), (3, 1, 0, 0), (33, 1, 1, 258), (41, 65, 0, 130), (17, 14, 1, 0), (47, 0, 0, 0), (3, 0, 0, 0), (34, 5, 1, 17), (3, 1, 0, 0), (33, 1, 4, 267), (31, 0, 0, 0), (4, 2, 0, 0), (3, 2, 0, 0), (33, 3, 3, 283), (3, 1, 0, 0), (41, 10, 0, 261), (18, 31, 0, 0), (3, 2, 0, 0), (3, 1, 0, 0), (41, 10, 0, 261), (3, 0, 0, 0), (33, 5, 8, 106), (41, 25, 0, 300), (47, 0, 0, 0)]
def pg_p71 : List Nat := [0, 1, 4, 5, 8, 9, 10, 13, 14, 17, 18, 21, 24, 27, 28, 29, 32, 33, 36, 37, 38, 39, 42, 43, 46, 49, 50, 51, 54, 55, 58, 61]
def pg_w71 : List (List Nat) := [[], [101], [], [], [], [], [101], [], [89], [], [93], [489], [], [], [], [276], [], [101], [], [], [], [265], [], [632], [], [], [], [632], [], [283], [549], []]
/-- 72: KayfabeRing.mendersView()LKayfabeRing$Mender; -/
def pg_c72 : List RI := [(3, 0, 0, 0), (3, 0, 0, 0), (33, 5, 8, 106), (41, 63, 0, 111), (4, 1, 0, 0), (3, 1, 0, 0), (33, 0, 2, 144), (17, 11, 0, 0), (3, 1, 0, 0), (33, 0, 3, 162), (17, 16, 0, 0), (44, 2, 22, 0), (49, 0, 0, 0), (49, 0, 0, 0), (49, 0, 0, 0), (49, 0, 0, 0), (3, 0, 0, 0), (34, 5, 5, 39), (3, 1, 0, 0), (3, 0, 0, 0), (33, 5, 8, 106), (3, 0, 0, 0), (34, 5, 0, 11), (3, 0, 0, 0), (33, 5, 6, 56), (41, 13, 0, 316), (3, 0, 0, 0), (34, 5, 5, 39), (48, 2, 11, 320), (0, 0, 0, 4), (18, 36, 5, 0), (44, 2, 23, 0), (49, 0, 0, 0), (49, 0, 0, 0), (49, 0, 0, 0), (49, 0, 0, 0), (3, 0, 0, 0), (34, 5, 5, 39), (46, 0, 0, 0)]
def pg_p72 : List Nat := [0, 1, 2, 5, 8, 9, 10, 13, 16, 17, 20, 23, 26, 27, 30, 33, 34, 35, 38, 39, 40, 43, 44, 47, 48, 51, 54, 55, 58, 61, 62, 65, 68, 69, 72, 75, 76, 77, 80]
def pg_w72 : List (List Nat) := [[], [], [283], [464], [], [], [126], [], [], [128], [], [387, 57, 60, 64, 1], [], [], [], [], [], [280], [], [], [283], [], [275], [], [281], [572], [], [280], [159], [], [], [387, 57, 60, 64, 1], [], [], [], [], [], [280], []]
/-- 73: KayfabeRingModel.<init>()V -/
def pg_c73 : List RI := [(3, 0, 0, 0), (43, 0, 0, 1), (3, 0, 0, 0), (0, 0, 0, 10), (38, 7, 0, 0), (36, 6, 1, 7), (3, 0, 0, 0), (0, 0, 0, 10), (38, 7, 0, 0), (36, 6, 2, 13), (3, 0, 0, 0), (0, 0, 0, 10), (38, 7, 0, 0), (36, 6, 3, 16), (3, 0, 0, 0), (0, 0, 0, 40), (38, 7, 0, 0), (36, 6, 4, 19), (3, 0, 0, 0), (0, 0, 0, 10), (38, 7, 0, 0), (36, 6, 5, 22), (3, 0, 0, 0), (0, 0, 0, 10), (38, 7, 0, 0), (36, 6, 6, 25), (3, 0, 0, 0), (0, 0, 0, 10), (38, 7, 0, 0), (36, 6, 7, 28), (3, 0, 0, 0), (0, 0, 0, 10), (38, 7, 0, 0), (36, 6, 8, 31), (3, 0, 0, 0), (0, 0, 0, 10), (38, 7, 0, 0), (36, 6, 9, 34), (3, 0, 0, 0), (0, 0, 0, 10), (38, 8, 0, 0), (36, 6, 10, 37), (3, 0, 0, 0), (0, 0, 0, 100), (38, 7, 0, 0), (36, 6, 11, 41), (3, 0, 0, 0), (0, 0, 0, 10), (38, 7, 0, 0), (36, 6, 12, 44), (3, 0, 0, 0), (0, 0, 0, 100), (38, 7, 0, 0), (36, 6, 13, 47), (3, 0, 0, 0), (0, 0, 0, 8000), (38, 7, 0, 0), (36, 6, 15, 50), (3, 0, 0, 0), (0, 0, 0, 8000), (38, 7, 0, 0), (36, 6, 16, 53), (3, 0, 0, 0), (0, 0, 0, 4), (38, 7, 0, 0), (36, 6, 17, 56), (3, 0, 0, 0), (0, 0, 59, 36000), (38, 7, 0, 0), (36, 6, 19, 60), (3, 0, 0, 0), (0, 0, 0, 1000), (38, 7, 0, 0), (36, 6, 20, 63), (3, 0, 0, 0), (0, 0, 0, 1000), (38, 7, 0, 0), (36, 6, 21, 66), (3, 0, 0, 0), (0, 0, 0, 1000), (38, 8, 0, 0), (36, 6, 22, 69), (3, 0, 0, 0), (0, 0, 0, 4), (38, 7, 0, 0), (36, 6, 23, 72), (3, 0, 0, 0), (0, 0, 0, 4), (38, 7, 0, 0), (36, 6, 24, 75), (3, 0, 0, 0), (0, 0, 0, 4), (38, 7, 0, 0), (36, 6, 25, 78), (3, 0, 0, 0), (0, 0, 0, 4), (38, 7, 0, 0), (36, 6, 26, 81), (47, 0, 0, 0)]
def pg_p73 : List Nat := [0, 1, 4, 5, 7, 9, 12, 13, 15, 17, 20, 21, 23, 25, 28, 29, 31, 33, 36, 37, 39, 41, 44, 45, 47, 49, 52, 53, 55, 57, 60, 61, 63, 65, 68, 69, 71, 73, 76, 77, 79, 81, 84, 85, 87, 89, 92, 93, 95, 97, 100, 101, 103, 105, 108, 109, 112, 114, 117, 118, 121, 123, 126, 127, 128, 130, 133, 134, 136, 138, 141, 142, 145, 147, 150, 151, 154, 156, 159, 160, 163, 165, 168, 169, 170, 172, 175, 176, 177, 179, 182, 183, 184, 186, 189, 190, 191, 193, 196]
def pg_w73 : List (List Nat) := [[], [794, 66, 67], [], [], [191], [797], [], [], [191], [798], [], [], [191], [799], [], [], [191], [800], [], [], [191], [801], [], [], [191], [802], [], [], [191], [803], [], [], [191], [804], [], [], [191], [805], [], [], [192], [806], [], [], [191], [807], [], [], [191], [808], [], [], [191], [809], [], [], [191], [811], [], [], [191], [812], [], [], [191], [813], [], [795], [191], [815], [], [], [191], [816], [], [], [191], [817], [], [], [192], [818], [], [], [191], [819], [], [], [191], [820], [], [], [191], [821], [], [], [191], [822], []]
/-- 74: KayfabeRingModel.thrown()I -/
def pg_c74 : List RI := [(3, 0, 0, 0), (33, 6, 28, 84), (45, 0, 0, 0)]
def pg_p74 : List Nat := [0, 1, 4]
def pg_w74 : List (List Nat) := [[], [824], []]
/-- 75: KayfabeRingModel.in(III)Z -/
def pg_c75 : List RI := [(1, 0, 0, 0), (1, 1, 0, 0), (18, 8, 2, 0), (1, 0, 0, 0), (1, 2, 0, 0), (18, 8, 4, 0), (0, 0, 0, 1), (16, 9, 0, 0), (0, 0, 0, 0), (45, 0, 0, 0)]
def pg_p75 : List Nat := [0, 1, 2, 5, 6, 7, 10, 11, 14, 15]
def pg_w75 : List (List Nat) := [[], [], [], [], [], [], [], [], [], []]
/-- 76: KayfabeRingModel.goes(ZZZ)Z -/
def pg_c76 : List RI := [(3, 0, 0, 0), (1, 1, 0, 0), (17, 5, 1, 0), (0, 0, 0, 1), (16, 14, 0, 0), (1, 2, 0, 0), (17, 9, 1, 0), (0, 0, 0, 2), (16, 14, 0, 0), (1, 3, 0, 0), (17, 13, 0, 0), (0, 0, 0, 0), (16, 14, 0, 0), (0, 0, 0, 3), (35, 6, 28, 84), (3, 0, 0, 0), (33, 6, 28, 84), (17, 20, 1, 0), (0, 0, 0, 1), (16, 21, 0, 0), (0, 0, 0, 0), (45, 0, 0, 0)]
def pg_p76 : List Nat := [0, 1, 2, 5, 6, 9, 10, 13, 14, 17, 18, 21, 22, 25, 26, 29, 30, 33, 36, 37, 40, 41]
def pg_w76 : List (List Nat) := [[], [], [], [], [], [], [], [], [], [], [], [], [], [], [824], [], [824], [], [], [], [], []]
/-- 77: KayfabeRingModel.isTown(I)Z -/
def pg_c77 : List RI := [(1, 0, 0, 0), (0, 0, 0, 0), (0, 0, 0, 3), (40, 75, 0, 88), (45, 0, 0, 0)]
def pg_p77 : List Nat := [0, 1, 2, 3, 6]
def pg_w77 : List (List Nat) := [[], [], [], [892], []]
/-- 78: KayfabeRingModel.isOne(I)Z -/
def pg_c78 : List RI := [(1, 1, 0, 0), (0, 0, 0, 0), (3, 0, 0, 0), (33, 6, 14, 92), (0, 0, 0, 1), (7, 0, 0, 0), (40, 75, 0, 88), (45, 0, 0, 0)]
def pg_p78 : List Nat := [0, 1, 2, 3, 6, 7, 8, 11]
def pg_w78 : List (List Nat) := [[], [], [], [810], [], [], [892], []]
/-- 79: KayfabeRingModel.isTitle(I)Z -/
def pg_c79 : List RI := [(1, 1, 0, 0), (0, 0, 0, 0), (3, 0, 0, 0), (33, 6, 18, 95), (0, 0, 0, 1), (7, 0, 0, 0), (40, 75, 0, 88), (45, 0, 0, 0)]
def pg_p79 : List Nat := [0, 1, 2, 3, 6, 7, 8, 11]
def pg_w79 : List (List Nat) := [[], [], [], [814], [], [], [892], []]
/-- 80: KayfabeRingModel.isMatch(II)Z -/
def pg_c80 : List RI := [(1, 1, 0, 0), (0, 0, 0, 0), (0, 0, 0, 999), (40, 75, 0, 88), (17, 17, 0, 0), (1, 2, 0, 0), (0, 0, 0, 0), (3, 0, 0, 0), (34, 6, 20, 63), (1, 1, 0, 0), (27, 0, 0, 0), (0, 0, 0, 1), (7, 0, 0, 0), (40, 75, 0, 88), (17, 17, 0, 0), (0, 0, 0, 1), (16, 18, 0, 0), (0, 0, 0, 0), (45, 0, 0, 0)]
def pg_p80 : List Nat := [0, 1, 2, 5, 8, 11, 12, 13, 14, 17, 18, 19, 20, 21, 24, 27, 28, 31, 32]
def pg_w80 : List (List Nat) := [[], [], [], [892], [], [], [], [], [816], [], [], [], [], [892], [], [], [], [], []]
/-- 81: KayfabeRingModel.of(III)I -/
def pg_c81 : List RI := [(3, 0, 0, 0), (34, 6, 19, 60), (0, 0, 0, 36), (1, 1, 0, 0), (8, 0, 0, 0), (0, 0, 0, 6), (1, 2, 0, 0), (8, 0, 0, 0), (6, 0, 0, 0), (1, 3, 0, 0), (6, 0, 0, 0), (27, 0, 0, 0), (45, 0, 0, 0)]
def pg_p81 : List Nat := [0, 1, 4, 6, 7, 8, 10, 11, 12, 13, 14, 15, 16]
def pg_w81 : List (List Nat) := [[], [815], [], [], [], [], [], [], [], [], [], [], []]
/-- 82: KayfabeRingModel.isHurt(II)Z -/
def pg_c82 : List RI := [(3, 0, 0, 0), (34, 6, 6, 25), (1, 1, 0, 0), (27, 0, 0, 0), (1, 2, 0, 0), (18, 8, 5, 0), (0, 0, 0, 1), (16, 9, 0, 0), (0, 0, 0, 0), (45, 0, 0, 0)]
def pg_p82 : List Nat := [0, 1, 4, 5, 6, 7, 10, 11, 14, 15]
def pg_w82 : List (List Nat) := [[], [802], [], [], [], [], [], [], [], []]
/-- 83: KayfabeRingModel.wrestler(III)I -/
def pg_c83 : List RI := [(3, 0, 0, 0), (1, 1, 0, 0), (0, 0, 0, 0), (0, 0, 0, 99), (40, 75, 0, 88), (17, 18, 0, 0), (1, 2, 0, 0), (0, 0, 0, 0), (0, 0, 0, 99), (40, 75, 0, 88), (17, 18, 0, 0), (1, 3, 0, 0), (0, 0, 0, 0), (0, 0, 0, 1), (40, 75, 0, 88), (17, 18, 0, 0), (0, 0, 0, 1), (16, 19, 0, 0), (0, 0, 0, 0), (3, 0, 0, 0), (33, 6, 14, 92), (0, 0, 0, 10), (18, 25, 3, 0), (0, 0, 0, 1), (16, 26, 0, 0), (0, 0, 0, 0), (0, 0, 0, 1), (41, 76, 0, 98), (17, 31, 1, 0), (0, 0, 0, 0), (45, 0, 0, 0), (3, 0, 0, 0), (34, 6, 1, 7), (3, 0, 0, 0), (33, 6, 14, 92), (1, 1, 0, 0), (28, 0, 0, 0), (3, 0, 0, 0), (34, 6, 2, 13), (3, 0, 0, 0), (33, 6, 14, 92), (1, 2, 0, 0), (28, 0, 0, 0), (3, 0, 0, 0), (34, 6, 3, 16), (3, 0, 0, 0), (33, 6, 14, 92), (1, 3, 0, 0), (28, 0, 0, 0), (3, 0, 0, 0), (13, 0, 0, 0), (33, 6, 14, 92), (0, 0, 0, 1), (6, 0, 0, 0), (35, 6, 14, 92), (3, 0, 0, 0), (33, 6, 14, 92), (0, 0, 0, 1), (7, 0, 0, 0), (45, 0, 0, 0)]
def pg_p83 : List Nat := [0, 1, 2, 3, 5, 8, 11, 12, 13, 15, 18, 21, 22, 23, 24, 27, 30, 31, 34, 35, 36, 39, 41, 44, 45, 48, 49, 50, 53, 56, 57, 58, 59, 62, 63, 66, 67, 68, 69, 72, 73, 76, 77, 78, 79, 82, 83, 86, 87, 88, 89, 90, 93, 94, 95, 98, 99, 102, 103, 104]
def pg_w83 : List (List Nat) := [[], [], [], [], [892], [], [], [], [], [892], [], [], [], [], [892], [], [], [], [], [], [810], [], [], [], [], [], [], [895], [], [], [], [], [797], [], [810], [], [], [], [798], [], [810], [], [], [], [799], [], [810], [], [], [], [], [810], [], [], [810], [], [810], [], [], []]
/-- 84: KayfabeRingModel.title()I -/
def pg_c84 : List RI := [(3, 0, 0, 0), (3, 0, 0, 0), (33, 6, 18, 95), (0, 0, 0, 4), (18, 7, 3, 0), (0, 0, 0, 1), (16, 8, 0, 0), (0, 0, 0, 0), (0, 0, 0, 1), (0, 0, 0, 1), (41, 76, 0, 98), (17, 14, 1, 0), (0, 0, 0, 0), (45, 0, 0, 0), (3, 0, 0, 0), (13, 0, 0, 0), (33, 6, 18, 95), (0, 0, 0, 1), (6, 0, 0, 0), (35, 6, 18, 95), (3, 0, 0, 0), (33, 6, 18, 95), (0, 0, 0, 1), (7, 0, 0, 0), (45, 0, 0, 0)]
def pg_p84 : List Nat := [0, 1, 2, 5, 6, 9, 10, 13, 14, 15, 16, 19, 22, 23, 24, 25, 26, 29, 30, 31, 34, 35, 38, 39, 40]
def pg_w84 : List (List Nat) := [[], [], [814], [], [], [], [], [], [], [], [895], [], [], [], [], [], [814], [], [], [814], [], [814], [], [], []]
/-- 85: KayfabeRingModel.clause(III)I -/
def pg_c85 : List RI := [(3, 0, 0, 0), (3, 0, 0, 0), (1, 1, 0, 0), (41, 78, 0, 102), (17, 11, 0, 0), (3, 0, 0, 0), (1, 2, 0, 0), (41, 78, 0, 102), (17, 11, 0, 0), (0, 0, 0, 1), (16, 12, 0, 0), (0, 0, 0, 0), (1, 1, 0, 0), (1, 2, 0, 0), (18, 22, 0, 0), (1, 3, 0, 0), (0, 0, 0, (-1)), (0, 0, 0, 999), (40, 75, 0, 88), (17, 22, 0, 0), (0, 0, 0, 1), (16, 23, 0, 0), (0, 0, 0, 0), (0, 0, 0, 1), (41, 76, 0, 98), (17, 28, 1, 0), (0, 0, 0, 0), (45, 0, 0, 0), (3, 0, 0, 0), (34, 6, 11, 41), (0, 0, 0, 10), (1, 1, 0, 0), (8, 0, 0, 0), (1, 2, 0, 0), (6, 0, 0, 0), (27, 0, 0, 0), (0, 0, 0, 1), (7, 0, 0, 0), (2, 4, 0, 0), (3, 0, 0, 0), (34, 6, 11, 41), (0, 0, 0, 10), (1, 1, 0, 0), (8, 0, 0, 0), (1, 2, 0, 0), (6, 0, 0, 0), (1, 3, 0, 0), (0, 0, 0, 1), (6, 0, 0, 0), (28, 0, 0, 0), (1, 4, 0, 0), (45, 0, 0, 0)]
def pg_p85 : List Nat := [0, 1, 2, 3, 6, 9, 10, 11, 14, 17, 18, 21, 22, 23, 24, 27, 28, 29, 32, 35, 38, 39, 42, 43, 44, 47, 50, 51, 52, 53, 56, 58, 59, 60, 61, 62, 63, 64, 65, 67, 68, 71, 73, 74, 75, 76, 77, 78, 79, 80, 81, 83]
def pg_w85 : List (List Nat) := [[], [], [], [907], [], [], [], [907], [], [], [], [], [], [], [], [], [], [], [892], [], [], [], [], [], [895], [], [], [], [], [807], [], [], [], [], [], [], [], [], [], [], [807], [], [], [], [], [], [], [], [], [], [], []]
/-- 86: KayfabeRingModel.protect(II)I -/
def pg_c86 : List RI := [(3, 0, 0, 0), (3, 0, 0, 0), (1, 1, 0, 0), (41, 78, 0, 102), (1, 2, 0, 0), (0, 0, 0, 0), (0, 0, 0, 999), (40, 75, 0, 88), (0, 0, 0, 1), (41, 76, 0, 98), (17, 13, 1, 0), (0, 0, 0, 0), (45, 0, 0, 0), (3, 0, 0, 0), (34, 6, 12, 44), (1, 1, 0, 0), (27, 0, 0, 0), (2, 3, 0, 0), (3, 0, 0, 0), (34, 6, 12, 44), (1, 1, 0, 0), (1, 2, 0, 0), (28, 0, 0, 0), (1, 3, 0, 0), (45, 0, 0, 0)]
def pg_p86 : List Nat := [0, 1, 2, 3, 6, 7, 8, 11, 14, 15, 18, 21, 22, 23, 24, 27, 28, 29, 30, 31, 34, 35, 36, 37, 38]
def pg_w86 : List (List Nat) := [[], [], [], [907], [], [], [], [892], [], [895], [], [], [], [], [808], [], [], [], [], [808], [], [], [], [], []]
/-- 87: KayfabeRingModel.isBarred(III)Z -/
def pg_c87 : List RI := [(3, 0, 0, 0), (34, 6, 11, 41), (0, 0, 0, 10), (1, 1, 0, 0), (8, 0, 0, 0), (1, 2, 0, 0), (6, 0, 0, 0), (27, 0, 0, 0), (1, 3, 0, 0), (18, 16, 4, 0), (3, 0, 0, 0), (34, 6, 12, 44), (1, 1, 0, 0), (27, 0, 0, 0), (1, 3, 0, 0), (18, 18, 5, 0), (0, 0, 0, 1), (16, 19, 0, 0), (0, 0, 0, 0), (45, 0, 0, 0)]
def pg_p87 : List Nat := [0, 1, 4, 6, 7, 8, 9, 10, 11, 12, 15, 16, 19, 20, 21, 22, 25, 26, 29, 30]
def pg_w87 : List (List Nat) := [[], [807], [], [], [], [], [], [], [], [], [], [808], [], [], [], [], [], [], [], []]
/-- 88: KayfabeRingModel.championOf(I)I -/
def pg_c88 : List RI := [(3, 0, 0, 0), (34, 6, 17, 56), (1, 1, 0, 0), (27, 0, 0, 0), (17, 7, 1, 0), (0, 0, 0, (-1)), (16, 20, 0, 0), (3, 0, 0, 0), (34, 6, 15, 50), (0, 0, 0, 2000), (1, 1, 0, 0), (8, 0, 0, 0), (3, 0, 0, 0), (34, 6, 17, 56), (1, 1, 0, 0), (27, 0, 0, 0), (6, 0, 0, 0), (0, 0, 0, 1), (7, 0, 0, 0), (27, 0, 0, 0), (45, 0, 0, 0)]
def pg_p88 : List Nat := [0, 1, 4, 5, 6, 9, 10, 13, 14, 17, 20, 21, 22, 23, 26, 27, 28, 29, 30, 31, 32]
def pg_w88 : List (List Nat) := [[], [813], [], [], [], [], [], [], [811], [], [], [], [], [813], [], [], [], [], [], [], []]
/-- 89: KayfabeRingModel.crowns(II)V -/
def pg_c89 : List RI := [(3, 0, 0, 0), (34, 6, 15, 50), (0, 0, 0, 2000), (1, 1, 0, 0), (8, 0, 0, 0), (3, 0, 0, 0), (34, 6, 17, 56), (1, 1, 0, 0), (27, 0, 0, 0), (6, 0, 0, 0), (1, 2, 0, 0), (28, 0, 0, 0), (3, 0, 0, 0), (34, 6, 16, 53), (0, 0, 0, 2000), (1, 1, 0, 0), (8, 0, 0, 0), (3, 0, 0, 0), (34, 6, 17, 56), (1, 1, 0, 0), (27, 0, 0, 0), (6, 0, 0, 0), (3, 0, 0, 0), (33, 6, 0, 106), (28, 0, 0, 0), (3, 0, 0, 0), (34, 6, 17, 56), (1, 1, 0, 0), (14, 0, 0, 0), (27, 0, 0, 0), (0, 0, 0, 1), (6, 0, 0, 0), (28, 0, 0, 0), (47, 0, 0, 0)]
def pg_p89 : List Nat := [0, 1, 4, 7, 8, 9, 10, 13, 14, 15, 16, 17, 18, 19, 22, 25, 26, 27, 28, 31, 32, 33, 34, 35, 38, 39, 40, 43, 44, 45, 46, 47, 48, 49]
def pg_w89 : List (List Nat) := [[], [811], [], [], [], [], [813], [], [], [], [], [], [], [812], [], [], [], [], [813], [], [], [], [], [796], [], [], [813], [], [], [], [], [], [], []]
/-- 90: KayfabeRingModel.isOnCard(II)Z -/
def pg_c90 : List RI := [(0, 0, 0, 0), (2, 3, 0, 0), (0, 0, 0, 0), (2, 4, 0, 0), (1, 4, 0, 0), (3, 0, 0, 0), (34, 6, 20, 63), (1, 1, 0, 0), (27, 0, 0, 0), (18, 32, 3, 0), (1, 3, 0, 0), (17, 26, 1, 0), (3, 0, 0, 0), (1, 1, 0, 0), (1, 4, 0, 0), (0, 0, 0, 0), (41, 81, 0, 109), (1, 2, 0, 0), (18, 26, 0, 0), (3, 0, 0, 0), (1, 1, 0, 0), (1, 4, 0, 0), (0, 0, 0, 1), (41, 81, 0, 109), (1, 2, 0, 0), (18, 28, 1, 0), (0, 0, 0, 1), (16, 29, 0, 0), (0, 0, 0, 0), (2, 3, 0, 0), (5, 4, 0, 1), (16, 4, 0, 0), (1, 3, 0, 0), (45, 0, 0, 0)]
def pg_p90 : List Nat := [0, 1, 2, 3, 5, 7, 8, 11, 12, 13, 16, 17, 20, 21, 22, 24, 25, 28, 29, 32, 33, 34, 36, 37, 40, 41, 44, 45, 48, 49, 50, 53, 56, 57]
def pg_w90 : List (List Nat) := [[], [], [], [], [], [], [816], [], [], [], [], [], [], [], [], [], [934], [], [], [], [], [], [], [934], [], [], [], [], [], [], [], [], [], []]
/-- 91: KayfabeRingModel.minutesOf(I)I -/
def pg_c91 : List RI := [(0, 0, 0, 0), (2, 2, 0, 0), (0, 0, 0, 0), (2, 3, 0, 0), (1, 3, 0, 0), (3, 0, 0, 0), (34, 6, 20, 63), (1, 1, 0, 0), (27, 0, 0, 0), (18, 20, 3, 0), (1, 2, 0, 0), (3, 0, 0, 0), (1, 1, 0, 0), (1, 3, 0, 0), (0, 0, 0, 3), (41, 81, 0, 109), (6, 0, 0, 0), (2, 2, 0, 0), (5, 3, 0, 1), (16, 4, 0, 0), (1, 2, 0, 0), (45, 0, 0, 0)]
def pg_p91 : List Nat := [0, 1, 2, 3, 4, 5, 6, 9, 10, 11, 14, 15, 16, 17, 18, 19, 22, 23, 24, 27, 30, 31]
def pg_w91 : List (List Nat) := [[], [], [], [], [], [], [816], [], [], [], [], [], [], [], [], [934], [], [], [], [], [], []]
/-- 92: KayfabeRingModel.fits(IIIIII)Z -/
def pg_c92 : List RI := [(3, 0, 0, 0), (34, 6, 22, 69), (1, 1, 0, 0), (29, 0, 0, 0), (17, 31, 1, 0), (3, 0, 0, 0), (34, 6, 20, 63), (1, 1, 0, 0), (27, 0, 0, 0), (17, 16, 0, 0), (3, 0, 0, 0), (34, 6, 21, 66), (1, 1, 0, 0), (27, 0, 0, 0), (1, 2, 0, 0), (18, 31, 1, 0), (3, 0, 0, 0), (34, 6, 20, 63), (1, 1, 0, 0), (27, 0, 0, 0), (0, 0, 0, 6), (18, 31, 3, 0), (3, 0, 0, 0), (1, 1, 0, 0), (41, 91, 0, 113), (1, 5, 0, 0), (6, 0, 0, 0), (0, 0, 0, 120), (18, 31, 4, 0), (0, 0, 0, 1), (16, 32, 0, 0), (0, 0, 0, 0), (2, 7, 0, 0), (0, 0, 0, 0), (2, 8, 0, 0), (1, 8, 0, 0), (3, 0, 0, 0), (34, 6, 20, 63), (1, 1, 0, 0), (27, 0, 0, 0), (18, 59, 3, 0), (1, 7, 0, 0), (17, 55, 0, 0), (1, 6, 0, 0), (0, 0, 0, (-1)), (18, 53, 0, 0), (3, 0, 0, 0), (1, 1, 0, 0), (1, 8, 0, 0), (0, 0, 0, 4), (41, 81, 0, 109), (1, 6, 0, 0), (18, 55, 0, 0), (0, 0, 0, 1), (16, 56, 0, 0), (0, 0, 0, 0), (2, 7, 0, 0), (5, 8, 0, 1), (16, 35, 0, 0), (1, 6, 0, 0), (0, 0, 0, (-1)), (18, 64, 1, 0), (0, 0, 0, (-1)), (16, 67, 0, 0), (3, 0, 0, 0), (1, 6, 0, 0), (41, 88, 0, 117), (2, 8, 0, 0), (1, 7, 0, 0), (17, 101, 0, 0), (3, 0, 0, 0), (1, 1, 0, 0), (1, 3, 0, 0), (41, 90, 0, 120), (17, 101, 1, 0), (3, 0, 0, 0), (1, 1, 0, 0), (1, 4, 0, 0), (41, 90, 0, 120), (17, 101, 1, 0), (3, 0, 0, 0), (1, 3, 0, 0), (1, 1, 0, 0), (41, 82, 0, 124), (17, 101, 1, 0), (3, 0, 0, 0), (1, 4, 0, 0), (1, 1, 0, 0), (41, 82, 0, 124), (17, 101, 1, 0), (1, 8, 0, 0), (0, 0, 0, (-1)), (18, 99, 0, 0), (1, 8, 0, 0), (1, 3, 0, 0), (18, 99, 0, 0), (1, 8, 0, 0), (1, 4, 0, 0), (18, 101, 1, 0), (0, 0, 0, 1), (16, 102, 0, 0), (0, 0, 0, 0), (45, 0, 0, 0)]
def pg_p92 : List Nat := [0, 1, 4, 5, 6, 9, 10, 13, 14, 15, 18, 19, 22, 23, 24, 25, 28, 29, 32, 33, 34, 36, 39, 40, 41, 44, 46, 47, 49, 52, 53, 56, 57, 59, 60, 62, 64, 65, 68, 69, 70, 73, 75, 78, 80, 81, 84, 85, 86, 88, 89, 92, 94, 97, 98, 101, 102, 104, 107, 110, 112, 113, 116, 117, 120, 121, 123, 126, 128, 130, 133, 134, 135, 136, 139, 142, 143, 144, 146, 149, 152, 153, 154, 155, 158, 161, 162, 164, 165, 168, 171, 173, 174, 177, 179, 180, 183, 185, 187, 190, 191, 194, 195]
def pg_w92 : List (List Nat) := [[], [818], [], [], [], [], [816], [], [], [], [], [817], [], [], [], [], [], [816], [], [], [], [], [], [], [930], [], [], [], [], [], [], [], [], [], [], [], [], [816], [], [], [], [], [], [], [], [], [], [], [], [], [934], [], [], [], [], [], [], [], [], [], [], [], [], [], [], [], [938], [], [], [], [], [], [], [942], [], [], [], [], [942], [], [], [], [], [946], [], [], [], [], [946], [], [], [], [], [], [], [], [], [], [], [], [], [], []]
/-- 93: KayfabeRingModel.book(IIIIZII)I -/
def pg_c93 : List RI := [(1, 2, 0, 0), (40, 77, 0, 127), (17, 20, 0, 0), (3, 0, 0, 0), (1, 3, 0, 0), (41, 78, 0, 102), (17, 20, 0, 0), (3, 0, 0, 0), (1, 4, 0, 0), (41, 78, 0, 102), (17, 20, 0, 0), (1, 7, 0, 0), (0, 0, 0, (-1)), (18, 18, 0, 0), (3, 0, 0, 0), (1, 7, 0, 0), (41, 79, 0, 130), (17, 20, 0, 0), (0, 0, 0, 1), (16, 21, 0, 0), (0, 0, 0, 0), (2, 8, 0, 0), (1, 1, 0, 0), (3, 0, 0, 0), (33, 6, 0, 106), (0, 0, 0, 999), (40, 75, 0, 88), (17, 38, 0, 0), (1, 6, 0, 0), (0, 0, 0, 1), (0, 0, 0, 60), (40, 75, 0, 88), (17, 38, 0, 0), (1, 3, 0, 0), (1, 4, 0, 0), (18, 38, 0, 0), (0, 0, 0, 1), (16, 39, 0, 0), (0, 0, 0, 0), (2, 9, 0, 0), (1, 8, 0, 0), (17, 69, 0, 0), (1, 9, 0, 0), (17, 69, 0, 0), (3, 0, 0, 0), (1, 1, 0, 0), (1, 2, 0, 0), (1, 3, 0, 0), (1, 4, 0, 0), (1, 6, 0, 0), (1, 7, 0, 0), (41, 92, 0, 133), (17, 69, 0, 0), (3, 0, 0, 0), (1, 5, 0, 0), (17, 58, 0, 0), (1, 4, 0, 0), (16, 59, 0, 0), (1, 3, 0, 0), (1, 5, 0, 0), (17, 63, 0, 0), (1, 3, 0, 0), (16, 64, 0, 0), (1, 4, 0, 0), (1, 1, 0, 0), (41, 87, 0, 137), (17, 69, 1, 0), (0, 0, 0, 1), (16, 70, 0, 0), (0, 0, 0, 0), (2, 10, 0, 0), (3, 0, 0, 0), (1, 8, 0, 0), (1, 9, 0, 0), (1, 10, 0, 0), (41, 76, 0, 98), (17, 79, 1, 0), (0, 0, 0, 0), (45, 0, 0, 0), (0, 0, 0, 36), (1, 1, 0, 0), (8, 0, 0, 0), (0, 0, 0, 6), (3, 0, 0, 0), (34, 6, 20, 63), (1, 1, 0, 0), (27, 0, 0, 0), (8, 0, 0, 0), (6, 0, 0, 0), (2, 11, 0, 0), (3, 0, 0, 0), (34, 6, 19, 60), (1, 11, 0, 0), (0, 0, 0, 0), (6, 0, 0, 0), (1, 3, 0, 0), (28, 0, 0, 0), (3, 0, 0, 0), (34, 6, 19, 60), (1, 11, 0, 0), (0, 0, 0, 1), (6, 0, 0, 0), (1, 4, 0, 0), (28, 0, 0, 0), (3, 0, 0, 0), (34, 6, 19, 60), (1, 11, 0, 0), (0, 0, 0, 2), (6, 0, 0, 0), (1, 5, 0, 0), (17, 113, 0, 0), (0, 0, 0, 0), (16, 114, 0, 0), (0, 0, 0, 1), (28, 0, 0, 0), (3, 0, 0, 0), (34, 6, 19, 60), (1, 11, 0, 0), (0, 0, 0, 3), (6, 0, 0, 0), (1, 6, 0, 0), (28, 0, 0, 0), (3, 0, 0, 0), (34, 6, 19, 60), (1, 11, 0, 0), (0, 0, 0, 4), (6, 0, 0, 0), (1, 7, 0, 0), (28, 0, 0, 0), (3, 0, 0, 0), (34, 6, 19, 60), (1, 11, 0, 0), (0, 0, 0, 5), (6, 0, 0, 0), (0, 0, 0, 0), (28, 0, 0, 0), (3, 0, 0, 0), (34, 6, 21, 66), (1, 1, 0, 0), (1, 2, 0, 0), (28, 0, 0, 0), (3, 0, 0, 0), (34, 6, 20, 63), (1, 1, 0, 0), (14, 0, 0, 0), (27, 0, 0, 0), (0, 0, 0, 1), (6, 0, 0, 0), (28, 0, 0, 0), (3, 0, 0, 0), (34, 6, 20, 63), (1, 1, 0, 0), (27, 0, 0, 0), (0, 0, 0, 1), (7, 0, 0, 0), (45, 0, 0, 0)]
def pg_p93 : List Nat := [0, 1, 4, 7, 8, 9, 12, 15, 16, 18, 21, 24, 26, 27, 30, 31, 33, 36, 39, 40, 43, 44, 46, 47, 48, 51, 54, 57, 60, 62, 63, 65, 68, 71, 72, 74, 77, 78, 81, 82, 84, 86, 89, 91, 94, 95, 96, 97, 98, 100, 102, 104, 107, 110, 111, 113, 116, 118, 121, 122, 124, 127, 128, 131, 133, 134, 137, 140, 141, 144, 145, 147, 148, 150, 152, 154, 157, 160, 161, 162, 164, 165, 166, 168, 169, 172, 173, 174, 175, 176, 178, 179, 182, 184, 185, 186, 187, 188, 189, 192, 194, 195, 196, 198, 199, 200, 203, 205, 206, 207, 209, 212, 213, 216, 217, 218, 219, 222, 224, 225, 226, 228, 229, 230, 233, 235, 236, 237, 239, 240, 241, 244, 246, 247, 248, 249, 250, 251, 254, 255, 256, 257, 258, 261, 262, 263, 264, 265, 266, 267, 268, 271, 272, 273, 274, 275]
def pg_w93 : List (List Nat) := [[], [919], [], [], [], [907], [], [], [], [907], [], [], [], [], [], [], [922], [], [], [], [], [], [], [], [796], [], [892], [], [], [], [], [892], [], [], [], [], [], [], [], [], [], [], [], [], [], [], [], [], [], [], [], [926], [], [], [], [], [], [], [], [], [], [], [], [], [], [950], [], [], [], [], [], [], [], [], [], [895], [], [], [], [], [], [], [], [], [816], [], [], [], [], [], [], [815], [], [], [], [], [], [], [815], [], [], [], [], [], [], [815], [], [], [], [], [], [], [], [], [], [], [815], [], [], [], [], [], [], [815], [], [], [], [], [], [], [815], [], [], [], [], [], [], [817], [], [], [], [], [816], [], [], [], [], [], [], [], [816], [], [], [], [], []]
/-- 94: KayfabeRingModel.strikes(II)V -/
def pg_c94 : List RI := [(3, 0, 0, 0), (34, 6, 20, 63), (1, 1, 0, 0), (14, 0, 0, 0), (27, 0, 0, 0), (0, 0, 0, 1), (7, 0, 0, 0), (28, 0, 0, 0), (0, 0, 0, 36), (1, 1, 0, 0), (8, 0, 0, 0), (0, 0, 0, 6), (1, 2, 0, 0), (8, 0, 0, 0), (6, 0, 0, 0), (2, 3, 0, 0), (1, 3, 0, 0), (0, 0, 0, 36), (1, 1, 0, 0), (8, 0, 0, 0), (0, 0, 0, 6), (3, 0, 0, 0), (34, 6, 20, 63), (1, 1, 0, 0), (27, 0, 0, 0), (8, 0, 0, 0), (6, 0, 0, 0), (18, 40, 3, 0), (3, 0, 0, 0), (34, 6, 19, 60), (1, 3, 0, 0), (3, 0, 0, 0), (34, 6, 19, 60), (1, 3, 0, 0), (0, 0, 0, 6), (6, 0, 0, 0), (27, 0, 0, 0), (28, 0, 0, 0), (5, 3, 0, 1), (16, 16, 0, 0), (47, 0, 0, 0)]
def pg_p94 : List Nat := [0, 1, 4, 5, 6, 7, 8, 9, 10, 12, 13, 14, 16, 17, 18, 19, 20, 21, 23, 24, 25, 27, 28, 31, 32, 33, 34, 35, 38, 39, 42, 43, 44, 47, 48, 50, 51, 52, 53, 56, 59]
def pg_w94 : List (List Nat) := [[], [816], [], [], [], [], [], [], [], [], [], [], [], [], [], [], [], [], [], [], [], [], [816], [], [], [], [], [], [], [815], [], [], [815], [], [], [], [], [], [], [], []]
/-- 95: KayfabeRingModel.strike(II)I -/
def pg_c95 : List RI := [(3, 0, 0, 0), (1, 1, 0, 0), (1, 2, 0, 0), (41, 80, 0, 140), (2, 3, 0, 0), (3, 0, 0, 0), (1, 3, 0, 0), (1, 3, 0, 0), (17, 16, 0, 0), (3, 0, 0, 0), (34, 6, 22, 69), (1, 1, 0, 0), (29, 0, 0, 0), (17, 16, 1, 0), (0, 0, 0, 1), (16, 17, 0, 0), (0, 0, 0, 0), (0, 0, 0, 1), (41, 76, 0, 98), (17, 22, 1, 0), (0, 0, 0, 0), (45, 0, 0, 0), (3, 0, 0, 0), (1, 1, 0, 0), (1, 2, 0, 0), (41, 94, 0, 143), (3, 0, 0, 0), (34, 6, 20, 63), (1, 1, 0, 0), (27, 0, 0, 0), (45, 0, 0, 0)]
def pg_p95 : List Nat := [0, 1, 2, 3, 6, 7, 8, 9, 10, 13, 14, 17, 18, 19, 22, 23, 26, 27, 28, 31, 34, 35, 36, 37, 38, 39, 42, 43, 46, 47, 48]
def pg_w95 : List (List Nat) := [[], [], [], [958], [], [], [], [], [], [], [818], [], [], [], [], [], [], [], [895], [], [], [], [], [], [], [962], [], [816], [], [], []]
/-- 96: KayfabeRingModel.shoot(I)Z -/
def pg_c96 : List RI := [(3, 0, 0, 0), (3, 0, 0, 0), (33, 6, 0, 106), (1, 1, 0, 0), (41, 80, 0, 140), (2, 2, 0, 0), (3, 0, 0, 0), (1, 2, 0, 0), (1, 2, 0, 0), (17, 18, 0, 0), (3, 0, 0, 0), (34, 6, 22, 69), (3, 0, 0, 0), (33, 6, 0, 106), (29, 0, 0, 0), (17, 18, 1, 0), (0, 0, 0, 1), (16, 19, 0, 0), (0, 0, 0, 0), (0, 0, 0, 1), (41, 76, 0, 98), (17, 24, 1, 0), (0, 0, 0, 0), (45, 0, 0, 0), (3, 0, 0, 0), (3, 0, 0, 0), (33, 6, 0, 106), (1, 1, 0, 0), (0, 0, 0, 5), (41, 81, 0, 109), (0, 0, 0, 1), (18, 34, 1, 0), (0, 0, 0, 1), (16, 35, 0, 0), (0, 0, 0, 0), (2, 3, 0, 0), (3, 0, 0, 0), (34, 6, 19, 60), (0, 0, 0, 36), (3, 0, 0, 0), (33, 6, 0, 106), (8, 0, 0, 0), (0, 0, 0, 6), (1, 1, 0, 0), (8, 0, 0, 0), (6, 0, 0, 0), (0, 0, 0, 5), (6, 0, 0, 0), (0, 0, 0, 1), (28, 0, 0, 0), (1, 3, 0, 0), (45, 0, 0, 0)]
def pg_p96 : List Nat := [0, 1, 2, 5, 6, 9, 10, 11, 12, 13, 16, 17, 20, 21, 24, 25, 28, 29, 32, 33, 34, 37, 40, 41, 42, 43, 44, 47, 48, 49, 52, 53, 56, 57, 60, 61, 62, 63, 66, 68, 69, 72, 73, 75, 76, 77, 78, 79, 80, 81, 82, 83]
def pg_w96 : List (List Nat) := [[], [], [796], [], [958], [], [], [], [], [], [], [818], [], [796], [], [], [], [], [], [], [895], [], [], [], [], [], [796], [], [], [934], [], [], [], [], [], [], [], [815], [], [], [796], [], [], [], [], [], [], [], [], [], [], []]
/-- 97: KayfabeRingModel.hurts(II)I -/
def pg_c97 : List RI := [(3, 0, 0, 0), (34, 6, 6, 25), (1, 1, 0, 0), (1, 2, 0, 0), (3, 0, 0, 0), (34, 6, 6, 25), (1, 1, 0, 0), (27, 0, 0, 0), (18, 11, 5, 0), (1, 2, 0, 0), (16, 15, 0, 0), (3, 0, 0, 0), (34, 6, 6, 25), (1, 1, 0, 0), (27, 0, 0, 0), (28, 0, 0, 0), (0, 0, 0, 0), (2, 3, 0, 0), (1, 3, 0, 0), (3, 0, 0, 0), (33, 6, 18, 95), (18, 42, 3, 0), (3, 0, 0, 0), (1, 3, 0, 0), (41, 88, 0, 117), (1, 1, 0, 0), (18, 40, 1, 0), (3, 0, 0, 0), (34, 6, 6, 25), (1, 1, 0, 0), (27, 0, 0, 0), (3, 0, 0, 0), (33, 6, 0, 106), (7, 0, 0, 0), (0, 0, 0, 60), (18, 40, 5, 0), (3, 0, 0, 0), (1, 3, 0, 0), (0, 0, 0, (-1)), (41, 89, 0, 147), (5, 3, 0, 1), (16, 18, 0, 0), (3, 0, 0, 0), (34, 6, 6, 25), (1, 1, 0, 0), (27, 0, 0, 0), (45, 0, 0, 0)]
def pg_p97 : List Nat := [0, 1, 4, 5, 6, 7, 10, 11, 12, 15, 16, 19, 20, 23, 24, 25, 26, 27, 28, 29, 30, 33, 36, 37, 38, 41, 42, 45, 46, 49, 50, 51, 52, 55, 56, 58, 61, 62, 63, 64, 67, 70, 73, 74, 77, 78, 79]
def pg_w97 : List (List Nat) := [[], [802], [], [], [], [802], [], [], [], [], [], [], [802], [], [], [], [], [], [], [], [814], [], [], [], [938], [], [], [], [802], [], [], [], [796], [], [], [], [], [], [], [978], [], [], [], [802], [], [], []]
/-- 98: KayfabeRingModel.hurt(II)I -/
def pg_c98 : List RI := [(3, 0, 0, 0), (3, 0, 0, 0), (1, 1, 0, 0), (41, 78, 0, 102), (1, 2, 0, 0), (0, 0, 0, 1), (0, 0, 0, 200), (40, 75, 0, 88), (0, 0, 0, 1), (41, 76, 0, 98), (17, 19, 0, 0), (3, 0, 0, 0), (1, 1, 0, 0), (3, 0, 0, 0), (33, 6, 0, 106), (1, 2, 0, 0), (6, 0, 0, 0), (41, 97, 0, 150), (16, 20, 0, 0), (0, 0, 0, 0), (45, 0, 0, 0)]
def pg_p98 : List Nat := [0, 1, 2, 3, 6, 7, 8, 11, 14, 15, 18, 21, 22, 23, 24, 27, 28, 29, 32, 35, 36]
def pg_w98 : List (List Nat) := [[], [], [], [907], [], [], [], [892], [], [895], [], [], [], [], [796], [], [], [974], [], [], []]
/-- 99: KayfabeRingModel.head(I)I -/
def pg_c99 : List RI := [(3, 0, 0, 0), (3, 0, 0, 0), (1, 1, 0, 0), (41, 78, 0, 102), (0, 0, 0, 1), (0, 0, 0, 1), (41, 76, 0, 98), (17, 10, 1, 0), (0, 0, 0, 0), (45, 0, 0, 0), (3, 0, 0, 0), (34, 6, 7, 28), (1, 1, 0, 0), (14, 0, 0, 0), (27, 0, 0, 0), (0, 0, 0, 1), (6, 0, 0, 0), (28, 0, 0, 0), (3, 0, 0, 0), (1, 1, 0, 0), (3, 0, 0, 0), (34, 6, 7, 28), (1, 1, 0, 0), (27, 0, 0, 0), (0, 0, 0, 2), (18, 28, 5, 0), (0, 0, 0, 10000), (16, 37, 0, 0), (3, 0, 0, 0), (33, 6, 0, 106), (0, 0, 0, 30), (3, 0, 0, 0), (34, 6, 7, 28), (1, 1, 0, 0), (27, 0, 0, 0), (8, 0, 0, 0), (6, 0, 0, 0), (41, 97, 0, 150), (45, 0, 0, 0)]
def pg_p99 : List Nat := [0, 1, 2, 3, 6, 7, 8, 11, 14, 15, 16, 17, 20, 21, 22, 23, 24, 25, 26, 27, 28, 29, 32, 33, 34, 35, 38, 41, 44, 45, 48, 50, 51, 54, 55, 56, 57, 58, 61]
def pg_w99 : List (List Nat) := [[], [], [], [907], [], [], [895], [], [], [], [], [803], [], [], [], [], [], [], [], [], [], [803], [], [], [], [], [], [], [], [796], [], [], [803], [], [], [], [], [974], []]
/-- 100: KayfabeRingModel.finds()I -/
def pg_c100 : List RI := [(3, 0, 0, 0), (0, 0, 0, 0), (35, 6, 27, 154), (0, 0, 0, 0), (2, 1, 0, 0), (1, 1, 0, 0), (0, 0, 0, 2), (3, 0, 0, 0), (34, 6, 20, 63), (3, 0, 0, 0), (33, 6, 0, 106), (27, 0, 0, 0), (8, 0, 0, 0), (18, 47, 3, 0), (3, 0, 0, 0), (3, 0, 0, 0), (3, 0, 0, 0), (33, 6, 0, 106), (1, 1, 0, 0), (0, 0, 0, 2), (9, 0, 0, 0), (1, 1, 0, 0), (0, 0, 0, 2), (10, 0, 0, 0), (41, 81, 0, 109), (3, 0, 0, 0), (33, 6, 0, 106), (41, 82, 0, 124), (17, 45, 0, 0), (3, 0, 0, 0), (33, 6, 27, 154), (0, 0, 0, 4), (18, 39, 3, 0), (3, 0, 0, 0), (34, 6, 24, 75), (3, 0, 0, 0), (33, 6, 27, 154), (1, 1, 0, 0), (28, 0, 0, 0), (3, 0, 0, 0), (13, 0, 0, 0), (33, 6, 27, 154), (0, 0, 0, 1), (6, 0, 0, 0), (35, 6, 27, 154), (5, 1, 0, 1), (16, 5, 0, 0), (3, 0, 0, 0), (33, 6, 27, 154), (45, 0, 0, 0)]
def pg_p100 : List Nat := [0, 1, 2, 5, 6, 7, 8, 9, 10, 13, 14, 17, 18, 19, 22, 23, 24, 25, 28, 29, 30, 31, 32, 33, 34, 37, 38, 41, 44, 47, 48, 51, 52, 55, 56, 59, 60, 63, 64, 65, 66, 67, 70, 71, 72, 75, 78, 81, 82, 85]
def pg_w100 : List (List Nat) := [[], [], [823], [], [], [], [], [], [816], [], [796], [], [], [], [], [], [], [796], [], [], [], [], [], [], [934], [], [796], [946], [], [], [823], [], [], [], [820], [], [823], [], [], [], [], [823], [], [], [823], [], [], [], [823], []]
/-- 101: KayfabeRingModel.wouldBe(II)I -/
def pg_c101 : List RI := [(3, 0, 0, 0), (3, 0, 0, 0), (33, 6, 0, 106), (1, 1, 0, 0), (1, 2, 0, 0), (41, 81, 0, 109), (2, 3, 0, 0), (0, 0, 0, 0), (2, 4, 0, 0), (1, 4, 0, 0), (3, 0, 0, 0), (33, 6, 27, 154), (18, 32, 3, 0), (3, 0, 0, 0), (34, 6, 24, 75), (1, 4, 0, 0), (27, 0, 0, 0), (0, 0, 0, 2), (1, 1, 0, 0), (8, 0, 0, 0), (1, 2, 0, 0), (6, 0, 0, 0), (18, 28, 1, 0), (3, 0, 0, 0), (34, 6, 26, 81), (1, 4, 0, 0), (27, 0, 0, 0), (16, 29, 0, 0), (1, 3, 0, 0), (2, 3, 0, 0), (5, 4, 0, 1), (16, 9, 0, 0), (1, 3, 0, 0), (45, 0, 0, 0)]
def pg_p101 : List Nat := [0, 1, 2, 5, 6, 7, 10, 11, 12, 14, 16, 17, 20, 23, 24, 27, 29, 30, 31, 32, 33, 34, 35, 38, 39, 42, 44, 45, 48, 49, 50, 53, 56, 57]
def pg_w101 : List (List Nat) := [[], [], [796], [], [], [934], [], [], [], [], [], [823], [], [], [820], [], [], [], [], [], [], [], [], [], [822], [], [], [], [], [], [], [], [], []]
/-- 102: KayfabeRingModel.sumOf()I -/
def pg_c102 : List RI := [(0, 0, 0, 0), (2, 1, 0, 0), (0, 0, 0, 0), (2, 2, 0, 0), (1, 2, 0, 0), (3, 0, 0, 0), (33, 6, 27, 154), (18, 123, 3, 0), (3, 0, 0, 0), (34, 6, 24, 75), (1, 2, 0, 0), (27, 0, 0, 0), (0, 0, 0, 2), (9, 0, 0, 0), (2, 3, 0, 0), (3, 0, 0, 0), (1, 3, 0, 0), (0, 0, 0, 0), (41, 101, 0, 157), (2, 4, 0, 0), (3, 0, 0, 0), (1, 3, 0, 0), (0, 0, 0, 1), (41, 101, 0, 157), (2, 5, 0, 0), (3, 0, 0, 0), (34, 6, 26, 81), (1, 2, 0, 0), (27, 0, 0, 0), (2, 6, 0, 0), (1, 6, 0, 0), (0, 0, 0, 10), (18, 35, 1, 0), (0, 0, 0, 1), (16, 36, 0, 0), (0, 0, 0, 0), (2, 7, 0, 0), (1, 7, 0, 0), (17, 121, 1, 0), (3, 0, 0, 0), (1, 6, 0, 0), (3, 0, 0, 0), (33, 6, 0, 106), (41, 82, 0, 124), (17, 59, 1, 0), (3, 0, 0, 0), (3, 0, 0, 0), (33, 6, 0, 106), (1, 6, 0, 0), (41, 90, 0, 120), (17, 59, 1, 0), (1, 4, 0, 0), (0, 0, 0, 10), (18, 59, 0, 0), (1, 5, 0, 0), (0, 0, 0, 10), (18, 59, 0, 0), (0, 0, 0, 1), (16, 60, 0, 0), (0, 0, 0, 0), (2, 8, 0, 0), (0, 0, 0, 0), (2, 9, 0, 0), (1, 9, 0, 0), (1, 2, 0, 0), (18, 80, 3, 0), (1, 8, 0, 0), (17, 76, 0, 0), (3, 0, 0, 0), (34, 6, 26, 81), (1, 9, 0, 0), (27, 0, 0, 0), (1, 6, 0, 0), (18, 76, 0, 0), (0, 0, 0, 1), (16, 77, 0, 0), (0, 0, 0, 0), (2, 8, 0, 0), (5, 9, 0, 1), (16, 63, 0, 0), (3, 0, 0, 0), (3, 0, 0, 0), (33, 6, 0, 106), (1, 3, 0, 0), (0, 0, 0, 2), (41, 81, 0, 109), (17, 89, 1, 0), (0, 0, 0, 1), (16, 90, 0, 0), (0, 0, 0, 0), (2, 9, 0, 0), (1, 8, 0, 0), (17, 108, 0, 0), (3, 0, 0, 0), (1, 9, 0, 0), (17, 98, 0, 0), (1, 5, 0, 0), (16, 99, 0, 0), (1, 4, 0, 0), (1, 9, 0, 0), (17, 103, 0, 0), (1, 4, 0, 0), (16, 104, 0, 0), (1, 5, 0, 0), (3, 0, 0, 0), (33, 6, 0, 106), (41, 87, 0, 137), (17, 110, 0, 0), (0, 0, 0, (-1)), (45, 0, 0, 0), (1, 1, 0, 0), (3, 0, 0, 0), (3, 0, 0, 0), (34, 6, 21, 66), (3, 0, 0, 0), (33, 6, 0, 106), (27, 0, 0, 0), (1, 6, 0, 0), (41, 110, 0, 160), (6, 0, 0, 0), (2, 1, 0, 0), (5, 2, 0, 1), (16, 4, 0, 0), (1, 1, 0, 0), (45, 0, 0, 0)]
def pg_p102 : List Nat := [0, 1, 2, 3, 4, 5, 6, 9, 12, 13, 16, 17, 18, 19, 20, 21, 22, 23, 24, 27, 29, 30, 31, 32, 35, 37, 38, 41, 42, 43, 45, 47, 49, 52, 53, 56, 57, 59, 61, 64, 65, 67, 68, 71, 74, 77, 78, 79, 82, 84, 87, 90, 92, 94, 97, 99, 101, 104, 105, 108, 109, 111, 112, 114, 116, 117, 120, 122, 125, 126, 129, 131, 132, 134, 137, 138, 141, 142, 144, 147, 150, 151, 152, 155, 156, 157, 160, 163, 164, 167, 168, 170, 172, 175, 176, 178, 181, 183, 186, 188, 190, 193, 195, 198, 200, 201, 204, 207, 210, 211, 212, 213, 214, 215, 218, 219, 222, 223, 225, 228, 229, 230, 233, 236, 237]
def pg_w102 : List (List Nat) := [[], [], [], [], [], [], [823], [], [], [820], [], [], [], [], [], [], [], [], [1006], [], [], [], [], [1006], [], [], [822], [], [], [], [], [], [], [], [], [], [], [], [], [], [], [], [796], [946], [], [], [], [796], [], [942], [], [], [], [], [], [], [], [], [], [], [], [], [], [], [], [], [], [], [], [822], [], [], [], [], [], [], [], [], [], [], [], [], [796], [], [], [934], [], [], [], [], [], [], [], [], [], [], [], [], [], [], [], [], [], [], [], [796], [950], [], [], [], [], [], [], [817], [], [796], [], [], [1010], [], [], [], [], [], []]
/-- 103: KayfabeRingModel.mends()I -/
def pg_c103 : List RI := [(0, 0, 0, (-1)), (2, 1, 0, 0), (0, 0, 0, 1), (2, 2, 0, 0), (0, 0, 0, 0), (2, 3, 0, 0), (1, 3, 0, 0), (3, 0, 0, 0), (33, 6, 27, 154), (18, 19, 3, 0), (1, 2, 0, 0), (3, 0, 0, 0), (33, 6, 14, 92), (0, 0, 0, 1), (6, 0, 0, 0), (8, 0, 0, 0), (2, 2, 0, 0), (5, 3, 0, 1), (16, 6, 0, 0), (0, 0, 0, 0), (2, 3, 0, 0), (1, 3, 0, 0), (1, 2, 0, 0), (18, 86, 3, 0), (1, 3, 0, 0), (2, 4, 0, 0), (3, 0, 0, 0), (33, 6, 27, 154), (0, 0, 0, 1), (7, 0, 0, 0), (2, 5, 0, 0), (1, 5, 0, 0), (17, 60, 2, 0), (1, 4, 0, 0), (3, 0, 0, 0), (33, 6, 14, 92), (0, 0, 0, 1), (6, 0, 0, 0), (10, 0, 0, 0), (2, 6, 0, 0), (3, 0, 0, 0), (34, 6, 26, 81), (1, 5, 0, 0), (1, 6, 0, 0), (3, 0, 0, 0), (33, 6, 14, 92), (18, 49, 1, 0), (0, 0, 0, 10), (16, 50, 0, 0), (1, 6, 0, 0), (28, 0, 0, 0), (1, 4, 0, 0), (3, 0, 0, 0), (33, 6, 14, 92), (0, 0, 0, 1), (6, 0, 0, 0), (9, 0, 0, 0), (2, 4, 0, 0), (5, 5, 0, (-1)), (16, 31, 0, 0), (3, 0, 0, 0), (41, 102, 0, 163), (2, 5, 0, 0), (1, 5, 0, 0), (1, 1, 0, 0), (18, 84, 5, 0), (1, 5, 0, 0), (2, 1, 0, 0), (0, 0, 0, 0), (2, 6, 0, 0), (1, 6, 0, 0), (3, 0, 0, 0), (33, 6, 27, 154), (18, 84, 3, 0), (3, 0, 0, 0), (34, 6, 25, 78), (1, 6, 0, 0), (3, 0, 0, 0), (34, 6, 26, 81), (1, 6, 0, 0), (27, 0, 0, 0), (28, 0, 0, 0), (5, 6, 0, 1), (16, 70, 0, 0), (5, 3, 0, 1), (16, 21, 0, 0), (1, 1, 0, 0), (45, 0, 0, 0)]
def pg_p103 : List Nat := [0, 1, 2, 3, 4, 5, 6, 7, 8, 11, 14, 15, 16, 19, 20, 21, 22, 23, 26, 29, 30, 31, 32, 33, 36, 37, 39, 40, 43, 44, 45, 47, 49, 52, 54, 55, 58, 59, 60, 61, 63, 64, 67, 69, 71, 72, 75, 78, 80, 83, 85, 86, 88, 89, 92, 93, 94, 95, 97, 100, 103, 104, 107, 109, 111, 112, 115, 117, 118, 119, 121, 123, 124, 127, 130, 131, 134, 136, 137, 140, 142, 143, 144, 147, 150, 153, 156, 157]
def pg_w103 : List (List Nat) := [[], [], [], [], [], [], [], [], [823], [], [], [], [810], [], [], [], [], [], [], [], [], [], [], [], [], [], [], [823], [], [], [], [], [], [], [], [810], [], [], [], [], [], [822], [], [], [], [810], [], [], [], [], [], [], [], [810], [], [], [], [], [], [], [], [1002], [], [], [], [], [], [], [], [], [], [], [823], [], [], [821], [], [], [822], [], [], [], [], [], [], [], [], []]
/-- 104: KayfabeRingModel.isMendable()Z -/
def pg_c104 : List RI := [(3, 0, 0, 0), (34, 6, 20, 63), (3, 0, 0, 0), (33, 6, 0, 106), (27, 0, 0, 0), (17, 18, 5, 0), (3, 0, 0, 0), (34, 6, 22, 69), (3, 0, 0, 0), (33, 6, 0, 106), (29, 0, 0, 0), (17, 18, 1, 0), (3, 0, 0, 0), (41, 100, 0, 167), (0, 0, 0, 4), (18, 18, 4, 0), (0, 0, 0, 1), (16, 19, 0, 0), (0, 0, 0, 0), (45, 0, 0, 0)]
def pg_p104 : List Nat := [0, 1, 4, 5, 8, 9, 12, 13, 16, 17, 20, 21, 24, 25, 28, 29, 32, 33, 36, 37]
def pg_w104 : List (List Nat) := [[], [816], [], [796], [], [], [], [818], [], [796], [], [], [], [994], [], [], [], [], [], []]
/-- 105: KayfabeRingModel.mend()I -/
def pg_c105 : List RI := [(3, 0, 0, 0), (3, 0, 0, 0), (41, 104, 0, 170), (0, 0, 0, 1), (0, 0, 0, 1), (41, 76, 0, 98), (17, 9, 1, 0), (0, 0, 0, 0), (45, 0, 0, 0), (3, 0, 0, 0), (41, 103, 0, 174), (15, 0, 0, 0), (0, 0, 0, 0), (2, 1, 0, 0), (3, 0, 0, 0), (33, 6, 27, 154), (0, 0, 0, 1), (7, 0, 0, 0), (2, 2, 0, 0), (1, 2, 0, 0), (17, 56, 2, 0), (3, 0, 0, 0), (34, 6, 25, 78), (1, 2, 0, 0), (27, 0, 0, 0), (0, 0, 0, 10), (18, 54, 0, 0), (3, 0, 0, 0), (34, 6, 19, 60), (0, 0, 0, 36), (3, 0, 0, 0), (33, 6, 0, 106), (8, 0, 0, 0), (0, 0, 0, 6), (3, 0, 0, 0), (34, 6, 24, 75), (1, 2, 0, 0), (27, 0, 0, 0), (0, 0, 0, 2), (9, 0, 0, 0), (8, 0, 0, 0), (6, 0, 0, 0), (3, 0, 0, 0), (34, 6, 24, 75), (1, 2, 0, 0), (27, 0, 0, 0), (0, 0, 0, 2), (10, 0, 0, 0), (6, 0, 0, 0), (3, 0, 0, 0), (34, 6, 25, 78), (1, 2, 0, 0), (27, 0, 0, 0), (28, 0, 0, 0), (5, 2, 0, (-1)), (16, 19, 0, 0), (3, 0, 0, 0), (33, 6, 27, 154), (0, 0, 0, 1), (7, 0, 0, 0), (2, 2, 0, 0), (1, 2, 0, 0), (17, 105, 2, 0), (1, 2, 0, 0), (17, 82, 5, 0), (3, 0, 0, 0), (34, 6, 24, 75), (1, 2, 0, 0), (0, 0, 0, 1), (7, 0, 0, 0), (27, 0, 0, 0), (0, 0, 0, 2), (9, 0, 0, 0), (3, 0, 0, 0), (34, 6, 24, 75), (1, 2, 0, 0), (27, 0, 0, 0), (0, 0, 0, 2), (9, 0, 0, 0), (18, 82, 1, 0), (0, 0, 0, 1), (16, 83, 0, 0), (0, 0, 0, 0), (2, 3, 0, 0), (3, 0, 0, 0), (34, 6, 25, 78), (1, 2, 0, 0), (27, 0, 0, 0), (0, 0, 0, 10), (18, 103, 1, 0), (1, 3, 0, 0), (17, 103, 1, 0), (3, 0, 0, 0), (3, 0, 0, 0), (33, 6, 0, 106), (3, 0, 0, 0), (34, 6, 24, 75), (1, 2, 0, 0), (27, 0, 0, 0), (0, 0, 0, 2), (9, 0, 0, 0), (41, 94, 0, 143), (5, 1, 0, 1), (5, 2, 0, (-1)), (16, 61, 0, 0), (1, 1, 0, 0), (45, 0, 0, 0)]
def pg_p105 : List Nat := [0, 1, 2, 5, 6, 7, 10, 13, 14, 15, 16, 19, 20, 21, 22, 23, 26, 27, 28, 29, 30, 33, 34, 37, 38, 39, 41, 44, 45, 48, 50, 51, 54, 55, 57, 58, 61, 62, 63, 64, 65, 66, 67, 68, 71, 72, 73, 74, 75, 76, 77, 80, 81, 82, 83, 86, 89, 90, 93, 94, 95, 96, 97, 100, 101, 104, 105, 108, 109, 110, 111, 112, 113, 114, 115, 118, 119, 120, 121, 122, 125, 126, 129, 130, 131, 132, 135, 136, 137, 139, 142, 143, 146, 147, 148, 151, 152, 155, 156, 157, 158, 159, 162, 165, 168, 171, 172]
def pg_w105 : List (List Nat) := [[], [], [990], [], [], [895], [], [], [], [], [998], [], [], [], [], [823], [], [], [], [], [], [], [821], [], [], [], [], [], [815], [], [], [796], [], [], [], [820], [], [], [], [], [], [], [], [820], [], [], [], [], [], [], [821], [], [], [], [], [], [], [823], [], [], [], [], [], [], [], [], [820], [], [], [], [], [], [], [], [820], [], [], [], [], [], [], [], [], [], [], [821], [], [], [], [], [], [], [], [], [796], [], [820], [], [], [], [], [962], [], [], [], [], []]
/-- 106: KayfabeRingModel.mending()I -/
def pg_c106 : List RI := [(3, 0, 0, 0), (3, 0, 0, 0), (41, 104, 0, 170), (0, 0, 0, 1), (0, 0, 0, 1), (41, 76, 0, 98), (17, 10, 0, 0), (3, 0, 0, 0), (41, 103, 0, 174), (16, 11, 0, 0), (0, 0, 0, 0), (45, 0, 0, 0)]
def pg_p106 : List Nat := [0, 1, 2, 5, 6, 7, 10, 13, 14, 17, 20, 21]
def pg_w106 : List (List Nat) := [[], [], [990], [], [], [895], [], [], [998], [], [], []]
/-- 107: KayfabeRingModel.mendingAnew()I -/
def pg_c107 : List RI := [(3, 0, 0, 0), (41, 106, 0, 177), (45, 0, 0, 0)]
def pg_p107 : List Nat := [0, 1, 4]
def pg_w107 : List (List Nat) := [[], [1022], []]
/-- 108: KayfabeRingModel.loves(III)V -/
def pg_c108 : List RI := [(3, 0, 0, 0), (34, 6, 4, 19), (0, 0, 0, 10), (1, 1, 0, 0), (8, 0, 0, 0), (1, 2, 0, 0), (6, 0, 0, 0), (27, 0, 0, 0), (1, 3, 0, 0), (6, 0, 0, 0), (2, 4, 0, 0), (3, 0, 0, 0), (34, 6, 4, 19), (0, 0, 0, 10), (1, 1, 0, 0), (8, 0, 0, 0), (1, 2, 0, 0), (6, 0, 0, 0), (1, 4, 0, 0), (0, 0, 0, 99), (18, 23, 5, 0), (0, 0, 0, 99), (16, 29, 0, 0), (1, 4, 0, 0), (0, 0, 0, (-99)), (18, 28, 3, 0), (0, 0, 0, (-99)), (16, 29, 0, 0), (1, 4, 0, 0), (28, 0, 0, 0), (47, 0, 0, 0)]
def pg_p108 : List Nat := [0, 1, 4, 6, 7, 8, 9, 10, 11, 12, 13, 15, 16, 19, 21, 22, 23, 24, 25, 27, 29, 32, 34, 37, 39, 41, 44, 46, 49, 51, 52]
def pg_w108 : List (List Nat) := [[], [800], [], [], [], [], [], [], [], [], [], [], [800], [], [], [], [], [], [], [], [], [], [], [], [], [], [], [], [], [], []]
/-- 109: KayfabeRingModel.turns(I)V -/
def pg_c109 : List RI := [(0, 0, 0, 0), (2, 2, 0, 0), (0, 0, 0, 0), (2, 3, 0, 0), (0, 0, 0, 0), (2, 4, 0, 0), (1, 4, 0, 0), (0, 0, 0, 4), (18, 43, 3, 0), (1, 2, 0, 0), (3, 0, 0, 0), (34, 6, 4, 19), (0, 0, 0, 10), (1, 4, 0, 0), (8, 0, 0, 0), (1, 1, 0, 0), (6, 0, 0, 0), (27, 0, 0, 0), (0, 0, 0, 50), (18, 22, 2, 0), (0, 0, 0, 1), (16, 23, 0, 0), (0, 0, 0, 0), (6, 0, 0, 0), (2, 2, 0, 0), (1, 3, 0, 0), (3, 0, 0, 0), (34, 6, 4, 19), (0, 0, 0, 10), (1, 4, 0, 0), (8, 0, 0, 0), (1, 1, 0, 0), (6, 0, 0, 0), (27, 0, 0, 0), (0, 0, 0, (-50)), (18, 38, 4, 0), (0, 0, 0, 1), (16, 39, 0, 0), (0, 0, 0, 0), (6, 0, 0, 0), (2, 3, 0, 0), (5, 4, 0, 1), (16, 6, 0, 0), (3, 0, 0, 0), (34, 6, 3, 16), (1, 1, 0, 0), (27, 0, 0, 0), (0, 0, 0, 1), (18, 60, 1, 0), (3, 0, 0, 0), (34, 6, 3, 16), (1, 1, 0, 0), (1, 2, 0, 0), (0, 0, 0, 1), (18, 57, 5, 0), (0, 0, 0, 0), (16, 58, 0, 0), (0, 0, 0, 1), (28, 0, 0, 0), (16, 70, 0, 0), (3, 0, 0, 0), (34, 6, 3, 16), (1, 1, 0, 0), (1, 3, 0, 0), (0, 0, 0, 1), (18, 68, 5, 0), (0, 0, 0, 1), (16, 69, 0, 0), (0, 0, 0, 0), (28, 0, 0, 0), (47, 0, 0, 0)]
def pg_p109 : List Nat := [0, 1, 2, 3, 4, 5, 7, 9, 10, 13, 14, 15, 18, 20, 22, 23, 24, 25, 26, 28, 31, 32, 35, 36, 37, 38, 39, 40, 43, 45, 47, 48, 49, 50, 51, 53, 56, 57, 60, 61, 62, 63, 66, 69, 70, 73, 74, 75, 76, 79, 80, 83, 84, 85, 86, 89, 90, 93, 94, 95, 98, 99, 102, 103, 104, 105, 108, 109, 112, 113, 114]
def pg_w109 : List (List Nat) := [[], [], [], [], [], [], [], [], [], [], [], [800], [], [], [], [], [], [], [], [], [], [], [], [], [], [], [], [800], [], [], [], [], [], [], [], [], [], [], [], [], [], [], [], [], [799], [], [], [], [], [], [799], [], [], [], [], [], [], [], [], [], [], [799], [], [], [], [], [], [], [], [], []]
/-- 110: KayfabeRingModel.worthOf(II)I -/
def pg_c110 : List RI := [(3, 0, 0, 0), (34, 6, 4, 19), (0, 0, 0, 10), (1, 1, 0, 0), (8, 0, 0, 0), (1, 2, 0, 0), (6, 0, 0, 0), (27, 0, 0, 0), (2, 3, 0, 0), (3, 0, 0, 0), (34, 6, 1, 7), (1, 2, 0, 0), (27, 0, 0, 0), (1, 3, 0, 0), (17, 18, 3, 0), (1, 3, 0, 0), (11, 0, 0, 0), (16, 19, 0, 0), (1, 3, 0, 0), (6, 0, 0, 0), (3, 0, 0, 0), (34, 6, 5, 22), (1, 2, 0, 0), (27, 0, 0, 0), (0, 0, 0, 10), (9, 0, 0, 0), (7, 0, 0, 0), (2, 4, 0, 0), (1, 4, 0, 0), (0, 0, 0, 1), (18, 33, 3, 0), (0, 0, 0, 1), (16, 34, 0, 0), (1, 4, 0, 0), (45, 0, 0, 0)]
def pg_p110 : List Nat := [0, 1, 4, 6, 7, 8, 9, 10, 11, 12, 13, 16, 17, 18, 19, 22, 23, 24, 27, 28, 29, 30, 33, 34, 35, 37, 38, 39, 41, 43, 44, 47, 48, 51, 53]
def pg_w110 : List (List Nat) := [[], [800], [], [], [], [], [], [], [], [], [797], [], [], [], [], [], [], [], [], [], [], [801], [], [], [], [], [], [], [], [], [], [], [], [], []]
/-- 111: KayfabeRingModel.wins(III)V -/
def pg_c111 : List RI := [(3, 0, 0, 0), (34, 6, 13, 47), (0, 0, 0, 10), (1, 2, 0, 0), (8, 0, 0, 0), (1, 3, 0, 0), (6, 0, 0, 0), (14, 0, 0, 0), (27, 0, 0, 0), (0, 0, 0, 1), (6, 0, 0, 0), (28, 0, 0, 0), (3, 0, 0, 0), (34, 6, 8, 31), (1, 3, 0, 0), (14, 0, 0, 0), (27, 0, 0, 0), (0, 0, 0, 1), (6, 0, 0, 0), (28, 0, 0, 0), (3, 0, 0, 0), (34, 6, 3, 16), (1, 2, 0, 0), (27, 0, 0, 0), (3, 0, 0, 0), (34, 6, 3, 16), (1, 3, 0, 0), (27, 0, 0, 0), (18, 40, 1, 0), (3, 0, 0, 0), (1, 1, 0, 0), (1, 2, 0, 0), (0, 0, 0, 3), (41, 108, 0, 180), (3, 0, 0, 0), (1, 1, 0, 0), (1, 3, 0, 0), (0, 0, 0, (-1)), (41, 108, 0, 180), (16, 64, 0, 0), (3, 0, 0, 0), (1, 1, 0, 0), (1, 2, 0, 0), (3, 0, 0, 0), (34, 6, 3, 16), (1, 2, 0, 0), (27, 0, 0, 0), (17, 50, 1, 0), (0, 0, 0, 6), (16, 51, 0, 0), (0, 0, 0, (-6)), (41, 108, 0, 180), (3, 0, 0, 0), (1, 1, 0, 0), (1, 3, 0, 0), (3, 0, 0, 0), (34, 6, 3, 16), (1, 3, 0, 0), (27, 0, 0, 0), (17, 62, 1, 0), (0, 0, 0, 2), (16, 63, 0, 0), (0, 0, 0, (-2)), (41, 108, 0, 180), (47, 0, 0, 0)]
def pg_p111 : List Nat := [0, 1, 4, 6, 7, 8, 9, 10, 11, 12, 13, 14, 15, 16, 19, 20, 21, 22, 23, 24, 25, 26, 29, 30, 31, 32, 35, 36, 37, 40, 41, 42, 43, 44, 47, 48, 49, 50, 51, 54, 57, 58, 59, 60, 61, 64, 65, 66, 69, 71, 74, 76, 79, 80, 81, 82, 83, 86, 87, 88, 91, 92, 95, 97, 100]
def pg_w111 : List (List Nat) := [[], [809], [], [], [], [], [], [], [], [], [], [], [], [804], [], [], [], [], [], [], [], [799], [], [], [], [799], [], [], [], [], [], [], [], [1035], [], [], [], [], [1035], [], [], [], [], [], [799], [], [], [], [], [], [], [1035], [], [], [], [], [799], [], [], [], [], [], [], [1035], []]
/-- 112: KayfabeRingModel.playsMatch(I)I -/
def pg_c112 : List RI := [(3, 0, 0, 0), (34, 6, 21, 66), (3, 0, 0, 0), (33, 6, 0, 106), (27, 0, 0, 0), (2, 2, 0, 0), (3, 0, 0, 0), (3, 0, 0, 0), (33, 6, 0, 106), (1, 1, 0, 0), (0, 0, 0, 0), (41, 81, 0, 109), (2, 3, 0, 0), (3, 0, 0, 0), (3, 0, 0, 0), (33, 6, 0, 106), (1, 1, 0, 0), (0, 0, 0, 1), (41, 81, 0, 109), (2, 4, 0, 0), (3, 0, 0, 0), (3, 0, 0, 0), (33, 6, 0, 106), (1, 1, 0, 0), (3, 0, 0, 0), (3, 0, 0, 0), (33, 6, 0, 106), (1, 1, 0, 0), (0, 0, 0, 2), (41, 81, 0, 109), (41, 81, 0, 109), (2, 5, 0, 0), (3, 0, 0, 0), (3, 0, 0, 0), (33, 6, 0, 106), (1, 1, 0, 0), (0, 0, 0, 4), (41, 81, 0, 109), (2, 6, 0, 0), (3, 0, 0, 0), (1, 2, 0, 0), (1, 3, 0, 0), (41, 110, 0, 160), (3, 0, 0, 0), (1, 2, 0, 0), (1, 4, 0, 0), (41, 110, 0, 160), (6, 0, 0, 0), (2, 7, 0, 0), (3, 0, 0, 0), (3, 0, 0, 0), (33, 6, 0, 106), (1, 1, 0, 0), (0, 0, 0, 5), (41, 81, 0, 109), (0, 0, 0, 1), (18, 59, 1, 0), (0, 0, 0, 1), (16, 60, 0, 0), (0, 0, 0, 0), (2, 8, 0, 0), (1, 8, 0, 0), (17, 80, 0, 0), (3, 0, 0, 0), (34, 6, 9, 34), (1, 3, 0, 0), (14, 0, 0, 0), (27, 0, 0, 0), (0, 0, 0, 1), (6, 0, 0, 0), (28, 0, 0, 0), (3, 0, 0, 0), (34, 6, 9, 34), (1, 4, 0, 0), (14, 0, 0, 0), (27, 0, 0, 0), (0, 0, 0, 1), (6, 0, 0, 0), (28, 0, 0, 0), (16, 90, 0, 0), (3, 0, 0, 0), (1, 2, 0, 0), (1, 5, 0, 0), (1, 5, 0, 0), (1, 3, 0, 0), (18, 88, 1, 0), (1, 4, 0, 0), (16, 89, 0, 0), (1, 3, 0, 0), (41, 111, 0, 183), (3, 0, 0, 0), (34, 6, 5, 22), (1, 3, 0, 0), (14, 0, 0, 0), (27, 0, 0, 0), (3, 0, 0, 0), (3, 0, 0, 0), (33, 6, 0, 106), (1, 1, 0, 0), (0, 0, 0, 3), (41, 81, 0, 109), (6, 0, 0, 0), (28, 0, 0, 0), (3, 0, 0, 0), (34, 6, 5, 22), (1, 4, 0, 0), (14, 0, 0, 0), (27, 0, 0, 0), (3, 0, 0, 0), (3, 0, 0, 0), (33, 6, 0, 106), (1, 1, 0, 0), (0, 0, 0, 3), (41, 81, 0, 109), (6, 0, 0, 0), (28, 0, 0, 0), (1, 6, 0, 0), (0, 0, 0, (-1)), (18, 121, 1, 0), (0, 0, 0, (-1)), (16, 124, 0, 0), (3, 0, 0, 0), (1, 6, 0, 0), (41, 88, 0, 117), (2, 9, 0, 0), (1, 6, 0, 0), (0, 0, 0, (-1)), (18, 139, 0, 0), (1, 9, 0, 0), (0, 0, 0, (-1)), (18, 137, 0, 0), (1, 9, 0, 0), (1, 3, 0, 0), (18, 137, 0, 0), (1, 9, 0, 0), (1, 4, 0, 0), (18, 139, 1, 0), (0, 0, 0, 1), (16, 140, 0, 0), (0, 0, 0, 0), (2, 10, 0, 0), (1, 8, 0, 0), (17, 152, 1, 0), (1, 10, 0, 0), (17, 152, 0, 0), (1, 9, 0, 0), (1, 5, 0, 0), (18, 152, 0, 0), (3, 0, 0, 0), (1, 6, 0, 0), (1, 5, 0, 0), (41, 89, 0, 147), (3, 0, 0, 0), (1, 3, 0, 0), (41, 109, 0, 186), (3, 0, 0, 0), (1, 4, 0, 0), (41, 109, 0, 186), (1, 7, 0, 0), (45, 0, 0, 0)]
def pg_p112 : List Nat := [0, 1, 4, 5, 8, 9, 10, 11, 12, 15, 16, 17, 20, 21, 22, 23, 26, 27, 28, 31, 33, 34, 35, 38, 39, 40, 41, 44, 45, 46, 49, 52, 54, 55, 56, 59, 60, 61, 64, 66, 67, 68, 69, 72, 73, 74, 76, 79, 80, 82, 83, 84, 87, 88, 89, 92, 93, 96, 97, 100, 101, 103, 105, 108, 109, 112, 113, 114, 115, 116, 117, 118, 119, 122, 124, 125, 126, 127, 128, 129, 132, 133, 134, 136, 138, 139, 142, 144, 147, 148, 151, 152, 155, 156, 157, 158, 159, 160, 163, 164, 165, 168, 169, 170, 171, 174, 176, 177, 178, 179, 180, 183, 184, 185, 188, 189, 190, 192, 193, 196, 197, 200, 201, 203, 206, 208, 210, 211, 214, 216, 217, 220, 222, 223, 226, 228, 230, 233, 234, 237, 238, 240, 242, 245, 247, 250, 252, 254, 257, 258, 260, 262, 265, 266, 267, 270, 271, 273, 276, 278]
def pg_w112 : List (List Nat) := [[], [817], [], [796], [], [], [], [], [796], [], [], [934], [], [], [], [796], [], [], [934], [], [], [], [796], [], [], [], [796], [], [], [934], [934], [], [], [], [796], [], [], [934], [], [], [], [], [1010], [], [], [], [1010], [], [], [], [], [796], [], [], [934], [], [], [], [], [], [], [], [], [], [805], [], [], [], [], [], [], [], [805], [], [], [], [], [], [], [], [], [], [], [], [], [], [], [], [], [1031], [], [801], [], [], [], [], [], [796], [], [], [934], [], [], [], [801], [], [], [], [], [], [796], [], [], [934], [], [], [], [], [], [], [], [], [], [938], [], [], [], [], [], [], [], [], [], [], [], [], [], [], [], [], [], [], [], [], [], [], [], [], [], [], [], [978], [], [], [1039], [], [], [1039], [], []]
/-- 113: KayfabeRingModel.play()I -/
def pg_c113 : List RI := [(3, 0, 0, 0), (34, 6, 20, 63), (3, 0, 0, 0), (33, 6, 0, 106), (27, 0, 0, 0), (17, 17, 5, 0), (3, 0, 0, 0), (34, 6, 22, 69), (3, 0, 0, 0), (33, 6, 0, 106), (29, 0, 0, 0), (17, 17, 1, 0), (3, 0, 0, 0), (41, 100, 0, 167), (17, 17, 1, 0), (0, 0, 0, 1), (16, 18, 0, 0), (0, 0, 0, 0), (2, 1, 0, 0), (3, 0, 0, 0), (1, 1, 0, 0), (0, 0, 0, 1), (0, 0, 0, 1), (41, 76, 0, 98), (17, 27, 1, 0), (0, 0, 0, 0), (45, 0, 0, 0), (0, 0, 0, 0), (2, 2, 0, 0), (0, 0, 0, 0), (2, 3, 0, 0), (1, 3, 0, 0), (3, 0, 0, 0), (34, 6, 20, 63), (3, 0, 0, 0), (33, 6, 0, 106), (27, 0, 0, 0), (18, 46, 3, 0), (1, 2, 0, 0), (3, 0, 0, 0), (1, 3, 0, 0), (41, 112, 0, 190), (6, 0, 0, 0), (2, 2, 0, 0), (5, 3, 0, 1), (16, 31, 0, 0), (3, 0, 0, 0), (34, 6, 23, 72), (3, 0, 0, 0), (34, 6, 21, 66), (3, 0, 0, 0), (33, 6, 0, 106), (27, 0, 0, 0), (14, 0, 0, 0), (27, 0, 0, 0), (1, 2, 0, 0), (6, 0, 0, 0), (28, 0, 0, 0), (3, 0, 0, 0), (34, 6, 22, 69), (3, 0, 0, 0), (33, 6, 0, 106), (0, 0, 0, 1), (30, 0, 0, 0), (1, 2, 0, 0), (45, 0, 0, 0)]
def pg_p113 : List Nat := [0, 1, 4, 5, 8, 9, 12, 13, 16, 17, 20, 21, 24, 25, 28, 31, 32, 35, 36, 37, 38, 39, 40, 41, 44, 47, 48, 49, 50, 51, 52, 53, 54, 55, 58, 59, 62, 63, 66, 67, 68, 69, 72, 73, 74, 77, 80, 81, 84, 85, 88, 89, 92, 93, 94, 95, 96, 97, 98, 99, 102, 103, 106, 107, 108, 109]
def pg_w113 : List (List Nat) := [[], [816], [], [796], [], [], [], [818], [], [796], [], [], [], [994], [], [], [], [], [], [], [], [], [], [895], [], [], [], [], [], [], [], [], [], [816], [], [796], [], [], [], [], [], [1027], [], [], [], [], [], [819], [], [817], [], [796], [], [], [], [], [], [], [], [818], [], [796], [], [], [], []]
/-- 114: KayfabeRingModel.promo(III)I -/
def pg_c114 : List RI := [(1, 1, 0, 0), (40, 77, 0, 127), (17, 9, 0, 0), (3, 0, 0, 0), (1, 2, 0, 0), (41, 78, 0, 102), (17, 9, 0, 0), (0, 0, 0, 1), (16, 10, 0, 0), (0, 0, 0, 0), (2, 4, 0, 0), (3, 0, 0, 0), (1, 4, 0, 0), (1, 3, 0, 0), (0, 0, 0, 0), (0, 0, 0, 9), (40, 75, 0, 88), (1, 4, 0, 0), (17, 32, 0, 0), (3, 0, 0, 0), (1, 2, 0, 0), (3, 0, 0, 0), (33, 6, 0, 106), (41, 82, 0, 124), (17, 32, 1, 0), (3, 0, 0, 0), (34, 6, 10, 37), (1, 2, 0, 0), (29, 0, 0, 0), (17, 32, 1, 0), (0, 0, 0, 1), (16, 33, 0, 0), (0, 0, 0, 0), (41, 76, 0, 98), (17, 37, 1, 0), (0, 0, 0, 0), (45, 0, 0, 0), (3, 0, 0, 0), (34, 6, 2, 13), (1, 2, 0, 0), (27, 0, 0, 0), (0, 0, 0, 10), (9, 0, 0, 0), (1, 3, 0, 0), (7, 0, 0, 0), (2, 5, 0, 0), (1, 5, 0, 0), (17, 50, 3, 0), (0, 0, 0, 0), (16, 51, 0, 0), (1, 5, 0, 0), (2, 5, 0, 0), (3, 0, 0, 0), (34, 6, 10, 37), (1, 2, 0, 0), (0, 0, 0, 1), (30, 0, 0, 0), (3, 0, 0, 0), (1, 1, 0, 0), (1, 2, 0, 0), (3, 0, 0, 0), (34, 6, 3, 16), (1, 2, 0, 0), (27, 0, 0, 0), (17, 67, 1, 0), (1, 5, 0, 0), (16, 69, 0, 0), (1, 5, 0, 0), (11, 0, 0, 0), (41, 108, 0, 180), (3, 0, 0, 0), (1, 2, 0, 0), (41, 109, 0, 186), (3, 0, 0, 0), (34, 6, 4, 19), (0, 0, 0, 10), (1, 1, 0, 0), (8, 0, 0, 0), (1, 2, 0, 0), (6, 0, 0, 0), (27, 0, 0, 0), (45, 0, 0, 0)]
def pg_p114 : List Nat := [0, 1, 4, 7, 8, 9, 12, 15, 16, 19, 20, 22, 23, 25, 26, 27, 29, 32, 34, 37, 38, 39, 40, 43, 46, 49, 50, 53, 54, 55, 58, 59, 62, 63, 66, 69, 70, 71, 72, 75, 76, 77, 79, 80, 81, 82, 84, 86, 89, 90, 93, 95, 97, 98, 101, 102, 103, 104, 105, 106, 107, 108, 111, 112, 113, 116, 118, 121, 123, 124, 127, 128, 129, 132, 133, 136, 138, 139, 140, 141, 142, 143]
def pg_w114 : List (List Nat) := [[], [919], [], [], [], [907], [], [], [], [], [], [], [], [], [], [], [892], [], [], [], [], [], [796], [946], [], [], [806], [], [], [], [], [], [], [895], [], [], [], [], [798], [], [], [], [], [], [], [], [], [], [], [], [], [], [], [806], [], [], [], [], [], [], [], [799], [], [], [], [], [], [], [], [1035], [], [], [1039], [], [800], [], [], [], [], [], [], []]
/-- 115: KayfabeRingModel.pass()I -/
def pg_c115 : List RI := [(3, 0, 0, 0), (3, 0, 0, 0), (33, 6, 0, 106), (0, 0, 0, 999), (18, 7, 3, 0), (0, 0, 0, 1), (16, 8, 0, 0), (0, 0, 0, 0), (0, 0, 0, 1), (0, 0, 0, 1), (41, 76, 0, 98), (17, 14, 1, 0), (0, 0, 0, 0), (45, 0, 0, 0), (3, 0, 0, 0), (34, 6, 20, 63), (3, 0, 0, 0), (33, 6, 0, 106), (3, 0, 0, 0), (34, 6, 22, 69), (3, 0, 0, 0), (33, 6, 0, 106), (29, 0, 0, 0), (17, 30, 0, 0), (3, 0, 0, 0), (34, 6, 20, 63), (3, 0, 0, 0), (33, 6, 0, 106), (27, 0, 0, 0), (16, 31, 0, 0), (0, 0, 0, 0), (28, 0, 0, 0), (0, 0, 0, 0), (2, 1, 0, 0), (1, 1, 0, 0), (3, 0, 0, 0), (33, 6, 14, 92), (18, 63, 3, 0), (3, 0, 0, 0), (34, 6, 5, 22), (1, 1, 0, 0), (3, 0, 0, 0), (34, 6, 5, 22), (1, 1, 0, 0), (27, 0, 0, 0), (0, 0, 0, 10), (18, 54, 5, 0), (3, 0, 0, 0), (34, 6, 5, 22), (1, 1, 0, 0), (27, 0, 0, 0), (0, 0, 0, 10), (7, 0, 0, 0), (16, 55, 0, 0), (0, 0, 0, 0), (28, 0, 0, 0), (3, 0, 0, 0), (34, 6, 10, 37), (1, 1, 0, 0), (0, 0, 0, 0), (30, 0, 0, 0), (5, 1, 0, 1), (16, 34, 0, 0), (3, 0, 0, 0), (13, 0, 0, 0), (33, 6, 0, 106), (0, 0, 0, 1), (6, 0, 0, 0), (35, 6, 0, 106), (3, 0, 0, 0), (33, 6, 0, 106), (45, 0, 0, 0)]
def pg_p115 : List Nat := [0, 1, 2, 5, 8, 11, 12, 15, 16, 17, 18, 21, 24, 25, 26, 27, 30, 31, 34, 35, 38, 39, 42, 43, 46, 47, 50, 51, 54, 55, 58, 59, 60, 61, 62, 63, 64, 67, 70, 71, 74, 75, 76, 79, 80, 81, 83, 86, 87, 90, 91, 92, 94, 95, 98, 99, 100, 101, 104, 105, 106, 107, 110, 113, 114, 115, 118, 119, 120, 123, 124, 127]
def pg_w115 : List (List Nat) := [[], [], [796], [], [], [], [], [], [], [], [895], [], [], [], [], [816], [], [796], [], [818], [], [796], [], [], [], [816], [], [796], [], [], [], [], [], [], [], [], [810], [], [], [801], [], [], [801], [], [], [], [], [], [801], [], [], [], [], [], [], [], [], [806], [], [], [], [], [], [], [], [796], [], [], [796], [], [796], []]
/-- 116: KayfabeRingModel.day()I -/
def pg_c116 : List RI := [(3, 0, 0, 0), (0, 0, 0, 0), (35, 6, 28, 84), (3, 0, 0, 0), (33, 6, 0, 106), (45, 0, 0, 0)]
def pg_p116 : List Nat := [0, 1, 2, 5, 6, 9]
def pg_w116 : List (List Nat) := [[], [], [824], [], [796], []]
/-- 117: KayfabeRingModel.wonOf(I)I -/
def pg_c117 : List RI := [(0, 0, 0, 0), (2, 2, 0, 0), (0, 0, 0, 0), (2, 3, 0, 0), (1, 3, 0, 0), (3, 0, 0, 0), (33, 6, 14, 92), (18, 21, 3, 0), (1, 2, 0, 0), (3, 0, 0, 0), (34, 6, 13, 47), (0, 0, 0, 10), (1, 1, 0, 0), (8, 0, 0, 0), (1, 3, 0, 0), (6, 0, 0, 0), (27, 0, 0, 0), (6, 0, 0, 0), (2, 2, 0, 0), (5, 3, 0, 1), (16, 4, 0, 0), (1, 2, 0, 0), (45, 0, 0, 0)]
def pg_p117 : List Nat := [0, 1, 2, 3, 4, 5, 6, 9, 12, 13, 14, 17, 19, 20, 21, 22, 23, 24, 25, 26, 29, 32, 33]
def pg_w117 : List (List Nat) := [[], [], [], [], [], [], [810], [], [], [], [809], [], [], [], [], [], [], [], [], [], [], [], []]
/-- 118: KayfabeRingModel.ofWrestler(II)I -/
def pg_c118 : List RI := [(3, 0, 0, 0), (3, 0, 0, 0), (1, 1, 0, 0), (41, 78, 0, 102), (1, 2, 0, 0), (0, 0, 0, 0), (0, 0, 0, 6), (40, 75, 0, 88), (0, 0, 0, 1), (41, 76, 0, 98), (17, 13, 1, 0), (0, 0, 0, 0), (45, 0, 0, 0), (1, 2, 0, 0), (20, 3, 0, 0), (3, 0, 0, 0), (34, 6, 3, 16), (1, 1, 0, 0), (27, 0, 0, 0), (45, 0, 0, 0), (3, 0, 0, 0), (34, 6, 5, 22), (1, 1, 0, 0), (27, 0, 0, 0), (45, 0, 0, 0), (3, 0, 0, 0), (1, 1, 0, 0), (3, 0, 0, 0), (33, 6, 0, 106), (41, 82, 0, 124), (17, 36, 0, 0), (3, 0, 0, 0), (34, 6, 6, 25), (1, 1, 0, 0), (27, 0, 0, 0), (16, 37, 0, 0), (0, 0, 0, 0), (45, 0, 0, 0), (3, 0, 0, 0), (34, 6, 7, 28), (1, 1, 0, 0), (27, 0, 0, 0), (45, 0, 0, 0), (3, 0, 0, 0), (1, 1, 0, 0), (41, 117, 0, 193), (45, 0, 0, 0), (3, 0, 0, 0), (34, 6, 8, 31), (1, 1, 0, 0), (27, 0, 0, 0), (45, 0, 0, 0), (3, 0, 0, 0), (34, 6, 9, 34), (1, 1, 0, 0), (27, 0, 0, 0), (45, 0, 0, 0)]
def pg_p118 : List Nat := [0, 1, 2, 3, 6, 7, 8, 10, 13, 14, 17, 20, 21, 22, 23, 60, 61, 64, 65, 66, 67, 68, 71, 72, 73, 74, 75, 76, 77, 80, 83, 86, 87, 90, 91, 92, 95, 96, 97, 98, 101, 102, 103, 104, 105, 106, 109, 110, 111, 114, 115, 116, 117, 118, 121, 122, 123]
def pg_w118 : List (List Nat) := [[], [], [], [907], [], [], [], [892], [], [895], [], [], [], [], [], [], [799], [], [], [], [], [801], [], [], [], [], [], [], [796], [946], [], [], [802], [], [], [], [], [], [], [803], [], [], [], [], [], [1059], [], [], [804], [], [], [], [], [805], [], [], []]
/-- 119: KayfabeRingModel.love(II)I -/
def pg_c119 : List RI := [(3, 0, 0, 0), (1, 1, 0, 0), (40, 77, 0, 127), (17, 10, 0, 0), (3, 0, 0, 0), (1, 2, 0, 0), (41, 78, 0, 102), (17, 10, 0, 0), (0, 0, 0, 1), (16, 11, 0, 0), (0, 0, 0, 0), (0, 0, 0, 1), (0, 0, 0, 1), (41, 76, 0, 98), (17, 24, 0, 0), (3, 0, 0, 0), (34, 6, 4, 19), (0, 0, 0, 10), (1, 1, 0, 0), (8, 0, 0, 0), (1, 2, 0, 0), (6, 0, 0, 0), (27, 0, 0, 0), (16, 25, 0, 0), (0, 0, 0, 0), (45, 0, 0, 0)]
def pg_p119 : List Nat := [0, 1, 2, 5, 8, 9, 10, 13, 16, 17, 20, 21, 22, 23, 26, 29, 30, 33, 35, 36, 37, 38, 39, 40, 43, 44]
def pg_w119 : List (List Nat) := [[], [], [919], [], [], [], [907], [], [], [], [], [], [], [895], [], [], [800], [], [], [], [], [], [], [], [], []]
/-- 120: KayfabeRingModel.worth(II)I -/
def pg_c120 : List RI := [(3, 0, 0, 0), (1, 1, 0, 0), (40, 77, 0, 127), (17, 10, 0, 0), (3, 0, 0, 0), (1, 2, 0, 0), (41, 78, 0, 102), (17, 10, 0, 0), (0, 0, 0, 1), (16, 11, 0, 0), (0, 0, 0, 0), (0, 0, 0, 1), (0, 0, 0, 1), (41, 76, 0, 98), (17, 20, 0, 0), (3, 0, 0, 0), (1, 1, 0, 0), (1, 2, 0, 0), (41, 110, 0, 160), (16, 21, 0, 0), (0, 0, 0, 0), (45, 0, 0, 0)]
def pg_p120 : List Nat := [0, 1, 2, 5, 8, 9, 10, 13, 16, 17, 20, 21, 22, 23, 26, 29, 30, 31, 32, 35, 38, 39]
def pg_w120 : List (List Nat) := [[], [], [919], [], [], [], [907], [], [], [], [], [], [], [895], [], [], [], [], [1010], [], [], []]
/-- 121: KayfabeRingModel.ofCard(II)I -/
def pg_c121 : List RI := [(3, 0, 0, 0), (1, 1, 0, 0), (0, 0, 0, 0), (0, 0, 0, 999), (40, 75, 0, 88), (17, 13, 0, 0), (1, 2, 0, 0), (0, 0, 0, 0), (0, 0, 0, 3), (40, 75, 0, 88), (17, 13, 0, 0), (0, 0, 0, 1), (16, 14, 0, 0), (0, 0, 0, 0), (0, 0, 0, 1), (0, 0, 0, 1), (41, 76, 0, 98), (17, 20, 1, 0), (0, 0, 0, 0), (45, 0, 0, 0), (1, 2, 0, 0), (17, 34, 1, 0), (3, 0, 0, 0), (34, 6, 20, 63), (1, 1, 0, 0), (27, 0, 0, 0), (17, 29, 1, 0), (0, 0, 0, (-1)), (16, 57, 0, 0), (3, 0, 0, 0), (34, 6, 21, 66), (1, 1, 0, 0), (27, 0, 0, 0), (16, 57, 0, 0), (1, 2, 0, 0), (0, 0, 0, 1), (18, 42, 1, 0), (3, 0, 0, 0), (34, 6, 20, 63), (1, 1, 0, 0), (27, 0, 0, 0), (16, 57, 0, 0), (1, 2, 0, 0), (0, 0, 0, 2), (18, 49, 1, 0), (3, 0, 0, 0), (1, 1, 0, 0), (41, 91, 0, 113), (16, 57, 0, 0), (3, 0, 0, 0), (34, 6, 22, 69), (1, 1, 0, 0), (29, 0, 0, 0), (17, 56, 0, 0), (0, 0, 0, 1), (16, 57, 0, 0), (0, 0, 0, 0), (45, 0, 0, 0)]
def pg_p121 : List Nat := [0, 1, 2, 3, 6, 9, 12, 13, 14, 15, 18, 21, 22, 25, 26, 27, 28, 31, 34, 35, 36, 37, 40, 41, 44, 45, 46, 49, 50, 53, 54, 57, 58, 59, 62, 63, 64, 67, 68, 71, 72, 73, 76, 77, 78, 81, 82, 83, 86, 89, 90, 93, 94, 95, 98, 99, 102, 103]
def pg_w121 : List (List Nat) := [[], [], [], [], [892], [], [], [], [], [892], [], [], [], [], [], [], [895], [], [], [], [], [], [], [816], [], [], [], [], [], [], [817], [], [], [], [], [], [], [], [816], [], [], [], [], [], [], [], [], [930], [], [], [818], [], [], [], [], [], [], []]
/-- 122: KayfabeRingModel.ofMatch(III)I -/
def pg_c122 : List RI := [(3, 0, 0, 0), (1, 1, 0, 0), (1, 2, 0, 0), (41, 80, 0, 140), (2, 4, 0, 0), (3, 0, 0, 0), (1, 4, 0, 0), (1, 3, 0, 0), (0, 0, 0, 0), (0, 0, 0, 5), (40, 75, 0, 88), (0, 0, 0, 1), (41, 76, 0, 98), (17, 16, 1, 0), (0, 0, 0, 0), (45, 0, 0, 0), (1, 3, 0, 0), (0, 0, 0, 2), (18, 43, 1, 0), (3, 0, 0, 0), (34, 6, 22, 69), (1, 1, 0, 0), (29, 0, 0, 0), (17, 33, 0, 0), (3, 0, 0, 0), (1, 1, 0, 0), (1, 2, 0, 0), (0, 0, 0, 5), (41, 81, 0, 109), (0, 0, 0, 1), (18, 33, 1, 0), (0, 0, 0, (-1)), (16, 42, 0, 0), (3, 0, 0, 0), (1, 1, 0, 0), (1, 2, 0, 0), (3, 0, 0, 0), (1, 1, 0, 0), (1, 2, 0, 0), (0, 0, 0, 2), (41, 81, 0, 109), (41, 81, 0, 109), (45, 0, 0, 0), (3, 0, 0, 0), (1, 1, 0, 0), (1, 2, 0, 0), (1, 3, 0, 0), (41, 81, 0, 109), (45, 0, 0, 0)]
def pg_p122 : List Nat := [0, 1, 2, 3, 6, 8, 9, 11, 12, 13, 14, 17, 18, 21, 24, 25, 26, 27, 28, 31, 32, 35, 36, 37, 40, 41, 42, 43, 44, 47, 48, 51, 52, 55, 56, 57, 58, 59, 60, 61, 62, 65, 68, 69, 70, 71, 72, 73, 76]
def pg_w122 : List (List Nat) := [[], [], [], [958], [], [], [], [], [], [], [892], [], [895], [], [], [], [], [], [], [], [818], [], [], [], [], [], [], [], [934], [], [], [], [], [], [], [], [], [], [], [], [934], [934], [], [], [], [], [], [934], []]
/-- 123: KayfabeRingModel.lineage(IIZ)I -/
def pg_c123 : List RI := [(3, 0, 0, 0), (1, 1, 0, 0), (41, 79, 0, 130), (17, 22, 0, 0), (1, 2, 0, 0), (0, 0, 0, 0), (3, 0, 0, 0), (34, 6, 17, 56), (3, 0, 0, 0), (1, 1, 0, 0), (41, 79, 0, 130), (17, 14, 0, 0), (1, 1, 0, 0), (16, 15, 0, 0), (0, 0, 0, 0), (27, 0, 0, 0), (0, 0, 0, 1), (7, 0, 0, 0), (40, 75, 0, 88), (17, 22, 0, 0), (0, 0, 0, 1), (16, 23, 0, 0), (0, 0, 0, 0), (2, 4, 0, 0), (3, 0, 0, 0), (1, 4, 0, 0), (0, 0, 0, 1), (0, 0, 0, 1), (41, 76, 0, 98), (17, 32, 1, 0), (0, 0, 0, 0), (45, 0, 0, 0), (1, 3, 0, 0), (17, 43, 0, 0), (3, 0, 0, 0), (34, 6, 16, 53), (0, 0, 0, 2000), (1, 1, 0, 0), (8, 0, 0, 0), (1, 2, 0, 0), (6, 0, 0, 0), (27, 0, 0, 0), (16, 51, 0, 0), (3, 0, 0, 0), (34, 6, 15, 50), (0, 0, 0, 2000), (1, 1, 0, 0), (8, 0, 0, 0), (1, 2, 0, 0), (6, 0, 0, 0), (27, 0, 0, 0), (45, 0, 0, 0)]
def pg_p123 : List Nat := [0, 1, 2, 5, 8, 9, 10, 11, 14, 15, 16, 19, 22, 23, 26, 27, 28, 29, 30, 33, 36, 37, 40, 41, 43, 44, 46, 47, 48, 51, 54, 55, 56, 57, 60, 61, 64, 67, 68, 69, 70, 71, 72, 75, 76, 79, 82, 83, 84, 85, 86, 87]
def pg_w123 : List (List Nat) := [[], [], [922], [], [], [], [], [813], [], [], [922], [], [], [], [], [], [], [], [892], [], [], [], [], [], [], [], [], [], [895], [], [], [], [], [], [], [812], [], [], [], [], [], [], [], [], [811], [], [], [], [], [], [], []]
/-- 124: KayfabeRingModel.champion(I)I -/
def pg_c124 : List RI := [(3, 0, 0, 0), (3, 0, 0, 0), (1, 1, 0, 0), (41, 79, 0, 130), (0, 0, 0, 1), (0, 0, 0, 1), (41, 76, 0, 98), (17, 12, 0, 0), (3, 0, 0, 0), (1, 1, 0, 0), (41, 88, 0, 117), (16, 13, 0, 0), (0, 0, 0, 0), (45, 0, 0, 0)]
def pg_p124 : List Nat := [0, 1, 2, 3, 6, 7, 8, 11, 14, 15, 16, 19, 22, 23]
def pg_w124 : List (List Nat) := [[], [], [], [922], [], [], [895], [], [], [], [938], [], [], []]
/-- 125: KayfabeRingModel.beat(II)I -/
def pg_c125 : List RI := [(3, 0, 0, 0), (3, 0, 0, 0), (1, 1, 0, 0), (41, 78, 0, 102), (17, 11, 0, 0), (3, 0, 0, 0), (1, 2, 0, 0), (41, 78, 0, 102), (17, 11, 0, 0), (0, 0, 0, 1), (16, 12, 0, 0), (0, 0, 0, 0), (0, 0, 0, 1), (0, 0, 0, 1), (41, 76, 0, 98), (17, 25, 0, 0), (3, 0, 0, 0), (34, 6, 13, 47), (0, 0, 0, 10), (1, 1, 0, 0), (8, 0, 0, 0), (1, 2, 0, 0), (6, 0, 0, 0), (27, 0, 0, 0), (16, 26, 0, 0), (0, 0, 0, 0), (45, 0, 0, 0)]
def pg_p125 : List Nat := [0, 1, 2, 3, 6, 9, 10, 11, 14, 17, 18, 21, 22, 23, 24, 27, 30, 31, 34, 36, 37, 38, 39, 40, 41, 44, 45]
def pg_w125 : List (List Nat) := [[], [], [], [907], [], [], [], [907], [], [], [], [], [], [], [895], [], [], [809], [], [], [], [], [], [], [], [], []]
/-- 126: KayfabeRingModel.beatAnew(II)I -/
def pg_c126 : List RI := [(3, 0, 0, 0), (1, 1, 0, 0), (1, 2, 0, 0), (41, 125, 0, 196), (45, 0, 0, 0)]
def pg_p126 : List Nat := [0, 1, 2, 3, 6]
def pg_w126 : List (List Nat) := [[], [], [], [1095], []]
/-- 127: KayfabeRingModel.gate(I)I -/
def pg_c127 : List RI := [(3, 0, 0, 0), (1, 1, 0, 0), (40, 77, 0, 127), (0, 0, 0, 1), (0, 0, 0, 1), (41, 76, 0, 98), (17, 12, 0, 0), (3, 0, 0, 0), (34, 6, 23, 72), (1, 1, 0, 0), (27, 0, 0, 0), (16, 13, 0, 0), (0, 0, 0, 0), (45, 0, 0, 0)]
def pg_p127 : List Nat := [0, 1, 2, 5, 6, 7, 10, 13, 14, 17, 18, 19, 22, 23]
def pg_w127 : List (List Nat) := [[], [], [919], [], [], [895], [], [], [819], [], [], [], [], []]
/-- 128: java/lang/Math.abs(I)I -/
def pg_c128 : List RI := [(1, 0, 0, 0), (17, 5, 3, 0), (1, 0, 0, 0), (11, 0, 0, 0), (16, 6, 0, 0), (1, 0, 0, 0), (45, 0, 0, 0)]
def pg_p128 : List Nat := [0, 1, 4, 5, 6, 9, 10]
def pg_w128 : List (List Nat) := [[], [], [], [], [], [], []]
/-- 129: java/lang/Math.max(II)I -/
def pg_c129 : List RI := [(1, 0, 0, 0), (1, 1, 0, 0), (18, 5, 2, 0), (1, 0, 0, 0), (16, 6, 0, 0), (1, 1, 0, 0), (45, 0, 0, 0)]
def pg_p129 : List Nat := [0, 1, 2, 5, 6, 9, 10]
def pg_w129 : List (List Nat) := [[], [], [], [], [], [], []]
/-- 130: java/lang/Math.min(II)I -/
def pg_c130 : List RI := [(1, 0, 0, 0), (1, 1, 0, 0), (18, 5, 4, 0), (1, 0, 0, 0), (16, 6, 0, 0), (1, 1, 0, 0), (45, 0, 0, 0)]
def pg_p130 : List Nat := [0, 1, 2, 5, 6, 9, 10]
def pg_w130 : List (List Nat) := [[], [], [], [], [], [], []]
/-- 131: java/util/Arrays.fill([II)V -/
def pg_c131 : List RI := [(0, 0, 0, 0), (2, 2, 0, 0), (3, 0, 0, 0), (26, 0, 0, 0), (2, 3, 0, 0), (1, 2, 0, 0), (1, 3, 0, 0), (18, 14, 3, 0), (3, 0, 0, 0), (1, 2, 0, 0), (1, 1, 0, 0), (28, 0, 0, 0), (5, 2, 0, 1), (16, 5, 0, 0), (47, 0, 0, 0)]
def pg_p131 : List Nat := [0, 1, 2, 3, 4, 5, 6, 7, 10, 11, 12, 13, 14, 17, 20]
def pg_w131 : List (List Nat) := [[], [], [], [], [], [], [], [], [], [], [], [], [], [], []]
/-- 132: KayfabeRingLaw.wrestler(LKayfabeRing;III[J)I -/
def pg_c132 : List RI := [(3, 4, 0, 0), (0, 0, 0, 0), (3, 0, 0, 0), (1, 1, 0, 0), (1, 2, 0, 0), (1, 3, 0, 0), (41, 33, 0, 7), (21, 0, 0, 0), (25, 0, 0, 0), (16, 16, 0, 0), (4, 5, 0, 0), (0, 0, 0, 1), (45, 0, 0, 0), (4, 5, 0, 0), (0, 0, 0, 2), (45, 0, 0, 0), (0, 0, 0, 0), (45, 0, 0, 0)]
def pg_p132 : List Nat := [0, 2, 3, 4, 5, 6, 7, 10, 11, 12, 15, 17, 18, 19, 21, 22, 23, 24]
def pg_w132 : List (List Nat) := [[], [], [], [], [], [], [312], [], [], [], [], [], [], [], [], [], [], []]
/-- 133: KayfabeRingLaw.title(LKayfabeRing;[J)I -/
def pg_c133 : List RI := [(3, 1, 0, 0), (0, 0, 0, 0), (3, 0, 0, 0), (41, 34, 0, 17), (21, 0, 0, 0), (25, 0, 0, 0), (16, 10, 0, 0), (4, 2, 0, 0), (0, 0, 0, 1), (45, 0, 0, 0), (0, 0, 0, 0), (45, 0, 0, 0)]
def pg_p133 : List Nat := [0, 1, 2, 3, 6, 7, 8, 11, 12, 13, 14, 15]
def pg_w133 : List (List Nat) := [[], [], [], [406], [], [], [], [], [], [], [], []]
/-- 134: KayfabeRingLaw.clause(LKayfabeRing;III[J)I -/
def pg_c134 : List RI := [(3, 4, 0, 0), (0, 0, 0, 0), (3, 0, 0, 0), (1, 1, 0, 0), (1, 2, 0, 0), (1, 3, 0, 0), (41, 35, 0, 21), (21, 0, 0, 0), (25, 0, 0, 0), (16, 16, 0, 0), (4, 5, 0, 0), (0, 0, 0, 1), (45, 0, 0, 0), (4, 5, 0, 0), (0, 0, 0, 2), (45, 0, 0, 0), (0, 0, 0, 0), (45, 0, 0, 0)]
def pg_p134 : List Nat := [0, 2, 3, 4, 5, 6, 7, 10, 11, 12, 15, 17, 18, 19, 21, 22, 23, 24]
def pg_w134 : List (List Nat) := [[], [], [], [], [], [], [415], [], [], [], [], [], [], [], [], [], [], []]
/-- 135: KayfabeRingLaw.protect(LKayfabeRing;II[J)I -/
def pg_c135 : List RI := [(3, 3, 0, 0), (0, 0, 0, 0), (3, 0, 0, 0), (1, 1, 0, 0), (1, 2, 0, 0), (41, 36, 0, 26), (21, 0, 0, 0), (25, 0, 0, 0), (16, 15, 0, 0), (4, 4, 0, 0), (0, 0, 0, 1), (45, 0, 0, 0), (4, 4, 0, 0), (0, 0, 0, 2), (45, 0, 0, 0), (0, 0, 0, 0), (45, 0, 0, 0)]
def pg_p135 : List Nat := [0, 1, 2, 3, 4, 5, 8, 9, 10, 13, 15, 16, 17, 19, 20, 21, 22]
def pg_w135 : List (List Nat) := [[], [], [], [], [], [443], [], [], [], [], [], [], [], [], [], [], []]
/-- 136: KayfabeRingLaw.book(LKayfabeRing;IIIIZII[J)I -/
def pg_c136 : List RI := [(3, 8, 0, 0), (0, 0, 0, 0), (3, 0, 0, 0), (1, 1, 0, 0), (1, 2, 0, 0), (1, 3, 0, 0), (1, 4, 0, 0), (1, 5, 0, 0), (1, 6, 0, 0), (1, 7, 0, 0), (41, 37, 0, 30), (21, 0, 0, 0), (25, 0, 0, 0), (16, 23, 0, 0), (4, 9, 0, 0), (0, 0, 0, 1), (45, 0, 0, 0), (4, 9, 0, 0), (0, 0, 0, 2), (45, 0, 0, 0), (4, 9, 0, 0), (0, 0, 0, 3), (45, 0, 0, 0), (0, 0, 0, 0), (45, 0, 0, 0)]
def pg_p136 : List Nat := [0, 2, 3, 4, 5, 6, 7, 9, 11, 13, 15, 18, 19, 20, 23, 25, 26, 27, 29, 30, 31, 33, 34, 35, 36]
def pg_w136 : List (List Nat) := [[], [], [], [], [], [], [], [], [], [], [451], [], [], [], [], [], [], [], [], [], [], [], [], [], []]
/-- 137: KayfabeRingLaw.strike(LKayfabeRing;II[J)I -/
def pg_c137 : List RI := [(3, 3, 0, 0), (0, 0, 0, 0), (3, 0, 0, 0), (1, 1, 0, 0), (1, 2, 0, 0), (41, 38, 0, 34), (21, 0, 0, 0), (25, 0, 0, 0), (16, 15, 0, 0), (4, 4, 0, 0), (0, 0, 0, 1), (45, 0, 0, 0), (4, 4, 0, 0), (0, 0, 0, 2), (45, 0, 0, 0), (0, 0, 0, 0), (45, 0, 0, 0)]
def pg_p137 : List Nat := [0, 1, 2, 3, 4, 5, 8, 9, 10, 13, 15, 16, 17, 19, 20, 21, 22]
def pg_w137 : List (List Nat) := [[], [], [], [], [], [509], [], [], [], [], [], [], [], [], [], [], []]
/-- 138: KayfabeRingLaw.shoot(LKayfabeRing;I[J)I -/
def pg_c138 : List RI := [(3, 2, 0, 0), (0, 0, 0, 0), (3, 0, 0, 0), (1, 1, 0, 0), (41, 39, 0, 37), (17, 8, 0, 0), (23, 0, 0, 1), (16, 9, 0, 0), (23, 0, 0, 0), (25, 0, 0, 0), (16, 17, 0, 0), (4, 3, 0, 0), (0, 0, 0, 1), (45, 0, 0, 0), (4, 3, 0, 0), (0, 0, 0, 2), (45, 0, 0, 0), (0, 0, 0, 0), (45, 0, 0, 0)]
def pg_p138 : List Nat := [0, 1, 2, 3, 4, 7, 10, 11, 14, 15, 16, 19, 20, 21, 22, 23, 24, 25, 26]
def pg_w138 : List (List Nat) := [[], [], [], [], [526], [], [], [], [], [], [], [], [], [], [], [], [], [], []]
/-- 139: KayfabeRingLaw.hurt(LKayfabeRing;II[J)I -/
def pg_c139 : List RI := [(3, 3, 0, 0), (0, 0, 0, 0), (3, 0, 0, 0), (1, 1, 0, 0), (1, 2, 0, 0), (41, 40, 0, 41), (21, 0, 0, 0), (25, 0, 0, 0), (16, 15, 0, 0), (4, 4, 0, 0), (0, 0, 0, 1), (45, 0, 0, 0), (4, 4, 0, 0), (0, 0, 0, 2), (45, 0, 0, 0), (0, 0, 0, 0), (45, 0, 0, 0)]
def pg_p139 : List Nat := [0, 1, 2, 3, 4, 5, 8, 9, 10, 13, 15, 16, 17, 19, 20, 21, 22]
def pg_w139 : List (List Nat) := [[], [], [], [], [], [533], [], [], [], [], [], [], [], [], [], [], []]
/-- 140: KayfabeRingLaw.head(LKayfabeRing;I[J)I -/
def pg_c140 : List RI := [(3, 2, 0, 0), (0, 0, 0, 0), (3, 0, 0, 0), (1, 1, 0, 0), (41, 41, 0, 44), (21, 0, 0, 0), (25, 0, 0, 0), (16, 11, 0, 0), (4, 3, 0, 0), (0, 0, 0, 1), (45, 0, 0, 0), (0, 0, 0, 0), (45, 0, 0, 0)]
def pg_p140 : List Nat := [0, 1, 2, 3, 4, 7, 8, 9, 12, 13, 14, 15, 16]
def pg_w140 : List (List Nat) := [[], [], [], [], [556], [], [], [], [], [], [], [], []]
/-- 141: KayfabeRingLaw.mend(LKayfabeRing;[J)I -/
def pg_c141 : List RI := [(3, 1, 0, 0), (0, 0, 0, 0), (3, 0, 0, 0), (41, 42, 0, 48), (21, 0, 0, 0), (25, 0, 0, 0), (16, 10, 0, 0), (4, 2, 0, 0), (0, 0, 0, 1), (45, 0, 0, 0), (0, 0, 0, 0), (45, 0, 0, 0)]
def pg_p141 : List Nat := [0, 1, 2, 3, 6, 7, 8, 11, 12, 13, 14, 15]
def pg_w141 : List (List Nat) := [[], [], [], [563], [], [], [], [], [], [], [], []]
/-- 142: KayfabeRingLaw.play(LKayfabeRing;[J)I -/
def pg_c142 : List RI := [(3, 1, 0, 0), (0, 0, 0, 0), (3, 0, 0, 0), (41, 43, 0, 51), (21, 0, 0, 0), (25, 0, 0, 0), (16, 10, 0, 0), (4, 2, 0, 0), (0, 0, 0, 1), (45, 0, 0, 0), (0, 0, 0, 0), (45, 0, 0, 0)]
def pg_p142 : List Nat := [0, 1, 2, 3, 6, 7, 8, 11, 12, 13, 14, 15]
def pg_w142 : List (List Nat) := [[], [], [], [618], [], [], [], [], [], [], [], []]
/-- 143: KayfabeRingLaw.promo(LKayfabeRing;III[J)I -/
def pg_c143 : List RI := [(3, 4, 0, 0), (0, 0, 0, 0), (3, 0, 0, 0), (1, 1, 0, 0), (1, 2, 0, 0), (1, 3, 0, 0), (41, 44, 0, 54), (21, 0, 0, 0), (25, 0, 0, 0), (16, 19, 0, 0), (4, 5, 0, 0), (0, 0, 0, 1), (45, 0, 0, 0), (4, 5, 0, 0), (0, 0, 0, 2), (45, 0, 0, 0), (4, 5, 0, 0), (0, 0, 0, 3), (45, 0, 0, 0), (0, 0, 0, 0), (45, 0, 0, 0)]
def pg_p143 : List Nat := [0, 2, 3, 4, 5, 6, 7, 10, 11, 12, 15, 17, 18, 19, 21, 22, 23, 25, 26, 27, 28]
def pg_w143 : List (List Nat) := [[], [], [], [], [], [], [660], [], [], [], [], [], [], [], [], [], [], [], [], [], []]
/-- 144: KayfabeRingLaw.pass(LKayfabeRing;[J)I -/
def pg_c144 : List RI := [(3, 1, 0, 0), (0, 0, 0, 0), (3, 0, 0, 0), (41, 45, 0, 57), (21, 0, 0, 0), (25, 0, 0, 0), (16, 10, 0, 0), (4, 2, 0, 0), (0, 0, 0, 1), (45, 0, 0, 0), (0, 0, 0, 0), (45, 0, 0, 0)]
def pg_p144 : List Nat := [0, 1, 2, 3, 6, 7, 8, 11, 12, 13, 14, 15]
def pg_w144 : List (List Nat) := [[], [], [], [670], [], [], [], [], [], [], [], []]
/-- 145: KayfabeRingLaw.ofWrestler(LKayfabeRing;II[J)I -/
def pg_c145 : List RI := [(3, 3, 0, 0), (0, 0, 0, 0), (3, 0, 0, 0), (1, 1, 0, 0), (1, 2, 0, 0), (41, 47, 0, 60), (21, 0, 0, 0), (25, 0, 0, 0), (16, 15, 0, 0), (4, 4, 0, 0), (0, 0, 0, 1), (45, 0, 0, 0), (4, 4, 0, 0), (0, 0, 0, 2), (45, 0, 0, 0), (0, 0, 0, 0), (45, 0, 0, 0)]
def pg_p145 : List Nat := [0, 1, 2, 3, 4, 5, 8, 9, 10, 13, 15, 16, 17, 19, 20, 21, 22]
def pg_w145 : List (List Nat) := [[], [], [], [], [], [678], [], [], [], [], [], [], [], [], [], [], []]
/-- 146: KayfabeRingLaw.love(LKayfabeRing;II[J)I -/
def pg_c146 : List RI := [(3, 3, 0, 0), (0, 0, 0, 0), (3, 0, 0, 0), (1, 1, 0, 0), (1, 2, 0, 0), (41, 48, 0, 63), (21, 0, 0, 0), (25, 0, 0, 0), (16, 12, 0, 0), (4, 4, 0, 0), (0, 0, 0, 1), (45, 0, 0, 0), (0, 0, 0, 0), (45, 0, 0, 0)]
def pg_p146 : List Nat := [0, 1, 2, 3, 4, 5, 8, 9, 10, 13, 15, 16, 17, 18]
def pg_w146 : List (List Nat) := [[], [], [], [], [], [686], [], [], [], [], [], [], [], []]
/-- 147: KayfabeRingLaw.worth(LKayfabeRing;II[J)I -/
def pg_c147 : List RI := [(3, 3, 0, 0), (0, 0, 0, 0), (3, 0, 0, 0), (1, 1, 0, 0), (1, 2, 0, 0), (41, 49, 0, 66), (21, 0, 0, 0), (25, 0, 0, 0), (16, 12, 0, 0), (4, 4, 0, 0), (0, 0, 0, 1), (45, 0, 0, 0), (0, 0, 0, 0), (45, 0, 0, 0)]
def pg_p147 : List Nat := [0, 1, 2, 3, 4, 5, 8, 9, 10, 13, 15, 16, 17, 18]
def pg_w147 : List (List Nat) := [[], [], [], [], [], [693], [], [], [], [], [], [], [], []]
/-- 148: KayfabeRingLaw.ofCard(LKayfabeRing;II[J)I -/
def pg_c148 : List RI := [(3, 3, 0, 0), (0, 0, 0, 0), (3, 0, 0, 0), (1, 1, 0, 0), (1, 2, 0, 0), (41, 50, 0, 69), (21, 0, 0, 0), (25, 0, 0, 0), (16, 12, 0, 0), (4, 4, 0, 0), (0, 0, 0, 1), (45, 0, 0, 0), (0, 0, 0, 0), (45, 0, 0, 0)]
def pg_p148 : List Nat := [0, 1, 2, 3, 4, 5, 8, 9, 10, 13, 15, 16, 17, 18]
def pg_w148 : List (List Nat) := [[], [], [], [], [], [700], [], [], [], [], [], [], [], []]
/-- 149: KayfabeRingLaw.ofMatch(LKayfabeRing;III[J)I -/
def pg_c149 : List RI := [(3, 4, 0, 0), (0, 0, 0, 0), (3, 0, 0, 0), (1, 1, 0, 0), (1, 2, 0, 0), (1, 3, 0, 0), (41, 51, 0, 72), (21, 0, 0, 0), (25, 0, 0, 0), (16, 16, 0, 0), (4, 5, 0, 0), (0, 0, 0, 1), (45, 0, 0, 0), (4, 5, 0, 0), (0, 0, 0, 2), (45, 0, 0, 0), (0, 0, 0, 0), (45, 0, 0, 0)]
def pg_p149 : List Nat := [0, 2, 3, 4, 5, 6, 7, 10, 11, 12, 15, 17, 18, 19, 21, 22, 23, 24]
def pg_w149 : List (List Nat) := [[], [], [], [], [], [], [708], [], [], [], [], [], [], [], [], [], [], []]
/-- 150: KayfabeRingLaw.lineage(LKayfabeRing;IIZ[J)I -/
def pg_c150 : List RI := [(3, 4, 0, 0), (0, 0, 0, 0), (3, 0, 0, 0), (1, 1, 0, 0), (1, 2, 0, 0), (1, 3, 0, 0), (41, 52, 0, 75), (21, 0, 0, 0), (25, 0, 0, 0), (16, 13, 0, 0), (4, 5, 0, 0), (0, 0, 0, 1), (45, 0, 0, 0), (0, 0, 0, 0), (45, 0, 0, 0)]
def pg_p150 : List Nat := [0, 2, 3, 4, 5, 6, 7, 10, 11, 12, 15, 17, 18, 19, 20]
def pg_w150 : List (List Nat) := [[], [], [], [], [], [], [715], [], [], [], [], [], [], [], []]
/-- 151: KayfabeRingLaw.champion(LKayfabeRing;I[J)I -/
def pg_c151 : List RI := [(3, 2, 0, 0), (0, 0, 0, 0), (3, 0, 0, 0), (1, 1, 0, 0), (41, 53, 0, 79), (21, 0, 0, 0), (25, 0, 0, 0), (16, 11, 0, 0), (4, 3, 0, 0), (0, 0, 0, 1), (45, 0, 0, 0), (0, 0, 0, 0), (45, 0, 0, 0)]
def pg_p151 : List Nat := [0, 1, 2, 3, 4, 7, 8, 9, 12, 13, 14, 15, 16]
def pg_w151 : List (List Nat) := [[], [], [], [], [723], [], [], [], [], [], [], [], []]
/-- 152: KayfabeRingLaw.beat(LKayfabeRing;II[J)I -/
def pg_c152 : List RI := [(3, 3, 0, 0), (0, 0, 0, 0), (3, 0, 0, 0), (1, 1, 0, 0), (1, 2, 0, 0), (41, 54, 0, 82), (21, 0, 0, 0), (25, 0, 0, 0), (16, 12, 0, 0), (4, 4, 0, 0), (0, 0, 0, 1), (45, 0, 0, 0), (0, 0, 0, 0), (45, 0, 0, 0)]
def pg_p152 : List Nat := [0, 1, 2, 3, 4, 5, 8, 9, 10, 13, 15, 16, 17, 18]
def pg_w152 : List (List Nat) := [[], [], [], [], [], [731], [], [], [], [], [], [], [], []]
/-- 153: KayfabeRingLaw.beatAnew(LKayfabeRing;II[J)I -/
def pg_c153 : List RI := [(3, 3, 0, 0), (0, 0, 0, 0), (3, 0, 0, 0), (1, 1, 0, 0), (1, 2, 0, 0), (41, 55, 0, 85), (21, 0, 0, 0), (25, 0, 0, 0), (16, 12, 0, 0), (4, 4, 0, 0), (0, 0, 0, 1), (45, 0, 0, 0), (0, 0, 0, 0), (45, 0, 0, 0)]
def pg_p153 : List Nat := [0, 1, 2, 3, 4, 5, 8, 9, 10, 13, 15, 16, 17, 18]
def pg_w153 : List (List Nat) := [[], [], [], [], [], [738], [], [], [], [], [], [], [], []]
/-- 154: KayfabeRingLaw.gate(LKayfabeRing;I[J)I -/
def pg_c154 : List RI := [(3, 2, 0, 0), (0, 0, 0, 0), (3, 0, 0, 0), (1, 1, 0, 0), (41, 56, 0, 88), (21, 0, 0, 0), (25, 0, 0, 0), (16, 11, 0, 0), (4, 3, 0, 0), (0, 0, 0, 1), (45, 0, 0, 0), (0, 0, 0, 0), (45, 0, 0, 0)]
def pg_p154 : List Nat := [0, 1, 2, 3, 4, 7, 8, 9, 12, 13, 14, 15, 16]
def pg_w154 : List (List Nat) := [[], [], [], [], [751], [], [], [], [], [], [], [], []]
/-- 155: KayfabeRingLaw.mending(LKayfabeRing;[J)I -/
def pg_c155 : List RI := [(3, 1, 0, 0), (0, 0, 0, 0), (3, 0, 0, 0), (41, 57, 0, 91), (21, 0, 0, 0), (25, 0, 0, 0), (16, 10, 0, 0), (4, 2, 0, 0), (0, 0, 0, 1), (45, 0, 0, 0), (0, 0, 0, 0), (45, 0, 0, 0)]
def pg_p155 : List Nat := [0, 1, 2, 3, 6, 7, 8, 11, 12, 13, 14, 15]
def pg_w155 : List (List Nat) := [[], [], [], [759], [], [], [], [], [], [], [], []]
/-- 156: KayfabeRingLaw.mendingAnew(LKayfabeRing;[J)I -/
def pg_c156 : List RI := [(3, 1, 0, 0), (0, 0, 0, 0), (3, 0, 0, 0), (41, 58, 0, 94), (21, 0, 0, 0), (25, 0, 0, 0), (16, 10, 0, 0), (4, 2, 0, 0), (0, 0, 0, 1), (45, 0, 0, 0), (0, 0, 0, 0), (45, 0, 0, 0)]
def pg_p156 : List Nat := [0, 1, 2, 3, 6, 7, 8, 11, 12, 13, 14, 15]
def pg_w156 : List (List Nat) := [[], [], [], [766], [], [], [], [], [], [], [], []]
/-- 157: KayfabeRingLaw.law([I)Z -/
def pg_c157 : List RI := [(37, 5, 0, 8), (13, 0, 0, 0), (42, 32, 0, 97), (4, 1, 0, 0), (37, 6, 0, 98), (13, 0, 0, 0), (42, 73, 0, 100), (4, 2, 0, 0), (0, 0, 0, 1), (38, 13, 0, 0), (4, 3, 0, 0), (0, 0, 0, 0), (2, 4, 0, 0), (1, 4, 0, 0), (3, 0, 0, 0), (26, 0, 0, 0), (0, 0, 0, 8), (7, 0, 0, 0), (18, 1118, 4, 0), (3, 0, 0, 0), (1, 4, 0, 0), (27, 0, 0, 0), (0, 0, 0, 31), (12, 0, 0, 0), (20, 4, 0, 0), (3, 1, 0, 0), (3, 0, 0, 0), (1, 4, 0, 0), (0, 0, 0, 1), (6, 0, 0, 0), (27, 0, 0, 0), (3, 0, 0, 0), (1, 4, 0, 0), (0, 0, 0, 2), (6, 0, 0, 0), (27, 0, 0, 0), (3, 0, 0, 0), (1, 4, 0, 0), (0, 0, 0, 3), (6, 0, 0, 0), (27, 0, 0, 0), (3, 3, 0, 0), (40, 132, 0, 101), (2, 5, 0, 0), (3, 2, 0, 0), (3, 0, 0, 0), (1, 4, 0, 0), (0, 0, 0, 1), (6, 0, 0, 0), (27, 0, 0, 0), (3, 0, 0, 0), (1, 4, 0, 0), (0, 0, 0, 2), (6, 0, 0, 0), (27, 0, 0, 0), (3, 0, 0, 0), (1, 4, 0, 0), (0, 0, 0, 3), (6, 0, 0, 0), (27, 0, 0, 0), (41, 83, 0, 106), (2, 6, 0, 0), (3, 2, 0, 0), (41, 74, 0, 107), (1, 5, 0, 0), (18, 68, 0, 0), (0, 0, 0, 0), (45, 0, 0, 0), (1, 5, 0, 0), (17, 79, 1, 0), (3, 3, 0, 0), (0, 0, 0, 0), (24, 0, 0, 0), (1, 6, 0, 0), (21, 0, 0, 0), (22, 0, 0, 0), (17, 79, 0, 0), (0, 0, 0, 0), (45, 0, 0, 0), (16, 1116, 0, 0), (3, 1, 0, 0), (3, 3, 0, 0), (40, 133, 0, 110), (2, 5, 0, 0), (3, 2, 0, 0), (41, 84, 0, 113), (2, 6, 0, 0), (3, 2, 0, 0), (41, 74, 0, 107), (1, 5, 0, 0), (18, 93, 0, 0), (0, 0, 0, 0), (45, 0, 0, 0), (1, 5, 0, 0), (17, 104, 1, 0), (3, 3, 0, 0), (0, 0, 0, 0), (24, 0, 0, 0), (1, 6, 0, 0), (21, 0, 0, 0), (22, 0, 0, 0), (17, 104, 0, 0), (0, 0, 0, 0), (45, 0, 0, 0), (16, 1116, 0, 0), (3, 1, 0, 0), (3, 0, 0, 0), (1, 4, 0, 0), (0, 0, 0, 1), (6, 0, 0, 0), (27, 0, 0, 0), (3, 0, 0, 0), (1, 4, 0, 0), (0, 0, 0, 2), (6, 0, 0, 0), (27, 0, 0, 0), (3, 0, 0, 0), (1, 4, 0, 0), (0, 0, 0, 3), (6, 0, 0, 0), (27, 0, 0, 0), (3, 3, 0, 0), (40, 134, 0, 114), (2, 5, 0, 0), (3, 2, 0, 0), (3, 0, 0, 0), (1, 4, 0, 0), (0, 0, 0, 1), (6, 0, 0, 0), (27, 0, 0, 0), (3, 0, 0, 0), (1, 4, 0, 0), (0, 0, 0, 2), (6, 0, 0, 0), (27, 0, 0, 0), (3, 0, 0, 0), (1, 4, 0, 0), (0, 0, 0, 3), (6, 0, 0, 0), (27, 0, 0, 0), (41, 85, 0, 116), (2, 6, 0, 0), (3, 2, 0, 0), (41, 74, 0, 107), (1, 5, 0, 0), (18, 148, 0, 0), (0, 0, 0, 0), (45, 0, 0, 0), (1, 5, 0, 0), (17, 159, 1, 0), (3, 3, 0, 0), (0, 0, 0, 0), (24, 0, 0, 0), (1, 6, 0, 0), (21, 0, 0, 0), (22, 0, 0, 0), (17, 159, 0, 0), (0, 0, 0, 0), (45, 0, 0, 0), (16, 1116, 0, 0), (3, 1, 0, 0), (3, 0, 0, 0), (1, 4, 0, 0), (0, 0, 0, 1), (6, 0, 0, 0), (27, 0, 0, 0), (3, 0, 0, 0), (1, 4, 0, 0), (0, 0, 0, 2), (6, 0, 0, 0), (27, 0, 0, 0), (3, 3, 0, 0), (40, 135, 0, 117), (2, 5, 0, 0), (3, 2, 0, 0), (3, 0, 0, 0), (1, 4, 0, 0), (0, 0, 0, 1), (6, 0, 0, 0), (27, 0, 0, 0), (3, 0, 0, 0), (1, 4, 0, 0), (0, 0, 0, 2), (6, 0, 0, 0), (27, 0, 0, 0), (41, 86, 0, 120), (2, 6, 0, 0), (3, 2, 0, 0), (41, 74, 0, 107), (1, 5, 0, 0), (18, 193, 0, 0), (0, 0, 0, 0), (45, 0, 0, 0), (1, 5, 0, 0), (17, 204, 1, 0), (3, 3, 0, 0), (0, 0, 0, 0), (24, 0, 0, 0), (1, 6, 0, 0), (21, 0, 0, 0), (22, 0, 0, 0), (17, 204, 0, 0), (0, 0, 0, 0), (45, 0, 0, 0), (16, 1116, 0, 0), (3, 1, 0, 0), (3, 0, 0, 0), (1, 4, 0, 0), (0, 0, 0, 1), (6, 0, 0, 0), (27, 0, 0, 0), (3, 0, 0, 0), (1, 4, 0, 0), (0, 0, 0, 2), (6, 0, 0, 0), (27, 0, 0, 0), (3, 0, 0, 0), (1, 4, 0, 0), (0, 0, 0, 3), (6, 0, 0, 0), (27, 0, 0, 0), (3, 0, 0, 0), (1, 4, 0, 0), (0, 0, 0, 4), (6, 0, 0, 0), (27, 0, 0, 0), (3, 0, 0, 0), (1, 4, 0, 0), (0, 0, 0, 5), (6, 0, 0, 0), (27, 0, 0, 0), (17, 234, 0, 0), (0, 0, 0, 1), (16, 235, 0, 0), (0, 0, 0, 0), (3, 0, 0, 0), (1, 4, 0, 0), (0, 0, 0, 6), (6, 0, 0, 0), (27, 0, 0, 0), (3, 0, 0, 0), (1, 4, 0, 0), (0, 0, 0, 7), (6, 0, 0, 0), (27, 0, 0, 0), (3, 3, 0, 0), (40, 136, 0, 121), (2, 5, 0, 0), (3, 2, 0, 0), (3, 0, 0, 0), (1, 4, 0, 0), (0, 0, 0, 1), (6, 0, 0, 0), (27, 0, 0, 0), (3, 0, 0, 0), (1, 4, 0, 0), (0, 0, 0, 2), (6, 0, 0, 0), (27, 0, 0, 0), (3, 0, 0, 0), (1, 4, 0, 0), (0, 0, 0, 3), (6, 0, 0, 0), (27, 0, 0, 0), (3, 0, 0, 0), (1, 4, 0, 0), (0, 0, 0, 4), (6, 0, 0, 0), (27, 0, 0, 0), (3, 0, 0, 0), (1, 4, 0, 0), (0, 0, 0, 5), (6, 0, 0, 0), (27, 0, 0, 0), (17, 277, 0, 0), (0, 0, 0, 1), (16, 278, 0, 0), (0, 0, 0, 0), (3, 0, 0, 0), (1, 4, 0, 0), (0, 0, 0, 6), (6, 0, 0, 0), (27, 0, 0, 0), (3, 0, 0, 0), (1, 4, 0, 0), (0, 0, 0, 7), (6, 0, 0, 0), (27, 0, 0, 0), (41, 93, 0, 124), (2, 6, 0, 0), (3, 2, 0, 0), (41, 74, 0, 107), (1, 5, 0, 0), (18, 296, 0, 0), (0, 0, 0, 0), (45, 0, 0, 0), (1, 5, 0, 0), (17, 307, 1, 0), (3, 3, 0, 0), (0, 0, 0, 0), (24, 0, 0, 0), (1, 6, 0, 0), (21, 0, 0, 0), (22, 0, 0, 0), (17, 307, 0, 0), (0, 0, 0, 0), (45, 0, 0, 0), (16, 1116, 0, 0), (3, 1, 0, 0), (3, 0, 0, 0), (1, 4, 0, 0), (0, 0, 0, 1), (6, 0, 0, 0), (27, 0, 0, 0), (3, 0, 0, 0), (1, 4, 0, 0), (0, 0, 0, 2), (6, 0, 0, 0), (27, 0, 0, 0), (3, 3, 0, 0), (40, 137, 0, 125), (2, 5, 0, 0), (3, 2, 0, 0), (3, 0, 0, 0), (1, 4, 0, 0), (0, 0, 0, 1), (6, 0, 0, 0), (27, 0, 0, 0), (3, 0, 0, 0), (1, 4, 0, 0), (0, 0, 0, 2), (6, 0, 0, 0), (27, 0, 0, 0), (41, 95, 0, 127), (2, 6, 0, 0), (3, 2, 0, 0), (41, 74, 0, 107), (1, 5, 0, 0), (18, 341, 0, 0), (0, 0, 0, 0), (45, 0, 0, 0), (1, 5, 0, 0), (17, 352, 1, 0), (3, 3, 0, 0), (0, 0, 0, 0), (24, 0, 0, 0), (1, 6, 0, 0), (21, 0, 0, 0), (22, 0, 0, 0), (17, 352, 0, 0), (0, 0, 0, 0), (45, 0, 0, 0), (16, 1116, 0, 0), (3, 1, 0, 0), (3, 0, 0, 0), (1, 4, 0, 0), (0, 0, 0, 1), (6, 0, 0, 0), (27, 0, 0, 0), (3, 3, 0, 0), (40, 138, 0, 128), (2, 5, 0, 0), (3, 2, 0, 0), (3, 0, 0, 0), (1, 4, 0, 0), (0, 0, 0, 1), (6, 0, 0, 0), (27, 0, 0, 0), (41, 96, 0, 131), (2, 6, 0, 0), (3, 2, 0, 0), (41, 74, 0, 107), (1, 5, 0, 0), (18, 376, 0, 0), (0, 0, 0, 0), (45, 0, 0, 0), (1, 5, 0, 0), (17, 390, 1, 0), (3, 3, 0, 0), (0, 0, 0, 0), (24, 0, 0, 0), (1, 6, 0, 0), (17, 385, 0, 0), (23, 0, 0, 1), (16, 386, 0, 0), (23, 0, 0, 0), (22, 0, 0, 0), (17, 390, 0, 0), (0, 0, 0, 0), (45, 0, 0, 0), (16, 1116, 0, 0), (3, 1, 0, 0), (3, 0, 0, 0), (1, 4, 0, 0), (0, 0, 0, 1), (6, 0, 0, 0), (27, 0, 0, 0), (3, 0, 0, 0), (1, 4, 0, 0), (0, 0, 0, 2), (6, 0, 0, 0), (27, 0, 0, 0), (3, 3, 0, 0), (40, 139, 0, 132), (2, 5, 0, 0), (3, 2, 0, 0), (3, 0, 0, 0), (1, 4, 0, 0), (0, 0, 0, 1), (6, 0, 0, 0), (27, 0, 0, 0), (3, 0, 0, 0), (1, 4, 0, 0), (0, 0, 0, 2), (6, 0, 0, 0), (27, 0, 0, 0), (41, 98, 0, 134), (2, 6, 0, 0), (3, 2, 0, 0), (41, 74, 0, 107), (1, 5, 0, 0), (18, 424, 0, 0), (0, 0, 0, 0), (45, 0, 0, 0), (1, 5, 0, 0), (17, 435, 1, 0), (3, 3, 0, 0), (0, 0, 0, 0), (24, 0, 0, 0), (1, 6, 0, 0), (21, 0, 0, 0), (22, 0, 0, 0), (17, 435, 0, 0), (0, 0, 0, 0), (45, 0, 0, 0), (16, 1116, 0, 0), (3, 1, 0, 0), (3, 0, 0, 0), (1, 4, 0, 0), (0, 0, 0, 1), (6, 0, 0, 0), (27, 0, 0, 0), (3, 3, 0, 0), (40, 140, 0, 135), (2, 5, 0, 0), (3, 2, 0, 0), (3, 0, 0, 0), (1, 4, 0, 0), (0, 0, 0, 1), (6, 0, 0, 0), (27, 0, 0, 0), (41, 99, 0, 137), (2, 6, 0, 0), (3, 2, 0, 0), (41, 74, 0, 107), (1, 5, 0, 0), (18, 459, 0, 0), (0, 0, 0, 0), (45, 0, 0, 0), (1, 5, 0, 0), (17, 470, 1, 0), (3, 3, 0, 0), (0, 0, 0, 0), (24, 0, 0, 0), (1, 6, 0, 0), (21, 0, 0, 0), (22, 0, 0, 0), (17, 470, 0, 0), (0, 0, 0, 0), (45, 0, 0, 0), (16, 1116, 0, 0), (3, 1, 0, 0), (3, 3, 0, 0), (40, 141, 0, 138), (2, 5, 0, 0), (3, 2, 0, 0), (41, 105, 0, 140), (2, 6, 0, 0), (3, 2, 0, 0), (41, 74, 0, 107), (1, 5, 0, 0), (18, 484, 0, 0), (0, 0, 0, 0), (45, 0, 0, 0), (1, 5, 0, 0), (17, 495, 1, 0), (3, 3, 0, 0), (0, 0, 0, 0), (24, 0, 0, 0), (1, 6, 0, 0), (21, 0, 0, 0), (22, 0, 0, 0), (17, 495, 0, 0), (0, 0, 0, 0), (45, 0, 0, 0), (16, 1116, 0, 0), (3, 1, 0, 0), (3, 3, 0, 0), (40, 142, 0, 141), (2, 5, 0, 0), (3, 2, 0, 0), (41, 113, 0, 143), (2, 6, 0, 0), (3, 2, 0, 0), (41, 74, 0, 107), (1, 5, 0, 0), (18, 509, 0, 0), (0, 0, 0, 0), (45, 0, 0, 0), (1, 5, 0, 0), (17, 520, 1, 0), (3, 3, 0, 0), (0, 0, 0, 0), (24, 0, 0, 0), (1, 6, 0, 0), (21, 0, 0, 0), (22, 0, 0, 0), (17, 520, 0, 0), (0, 0, 0, 0), (45, 0, 0, 0), (16, 1116, 0, 0), (3, 1, 0, 0), (3, 0, 0, 0), (1, 4, 0, 0), (0, 0, 0, 1), (6, 0, 0, 0), (27, 0, 0, 0), (3, 0, 0, 0), (1, 4, 0, 0), (0, 0, 0, 2), (6, 0, 0, 0), (27, 0, 0, 0), (3, 0, 0, 0), (1, 4, 0, 0), (0, 0, 0, 3), (6, 0, 0, 0), (27, 0, 0, 0), (3, 3, 0, 0), (40, 143, 0, 144), (2, 5, 0, 0), (3, 2, 0, 0), (3, 0, 0, 0), (1, 4, 0, 0), (0, 0, 0, 1), (6, 0, 0, 0), (27, 0, 0, 0), (3, 0, 0, 0), (1, 4, 0, 0), (0, 0, 0, 2), (6, 0, 0, 0), (27, 0, 0, 0), (3, 0, 0, 0), (1, 4, 0, 0), (0, 0, 0, 3), (6, 0, 0, 0), (27, 0, 0, 0), (41, 114, 0, 146), (2, 6, 0, 0), (3, 2, 0, 0), (41, 74, 0, 107), (1, 5, 0, 0), (18, 564, 0, 0), (0, 0, 0, 0), (45, 0, 0, 0), (1, 5, 0, 0), (17, 575, 1, 0), (3, 3, 0, 0), (0, 0, 0, 0), (24, 0, 0, 0), (1, 6, 0, 0), (21, 0, 0, 0), (22, 0, 0, 0), (17, 575, 0, 0), (0, 0, 0, 0), (45, 0, 0, 0), (16, 1116, 0, 0), (3, 1, 0, 0), (3, 3, 0, 0), (40, 144, 0, 147), (2, 5, 0, 0), (3, 2, 0, 0), (41, 115, 0, 149), (2, 6, 0, 0), (3, 2, 0, 0), (41, 74, 0, 107), (1, 5, 0, 0), (18, 589, 0, 0), (0, 0, 0, 0), (45, 0, 0, 0), (1, 5, 0, 0), (17, 600, 1, 0), (3, 3, 0, 0), (0, 0, 0, 0), (24, 0, 0, 0), (1, 6, 0, 0), (21, 0, 0, 0), (22, 0, 0, 0), (17, 600, 0, 0), (0, 0, 0, 0), (45, 0, 0, 0), (16, 1116, 0, 0), (3, 1, 0, 0), (41, 46, 0, 150), (3, 2, 0, 0), (41, 116, 0, 153), (18, 1116, 0, 0), (0, 0, 0, 0), (45, 0, 0, 0), (3, 1, 0, 0), (3, 0, 0, 0), (1, 4, 0, 0), (0, 0, 0, 1), (6, 0, 0, 0), (27, 0, 0, 0), (3, 0, 0, 0), (1, 4, 0, 0), (0, 0, 0, 2), (6, 0, 0, 0), (27, 0, 0, 0), (3, 3, 0, 0), (40, 145, 0, 154), (2, 5, 0, 0), (3, 2, 0, 0), (3, 0, 0, 0), (1, 4, 0, 0), (0, 0, 0, 1), (6, 0, 0, 0), (27, 0, 0, 0), (3, 0, 0, 0), (1, 4, 0, 0), (0, 0, 0, 2), (6, 0, 0, 0), (27, 0, 0, 0), (41, 118, 0, 156), (2, 6, 0, 0), (3, 2, 0, 0), (41, 74, 0, 107), (1, 5, 0, 0), (18, 641, 0, 0), (0, 0, 0, 0), (45, 0, 0, 0), (1, 5, 0, 0), (17, 652, 1, 0), (3, 3, 0, 0), (0, 0, 0, 0), (24, 0, 0, 0), (1, 6, 0, 0), (21, 0, 0, 0), (22, 0, 0, 0), (17, 652, 0, 0), (0, 0, 0, 0), (45, 0, 0, 0), (16, 1116, 0, 0), (3, 1, 0, 0), (3, 0, 0, 0), (1, 4, 0, 0), (0, 0, 0, 1), (6, 0, 0, 0), (27, 0, 0, 0), (3, 0, 0, 0), (1, 4, 0, 0), (0, 0, 0, 2), (6, 0, 0, 0), (27, 0, 0, 0), (3, 3, 0, 0), (40, 146, 0, 157), (2, 5, 0, 0), (3, 2, 0, 0), (3, 0, 0, 0), (1, 4, 0, 0), (0, 0, 0, 1), (6, 0, 0, 0), (27, 0, 0, 0), (3, 0, 0, 0), (1, 4, 0, 0), (0, 0, 0, 2), (6, 0, 0, 0), (27, 0, 0, 0), (41, 119, 0, 159), (2, 6, 0, 0), (3, 2, 0, 0), (41, 74, 0, 107), (1, 5, 0, 0), (18, 686, 0, 0), (0, 0, 0, 0), (45, 0, 0, 0), (1, 5, 0, 0), (17, 697, 1, 0), (3, 3, 0, 0), (0, 0, 0, 0), (24, 0, 0, 0), (1, 6, 0, 0), (21, 0, 0, 0), (22, 0, 0, 0), (17, 697, 0, 0), (0, 0, 0, 0), (45, 0, 0, 0), (16, 1116, 0, 0), (3, 1, 0, 0), (3, 0, 0, 0), (1, 4, 0, 0), (0, 0, 0, 1), (6, 0, 0, 0), (27, 0, 0, 0), (3, 0, 0, 0), (1, 4, 0, 0), (0, 0, 0, 2), (6, 0, 0, 0), (27, 0, 0, 0), (3, 3, 0, 0), (40, 147, 0, 160), (2, 5, 0, 0), (3, 2, 0, 0), (3, 0, 0, 0), (1, 4, 0, 0), (0, 0, 0, 1), (6, 0, 0, 0), (27, 0, 0, 0), (3, 0, 0, 0), (1, 4, 0, 0), (0, 0, 0, 2), (6, 0, 0, 0), (27, 0, 0, 0), (41, 120, 0, 162), (2, 6, 0, 0), (3, 2, 0, 0), (41, 74, 0, 107), (1, 5, 0, 0), (18, 731, 0, 0), (0, 0, 0, 0), (45, 0, 0, 0), (1, 5, 0, 0), (17, 742, 1, 0), (3, 3, 0, 0), (0, 0, 0, 0), (24, 0, 0, 0), (1, 6, 0, 0), (21, 0, 0, 0), (22, 0, 0, 0), (17, 742, 0, 0), (0, 0, 0, 0), (45, 0, 0, 0), (16, 1116, 0, 0), (3, 1, 0, 0), (3, 0, 0, 0), (1, 4, 0, 0), (0, 0, 0, 1), (6, 0, 0, 0), (27, 0, 0, 0), (3, 0, 0, 0), (1, 4, 0, 0), (0, 0, 0, 2), (6, 0, 0, 0), (27, 0, 0, 0), (3, 3, 0, 0), (40, 148, 0, 163), (2, 5, 0, 0), (3, 2, 0, 0), (3, 0, 0, 0), (1, 4, 0, 0), (0, 0, 0, 1), (6, 0, 0, 0), (27, 0, 0, 0), (3, 0, 0, 0), (1, 4, 0, 0), (0, 0, 0, 2), (6, 0, 0, 0), (27, 0, 0, 0), (41, 121, 0, 165), (2, 6, 0, 0), (3, 2, 0, 0), (41, 74, 0, 107), (1, 5, 0, 0), (18, 776, 0, 0), (0, 0, 0, 0), (45, 0, 0, 0), (1, 5, 0, 0), (17, 787, 1, 0), (3, 3, 0, 0), (0, 0, 0, 0), (24, 0, 0, 0), (1, 6, 0, 0), (21, 0, 0, 0), (22, 0, 0, 0), (17, 787, 0, 0), (0, 0, 0, 0), (45, 0, 0, 0), (16, 1116, 0, 0), (3, 1, 0, 0), (3, 0, 0, 0), (1, 4, 0, 0), (0, 0, 0, 1), (6, 0, 0, 0), (27, 0, 0, 0), (3, 0, 0, 0), (1, 4, 0, 0), (0, 0, 0, 2), (6, 0, 0, 0), (27, 0, 0, 0), (3, 0, 0, 0), (1, 4, 0, 0), (0, 0, 0, 3), (6, 0, 0, 0), (27, 0, 0, 0), (3, 3, 0, 0), (40, 149, 0, 166), (2, 5, 0, 0), (3, 2, 0, 0), (3, 0, 0, 0), (1, 4, 0, 0), (0, 0, 0, 1), (6, 0, 0, 0), (27, 0, 0, 0), (3, 0, 0, 0), (1, 4, 0, 0), (0, 0, 0, 2), (6, 0, 0, 0), (27, 0, 0, 0), (3, 0, 0, 0), (1, 4, 0, 0), (0, 0, 0, 3), (6, 0, 0, 0), (27, 0, 0, 0), (41, 122, 0, 168), (2, 6, 0, 0), (3, 2, 0, 0), (41, 74, 0, 107), (1, 5, 0, 0), (18, 831, 0, 0), (0, 0, 0, 0), (45, 0, 0, 0), (1, 5, 0, 0), (17, 842, 1, 0), (3, 3, 0, 0), (0, 0, 0, 0), (24, 0, 0, 0), (1, 6, 0, 0), (21, 0, 0, 0), (22, 0, 0, 0), (17, 842, 0, 0), (0, 0, 0, 0), (45, 0, 0, 0), (16, 1116, 0, 0), (3, 1, 0, 0), (3, 0, 0, 0), (1, 4, 0, 0), (0, 0, 0, 1), (6, 0, 0, 0), (27, 0, 0, 0), (3, 0, 0, 0), (1, 4, 0, 0), (0, 0, 0, 2), (6, 0, 0, 0), (27, 0, 0, 0), (3, 0, 0, 0), (1, 4, 0, 0), (0, 0, 0, 3), (6, 0, 0, 0), (27, 0, 0, 0), (17, 862, 0, 0), (0, 0, 0, 1), (16, 863, 0, 0), (0, 0, 0, 0), (3, 3, 0, 0), (40, 150, 0, 169), (2, 5, 0, 0), (3, 2, 0, 0), (3, 0, 0, 0), (1, 4, 0, 0), (0, 0, 0, 1), (6, 0, 0, 0), (27, 0, 0, 0), (3, 0, 0, 0), (1, 4, 0, 0), (0, 0, 0, 2), (6, 0, 0, 0), (27, 0, 0, 0), (3, 0, 0, 0), (1, 4, 0, 0), (0, 0, 0, 3), (6, 0, 0, 0), (27, 0, 0, 0), (17, 885, 0, 0), (0, 0, 0, 1), (16, 886, 0, 0), (0, 0, 0, 0), (41, 123, 0, 172), (2, 6, 0, 0), (3, 2, 0, 0), (41, 74, 0, 107), (1, 5, 0, 0), (18, 894, 0, 0), (0, 0, 0, 0), (45, 0, 0, 0), (1, 5, 0, 0), (17, 905, 1, 0), (3, 3, 0, 0), (0, 0, 0, 0), (24, 0, 0, 0), (1, 6, 0, 0), (21, 0, 0, 0), (22, 0, 0, 0), (17, 905, 0, 0), (0, 0, 0, 0), (45, 0, 0, 0), (16, 1116, 0, 0), (3, 1, 0, 0), (3, 0, 0, 0), (1, 4, 0, 0), (0, 0, 0, 1), (6, 0, 0, 0), (27, 0, 0, 0), (3, 3, 0, 0), (40, 151, 0, 173), (2, 5, 0, 0), (3, 2, 0, 0), (3, 0, 0, 0), (1, 4, 0, 0), (0, 0, 0, 1), (6, 0, 0, 0), (27, 0, 0, 0), (41, 124, 0, 175), (2, 6, 0, 0), (3, 2, 0, 0), (41, 74, 0, 107), (1, 5, 0, 0), (18, 929, 0, 0), (0, 0, 0, 0), (45, 0, 0, 0), (1, 5, 0, 0), (17, 940, 1, 0), (3, 3, 0, 0), (0, 0, 0, 0), (24, 0, 0, 0), (1, 6, 0, 0), (21, 0, 0, 0), (22, 0, 0, 0), (17, 940, 0, 0), (0, 0, 0, 0), (45, 0, 0, 0), (16, 1116, 0, 0), (3, 1, 0, 0), (3, 0, 0, 0), (1, 4, 0, 0), (0, 0, 0, 1), (6, 0, 0, 0), (27, 0, 0, 0), (3, 0, 0, 0), (1, 4, 0, 0), (0, 0, 0, 2), (6, 0, 0, 0), (27, 0, 0, 0), (3, 3, 0, 0), (40, 152, 0, 176), (2, 5, 0, 0), (3, 2, 0, 0), (3, 0, 0, 0), (1, 4, 0, 0), (0, 0, 0, 1), (6, 0, 0, 0), (27, 0, 0, 0), (3, 0, 0, 0), (1, 4, 0, 0), (0, 0, 0, 2), (6, 0, 0, 0), (27, 0, 0, 0), (41, 125, 0, 178), (2, 6, 0, 0), (3, 2, 0, 0), (41, 74, 0, 107), (1, 5, 0, 0), (18, 974, 0, 0), (0, 0, 0, 0), (45, 0, 0, 0), (1, 5, 0, 0), (17, 985, 1, 0), (3, 3, 0, 0), (0, 0, 0, 0), (24, 0, 0, 0), (1, 6, 0, 0), (21, 0, 0, 0), (22, 0, 0, 0), (17, 985, 0, 0), (0, 0, 0, 0), (45, 0, 0, 0), (16, 1116, 0, 0), (3, 1, 0, 0), (3, 0, 0, 0), (1, 4, 0, 0), (0, 0, 0, 1), (6, 0, 0, 0), (27, 0, 0, 0), (3, 0, 0, 0), (1, 4, 0, 0), (0, 0, 0, 2), (6, 0, 0, 0), (27, 0, 0, 0), (3, 3, 0, 0), (40, 153, 0, 179), (2, 5, 0, 0), (3, 2, 0, 0), (3, 0, 0, 0), (1, 4, 0, 0), (0, 0, 0, 1), (6, 0, 0, 0), (27, 0, 0, 0), (3, 0, 0, 0), (1, 4, 0, 0), (0, 0, 0, 2), (6, 0, 0, 0), (27, 0, 0, 0), (41, 126, 0, 181), (2, 6, 0, 0), (3, 2, 0, 0), (41, 74, 0, 107), (1, 5, 0, 0), (18, 1019, 0, 0), (0, 0, 0, 0), (45, 0, 0, 0), (1, 5, 0, 0), (17, 1030, 1, 0), (3, 3, 0, 0), (0, 0, 0, 0), (24, 0, 0, 0), (1, 6, 0, 0), (21, 0, 0, 0), (22, 0, 0, 0), (17, 1030, 0, 0), (0, 0, 0, 0), (45, 0, 0, 0), (16, 1116, 0, 0), (3, 1, 0, 0), (3, 0, 0, 0), (1, 4, 0, 0), (0, 0, 0, 1), (6, 0, 0, 0), (27, 0, 0, 0), (3, 3, 0, 0), (40, 154, 0, 182), (2, 5, 0, 0), (3, 2, 0, 0), (3, 0, 0, 0), (1, 4, 0, 0), (0, 0, 0, 1), (6, 0, 0, 0), (27, 0, 0, 0), (41, 127, 0, 184), (2, 6, 0, 0), (3, 2, 0, 0), (41, 74, 0, 107), (1, 5, 0, 0), (18, 1054, 0, 0), (0, 0, 0, 0), (45, 0, 0, 0), (1, 5, 0, 0), (17, 1065, 1, 0), (3, 3, 0, 0), (0, 0, 0, 0), (24, 0, 0, 0), (1, 6, 0, 0), (21, 0, 0, 0), (22, 0, 0, 0), (17, 1065, 0, 0), (0, 0, 0, 0), (45, 0, 0, 0), (16, 1116, 0, 0), (3, 1, 0, 0), (3, 3, 0, 0), (40, 155, 0, 185), (2, 5, 0, 0), (3, 2, 0, 0), (41, 106, 0, 187), (2, 6, 0, 0), (3, 2, 0, 0), (41, 74, 0, 107), (1, 5, 0, 0), (18, 1079, 0, 0), (0, 0, 0, 0), (45, 0, 0, 0), (1, 5, 0, 0), (17, 1090, 1, 0), (3, 3, 0, 0), (0, 0, 0, 0), (24, 0, 0, 0), (1, 6, 0, 0), (21, 0, 0, 0), (22, 0, 0, 0), (17, 1090, 0, 0), (0, 0, 0, 0), (45, 0, 0, 0), (16, 1116, 0, 0), (3, 1, 0, 0), (3, 3, 0, 0), (40, 156, 0, 188), (2, 5, 0, 0), (3, 2, 0, 0), (41, 107, 0, 190), (2, 6, 0, 0), (3, 2, 0, 0), (41, 74, 0, 107), (1, 5, 0, 0), (18, 1104, 0, 0), (0, 0, 0, 0), (45, 0, 0, 0), (1, 5, 0, 0), (17, 1115, 1, 0), (3, 3, 0, 0), (0, 0, 0, 0), (24, 0, 0, 0), (1, 6, 0, 0), (21, 0, 0, 0), (22, 0, 0, 0), (17, 1115, 0, 0), (0, 0, 0, 0), (45, 0, 0, 0), (16, 1116, 0, 0), (5, 4, 0, 8), (16, 13, 0, 0), (0, 0, 0, 1), (45, 0, 0, 0)]
def pg_p157 : List Nat := [0, 3, 4, 7, 8, 11, 12, 15, 16, 17, 19, 20, 21, 23, 25, 26, 27, 29, 30, 33, 34, 36, 37, 39, 40, 160, 161, 162, 164, 165, 166, 167, 168, 170, 171, 172, 173, 174, 176, 177, 178, 179, 180, 183, 185, 186, 187, 189, 190, 191, 192, 193, 195, 196, 197, 198, 199, 201, 202, 203, 204, 207, 209, 210, 213, 215, 218, 219, 220, 222, 225, 226, 227, 228, 230, 231, 232, 235, 236, 237, 240, 241, 242, 245, 247, 248, 251, 253, 254, 257, 259, 262, 263, 264, 266, 269, 270, 271, 272, 274, 275, 276, 279, 280, 281, 284, 285, 286, 288, 289, 290, 291, 292, 294, 295, 296, 297, 298, 300, 301, 302, 303, 304, 307, 309, 310, 311, 313, 314, 315, 316, 317, 319, 320, 321, 322, 323, 325, 326, 327, 328, 331, 333, 334, 337, 339, 342, 343, 344, 346, 349, 350, 351, 352, 354, 355, 356, 359, 360, 361, 364, 365, 366, 368, 369, 370, 371, 372, 374, 375, 376, 377, 378, 381, 383, 384, 385, 387, 388, 389, 390, 391, 393, 394, 395, 396, 399, 401, 402, 405, 407, 410, 411, 412, 414, 417, 418, 419, 420, 422, 423, 424, 427, 428, 429, 432, 433, 434, 436, 437, 438, 439, 440, 442, 443, 444, 445, 446, 448, 449, 450, 451, 452, 454, 455, 456, 457, 458, 460, 461, 462, 463, 466, 467, 470, 471, 472, 474, 476, 477, 478, 479, 481, 483, 484, 485, 486, 489, 491, 492, 493, 495, 496, 497, 498, 499, 501, 502, 503, 504, 505, 507, 508, 509, 510, 511, 513, 514, 515, 516, 517, 519, 520, 521, 522, 525, 526, 529, 530, 531, 533, 535, 536, 537, 538, 540, 542, 543, 544, 547, 549, 550, 553, 555, 558, 559, 560, 562, 565, 566, 567, 568, 570, 571, 572, 575, 576, 577, 580, 581, 582, 584, 585, 586, 587, 588, 590, 591, 592, 593, 594, 597, 599, 600, 601, 603, 604, 605, 606, 607, 609, 610, 611, 612, 615, 617, 618, 621, 623, 626, 627, 628, 630, 633, 634, 635, 636, 638, 639, 640, 643, 644, 645, 648, 649, 650, 652, 653, 654, 655, 656, 659, 661, 662, 663, 665, 666, 667, 668, 671, 673, 674, 677, 679, 682, 683, 684, 686, 689, 690, 691, 692, 694, 697, 698, 701, 702, 703, 706, 707, 708, 711, 712, 713, 715, 716, 717, 718, 719, 721, 722, 723, 724, 725, 728, 730, 731, 732, 734, 735, 736, 737, 738, 740, 741, 742, 743, 746, 748, 749, 752, 754, 757, 758, 759, 761, 764, 765, 766, 767, 769, 770, 771, 774, 775, 776, 779, 780, 781, 783, 784, 785, 786, 787, 790, 792, 793, 794, 796, 797, 798, 799, 802, 804, 805, 808, 810, 813, 814, 815, 817, 820, 821, 822, 823, 825, 826, 827, 830, 831, 832, 835, 836, 837, 840, 842, 843, 846, 848, 849, 852, 854, 857, 858, 859, 861, 864, 865, 866, 867, 869, 870, 871, 874, 875, 876, 879, 880, 881, 884, 886, 887, 890, 892, 893, 896, 898, 901, 902, 903, 905, 908, 909, 910, 911, 913, 914, 915, 918, 919, 920, 923, 924, 925, 927, 928, 929, 930, 931, 933, 934, 935, 936, 937, 939, 940, 941, 942, 943, 946, 948, 949, 950, 952, 953, 954, 955, 956, 958, 959, 960, 961, 962, 964, 965, 966, 967, 970, 972, 973, 976, 978, 981, 982, 983, 985, 988, 989, 990, 991, 993, 994, 995, 998, 999, 1000, 1003, 1004, 1005, 1008, 1010, 1011, 1014, 1016, 1017, 1020, 1022, 1025, 1026, 1027, 1029, 1032, 1033, 1034, 1035, 1037, 1038, 1039, 1042, 1043, 1044, 1047, 1048, 1051, 1052, 1055, 1058, 1059, 1060, 1061, 1062, 1064, 1065, 1066, 1067, 1068, 1070, 1071, 1072, 1073, 1074, 1077, 1079, 1080, 1081, 1083, 1084, 1085, 1086, 1087, 1089, 1090, 1091, 1092, 1095, 1097, 1098, 1101, 1103, 1106, 1107, 1108, 1110, 1113, 1114, 1115, 1116, 1118, 1119, 1120, 1123, 1124, 1125, 1128, 1129, 1130, 1132, 1133, 1134, 1135, 1136, 1138, 1139, 1140, 1141, 1142, 1145, 1147, 1148, 1149, 1151, 1152, 1153, 1154, 1155, 1157, 1158, 1159, 1160, 1163, 1165, 1166, 1169, 1171, 1174, 1175, 1176, 1178, 1181, 1182, 1183, 1184, 1186, 1187, 1188, 1191, 1192, 1193, 1196, 1197, 1198, 1200, 1201, 1202, 1203, 1204, 1206, 1207, 1208, 1209, 1210, 1213, 1215, 1216, 1217, 1219, 1220, 1221, 1222, 1223, 1225, 1226, 1227, 1228, 1231, 1233, 1234, 1237, 1239, 1242, 1243, 1244, 1246, 1249, 1250, 1251, 1252, 1254, 1255, 1256, 1259, 1260, 1261, 1264, 1265, 1266, 1268, 1269, 1270, 1271, 1272, 1274, 1275, 1276, 1277, 1278, 1281, 1283, 1284, 1285, 1287, 1288, 1289, 1290, 1291, 1293, 1294, 1295, 1296, 1299, 1301, 1302, 1305, 1307, 1310, 1311, 1312, 1314, 1317, 1318, 1319, 1320, 1322, 1323, 1324, 1327, 1328, 1329, 1332, 1333, 1334, 1336, 1337, 1338, 1339, 1340, 1342, 1343, 1344, 1345, 1346, 1348, 1349, 1350, 1351, 1352, 1355, 1357, 1358, 1359, 1361, 1362, 1363, 1364, 1365, 1367, 1368, 1369, 1370, 1371, 1373, 1374, 1375, 1376, 1379, 1381, 1382, 1385, 1387, 1390, 1391, 1392, 1394, 1397, 1398, 1399, 1400, 1402, 1403, 1404, 1407, 1408, 1409, 1412, 1413, 1414, 1416, 1417, 1418, 1419, 1420, 1422, 1423, 1424, 1425, 1426, 1428, 1429, 1430, 1431, 1434, 1435, 1438, 1439, 1440, 1443, 1445, 1446, 1447, 1449, 1450, 1451, 1452, 1453, 1455, 1456, 1457, 1458, 1459, 1461, 1462, 1463, 1464, 1467, 1468, 1471, 1472, 1475, 1477, 1478, 1481, 1483, 1486, 1487, 1488, 1490, 1493, 1494, 1495, 1496, 1498, 1499, 1500, 1503, 1504, 1505, 1508, 1509, 1510, 1512, 1513, 1514, 1515, 1516, 1519, 1521, 1522, 1523, 1525, 1526, 1527, 1528, 1531, 1533, 1534, 1537, 1539, 1542, 1543, 1544, 1546, 1549, 1550, 1551, 1552, 1554, 1555, 1556, 1559, 1560, 1561, 1564, 1565, 1566, 1568, 1569, 1570, 1571, 1572, 1574, 1575, 1576, 1577, 1578, 1581, 1583, 1584, 1585, 1587, 1588, 1589, 1590, 1591, 1593, 1594, 1595, 1596, 1599, 1601, 1602, 1605, 1607, 1610, 1611, 1612, 1614, 1617, 1618, 1619, 1620, 1622, 1623, 1624, 1627, 1628, 1629, 1632, 1633, 1634, 1636, 1637, 1638, 1639, 1640, 1642, 1643, 1644, 1645, 1646, 1649, 1651, 1652, 1653, 1655, 1656, 1657, 1658, 1659, 1661, 1662, 1663, 1664, 1667, 1669, 1670, 1673, 1675, 1678, 1679, 1680, 1682, 1685, 1686, 1687, 1688, 1690, 1691, 1692, 1695, 1696, 1697, 1700, 1701, 1702, 1704, 1705, 1706, 1707, 1708, 1711, 1713, 1714, 1715, 1717, 1718, 1719, 1720, 1723, 1725, 1726, 1729, 1731, 1734, 1735, 1736, 1738, 1741, 1742, 1743, 1744, 1746, 1747, 1748, 1751, 1752, 1753, 1756, 1757, 1758, 1761, 1763, 1764, 1767, 1769, 1770, 1773, 1775, 1778, 1779, 1780, 1782, 1785, 1786, 1787, 1788, 1790, 1791, 1792, 1795, 1796, 1797, 1800, 1801, 1802, 1805, 1807, 1808, 1811, 1813, 1814, 1817, 1819, 1822, 1823, 1824, 1826, 1829, 1830, 1831, 1832, 1834, 1835, 1836, 1839, 1840, 1841, 1844, 1847, 1850, 1851]
def pg_w157 : List (List Nat) := [[60, 61, 45], [], [62], [], [789, 790, 52], [], [791], [], [], [1100], [], [], [], [], [], [], [], [], [], [], [], [], [], [], [], [], [], [], [], [], [], [], [], [], [], [], [], [], [], [], [], [], [307], [], [], [], [], [], [], [], [], [], [], [], [], [], [], [], [], [], [888], [], [], [884], [], [], [], [], [], [], [], [], [], [], [], [], [], [], [], [], [], [], [403], [], [], [899], [], [], [884], [], [], [], [], [], [], [], [], [], [], [], [], [], [], [], [], [], [], [], [], [], [], [], [], [], [], [], [], [], [], [], [], [], [411], [], [], [], [], [], [], [], [], [], [], [], [], [], [], [], [], [], [903], [], [], [884], [], [], [], [], [], [], [], [], [], [], [], [], [], [], [], [], [], [], [], [], [], [], [], [], [], [], [], [], [440], [], [], [], [], [], [], [], [], [], [], [], [], [911], [], [], [884], [], [], [], [], [], [], [], [], [], [], [], [], [], [], [], [], [], [], [], [], [], [], [], [], [], [], [], [], [], [], [], [], [], [], [], [], [], [], [], [], [], [], [], [], [], [], [], [], [], [], [], [], [], [], [], [], [], [448], [], [], [], [], [], [], [], [], [], [], [], [], [], [], [], [], [], [], [], [], [], [], [], [], [], [], [], [], [], [], [], [], [], [], [], [], [], [], [], [], [], [915], [], [], [884], [], [], [], [], [], [], [], [], [], [], [], [], [], [], [], [], [], [], [], [], [], [], [], [], [], [], [], [], [506], [], [], [], [], [], [], [], [], [], [], [], [], [954], [], [], [884], [], [], [], [], [], [], [], [], [], [], [], [], [], [], [], [], [], [], [], [], [], [], [], [523], [], [], [], [], [], [], [], [966], [], [], [884], [], [], [], [], [], [], [], [], [], [], [], [], [], [], [], [], [], [], [], [], [], [], [], [], [], [], [], [], [], [], [], [530], [], [], [], [], [], [], [], [], [], [], [], [], [970], [], [], [884], [], [], [], [], [], [], [], [], [], [], [], [], [], [], [], [], [], [], [], [], [], [], [], [553], [], [], [], [], [], [], [], [982], [], [], [884], [], [], [], [], [], [], [], [], [], [], [], [], [], [], [], [], [], [], [560], [], [], [986], [], [], [884], [], [], [], [], [], [], [], [], [], [], [], [], [], [], [], [], [], [], [615], [], [], [1023], [], [], [884], [], [], [], [], [], [], [], [], [], [], [], [], [], [], [], [], [], [], [], [], [], [], [], [], [], [], [], [], [], [], [], [], [], [657], [], [], [], [], [], [], [], [], [], [], [], [], [], [], [], [], [], [1043], [], [], [884], [], [], [], [], [], [], [], [], [], [], [], [], [], [], [], [], [], [], [667], [], [], [1047], [], [], [884], [], [], [], [], [], [], [], [], [], [], [], [], [], [], [], [], [], [303], [], [1051], [], [], [], [], [], [], [], [], [], [], [], [], [], [], [], [675], [], [], [], [], [], [], [], [], [], [], [], [], [1055], [], [], [884], [], [], [], [], [], [], [], [], [], [], [], [], [], [], [], [], [], [], [], [], [], [], [], [], [], [], [], [], [683], [], [], [], [], [], [], [], [], [], [], [], [], [1063], [], [], [884], [], [], [], [], [], [], [], [], [], [], [], [], [], [], [], [], [], [], [], [], [], [], [], [], [], [], [], [], [690], [], [], [], [], [], [], [], [], [], [], [], [], [1067], [], [], [884], [], [], [], [], [], [], [], [], [], [], [], [], [], [], [], [], [], [], [], [], [], [], [], [], [], [], [], [], [697], [], [], [], [], [], [], [], [], [], [], [], [], [1071], [], [], [884], [], [], [], [], [], [], [], [], [], [], [], [], [], [], [], [], [], [], [], [], [], [], [], [], [], [], [], [], [], [], [], [], [], [705], [], [], [], [], [], [], [], [], [], [], [], [], [], [], [], [], [], [1075], [], [], [884], [], [], [], [], [], [], [], [], [], [], [], [], [], [], [], [], [], [], [], [], [], [], [], [], [], [], [], [], [], [], [], [], [], [], [], [], [], [712], [], [], [], [], [], [], [], [], [], [], [], [], [], [], [], [], [], [], [], [], [], [1079], [], [], [884], [], [], [], [], [], [], [], [], [], [], [], [], [], [], [], [], [], [], [], [], [], [], [], [720], [], [], [], [], [], [], [], [1083], [], [], [884], [], [], [], [], [], [], [], [], [], [], [], [], [], [], [], [], [], [], [], [], [], [], [], [], [], [], [], [], [728], [], [], [], [], [], [], [], [], [], [], [], [], [1087], [], [], [884], [], [], [], [], [], [], [], [], [], [], [], [], [], [], [], [], [], [], [], [], [], [], [], [], [], [], [], [], [735], [], [], [], [], [], [], [], [], [], [], [], [], [1091], [], [], [884], [], [], [], [], [], [], [], [], [], [], [], [], [], [], [], [], [], [], [], [], [], [], [], [748], [], [], [], [], [], [], [], [1096], [], [], [884], [], [], [], [], [], [], [], [], [], [], [], [], [], [], [], [], [], [], [756], [], [], [1014], [], [], [884], [], [], [], [], [], [], [], [], [], [], [], [], [], [], [], [], [], [], [763], [], [], [1018], [], [], [884], [], [], [], [], [], [], [], [], [], [], [], [], [], [], [], [], [], [], [], []]
def pg_cs : List (List RI) := [pg_c0, pg_c1, pg_c2, pg_c3, pg_c4, pg_c5, pg_c6, pg_c7, pg_c8, pg_c9, pg_c10, pg_c11, pg_c12, pg_c13, pg_c14, pg_c15, pg_c16, pg_c17, pg_c18, pg_c19, pg_c20, pg_c21, pg_c22, pg_c23, pg_c24, pg_c25, pg_c26, pg_c27, pg_c28, pg_c29, pg_c30, pg_c31, pg_c32, pg_c33, pg_c34, pg_c35, pg_c36, pg_c37, pg_c38, pg_c39, pg_c40, pg_c41, pg_c42, pg_c43, pg_c44, pg_c45, pg_c46, pg_c47, pg_c48, pg_c49, pg_c50, pg_c51, pg_c52, pg_c53, pg_c54, pg_c55, pg_c56, pg_c57, pg_c58, pg_c59, pg_c60, pg_c61, pg_c62, pg_c63, pg_c64, pg_c65, pg_c66, pg_c67, pg_c68, pg_c69, pg_c70, pg_c71, pg_c72, pg_c73, pg_c74, pg_c75, pg_c76, pg_c77, pg_c78, pg_c79, pg_c80, pg_c81, pg_c82, pg_c83, pg_c84, pg_c85, pg_c86, pg_c87, pg_c88, pg_c89, pg_c90, pg_c91, pg_c92, pg_c93, pg_c94, pg_c95, pg_c96, pg_c97, pg_c98, pg_c99, pg_c100, pg_c101, pg_c102, pg_c103, pg_c104, pg_c105, pg_c106, pg_c107, pg_c108, pg_c109, pg_c110, pg_c111, pg_c112, pg_c113, pg_c114, pg_c115, pg_c116, pg_c117, pg_c118, pg_c119, pg_c120, pg_c121, pg_c122, pg_c123, pg_c124, pg_c125, pg_c126, pg_c127, pg_c128, pg_c129, pg_c130, pg_c131, pg_c132, pg_c133, pg_c134, pg_c135, pg_c136, pg_c137, pg_c138, pg_c139, pg_c140, pg_c141, pg_c142, pg_c143, pg_c144, pg_c145, pg_c146, pg_c147, pg_c148, pg_c149, pg_c150, pg_c151, pg_c152, pg_c153, pg_c154, pg_c155, pg_c156, pg_c157]
def pg_ps : List (List Nat) := [pg_p0, pg_p1, pg_p2, pg_p3, pg_p4, pg_p5, pg_p6, pg_p7, pg_p8, pg_p9, pg_p10, pg_p11, pg_p12, pg_p13, pg_p14, pg_p15, pg_p16, pg_p17, pg_p18, pg_p19, pg_p20, pg_p21, pg_p22, pg_p23, pg_p24, pg_p25, pg_p26, pg_p27, pg_p28, pg_p29, pg_p30, pg_p31, pg_p32, pg_p33, pg_p34, pg_p35, pg_p36, pg_p37, pg_p38, pg_p39, pg_p40, pg_p41, pg_p42, pg_p43, pg_p44, pg_p45, pg_p46, pg_p47, pg_p48, pg_p49, pg_p50, pg_p51, pg_p52, pg_p53, pg_p54, pg_p55, pg_p56, pg_p57, pg_p58, pg_p59, pg_p60, pg_p61, pg_p62, pg_p63, pg_p64, pg_p65, pg_p66, pg_p67, pg_p68, pg_p69, pg_p70, pg_p71, pg_p72, pg_p73, pg_p74, pg_p75, pg_p76, pg_p77, pg_p78, pg_p79, pg_p80, pg_p81, pg_p82, pg_p83, pg_p84, pg_p85, pg_p86, pg_p87, pg_p88, pg_p89, pg_p90, pg_p91, pg_p92, pg_p93, pg_p94, pg_p95, pg_p96, pg_p97, pg_p98, pg_p99, pg_p100, pg_p101, pg_p102, pg_p103, pg_p104, pg_p105, pg_p106, pg_p107, pg_p108, pg_p109, pg_p110, pg_p111, pg_p112, pg_p113, pg_p114, pg_p115, pg_p116, pg_p117, pg_p118, pg_p119, pg_p120, pg_p121, pg_p122, pg_p123, pg_p124, pg_p125, pg_p126, pg_p127, pg_p128, pg_p129, pg_p130, pg_p131, pg_p132, pg_p133, pg_p134, pg_p135, pg_p136, pg_p137, pg_p138, pg_p139, pg_p140, pg_p141, pg_p142, pg_p143, pg_p144, pg_p145, pg_p146, pg_p147, pg_p148, pg_p149, pg_p150, pg_p151, pg_p152, pg_p153, pg_p154, pg_p155, pg_p156, pg_p157]
def pg_ws : List (List (List Nat)) := [pg_w0, pg_w1, pg_w2, pg_w3, pg_w4, pg_w5, pg_w6, pg_w7, pg_w8, pg_w9, pg_w10, pg_w11, pg_w12, pg_w13, pg_w14, pg_w15, pg_w16, pg_w17, pg_w18, pg_w19, pg_w20, pg_w21, pg_w22, pg_w23, pg_w24, pg_w25, pg_w26, pg_w27, pg_w28, pg_w29, pg_w30, pg_w31, pg_w32, pg_w33, pg_w34, pg_w35, pg_w36, pg_w37, pg_w38, pg_w39, pg_w40, pg_w41, pg_w42, pg_w43, pg_w44, pg_w45, pg_w46, pg_w47, pg_w48, pg_w49, pg_w50, pg_w51, pg_w52, pg_w53, pg_w54, pg_w55, pg_w56, pg_w57, pg_w58, pg_w59, pg_w60, pg_w61, pg_w62, pg_w63, pg_w64, pg_w65, pg_w66, pg_w67, pg_w68, pg_w69, pg_w70, pg_w71, pg_w72, pg_w73, pg_w74, pg_w75, pg_w76, pg_w77, pg_w78, pg_w79, pg_w80, pg_w81, pg_w82, pg_w83, pg_w84, pg_w85, pg_w86, pg_w87, pg_w88, pg_w89, pg_w90, pg_w91, pg_w92, pg_w93, pg_w94, pg_w95, pg_w96, pg_w97, pg_w98, pg_w99, pg_w100, pg_w101, pg_w102, pg_w103, pg_w104, pg_w105, pg_w106, pg_w107, pg_w108, pg_w109, pg_w110, pg_w111, pg_w112, pg_w113, pg_w114, pg_w115, pg_w116, pg_w117, pg_w118, pg_w119, pg_w120, pg_w121, pg_w122, pg_w123, pg_w124, pg_w125, pg_w126, pg_w127, pg_w128, pg_w129, pg_w130, pg_w131, pg_w132, pg_w133, pg_w134, pg_w135, pg_w136, pg_w137, pg_w138, pg_w139, pg_w140, pg_w141, pg_w142, pg_w143, pg_w144, pg_w145, pg_w146, pg_w147, pg_w148, pg_w149, pg_w150, pg_w151, pg_w152, pg_w153, pg_w154, pg_w155, pg_w156, pg_w157]
/-- name, bytes, locals, answer, handlers as the words have them -/
abbrev PM : Type := MethodName × ByteArray × Nat × Option FieldType × List (Nat × Nat × Nat × Nat)
def pg_m0 : PM := (⟨"", "", ""⟩, ⟨#[]⟩, 0, none, [])
def pg_ms : List PM := [(yX0_init, cX0_init, 2, (none), []),
  (yX0_hasMatch, cX0_hasMatch, 2, (some .boolean), []),
  (yX0_hasRoom, cX0_hasRoom, 3, (some .boolean), []),
  (yX0_hasWrestler, cX0_hasWrestler, 3, (some .boolean), []),
  (yX0_hasTitle, cX0_hasTitle, 3, (some .boolean), []),
  (yX0_allMinutes, cX0_allMinutes, 3, (some .int), []),
  (yX0_winsOf, cX0_winsOf, 6, (some .int), []),
  (yX0_remove, cX0_remove, 4, (none), []),
  (yX1_init, cX1_init, 1, (none), []),
  (yX1_become, cX1_become, 6, (none), []),
  (yX1_winner, cX1_winner, 1, (some .int), []),
  (yX1_loser, cX1_loser, 1, (some .int), []),
  (yX2_init, cX2_init, 1, (none), []),
  (yX2_lookAt, cX2_lookAt, 6, (none), []),
  (yX2_lookAtSeat, cX2_lookAtSeat, 3, (none), []),
  (yX2_findBest, cX2_findBest, 1, (some .int), []),
  (yX2_fillFrom, cX2_fillFrom, 7, (none), []),
  (yX2_keepIfBetter, cX2_keepIfBetter, 3, (none), []),
  (yX2_isBarred, cX2_isBarred, 6, (some .boolean), []),
  (yX2_carryOut, cX2_carryOut, 5, (some .int), []),
  (yX2_tryAllWays, cX2_tryAllWays, 4, (some .int), []),
  (yX2_goToNextWay, cX2_goToNextWay, 2, (some .boolean), []),
  (yX2_sumOfWay, cX2_sumOfWay, 4, (some .int), []),
  (yX2_isAllowed, cX2_isAllowed, 5, (some .boolean), []),
  (yX3_init, cX3_init, 1, (none), []),
  (yX3_goTo, cX3_goTo, 3, (none), []),
  (yX4_init, cX4_init, 1, (none), []),
  (yX4_isHurtOn, cX4_isHurtOn, 2, (some .boolean), []),
  (yX4_isBarredFromLosing, cX4_isBarredFromLosing, 3, (some .boolean), []),
  (yX4_worthIn, cX4_worthIn, 2, (some .int), []),
  (yX4_addLove, cX4_addLove, 3, (none), []),
  (yX4_turn, cX4_turn, 4, (none), []),
  (yX5_init, cX5_init, 2, (none), []),
  (yX5_wrestler, cX5_wrestler, 5, (some .int), []),
  (yX5_title, cX5_title, 1, (some .int), []),
  (yX5_clause, cX5_clause, 6, (some .int), []),
  (yX5_protect, cX5_protect, 4, (some .int), []),
  (yX5_book, cX5_book, 12, (some .int), []),
  (yX5_strike, cX5_strike, 4, (some .int), []),
  (yX5_shoot, cX5_shoot, 4, (some .boolean), []),
  (yX5_hurt, cX5_hurt, 3, (some .int), []),
  (yX5_head, cX5_head, 3, (some .int), []),
  (yX5_mend, cX5_mend, 2, (some .int), []),
  (yX5_play, cX5_play, 4, (some .int), []),
  (yX5_promo, cX5_promo, 6, (some .int), []),
  (yX5_pass, cX5_pass, 3, (some .int), []),
  (yX5_day, cX5_day, 1, (some .int), []),
  (yX5_ofWrestler, cX5_ofWrestler, 4, (some .int), []),
  (yX5_love, cX5_love, 3, (some .int), []),
  (yX5_worth, cX5_worth, 3, (some .int), []),
  (yX5_ofCard, cX5_ofCard, 4, (some .int), []),
  (yX5_ofMatch, cX5_ofMatch, 6, (some .int), []),
  (yX5_lineage, cX5_lineage, 4, (some .int), []),
  (yX5_champion, cX5_champion, 2, (some .int), []),
  (yX5_beat, cX5_beat, 3, (some .int), []),
  (yX5_beatAnew, cX5_beatAnew, 6, (some .int), []),
  (yX5_gate, cX5_gate, 2, (some .int), []),
  (yX5_mending, cX5_mending, 1, (some .int), []),
  (yX5_mendingAnew, cX5_mendingAnew, 1, (some .int), []),
  (yX5_isWithin, cX5_isWithin, 3, (some .boolean), []),
  (yX5_isWrestler, cX5_isWrestler, 2, (some .boolean), []),
  (yX5_isTitle, cX5_isTitle, 2, (some .boolean), []),
  (yX5_isTown, cX5_isTown, 1, (some .boolean), []),
  (yX5_cardOf, cX5_cardOf, 2, (some (.object "KayfabeRing$Card")), []),
  (yX5_cardToBook, cX5_cardToBook, 2, (some (.object "KayfabeRing$Card")), []),
  (yX5_isAtStake, cX5_isAtStake, 5, (some .boolean), []),
  (yX5_injure, cX5_injure, 4, (some .int), []),
  (yX5_vacateTitlesOf, cX5_vacateTitlesOf, 3, (none), []),
  (yX5_hasHurtOnes, cX5_hasHurtOnes, 4, (some .boolean), []),
  (yX5_playMatch, cX5_playMatch, 6, (some .int), []),
  (yX5_decide, cX5_decide, 6, (none), []),
  (yX5_handOver, cX5_handOver, 3, (none), []),
  (yX5_mendersView, cX5_mendersView, 2, (some (.object "KayfabeRing$Mender")), []),
  (yX6_init, cX6_init, 1, (none), []),
  (yX6_thrown, cX6_thrown, 1, (some .int), []),
  (yX6_in, cX6_in, 3, (some .boolean), []),
  (yX6_goes, cX6_goes, 4, (some .boolean), []),
  (yX6_isTown, cX6_isTown, 1, (some .boolean), []),
  (yX6_isOne, cX6_isOne, 2, (some .boolean), []),
  (yX6_isTitle, cX6_isTitle, 2, (some .boolean), []),
  (yX6_isMatch, cX6_isMatch, 3, (some .boolean), []),
  (yX6_of, cX6_of, 4, (some .int), []),
  (yX6_isHurt, cX6_isHurt, 3, (some .boolean), []),
  (yX6_wrestler, cX6_wrestler, 4, (some .int), []),
  (yX6_title, cX6_title, 1, (some .int), []),
  (yX6_clause, cX6_clause, 5, (some .int), []),
  (yX6_protect, cX6_protect, 4, (some .int), []),
  (yX6_isBarred, cX6_isBarred, 4, (some .boolean), []),
  (yX6_championOf, cX6_championOf, 2, (some .int), []),
  (yX6_crowns, cX6_crowns, 3, (none), []),
  (yX6_isOnCard, cX6_isOnCard, 5, (some .boolean), []),
  (yX6_minutesOf, cX6_minutesOf, 4, (some .int), []),
  (yX6_fits, cX6_fits, 9, (some .boolean), []),
  (yX6_book, cX6_book, 12, (some .int), []),
  (yX6_strikes, cX6_strikes, 4, (none), []),
  (yX6_strike, cX6_strike, 4, (some .int), []),
  (yX6_shoot, cX6_shoot, 4, (some .boolean), []),
  (yX6_hurts, cX6_hurts, 4, (some .int), []),
  (yX6_hurt, cX6_hurt, 3, (some .int), []),
  (yX6_head, cX6_head, 2, (some .int), []),
  (yX6_finds, cX6_finds, 2, (some .int), []),
  (yX6_wouldBe, cX6_wouldBe, 5, (some .int), []),
  (yX6_sumOf, cX6_sumOf, 10, (some .int), []),
  (yX6_mends, cX6_mends, 7, (some .int), []),
  (yX6_isMendable, cX6_isMendable, 1, (some .boolean), []),
  (yX6_mend, cX6_mend, 4, (some .int), []),
  (yX6_mending, cX6_mending, 1, (some .int), []),
  (yX6_mendingAnew, cX6_mendingAnew, 1, (some .int), []),
  (yX6_loves, cX6_loves, 5, (none), []),
  (yX6_turns, cX6_turns, 5, (none), []),
  (yX6_worthOf, cX6_worthOf, 5, (some .int), []),
  (yX6_wins, cX6_wins, 4, (none), []),
  (yX6_playsMatch, cX6_playsMatch, 11, (some .int), []),
  (yX6_play, cX6_play, 4, (some .int), []),
  (yX6_promo, cX6_promo, 6, (some .int), []),
  (yX6_pass, cX6_pass, 2, (some .int), []),
  (yX6_day, cX6_day, 1, (some .int), []),
  (yX6_wonOf, cX6_wonOf, 4, (some .int), []),
  (yX6_ofWrestler, cX6_ofWrestler, 3, (some .int), []),
  (yX6_love, cX6_love, 3, (some .int), []),
  (yX6_worth, cX6_worth, 3, (some .int), []),
  (yX6_ofCard, cX6_ofCard, 3, (some .int), []),
  (yX6_ofMatch, cX6_ofMatch, 5, (some .int), []),
  (yX6_lineage, cX6_lineage, 5, (some .int), []),
  (yX6_champion, cX6_champion, 2, (some .int), []),
  (yX6_beat, cX6_beat, 3, (some .int), []),
  (yX6_beatAnew, cX6_beatAnew, 3, (some .int), []),
  (yX6_gate, cX6_gate, 2, (some .int), []),
  (yJ9_abs_0f7a4, cJ9_abs_0f7a4, 1, (some .int), []),
  (yJ9_max_7cf53, cJ9_max_7cf53, 2, (some .int), []),
  (yJ9_min_7cf53, cJ9_min_7cf53, 2, (some .int), []),
  (yJ7_fill_53178, cJ7_fill_53178, 4, (none), []),
  (yL_wrestler, cL_wrestler, 6, (some .int), [(0, 12, 15, 13), (0, 12, 19, 15)]),
  (yL_title, cL_title, 3, (some .int), [(0, 8, 11, 15)]),
  (yL_clause, cL_clause, 6, (some .int), [(0, 12, 15, 24), (0, 12, 19, 13)]),
  (yL_protect, cL_protect, 5, (some .int), [(0, 10, 13, 24), (0, 10, 17, 13)]),
  (yL_book, cL_book, 10, (some .int), [(0, 20, 23, 24), (0, 20, 27, 13), (0, 20, 31, 15)]),
  (yL_strike, cL_strike, 5, (some .int), [(0, 10, 13, 24), (0, 10, 17, 15)]),
  (yL_shoot, cL_shoot, 4, (some .int), [(0, 16, 19, 24), (0, 16, 22, 15)]),
  (yL_hurt, cL_hurt, 5, (some .int), [(0, 10, 13, 24), (0, 10, 17, 13)]),
  (yL_head, cL_head, 4, (some .int), [(0, 9, 12, 24)]),
  (yL_mend, cL_mend, 3, (some .int), [(0, 8, 11, 15)]),
  (yL_play, cL_play, 3, (some .int), [(0, 8, 11, 15)]),
  (yL_promo, cL_promo, 6, (some .int), [(0, 12, 15, 24), (0, 12, 19, 13), (0, 12, 23, 15)]),
  (yL_pass, cL_pass, 3, (some .int), [(0, 8, 11, 15)]),
  (yL_ofWrestler, cL_ofWrestler, 5, (some .int), [(0, 10, 13, 24), (0, 10, 17, 13)]),
  (yL_love, cL_love, 5, (some .int), [(0, 10, 13, 24)]),
  (yL_worth, cL_worth, 5, (some .int), [(0, 10, 13, 24)]),
  (yL_ofCard, cL_ofCard, 5, (some .int), [(0, 10, 13, 13)]),
  (yL_ofMatch, cL_ofMatch, 6, (some .int), [(0, 12, 15, 24), (0, 12, 19, 13)]),
  (yL_lineage, cL_lineage, 6, (some .int), [(0, 12, 15, 24)]),
  (yL_champion, cL_champion, 4, (some .int), [(0, 9, 12, 24)]),
  (yL_beat, cL_beat, 5, (some .int), [(0, 10, 13, 24)]),
  (yL_beatAnew, cL_beatAnew, 5, (some .int), [(0, 10, 13, 24)]),
  (yL_gate, cL_gate, 4, (some .int), [(0, 9, 12, 24)]),
  (yL_mending, cL_mending, 3, (some .int), [(0, 8, 11, 15)]),
  (yL_mendingAnew, cL_mendingAnew, 3, (some .int), [(0, 8, 11, 15)]),
  (yL_law, cL_law, 7, (some .boolean), [])]
/-- is it static, how many arguments (this too), its class in vwCl, places of its words: code, static or instanceMethod, initialized, selects -/
abbrev PQ : Type := Bool × Nat × Nat × Nat × Nat × Nat × Nat
def pg_q0 : PQ := (true, 0, 99, 0, 0, 0, 0)
def pg_qs : List PQ := [(false, 1, 0, 77, 76, 46, 9999), (false, 2, 0, 516, 514, 46, 515), (false, 3, 0, 471, 469, 46, 470), (false, 2, 0, 479, 477, 46, 478), (false, 2, 0, 483, 481, 46, 482), (false, 1, 0, 475, 473, 46, 474), (false, 3, 0, 745, 743, 46, 744), (false, 2, 0, 522, 520, 46, 521), (false, 1, 1, 84, 83, 47, 9999), (false, 6, 1, 505, 503, 47, 504), (false, 1, 1, 635, 633, 47, 634), (false, 1, 1, 639, 637, 47, 638), (false, 1, 2, 142, 141, 48, 9999), (false, 5, 2, 575, 573, 48, 574), (false, 3, 2, 579, 578, 48, 9), (false, 1, 2, 594, 592, 48, 593), (true, 3, 2, 597, 596, 48, 9999), (false, 2, 2, 601, 600, 48, 10), (false, 2, 2, 605, 604, 48, 11), (false, 1, 2, 610, 608, 48, 609), (false, 1, 2, 773, 771, 48, 772), (false, 1, 2, 788, 787, 48, 18), (false, 1, 2, 779, 778, 48, 16), (false, 2, 2, 783, 782, 48, 17), (false, 1, 3, 256, 255, 51, 9999), (false, 3, 3, 552, 550, 51, 551), (false, 1, 4, 196, 195, 49, 9999), (false, 2, 4, 488, 486, 49, 487), (false, 3, 4, 496, 494, 49, 495), (false, 2, 4, 585, 583, 49, 584), (false, 3, 4, 647, 645, 49, 646), (false, 1, 4, 656, 654, 49, 655), (false, 1, 5, 64, 63, 45, 9999), (false, 4, 5, 315, 313, 45, 314), (false, 1, 5, 409, 407, 45, 408), (false, 4, 5, 418, 416, 45, 417), (false, 3, 5, 446, 444, 45, 445), (false, 8, 5, 454, 452, 45, 453), (false, 3, 5, 512, 510, 45, 511), (false, 2, 5, 529, 527, 45, 528), (false, 3, 5, 536, 534, 45, 535), (false, 2, 5, 559, 557, 45, 558), (false, 1, 5, 566, 564, 45, 565), (false, 1, 5, 621, 619, 45, 620), (false, 4, 5, 663, 661, 45, 662), (false, 1, 5, 673, 671, 45, 672), (false, 1, 5, 306, 304, 45, 305), (false, 3, 5, 681, 679, 45, 680), (false, 3, 5, 689, 687, 45, 688), (false, 3, 5, 696, 694, 45, 695), (false, 3, 5, 703, 701, 45, 702), (false, 4, 5, 711, 709, 45, 710), (false, 4, 5, 718, 716, 45, 717), (false, 2, 5, 726, 724, 45, 725), (false, 3, 5, 734, 732, 45, 733), (false, 3, 5, 741, 739, 45, 740), (false, 2, 5, 754, 752, 45, 753), (false, 1, 5, 762, 760, 45, 761), (false, 1, 5, 769, 767, 45, 768), (true, 3, 5, 318, 317, 45, 9999), (false, 2, 5, 422, 421, 45, 1), (false, 2, 5, 461, 460, 45, 2), (true, 1, 5, 457, 456, 45, 9999), (false, 2, 5, 467, 466, 45, 3), (false, 2, 5, 501, 500, 45, 5), (false, 4, 5, 492, 491, 45, 4), (false, 3, 5, 541, 540, 45, 6), (false, 2, 5, 548, 547, 45, 7), (false, 2, 5, 625, 624, 45, 12), (false, 3, 5, 630, 629, 45, 13), (false, 4, 5, 643, 642, 45, 14), (false, 2, 5, 652, 651, 45, 15), (false, 1, 5, 570, 569, 45, 8), (false, 1, 6, 793, 792, 52, 9999), (false, 1, 6, 887, 885, 52, 886), (true, 3, 6, 894, 893, 52, 9999), (false, 4, 6, 898, 897, 52, 19), (true, 1, 6, 921, 920, 52, 9999), (false, 2, 6, 910, 909, 52, 20), (false, 2, 6, 925, 924, 52, 21), (false, 3, 6, 961, 960, 52, 29), (false, 4, 6, 937, 936, 52, 24), (false, 3, 6, 949, 948, 52, 27), (false, 4, 6, 891, 889, 52, 890), (false, 1, 6, 902, 900, 52, 901), (false, 4, 6, 906, 904, 52, 905), (false, 3, 6, 914, 912, 52, 913), (false, 4, 6, 953, 952, 52, 28), (false, 2, 6, 941, 940, 52, 25), (false, 3, 6, 981, 980, 52, 32), (false, 3, 6, 945, 944, 52, 26), (false, 2, 6, 933, 932, 52, 23), (false, 7, 6, 929, 928, 52, 22), (false, 8, 6, 918, 916, 52, 917), (false, 3, 6, 965, 964, 52, 30), (false, 3, 6, 957, 955, 52, 956), (false, 2, 6, 969, 967, 52, 968), (false, 3, 6, 977, 976, 52, 31), (false, 3, 6, 973, 971, 52, 972), (false, 2, 6, 985, 983, 52, 984), (false, 1, 6, 997, 996, 52, 34), (false, 3, 6, 1009, 1008, 52, 37), (false, 1, 6, 1005, 1004, 52, 36), (false, 1, 6, 1001, 1000, 52, 35), (false, 1, 6, 993, 992, 52, 33), (false, 1, 6, 989, 987, 52, 988), (false, 1, 6, 1017, 1015, 52, 1016), (false, 1, 6, 1021, 1019, 52, 1020), (false, 4, 6, 1038, 1037, 52, 41), (false, 2, 6, 1042, 1041, 52, 42), (false, 3, 6, 1013, 1012, 52, 38), (false, 4, 6, 1034, 1033, 52, 40), (false, 2, 6, 1030, 1029, 52, 39), (false, 1, 6, 1026, 1024, 52, 1025), (false, 4, 6, 1046, 1044, 52, 1045), (false, 1, 6, 1050, 1048, 52, 1049), (false, 1, 6, 1054, 1052, 52, 1053), (false, 2, 6, 1062, 1061, 52, 43), (false, 3, 6, 1058, 1056, 52, 1057), (false, 3, 6, 1066, 1064, 52, 1065), (false, 3, 6, 1070, 1068, 52, 1069), (false, 3, 6, 1074, 1072, 52, 1073), (false, 4, 6, 1078, 1076, 52, 1077), (false, 4, 6, 1082, 1080, 52, 1081), (false, 2, 6, 1086, 1084, 52, 1085), (false, 3, 6, 1090, 1088, 52, 1089), (false, 3, 6, 1094, 1092, 52, 1093), (false, 2, 6, 1099, 1097, 52, 1098), (true, 1, 99, 588, 587, 59, 9999), (true, 2, 99, 544, 543, 59, 9999), (true, 2, 99, 613, 612, 59, 9999), (true, 2, 99, 200, 199, 50, 9999), (true, 5, 99, 309, 308, 44, 9999), (true, 2, 99, 405, 404, 44, 9999), (true, 5, 99, 413, 412, 44, 9999), (true, 4, 99, 442, 441, 44, 9999), (true, 9, 99, 450, 449, 44, 9999), (true, 4, 99, 508, 507, 44, 9999), (true, 3, 99, 525, 524, 44, 9999), (true, 4, 99, 532, 531, 44, 9999), (true, 3, 99, 555, 554, 44, 9999), (true, 2, 99, 562, 561, 44, 9999), (true, 2, 99, 617, 616, 44, 9999), (true, 5, 99, 659, 658, 44, 9999), (true, 2, 99, 669, 668, 44, 9999), (true, 4, 99, 677, 676, 44, 9999), (true, 4, 99, 685, 684, 44, 9999), (true, 4, 99, 692, 691, 44, 9999), (true, 4, 99, 699, 698, 44, 9999), (true, 5, 99, 707, 706, 44, 9999), (true, 5, 99, 714, 713, 44, 9999), (true, 3, 99, 722, 721, 44, 9999), (true, 4, 99, 730, 729, 44, 9999), (true, 4, 99, 737, 736, 44, 9999), (true, 3, 99, 750, 749, 44, 9999), (true, 2, 99, 758, 757, 44, 9999), (true, 2, 99, 765, 764, 44, 9999), (true, 1, 99, 0, 0, 44, 9999)]
/-- handlers: from, to, the instruction by number, the exception by number, its pc, its class link, the place of that word -/
def pg_hs : List (List (Nat × Nat × Nat × Nat × Nat × Nat × Nat)) := [[], [], [], [], [], [], [], [], [], [], [], [], [], [], [], [], [], [], [], [], [], [], [], [], [], [], [], [], [], [], [], [], [], [], [], [], [], [], [], [], [], [], [], [], [], [], [], [], [], [], [], [], [], [], [], [], [], [], [], [], [], [], [], [], [], [], [], [], [], [], [], [], [], [], [], [], [], [], [], [], [], [], [], [], [], [], [], [], [], [], [], [], [], [], [], [], [], [], [], [], [], [], [], [], [], [], [], [], [], [], [], [], [], [], [], [], [], [], [], [], [], [], [], [], [], [], [], [], [], [], [], [], [(0, 12, 10, 1, 15, 13, 310), (0, 12, 13, 2, 19, 15, 311)], [(0, 8, 7, 2, 11, 15, 311)], [(0, 12, 10, 3, 15, 24, 414), (0, 12, 13, 1, 19, 13, 310)], [(0, 10, 9, 3, 13, 24, 414), (0, 10, 12, 1, 17, 13, 310)], [(0, 20, 14, 3, 23, 24, 414), (0, 20, 17, 1, 27, 13, 310), (0, 20, 20, 2, 31, 15, 311)], [(0, 10, 9, 3, 13, 24, 414), (0, 10, 12, 2, 17, 15, 311)], [(0, 16, 11, 3, 19, 24, 414), (0, 16, 14, 2, 22, 15, 311)], [(0, 10, 9, 3, 13, 24, 414), (0, 10, 12, 1, 17, 13, 310)], [(0, 9, 8, 3, 12, 24, 414)], [(0, 8, 7, 2, 11, 15, 311)], [(0, 8, 7, 2, 11, 15, 311)], [(0, 12, 10, 3, 15, 24, 414), (0, 12, 13, 1, 19, 13, 310), (0, 12, 16, 2, 23, 15, 311)], [(0, 8, 7, 2, 11, 15, 311)], [(0, 10, 9, 3, 13, 24, 414), (0, 10, 12, 1, 17, 13, 310)], [(0, 10, 9, 3, 13, 24, 414)], [(0, 10, 9, 3, 13, 24, 414)], [(0, 10, 9, 1, 13, 13, 310)], [(0, 12, 10, 3, 15, 24, 414), (0, 12, 13, 1, 19, 13, 310)], [(0, 12, 10, 3, 15, 24, 414)], [(0, 9, 8, 3, 12, 24, 414)], [(0, 10, 9, 3, 13, 24, 414)], [(0, 10, 9, 3, 13, 24, 414)], [(0, 9, 8, 3, 12, 24, 414)], [(0, 8, 7, 2, 11, 15, 311)], [(0, 8, 7, 2, 11, 15, 311)], []]
def pg_sw : List (Int × Int × Nat × List Nat) := [(0, 6, 44, [16, 19, 22, 32, 35, 38, 41]), (0, 3, 37, [16, 24, 27, 30]), (0, 5, 50, [20, 23, 26, 37, 40, 43]), (0, 5, 52, [15, 20, 25, 38, 43, 47]), (0, 25, 1116, [25, 80, 105, 160, 205, 308, 353, 391, 436, 471, 496, 521, 576, 601, 608, 653, 698, 743, 788, 843, 906, 941, 986, 1031, 1066, 1091])]
def pg_st : List (String × Nat × String) := [("KayfabeRing", 51, "skill, mic or role is out of range"), ("KayfabeRing", 62, "the roster is full"), ("KayfabeRing", 77, "there are all titles"), ("KayfabeRing", 85, "no such wrestler"), ("KayfabeRing", 88, "both are the same, or until is out of range"), ("KayfabeRing", 93, "day is out of range"), ("KayfabeRing", 104, "no such town, wrestler or title"), ("KayfabeRing", 109, "day or minutes is out of range, or both are the same"), ("KayfabeRing", 125, "the card can't take this match"), ("KayfabeRing", 136, "one is hurt or barred, or the champion is neither"), ("KayfabeRing", 160, "no such match"), ("KayfabeRing", 166, "the card is played"), ("KayfabeRing", 175, "days is out of range"), ("KayfabeRing", 199, "there is no card, it is played, or somebody on it is hurt"), ("KayfabeRing", 205, "no such town or wrestler"), ("KayfabeRing", 207, "slips is out of range"), ("KayfabeRing", 212, "that one is hurt, or said a promo today"), ("KayfabeRing", 229, "it is the last day"), ("KayfabeRing", 246, "what is out of range"), ("KayfabeRing", 273, "no such title, or not so much in its lineage"), ("KayfabeRing", 281, "no such title"), ("KayfabeRing", 292, "no such town"), ("KayfabeRing", 314, "there is no card, or it is played"), ("KayfabeRing", 323, "too many places are open")]
def pg_ex (e : Nat) : String := match e with
  | 1 => "java/lang/IllegalArgumentException"
  | 2 => "java/lang/IllegalStateException"
  | _ => "java/lang/IndexOutOfBoundsException"
def pg_nm (y : Nat) : MethodName := (pg_ms.getD y pg_m0).1
def pg_by (y : Nat) : ByteArray := (pg_ms.getD y pg_m0).2.1
def pg_ml (y : Nat) : Nat := (pg_ms.getD y pg_m0).2.2.1
def pg_rt (y : Nat) : Option FieldType := (pg_ms.getD y pg_m0).2.2.2.1
def pg_hh (y : Nat) : List (Nat × Nat × Nat × Nat) := (pg_ms.getD y pg_m0).2.2.2.2
def pg_hx (y : Nat) : List (Nat × Nat × Nat × Nat × Nat × Nat × Nat) := pg_hs.getD y []
def pg_sta (y : Nat) : Bool := (pg_qs.getD y pg_q0).1
def pg_na (y : Nat) : Nat := (pg_qs.getD y pg_q0).2.1
def pg_cl (y : Nat) : Nat := (pg_qs.getD y pg_q0).2.2.1
def pg_at (y i : Nat) : Option RI := (pg_cs.getD y [])[i]?
def pg_pc (y i : Nat) : Nat := (pg_ps.getD y []).getD i 0
def pg_wd (y i : Nat) : List Nat := (pg_ws.getD y []).getD i []
def pg_cstL : List Nat := [49, 0, 0, 0, 0, 0, 0, 0, 0, 0, 0, 0, 140, 0, 0, 0, 0, 0, 0, 0, 0, 0, 0, 0, 1026, 0, 27, 0, 0, 0, 0, 0, 6000, 7, 7, 7, 7, 61, 7, 7, 7, 7, 7, 7, 7, 7, 0, 7, 7, 7, 7, 7, 7, 7, 7, 7, 7, 7, 7, 0, 0, 0, 0, 0, 54, 0, 0, 0, 0, 0, 0, 0, 7, 60000, 0, 0, 0, 0, 0, 0, 0, 0, 0, 0, 0, 0, 0, 0, 0, 0, 0, 0, 0, 0, 0, 0, 0, 0, 0, 0, 0, 0, 0, 0, 0, 0, 0, 0, 0, 0, 0, 0, 0, 0, 0, 0, 0, 0, 0, 0, 0, 0, 0, 0, 0, 0, 0, 0, 0, 0, 0, 0, 7, 7, 7, 7, 61, 7, 7, 7, 7, 7, 7, 7, 7, 7, 7, 7, 7, 7, 7, 7, 7, 7, 7, 7, 7, 601000]
def pg_cst (y : Nat) : Nat := pg_cstL.getD y 0
abbrev N_X0_init : Nat := 0
abbrev N_X0_hasMatch : Nat := 1
abbrev N_X0_hasRoom : Nat := 2
abbrev N_X0_hasWrestler : Nat := 3
abbrev N_X0_hasTitle : Nat := 4
abbrev N_X0_allMinutes : Nat := 5
abbrev N_X0_winsOf : Nat := 6
abbrev N_X0_remove : Nat := 7
abbrev N_X1_init : Nat := 8
abbrev N_X1_become : Nat := 9
abbrev N_X1_winner : Nat := 10
abbrev N_X1_loser : Nat := 11
abbrev N_X2_init : Nat := 12
abbrev N_X2_lookAt : Nat := 13
abbrev N_X2_lookAtSeat : Nat := 14
abbrev N_X2_findBest : Nat := 15
abbrev N_X2_fillFrom : Nat := 16
abbrev N_X2_keepIfBetter : Nat := 17
abbrev N_X2_isBarred : Nat := 18
abbrev N_X2_carryOut : Nat := 19
abbrev N_X2_tryAllWays : Nat := 20
abbrev N_X2_goToNextWay : Nat := 21
abbrev N_X2_sumOfWay : Nat := 22
abbrev N_X2_isAllowed : Nat := 23
abbrev N_X3_init : Nat := 24
abbrev N_X3_goTo : Nat := 25
abbrev N_X4_init : Nat := 26
abbrev N_X4_isHurtOn : Nat := 27
abbrev N_X4_isBarredFromLosing : Nat := 28
abbrev N_X4_worthIn : Nat := 29
abbrev N_X4_addLove : Nat := 30
abbrev N_X4_turn : Nat := 31
abbrev N_X5_init : Nat := 32
abbrev N_X5_wrestler : Nat := 33
abbrev N_X5_title : Nat := 34
abbrev N_X5_clause : Nat := 35
abbrev N_X5_protect : Nat := 36
abbrev N_X5_book : Nat := 37
abbrev N_X5_strike : Nat := 38
abbrev N_X5_shoot : Nat := 39
abbrev N_X5_hurt : Nat := 40
abbrev N_X5_head : Nat := 41
abbrev N_X5_mend : Nat := 42
abbrev N_X5_play : Nat := 43
abbrev N_X5_promo : Nat := 44
abbrev N_X5_pass : Nat := 45
abbrev N_X5_day : Nat := 46
abbrev N_X5_ofWrestler : Nat := 47
abbrev N_X5_love : Nat := 48
abbrev N_X5_worth : Nat := 49
abbrev N_X5_ofCard : Nat := 50
abbrev N_X5_ofMatch : Nat := 51
abbrev N_X5_lineage : Nat := 52
abbrev N_X5_champion : Nat := 53
abbrev N_X5_beat : Nat := 54
abbrev N_X5_beatAnew : Nat := 55
abbrev N_X5_gate : Nat := 56
abbrev N_X5_mending : Nat := 57
abbrev N_X5_mendingAnew : Nat := 58
abbrev N_X5_isWithin : Nat := 59
abbrev N_X5_isWrestler : Nat := 60
abbrev N_X5_isTitle : Nat := 61
abbrev N_X5_isTown : Nat := 62
abbrev N_X5_cardOf : Nat := 63
abbrev N_X5_cardToBook : Nat := 64
abbrev N_X5_isAtStake : Nat := 65
abbrev N_X5_injure : Nat := 66
abbrev N_X5_vacateTitlesOf : Nat := 67
abbrev N_X5_hasHurtOnes : Nat := 68
abbrev N_X5_playMatch : Nat := 69
abbrev N_X5_decide : Nat := 70
abbrev N_X5_handOver : Nat := 71
abbrev N_X5_mendersView : Nat := 72
abbrev N_X6_init : Nat := 73
abbrev N_X6_thrown : Nat := 74
abbrev N_X6_in : Nat := 75
abbrev N_X6_goes : Nat := 76
abbrev N_X6_isTown : Nat := 77
abbrev N_X6_isOne : Nat := 78
abbrev N_X6_isTitle : Nat := 79
abbrev N_X6_isMatch : Nat := 80
abbrev N_X6_of : Nat := 81
abbrev N_X6_isHurt : Nat := 82
abbrev N_X6_wrestler : Nat := 83
abbrev N_X6_title : Nat := 84
abbrev N_X6_clause : Nat := 85
abbrev N_X6_protect : Nat := 86
abbrev N_X6_isBarred : Nat := 87
abbrev N_X6_championOf : Nat := 88
abbrev N_X6_crowns : Nat := 89
abbrev N_X6_isOnCard : Nat := 90
abbrev N_X6_minutesOf : Nat := 91
abbrev N_X6_fits : Nat := 92
abbrev N_X6_book : Nat := 93
abbrev N_X6_strikes : Nat := 94
abbrev N_X6_strike : Nat := 95
abbrev N_X6_shoot : Nat := 96
abbrev N_X6_hurts : Nat := 97
abbrev N_X6_hurt : Nat := 98
abbrev N_X6_head : Nat := 99
abbrev N_X6_finds : Nat := 100
abbrev N_X6_wouldBe : Nat := 101
abbrev N_X6_sumOf : Nat := 102
abbrev N_X6_mends : Nat := 103
abbrev N_X6_isMendable : Nat := 104
abbrev N_X6_mend : Nat := 105
abbrev N_X6_mending : Nat := 106
abbrev N_X6_mendingAnew : Nat := 107
abbrev N_X6_loves : Nat := 108
abbrev N_X6_turns : Nat := 109
abbrev N_X6_worthOf : Nat := 110
abbrev N_X6_wins : Nat := 111
abbrev N_X6_playsMatch : Nat := 112
abbrev N_X6_play : Nat := 113
abbrev N_X6_promo : Nat := 114
abbrev N_X6_pass : Nat := 115
abbrev N_X6_day : Nat := 116
abbrev N_X6_wonOf : Nat := 117
abbrev N_X6_ofWrestler : Nat := 118
abbrev N_X6_love : Nat := 119
abbrev N_X6_worth : Nat := 120
abbrev N_X6_ofCard : Nat := 121
abbrev N_X6_ofMatch : Nat := 122
abbrev N_X6_lineage : Nat := 123
abbrev N_X6_champion : Nat := 124
abbrev N_X6_beat : Nat := 125
abbrev N_X6_beatAnew : Nat := 126
abbrev N_X6_gate : Nat := 127
abbrev N_J9_abs_0f7a4 : Nat := 128
abbrev N_J9_max_7cf53 : Nat := 129
abbrev N_J9_min_7cf53 : Nat := 130
abbrev N_J7_fill_53178 : Nat := 131
abbrev N_L_wrestler : Nat := 132
abbrev N_L_title : Nat := 133
abbrev N_L_clause : Nat := 134
abbrev N_L_protect : Nat := 135
abbrev N_L_book : Nat := 136
abbrev N_L_strike : Nat := 137
abbrev N_L_shoot : Nat := 138
abbrev N_L_hurt : Nat := 139
abbrev N_L_head : Nat := 140
abbrev N_L_mend : Nat := 141
abbrev N_L_play : Nat := 142
abbrev N_L_promo : Nat := 143
abbrev N_L_pass : Nat := 144
abbrev N_L_ofWrestler : Nat := 145
abbrev N_L_love : Nat := 146
abbrev N_L_worth : Nat := 147
abbrev N_L_ofCard : Nat := 148
abbrev N_L_ofMatch : Nat := 149
abbrev N_L_lineage : Nat := 150
abbrev N_L_champion : Nat := 151
abbrev N_L_beat : Nat := 152
abbrev N_L_beatAnew : Nat := 153
abbrev N_L_gate : Nat := 154
abbrev N_L_mending : Nat := 155
abbrev N_L_mendingAnew : Nat := 156
abbrev N_L_law : Nat := 157
end
section
/-! THE PURE MACHINE. A label names a cell (an object or a row); K: its kind and length; I: its numbers; R: its references. -/
abbrev Lb : Type := Nat × Nat × Nat
abbrev PV : Type := Int32 ⊕ (Int32 ⊕ (Option Lb ⊕ Unit))
abbrev pI (x : Int32) : PV := .inl x
abbrev pL (x : Int32) : PV := .inr (.inl x)
abbrev pR (r : Option Lb) : PV := .inr (.inr (.inl r))
abbrev pO : PV := .inr (.inr (.inr ()))
abbrev KM : Type := Lb → Option (Nat × Nat)
abbrev IM : Type := Lb → Nat → Int32
abbrev RM : Type := Lb → Nat → Option Lb
abbrev Res : Type := Option PV ⊕ Nat
abbrev QT : Type := Res → KM → IM → RM → Prop
abbrev XT : Type := Nat → Nat → Nat → Nat → List (Option PV) → List PV → KM → IM → RM → QT → Prop
def setK (K : KM) (L : Lb) (v : Nat × Nat) : KM := fun q => if q = L then some v else K q
def setI (I : IM) (L : Lb) (f : Nat → Int32) : IM := fun q => if q = L then f else I q
def setR (R : RM) (L : Lb) (f : Nat → Option Lb) : RM := fun q => if q = L then f else R q
abbrev up2 (I : IM) (L : Lb) (k : Nat) (x : Int32) : IM := setI I L (upd (I L) k x)
abbrev up2R (R : RM) (L : Lb) (k : Nat) (x : Option Lb) : RM := setR R L (va_up (R L) k x)
def cmpc (c : Nat) (x y : Int32) : Prop := match c with
  | 0 => x = y
  | 1 => ¬ x = y
  | 2 => x < y
  | 3 => y ≤ x
  | 4 => y < x
  | _ => x ≤ y
def isC1 (v : PV) : Prop := match v with
  | .inr (.inl _) => False
  | _ => True
/-- how many fields a class has; is a field a number; the class whose objects a row of references holds -/
def nfl (ci : Nat) : Nat := [4, 6, 14, 4, 14, 9, 29].getD ci 0
def elc (k : Nat) : Nat := match k with
  | 9 => 0
  | 10 => 1
  | 11 => 3
  | _ => 4
def entls (y : Nat) (as : List PV) : List (Option PV) := as.map some ++ List.replicate (pg_ml y - as.length) none
def hfind (y i e : Nat) : Option Nat := match (pg_hx y).find? (fun h => decide (h.1 ≤ pg_pc y i) && decide (pg_pc y i < h.2.1) && decide (h.2.2.2.1 = e)) with
  | some h => some h.2.2.1
  | none => none
def aft (X : XT) (d b y i : Nat) (ls : List (Option PV)) (rest : List PV) (Q : QT) : QT := fun r K I R => match r with
  | .inl none => X d b y (i + 1) ls rest K I R Q
  | .inl (some v) => X d b y (i + 1) ls (v :: rest) K I R Q
  | .inr e => match hfind y i e with
    | some h => X d b y h ls [pO] K I R Q
    | none => pg_hx y = [] ∧ Q (.inr e) K I R
def stA (X : XT) (op a c : Nat) (z : Int) (d b y i : Nat) (ls : List (Option PV)) (st : List PV) (K : KM) (I : IM) (R : RM) (Q : QT) : Prop := match op with
  | 0 => X d b y (i + 1) ls (pI (Int32.ofInt z) :: st) K I R Q
  | 1 => ∃ x, ls[a]? = some (some (pI x)) ∧ X d b y (i + 1) ls (pI x :: st) K I R Q
  | 2 => ∃ x r, st = pI x :: r ∧ a < ls.length ∧ X d b y (i + 1) (ls.set a (some (pI x))) r K I R Q
  | 3 => ∃ L, ls[a]? = some (some (pR (some L))) ∧ X d b y (i + 1) ls (pR (some L) :: st) K I R Q
  | 4 => ∃ v r, st = v :: r ∧ (v = pO ∨ ∃ L, v = pR (some L)) ∧ a < ls.length ∧ X d b y (i + 1) (ls.set a (some v)) r K I R Q
  | 5 => ∃ x, ls[a]? = some (some (pI x)) ∧ X d b y (i + 1) (ls.set a (some (pI (x + Int32.ofInt z)))) st K I R Q
  | 6 => ∃ u v r, st = pI v :: pI u :: r ∧ X d b y (i + 1) ls (pI (u + v) :: r) K I R Q
  | 7 => ∃ u v r, st = pI v :: pI u :: r ∧ X d b y (i + 1) ls (pI (u - v) :: r) K I R Q
  | 8 => ∃ u v r, st = pI v :: pI u :: r ∧ X d b y (i + 1) ls (pI (u * v) :: r) K I R Q
  | 9 => ∃ u v r, st = pI v :: pI u :: r ∧ ¬ v = 0 ∧ X d b y (i + 1) ls (pI (u / v) :: r) K I R Q
  | 10 => ∃ u v r, st = pI v :: pI u :: r ∧ ¬ v = 0 ∧ X d b y (i + 1) ls (pI (u - u / v * v) :: r) K I R Q
  | 11 => ∃ u r, st = pI u :: r ∧ X d b y (i + 1) ls (pI (-u) :: r) K I R Q
  | 12 => ∃ u v r, st = pI v :: pI u :: r ∧ X d b y (i + 1) ls (pI (u &&& v) :: r) K I R Q
  | 13 => ∃ v r, st = v :: r ∧ isC1 v ∧ X d b y (i + 1) ls (v :: v :: r) K I R Q
  | 14 => ∃ v w r, st = v :: w :: r ∧ isC1 v ∧ isC1 w ∧ X d b y (i + 1) ls (v :: w :: v :: w :: r) K I R Q
  | 15 => ∃ v r, st = v :: r ∧ isC1 v ∧ X d b y (i + 1) ls r K I R Q
  | 16 => X d b y a ls st K I R Q
  | 17 => ∃ x r, st = pI x :: r ∧ (cmpc c x 0 → X d b y a ls r K I R Q) ∧ (¬ cmpc c x 0 → X d b y (i + 1) ls r K I R Q)
  | 18 => ∃ u v r, st = pI v :: pI u :: r ∧ (cmpc c u v → X d b y a ls r K I R Q) ∧ (¬ cmpc c u v → X d b y (i + 1) ls r K I R Q)
  | 19 => ∃ q r, st = pR q :: r ∧ (¬ q = none → X d b y a ls r K I R Q) ∧ (q = none → X d b y (i + 1) ls r K I R Q)
  | 20 => ∃ x r, st = pI x :: r ∧ (∀ (k : Nat) (t : Nat), (pg_sw.getD a (0, 0, 0, [])).2.2.2[k]? = some t → x.toInt = (pg_sw.getD a (0, 0, 0, [])).1 + k → X d b y t ls r K I R Q) ∧ ((x.toInt < (pg_sw.getD a (0, 0, 0, [])).1 ∨ (pg_sw.getD a (0, 0, 0, [])).2.1 < x.toInt) → X d b y (pg_sw.getD a (0, 0, 0, [])).2.2.1 ls r K I R Q)
  | 21 => ∃ x r, st = pI x :: r ∧ X d b y (i + 1) ls (pL x :: r) K I R Q
  | 22 => ∃ u v r, st = pL v :: pL u :: r ∧ ∀ x : Int32, (x = 0 ↔ u = v) → X d b y (i + 1) ls (pI x :: r) K I R Q
  | 23 => (z = 0 ∨ z = 1) ∧ X d b y (i + 1) ls (pL (Int32.ofInt z) :: st) K I R Q
  | _ => False
def stB (X : XT) (op a c : Nat) (z : Int) (d b y i : Nat) (ls : List (Option PV)) (st : List PV) (K : KM) (I : IM) (R : RM) (Q : QT) : Prop := match op with
  | 24 => ∃ j L r n, st = pI j :: pR (some L) :: r ∧ K L = some (13, n) ∧ vp_in j n ∧ X d b y (i + 1) ls (pL (I L j.toNatClampNeg) :: r) K I R Q
  | 25 => ∃ x j L r n, st = pL x :: pI j :: pR (some L) :: r ∧ K L = some (13, n) ∧ vp_in j n ∧ X d b y (i + 1) ls r K (up2 I L j.toNatClampNeg x) R Q
  | 26 => ∃ L r n, st = pR (some L) :: r ∧ K L = some (14, n) ∧ X d b y (i + 1) ls (pI (Int32.ofNat n) :: r) K I R Q
  | 27 => ∃ j L r k n, st = pI j :: pR (some L) :: r ∧ K L = some (k, n) ∧ (k = 7 ∨ k = 14) ∧ vp_in j n ∧ X d b y (i + 1) ls (pI (I L j.toNatClampNeg) :: r) K I R Q
  | 28 => ∃ x j L r n, st = pI x :: pI j :: pR (some L) :: r ∧ K L = some (7, n) ∧ vp_in j n ∧ X d b y (i + 1) ls r K (up2 I L j.toNatClampNeg x) R Q
  | 29 => ∃ j L r n, st = pI j :: pR (some L) :: r ∧ K L = some (8, n) ∧ vp_in j n ∧ X d b y (i + 1) ls (pI (I L j.toNatClampNeg) :: r) K I R Q
  | 30 => ∃ x j L r n, st = pI x :: pI j :: pR (some L) :: r ∧ K L = some (8, n) ∧ vp_in j n ∧ (x = 0 ∨ x = 1) ∧ X d b y (i + 1) ls r K (up2 I L j.toNatClampNeg x) R Q
  | 31 => ∃ j L r k n, st = pI j :: pR (some L) :: r ∧ K L = some (k, n) ∧ (9 ≤ k ∧ k ≤ 12) ∧ vp_in j n ∧ X d b y (i + 1) ls (pR (R L j.toNatClampNeg) :: r) K I R Q
  | 32 => ∃ L' j L r k n n', st = pR (some L') :: pI j :: pR (some L) :: r ∧ K L = some (k, n) ∧ (9 ≤ k ∧ k ≤ 12) ∧ K L' = some (elc k, n') ∧ vp_in j n ∧ X d b y (i + 1) ls r K I (up2R R L j.toNatClampNeg (some L')) Q
  | 33 => ∃ L r n, st = pR (some L) :: r ∧ K L = some (a, n) ∧ X d b y (i + 1) ls (pI (I L c) :: r) K I R Q
  | 34 => ∃ L r n, st = pR (some L) :: r ∧ K L = some (a, n) ∧ X d b y (i + 1) ls (pR (R L c) :: r) K I R Q
  | 35 => ∃ x L r n, st = pI x :: pR (some L) :: r ∧ K L = some (a, n) ∧ X d b y (i + 1) ls r K (up2 I L c x) R Q
  | 36 => ∃ q L r n, st = pR (some q) :: pR (some L) :: r ∧ K L = some (a, n) ∧ X d b y (i + 1) ls r K I (up2R R L c (some q)) Q
  | 48 => ∃ L r n, st = pR (some L) :: r ∧ K L = some (a, n) ∧ X d b y (i + 1) ls (pI (I L c) :: r) K I R Q
  | 50 => ∃ x L r n, st = pI x :: pR (some L) :: r ∧ K L = some (a, n) ∧ (x = 0 ∨ x = 1) ∧ X d b y (i + 1) ls r K (up2 I L c x) R Q
  | _ => False
def stC (X : XT) (op a c : Nat) (_z : Int) (d b y i : Nat) (ls : List (Option PV)) (st : List PV) (K : KM) (I : IM) (R : RM) (Q : QT) : Prop := match op with
  | 37 => ∃ L b', K L = none ∧ b = b' + (1 + nfl a) ∧ X d b' y (i + 1) ls (pR (some L) :: st) (setK K L (a, 0)) (setI I L (fun _ => 0)) (setR R L (fun _ => none)) Q
  | 38 => ∃ L n r b', st = pI (Int32.ofNat n) :: r ∧ K L = none ∧ n < 1000000 ∧ b = b' + (1 + n) ∧ X d b' y (i + 1) ls (pR (some L) :: r) (setK K L (a, n)) (setI I L (fun _ => 0)) (setR R L (fun _ => none)) Q
  | 39 => ∃ L n r b', st = pI (Int32.ofNat n) :: r ∧ K L = none ∧ n < 1000000 ∧ b = b' + (1 + n) ∧ X d b' y (i + 1) ls (pR (some L) :: r) (setK K L (a, n)) (setI I L (fun _ => 0)) (setR R L (fun _ => none)) Q
  | 40 => ∃ as rest d' b' P, st = as.reverse ++ rest ∧ as.length = pg_na a ∧ (∀ v ∈ as, isC1 v) ∧ rest.length ≤ 4 ∧ d = d' + 1 ∧ b = b' + pg_cst a ∧ X d' (pg_cst a) a 0 (entls a as) [] K I R P ∧ ∀ r K' I' R', P r K' I' R' → aft X d b' y i ls rest Q r K' I' R'
  | 41 => ∃ L as rest d' b' n P, st = as.reverse ++ pR (some L) :: rest ∧ as.length + 1 = pg_na a ∧ (∀ v ∈ as, isC1 v) ∧ rest.length ≤ 4 ∧ K L = some (pg_cl a, n) ∧ d = d' + 1 ∧ b = b' + pg_cst a ∧ X d' (pg_cst a) a 0 (entls a (pR (some L) :: as)) [] K I R P ∧ ∀ r K' I' R', P r K' I' R' → aft X d b' y i ls rest Q r K' I' R'
  | 42 => ∃ L as rest d' b' n P, st = as.reverse ++ pR (some L) :: rest ∧ as.length + 1 = pg_na a ∧ (∀ v ∈ as, isC1 v) ∧ rest.length ≤ 4 ∧ K L = some (pg_cl a, n) ∧ d = d' + 1 ∧ b = b' + pg_cst a ∧ X d' (pg_cst a) a 0 (entls a (pR (some L) :: as)) [] K I R P ∧ ∀ r K' I' R', P r K' I' R' → (∃ v, r = .inl v) ∧ aft X d b' y i ls rest Q r K' I' R'
  | 43 => ∃ L r, st = pR (some L) :: r ∧ r.length ≤ 4 ∧ 1 ≤ d ∧ X d b y (i + 1) ls r K I R Q
  | 44 => st = [] ∧ pg_hx y = [] ∧ 6 ≤ d ∧ 7 ≤ b ∧ Q (.inr a) K I R
  | 45 => ∃ x, st = [pI x] ∧ (pg_rt y = some .boolean → x = 0 ∨ x = 1) ∧ Q (.inl (some (pI x))) K I R
  | 46 => ∃ L, st = [pR (some L)] ∧ Q (.inl (some (pR (some L)))) K I R
  | 47 => st = [] ∧ Q (.inl none) K I R
  | 51 => ∃ u v r, st = pI v :: pI u :: r ∧ r.length ≤ 4 ∧ 1 ≤ d ∧ X d b y (i + 1) ls (pI (if u < v then v else u) :: r) K I R Q
  | 52 => ∃ u v r, st = pI v :: pI u :: r ∧ r.length ≤ 4 ∧ 1 ≤ d ∧ X d b y (i + 1) ls (pI (if v < u then v else u) :: r) K I R Q
  | 53 => ∃ u r, st = pI u :: r ∧ r.length ≤ 4 ∧ 1 ≤ d ∧ X d b y (i + 1) ls (pI (if 0 ≤ u then u else 0 - u) :: r) K I R Q
  | _ => False
def Mst (X : XT) : XT := fun d b y i ls st K I R Q => ∃ op a c z, pg_at y i = some (op, a, c, z) ∧ (stA X op a c z d b y i ls st K I R Q ∨ stB X op a c z d b y i ls st K I R Q ∨ stC X op a c z d b y i ls st K I R Q)
/-- the least predicate that is closed under the steps -/
def Mw : XT := fun d b y i ls st K I R Q => ∀ X : XT, (∀ d b y i ls st K I R Q, Mst X d b y i ls st K I R Q → X d b y i ls st K I R Q) → X d b y i ls st K I R Q
theorem aft_mono {X Y : XT} (hm : ∀ d b y i ls st K I R Q, X d b y i ls st K I R Q → Y d b y i ls st K I R Q) {d b y i : Nat} {ls : List (Option PV)} {rest : List PV} {Q : QT} {r : Res} {K : KM} {I : IM} {R : RM} (h : aft X d b y i ls rest Q r K I R) : aft Y d b y i ls rest Q r K I R := by
  unfold aft at h ⊢
  match r, h with
  | .inl none, h => exact hm _ _ _ _ _ _ _ _ _ _ h
  | .inl (some v), h => exact hm _ _ _ _ _ _ _ _ _ _ h
  | .inr e, h =>
    dsimp only at h ⊢
    split
    · rename_i q hq
      rw [hq] at h
      exact hm _ _ _ _ _ _ _ _ _ _ h
    · rename_i hq
      rw [hq] at h
      exact h
set_option maxHeartbeats 4000000 in
theorem stA_mono {X Y : XT} (hm : ∀ d b y i ls st K I R Q, X d b y i ls st K I R Q → Y d b y i ls st K I R Q) {op a c : Nat} {z : Int} {d b y i : Nat} {ls : List (Option PV)} {st : List PV} {K : KM} {I : IM} {R : RM} {Q : QT} (h : stA X op a c z d b y i ls st K I R Q) : stA Y op a c z d b y i ls st K I R Q := by
  unfold stA at h ⊢
  split at h
  · exact hm _ _ _ _ _ _ _ _ _ _ h
  · obtain ⟨x, e1, h⟩ := h
    exact ⟨x, e1, hm _ _ _ _ _ _ _ _ _ _ h⟩
  · obtain ⟨x, r, e1, e2, h⟩ := h
    exact ⟨x, r, e1, e2, hm _ _ _ _ _ _ _ _ _ _ h⟩
  · obtain ⟨L, e1, h⟩ := h
    exact ⟨L, e1, hm _ _ _ _ _ _ _ _ _ _ h⟩
  · obtain ⟨v, r, e1, e2, e3, h⟩ := h
    exact ⟨v, r, e1, e2, e3, hm _ _ _ _ _ _ _ _ _ _ h⟩
  · obtain ⟨x, e1, h⟩ := h
    exact ⟨x, e1, hm _ _ _ _ _ _ _ _ _ _ h⟩
  · obtain ⟨u, v, r, e1, h⟩ := h
    exact ⟨u, v, r, e1, hm _ _ _ _ _ _ _ _ _ _ h⟩
  · obtain ⟨u, v, r, e1, h⟩ := h
    exact ⟨u, v, r, e1, hm _ _ _ _ _ _ _ _ _ _ h⟩
  · obtain ⟨u, v, r, e1, h⟩ := h
    exact ⟨u, v, r, e1, hm _ _ _ _ _ _ _ _ _ _ h⟩
  · obtain ⟨u, v, r, e1, e2, h⟩ := h
    exact ⟨u, v, r, e1, e2, hm _ _ _ _ _ _ _ _ _ _ h⟩
  · obtain ⟨u, v, r, e1, e2, h⟩ := h
    exact ⟨u, v, r, e1, e2, hm _ _ _ _ _ _ _ _ _ _ h⟩
  · obtain ⟨u, r, e1, h⟩ := h
    exact ⟨u, r, e1, hm _ _ _ _ _ _ _ _ _ _ h⟩
  · obtain ⟨u, v, r, e1, h⟩ := h
    exact ⟨u, v, r, e1, hm _ _ _ _ _ _ _ _ _ _ h⟩
  · obtain ⟨v, r, e1, e2, h⟩ := h
    exact ⟨v, r, e1, e2, hm _ _ _ _ _ _ _ _ _ _ h⟩
  · obtain ⟨v, w, r, e1, e2, e3, h⟩ := h
    exact ⟨v, w, r, e1, e2, e3, hm _ _ _ _ _ _ _ _ _ _ h⟩
  · obtain ⟨v, r, e1, e2, h⟩ := h
    exact ⟨v, r, e1, e2, hm _ _ _ _ _ _ _ _ _ _ h⟩
  · exact hm _ _ _ _ _ _ _ _ _ _ h
  · obtain ⟨x, r, e1, h1, h2⟩ := h
    exact ⟨x, r, e1, fun e => hm _ _ _ _ _ _ _ _ _ _ (h1 e), fun e => hm _ _ _ _ _ _ _ _ _ _ (h2 e)⟩
  · obtain ⟨u, v, r, e1, h1, h2⟩ := h
    exact ⟨u, v, r, e1, fun e => hm _ _ _ _ _ _ _ _ _ _ (h1 e), fun e => hm _ _ _ _ _ _ _ _ _ _ (h2 e)⟩
  · obtain ⟨q, r, e1, h1, h2⟩ := h
    exact ⟨q, r, e1, fun e => hm _ _ _ _ _ _ _ _ _ _ (h1 e), fun e => hm _ _ _ _ _ _ _ _ _ _ (h2 e)⟩
  · obtain ⟨x, r, e1, h1, h2⟩ := h
    exact ⟨x, r, e1, fun k t e e9 => hm _ _ _ _ _ _ _ _ _ _ (h1 k t e e9), fun e => hm _ _ _ _ _ _ _ _ _ _ (h2 e)⟩
  · obtain ⟨x, r, e1, h⟩ := h
    exact ⟨x, r, e1, hm _ _ _ _ _ _ _ _ _ _ h⟩
  · obtain ⟨u, v, r, e1, h1⟩ := h
    exact ⟨u, v, r, e1, fun x e => hm _ _ _ _ _ _ _ _ _ _ (h1 x e)⟩
  · obtain ⟨e1, h⟩ := h
    exact ⟨e1, hm _ _ _ _ _ _ _ _ _ _ h⟩
  · exact h.elim
set_option maxHeartbeats 4000000 in
theorem stB_mono {X Y : XT} (hm : ∀ d b y i ls st K I R Q, X d b y i ls st K I R Q → Y d b y i ls st K I R Q) {op a c : Nat} {z : Int} {d b y i : Nat} {ls : List (Option PV)} {st : List PV} {K : KM} {I : IM} {R : RM} {Q : QT} (h : stB X op a c z d b y i ls st K I R Q) : stB Y op a c z d b y i ls st K I R Q := by
  unfold stB at h ⊢
  split at h
  · obtain ⟨j, L, r, n, e1, e2, e3, h⟩ := h
    exact ⟨j, L, r, n, e1, e2, e3, hm _ _ _ _ _ _ _ _ _ _ h⟩
  · obtain ⟨x, j, L, r, n, e1, e2, e3, h⟩ := h
    exact ⟨x, j, L, r, n, e1, e2, e3, hm _ _ _ _ _ _ _ _ _ _ h⟩
  · obtain ⟨L, r, n, e1, e2, h⟩ := h
    exact ⟨L, r, n, e1, e2, hm _ _ _ _ _ _ _ _ _ _ h⟩
  · obtain ⟨j, L, r, k, n, e1, e2, e3, e4, h⟩ := h
    exact ⟨j, L, r, k, n, e1, e2, e3, e4, hm _ _ _ _ _ _ _ _ _ _ h⟩
  · obtain ⟨x, j, L, r, n, e1, e2, e3, h⟩ := h
    exact ⟨x, j, L, r, n, e1, e2, e3, hm _ _ _ _ _ _ _ _ _ _ h⟩
  · obtain ⟨j, L, r, n, e1, e2, e3, h⟩ := h
    exact ⟨j, L, r, n, e1, e2, e3, hm _ _ _ _ _ _ _ _ _ _ h⟩
  · obtain ⟨x, j, L, r, n, e1, e2, e3, e4, h⟩ := h
    exact ⟨x, j, L, r, n, e1, e2, e3, e4, hm _ _ _ _ _ _ _ _ _ _ h⟩
  · obtain ⟨j, L, r, k, n, e1, e2, e3, e4, h⟩ := h
    exact ⟨j, L, r, k, n, e1, e2, e3, e4, hm _ _ _ _ _ _ _ _ _ _ h⟩
  · obtain ⟨L', j, L, r, k, n, n', e1, e2, e3, e4, e5, h⟩ := h
    exact ⟨L', j, L, r, k, n, n', e1, e2, e3, e4, e5, hm _ _ _ _ _ _ _ _ _ _ h⟩
  · obtain ⟨L, r, n, e1, e2, h⟩ := h
    exact ⟨L, r, n, e1, e2, hm _ _ _ _ _ _ _ _ _ _ h⟩
  · obtain ⟨L, r, n, e1, e2, h⟩ := h
    exact ⟨L, r, n, e1, e2, hm _ _ _ _ _ _ _ _ _ _ h⟩
  · obtain ⟨x, L, r, n, e1, e2, h⟩ := h
    exact ⟨x, L, r, n, e1, e2, hm _ _ _ _ _ _ _ _ _ _ h⟩
  · obtain ⟨q, L, r, n, e1, e2, h⟩ := h
    exact ⟨q, L, r, n, e1, e2, hm _ _ _ _ _ _ _ _ _ _ h⟩
  · obtain ⟨L, r, n, e1, e2, h⟩ := h
    exact ⟨L, r, n, e1, e2, hm _ _ _ _ _ _ _ _ _ _ h⟩
  · obtain ⟨x, L, r, n, e1, e2, e3, h⟩ := h
    exact ⟨x, L, r, n, e1, e2, e3, hm _ _ _ _ _ _ _ _ _ _ h⟩
  · exact h.elim
set_option maxHeartbeats 4000000 in
theorem stC_mono {X Y : XT} (hm : ∀ d b y i ls st K I R Q, X d b y i ls st K I R Q → Y d b y i ls st K I R Q) {op a c : Nat} {z : Int} {d b y i : Nat} {ls : List (Option PV)} {st : List PV} {K : KM} {I : IM} {R : RM} {Q : QT} (h : stC X op a c z d b y i ls st K I R Q) : stC Y op a c z d b y i ls st K I R Q := by
  unfold stC at h ⊢
  split at h
  · obtain ⟨L, b', e1, e2, h⟩ := h
    exact ⟨L, b', e1, e2, hm _ _ _ _ _ _ _ _ _ _ h⟩
  · obtain ⟨L, n, r, b', e1, e2, e3, e4, h⟩ := h
    exact ⟨L, n, r, b', e1, e2, e3, e4, hm _ _ _ _ _ _ _ _ _ _ h⟩
  · obtain ⟨L, n, r, b', e1, e2, e3, e4, h⟩ := h
    exact ⟨L, n, r, b', e1, e2, e3, e4, hm _ _ _ _ _ _ _ _ _ _ h⟩
  · obtain ⟨as, rest, d', b', P, e1, e2, e2c, e3, e4, e5, h1, h2⟩ := h
    exact ⟨as, rest, d', b', P, e1, e2, e2c, e3, e4, e5, hm _ _ _ _ _ _ _ _ _ _ h1, fun r K' I' R' hp => aft_mono hm (h2 r K' I' R' hp)⟩
  · obtain ⟨L, as, rest, d', b', n, P, e1, e2, e2c, e3, e4, e5, e6, h1, h2⟩ := h
    exact ⟨L, as, rest, d', b', n, P, e1, e2, e2c, e3, e4, e5, e6, hm _ _ _ _ _ _ _ _ _ _ h1, fun r K' I' R' hp => aft_mono hm (h2 r K' I' R' hp)⟩
  · obtain ⟨L, as, rest, d', b', n, P, e1, e2, e2c, e3, e4, e5, e6, h1, h2⟩ := h
    exact ⟨L, as, rest, d', b', n, P, e1, e2, e2c, e3, e4, e5, e6, hm _ _ _ _ _ _ _ _ _ _ h1, fun r K' I' R' hp => ⟨(h2 r K' I' R' hp).1, aft_mono hm (h2 r K' I' R' hp).2⟩⟩
  · obtain ⟨L, r, e1, e2, e3, h⟩ := h
    exact ⟨L, r, e1, e2, e3, hm _ _ _ _ _ _ _ _ _ _ h⟩
  · exact h
  · exact h
  · exact h
  · exact h
  · obtain ⟨u, v, r, e1, e2, e3, h⟩ := h
    exact ⟨u, v, r, e1, e2, e3, hm _ _ _ _ _ _ _ _ _ _ h⟩
  · obtain ⟨u, v, r, e1, e2, e3, h⟩ := h
    exact ⟨u, v, r, e1, e2, e3, hm _ _ _ _ _ _ _ _ _ _ h⟩
  · obtain ⟨u, r, e1, e2, e3, h⟩ := h
    exact ⟨u, r, e1, e2, e3, hm _ _ _ _ _ _ _ _ _ _ h⟩
  · exact h.elim
theorem wp_in {d b y i : Nat} {ls : List (Option PV)} {st : List PV} {K : KM} {I : IM} {R : RM} {Q : QT} (h : Mst Mw d b y i ls st K I R Q) : Mw d b y i ls st K I R Q := by
  intro X hX
  refine hX _ _ _ _ _ _ _ _ _ _ ?_
  obtain ⟨op, a, c, z, e, h⟩ := h
  have hm : ∀ d b y i ls st K I R Q, Mw d b y i ls st K I R Q → X d b y i ls st K I R Q := fun _ _ _ _ _ _ _ _ _ _ w => w X hX
  refine ⟨op, a, c, z, e, ?_⟩
  rcases h with h | h | h
  · exact Or.inl (stA_mono hm h)
  · exact Or.inr (Or.inl (stB_mono hm h))
  · exact Or.inr (Or.inr (stC_mono hm h))
end
section
/-! the tables checked against the bytes and the tables' words, by the kernel -/
def okw (w : Cond) : Bool := goodWord w || (match w with
  | .castable .. => true
  | .declares .. => true
  | .methodLinkNest .. => true
  | .fieldLinkNest .. => true
  | _ => false)
def isw (k : Nat) (w : Cond) : Bool := decide (lw_tbl[k]? = some w) && okw w
def dc0 (y i : Nat) (ins : Instr) (len : Nat) : Bool := decide (decode (pg_by y) (pg_pc y i) = .ok (ins, len))
def dc (y i : Nat) (ins : Instr) (len : Nat) : Bool := dc0 y i ins len && decide (pg_pc y (i + 1) = pg_pc y i + len)
def pg_own (y : Nat) : String := (pg_nm y).cls
def pg_off (y i t : Nat) : Int := (pg_pc y t : Int) - (pg_pc y i : Int)
abbrev clT (ci : Nat) : u_T := (vwCl.getD ci ("", TX0, 0)).2.1
abbrev clC (ci : Nat) : String := (vwCl.getD ci ("", TX0, 0)).1
def tyc (ci : Nat) : Nat → FieldType := match ci with
  | 0 => tyX0
  | 1 => tyX1
  | 2 => tyX2
  | 3 => tyX3
  | 4 => tyX4
  | 5 => tyX5
  | _ => tyX6
def isRT (t : FieldType) : Bool := match t with
  | .object _ => true
  | .array _ => true
  | _ => false
def ifI (c : Nat) (off : Int) : Instr := match c with
  | 0 => .ifCond .eq off
  | 1 => .ifCond .ne off
  | 2 => .ifCond .lt off
  | 3 => .ifCond .ge off
  | 4 => .ifCond .gt off
  | _ => .ifCond .le off
def icI (c : Nat) (off : Int) : Instr := match c with
  | 0 => .if_icmp .eq off
  | 1 => .if_icmp .ne off
  | 2 => .if_icmp .lt off
  | 3 => .if_icmp .ge off
  | 4 => .if_icmp .gt off
  | _ => .if_icmp .le off
def fF (a : Nat) : Fin 4 := if h : a < 4 then ⟨a, h⟩ else 0
def elN (k : Nat) : String := clC (elc k)
def thn : List String := ["java/lang/RuntimeException", "java/lang/Exception"]
/-- the code word of a method -/
def pg_cw (y : Nat) : Cond := if pg_hh y = [] then .code (pg_nm y) (pg_by y) (pg_ml y) (pg_rt y) else .codeWith (pg_nm y) (pg_by y) (pg_ml y) (pg_rt y) (pg_hh y)
def chkC (a : Nat) : Bool :=
  let q := pg_qs.getD a pg_q0
  isw q.2.2.2.1 (pg_cw a) && isw q.2.2.2.2.1 (if q.1 then .static (pg_nm a) else .instanceMethod (pg_nm a)) && isw q.2.2.2.2.2.1 (.initialized (pg_own a)) &&
  decide ((pg_nm a).cls ≠ "java/lang/invoke/MethodHandle") && decide ((pg_nm a).cls ≠ "java/lang/invoke/VarHandle") && decide ((parseMethodDescriptor (pg_nm a).desc).map (fun d => d.parameters.length) = some (if q.1 then q.2.1 else q.2.1 - 1)) &&
  plainName (pg_nm a).cls && decide (pg_pc a 0 = 0) && decide (pg_na a ≤ pg_ml a) && decide (pg_ml a ≤ 40) && decide (a < 157) && decide (pg_own a ≠ "java/lang/Math") && (q.1 || decide (1 ≤ q.2.1))
def chkB (y i op a c : Nat) (z : Int) (w : List Nat) : Bool := match op with
    | 0 => dc y i (.iconst z) 1 || (dc y i (.bipush z) 2 && decide ((Int8.ofInt z).toInt32 = Int32.ofInt z)) || (dc y i (.sipush z) 3 && decide ((Int16.ofInt z).toInt32 = Int32.ofInt z)) || (dc y i (.ldc c) 2 && isw (w.getD 0 0) (.constant (pg_own y) c (Int32.ofInt z)))
    | 1 => dc y i (.iload a) 2 || (decide (a < 4) && dc y i (.iload_n (fF a)) 1)
    | 2 => dc y i (.istore a) 2 || (decide (a < 4) && dc y i (.istore_n (fF a)) 1)
    | 3 => dc y i (.aload a) 2 || (decide (a < 4) && dc y i (.aload_n (fF a)) 1)
    | 4 => dc y i (.astore a) 2 || (decide (a < 4) && dc y i (.astore_n (fF a)) 1)
    | 5 => dc y i (.iinc a z) 3
    | 6 => dc y i .iadd 1
    | 7 => dc y i .isub 1
    | 8 => dc y i .imul 1
    | 9 => dc y i .idiv 1
    | 10 => dc y i .irem 1
    | 11 => dc y i .ineg 1
    | 12 => dc y i .iand 1
    | 13 => dc y i .dup 1
    | 14 => dc y i .dup2 1
    | 15 => dc y i .pop 1
    | 16 => dc0 y i (.goto (pg_off y i a)) 3
    | 17 => dc y i (ifI c (pg_off y i a)) 3
    | 18 => dc y i (icI c (pg_off y i a)) 3
    | 19 => dc y i (.ifnonnull (pg_off y i a)) 3
    | 20 => (match decode (pg_by y) (pg_pc y i) with
      | .ok (.tableswitch dflt lo hi offs, _) => decide (lo = (pg_sw.getD a (0, 0, 0, [])).1) && decide (hi = (pg_sw.getD a (0, 0, 0, [])).2.1) && decide (dflt = pg_off y i (pg_sw.getD a (0, 0, 0, [])).2.2.1) && decide (offs.toList = (pg_sw.getD a (0, 0, 0, [])).2.2.2.map (fun t => pg_off y i t)) && decide (hi - lo + 1 = ((pg_sw.getD a (0, 0, 0, [])).2.2.2.length : Int))
      | _ => false)
    | 21 => dc y i .i2l 1
    | 22 => dc y i .lcmp 1
    | 23 => (decide (z = 0) && dc y i (.lconst 0) 1) || (decide (z = 1) && dc y i (.lconst 1) 1)
    | 24 => dc y i .laload 1
    | 25 => dc y i .lastore 1
    | 26 => dc y i .arraylength 1
    | 27 => dc y i .iaload 1
    | 28 => dc y i .iastore 1
    | 29 => dc y i .baload 1
    | 30 => dc y i .bastore 1
    | 31 => dc y i .aaload 1
    | 32 => dc y i .aastore 1
    | 33 => dc y i (.getfield z.toNat) 3 && decide (a < 7) && decide (c < nfl a) && (decide (tyc a c = .int) || decide (tyc a c = .boolean)) && isw (w.getD 0 0) (.fieldLink (pg_own y) z.toNat (clT a c).1 (clT a c).2.1 (clT a c).2.2.1)
    | 34 => dc y i (.getfield z.toNat) 3 && decide (a < 7) && decide (c < nfl a) && isRT (tyc a c) && isw (w.getD 0 0) (.fieldLink (pg_own y) z.toNat (clT a c).1 (clT a c).2.1 (clT a c).2.2.1)
    | 35 => dc y i (.putfield z.toNat) 3 && decide (a < 7) && decide (c < nfl a) && decide (tyc a c = .int) && decide ((clT a c).2.2.2 = false) && isw (w.getD 0 0) (.fieldLink (pg_own y) z.toNat (clT a c).1 (clT a c).2.1 (clT a c).2.2.1)
    | 36 => dc y i (.putfield z.toNat) 3 && decide (a < 7) && decide (c < nfl a) && isRT (tyc a c) && (decide ((clT a c).2.2.2 = false) || (decide ((pg_nm y).name = "<init>") && decide ((clT a c).1 = pg_own y) && decide ((clT a c).2.2.2 = true))) && isw (w.getD 0 0) (.fieldLink (pg_own y) z.toNat (clT a c).1 (clT a c).2.1 (clT a c).2.2.1)
    | 37 => dc y i (.new z.toNat) 3 && decide (a < 7) && isw (w.getD 0 0) (.classLink (pg_own y) z.toNat (clC a)) && isw (w.getD 1 0) (.instantiable (clC a) (nfl a)) && isw (w.getD 2 0) (.initialized (clC a))
    | 38 => (decide (a = 7) && dc y i (.newarray .int) 2 && isw (w.getD 0 0) (.arrayClass .int)) || (decide (a = 8) && dc y i (.newarray .boolean) 2 && isw (w.getD 0 0) (.arrayClass .boolean)) || (decide (a = 13) && dc y i (.newarray .long) 2 && isw (w.getD 0 0) (.arrayClass .long))
    | 39 => dc y i (.anewarray z.toNat) 3 && decide (9 ≤ a) && decide (a ≤ 12) && isw (w.getD 0 0) (.classLink (pg_own y) z.toNat (elN a))
    | 40 => dc y i (.invokestatic z.toNat) 3 && chkC a && pg_sta a && isw (w.getD 0 0) (.methodLink (pg_own y) z.toNat (pg_nm a))
    | 41 => dc y i (.invokevirtual z.toNat) 3 && chkC a && !(pg_sta a) && decide (pg_hh a = []) && decide (pg_cl a < 7) && decide (pg_own a = clC (pg_cl a)) && isw (w.getD 0 0) (.methodLink (pg_own y) z.toNat (pg_nm a)) && isw (pg_qs.getD a pg_q0).2.2.2.2.2.2 (.selects (pg_own a) (pg_nm a) (pg_nm a))
    | 42 => dc y i (.invokespecial z.toNat) 3 && chkC a && !(pg_sta a) && decide (pg_hh a = []) && decide (pg_cl a < 7) && decide (pg_own a = clC (pg_cl a)) && decide ((pg_nm a).name = "<init>") && decide (pg_rt a = none) && ((decide (c = 0) && isw (w.getD 0 0) (.methodLink (pg_own y) z.toNat (pg_nm a))) || (decide (c = 1) && isw (w.getD 0 0) (.methodLinkNest (pg_own y) z.toNat (pg_nm a) "KayfabeRing")))
    | 43 => dc y i (.invokespecial z.toNat) 3 && isw (w.getD 0 0) (.methodLink (pg_own y) z.toNat Lib.objectInit) && isw (w.getD 1 0) (.instanceMethod Lib.objectInit) && isw (w.getD 2 0) (.code Lib.objectInit ⟨#[0xb1]⟩ 1 none)
    | 44 => decide (pg_own y = RX5) && (decide (a = 1) || decide (a = 2) || decide (a = 3)) && dc0 y i (.new (w.getD 2 0)) 3 && decide (decode (pg_by y) (pg_pc y i + 3) = .ok (.dup, 1)) && decide ((pg_st.getD c ("", 0, "")).1 = RX5) && decide (c < pg_st.length) &&
      ((decide (w.getD 4 0 = 0) && decide (decode (pg_by y) (pg_pc y i + 4) = .ok (.ldc (pg_st.getD c ("", 0, "")).2.1, 2)) && decide (decode (pg_by y) (pg_pc y i + 6) = .ok (.invokespecial (w.getD 3 0), 3)) && decide (decode (pg_by y) (pg_pc y i + 9) = .ok (.athrow, 1))) ||
       (decide (w.getD 4 0 = 1) && decide (decode (pg_by y) (pg_pc y i + 4) = .ok (.ldc_w (pg_st.getD c ("", 0, "")).2.1, 3)) && decide (decode (pg_by y) (pg_pc y i + 7) = .ok (.invokespecial (w.getD 3 0), 3)) && decide (decode (pg_by y) (pg_pc y i + 10) = .ok (.athrow, 1)))) &&
      isw (w.getD 0 0) (.classLink RX5 (w.getD 2 0) (pg_ex a)) && isw (w.getD 1 0) (.initialized (pg_ex a)) && (decide (a = 1 ∧ w.getD 3 0 = 53) || decide (a = 2 ∧ w.getD 3 0 = 64) || decide (a = 3 ∧ w.getD 3 0 = 87))
    | 45 => dc0 y i .ireturn 1 && (decide (pg_rt y = some .int) || decide (pg_rt y = some .boolean))
    | 46 => dc0 y i .areturn 1 && (match pg_rt y with
      | some t => isRT t
      | none => false)
    | 47 => dc0 y i .return_ 1 && decide (pg_rt y = none)
    | 48 => dc y i (.getfield z.toNat) 3 && decide (a < 7) && decide (c < nfl a) && (decide (tyc a c = .int) || decide (tyc a c = .boolean)) && isw (w.getD 0 0) (.fieldLinkNest (pg_own y) z.toNat (clT a c).1 (clT a c).2.1 (clT a c).2.2.1 "KayfabeRing")
    | 51 => dc y i (.invokestatic z.toNat) 3 && isw (w.getD 0 0) (.methodLink (pg_own y) z.toNat Lib.Math.max.name) && isw (w.getD 1 0) (.static Lib.Math.max.name) && isw (w.getD 2 0) (.initialized "java/lang/Math") && isw (w.getD 3 0) (.code Lib.Math.max.name Lib.Math.max.code 2 (some .int))
    | 52 => dc y i (.invokestatic z.toNat) 3 && isw (w.getD 0 0) (.methodLink (pg_own y) z.toNat Lib.Math.min.name) && isw (w.getD 1 0) (.static Lib.Math.min.name) && isw (w.getD 2 0) (.initialized "java/lang/Math") && isw (w.getD 3 0) (.code Lib.Math.min.name Lib.Math.min.code 2 (some .int))
    | 53 => dc y i (.invokestatic z.toNat) 3 && isw (w.getD 0 0) (.methodLink (pg_own y) z.toNat Lib.Math.abs.name) && isw (w.getD 1 0) (.static Lib.Math.abs.name) && isw (w.getD 2 0) (.initialized "java/lang/Math") && isw (w.getD 3 0) (.code Lib.Math.abs.name Lib.Math.abs.code 1 (some .int))
    | 49 => true
    | 50 => dc y i (.putfield z.toNat) 3 && decide (a < 7) && decide (c < nfl a) && decide (tyc a c = .boolean) && decide ((clT a c).2.2.2 = false) && isw (w.getD 0 0) (.fieldLink (pg_own y) z.toNat (clT a c).1 (clT a c).2.1 (clT a c).2.2.1)
    | _ => false
def chk (y i : Nat) : Bool := match pg_at y i with
  | none => true
  | some (op, a, c, z) => chkB y i op a c z (pg_wd y i)
theorem chk_at {y i op a c : Nat} {z : Int} (hi : pg_at y i = some (op, a, c, z)) (h : chk y i = true) : chkB y i op a c z (pg_wd y i) = true := by
  unfold chk at h
  rw [hi] at h
  exact h
theorem dc_at {y i : Nat} {ins : Instr} {len : Nat} (h : dc y i ins len = true) : decode (pg_by y) (pg_pc y i) = .ok (ins, len) ∧ pg_pc y (i + 1) = pg_pc y i + len := by
  unfold dc dc0 at h
  rw [Bool.and_eq_true, decide_eq_true_eq, decide_eq_true_eq] at h
  exact h
/-- the handlers of a method -/
def chkH (y : Nat) : Bool := decide (pg_hh y = (pg_hx y).map (fun h => (h.1, h.2.1, h.2.2.2.2.1, h.2.2.2.2.2.1))) && (pg_hx y).all (fun h => isw h.2.2.2.2.2.2 (.classLink (pg_own y) h.2.2.2.2.2.1 (pg_ex h.2.2.2.1)) && decide (pg_pc y h.2.2.1 = h.2.2.2.2.1) && decide (h.2.2.2.2.2.1 ≠ 0) && (decide (h.2.2.2.1 = 1) || decide (h.2.2.2.1 = 2) || decide (h.2.2.2.1 = 3)))
theorem chkH_all : (List.range 158).all chkH = true := by decide +kernel
end
section
/-! the pure machine's values and heap against the machine's -/
def vr (am : Lb → Nat) (K : KM) (v : PV) (v' : Value) : Prop := match v with
  | .inl x => v' = .int x
  | .inr (.inl x) => v' = .long x.toInt64
  | .inr (.inr (.inl none)) => v' = .null
  | .inr (.inr (.inl (some L))) => v' = .ref (am L) ∧ K L ≠ none
  | .inr (.inr (.inr _)) => ∃ q, v' = .ref q
def sr (am : Lb → Nat) (K : KM) : List PV → List Value → Prop
  | [], [] => True
  | v :: r, v' :: r' => vr am K v v' ∧ sr am K r r'
  | _, _ => False
def lr (am : Lb → Nat) (K : KM) (ls : List (Option PV)) (lsA : Array Slot) (nL : Nat) : Prop :=
  ls.length = nL ∧ ∃ lv : List (Nat × Value), lv_has lsA nL lv ∧ ∀ i v, ls[i]? = some (some v) → ∃ v', (i, v') ∈ lv ∧ vr am K v v' ∧ v'.category = 1
def ext (am : Lb → Nat) (K : KM) (am' : Lb → Nat) (K' : KM) : Prop := ∀ L, K L ≠ none → am' L = am L ∧ K' L = K L
theorem ext_rfl {am : Lb → Nat} {K : KM} : ext am K am K := fun _ _ => ⟨rfl, rfl⟩
theorem ext_tr {am am' am'' : Lb → Nat} {K K' K'' : KM} (h : ext am K am' K') (h' : ext am' K' am'' K'') : ext am K am'' K'' := fun L hL => by
  obtain ⟨a, b⟩ := h L hL
  obtain ⟨c, d⟩ := h' L (by rw [b]; exact hL)
  exact ⟨c.trans a, d.trans b⟩
theorem vr_ext {am am' : Lb → Nat} {K K' : KM} (h : ext am K am' K') {v : PV} {v' : Value} (hv : vr am K v v') : vr am' K' v v' := by
  match v, hv with
  | .inl x, hv => exact hv
  | .inr (.inl x), hv => exact hv
  | .inr (.inr (.inl none)), hv => exact hv
  | .inr (.inr (.inl (some L))), hv =>
    obtain ⟨e, hL⟩ := hv
    obtain ⟨a, b⟩ := h L hL
    exact ⟨by rw [a]; exact e, by rw [b]; exact hL⟩
  | .inr (.inr (.inr _)), hv => exact hv
theorem sr_ext {am am' : Lb → Nat} {K K' : KM} (h : ext am K am' K') : ∀ {st : List PV} {st' : List Value}, sr am K st st' → sr am' K' st st'
  | [], [], _ => trivial
  | v :: r, v' :: r', hs => ⟨vr_ext h hs.1, sr_ext h hs.2⟩
  | [], _ :: _, hs => hs.elim
  | _ :: _, [], hs => hs.elim
theorem lr_ext {am am' : Lb → Nat} {K K' : KM} (h : ext am K am' K') {ls : List (Option PV)} {lsA : Array Slot} {n : Nat} (hl : lr am K ls lsA n) : lr am' K' ls lsA n := by
  obtain ⟨h1, lv, h2, h3⟩ := hl
  refine ⟨h1, lv, h2, fun i v hv => ?_⟩
  obtain ⟨v', a, b, c⟩ := h3 i v hv
  exact ⟨v', a, vr_ext h b, c⟩
theorem sr_len {am : Lb → Nat} {K : KM} : ∀ {st : List PV} {st' : List Value}, sr am K st st' → st'.length = st.length
  | [], [], _ => rfl
  | v :: r, v' :: r', hs => by rw [List.length_cons, List.length_cons, sr_len hs.2]
  | [], _ :: _, hs => hs.elim
  | _ :: _, [], hs => hs.elim
theorem sr_app {am : Lb → Nat} {K : KM} : ∀ {a : List PV} {a' : List Value} {b : List PV} {b' : List Value}, sr am K a a' → sr am K b b' → sr am K (a ++ b) (a' ++ b')
  | [], [], _, _, _, hb => hb
  | v :: r, v' :: r', _, _, ha, hb => ⟨ha.1, sr_app ha.2 hb⟩
  | [], _ :: _, _, _, hs, _ => hs.elim
  | _ :: _, [], _, _, hs, _ => hs.elim
theorem sr_split {am : Lb → Nat} {K : KM} : ∀ {a b : List PV} {c : List Value}, sr am K (a ++ b) c → ∃ a' b', c = a' ++ b' ∧ sr am K a a' ∧ sr am K b b'
  | [], b, c, h => ⟨[], c, rfl, trivial, h⟩
  | v :: r, b, v' :: c, h => by
    obtain ⟨a', b', e, h1, h2⟩ := sr_split (a := r) h.2
    exact ⟨v' :: a', b', by rw [e]; rfl, ⟨h.1, h1⟩, h2⟩
  | v :: r, b, [], h => h.elim
theorem sr_rev {am : Lb → Nat} {K : KM} : ∀ {a : List PV} {a' : List Value}, sr am K a a' → sr am K a.reverse a'.reverse
  | [], [], _ => trivial
  | v :: r, v' :: r', h => by
    rw [List.reverse_cons, List.reverse_cons]
    exact sr_app (sr_rev h.2) ⟨h.1, trivial⟩
  | [], _ :: _, hs => hs.elim
  | _ :: _, [], hs => hs.elim
theorem sr_un {am : Lb → Nat} {K : KM} {as rest : List PV} {c : List Value} (h : sr am K (as.reverse ++ rest) c) : ∃ a' b', c = a'.reverse ++ b' ∧ sr am K as a' ∧ sr am K rest b' := by
  obtain ⟨a', b', e, h1, h2⟩ := sr_split h
  refine ⟨a'.reverse, b', by rw [List.reverse_reverse]; exact e, ?_, h2⟩
  have := sr_rev h1
  rwa [List.reverse_reverse] at this
theorem sr_at {am : Lb → Nat} {K : KM} : ∀ {st : List PV} {st' : List Value} {i : Nat} {v : PV}, sr am K st st' → st[i]? = some v → ∃ v', st'[i]? = some v' ∧ vr am K v v'
  | [], _, i, v, _, hv => by simp at hv
  | w :: r, [], _, _, hs, _ => hs.elim
  | w :: r, w' :: r', 0, v, hs, hv => by
    simp at hv
    exact ⟨w', by simp, hv ▸ hs.1⟩
  | w :: r, w' :: r', i + 1, v, hs, hv => by
    simp at hv
    obtain ⟨v', a, b⟩ := sr_at (i := i) hs.2 hv
    exact ⟨v', by simpa using a, b⟩
theorem vr_c1 {am : Lb → Nat} {K : KM} {v : PV} {v' : Value} (h : vr am K v v') (hc : isC1 v) : v'.category = 1 := by
  match v, h, hc with
  | .inl x, h, _ => rw [show v' = .int x from h]; rfl
  | .inr (.inl x), _, hc => exact hc.elim
  | .inr (.inr (.inl none)), h, _ => rw [show v' = .null from h]; rfl
  | .inr (.inr (.inl (some L))), h, _ => rw [h.1]; rfl
  | .inr (.inr (.inr _)), h, _ =>
    obtain ⟨q, e⟩ := h
    rw [e]; rfl
theorem vr_c2 {am : Lb → Nat} {K : KM} {v : PV} {v' : Value} (h : vr am K v v') : v'.category ≤ 2 := by
  match v, h with
  | .inl x, h => rw [show v' = .int x from h]; exact Nat.le_of_ble_eq_true rfl
  | .inr (.inl x), h => rw [show v' = .long x.toInt64 from h]; exact Nat.le_of_ble_eq_true rfl
  | .inr (.inr (.inl none)), h => rw [show v' = .null from h]; exact Nat.le_of_ble_eq_true rfl
  | .inr (.inr (.inl (some L))), h => rw [h.1]; exact Nat.le_of_ble_eq_true rfl
  | .inr (.inr (.inr _)), h =>
    obtain ⟨q, e⟩ := h
    rw [e]; exact Nat.le_of_ble_eq_true rfl
theorem sr_cat {am : Lb → Nat} {K : KM} : ∀ {st : List PV} {st' : List Value}, sr am K st st' → (st'.map fun v => v.category).sum ≤ 2 * st.length
  | [], [], _ => Nat.le_refl _
  | v :: r, v' :: r', hs => by
    have h1 := vr_c2 hs.1
    have h2 := sr_cat hs.2
    simp only [List.map_cons, List.sum_cons, List.length_cons]
    omega
  | [], _ :: _, hs => hs.elim
  | _ :: _, [], hs => hs.elim
theorem lr_get {am : Lb → Nat} {K : KM} {ls : List (Option PV)} {lsA : Array Slot} {n i : Nat} {v : PV} (hl : lr am K ls lsA n) (hv : ls[i]? = some (some v)) : ∃ v', lsA[i]? = some (.val v') ∧ vr am K v v' := by
  obtain ⟨h1, lv, h2, h3⟩ := hl
  obtain ⟨v', a, b, c⟩ := h3 i v hv
  exact ⟨v', h2.2.2 (i, v') a, b⟩
/-- behind a store -/
theorem lr_set {am : Lb → Nat} {K : KM} {ls : List (Option PV)} {lv : List (Nat × Value)} {lsB : Array Slot} {n i : Nat} {v : PV} {v' : Value} (h1 : ls.length = n) (h3 : ∀ i v, ls[i]? = some (some v) → ∃ v', (i, v') ∈ lv ∧ vr am K v v' ∧ v'.category = 1) (hv : vr am K v v') (hc : v'.category = 1) (hb : lv_has lsB n ((i, v') :: lv.filter (fun q => !(q.1 == i) && !(q.1 + 1 == i && q.2.category == 2)))) : lr am K (ls.set i (some v)) lsB n := by
  refine ⟨by rw [List.length_set]; exact h1, _, hb, fun j w hw => ?_⟩
  rw [List.getElem?_set] at hw
  by_cases e : i = j
  · subst e
    rw [if_pos rfl] at hw
    by_cases hlt : i < ls.length
    · rw [if_pos hlt] at hw
      cases hw
      exact ⟨v', List.mem_cons_self, hv, hc⟩
    · rw [if_neg hlt] at hw
      cases hw
  · rw [if_neg e] at hw
    obtain ⟨w', a, b, c⟩ := h3 j w hw
    refine ⟨w', List.mem_cons_of_mem _ (List.mem_filter.mpr ⟨a, ?_⟩), b, c⟩
    simp [c, Ne.symm e]
/-- at the entry of a method -/
theorem lr_entry {am : Lb → Nat} {K : KM} {n : Nat} {as : List PV} {as' : List Value} (h : sr am K as as') (hc : ∀ v ∈ as, isC1 v) (hn : as.length ≤ n) : lr am K (as.map some ++ List.replicate (n - as.length) none) ((lg_sl as' ++ List.replicate (n - (lg_sl as').length) Slot.unset).toArray) n := by
  have hsl : ∀ {a : List PV} {a' : List Value}, sr am K a a' → (∀ v ∈ a, isC1 v) → (lg_sl a').length = a.length ∧ ∀ k, lv_args k a' = (a'.zipIdx k).map (fun q => (q.2, q.1)) := by
    intro a
    induction a with
    | nil =>
      intro a' hs _
      cases a' with
      | nil => exact ⟨rfl, fun k => rfl⟩
      | cons _ _ => exact hs.elim
    | cons v r ih =>
      intro a' hs hc
      cases a' with
      | nil => exact hs.elim
      | cons v' r' =>
        obtain ⟨i1, i2⟩ := ih hs.2 (fun w hw => hc w (List.mem_cons_of_mem _ hw))
        have c1 := vr_c1 hs.1 (hc v List.mem_cons_self)
        refine ⟨?_, fun k => ?_⟩
        · have : lg_sl (v' :: r') = Slot.val v' :: lg_sl r' := by simp [lg_sl, c1]
          rw [this, List.length_cons, i1, List.length_cons]
        · simp only [lv_args, c1, List.zipIdx_cons, List.map_cons]
          rw [if_neg (by decide), i2]
  obtain ⟨e1, e2⟩ := hsl h hc
  have hE := lv_entry as' (n := n) (by rw [e1]; exact hn)
  refine ⟨by simp; omega, lv_args 0 as', hE, fun i v hv => ?_⟩
  have hi : as[i]? = some v := by
    rw [List.getElem?_append] at hv
    by_cases hlt : i < (as.map some).length
    · rw [if_pos hlt, List.getElem?_map] at hv
      cases hq : as[i]? with
      | none => rw [hq] at hv; cases hv
      | some w => rw [hq] at hv; cases hv; rfl
    · rw [if_neg hlt, List.getElem?_replicate] at hv
      split at hv <;> cases hv
  obtain ⟨v', a, b⟩ := sr_at h hi
  refine ⟨v', ?_, b, vr_c1 b (hc v (List.mem_of_getElem? hi))⟩
  rw [e2]
  refine List.mem_map.mpr ⟨(v', i), ?_, rfl⟩
  rw [List.mem_zipIdx_iff_getElem?]
  exact a
def kty (k : Nat) : FieldType := match k with
  | 7 => .int
  | 8 => .boolean
  | _ => .long
def ent (am : Lb → Nat) (tys : List (ClassId × FieldType)) (k n : Nat) (i : Nat → Int32) (r : Nat → Option Lb) (e : va_E) : Prop :=
  (k < 7 ∧ ∃ fs : List Value, e = .inr (k, fs) ∧ fs.length = nfl k ∧ ∀ j, j < nfl k → fs[j]? = some (if isRT (tyc k j) = true then va_rf ((r j).map am) else .int (i j))) ∨
  ((k = 7 ∨ k = 8) ∧ ∃ (cA : ClassId) (t0 : Nat), e = .inl (cA, n, .inl i) ∧ tys[t0]? = some (cA, kty k)) ∨
  (k = 13 ∧ ∃ (cA : ClassId) (t0 : Nat), e = .inl (cA, n, .inr (.inl (fun j => (i j).toInt64))) ∧ tys[t0]? = some (cA, .long)) ∨
  ((9 ≤ k ∧ k ≤ 12) ∧ ∃ (cA : ClassId) (t0 : Nat), e = .inl (cA, n, .inr (.inr (.inr (.inr (fun j => (r j).map am))))) ∧ tys[t0]? = some (cA, .object (elN k)))
abbrev ab (base : Nat) : Nat → Prop := fun q => base ≤ q
def hq (base : Nat) (D : va_G) (am : Lb → Nat) (K : KM) (I : IM) (R : RM) (s : State) (H : Heap) (tys : List (ClassId × FieldType)) (Ls : List Nat) (f : Nat → va_E) : Prop :=
  va_K D vwCl tys s ∧ va_P D vwCl (([] : va_W) ++ va_pl Ls f) H ∧ va_D (ab base) (([] : va_W) ++ va_pl Ls f) ∧
    (∀ L k n, K L = some (k, n) → k ≠ 14 → am L ∈ Ls ∧ ent am tys k n (I L) (R L) (f (am L))) ∧
    (∀ L n, K L = some (14, n) → va_X (am L) n (I L) s H ∧ am L < base) ∧
    (∀ L L', K L ≠ none → K L' ≠ none → am L = am L' → L = L') ∧
    (∀ L j L', K L ≠ none → R L j = some L' → K L' ≠ none)
def hp (base : Nat) (D : va_G) (am : Lb → Nat) (K : KM) (I : IM) (R : RM) (s : State) (H : Heap) : Prop := ∃ tys Ls f, hq base D am K I R s H tys Ls f
theorem ent_app {am : Lb → Nat} {tys t2 : List (ClassId × FieldType)} {k n : Nat} {i : Nat → Int32} {r : Nat → Option Lb} {e : va_E} (h : ent am tys k n i r e) : ent am (tys ++ t2) k n i r e := by
  have ha : ∀ {t0 : Nat} {x : ClassId × FieldType}, tys[t0]? = some x → (tys ++ t2)[t0]? = some x := fun hx => by
    rw [List.getElem?_append_left (List.getElem?_eq_some_iff.mp hx).1]; exact hx
  rcases h with h | ⟨h0, cA, t0, h1, h2⟩ | ⟨h0, cA, t0, h1, h2⟩ | ⟨h0, cA, t0, h1, h2⟩
  · exact Or.inl h
  · exact Or.inr (Or.inl ⟨h0, cA, t0, h1, ha h2⟩)
  · exact Or.inr (Or.inr (Or.inl ⟨h0, cA, t0, h1, ha h2⟩))
  · exact Or.inr (Or.inr (Or.inr ⟨h0, cA, t0, h1, ha h2⟩))
theorem ent_am {am am' : Lb → Nat} {tys : List (ClassId × FieldType)} {k n : Nat} {i : Nat → Int32} {r : Nat → Option Lb} {e : va_E} (hr : ∀ j L', r j = some L' → am' L' = am L') (h : ent am tys k n i r e) : ent am' tys k n i r e := by
  have e1 : ∀ j, (r j).map am' = (r j).map am := fun j => by
    cases hj : r j with
    | none => rfl
    | some L' => simp [hr j L' hj]
  rcases h with ⟨h0, fs, h1, h2, h3⟩ | h | h | ⟨h0, cA, t0, h1, h2⟩
  · exact Or.inl ⟨h0, fs, h1, h2, fun j hj => by rw [h3 j hj, e1]⟩
  · exact Or.inr (Or.inl h)
  · exact Or.inr (Or.inr (Or.inl h))
  · exact Or.inr (Or.inr (Or.inr ⟨h0, cA, t0, by rw [h1]; simp only [e1], h2⟩))
theorem hp_moved {base : Nat} {D : va_G} {am : Lb → Nat} {K : KM} {I : IM} {R : RM} {s U : State} {H : Heap} (hvm : s.vm.Alike U.vm) (h : hp base D am K I R s H) : hp base D am K I R U H := by
  obtain ⟨tys, Ls, f, h1, h2, h3, h4, h5, h6, h7⟩ := h
  exact ⟨tys, Ls, f, va_K.moved hvm h1, h2, h3, h4, fun L n hL => ⟨va_X.moved hvm (h5 L n hL).1, (h5 L n hL).2⟩, h6, h7⟩
end
section
/-! what holds of every start below the law: words, strings, the statics of Throwable -/
theorem okw_cases {w : Cond} (h : okw w = true) : goodWord w = true ∨ (∃ a b, w = .castable a b) ∨ (∃ x, w = .declares x) ∨ (∃ a i x q, w = .methodLinkNest a i x q) ∨ ∃ a i b n d q, w = .fieldLinkNest a i b n d q := by
  unfold okw at h
  rw [Bool.or_eq_true] at h
  rcases h with h | h
  · exact Or.inl h
  · split at h
    · exact Or.inr (Or.inl ⟨_, _, rfl⟩)
    · exact Or.inr (Or.inr (Or.inl ⟨_, rfl⟩))
    · exact Or.inr (Or.inr (Or.inr (Or.inl ⟨_, _, _, _, rfl⟩)))
    · exact Or.inr (Or.inr (Or.inr (Or.inr ⟨_, _, _, _, _, _, rfl⟩)))
    · cases h
theorem okw_tab {w : Cond} (h : okw w = true) : w.onTables = true ∨ ∃ ty, w = .arrayClass ty := by
  rcases okw_cases h with h | ⟨a, b, rfl⟩ | ⟨x, rfl⟩ | ⟨a, i, x, q, rfl⟩ | ⟨a, i, b, n, d, q, rfl⟩
  · rcases good_of_word h with g | g
    · rw [Bool.and_eq_true] at g
      exact Or.inl g.1
    · exact Or.inr g
  · exact Or.inl rfl
  · exact Or.inl rfl
  · exact Or.inl rfl
  · exact Or.inl rfl
theorem okw_use {w : Cond} (h : okw w = true) {A A' : Array Value} {U : State} (hb : w.before A U = true) : w.before A' U = true := by
  rcases okw_tab h with g | ⟨ty, rfl⟩
  · exact va_any g hb
  · exact word_at (State.WarmedH.refl U) (Or.inr ⟨ty, rfl⟩) hb
theorem okw_warm {w : Cond} (h : okw w = true) {s U : State} (hW : s.WarmedH U.vm) (hb : w.before #[] s = true) : w.before #[] U = true := by
  rcases okw_cases h with h | ⟨a, b, rfl⟩ | ⟨x, rfl⟩ | ⟨a, i, x, q, rfl⟩ | ⟨a, i, b, n, d, q, rfl⟩
  · exact word_at hW (good_of_word h) hb
  · exact va_Nw.warmC hW hb
  · exact va_Nw.warmD hW hb
  · exact va_Nw.warmM hW hb
  · exact va_Nw.warmF hW hb
def sfp (base : Nat) (s : State) (H : Heap) : Prop :=
  (∀ w ∈ lw_tbl, okw w = true → w.before #[] s = true) ∧ (∀ k, 9 ≤ k → k ≤ 12 → va_AO (elN k) s) ∧ (∀ q ∈ pg_st, ∃ sa, vk_R q.1 q.2.1 q.2.2 sa s) ∧
  (∀ e f, pg_ex e ≠ pg_ex f → va_Nc (pg_ex e) (pg_ex f) s) ∧ vx_Zq Bundle.tN "UNASSIGNED_STACK" Bundle.steD (ab base) s H ∧ vx_Zq Bundle.tN "SUPPRESSED_SENTINEL" Bundle.listD (ab base) s H ∧ base ≤ H.size
theorem sfp_word {base : Nat} {s : State} {H : Heap} (h : sfp base s H) {k : Nat} {w : Cond} (hw : isw k w = true) {A : Array Value} : w.before A s = true := by
  unfold isw at hw
  rw [Bool.and_eq_true, decide_eq_true_eq] at hw
  exact okw_use hw.2 (h.1 w (List.mem_of_getElem? hw.1) hw.2)
theorem sfp_warm {base : Nat} {s U : State} {H H1 : Heap} (hW : s.WarmedH U.vm) (hz : H.size ≤ H1.size) (hk : ∀ q : Nat, q < H.size → ¬ ab base q → H1[q]? = H[q]?) (h : sfp base s H) : sfp base U H1 := by
  obtain ⟨h1, h2, h3, h4, h5, h6, h7⟩ := h
  refine ⟨fun w hw ho => okw_warm ho hW (h1 w hw ho), fun k a b => va_AO.moved hW.alike (h2 k a b), fun q hq => ?_, fun e f hef => va_Nc.moved hW.alike (h4 e f hef), vx_Zq.moved hW.alike (vx_Zq.kept h5 hk), vx_Zq.moved hW.alike (vx_Zq.kept h6 hk), Nat.le_trans h7 hz⟩
  obtain ⟨sa, hs⟩ := h3 q hq
  exact ⟨sa, vk_R.warm hW hs⟩
theorem vw_at : ∀ ci, ci < 7 → vwCl[ci]? = some (clC ci, clT ci, nfl ci)
  | 0, _ => rfl
  | 1, _ => rfl
  | 2, _ => rfl
  | 3, _ => rfl
  | 4, _ => rfl
  | 5, _ => rfl
  | 6, _ => rfl
  | n + 7, h => absurd h (by omega)
set_option maxRecDepth 100000 in
theorem uws_ok : (List.range 7).all (fun ci => (u_ws (clC ci) (clT ci) (nfl ci)).all (fun w => decide (w ∈ lw_tbl) && okw w)) = true := by decide +kernel
theorem uws_at {ci : Nat} (h : ci < 7) {base : Nat} {s : State} {H : Heap} (hs : sfp base s H) {A : Array Value} : ∀ w ∈ u_ws (clC ci) (clT ci) (nfl ci), w.before A s = true := by
  intro w hw
  have h1 := List.all_eq_true.mp uws_ok ci (List.mem_range.mpr h)
  have h2 := List.all_eq_true.mp h1 w hw
  rw [Bool.and_eq_true, decide_eq_true_eq] at h2
  exact okw_use h2.2 (hs.1 w h2.1 h2.2)
theorem tyc_at : ∀ ci, ci < 7 → ∀ k, k < nfl ci → parseFieldDescriptor (clT ci k).2.2.1 = some (tyc ci k)
  | 0, _ => tyX0_ok
  | 1, _ => tyX1_ok
  | 2, _ => tyX2_ok
  | 3, _ => tyX3_ok
  | 4, _ => tyX4_ok
  | 5, _ => tyX5_ok
  | 6, _ => tyX6_ok
  | n + 7, h => absurd h (by omega)
theorem nmc_at : ∀ ci, ci < 7 → ∀ a, a < nfl ci → ∀ b, b < nfl ci → a ≠ b → (clT ci a).2.1 ≠ (clT ci b).2.1
  | 0, _ => nmX0
  | 1, _ => nmX1
  | 2, _ => nmX2
  | 3, _ => nmX3
  | 4, _ => nmX4
  | 5, _ => nmX5
  | 6, _ => nmX6
  | n + 7, h => absurd h (by omega)
/-- what a method's frame stands on -/
def Cx (p : Program) (s : State) (m : MethodId) (meth : Method) (c : Code) (y : Nat) : Prop :=
  p.tables.exec = Jvm.exec ∧ c.code = pg_by y ∧ meth.sig.returnType = pg_rt y ∧ c.maxLocals = pg_ml y ∧ s.vm.findClass (pg_own y) = some m.cls ∧ meth.locks = false ∧ meth.name = (pg_nm y).name ∧ c.exceptionTable.toList = tableOf (pg_hh y)
def orel (am : Lb → Nat) (K : KM) (r : Option PV) (o : Outcome) : Prop := match r with
  | none => o = .returned none
  | some v => ∃ v', o = .returned (some v') ∧ vr am K v v'
def QcF (base : Nat) (D : va_G) (am0 : Lb → Nat) (K0 : KM) (Q : QT) : Array Value → State → Outcome → State → Prop := fun _ st o t =>
  ∃ r K' I' R' am', Q (.inl r) K' I' R' ∧ orel am' K' r o ∧ hp base D am' K' I' R' t t.heap ∧ ext am0 K0 am' K' ∧ va_F (ab base) st t
def XcF (base : Nat) (D : va_G) (am0 : Lb → Nat) (K0 : KM) (Q : QT) : String → State → State → Prop := fun E st t =>
  ∃ e K' I' R' am', Q (.inr e) K' I' R' ∧ (E = pg_ex e ∧ 1 ≤ e ∧ e ≤ 3) ∧ hp base D am' K' I' R' t t.heap ∧ ext am0 K0 am' K' ∧ va_F (ab base) st t
def Snd (l : Launch) (base : Nat) (D : va_G) : XT := fun d b y i ls st K I R Q =>
  ∀ (p : Program) (e : Env) (rm : Room) (s : State) (m : MethodId) (args : Array Value) (below : List Frame) (meth : Method) (c : Code) (H : Heap) (locs : List Loc) (cells slots : Nat) (lsA : Array Slot) (stA : List Value) (am am0 : Lb → Nat) (K0 : KM),
    Cx p s m meth c y → sfp base s s.heap → pg_own y ≠ "java/lang/Math" → d ≤ rm.frames → 80 * d ≤ rm.locals → cells + b ≤ rm.cells → slots + b ≤ rm.slots →
    hp base D am K I R s H → va_S (ab base) s.heap H locs → lr am K ls lsA (pg_ml y) → sr am K st stA → ext am0 K0 am K →
    W p l e rm s m args below meth c H locs cells slots (vx_MQ below (QcF base D am0 K0 Q) (XcF base D am0 K0 Q) args s rm.cells rm.slots (ab base)) (F0 m (pg_pc y i) lsA stA)
end
section
/-! the steps of the pure machine are the machine's -/
theorem sr_i {am : Lb → Nat} {K : KM} {x : Int32} {r : List PV} {c : List Value} (h : sr am K (pI x :: r) c) : ∃ r', c = .int x :: r' ∧ sr am K r r' := by
  cases c with
  | nil => exact h.elim
  | cons v r' => exact ⟨r', by rw [show v = .int x from h.1], h.2⟩
theorem sr_l {am : Lb → Nat} {K : KM} {x : Int32} {r : List PV} {c : List Value} (h : sr am K (pL x :: r) c) : ∃ r', c = .long x.toInt64 :: r' ∧ sr am K r r' := by
  cases c with
  | nil => exact h.elim
  | cons v r' => exact ⟨r', by rw [show v = .long x.toInt64 from h.1], h.2⟩
theorem sr_r {am : Lb → Nat} {K : KM} {L : Lb} {r : List PV} {c : List Value} (h : sr am K (pR (some L) :: r) c) : ∃ r', c = .ref (am L) :: r' ∧ K L ≠ none ∧ sr am K r r' := by
  cases c with
  | nil => exact h.elim
  | cons v r' => exact ⟨r', by rw [h.1.1], h.1.2, h.2⟩
theorem sr_c {am : Lb → Nat} {K : KM} {v : PV} {r : List PV} {c : List Value} (h : sr am K (v :: r) c) : ∃ v' r', c = v' :: r' ∧ vr am K v v' ∧ sr am K r r' := by
  cases c with
  | nil => exact h.elim
  | cons v' r' => exact ⟨v', r', rfl, h.1, h.2⟩
theorem sr_nil {am : Lb → Nat} {K : KM} {c : List Value} (h : sr am K [] c) : c = [] := by
  cases c with
  | nil => rfl
  | cons v r => exact h.elim
theorem vr_q {am : Lb → Nat} {K : KM} {r : Option Lb} {v : Value} (h : vr am K (pR r) v) : v = va_rf (r.map am) := by
  cases r with
  | none => exact h
  | some L => exact h.1
theorem qv_r {am : Lb → Nat} {K : KM} {r : Option Lb} (h : ∀ L, r = some L → K L ≠ none) : vr am K (pR r) (va_rf (r.map am)) := by
  cases r with
  | none => rfl
  | some L => exact ⟨rfl, h L rfl⟩

set_option maxHeartbeats 1000000 in
theorem sd_0 {l : Launch} {base : Nat} {D : va_G} {d b y i : Nat} {ls : List (Option PV)} {st : List PV} {K : KM} {I : IM} {R : RM} {Q : QT} {a c : Nat} {z : Int} (HC : chkB y i 0 a c z (pg_wd y i) = true) (h9 : stA (Snd l base D) 0 a c z d b y i ls st K I R Q) : Snd l base D d b y i ls st K I R Q := by
  intro p e rm s m args below meth cc H locs cells slots lsA stA am am0 K0 hcx hsf hma hdf hdl hcb hsb hh hS hl hs he
  obtain ⟨hx, hb, hr, hml, hown, hlk, hnm, htb⟩ := id hcx
  have h : Snd l base D d b y (i + 1) ls (pI (Int32.ofInt z) :: st) K I R Q := h9
  have HC : (dc y i (.iconst z) 1 || (dc y i (.bipush z) 2 && decide ((Int8.ofInt z).toInt32 = Int32.ofInt z)) || (dc y i (.sipush z) 3 && decide ((Int16.ofInt z).toInt32 = Int32.ofInt z)) || (dc y i (.ldc c) 2 && isw ((pg_wd y i).getD 0 0) (.constant (pg_own y) c (Int32.ofInt z)))) = true := HC
  rw [Bool.or_eq_true, Bool.or_eq_true, Bool.or_eq_true, Bool.and_eq_true, Bool.and_eq_true, Bool.and_eq_true, decide_eq_true_eq, decide_eq_true_eq] at HC
  have hs' : sr am K (pI (Int32.ofInt z) :: st) (.int (Int32.ofInt z) :: stA) := ⟨rfl, hs⟩
  rcases HC with ((h0 | ⟨h0, h1⟩) | ⟨h0, h1⟩) | ⟨h0, h1⟩
  · obtain ⟨hd, hn⟩ := dc_at h0
    refine lv_iconst hx hb hd rfl ?_
    rw [← hn]
    exact h p e rm s m args below meth cc H locs cells slots lsA _ am am0 K0 hcx hsf hma hdf hdl hcb hsb hh hS hl hs' he
  · obtain ⟨hd, hn⟩ := dc_at h0
    refine lv_bipush hx hb hd h1 ?_
    rw [← hn]
    exact h p e rm s m args below meth cc H locs cells slots lsA _ am am0 K0 hcx hsf hma hdf hdl hcb hsb hh hS hl hs' he
  · obtain ⟨hd, hn⟩ := dc_at h0
    refine lv_sipush hx hb hd h1 ?_
    rw [← hn]
    exact h p e rm s m args below meth cc H locs cells slots lsA _ am am0 K0 hcx hsf hma hdf hdl hcb hsb hh hS hl hs' he
  · obtain ⟨hd, hn⟩ := dc_at h0
    refine W.ldc (v := Int32.ofInt z) hx hb hown (sfp_word hsf h1) rfl hd ?_
    show W p l e rm s m args below meth cc H locs cells slots _ (F0 m (pg_pc y i + 2) lsA (.int (Int32.ofInt z) :: stA))
    rw [← hn]
    exact h p e rm s m args below meth cc H locs cells slots lsA _ am am0 K0 hcx hsf hma hdf hdl hcb hsb hh hS hl hs' he

set_option maxHeartbeats 1000000 in
theorem sd_1 {l : Launch} {base : Nat} {D : va_G} {d b y i : Nat} {ls : List (Option PV)} {st : List PV} {K : KM} {I : IM} {R : RM} {Q : QT} {a c : Nat} {z : Int} (HC : chkB y i 1 a c z (pg_wd y i) = true) (h9 : stA (Snd l base D) 1 a c z d b y i ls st K I R Q) : Snd l base D d b y i ls st K I R Q := by
  intro p e rm s m args below meth cc H locs cells slots lsA stA am am0 K0 hcx hsf hma hdf hdl hcb hsb hh hS hl hs he
  obtain ⟨hx, hb, hr, hml, hown, hlk, hnm, htb⟩ := id hcx
  obtain ⟨x, hx1, h⟩ := (show ∃ x, ls[a]? = some (some (pI x)) ∧ Snd l base D d b y (i + 1) ls (pI x :: st) K I R Q from h9)
  have HC : (dc y i (.iload a) 2 || (decide (a < 4) && dc y i (.iload_n (fF a)) 1)) = true := HC
  rw [Bool.or_eq_true, Bool.and_eq_true, decide_eq_true_eq] at HC
  obtain ⟨v', hv1, hv2⟩ := lr_get hl hx1
  have hs' : sr am K (pI x :: st) (v' :: stA) := ⟨hv2, hs⟩
  obtain rfl := (show v' = .int x from hv2)
  rcases HC with h0 | ⟨h1, h0⟩
  · obtain ⟨hd, hn⟩ := dc_at h0
    refine lv_iload hx hb hd hv1 ?_
    rw [← hn]
    exact h p e rm s m args below meth cc H locs cells slots lsA _ am am0 K0 hcx hsf hma hdf hdl hcb hsb hh hS hl hs' he
  · obtain ⟨hd, hn⟩ := dc_at h0
    refine lv_iload_n (i := a) hx hb hd (by rw [fF, dif_pos h1]) hv1 ?_
    rw [← hn]
    exact h p e rm s m args below meth cc H locs cells slots lsA _ am am0 K0 hcx hsf hma hdf hdl hcb hsb hh hS hl hs' he

set_option maxHeartbeats 1000000 in
theorem sd_3 {l : Launch} {base : Nat} {D : va_G} {d b y i : Nat} {ls : List (Option PV)} {st : List PV} {K : KM} {I : IM} {R : RM} {Q : QT} {a c : Nat} {z : Int} (HC : chkB y i 3 a c z (pg_wd y i) = true) (h9 : stA (Snd l base D) 3 a c z d b y i ls st K I R Q) : Snd l base D d b y i ls st K I R Q := by
  intro p e rm s m args below meth cc H locs cells slots lsA stA am am0 K0 hcx hsf hma hdf hdl hcb hsb hh hS hl hs he
  obtain ⟨hx, hb, hr, hml, hown, hlk, hnm, htb⟩ := id hcx
  obtain ⟨x, hx1, h⟩ := (show ∃ x, ls[a]? = some (some (pR (some x))) ∧ Snd l base D d b y (i + 1) ls (pR (some x) :: st) K I R Q from h9)
  have HC : (dc y i (.aload a) 2 || (decide (a < 4) && dc y i (.aload_n (fF a)) 1)) = true := HC
  rw [Bool.or_eq_true, Bool.and_eq_true, decide_eq_true_eq] at HC
  obtain ⟨v', hv1, hv2⟩ := lr_get hl hx1
  have hs' : sr am K (pR (some x) :: st) (v' :: stA) := ⟨hv2, hs⟩
  obtain ⟨rfl, hkx⟩ := hv2
  rcases HC with h0 | ⟨h1, h0⟩
  · obtain ⟨hd, hn⟩ := dc_at h0
    refine lv_aload hx hb hd hv1 ?_
    rw [← hn]
    exact h p e rm s m args below meth cc H locs cells slots lsA _ am am0 K0 hcx hsf hma hdf hdl hcb hsb hh hS hl hs' he
  · obtain ⟨hd, hn⟩ := dc_at h0
    refine lv_aload_n (i := a) hx hb hd (by rw [fF, dif_pos h1]) hv1 ?_
    rw [← hn]
    exact h p e rm s m args below meth cc H locs cells slots lsA _ am am0 K0 hcx hsf hma hdf hdl hcb hsb hh hS hl hs' he

set_option maxHeartbeats 1000000 in
theorem sd_2 {l : Launch} {base : Nat} {D : va_G} {d b y i : Nat} {ls : List (Option PV)} {st : List PV} {K : KM} {I : IM} {R : RM} {Q : QT} {a c : Nat} {z : Int} (HC : chkB y i 2 a c z (pg_wd y i) = true) (h9 : stA (Snd l base D) 2 a c z d b y i ls st K I R Q) : Snd l base D d b y i ls st K I R Q := by
  intro p e rm s m args below meth cc H locs cells slots lsA stA am am0 K0 hcx hsf hma hdf hdl hcb hsb hh hS hl hs he
  obtain ⟨hx, hb, hr, hml, hown, hlk, hnm, htb⟩ := id hcx
  obtain ⟨x, r, rfl, ha, h⟩ := (show ∃ x r, st = pI x :: r ∧ a < ls.length ∧ Snd l base D d b y (i + 1) (ls.set a (some (pI x))) r K I R Q from h9)
  obtain ⟨rA, rfl, hs2⟩ := sr_i hs
  have HC : (dc y i (.istore a) 2 || (decide (a < 4) && dc y i (.istore_n (fF a)) 1)) = true := HC
  rw [Bool.or_eq_true, Bool.and_eq_true, decide_eq_true_eq] at HC
  obtain ⟨hlen, lv, hlv, hlr⟩ := id hl
  rcases HC with h0 | ⟨h1, h0⟩
  · obtain ⟨hd, hn⟩ := dc_at h0
    refine lv_istore hx hb hd hlv (by rw [← hlen]; exact ha) rfl (fun lsB hB => ?_)
    rw [← hn]
    exact h p e rm s m args below meth cc H locs cells slots lsB _ am am0 K0 hcx hsf hma hdf hdl hcb hsb hh hS (lr_set hlen hlr rfl rfl hB) hs2 he
  · obtain ⟨hd, hn⟩ := dc_at h0
    refine lv_istore_n (i := a) hx hb hd (by rw [fF, dif_pos h1]) hlv (by rw [← hlen]; exact ha) rfl (fun lsB hB => ?_)
    rw [← hn]
    exact h p e rm s m args below meth cc H locs cells slots lsB _ am am0 K0 hcx hsf hma hdf hdl hcb hsb hh hS (lr_set hlen hlr rfl rfl hB) hs2 he

set_option maxHeartbeats 1000000 in
theorem sd_4 {l : Launch} {base : Nat} {D : va_G} {d b y i : Nat} {ls : List (Option PV)} {st : List PV} {K : KM} {I : IM} {R : RM} {Q : QT} {a c : Nat} {z : Int} (HC : chkB y i 4 a c z (pg_wd y i) = true) (h9 : stA (Snd l base D) 4 a c z d b y i ls st K I R Q) : Snd l base D d b y i ls st K I R Q := by
  intro p e rm s m args below meth cc H locs cells slots lsA stA am am0 K0 hcx hsf hma hdf hdl hcb hsb hh hS hl hs he
  obtain ⟨hx, hb, hr, hml, hown, hlk, hnm, htb⟩ := id hcx
  obtain ⟨v, r, rfl, hvv, ha, h⟩ := (show ∃ v r, st = v :: r ∧ (v = pO ∨ ∃ L, v = pR (some L)) ∧ a < ls.length ∧ Snd l base D d b y (i + 1) (ls.set a (some v)) r K I R Q from h9)
  obtain ⟨v', rA, rfl, hvr, hs2⟩ := sr_c hs
  obtain ⟨q, rfl⟩ : ∃ q, v' = .ref q := by
    rcases hvv with rfl | ⟨L, rfl⟩
    · exact hvr
    · exact ⟨am L, hvr.1⟩
  have HC : (dc y i (.astore a) 2 || (decide (a < 4) && dc y i (.astore_n (fF a)) 1)) = true := HC
  rw [Bool.or_eq_true, Bool.and_eq_true, decide_eq_true_eq] at HC
  obtain ⟨hlen, lv, hlv, hlr⟩ := id hl
  rcases HC with h0 | ⟨h1, h0⟩
  · obtain ⟨hd, hn⟩ := dc_at h0
    refine lv_astore hx hb hd hlv (by rw [← hlen]; exact ha) rfl (fun lsB hB => ?_)
    rw [← hn]
    exact h p e rm s m args below meth cc H locs cells slots lsB _ am am0 K0 hcx hsf hma hdf hdl hcb hsb hh hS (lr_set hlen hlr hvr rfl hB) hs2 he
  · obtain ⟨hd, hn⟩ := dc_at h0
    refine lv_astore_n (i := a) hx hb hd (by rw [fF, dif_pos h1]) hlv (by rw [← hlen]; exact ha) rfl (fun lsB hB => ?_)
    rw [← hn]
    exact h p e rm s m args below meth cc H locs cells slots lsB _ am am0 K0 hcx hsf hma hdf hdl hcb hsb hh hS (lr_set hlen hlr hvr rfl hB) hs2 he

set_option maxHeartbeats 1000000 in
theorem sd_5 {l : Launch} {base : Nat} {D : va_G} {d b y i : Nat} {ls : List (Option PV)} {st : List PV} {K : KM} {I : IM} {R : RM} {Q : QT} {a c : Nat} {z : Int} (HC : chkB y i 5 a c z (pg_wd y i) = true) (h9 : stA (Snd l base D) 5 a c z d b y i ls st K I R Q) : Snd l base D d b y i ls st K I R Q := by
  intro p e rm s m args below meth cc H locs cells slots lsA stA am am0 K0 hcx hsf hma hdf hdl hcb hsb hh hS hl hs he
  obtain ⟨hx, hb, hr, hml, hown, hlk, hnm, htb⟩ := id hcx
  obtain ⟨x, hx1, h⟩ := (show ∃ x, ls[a]? = some (some (pI x)) ∧ Snd l base D d b y (i + 1) (ls.set a (some (pI (x + Int32.ofInt z)))) st K I R Q from h9)
  obtain ⟨hd, hn⟩ := dc_at (show dc y i (.iinc a z) 3 = true from HC)
  obtain ⟨hlen, lv, hlv, hlr⟩ := id hl
  obtain ⟨v', hm, hv2, -⟩ := hlr a _ hx1
  obtain rfl := (show v' = .int x from hv2)
  obtain ⟨k, hk⟩ := List.mem_iff_getElem?.mp hm
  have ha : a < ls.length := (List.getElem?_eq_some_iff.mp hx1).1
  refine lv_iinc hx hb hd hlv hk rfl (by rw [← hlen]; exact ha) rfl (fun lsB hB => ?_)
  rw [← hn]
  exact h p e rm s m args below meth cc H locs cells slots lsB _ am am0 K0 hcx hsf hma hdf hdl hcb hsb hh hS (lr_set hlen hlr rfl rfl hB) hs he

set_option maxHeartbeats 1000000 in
theorem sd_6 {l : Launch} {base : Nat} {D : va_G} {d b y i : Nat} {ls : List (Option PV)} {st : List PV} {K : KM} {I : IM} {R : RM} {Q : QT} {a c : Nat} {z : Int} (HC : chkB y i 6 a c z (pg_wd y i) = true) (h9 : stA (Snd l base D) 6 a c z d b y i ls st K I R Q) : Snd l base D d b y i ls st K I R Q := by
  intro p e rm s m args below meth cc H locs cells slots lsA stA am am0 K0 hcx hsf hma hdf hdl hcb hsb hh hS hl hs he
  obtain ⟨hx, hb, hr, hml, hown, hlk, hnm, htb⟩ := id hcx
  obtain ⟨u, v, r, rfl, h⟩ := (show ∃ u v r, st = pI v :: pI u :: r ∧ Snd l base D d b y (i + 1) ls (pI (u + v) :: r) K I R Q from h9)
  obtain ⟨hd, hn⟩ := dc_at (show dc y i .iadd 1 = true from HC)
  obtain ⟨r1, rfl, hs1⟩ := sr_i hs
  obtain ⟨r2, rfl, hs2⟩ := sr_i hs1
  refine lv_iadd hx hb hd ?_
  rw [← hn]
  exact h p e rm s m args below meth cc H locs cells slots lsA _ am am0 K0 hcx hsf hma hdf hdl hcb hsb hh hS hl ⟨rfl, hs2⟩ he

set_option maxHeartbeats 1000000 in
theorem sd_7 {l : Launch} {base : Nat} {D : va_G} {d b y i : Nat} {ls : List (Option PV)} {st : List PV} {K : KM} {I : IM} {R : RM} {Q : QT} {a c : Nat} {z : Int} (HC : chkB y i 7 a c z (pg_wd y i) = true) (h9 : stA (Snd l base D) 7 a c z d b y i ls st K I R Q) : Snd l base D d b y i ls st K I R Q := by
  intro p e rm s m args below meth cc H locs cells slots lsA stA am am0 K0 hcx hsf hma hdf hdl hcb hsb hh hS hl hs he
  obtain ⟨hx, hb, hr, hml, hown, hlk, hnm, htb⟩ := id hcx
  obtain ⟨u, v, r, rfl, h⟩ := (show ∃ u v r, st = pI v :: pI u :: r ∧ Snd l base D d b y (i + 1) ls (pI (u - v) :: r) K I R Q from h9)
  obtain ⟨hd, hn⟩ := dc_at (show dc y i .isub 1 = true from HC)
  obtain ⟨r1, rfl, hs1⟩ := sr_i hs
  obtain ⟨r2, rfl, hs2⟩ := sr_i hs1
  refine lv_isub hx hb hd ?_
  rw [← hn]
  exact h p e rm s m args below meth cc H locs cells slots lsA _ am am0 K0 hcx hsf hma hdf hdl hcb hsb hh hS hl ⟨rfl, hs2⟩ he

set_option maxHeartbeats 1000000 in
theorem sd_8 {l : Launch} {base : Nat} {D : va_G} {d b y i : Nat} {ls : List (Option PV)} {st : List PV} {K : KM} {I : IM} {R : RM} {Q : QT} {a c : Nat} {z : Int} (HC : chkB y i 8 a c z (pg_wd y i) = true) (h9 : stA (Snd l base D) 8 a c z d b y i ls st K I R Q) : Snd l base D d b y i ls st K I R Q := by
  intro p e rm s m args below meth cc H locs cells slots lsA stA am am0 K0 hcx hsf hma hdf hdl hcb hsb hh hS hl hs he
  obtain ⟨hx, hb, hr, hml, hown, hlk, hnm, htb⟩ := id hcx
  obtain ⟨u, v, r, rfl, h⟩ := (show ∃ u v r, st = pI v :: pI u :: r ∧ Snd l base D d b y (i + 1) ls (pI (u * v) :: r) K I R Q from h9)
  obtain ⟨hd, hn⟩ := dc_at (show dc y i .imul 1 = true from HC)
  obtain ⟨r1, rfl, hs1⟩ := sr_i hs
  obtain ⟨r2, rfl, hs2⟩ := sr_i hs1
  refine lv_imul hx hb hd ?_
  rw [← hn]
  exact h p e rm s m args below meth cc H locs cells slots lsA _ am am0 K0 hcx hsf hma hdf hdl hcb hsb hh hS hl ⟨rfl, hs2⟩ he

set_option maxHeartbeats 1000000 in
theorem sd_9 {l : Launch} {base : Nat} {D : va_G} {d b y i : Nat} {ls : List (Option PV)} {st : List PV} {K : KM} {I : IM} {R : RM} {Q : QT} {a c : Nat} {z : Int} (HC : chkB y i 9 a c z (pg_wd y i) = true) (h9 : stA (Snd l base D) 9 a c z d b y i ls st K I R Q) : Snd l base D d b y i ls st K I R Q := by
  intro p e rm s m args below meth cc H locs cells slots lsA stA am am0 K0 hcx hsf hma hdf hdl hcb hsb hh hS hl hs he
  obtain ⟨hx, hb, hr, hml, hown, hlk, hnm, htb⟩ := id hcx
  obtain ⟨u, v, r, rfl, hne, h⟩ := (show ∃ u v r, st = pI v :: pI u :: r ∧ ¬ v = 0 ∧ Snd l base D d b y (i + 1) ls (pI (u / v) :: r) K I R Q from h9)
  obtain ⟨hd, hn⟩ := dc_at (show dc y i .idiv 1 = true from HC)
  obtain ⟨r1, rfl, hs1⟩ := sr_i hs
  obtain ⟨r2, rfl, hs2⟩ := sr_i hs1
  refine lv_idiv hx hb hd hne ?_
  rw [← hn]
  exact h p e rm s m args below meth cc H locs cells slots lsA _ am am0 K0 hcx hsf hma hdf hdl hcb hsb hh hS hl ⟨rfl, hs2⟩ he

set_option maxHeartbeats 1000000 in
theorem sd_10 {l : Launch} {base : Nat} {D : va_G} {d b y i : Nat} {ls : List (Option PV)} {st : List PV} {K : KM} {I : IM} {R : RM} {Q : QT} {a c : Nat} {z : Int} (HC : chkB y i 10 a c z (pg_wd y i) = true) (h9 : stA (Snd l base D) 10 a c z d b y i ls st K I R Q) : Snd l base D d b y i ls st K I R Q := by
  intro p e rm s m args below meth cc H locs cells slots lsA stA am am0 K0 hcx hsf hma hdf hdl hcb hsb hh hS hl hs he
  obtain ⟨hx, hb, hr, hml, hown, hlk, hnm, htb⟩ := id hcx
  obtain ⟨u, v, r, rfl, hne, h⟩ := (show ∃ u v r, st = pI v :: pI u :: r ∧ ¬ v = 0 ∧ Snd l base D d b y (i + 1) ls (pI (u - u / v * v) :: r) K I R Q from h9)
  obtain ⟨hd, hn⟩ := dc_at (show dc y i .irem 1 = true from HC)
  obtain ⟨r1, rfl, hs1⟩ := sr_i hs
  obtain ⟨r2, rfl, hs2⟩ := sr_i hs1
  refine lv_irem hx hb hd hne ?_
  rw [← hn]
  exact h p e rm s m args below meth cc H locs cells slots lsA _ am am0 K0 hcx hsf hma hdf hdl hcb hsb hh hS hl ⟨rfl, hs2⟩ he

set_option maxHeartbeats 1000000 in
theorem sd_12 {l : Launch} {base : Nat} {D : va_G} {d b y i : Nat} {ls : List (Option PV)} {st : List PV} {K : KM} {I : IM} {R : RM} {Q : QT} {a c : Nat} {z : Int} (HC : chkB y i 12 a c z (pg_wd y i) = true) (h9 : stA (Snd l base D) 12 a c z d b y i ls st K I R Q) : Snd l base D d b y i ls st K I R Q := by
  intro p e rm s m args below meth cc H locs cells slots lsA stA am am0 K0 hcx hsf hma hdf hdl hcb hsb hh hS hl hs he
  obtain ⟨hx, hb, hr, hml, hown, hlk, hnm, htb⟩ := id hcx
  obtain ⟨u, v, r, rfl, h⟩ := (show ∃ u v r, st = pI v :: pI u :: r ∧ Snd l base D d b y (i + 1) ls (pI (u &&& v) :: r) K I R Q from h9)
  obtain ⟨hd, hn⟩ := dc_at (show dc y i .iand 1 = true from HC)
  obtain ⟨r1, rfl, hs1⟩ := sr_i hs
  obtain ⟨r2, rfl, hs2⟩ := sr_i hs1
  refine lv_iand hx hb hd ?_
  rw [← hn]
  exact h p e rm s m args below meth cc H locs cells slots lsA _ am am0 K0 hcx hsf hma hdf hdl hcb hsb hh hS hl ⟨rfl, hs2⟩ he

set_option maxHeartbeats 1000000 in
theorem sd_11 {l : Launch} {base : Nat} {D : va_G} {d b y i : Nat} {ls : List (Option PV)} {st : List PV} {K : KM} {I : IM} {R : RM} {Q : QT} {a c : Nat} {z : Int} (HC : chkB y i 11 a c z (pg_wd y i) = true) (h9 : stA (Snd l base D) 11 a c z d b y i ls st K I R Q) : Snd l base D d b y i ls st K I R Q := by
  intro p e rm s m args below meth cc H locs cells slots lsA stA am am0 K0 hcx hsf hma hdf hdl hcb hsb hh hS hl hs he
  obtain ⟨hx, hb, hr, hml, hown, hlk, hnm, htb⟩ := id hcx
  obtain ⟨u, r, rfl, h⟩ := (show ∃ u r, st = pI u :: r ∧ Snd l base D d b y (i + 1) ls (pI (-u) :: r) K I R Q from h9)
  obtain ⟨hd, hn⟩ := dc_at (show dc y i .ineg 1 = true from HC)
  obtain ⟨r1, rfl, hs1⟩ := sr_i hs
  refine lv_ineg hx hb hd ?_
  rw [← hn]
  exact h p e rm s m args below meth cc H locs cells slots lsA _ am am0 K0 hcx hsf hma hdf hdl hcb hsb hh hS hl ⟨rfl, hs1⟩ he

set_option maxHeartbeats 1000000 in
theorem sd_13 {l : Launch} {base : Nat} {D : va_G} {d b y i : Nat} {ls : List (Option PV)} {st : List PV} {K : KM} {I : IM} {R : RM} {Q : QT} {a c : Nat} {z : Int} (HC : chkB y i 13 a c z (pg_wd y i) = true) (h9 : stA (Snd l base D) 13 a c z d b y i ls st K I R Q) : Snd l base D d b y i ls st K I R Q := by
  intro p e rm s m args below meth cc H locs cells slots lsA stA am am0 K0 hcx hsf hma hdf hdl hcb hsb hh hS hl hs he
  obtain ⟨hx, hb, hr, hml, hown, hlk, hnm, htb⟩ := id hcx
  obtain ⟨v, r, rfl, hc, h⟩ := (show ∃ v r, st = v :: r ∧ isC1 v ∧ Snd l base D d b y (i + 1) ls (v :: v :: r) K I R Q from h9)
  obtain ⟨hd, hn⟩ := dc_at (show dc y i .dup 1 = true from HC)
  obtain ⟨v', r1, rfl, hv, hs1⟩ := sr_c hs
  refine lv_dup hx hb hd (vr_c1 hv hc) ?_
  rw [← hn]
  exact h p e rm s m args below meth cc H locs cells slots lsA _ am am0 K0 hcx hsf hma hdf hdl hcb hsb hh hS hl ⟨hv, hv, hs1⟩ he

set_option maxHeartbeats 1000000 in
theorem sd_14 {l : Launch} {base : Nat} {D : va_G} {d b y i : Nat} {ls : List (Option PV)} {st : List PV} {K : KM} {I : IM} {R : RM} {Q : QT} {a c : Nat} {z : Int} (HC : chkB y i 14 a c z (pg_wd y i) = true) (h9 : stA (Snd l base D) 14 a c z d b y i ls st K I R Q) : Snd l base D d b y i ls st K I R Q := by
  intro p e rm s m args below meth cc H locs cells slots lsA stA am am0 K0 hcx hsf hma hdf hdl hcb hsb hh hS hl hs he
  obtain ⟨hx, hb, hr, hml, hown, hlk, hnm, htb⟩ := id hcx
  obtain ⟨v, w, r, rfl, hc, hc2, h⟩ := (show ∃ v w r, st = v :: w :: r ∧ isC1 v ∧ isC1 w ∧ Snd l base D d b y (i + 1) ls (v :: w :: v :: w :: r) K I R Q from h9)
  obtain ⟨hd, hn⟩ := dc_at (show dc y i .dup2 1 = true from HC)
  obtain ⟨v', r1, rfl, hv, hs1⟩ := sr_c hs
  obtain ⟨w', r2, rfl, hw, hs2⟩ := sr_c hs1
  refine lv_dup2_11 hx hb hd (by first | exact vr_c1 hv hc | exact vr_c1 hw hc2) (by first | exact vr_c1 hw hc2 | exact vr_c1 hv hc) ?_
  rw [← hn]
  exact h p e rm s m args below meth cc H locs cells slots lsA _ am am0 K0 hcx hsf hma hdf hdl hcb hsb hh hS hl ⟨hv, hw, hv, hw, hs2⟩ he

set_option maxHeartbeats 1000000 in
theorem sd_15 {l : Launch} {base : Nat} {D : va_G} {d b y i : Nat} {ls : List (Option PV)} {st : List PV} {K : KM} {I : IM} {R : RM} {Q : QT} {a c : Nat} {z : Int} (HC : chkB y i 15 a c z (pg_wd y i) = true) (h9 : stA (Snd l base D) 15 a c z d b y i ls st K I R Q) : Snd l base D d b y i ls st K I R Q := by
  intro p e rm s m args below meth cc H locs cells slots lsA stA am am0 K0 hcx hsf hma hdf hdl hcb hsb hh hS hl hs he
  obtain ⟨hx, hb, hr, hml, hown, hlk, hnm, htb⟩ := id hcx
  obtain ⟨v, r, rfl, hc, h⟩ := (show ∃ v r, st = v :: r ∧ isC1 v ∧ Snd l base D d b y (i + 1) ls r K I R Q from h9)
  obtain ⟨hd, hn⟩ := dc_at (show dc y i .pop 1 = true from HC)
  obtain ⟨v', r1, rfl, hv, hs1⟩ := sr_c hs
  refine lv_pop hx hb hd (vr_c1 hv hc) ?_
  rw [← hn]
  exact h p e rm s m args below meth cc H locs cells slots lsA _ am am0 K0 hcx hsf hma hdf hdl hcb hsb hh hS hl hs1 he

theorem off_eq {y i t : Nat} : ((pg_pc y i : Nat) : Int) + pg_off y i t = ((pg_pc y t : Nat) : Int) := by
  unfold pg_off
  omega

set_option maxHeartbeats 1000000 in
theorem sd_16 {l : Launch} {base : Nat} {D : va_G} {d b y i : Nat} {ls : List (Option PV)} {st : List PV} {K : KM} {I : IM} {R : RM} {Q : QT} {a c : Nat} {z : Int} (HC : chkB y i 16 a c z (pg_wd y i) = true) (h9 : stA (Snd l base D) 16 a c z d b y i ls st K I R Q) : Snd l base D d b y i ls st K I R Q := by
  intro p e rm s m args below meth cc H locs cells slots lsA stA am am0 K0 hcx hsf hma hdf hdl hcb hsb hh hS hl hs he
  obtain ⟨hx, hb, hr, hml, hown, hlk, hnm, htb⟩ := id hcx
  have hd : decode (pg_by y) (pg_pc y i) = .ok (.goto (pg_off y i a), 3) := of_decide_eq_true (show decide _ = true from HC)
  refine lv_goto hx hb hd off_eq ?_
  exact (show Snd l base D d b y a ls st K I R Q from h9) p e rm s m args below meth cc H locs cells slots lsA _ am am0 K0 hcx hsf hma hdf hdl hcb hsb hh hS hl hs he

set_option maxHeartbeats 1000000 in
theorem sd_17 {l : Launch} {base : Nat} {D : va_G} {d b y i : Nat} {ls : List (Option PV)} {st : List PV} {K : KM} {I : IM} {R : RM} {Q : QT} {a c : Nat} {z : Int} (HC : chkB y i 17 a c z (pg_wd y i) = true) (h9 : stA (Snd l base D) 17 a c z d b y i ls st K I R Q) : Snd l base D d b y i ls st K I R Q := by
  intro p e rm s m args below meth cc H locs cells slots lsA stA am am0 K0 hcx hsf hma hdf hdl hcb hsb hh hS hl hs he
  obtain ⟨hx, hb, hr, hml, hown, hlk, hnm, htb⟩ := id hcx
  obtain ⟨x, r, rfl, ht, hf⟩ := (show ∃ x r, st = pI x :: r ∧ (cmpc c x 0 → Snd l base D d b y a ls r K I R Q) ∧ (¬ cmpc c x 0 → Snd l base D d b y (i + 1) ls r K I R Q) from h9)
  obtain ⟨hd, hn⟩ := dc_at (show dc y i (ifI c (pg_off y i a)) 3 = true from HC)
  obtain ⟨r1, rfl, hs1⟩ := sr_i hs
  have ht' : cmpc c x 0 → W p l e rm s m args below meth cc H locs cells slots (vx_MQ below (QcF base D am0 K0 Q) (XcF base D am0 K0 Q) args s rm.cells rm.slots (ab base)) (F0 m (pg_pc y a) lsA r1) := fun q => ht q p e rm s m args below meth cc H locs cells slots lsA _ am am0 K0 hcx hsf hma hdf hdl hcb hsb hh hS hl hs1 he
  have hf' : ¬ cmpc c x 0 → W p l e rm s m args below meth cc H locs cells slots (vx_MQ below (QcF base D am0 K0 Q) (XcF base D am0 K0 Q) args s rm.cells rm.slots (ab base)) (F0 m (pg_pc y i + 3) lsA r1) := fun q => by
    rw [← hn]
    exact hf q p e rm s m args below meth cc H locs cells slots lsA _ am am0 K0 hcx hsf hma hdf hdl hcb hsb hh hS hl hs1 he
  match c, hd, ht', hf' with
  | 0, hd, ht, hf => exact lv_if_eq hx hb hd off_eq ht hf
  | 1, hd, ht, hf => exact lv_if_ne hx hb hd off_eq ht (fun q => hf (fun q2 => q2 q))
  | 2, hd, ht, hf => exact lv_if_lt hx hb hd off_eq ht hf
  | 3, hd, ht, hf => exact lv_if_ge hx hb hd off_eq ht hf
  | 4, hd, ht, hf => exact lv_if_gt hx hb hd off_eq ht hf
  | _ + 5, hd, ht, hf => exact lv_if_le hx hb hd off_eq ht hf

set_option maxHeartbeats 1000000 in
theorem sd_18 {l : Launch} {base : Nat} {D : va_G} {d b y i : Nat} {ls : List (Option PV)} {st : List PV} {K : KM} {I : IM} {R : RM} {Q : QT} {a c : Nat} {z : Int} (HC : chkB y i 18 a c z (pg_wd y i) = true) (h9 : stA (Snd l base D) 18 a c z d b y i ls st K I R Q) : Snd l base D d b y i ls st K I R Q := by
  intro p e rm s m args below meth cc H locs cells slots lsA stA am am0 K0 hcx hsf hma hdf hdl hcb hsb hh hS hl hs he
  obtain ⟨hx, hb, hr, hml, hown, hlk, hnm, htb⟩ := id hcx
  obtain ⟨u, v, r, rfl, ht, hf⟩ := (show ∃ u v r, st = pI v :: pI u :: r ∧ (cmpc c u v → Snd l base D d b y a ls r K I R Q) ∧ (¬ cmpc c u v → Snd l base D d b y (i + 1) ls r K I R Q) from h9)
  obtain ⟨hd, hn⟩ := dc_at (show dc y i (icI c (pg_off y i a)) 3 = true from HC)
  obtain ⟨r1, rfl, hs1⟩ := sr_i hs
  obtain ⟨r2, rfl, hs2⟩ := sr_i hs1
  have ht' : cmpc c u v → W p l e rm s m args below meth cc H locs cells slots (vx_MQ below (QcF base D am0 K0 Q) (XcF base D am0 K0 Q) args s rm.cells rm.slots (ab base)) (F0 m (pg_pc y a) lsA r2) := fun q => ht q p e rm s m args below meth cc H locs cells slots lsA _ am am0 K0 hcx hsf hma hdf hdl hcb hsb hh hS hl hs2 he
  have hf' : ¬ cmpc c u v → W p l e rm s m args below meth cc H locs cells slots (vx_MQ below (QcF base D am0 K0 Q) (XcF base D am0 K0 Q) args s rm.cells rm.slots (ab base)) (F0 m (pg_pc y i + 3) lsA r2) := fun q => by
    rw [← hn]
    exact hf q p e rm s m args below meth cc H locs cells slots lsA _ am am0 K0 hcx hsf hma hdf hdl hcb hsb hh hS hl hs2 he
  match c, hd, ht', hf' with
  | 0, hd, ht, hf => exact lv_icmp_eq hx hb hd off_eq ht hf
  | 1, hd, ht, hf => exact lv_icmp_ne hx hb hd off_eq ht (fun q => hf (fun q2 => q2 q))
  | 2, hd, ht, hf => exact lv_icmp_lt hx hb hd off_eq ht hf
  | 3, hd, ht, hf => exact lv_icmp_ge hx hb hd off_eq ht hf
  | 4, hd, ht, hf => exact lv_icmp_gt hx hb hd off_eq ht hf
  | _ + 5, hd, ht, hf => exact lv_icmp_le hx hb hd off_eq ht hf

set_option maxHeartbeats 1000000 in
theorem sd_19 {l : Launch} {base : Nat} {D : va_G} {d b y i : Nat} {ls : List (Option PV)} {st : List PV} {K : KM} {I : IM} {R : RM} {Q : QT} {a c : Nat} {z : Int} (HC : chkB y i 19 a c z (pg_wd y i) = true) (h9 : stA (Snd l base D) 19 a c z d b y i ls st K I R Q) : Snd l base D d b y i ls st K I R Q := by
  intro p e rm s m args below meth cc H locs cells slots lsA stA am am0 K0 hcx hsf hma hdf hdl hcb hsb hh hS hl hs he
  obtain ⟨hx, hb, hr, hml, hown, hlk, hnm, htb⟩ := id hcx
  obtain ⟨q, r, rfl, ht, hf⟩ := (show ∃ q r, st = pR q :: r ∧ (¬ q = none → Snd l base D d b y a ls r K I R Q) ∧ (q = none → Snd l base D d b y (i + 1) ls r K I R Q) from h9)
  obtain ⟨hd, hn⟩ := dc_at (show dc y i (.ifnonnull (pg_off y i a)) 3 = true from HC)
  obtain ⟨v', r1, rfl, hv, hs1⟩ := sr_c hs
  cases q with
  | none =>
    obtain rfl := (show v' = .null from hv)
    refine lv_ifnonnullN hx hb hd ?_
    rw [← hn]
    exact hf rfl p e rm s m args below meth cc H locs cells slots lsA _ am am0 K0 hcx hsf hma hdf hdl hcb hsb hh hS hl hs1 he
  | some L =>
    obtain ⟨rfl, hk⟩ := hv
    refine lv_ifnonnull hx hb hd off_eq ?_
    exact ht (fun q => by cases q) p e rm s m args below meth cc H locs cells slots lsA _ am am0 K0 hcx hsf hma hdf hdl hcb hsb hh hS hl hs1 he

set_option maxHeartbeats 1000000 in
theorem sd_20 {l : Launch} {base : Nat} {D : va_G} {d b y i : Nat} {ls : List (Option PV)} {st : List PV} {K : KM} {I : IM} {R : RM} {Q : QT} {a c : Nat} {z : Int} (HC : chkB y i 20 a c z (pg_wd y i) = true) (h9 : stA (Snd l base D) 20 a c z d b y i ls st K I R Q) : Snd l base D d b y i ls st K I R Q := by
  intro p e rm s m args below meth cc H locs cells slots lsA stA am am0 K0 hcx hsf hma hdf hdl hcb hsb hh hS hl hs he
  obtain ⟨hx, hb, hr, hml, hown, hlk, hnm, htb⟩ := id hcx
  obtain ⟨x, r, rfl, ht, hf⟩ := (show ∃ x r, st = pI x :: r ∧ (∀ (k : Nat) (t : Nat), (pg_sw.getD a (0, 0, 0, [])).2.2.2[k]? = some t → x.toInt = (pg_sw.getD a (0, 0, 0, [])).1 + k → Snd l base D d b y t ls r K I R Q) ∧ ((x.toInt < (pg_sw.getD a (0, 0, 0, [])).1 ∨ (pg_sw.getD a (0, 0, 0, [])).2.1 < x.toInt) → Snd l base D d b y (pg_sw.getD a (0, 0, 0, [])).2.2.1 ls r K I R Q) from h9)
  have HC : (match decode (pg_by y) (pg_pc y i) with
      | .ok (.tableswitch dflt lo hi offs, _) => decide (lo = (pg_sw.getD a (0, 0, 0, [])).1) && decide (hi = (pg_sw.getD a (0, 0, 0, [])).2.1) && decide (dflt = pg_off y i (pg_sw.getD a (0, 0, 0, [])).2.2.1) && decide (offs.toList = (pg_sw.getD a (0, 0, 0, [])).2.2.2.map (fun t => pg_off y i t)) && decide (hi - lo + 1 = ((pg_sw.getD a (0, 0, 0, [])).2.2.2.length : Int))
      | _ => false) = true := HC
  obtain ⟨r1, rfl, hs1⟩ := sr_i hs
  generalize pg_sw.getD a (0, 0, 0, []) = sw at ht hf HC
  split at HC
  · rename_i dflt lo hi offs len hd
    simp only [Bool.and_eq_true, decide_eq_true_eq] at HC
    obtain ⟨⟨⟨⟨h1, h2⟩, h3⟩, h4⟩, h5⟩ := HC
    by_cases hlo : x.toInt < lo
    · refine lv_tableOut (tgt := pg_pc y sw.2.2.1) hx hb hd (Or.inl hlo) (by rw [h3]; exact off_eq) ?_
      exact hf (Or.inl (by rw [← h1]; exact hlo)) p e rm s m args below meth cc H locs cells slots lsA _ am am0 K0 hcx hsf hma hdf hdl hcb hsb hh hS hl hs1 he
    · by_cases hhi : hi < x.toInt
      · refine lv_tableOut (tgt := pg_pc y sw.2.2.1) hx hb hd (Or.inr hhi) (by rw [h3]; exact off_eq) ?_
        exact hf (Or.inr (by rw [← h2]; exact hhi)) p e rm s m args below meth cc H locs cells slots lsA _ am am0 K0 hcx hsf hma hdf hdl hcb hsb hh hS hl hs1 he
      · have hk : (x.toInt - lo).toNat < sw.2.2.2.length := by omega
        have e1 : sw.2.2.2[(x.toInt - lo).toNat]? = some (sw.2.2.2[(x.toInt - lo).toNat]) := List.getElem?_eq_getElem hk
        refine lv_tableIn (off := pg_off y i (sw.2.2.2[(x.toInt - lo).toNat])) (tgt := pg_pc y (sw.2.2.2[(x.toInt - lo).toNat])) hx hb hd hlo hhi (by rw [← Array.getElem?_toList, h4, List.getElem?_map, e1]; rfl) off_eq ?_
        exact ht _ _ e1 (by rw [← h1]; omega) p e rm s m args below meth cc H locs cells slots lsA _ am am0 K0 hcx hsf hma hdf hdl hcb hsb hh hS hl hs1 he
  · cases HC

set_option maxHeartbeats 1000000 in
theorem sd_21 {l : Launch} {base : Nat} {D : va_G} {d b y i : Nat} {ls : List (Option PV)} {st : List PV} {K : KM} {I : IM} {R : RM} {Q : QT} {a c : Nat} {z : Int} (HC : chkB y i 21 a c z (pg_wd y i) = true) (h9 : stA (Snd l base D) 21 a c z d b y i ls st K I R Q) : Snd l base D d b y i ls st K I R Q := by
  intro p e rm s m args below meth cc H locs cells slots lsA stA am am0 K0 hcx hsf hma hdf hdl hcb hsb hh hS hl hs he
  obtain ⟨hx, hb, hr, hml, hown, hlk, hnm, htb⟩ := id hcx
  obtain ⟨x, r, rfl, h⟩ := (show ∃ x r, st = pI x :: r ∧ Snd l base D d b y (i + 1) ls (pL x :: r) K I R Q from h9)
  obtain ⟨hd, hn⟩ := dc_at (show dc y i .i2l 1 = true from HC)
  obtain ⟨r1, rfl, hs1⟩ := sr_i hs
  refine lv_i2l hx hb hd rfl ?_
  rw [← hn]
  exact h p e rm s m args below meth cc H locs cells slots lsA _ am am0 K0 hcx hsf hma hdf hdl hcb hsb hh hS hl ⟨rfl, hs1⟩ he

theorem lg_cmp_0 (u v : Int32) : lg_cmp u.toInt64 v.toInt64 = 0 ↔ u = v := by
  have h : u.toInt64 = v.toInt64 ↔ u = v := ⟨fun q => by
    have := congrArg Int64.toInt q
    rw [Int32.toInt_toInt64, Int32.toInt_toInt64] at this
    exact Int32.toInt_inj.mp this, fun q => by rw [q]⟩
  unfold lg_cmp
  constructor
  · intro q
    split at q
    · exact absurd q (by decide)
    · split at q
      · rename_i e
        exact h.mp e
      · exact absurd q (by decide)
  · intro q
    subst q
    rw [if_neg (by rw [gt_iff_lt, Int64.lt_iff_toInt_lt]; omega), if_pos rfl]

set_option maxHeartbeats 1000000 in
theorem sd_22 {l : Launch} {base : Nat} {D : va_G} {d b y i : Nat} {ls : List (Option PV)} {st : List PV} {K : KM} {I : IM} {R : RM} {Q : QT} {a c : Nat} {z : Int} (HC : chkB y i 22 a c z (pg_wd y i) = true) (h9 : stA (Snd l base D) 22 a c z d b y i ls st K I R Q) : Snd l base D d b y i ls st K I R Q := by
  intro p e rm s m args below meth cc H locs cells slots lsA stA am am0 K0 hcx hsf hma hdf hdl hcb hsb hh hS hl hs he
  obtain ⟨hx, hb, hr, hml, hown, hlk, hnm, htb⟩ := id hcx
  obtain ⟨u, v, r, rfl, h⟩ := (show ∃ u v r, st = pL v :: pL u :: r ∧ ∀ x : Int32, (x = 0 ↔ u = v) → Snd l base D d b y (i + 1) ls (pI x :: r) K I R Q from h9)
  obtain ⟨hd, hn⟩ := dc_at (show dc y i .lcmp 1 = true from HC)
  obtain ⟨r1, rfl, hs1⟩ := sr_l hs
  obtain ⟨r2, rfl, hs2⟩ := sr_l hs1
  refine W.lcmp hx hb hd ?_
  rw [← hn]
  exact h _ (lg_cmp_0 u v) p e rm s m args below meth cc H locs cells slots lsA _ am am0 K0 hcx hsf hma hdf hdl hcb hsb hh hS hl ⟨rfl, hs2⟩ he

set_option maxHeartbeats 1000000 in
theorem sd_23 {l : Launch} {base : Nat} {D : va_G} {d b y i : Nat} {ls : List (Option PV)} {st : List PV} {K : KM} {I : IM} {R : RM} {Q : QT} {a c : Nat} {z : Int} (HC : chkB y i 23 a c z (pg_wd y i) = true) (h9 : stA (Snd l base D) 23 a c z d b y i ls st K I R Q) : Snd l base D d b y i ls st K I R Q := by
  intro p e rm s m args below meth cc H locs cells slots lsA stA am am0 K0 hcx hsf hma hdf hdl hcb hsb hh hS hl hs he
  obtain ⟨hx, hb, hr, hml, hown, hlk, hnm, htb⟩ := id hcx
  obtain ⟨h01, h⟩ := (show (z = 0 ∨ z = 1) ∧ Snd l base D d b y (i + 1) ls (pL (Int32.ofInt z) :: st) K I R Q from h9)
  have HC : ((decide (z = 0) && dc y i (.lconst 0) 1) || (decide (z = 1) && dc y i (.lconst 1) 1)) = true := HC
  rw [Bool.or_eq_true, Bool.and_eq_true, Bool.and_eq_true, decide_eq_true_eq, decide_eq_true_eq] at HC
  rcases HC with ⟨rfl, h0⟩ | ⟨rfl, h0⟩
  · obtain ⟨hd, hn⟩ := dc_at h0
    refine lv_lconst (v := (Int32.ofInt 0).toInt64) hx hb hd (by decide) ?_
    rw [← hn]
    exact h p e rm s m args below meth cc H locs cells slots lsA _ am am0 K0 hcx hsf hma hdf hdl hcb hsb hh hS hl ⟨rfl, hs⟩ he
  · obtain ⟨hd, hn⟩ := dc_at h0
    refine lv_lconst (v := (Int32.ofInt 1).toInt64) hx hb hd (by decide) ?_
    rw [← hn]
    exact h p e rm s m args below meth cc H locs cells slots lsA _ am am0 K0 hcx hsf hma hdf hdl hcb hsb hh hS hl ⟨rfl, hs⟩ he
end
section
/-! the steps of the pure machine that read and write cells -/
abbrev wl (Ls : List Nat) (f : Nat → va_E) : va_W := ([] : va_W) ++ va_pl Ls f
theorem hp_write {base : Nat} {D : va_G} {am : Lb → Nat} {K : KM} {I I' : IM} {R R' : RM} {s : State} {H H1 : Heap} {tys : List (ClassId × FieldType)} {Ls : List Nat} {f : Nat → va_E} (h : hq base D am K I R s H tys Ls f) {L : Lb} {k n q0 : Nat} (hK : K L = some (k, n)) (hk : k ≠ 14) {e e' : va_E} (he : f (am L) = e) (hq0 : (wl Ls f)[q0]? = some (am L, e))
    (hP1 : va_P D vwCl ((wl Ls f).set q0 (am L, e')) H1) (hD1 : va_D (ab base) ((wl Ls f).set q0 (am L, e'))) (hent : ent am tys k n (I' L) (R' L) e') (hI : ∀ L2, L2 ≠ L → I' L2 = I L2 ∧ R' L2 = R L2) (hR : ∀ j L', R' L j = some L' → K L' ≠ none) (hbel : ∀ q, q < base → H1[q]? = H[q]?) : hp base D am K I' R' s H1 := by
  obtain ⟨h1, h2, h3, h4, h5, h6, h7⟩ := h
  subst he
  have hm := (h4 L k n hK hk).1
  have e1 := va_pl_set (e := e') h3 hm hq0
  rw [e1] at hP1 hD1
  refine ⟨tys, Ls, va_up f (am L) e', h1, hP1, hD1, fun L2 k2 n2 hK2 hk2 => ?_, fun L2 n2 hK2 => ?_, h6, fun L2 j L' hK2 hR2 => ?_⟩
  · obtain ⟨m2, t2⟩ := h4 L2 k2 n2 hK2 hk2
    refine ⟨m2, ?_⟩
    by_cases e2 : L2 = L
    · subst e2
      rw [hK] at hK2
      cases hK2
      rw [show va_up f (am L2) e' (am L2) = e' from if_pos rfl]
      exact hent
    · have e3 : am L2 ≠ am L := fun q => e2 (h6 L2 L (by rw [hK2]; exact fun q => by cases q) (by rw [hK]; exact fun q => by cases q) q)
      rw [show va_up f (am L) e' (am L2) = f (am L2) from if_neg e3, (hI L2 e2).1, (hI L2 e2).2]
      exact t2
  · have e2 : L2 ≠ L := fun q => by
      subst q
      rw [hK] at hK2
      cases hK2
      exact hk rfl
    obtain ⟨⟨scr, g1, g2⟩, g3⟩ := h5 L2 n2 hK2
    rw [(hI L2 e2).1]
    exact ⟨⟨scr, by rw [hbel _ g3]; exact g1, g2⟩, g3⟩
  · by_cases e2 : L2 = L
    · subst e2
      exact hR j L' hR2
    · rw [(hI L2 e2).2] at hR2
      exact h7 L2 j L' hK2 hR2
theorem bel_of {base : Nat} {s : State} {H H1 : Heap} {locs locs1 : List Loc} (hb : base ≤ s.heap.size) (h : va_S (ab base) s.heap H locs) (h1 : va_S (ab base) s.heap H1 locs1) : ∀ q, q < base → H1[q]? = H[q]? := fun q hq => by
  rw [h.2.1 q (Nat.lt_of_lt_of_le hq hb) (Nat.not_le.mpr hq), h1.2.1 q (Nat.lt_of_lt_of_le hq hb) (Nat.not_le.mpr hq)]
theorem hq_obj {base : Nat} {D : va_G} {am : Lb → Nat} {K : KM} {I : IM} {R : RM} {s : State} {H : Heap} {tys : List (ClassId × FieldType)} {Ls : List Nat} {f : Nat → va_E} (h : hq base D am K I R s H tys Ls f) {L : Lb} {k n : Nat} (hK : K L = some (k, n)) (hk : k < 7) : ∃ (q0 : Nat) (fs : List Value), (wl Ls f)[q0]? = some (am L, .inr (k, fs)) ∧ f (am L) = .inr (k, fs) ∧ fs.length = nfl k ∧ ∀ j, j < nfl k → fs[j]? = some (if isRT (tyc k j) = true then va_rf ((R L j).map am) else .int (I L j)) := by
  obtain ⟨h1, h2, h3, h4, h5, h6, h7⟩ := h
  obtain ⟨hm, he⟩ := h4 L k n hK (by omega)
  obtain ⟨q0, hq0⟩ := va_pl_get (X := ([] : va_W)) (f := f) hm
  rcases he with ⟨-, fs, e, a, b⟩ | ⟨h0, -⟩ | ⟨h0, -⟩ | ⟨h0, -⟩
  · exact ⟨q0, fs, by rw [← e]; exact hq0, e, a, b⟩
  · exact absurd hk (by omega)
  · exact absurd hk (by omega)
  · exact absurd hk (by omega)
theorem hq_ari {base : Nat} {D : va_G} {am : Lb → Nat} {K : KM} {I : IM} {R : RM} {s : State} {H : Heap} {tys : List (ClassId × FieldType)} {Ls : List Nat} {f : Nat → va_E} (h : hq base D am K I R s H tys Ls f) {L : Lb} {k n : Nat} (hK : K L = some (k, n)) (hk : k = 7 ∨ k = 8) : ∃ (q0 : Nat) (cA : ClassId) (t0 : Nat), (wl Ls f)[q0]? = some (am L, .inl (cA, n, .inl (I L))) ∧ f (am L) = .inl (cA, n, .inl (I L)) ∧ tys[t0]? = some (cA, kty k) := by
  obtain ⟨h1, h2, h3, h4, h5, h6, h7⟩ := h
  obtain ⟨hm, he⟩ := h4 L k n hK (by omega)
  obtain ⟨q0, hq0⟩ := va_pl_get (X := ([] : va_W)) (f := f) hm
  rcases he with ⟨h0, -⟩ | ⟨-, cA, t0, e, b⟩ | ⟨h0, -⟩ | ⟨h0, -⟩
  · exact absurd h0 (by omega)
  · exact ⟨q0, cA, t0, by rw [← e]; exact hq0, e, b⟩
  · exact absurd h0 (by omega)
  · exact absurd h0 (by omega)
theorem hq_arl {base : Nat} {D : va_G} {am : Lb → Nat} {K : KM} {I : IM} {R : RM} {s : State} {H : Heap} {tys : List (ClassId × FieldType)} {Ls : List Nat} {f : Nat → va_E} (h : hq base D am K I R s H tys Ls f) {L : Lb} {n : Nat} (hK : K L = some (13, n)) : ∃ (q0 : Nat) (cA : ClassId) (t0 : Nat), (wl Ls f)[q0]? = some (am L, .inl (cA, n, .inr (.inl (fun j => (I L j).toInt64)))) ∧ f (am L) = .inl (cA, n, .inr (.inl (fun j => (I L j).toInt64))) ∧ tys[t0]? = some (cA, .long) := by
  obtain ⟨h1, h2, h3, h4, h5, h6, h7⟩ := h
  obtain ⟨hm, he⟩ := h4 L 13 n hK (by omega)
  obtain ⟨q0, hq0⟩ := va_pl_get (X := ([] : va_W)) (f := f) hm
  rcases he with ⟨h0, -⟩ | ⟨h0, -⟩ | ⟨-, cA, t0, e, b⟩ | ⟨h0, -⟩
  · exact absurd h0 (by omega)
  · exact absurd h0 (by omega)
  · exact ⟨q0, cA, t0, by rw [← e]; exact hq0, e, b⟩
  · exact absurd h0 (by omega)
theorem hq_arq {base : Nat} {D : va_G} {am : Lb → Nat} {K : KM} {I : IM} {R : RM} {s : State} {H : Heap} {tys : List (ClassId × FieldType)} {Ls : List Nat} {f : Nat → va_E} (h : hq base D am K I R s H tys Ls f) {L : Lb} {k n : Nat} (hK : K L = some (k, n)) (hk : 9 ≤ k ∧ k ≤ 12) : ∃ (q0 : Nat) (cA : ClassId) (t0 : Nat), (wl Ls f)[q0]? = some (am L, .inl (cA, n, .inr (.inr (.inr (.inr (fun j => (R L j).map am)))))) ∧ f (am L) = .inl (cA, n, .inr (.inr (.inr (.inr (fun j => (R L j).map am))))) ∧ tys[t0]? = some (cA, .object (elN k)) := by
  obtain ⟨h1, h2, h3, h4, h5, h6, h7⟩ := h
  obtain ⟨hm, he⟩ := h4 L k n hK (by omega)
  obtain ⟨q0, hq0⟩ := va_pl_get (X := ([] : va_W)) (f := f) hm
  rcases he with ⟨h0, -⟩ | ⟨h0, -⟩ | ⟨h0, -⟩ | ⟨-, cA, t0, e, b⟩
  · exact absurd h0 (by omega)
  · exact absurd h0 (by omega)
  · exact absurd h0 (by omega)
  · exact ⟨q0, cA, t0, by rw [← e]; exact hq0, e, b⟩
theorem setI_at {I : IM} {L : Lb} {g : Nat → Int32} : setI I L g L = g := if_pos rfl
theorem setI_ne {I : IM} {L L2 : Lb} {g : Nat → Int32} (h : L2 ≠ L) : setI I L g L2 = I L2 := if_neg h
theorem setR_at {R : RM} {L : Lb} {g : Nat → Option Lb} : setR R L g L = g := if_pos rfl
theorem setR_ne {R : RM} {L L2 : Lb} {g : Nat → Option Lb} (h : L2 ≠ L) : setR R L g L2 = R L2 := if_neg h
theorem up2_at {I : IM} {L : Lb} {k : Nat} {x : Int32} : up2 I L k x L = upd (I L) k x := if_pos rfl
theorem up2R_at {R : RM} {L : Lb} {k : Nat} {x : Option Lb} : up2R R L k x L = va_up (R L) k x := if_pos rfl
theorem nar_b {x : Int32} (h : x = 0 ∨ x = 1) : vp_nar .boolean x = x := by
  rcases h with rfl | rfl <;> rfl

set_option maxHeartbeats 1000000 in
theorem sd_24 {l : Launch} {base : Nat} {D : va_G} {d b y i : Nat} {ls : List (Option PV)} {st : List PV} {K : KM} {I : IM} {R : RM} {Q : QT} {a c : Nat} {z : Int} (HC : chkB y i 24 a c z (pg_wd y i) = true) (h9 : stB (Snd l base D) 24 a c z d b y i ls st K I R Q) : Snd l base D d b y i ls st K I R Q := by
  intro p e rm s m args below meth cc H locs cells slots lsA stA am am0 K0 hcx hsf hma hdf hdl hcb hsb hh hS hl hs he
  obtain ⟨hx, hb, hr, hml, hown, hlk, hnm, htb⟩ := id hcx
  obtain ⟨tys, Ls, f, hhq⟩ := id hh
  obtain ⟨hKK, hP, hD, -, h14, hinj, hRR⟩ := id hhq
  obtain ⟨j, L, r, n, rfl, hK, hin, h⟩ := (show ∃ j L r n, st = pI j :: pR (some L) :: r ∧ K L = some (13, n) ∧ vp_in j n ∧ Snd l base D d b y (i + 1) ls (pL (I L j.toNatClampNeg) :: r) K I R Q from h9)
  obtain ⟨hd, hn⟩ := dc_at (show dc y i .laload 1 = true from HC)
  obtain ⟨r1, rfl, hs1⟩ := sr_i hs
  obtain ⟨r2, rfl, hk2, hs2⟩ := sr_r hs1
  obtain ⟨q0, cA, t0, hq0, hfe, ht0⟩ := hq_arl hhq hK
  refine va_lald hx hb hKK hP q0 t0 hq0 ht0 hin hd ?_
  rw [← hn]
  exact h p e rm s m args below meth cc H locs cells slots lsA _ am am0 K0 hcx hsf hma hdf hdl hcb hsb hh hS hl ⟨rfl, hs2⟩ he

set_option maxHeartbeats 1000000 in
theorem sd_27 {l : Launch} {base : Nat} {D : va_G} {d b y i : Nat} {ls : List (Option PV)} {st : List PV} {K : KM} {I : IM} {R : RM} {Q : QT} {a c : Nat} {z : Int} (HC : chkB y i 27 a c z (pg_wd y i) = true) (h9 : stB (Snd l base D) 27 a c z d b y i ls st K I R Q) : Snd l base D d b y i ls st K I R Q := by
  intro p e rm s m args below meth cc H locs cells slots lsA stA am am0 K0 hcx hsf hma hdf hdl hcb hsb hh hS hl hs he
  obtain ⟨hx, hb, hr, hml, hown, hlk, hnm, htb⟩ := id hcx
  obtain ⟨tys, Ls, f, hhq⟩ := id hh
  obtain ⟨hKK, hP, hD, -, h14, hinj, hRR⟩ := id hhq
  obtain ⟨j, L, r, k, n, rfl, hK, hk, hin, h⟩ := (show ∃ j L r k n, st = pI j :: pR (some L) :: r ∧ K L = some (k, n) ∧ (k = 7 ∨ k = 14) ∧ vp_in j n ∧ Snd l base D d b y (i + 1) ls (pI (I L j.toNatClampNeg) :: r) K I R Q from h9)
  obtain ⟨hd, hn⟩ := dc_at (show dc y i .iaload 1 = true from HC)
  obtain ⟨r1, rfl, hs1⟩ := sr_i hs
  obtain ⟨r2, rfl, hk2, hs2⟩ := sr_r hs1
  rcases hk with rfl | rfl
  · obtain ⟨q0, cA, t0, hq0, hfe, ht0⟩ := hq_ari hhq hK (Or.inl rfl)
    refine va_iald hx hb hKK hP q0 t0 hq0 ht0 hin hd ?_
    rw [← hn]
    exact h p e rm s m args below meth cc H locs cells slots lsA _ am am0 K0 hcx hsf hma hdf hdl hcb hsb hh hS hl ⟨rfl, hs2⟩ he
  · obtain ⟨⟨scr, hc, hof, hkn, hsz, hval⟩, -⟩ := h14 L n hK
    have hlt : j.toNatClampNeg < n := Nat.not_le.mp fun q => hin (Or.inr q)
    refine W.iald (v := .int (I L j.toNatClampNeg)) hx hb hc hof hkn (by rw [hsz]; exact hin) (hval _ hlt) rfl rfl hd ?_
    show W p l e rm s m args below meth cc H locs cells slots _ (F0 m (pg_pc y i + 1) lsA (.int (I L j.toNatClampNeg) :: r2))
    rw [← hn]
    exact h p e rm s m args below meth cc H locs cells slots lsA _ am am0 K0 hcx hsf hma hdf hdl hcb hsb hh hS hl ⟨rfl, hs2⟩ he

set_option maxHeartbeats 1000000 in
theorem sd_26 {l : Launch} {base : Nat} {D : va_G} {d b y i : Nat} {ls : List (Option PV)} {st : List PV} {K : KM} {I : IM} {R : RM} {Q : QT} {a c : Nat} {z : Int} (HC : chkB y i 26 a c z (pg_wd y i) = true) (h9 : stB (Snd l base D) 26 a c z d b y i ls st K I R Q) : Snd l base D d b y i ls st K I R Q := by
  intro p e rm s m args below meth cc H locs cells slots lsA stA am am0 K0 hcx hsf hma hdf hdl hcb hsb hh hS hl hs he
  obtain ⟨hx, hb, hr, hml, hown, hlk, hnm, htb⟩ := id hcx
  obtain ⟨tys, Ls, f, hhq⟩ := id hh
  obtain ⟨hKK, hP, hD, -, h14, hinj, hRR⟩ := id hhq
  obtain ⟨L, r, n, rfl, hK, h⟩ := (show ∃ L r n, st = pR (some L) :: r ∧ K L = some (14, n) ∧ Snd l base D d b y (i + 1) ls (pI (Int32.ofNat n) :: r) K I R Q from h9)
  obtain ⟨hd, hn⟩ := dc_at (show dc y i .arraylength 1 = true from HC)
  obtain ⟨r1, rfl, hk2, hs1⟩ := sr_r hs
  obtain ⟨⟨scr, hc, hof, hkn, hsz, hval⟩, -⟩ := h14 L n hK
  refine W.alen (n := Int32.ofNat n) hx hb hc hof (by rw [hsz]) rfl rfl hd ?_
  show W p l e rm s m args below meth cc H locs cells slots _ (F0 m (pg_pc y i + 1) lsA (.int (Int32.ofNat n) :: r1))
  rw [← hn]
  exact h p e rm s m args below meth cc H locs cells slots lsA _ am am0 K0 hcx hsf hma hdf hdl hcb hsb hh hS hl ⟨rfl, hs1⟩ he

set_option maxHeartbeats 1000000 in
theorem sd_29 {l : Launch} {base : Nat} {D : va_G} {d b y i : Nat} {ls : List (Option PV)} {st : List PV} {K : KM} {I : IM} {R : RM} {Q : QT} {a c : Nat} {z : Int} (HC : chkB y i 29 a c z (pg_wd y i) = true) (h9 : stB (Snd l base D) 29 a c z d b y i ls st K I R Q) : Snd l base D d b y i ls st K I R Q := by
  intro p e rm s m args below meth cc H locs cells slots lsA stA am am0 K0 hcx hsf hma hdf hdl hcb hsb hh hS hl hs he
  obtain ⟨hx, hb, hr, hml, hown, hlk, hnm, htb⟩ := id hcx
  obtain ⟨tys, Ls, f, hhq⟩ := id hh
  obtain ⟨hKK, hP, hD, -, h14, hinj, hRR⟩ := id hhq
  obtain ⟨j, L, r, n, rfl, hK, hin, h⟩ := (show ∃ j L r n, st = pI j :: pR (some L) :: r ∧ K L = some (8, n) ∧ vp_in j n ∧ Snd l base D d b y (i + 1) ls (pI (I L j.toNatClampNeg) :: r) K I R Q from h9)
  obtain ⟨hd, hn⟩ := dc_at (show dc y i .baload 1 = true from HC)
  obtain ⟨r1, rfl, hs1⟩ := sr_i hs
  obtain ⟨r2, rfl, hk2, hs2⟩ := sr_r hs1
  obtain ⟨q0, cA, t0, hq0, hfe, ht0⟩ := hq_ari hhq hK (Or.inr rfl)
  refine va_zald hx hb hKK hP q0 t0 hq0 ht0 hin hd ?_
  rw [← hn]
  exact h p e rm s m args below meth cc H locs cells slots lsA _ am am0 K0 hcx hsf hma hdf hdl hcb hsb hh hS hl ⟨rfl, hs2⟩ he

set_option maxHeartbeats 1000000 in
theorem sd_31 {l : Launch} {base : Nat} {D : va_G} {d b y i : Nat} {ls : List (Option PV)} {st : List PV} {K : KM} {I : IM} {R : RM} {Q : QT} {a c : Nat} {z : Int} (HC : chkB y i 31 a c z (pg_wd y i) = true) (h9 : stB (Snd l base D) 31 a c z d b y i ls st K I R Q) : Snd l base D d b y i ls st K I R Q := by
  intro p e rm s m args below meth cc H locs cells slots lsA stA am am0 K0 hcx hsf hma hdf hdl hcb hsb hh hS hl hs he
  obtain ⟨hx, hb, hr, hml, hown, hlk, hnm, htb⟩ := id hcx
  obtain ⟨tys, Ls, f, hhq⟩ := id hh
  obtain ⟨hKK, hP, hD, -, h14, hinj, hRR⟩ := id hhq
  obtain ⟨j, L, r, k, n, rfl, hK, hk, hin, h⟩ := (show ∃ j L r k n, st = pI j :: pR (some L) :: r ∧ K L = some (k, n) ∧ (9 ≤ k ∧ k ≤ 12) ∧ vp_in j n ∧ Snd l base D d b y (i + 1) ls (pR (R L j.toNatClampNeg) :: r) K I R Q from h9)
  obtain ⟨hd, hn⟩ := dc_at (show dc y i .aaload 1 = true from HC)
  obtain ⟨r1, rfl, hs1⟩ := sr_i hs
  obtain ⟨r2, rfl, hk2, hs2⟩ := sr_r hs1
  obtain ⟨q0, cA, t0, hq0, hfe, ht0⟩ := hq_arq hhq hK hk
  refine va_aldq hx hb hKK hP q0 t0 hq0 ht0 hin hd ?_
  rw [← hn]
  exact h p e rm s m args below meth cc H locs cells slots lsA _ am am0 K0 hcx hsf hma hdf hdl hcb hsb hh hS hl ⟨qv_r (fun L2 hL2 => hRR L _ L2 hk2 hL2), hs2⟩ he

set_option maxHeartbeats 1000000 in
theorem sd_28 {l : Launch} {base : Nat} {D : va_G} {d b y i : Nat} {ls : List (Option PV)} {st : List PV} {K : KM} {I : IM} {R : RM} {Q : QT} {a c : Nat} {z : Int} (HC : chkB y i 28 a c z (pg_wd y i) = true) (h9 : stB (Snd l base D) 28 a c z d b y i ls st K I R Q) : Snd l base D d b y i ls st K I R Q := by
  intro p e rm s m args below meth cc H locs cells slots lsA stA am am0 K0 hcx hsf hma hdf hdl hcb hsb hh hS hl hs he
  obtain ⟨hx, hb, hr, hml, hown, hlk, hnm, htb⟩ := id hcx
  obtain ⟨tys, Ls, f, hhq⟩ := id hh
  obtain ⟨hKK, hP, hD, -, h14, hinj, hRR⟩ := id hhq
  obtain ⟨x, j, L, r, n, rfl, hK, hin, h⟩ := (show ∃ x j L r n, st = pI x :: pI j :: pR (some L) :: r ∧ K L = some (7, n) ∧ vp_in j n ∧ Snd l base D d b y (i + 1) ls r K (up2 I L j.toNatClampNeg x) R Q from h9)
  obtain ⟨hd, hn⟩ := dc_at (show dc y i .iastore 1 = true from HC)
  obtain ⟨r1, rfl, hs1⟩ := sr_i hs
  obtain ⟨r2, rfl, hs2⟩ := sr_i hs1
  obtain ⟨r3, rfl, hk2, hs3⟩ := sr_r hs2
  obtain ⟨q0, cA, t0, hq0, hfe, ht0⟩ := hq_ari hhq hK (Or.inl rfl)
  refine va_iast hx hb hKK hP hD hS q0 t0 hq0 ht0 hin hd (fun H1 locs1 hP1 hD1 hS1 => ?_)
  rw [← hn]
  exact h p e rm s m args below meth cc H1 locs1 cells slots lsA _ am am0 K0 hcx hsf hma hdf hdl hcb hsb (hp_write hhq hK (by decide) hfe hq0 hP1 hD1 (Or.inr (Or.inl ⟨Or.inl rfl, cA, t0, by rw [up2_at], ht0⟩)) (fun L2 h2 => ⟨setI_ne h2, rfl⟩) (fun j L2 hj => hRR L j L2 hk2 hj) (bel_of hsf.2.2.2.2.2.2 hS hS1)) hS1 hl hs3 he

set_option maxHeartbeats 1000000 in
theorem sd_30 {l : Launch} {base : Nat} {D : va_G} {d b y i : Nat} {ls : List (Option PV)} {st : List PV} {K : KM} {I : IM} {R : RM} {Q : QT} {a c : Nat} {z : Int} (HC : chkB y i 30 a c z (pg_wd y i) = true) (h9 : stB (Snd l base D) 30 a c z d b y i ls st K I R Q) : Snd l base D d b y i ls st K I R Q := by
  intro p e rm s m args below meth cc H locs cells slots lsA stA am am0 K0 hcx hsf hma hdf hdl hcb hsb hh hS hl hs he
  obtain ⟨hx, hb, hr, hml, hown, hlk, hnm, htb⟩ := id hcx
  obtain ⟨tys, Ls, f, hhq⟩ := id hh
  obtain ⟨hKK, hP, hD, -, h14, hinj, hRR⟩ := id hhq
  obtain ⟨x, j, L, r, n, rfl, hK, hin, h01, h⟩ := (show ∃ x j L r n, st = pI x :: pI j :: pR (some L) :: r ∧ K L = some (8, n) ∧ vp_in j n ∧ (x = 0 ∨ x = 1) ∧ Snd l base D d b y (i + 1) ls r K (up2 I L j.toNatClampNeg x) R Q from h9)
  obtain ⟨hd, hn⟩ := dc_at (show dc y i .bastore 1 = true from HC)
  obtain ⟨r1, rfl, hs1⟩ := sr_i hs
  obtain ⟨r2, rfl, hs2⟩ := sr_i hs1
  obtain ⟨r3, rfl, hk2, hs3⟩ := sr_r hs2
  obtain ⟨q0, cA, t0, hq0, hfe, ht0⟩ := hq_ari hhq hK (Or.inr rfl)
  refine va_zast hx hb hKK hP hD hS q0 t0 hq0 ht0 hin hd (fun H1 locs1 hP1 hD1 hS1 => ?_)
  rw [nar_b h01] at hP1 hD1
  rw [← hn]
  exact h p e rm s m args below meth cc H1 locs1 cells slots lsA _ am am0 K0 hcx hsf hma hdf hdl hcb hsb (hp_write hhq hK (by decide) hfe hq0 hP1 hD1 (Or.inr (Or.inl ⟨Or.inr rfl, cA, t0, by rw [up2_at], ht0⟩)) (fun L2 h2 => ⟨setI_ne h2, rfl⟩) (fun j L2 hj => hRR L j L2 hk2 hj) (bel_of hsf.2.2.2.2.2.2 hS hS1)) hS1 hl hs3 he

set_option maxHeartbeats 1000000 in
theorem sd_25 {l : Launch} {base : Nat} {D : va_G} {d b y i : Nat} {ls : List (Option PV)} {st : List PV} {K : KM} {I : IM} {R : RM} {Q : QT} {a c : Nat} {z : Int} (HC : chkB y i 25 a c z (pg_wd y i) = true) (h9 : stB (Snd l base D) 25 a c z d b y i ls st K I R Q) : Snd l base D d b y i ls st K I R Q := by
  intro p e rm s m args below meth cc H locs cells slots lsA stA am am0 K0 hcx hsf hma hdf hdl hcb hsb hh hS hl hs he
  obtain ⟨hx, hb, hr, hml, hown, hlk, hnm, htb⟩ := id hcx
  obtain ⟨tys, Ls, f, hhq⟩ := id hh
  obtain ⟨hKK, hP, hD, -, h14, hinj, hRR⟩ := id hhq
  obtain ⟨x, j, L, r, n, rfl, hK, hin, h⟩ := (show ∃ x j L r n, st = pL x :: pI j :: pR (some L) :: r ∧ K L = some (13, n) ∧ vp_in j n ∧ Snd l base D d b y (i + 1) ls r K (up2 I L j.toNatClampNeg x) R Q from h9)
  obtain ⟨hd, hn⟩ := dc_at (show dc y i .lastore 1 = true from HC)
  obtain ⟨r1, rfl, hs1⟩ := sr_l hs
  obtain ⟨r2, rfl, hs2⟩ := sr_i hs1
  obtain ⟨r3, rfl, hk2, hs3⟩ := sr_r hs2
  obtain ⟨q0, cA, t0, hq0, hfe, ht0⟩ := hq_arl hhq hK
  refine va_last hx hb hKK hP hD hS q0 t0 hq0 ht0 hin hd (fun H1 locs1 hP1 hD1 hS1 => ?_)
  rw [← hn]
  exact h p e rm s m args below meth cc H1 locs1 cells slots lsA _ am am0 K0 hcx hsf hma hdf hdl hcb hsb (hp_write hhq hK (by decide) hfe hq0 hP1 hD1 (Or.inr (Or.inr (Or.inl ⟨rfl, cA, t0, by rw [up2_at]; exact congrArg (fun g => (Sum.inl (cA, n, Sum.inr (Sum.inl g)) : va_E)) (funext fun q => by unfold vp_updL upd; split <;> rfl), ht0⟩))) (fun L2 h2 => ⟨setI_ne h2, rfl⟩) (fun j L2 hj => hRR L j L2 hk2 hj) (bel_of hsf.2.2.2.2.2.2 hS hS1)) hS1 hl hs3 he

set_option maxHeartbeats 1000000 in
theorem sd_32 {l : Launch} {base : Nat} {D : va_G} {d b y i : Nat} {ls : List (Option PV)} {st : List PV} {K : KM} {I : IM} {R : RM} {Q : QT} {a c : Nat} {z : Int} (HC : chkB y i 32 a c z (pg_wd y i) = true) (h9 : stB (Snd l base D) 32 a c z d b y i ls st K I R Q) : Snd l base D d b y i ls st K I R Q := by
  intro p e rm s m args below meth cc H locs cells slots lsA stA am am0 K0 hcx hsf hma hdf hdl hcb hsb hh hS hl hs he
  obtain ⟨hx, hb, hr, hml, hown, hlk, hnm, htb⟩ := id hcx
  obtain ⟨tys, Ls, f, hhq⟩ := id hh
  obtain ⟨hKK, hP, hD, -, h14, hinj, hRR⟩ := id hhq
  obtain ⟨L', j, L, r, k, n, n', rfl, hK, hk, hK', hin, h⟩ := (show ∃ L' j L r k n n', st = pR (some L') :: pI j :: pR (some L) :: r ∧ K L = some (k, n) ∧ (9 ≤ k ∧ k ≤ 12) ∧ K L' = some (elc k, n') ∧ vp_in j n ∧ Snd l base D d b y (i + 1) ls r K I (up2R R L j.toNatClampNeg (some L')) Q from h9)
  obtain ⟨hd, hn⟩ := dc_at (show dc y i .aastore 1 = true from HC)
  obtain ⟨r1, rfl, hkk, hs1⟩ := sr_r hs
  obtain ⟨r2, rfl, hs2⟩ := sr_i hs1
  obtain ⟨r3, rfl, hk2, hs3⟩ := sr_r hs2
  obtain ⟨q0, cA, t0, hq0, hfe, ht0⟩ := hq_arq hhq hK hk
  have hel : elc k < 7 := by unfold elc; split <;> decide
  obtain ⟨q1, fs, hq1, -, -, -⟩ := hq_obj hhq hK' hel
  refine va_astq (r := (clC (elc k), clT (elc k), nfl (elc k))) hx hb hKK hP hD hS q0 t0 q1 (elc k) hq0 ht0 hq1 (vw_at (elc k) hel) hin hd (fun H1 locs1 hP1 hD1 hS1 => ?_)
  rw [← hn]
  refine h p e rm s m args below meth cc H1 locs1 cells slots lsA _ am am0 K0 hcx hsf hma hdf hdl hcb hsb (hp_write hhq hK (by omega) hfe hq0 hP1 hD1 (Or.inr (Or.inr (Or.inr ⟨hk, cA, t0, ?_, ht0⟩))) (fun L2 h2 => ⟨rfl, setR_ne h2⟩) (fun j2 L2 hj => ?_) (bel_of hsf.2.2.2.2.2.2 hS hS1)) hS1 hl hs3 he
  · rw [up2R_at]
    exact congrArg (fun g => (Sum.inl (cA, n, Sum.inr (Sum.inr (Sum.inr (Sum.inr g)))) : va_E)) (funext fun q => by unfold va_up; split <;> rfl)
  · rw [up2R_at] at hj
    unfold va_up at hj
    split at hj
    · cases hj
      exact hkk
    · exact hRR L j2 L2 hk2 hj

set_option maxHeartbeats 1000000 in
theorem sd_33 {l : Launch} {base : Nat} {D : va_G} {d b y i : Nat} {ls : List (Option PV)} {st : List PV} {K : KM} {I : IM} {R : RM} {Q : QT} {a c : Nat} {z : Int} (HC : chkB y i 33 a c z (pg_wd y i) = true) (h9 : stB (Snd l base D) 33 a c z d b y i ls st K I R Q) : Snd l base D d b y i ls st K I R Q := by
  intro p e rm s m args below meth cc H locs cells slots lsA stA am am0 K0 hcx hsf hma hdf hdl hcb hsb hh hS hl hs he
  obtain ⟨hx, hb, hr, hml, hown, hlk, hnm, htb⟩ := id hcx
  obtain ⟨tys, Ls, f, hhq⟩ := id hh
  obtain ⟨hKK, hP, hD, -, h14, hinj, hRR⟩ := id hhq
  obtain ⟨L, r, n, rfl, hK, h⟩ := (show ∃ L r n, st = pR (some L) :: r ∧ K L = some (a, n) ∧ Snd l base D d b y (i + 1) ls (pI (I L c) :: r) K I R Q from h9)
  have HC : (dc y i (.getfield z.toNat) 3 && decide (a < 7) && decide (c < nfl a) && (decide (tyc a c = .int) || decide (tyc a c = .boolean)) && isw ((pg_wd y i).getD 0 0) (.fieldLink (pg_own y) z.toNat (clT a c).1 (clT a c).2.1 (clT a c).2.2.1)) = true := HC
  simp only [Bool.and_eq_true, Bool.or_eq_true, decide_eq_true_eq] at HC
  obtain ⟨⟨⟨⟨h0, ha⟩, hc⟩, hty⟩, hw⟩ := HC
  obtain ⟨hd, hn⟩ := dc_at h0
  obtain ⟨r1, rfl, hk2, hs1⟩ := sr_r hs
  obtain ⟨q0, fs, hq0, hfe, hfl, hfs⟩ := hq_obj hhq hK ha
  have hv := hfs c hc
  rw [if_neg (by rcases hty with q | q <;> rw [q] <;> exact Bool.false_ne_true)] at hv
  refine va_get hx hb (uws_at ha hsf) (fun _ q => q) hown hKK hP q0 hq0 (vw_at a ha) c hc (sfp_word hsf hw) (fun x q => q) hv hd ?_
  rw [← hn]
  exact h p e rm s m args below meth cc H locs cells slots lsA _ am am0 K0 hcx hsf hma hdf hdl hcb hsb hh hS hl ⟨rfl, hs1⟩ he

set_option maxHeartbeats 1000000 in
theorem sd_34 {l : Launch} {base : Nat} {D : va_G} {d b y i : Nat} {ls : List (Option PV)} {st : List PV} {K : KM} {I : IM} {R : RM} {Q : QT} {a c : Nat} {z : Int} (HC : chkB y i 34 a c z (pg_wd y i) = true) (h9 : stB (Snd l base D) 34 a c z d b y i ls st K I R Q) : Snd l base D d b y i ls st K I R Q := by
  intro p e rm s m args below meth cc H locs cells slots lsA stA am am0 K0 hcx hsf hma hdf hdl hcb hsb hh hS hl hs he
  obtain ⟨hx, hb, hr, hml, hown, hlk, hnm, htb⟩ := id hcx
  obtain ⟨tys, Ls, f, hhq⟩ := id hh
  obtain ⟨hKK, hP, hD, -, h14, hinj, hRR⟩ := id hhq
  obtain ⟨L, r, n, rfl, hK, h⟩ := (show ∃ L r n, st = pR (some L) :: r ∧ K L = some (a, n) ∧ Snd l base D d b y (i + 1) ls (pR (R L c) :: r) K I R Q from h9)
  have HC : (dc y i (.getfield z.toNat) 3 && decide (a < 7) && decide (c < nfl a) && isRT (tyc a c) && isw ((pg_wd y i).getD 0 0) (.fieldLink (pg_own y) z.toNat (clT a c).1 (clT a c).2.1 (clT a c).2.2.1)) = true := HC
  simp only [Bool.and_eq_true, Bool.or_eq_true, decide_eq_true_eq] at HC
  obtain ⟨⟨⟨⟨h0, ha⟩, hc⟩, hty⟩, hw⟩ := HC
  obtain ⟨hd, hn⟩ := dc_at h0
  obtain ⟨r1, rfl, hk2, hs1⟩ := sr_r hs
  obtain ⟨q0, fs, hq0, hfe, hfl, hfs⟩ := hq_obj hhq hK ha
  have hv := hfs c hc
  rw [if_pos hty] at hv
  refine va_get hx hb (uws_at ha hsf) (fun _ q => q) hown hKK hP q0 hq0 (vw_at a ha) c hc (sfp_word hsf hw) (fun x q => q) hv hd ?_
  rw [← hn]
  exact h p e rm s m args below meth cc H locs cells slots lsA _ am am0 K0 hcx hsf hma hdf hdl hcb hsb hh hS hl ⟨qv_r (fun L2 hL2 => hRR L _ L2 hk2 hL2), hs1⟩ he

set_option maxHeartbeats 1000000 in
theorem sd_48 {l : Launch} {base : Nat} {D : va_G} {d b y i : Nat} {ls : List (Option PV)} {st : List PV} {K : KM} {I : IM} {R : RM} {Q : QT} {a c : Nat} {z : Int} (HC : chkB y i 48 a c z (pg_wd y i) = true) (h9 : stB (Snd l base D) 48 a c z d b y i ls st K I R Q) : Snd l base D d b y i ls st K I R Q := by
  intro p e rm s m args below meth cc H locs cells slots lsA stA am am0 K0 hcx hsf hma hdf hdl hcb hsb hh hS hl hs he
  obtain ⟨hx, hb, hr, hml, hown, hlk, hnm, htb⟩ := id hcx
  obtain ⟨tys, Ls, f, hhq⟩ := id hh
  obtain ⟨hKK, hP, hD, -, h14, hinj, hRR⟩ := id hhq
  obtain ⟨L, r, n, rfl, hK, h⟩ := (show ∃ L r n, st = pR (some L) :: r ∧ K L = some (a, n) ∧ Snd l base D d b y (i + 1) ls (pI (I L c) :: r) K I R Q from h9)
  have HC : (dc y i (.getfield z.toNat) 3 && decide (a < 7) && decide (c < nfl a) && (decide (tyc a c = .int) || decide (tyc a c = .boolean)) && isw ((pg_wd y i).getD 0 0) (.fieldLinkNest (pg_own y) z.toNat (clT a c).1 (clT a c).2.1 (clT a c).2.2.1 "KayfabeRing")) = true := HC
  simp only [Bool.and_eq_true, Bool.or_eq_true, decide_eq_true_eq] at HC
  obtain ⟨⟨⟨⟨h0, ha⟩, hc⟩, hty⟩, hw⟩ := HC
  obtain ⟨hd, hn⟩ := dc_at h0
  obtain ⟨r1, rfl, hk2, hs1⟩ := sr_r hs
  obtain ⟨q0, fs, hq0, hfe, hfl, hfs⟩ := hq_obj hhq hK ha
  have hv := hfs c hc
  rw [if_neg (by rcases hty with q | q <;> rw [q] <;> exact Bool.false_ne_true)] at hv
  refine va_getN hx hb (uws_at ha hsf) (fun _ q => q) hown hKK hP q0 hq0 (vw_at a ha) c hc (sfp_word hsf hw) (fun x q => q) hv hd ?_
  rw [← hn]
  exact h p e rm s m args below meth cc H locs cells slots lsA _ am am0 K0 hcx hsf hma hdf hdl hcb hsb hh hS hl ⟨rfl, hs1⟩ he

set_option maxHeartbeats 1000000 in
theorem sd_35 {l : Launch} {base : Nat} {D : va_G} {d b y i : Nat} {ls : List (Option PV)} {st : List PV} {K : KM} {I : IM} {R : RM} {Q : QT} {a c : Nat} {z : Int} (HC : chkB y i 35 a c z (pg_wd y i) = true) (h9 : stB (Snd l base D) 35 a c z d b y i ls st K I R Q) : Snd l base D d b y i ls st K I R Q := by
  intro p e rm s m args below meth cc H locs cells slots lsA stA am am0 K0 hcx hsf hma hdf hdl hcb hsb hh hS hl hs he
  obtain ⟨hx, hb, hr, hml, hown, hlk, hnm, htb⟩ := id hcx
  obtain ⟨tys, Ls, f, hhq⟩ := id hh
  obtain ⟨hKK, hP, hD, -, h14, hinj, hRR⟩ := id hhq
  obtain ⟨x, L, r, n, rfl, hK, h⟩ := (show ∃ x L r n, st = pI x :: pR (some L) :: r ∧ K L = some (a, n) ∧ Snd l base D d b y (i + 1) ls r K (up2 I L c x) R Q from h9)
  have HC : (dc y i (.putfield z.toNat) 3 && decide (a < 7) && decide (c < nfl a) && decide (tyc a c = .int) && decide ((clT a c).2.2.2 = false) && isw ((pg_wd y i).getD 0 0) (.fieldLink (pg_own y) z.toNat (clT a c).1 (clT a c).2.1 (clT a c).2.2.1)) = true := HC
  simp only [Bool.and_eq_true, Bool.or_eq_true, decide_eq_true_eq] at HC
  obtain ⟨⟨⟨⟨⟨h0, ha⟩, hc⟩, hty⟩, hfin⟩, hw⟩ := HC
  obtain ⟨hd, hn⟩ := dc_at h0
  obtain ⟨r1, rfl, hs1⟩ := sr_i hs
  obtain ⟨r2, rfl, hk2, hs2⟩ := sr_r hs1
  obtain ⟨q0, fs, hq0, hfe, hfl, hfs⟩ := hq_obj hhq hK ha
  refine va_put hx hb (uws_at ha hsf) (fun _ q => q) (tyc a) (tyc_at a ha) (nmc_at a ha) hown hKK hP hD hS q0 hq0 (vw_at a ha) c hc (sfp_word hsf hw) (fun x q => q) hfin (tyc_at a ha c hc) (by rw [hty]; rfl) (by rw [hty]; rfl) (by rw [hfl]; exact hc) hd (fun H1 locs1 hP1 hD1 hS1 => ?_)
  rw [← hn]
  refine h p e rm s m args below meth cc H1 locs1 cells slots lsA _ am am0 K0 hcx hsf hma hdf hdl hcb hsb (hp_write hhq hK (by omega) hfe hq0 hP1 hD1 (Or.inl ⟨ha, _, rfl, by rw [List.length_set]; exact hfl, fun j hj => ?_⟩) (fun L2 h2 => ⟨setI_ne h2, rfl⟩) (fun j L2 hj => hRR L j L2 hk2 hj) (bel_of hsf.2.2.2.2.2.2 hS hS1)) hS1 hl hs2 he
  rw [List.getElem?_set]
  by_cases e1 : c = j
  · subst e1
    rw [if_pos rfl, if_pos (by rw [hfl]; exact hc), hty, if_neg (by exact Bool.false_ne_true), up2_at]
    unfold upd
    rw [if_pos rfl]
  · rw [if_neg e1, hfs j hj, up2_at]
    unfold upd
    rw [if_neg (Ne.symm e1)]

set_option maxHeartbeats 1000000 in
theorem sd_50 {l : Launch} {base : Nat} {D : va_G} {d b y i : Nat} {ls : List (Option PV)} {st : List PV} {K : KM} {I : IM} {R : RM} {Q : QT} {a c : Nat} {z : Int} (HC : chkB y i 50 a c z (pg_wd y i) = true) (h9 : stB (Snd l base D) 50 a c z d b y i ls st K I R Q) : Snd l base D d b y i ls st K I R Q := by
  intro p e rm s m args below meth cc H locs cells slots lsA stA am am0 K0 hcx hsf hma hdf hdl hcb hsb hh hS hl hs he
  obtain ⟨hx, hb, hr, hml, hown, hlk, hnm, htb⟩ := id hcx
  obtain ⟨tys, Ls, f, hhq⟩ := id hh
  obtain ⟨hKK, hP, hD, -, h14, hinj, hRR⟩ := id hhq
  obtain ⟨x, L, r, n, rfl, hK, h01, h⟩ := (show ∃ x L r n, st = pI x :: pR (some L) :: r ∧ K L = some (a, n) ∧ (x = 0 ∨ x = 1) ∧ Snd l base D d b y (i + 1) ls r K (up2 I L c x) R Q from h9)
  have HC : (dc y i (.putfield z.toNat) 3 && decide (a < 7) && decide (c < nfl a) && decide (tyc a c = .boolean) && decide ((clT a c).2.2.2 = false) && isw ((pg_wd y i).getD 0 0) (.fieldLink (pg_own y) z.toNat (clT a c).1 (clT a c).2.1 (clT a c).2.2.1)) = true := HC
  simp only [Bool.and_eq_true, Bool.or_eq_true, decide_eq_true_eq] at HC
  obtain ⟨⟨⟨⟨⟨h0, ha⟩, hc⟩, hty⟩, hfin⟩, hw⟩ := HC
  obtain ⟨hd, hn⟩ := dc_at h0
  obtain ⟨r1, rfl, hs1⟩ := sr_i hs
  obtain ⟨r2, rfl, hk2, hs2⟩ := sr_r hs1
  obtain ⟨q0, fs, hq0, hfe, hfl, hfs⟩ := hq_obj hhq hK ha
  refine va_put hx hb (uws_at ha hsf) (fun _ q => q) (tyc a) (tyc_at a ha) (nmc_at a ha) hown hKK hP hD hS q0 hq0 (vw_at a ha) c hc (sfp_word hsf hw) (fun x q => q) hfin (tyc_at a ha c hc) (by rw [hty]; rcases h01 with rfl | rfl <;> rfl) (by rw [hty]; rcases h01 with rfl | rfl <;> rfl) (by rw [hfl]; exact hc) hd (fun H1 locs1 hP1 hD1 hS1 => ?_)
  rw [← hn]
  refine h p e rm s m args below meth cc H1 locs1 cells slots lsA _ am am0 K0 hcx hsf hma hdf hdl hcb hsb (hp_write hhq hK (by omega) hfe hq0 hP1 hD1 (Or.inl ⟨ha, _, rfl, by rw [List.length_set]; exact hfl, fun j hj => ?_⟩) (fun L2 h2 => ⟨setI_ne h2, rfl⟩) (fun j L2 hj => hRR L j L2 hk2 hj) (bel_of hsf.2.2.2.2.2.2 hS hS1)) hS1 hl hs2 he
  rw [List.getElem?_set]
  by_cases e1 : c = j
  · subst e1
    rw [if_pos rfl, if_pos (by rw [hfl]; exact hc), hty, if_neg (by exact Bool.false_ne_true), up2_at]
    unfold upd
    rw [if_pos rfl]
  · rw [if_neg e1, hfs j hj, up2_at]
    unfold upd
    rw [if_neg (Ne.symm e1)]

set_option maxHeartbeats 1000000 in
theorem sd_36 {l : Launch} {base : Nat} {D : va_G} {d b y i : Nat} {ls : List (Option PV)} {st : List PV} {K : KM} {I : IM} {R : RM} {Q : QT} {a c : Nat} {z : Int} (HC : chkB y i 36 a c z (pg_wd y i) = true) (h9 : stB (Snd l base D) 36 a c z d b y i ls st K I R Q) : Snd l base D d b y i ls st K I R Q := by
  intro p e rm s m args below meth cc H locs cells slots lsA stA am am0 K0 hcx hsf hma hdf hdl hcb hsb hh hS hl hs he
  obtain ⟨hx, hb, hr, hml, hown, hlk, hnm, htb⟩ := id hcx
  obtain ⟨tys, Ls, f, hhq⟩ := id hh
  obtain ⟨hKK, hP, hD, -, h14, hinj, hRR⟩ := id hhq
  obtain ⟨q, L, r, n, rfl, hK, h⟩ := (show ∃ q L r n, st = pR (some q) :: pR (some L) :: r ∧ K L = some (a, n) ∧ Snd l base D d b y (i + 1) ls r K I (up2R R L c (some q)) Q from h9)
  have HC : (dc y i (.putfield z.toNat) 3 && decide (a < 7) && decide (c < nfl a) && isRT (tyc a c) && (decide ((clT a c).2.2.2 = false) || (decide ((pg_nm y).name = "<init>") && decide ((clT a c).1 = pg_own y) && decide ((clT a c).2.2.2 = true))) && isw ((pg_wd y i).getD 0 0) (.fieldLink (pg_own y) z.toNat (clT a c).1 (clT a c).2.1 (clT a c).2.2.1)) = true := HC
  simp only [Bool.and_eq_true, Bool.or_eq_true, decide_eq_true_eq] at HC
  obtain ⟨⟨⟨⟨⟨h0, ha⟩, hc⟩, hty⟩, hfin⟩, hw⟩ := HC
  obtain ⟨hd, hn⟩ := dc_at h0
  obtain ⟨r1, rfl, hkk, hs1⟩ := sr_r hs
  obtain ⟨r2, rfl, hk2, hs2⟩ := sr_r hs1
  obtain ⟨q0, fs, hq0, hfe, hfl, hfs⟩ := hq_obj hhq hK ha
  have hna : narrow (tyc a c) (.ref (am q)) = .ref (am q) := by
    revert hty
    generalize tyc a c = t
    intro hty
    cases t <;> first | rfl | cases hty
  have hft : fits (tyc a c) (.ref (am q)) = true := by
    revert hty
    generalize tyc a c = t
    intro hty
    cases t <;> first | rfl | cases hty
  rcases hfin with hfin | ⟨⟨hin, hde⟩, hfin⟩
  · refine va_put hx hb (uws_at ha hsf) (fun _ q => q) (tyc a) (tyc_at a ha) (nmc_at a ha) hown hKK hP hD hS q0 hq0 (vw_at a ha) c hc (sfp_word hsf hw) (fun x q => q) hfin (tyc_at a ha c hc) hna hft (by rw [hfl]; exact hc) hd (fun H1 locs1 hP1 hD1 hS1 => ?_)
    rw [← hn]
    refine h p e rm s m args below meth cc H1 locs1 cells slots lsA _ am am0 K0 hcx hsf hma hdf hdl hcb hsb (hp_write hhq hK (by omega) hfe hq0 hP1 hD1 (Or.inl ⟨ha, _, rfl, by rw [List.length_set]; exact hfl, fun j hj => ?_⟩) (fun L2 h2 => ⟨rfl, setR_ne h2⟩) (fun j L2 hj => ?_) (bel_of hsf.2.2.2.2.2.2 hS hS1)) hS1 hl hs2 he
    · rw [List.getElem?_set]
      by_cases e1 : c = j
      · subst e1
        rw [if_pos rfl, if_pos (by rw [hfl]; exact hc), if_pos hty, up2R_at]
        unfold va_up
        rw [if_pos rfl]
        rfl
      · rw [if_neg e1, hfs j hj, up2R_at]
        unfold va_up
        rw [if_neg (Ne.symm e1)]
    · rw [up2R_at] at hj
      unfold va_up at hj
      split at hj
      · cases hj
        exact hkk
      · exact hRR L j L2 hk2 hj

  · refine va_putF hx hb (uws_at ha hsf) (fun _ q => q) (tyc a) (tyc_at a ha) (nmc_at a ha) hown hKK hP hD hS q0 hq0 (vw_at a ha) c hc (sfp_word hsf hw) (fun x q => q) hfin (hnm.trans hin) hde (tyc_at a ha c hc) hna hft (by rw [hfl]; exact hc) hd (fun H1 locs1 hP1 hD1 hS1 => ?_)
    rw [← hn]
    refine h p e rm s m args below meth cc H1 locs1 cells slots lsA _ am am0 K0 hcx hsf hma hdf hdl hcb hsb (hp_write hhq hK (by omega) hfe hq0 hP1 hD1 (Or.inl ⟨ha, _, rfl, by rw [List.length_set]; exact hfl, fun j hj => ?_⟩) (fun L2 h2 => ⟨rfl, setR_ne h2⟩) (fun j L2 hj => ?_) (bel_of hsf.2.2.2.2.2.2 hS hS1)) hS1 hl hs2 he
    · rw [List.getElem?_set]
      by_cases e1 : c = j
      · subst e1
        rw [if_pos rfl, if_pos (by rw [hfl]; exact hc), if_pos hty, up2R_at]
        unfold va_up
        rw [if_pos rfl]
        rfl
      · rw [if_neg e1, hfs j hj, up2R_at]
        unfold va_up
        rw [if_neg (Ne.symm e1)]
    · rw [up2R_at] at hj
      unfold va_up at hj
      split at hj
      · cases hj
        exact hkk
      · exact hRR L j L2 hk2 hj
end
section
/-! the steps of the pure machine that make cells, call, throw and return -/
theorem ent_kind {am : Lb → Nat} {tys : List (ClassId × FieldType)} {k n : Nat} {i : Nat → Int32} {r : Nat → Option Lb} {e : va_E} (h : ent am tys k n i r e) : k ≠ 14 := by
  rcases h with h | h | h | h
  · exact fun q => by have := h.1; omega
  · exact fun q => by have := h.1; omega
  · exact fun q => by have := h.1; omega
  · exact fun q => by have := h.1; omega
/-- a new cell, by a label that named nothing -/
theorem hp_new {base : Nat} {D : va_G} {am : Lb → Nat} {K : KM} {I : IM} {R : RM} {s : State} {H H1 : Heap} {tys t2 : List (ClassId × FieldType)} {Ls : List Nat} {f : Nat → va_E} (h : hq base D am K I R s H tys Ls f) {L : Lb} (hL : K L = none) {k n q : Nat} {e : va_E}
    (hK1 : va_K D vwCl (tys ++ t2) s) (hP1 : va_P D vwCl (wl Ls f ++ [(q, e)]) H1) (hD1 : va_D (ab base) (wl Ls f ++ [(q, e)])) (hent : ∀ am' : Lb → Nat, ent am' (tys ++ t2) k n (fun _ => 0) (fun _ => none) e) (hbel : ∀ q, q < base → H1[q]? = H[q]?) :
    hp base D (fun L2 => if L2 = L then q else am L2) (setK K L (k, n)) (setI I L (fun _ => 0)) (setR R L (fun _ => none)) s H1 ∧ ext am K (fun L2 => if L2 = L then q else am L2) (setK K L (k, n)) := by
  obtain ⟨h1, h2, h3, h4, h5, h6, h7⟩ := h
  have hne : ∀ L2, K L2 ≠ none → L2 ≠ L := fun L2 h2 e2 => h2 (by rw [e2]; exact hL)
  have hext : ext am K (fun L2 => if L2 = L then q else am L2) (setK K L (k, n)) := fun L2 hk2 => ⟨if_neg (hne L2 hk2), if_neg (hne L2 hk2)⟩
  have hlen : (wl Ls f).length = Ls.length := by simp [wl, va_pl]
  have hq : q ∉ Ls := by
    intro hq
    obtain ⟨j, hj⟩ := va_pl_get (X := ([] : va_W)) (f := f) hq
    have hlt : j < (wl Ls f).length := (List.getElem?_eq_some_iff.mp hj).1
    have := hD1.1 j (wl Ls f).length (q, f q) (q, e) (by rw [List.getElem?_append_left hlt]; exact hj) (by simp) rfl
    omega
  have hqb : base ≤ q := hD1.2 (wl Ls f).length (q, e) (by simp)
  have e1 : wl Ls f ++ [(q, e)] = wl (Ls ++ [q]) (va_up f q e) := by
    show ([] ++ va_pl Ls f) ++ [(q, e)] = [] ++ va_pl (Ls ++ [q]) (va_up f q e)
    rw [List.append_assoc, va_pl_push hq]
  rw [e1] at hP1 hD1
  have hk14 := ent_kind (hent am)
  have hsome : ∀ L2, setK K L (k, n) L2 ≠ none → L2 = L ∨ (L2 ≠ L ∧ K L2 ≠ none) := fun L2 h2 => by
    by_cases e2 : L2 = L
    · exact Or.inl e2
    · refine Or.inr ⟨e2, ?_⟩
      unfold setK at h2
      rwa [if_neg e2] at h2
  have hamne : ∀ L2, K L2 ≠ none → am L2 ≠ q := fun L2 hk2 e2 => by
    cases hK2 : K L2 with
    | none => exact hk2 hK2
    | some kn =>
      obtain ⟨k2, n2⟩ := kn
      by_cases h14 : k2 = 14
      · subst h14
        have := (h5 L2 n2 hK2).2
        omega
      · exact hq (by rw [← e2]; exact (h4 L2 k2 n2 hK2 h14).1)
  refine ⟨⟨tys ++ t2, Ls ++ [q], va_up f q e, hK1, hP1, hD1, fun L2 k2 n2 hK2 hk2 => ?_, fun L2 n2 hK2 => ?_, fun L2 L3 hk2 hk3 he => ?_, fun L2 j L3 hk2 hr => ?_⟩, hext⟩
  · by_cases e2 : L2 = L
    · subst e2
      rw [show setK K L2 (k, n) L2 = some (k, n) from if_pos rfl] at hK2
      cases hK2
      dsimp only
      rw [if_pos rfl, show va_up f q e q = e from if_pos rfl, setI_at, setR_at]
      exact ⟨List.mem_append_right _ List.mem_cons_self, hent _⟩
    · rw [show setK K L (k, n) L2 = K L2 from if_neg e2] at hK2
      obtain ⟨m2, t2e⟩ := h4 L2 k2 n2 hK2 hk2
      have hkk : K L2 ≠ none := by rw [hK2]; exact fun z => by cases z
      dsimp only
      rw [if_neg e2, show va_up f q e (am L2) = f (am L2) from if_neg (hamne L2 hkk), setI_ne e2, setR_ne e2]
      exact ⟨List.mem_append_left _ m2, ent_am (fun j L' hj => if_neg (hne L' (h7 L2 j L' hkk hj))) (ent_app t2e)⟩
  · have e2 : L2 ≠ L := fun z => by
      subst z
      rw [show setK K L2 (k, n) L2 = some (k, n) from if_pos rfl] at hK2
      cases hK2
      exact hk14 rfl
    rw [show setK K L (k, n) L2 = K L2 from if_neg e2] at hK2
    obtain ⟨⟨scr, g1, g2⟩, g3⟩ := h5 L2 n2 hK2
    dsimp only
    rw [if_neg e2, setI_ne e2]
    exact ⟨⟨scr, by rw [hbel _ g3]; exact g1, g2⟩, g3⟩
  · dsimp only at he
    rcases hsome L2 hk2 with rfl | ⟨e2, k2⟩
    · rcases hsome L3 hk3 with rfl | ⟨e3, k3⟩
      · rfl
      · rw [if_pos rfl, if_neg e3] at he
        exact absurd he.symm (hamne L3 k3)
    · rcases hsome L3 hk3 with rfl | ⟨e3, k3⟩
      · rw [if_pos rfl, if_neg e2] at he
        exact absurd he (hamne L2 k2)
      · rw [if_neg e2, if_neg e3] at he
        exact h6 L2 L3 k2 k3 he
  · rcases hsome L2 hk2 with rfl | ⟨e2, k2⟩
    · rw [setR_at] at hr
      cases hr
    · rw [setR_ne e2] at hr
      have := h7 L2 j L3 k2 hr
      show setK K L (k, n) L3 ≠ none
      unfold setK
      split
      · exact fun z => by cases z
      · exact this
theorem tyc_kinds : (List.range 7).all (fun ci => (List.range (nfl ci)).all (fun j => decide (tyc ci j = .int) || decide (tyc ci j = .boolean) || isRT (tyc ci j))) = true := by decide +kernel
theorem default_at {ci j : Nat} (h : ci < 7) (hj : j < nfl ci) : defaultValue (tyc ci j) = (if isRT (tyc ci j) = true then .null else .int 0) := by
  have h1 := List.all_eq_true.mp (List.all_eq_true.mp tyc_kinds ci (List.mem_range.mpr h)) j (List.mem_range.mpr hj)
  simp only [Bool.or_eq_true, decide_eq_true_eq] at h1
  rcases h1 with (h1 | h1) | h1
  · rw [h1]; rfl
  · rw [h1]; rfl
  · rw [if_pos h1]
    revert h1
    generalize tyc ci j = t
    intro h1
    cases t <;> first | rfl | cases h1

set_option maxHeartbeats 1000000 in
theorem sd_37 {l : Launch} {base : Nat} {D : va_G} {d b y i : Nat} {ls : List (Option PV)} {st : List PV} {K : KM} {I : IM} {R : RM} {Q : QT} {a c : Nat} {z : Int} (HC : chkB y i 37 a c z (pg_wd y i) = true) (h9 : stC (Snd l base D) 37 a c z d b y i ls st K I R Q) : Snd l base D d b y i ls st K I R Q := by
  intro p e rm s m args below meth cc H locs cells slots lsA stA am am0 K0 hcx hsf hma hdf hdl hcb hsb hh hS hl hs he
  obtain ⟨hx, hb, hr, hml, hown, hlk, hnm, htb⟩ := id hcx
  obtain ⟨tys, Ls, f, hhq⟩ := id hh
  obtain ⟨hKK, hP, hD, -, h14, hinj, hRR⟩ := id hhq
  have hA : ∀ q, s.heap.size ≤ q → ab base q := fun q hq => Nat.le_trans hsf.2.2.2.2.2.2 hq
  obtain ⟨L, b', hL, rfl, h⟩ := (show ∃ L b', K L = none ∧ b = b' + (1 + nfl a) ∧ Snd l base D d b' y (i + 1) ls (pR (some L) :: st) (setK K L (a, 0)) (setI I L (fun _ => 0)) (setR R L (fun _ => none)) Q from h9)
  have HC : (dc y i (.new z.toNat) 3 && decide (a < 7) && isw ((pg_wd y i).getD 0 0) (.classLink (pg_own y) z.toNat (clC a)) && isw ((pg_wd y i).getD 1 0) (.instantiable (clC a) (nfl a)) && isw ((pg_wd y i).getD 2 0) (.initialized (clC a))) = true := HC
  simp only [Bool.and_eq_true, decide_eq_true_eq] at HC
  obtain ⟨⟨⟨⟨h0, ha⟩, hw0⟩, hw1⟩, hw2⟩ := HC
  obtain ⟨hd, hn⟩ := dc_at h0
  refine va_new (fs := (List.range (nfl a)).map (fun j => defaultValue (tyc a j))) hx hb (uws_at ha hsf) (fun _ q => q) (tyc a) (tyc_at a ha) hown (sfp_word hsf hw0) (sfp_word hsf hw1) (sfp_word hsf hw2) hKK hP hD hS hA (vw_at a ha) (fun j hj => by simp [vp_V, hj]) (by omega) (by omega) hd (fun q H1 hP1 hD1 hS1 => ?_)
  obtain ⟨hp1, hx1⟩ := hp_new (t2 := []) (k := a) (n := 0) hhq hL (by rw [List.append_nil]; exact hKK) hP1 hD1 (fun am' => Or.inl ⟨ha, _, rfl, by simp, fun j hj => by
    rw [List.getElem?_map, List.getElem?_range hj]
    show some (defaultValue (tyc a j)) = _
    rw [default_at ha hj]
    rfl⟩) (bel_of hsf.2.2.2.2.2.2 hS hS1)
  rw [← hn]
  exact h p e rm s m args below meth cc H1 locs (cells + 1) (slots + nfl a) lsA _ _ am0 K0 hcx hsf hma hdf hdl (by omega) (by omega) hp1 hS1 (lr_ext hx1 hl) ⟨⟨congrArg Value.ref (if_pos rfl).symm, by unfold setK; rw [if_pos rfl]; exact fun z => by cases z⟩, sr_ext hx1 hs⟩ (ext_tr he hx1)

set_option maxHeartbeats 1000000 in
theorem sd_38 {l : Launch} {base : Nat} {D : va_G} {d b y i : Nat} {ls : List (Option PV)} {st : List PV} {K : KM} {I : IM} {R : RM} {Q : QT} {a c : Nat} {z : Int} (HC : chkB y i 38 a c z (pg_wd y i) = true) (h9 : stC (Snd l base D) 38 a c z d b y i ls st K I R Q) : Snd l base D d b y i ls st K I R Q := by
  intro p e rm s m args below meth cc H locs cells slots lsA stA am am0 K0 hcx hsf hma hdf hdl hcb hsb hh hS hl hs he
  obtain ⟨hx, hb, hr, hml, hown, hlk, hnm, htb⟩ := id hcx
  obtain ⟨tys, Ls, f, hhq⟩ := id hh
  obtain ⟨hKK, hP, hD, -, h14, hinj, hRR⟩ := id hhq
  have hA : ∀ q, s.heap.size ≤ q → ab base q := fun q hq => Nat.le_trans hsf.2.2.2.2.2.2 hq
  obtain ⟨L, n, r, b', rfl, hL, hlt, rfl, h⟩ := (show ∃ L n r b', st = pI (Int32.ofNat n) :: r ∧ K L = none ∧ n < 1000000 ∧ b = b' + (1 + n) ∧ Snd l base D d b' y (i + 1) ls (pR (some L) :: r) (setK K L (a, n)) (setI I L (fun _ => 0)) (setR R L (fun _ => none)) Q from h9)
  have HC : ((decide (a = 7) && dc y i (.newarray .int) 2 && isw ((pg_wd y i).getD 0 0) (.arrayClass .int)) || (decide (a = 8) && dc y i (.newarray .boolean) 2 && isw ((pg_wd y i).getD 0 0) (.arrayClass .boolean)) || (decide (a = 13) && dc y i (.newarray .long) 2 && isw ((pg_wd y i).getD 0 0) (.arrayClass .long))) = true := HC
  simp only [Bool.and_eq_true, Bool.or_eq_true, decide_eq_true_eq] at HC
  obtain ⟨r1, rfl, hs1⟩ := sr_i hs
  obtain ⟨hn0, hnN⟩ : ¬ (Int32.ofNat n) < 0 ∧ (Int32.ofNat n).toNatClampNeg = n := ⟨nI_pos (by omega), nI_clamp (by omega)⟩
  rcases HC with (⟨⟨rfl, h0⟩, hw⟩ | ⟨⟨rfl, h0⟩, hw⟩) | ⟨⟨rfl, h0⟩, hw⟩
  · obtain ⟨hd, hn⟩ := dc_at h0
    refine va_newa (atype := .int) (ty := .int) (a0 := (n, .inl (fun _ => 0))) (N' := n) hx hb (sfp_word hsf hw) rfl hKK hP hD hS hA (fun cA => rfl) hn0 hnN (by show n * 4 ≤ _; omega) (by omega) (by omega) hd (fun q cA H1 hK1 hP1 hD1 hS1 => ?_)
    obtain ⟨hp1, hx1⟩ := hp_new (k := 7) (n := n) hhq hL hK1 hP1 hD1 (fun am' => Or.inr (Or.inl ⟨Or.inl rfl, cA, tys.length, rfl, by simp [kty]⟩)) (bel_of hsf.2.2.2.2.2.2 hS hS1)
    rw [← hn]
    exact h p e rm s m args below meth cc H1 locs (cells + 1) (slots + n) lsA _ _ am0 K0 hcx hsf hma hdf hdl (by omega) (by omega) hp1 hS1 (lr_ext hx1 hl) ⟨⟨congrArg Value.ref (if_pos rfl).symm, by unfold setK; rw [if_pos rfl]; exact fun z => by cases z⟩, sr_ext hx1 hs1⟩ (ext_tr he hx1)
  · obtain ⟨hd, hn⟩ := dc_at h0
    refine va_newa (atype := .boolean) (ty := .boolean) (a0 := (n, .inl (fun _ => 0))) (N' := n) hx hb (sfp_word hsf hw) rfl hKK hP hD hS hA (fun cA => rfl) hn0 hnN (by show n * 1 ≤ _; omega) (by omega) (by omega) hd (fun q cA H1 hK1 hP1 hD1 hS1 => ?_)
    obtain ⟨hp1, hx1⟩ := hp_new (k := 8) (n := n) hhq hL hK1 hP1 hD1 (fun am' => Or.inr (Or.inl ⟨Or.inr rfl, cA, tys.length, rfl, by simp [kty]⟩)) (bel_of hsf.2.2.2.2.2.2 hS hS1)
    rw [← hn]
    exact h p e rm s m args below meth cc H1 locs (cells + 1) (slots + n) lsA _ _ am0 K0 hcx hsf hma hdf hdl (by omega) (by omega) hp1 hS1 (lr_ext hx1 hl) ⟨⟨congrArg Value.ref (if_pos rfl).symm, by unfold setK; rw [if_pos rfl]; exact fun z => by cases z⟩, sr_ext hx1 hs1⟩ (ext_tr he hx1)
  · obtain ⟨hd, hn⟩ := dc_at h0
    refine va_newa (atype := .long) (ty := .long) (a0 := (n, .inr (.inl (fun _ => (0 : Int32).toInt64)))) (N' := n) hx hb (sfp_word hsf hw) rfl hKK hP hD hS hA (fun cA => rfl) hn0 hnN (by show n * 8 ≤ _; omega) (by omega) (by omega) hd (fun q cA H1 hK1 hP1 hD1 hS1 => ?_)
    obtain ⟨hp1, hx1⟩ := hp_new (k := 13) (n := n) hhq hL hK1 hP1 hD1 (fun am' => Or.inr (Or.inr (Or.inl ⟨rfl, cA, tys.length, rfl, by simp⟩))) (bel_of hsf.2.2.2.2.2.2 hS hS1)
    rw [← hn]
    exact h p e rm s m args below meth cc H1 locs (cells + 1) (slots + n) lsA _ _ am0 K0 hcx hsf hma hdf hdl (by omega) (by omega) hp1 hS1 (lr_ext hx1 hl) ⟨⟨congrArg Value.ref (if_pos rfl).symm, by unfold setK; rw [if_pos rfl]; exact fun z => by cases z⟩, sr_ext hx1 hs1⟩ (ext_tr he hx1)

set_option maxHeartbeats 1000000 in
theorem sd_39 {l : Launch} {base : Nat} {D : va_G} {d b y i : Nat} {ls : List (Option PV)} {st : List PV} {K : KM} {I : IM} {R : RM} {Q : QT} {a c : Nat} {z : Int} (HC : chkB y i 39 a c z (pg_wd y i) = true) (h9 : stC (Snd l base D) 39 a c z d b y i ls st K I R Q) : Snd l base D d b y i ls st K I R Q := by
  intro p e rm s m args below meth cc H locs cells slots lsA stA am am0 K0 hcx hsf hma hdf hdl hcb hsb hh hS hl hs he
  obtain ⟨hx, hb, hr, hml, hown, hlk, hnm, htb⟩ := id hcx
  obtain ⟨tys, Ls, f, hhq⟩ := id hh
  obtain ⟨hKK, hP, hD, -, h14, hinj, hRR⟩ := id hhq
  have hA : ∀ q, s.heap.size ≤ q → ab base q := fun q hq => Nat.le_trans hsf.2.2.2.2.2.2 hq
  obtain ⟨L, n, r, b', rfl, hL, hlt, rfl, h⟩ := (show ∃ L n r b', st = pI (Int32.ofNat n) :: r ∧ K L = none ∧ n < 1000000 ∧ b = b' + (1 + n) ∧ Snd l base D d b' y (i + 1) ls (pR (some L) :: r) (setK K L (a, n)) (setI I L (fun _ => 0)) (setR R L (fun _ => none)) Q from h9)
  have HC : (dc y i (.anewarray z.toNat) 3 && decide (9 ≤ a) && decide (a ≤ 12) && isw ((pg_wd y i).getD 0 0) (.classLink (pg_own y) z.toNat (elN a))) = true := HC
  simp only [Bool.and_eq_true, Bool.or_eq_true, decide_eq_true_eq] at HC
  obtain ⟨⟨⟨h0, ha1⟩, ha2⟩, hw⟩ := HC
  obtain ⟨hd, hn⟩ := dc_at h0
  obtain ⟨r1, rfl, hs1⟩ := sr_i hs
  obtain ⟨hn0, hnN⟩ : ¬ (Int32.ofNat n) < 0 ∧ (Int32.ofNat n).toNatClampNeg = n := ⟨nI_pos (by omega), nI_clamp (by omega)⟩
  refine va_newq hx hb hown (sfp_word hsf hw) (hsf.2.1 a ha1 ha2) hKK hP hD hS hA hn0 hnN (by omega) (by omega) (by omega) hd (fun q cA H1 hK1 hP1 hD1 hS1 => ?_)
  obtain ⟨hp1, hx1⟩ := hp_new (k := a) (n := n) hhq hL hK1 hP1 hD1 (fun am' => Or.inr (Or.inr (Or.inr ⟨⟨ha1, ha2⟩, cA, tys.length, rfl, by simp⟩))) (bel_of hsf.2.2.2.2.2.2 hS hS1)
  rw [← hn]
  exact h p e rm s m args below meth cc H1 locs (cells + 1) (slots + n) lsA _ _ am0 K0 hcx hsf hma hdf hdl (by omega) (by omega) hp1 hS1 (lr_ext hx1 hl) ⟨⟨congrArg Value.ref (if_pos rfl).symm, by unfold setK; rw [if_pos rfl]; exact fun z => by cases z⟩, sr_ext hx1 hs1⟩ (ext_tr he hx1)

set_option maxHeartbeats 1000000 in
theorem sd_43 {l : Launch} {base : Nat} {D : va_G} {d b y i : Nat} {ls : List (Option PV)} {st : List PV} {K : KM} {I : IM} {R : RM} {Q : QT} {a c : Nat} {z : Int} (HC : chkB y i 43 a c z (pg_wd y i) = true) (h9 : stC (Snd l base D) 43 a c z d b y i ls st K I R Q) : Snd l base D d b y i ls st K I R Q := by
  intro p e rm s m args below meth cc H locs cells slots lsA stA am am0 K0 hcx hsf hma hdf hdl hcb hsb hh hS hl hs he
  obtain ⟨hx, hb, hr, hml, hown, hlk, hnm, htb⟩ := id hcx
  obtain ⟨tys, Ls, f, hhq⟩ := id hh
  obtain ⟨hKK, hP, hD, -, h14, hinj, hRR⟩ := id hhq
  have hA : ∀ q, s.heap.size ≤ q → ab base q := fun q hq => Nat.le_trans hsf.2.2.2.2.2.2 hq
  obtain ⟨L, r, rfl, hrl, hd1, h⟩ := (show ∃ L r, st = pR (some L) :: r ∧ r.length ≤ 4 ∧ 1 ≤ d ∧ Snd l base D d b y (i + 1) ls r K I R Q from h9)
  have HC : (dc y i (.invokespecial z.toNat) 3 && isw ((pg_wd y i).getD 0 0) (.methodLink (pg_own y) z.toNat Lib.objectInit) && isw ((pg_wd y i).getD 1 0) (.instanceMethod Lib.objectInit) && isw ((pg_wd y i).getD 2 0) (.code Lib.objectInit ⟨#[0xb1]⟩ 1 none)) = true := HC
  simp only [Bool.and_eq_true, Bool.or_eq_true, decide_eq_true_eq] at HC
  obtain ⟨⟨⟨h0, hw0⟩, hw1⟩, hw2⟩ := HC
  obtain ⟨hd, hn⟩ := dc_at h0
  obtain ⟨r1, rfl, hk2, hs1⟩ := sr_r hs
  have hc1 := sr_cat hs1
  have hlz := hl.2.choose_spec.1.1
  refine W.objInit hx hb hown (sfp_word hsf hw0) (sfp_word hsf hw1) (sfp_word hsf hw2) rfl (by show lsA.size = _; rw [hlz, hml]) rfl hd (by omega) (by show 2 * 0 + _ + 12 ≤ _; omega) ?_
  show W p l e rm s m args below meth cc H locs cells slots _ (F0 m (pg_pc y i + 3) lsA r1)
  rw [← hn]
  exact h p e rm s m args below meth cc H locs cells slots lsA _ am am0 K0 hcx hsf hma hdf hdl hcb hsb hh hS hl hs1 he

set_option maxHeartbeats 1000000 in
theorem sd_51 {l : Launch} {base : Nat} {D : va_G} {d b y i : Nat} {ls : List (Option PV)} {st : List PV} {K : KM} {I : IM} {R : RM} {Q : QT} {a c : Nat} {z : Int} (HC : chkB y i 51 a c z (pg_wd y i) = true) (h9 : stC (Snd l base D) 51 a c z d b y i ls st K I R Q) : Snd l base D d b y i ls st K I R Q := by
  intro p e rm s m args below meth cc H locs cells slots lsA stA am am0 K0 hcx hsf hma hdf hdl hcb hsb hh hS hl hs he
  obtain ⟨hx, hb, hr, hml, hown, hlk, hnm, htb⟩ := id hcx
  obtain ⟨tys, Ls, f, hhq⟩ := id hh
  obtain ⟨hKK, hP, hD, -, h14, hinj, hRR⟩ := id hhq
  have hA : ∀ q, s.heap.size ≤ q → ab base q := fun q hq => Nat.le_trans hsf.2.2.2.2.2.2 hq
  obtain ⟨u, v, r, rfl, hrl, hd1, h⟩ := (show ∃ u v r, st = pI v :: pI u :: r ∧ r.length ≤ 4 ∧ 1 ≤ d ∧ Snd l base D d b y (i + 1) ls (pI (if u < v then v else u) :: r) K I R Q from h9)
  have HC : (dc y i (.invokestatic z.toNat) 3 && isw ((pg_wd y i).getD 0 0) (.methodLink (pg_own y) z.toNat Lib.Math.max.name) && isw ((pg_wd y i).getD 1 0) (.static Lib.Math.max.name) && isw ((pg_wd y i).getD 2 0) (.initialized "java/lang/Math") && isw ((pg_wd y i).getD 3 0) (.code Lib.Math.max.name Lib.Math.max.code 2 (some .int))) = true := HC
  simp only [Bool.and_eq_true, Bool.or_eq_true, decide_eq_true_eq] at HC
  obtain ⟨⟨⟨⟨h0, hw0⟩, hw1⟩, hw2⟩, hw3⟩ := HC
  obtain ⟨hd, hn⟩ := dc_at h0
  obtain ⟨r0, rfl, hs0⟩ := sr_i hs
  obtain ⟨r1, rfl, hs1⟩ := sr_i hs0
  have hc1 := sr_cat hs1
  have hlz := hl.2.choose_spec.1.1
  refine va_mmax hx hb (by rw [hlz, hml]) hown (sfp_word hsf hw0) (sfp_word hsf hw1) (sfp_word hsf hw2) (sfp_word hsf hw3) (by omega) (by omega) (by omega) (by omega) hd ?_
  rw [← hn]
  exact h p e rm s m args below meth cc H locs cells slots lsA _ am am0 K0 hcx hsf hma hdf hdl hcb hsb hh hS hl ⟨rfl, hs1⟩ he

set_option maxHeartbeats 1000000 in
theorem sd_52 {l : Launch} {base : Nat} {D : va_G} {d b y i : Nat} {ls : List (Option PV)} {st : List PV} {K : KM} {I : IM} {R : RM} {Q : QT} {a c : Nat} {z : Int} (HC : chkB y i 52 a c z (pg_wd y i) = true) (h9 : stC (Snd l base D) 52 a c z d b y i ls st K I R Q) : Snd l base D d b y i ls st K I R Q := by
  intro p e rm s m args below meth cc H locs cells slots lsA stA am am0 K0 hcx hsf hma hdf hdl hcb hsb hh hS hl hs he
  obtain ⟨hx, hb, hr, hml, hown, hlk, hnm, htb⟩ := id hcx
  obtain ⟨tys, Ls, f, hhq⟩ := id hh
  obtain ⟨hKK, hP, hD, -, h14, hinj, hRR⟩ := id hhq
  have hA : ∀ q, s.heap.size ≤ q → ab base q := fun q hq => Nat.le_trans hsf.2.2.2.2.2.2 hq
  obtain ⟨u, v, r, rfl, hrl, hd1, h⟩ := (show ∃ u v r, st = pI v :: pI u :: r ∧ r.length ≤ 4 ∧ 1 ≤ d ∧ Snd l base D d b y (i + 1) ls (pI (if v < u then v else u) :: r) K I R Q from h9)
  have HC : (dc y i (.invokestatic z.toNat) 3 && isw ((pg_wd y i).getD 0 0) (.methodLink (pg_own y) z.toNat Lib.Math.min.name) && isw ((pg_wd y i).getD 1 0) (.static Lib.Math.min.name) && isw ((pg_wd y i).getD 2 0) (.initialized "java/lang/Math") && isw ((pg_wd y i).getD 3 0) (.code Lib.Math.min.name Lib.Math.min.code 2 (some .int))) = true := HC
  simp only [Bool.and_eq_true, Bool.or_eq_true, decide_eq_true_eq] at HC
  obtain ⟨⟨⟨⟨h0, hw0⟩, hw1⟩, hw2⟩, hw3⟩ := HC
  obtain ⟨hd, hn⟩ := dc_at h0
  obtain ⟨r0, rfl, hs0⟩ := sr_i hs
  obtain ⟨r1, rfl, hs1⟩ := sr_i hs0
  have hc1 := sr_cat hs1
  have hlz := hl.2.choose_spec.1.1
  refine va_mmin hx hb (by rw [hlz, hml]) hown (sfp_word hsf hw0) (sfp_word hsf hw1) (sfp_word hsf hw2) (sfp_word hsf hw3) (by omega) (by omega) (by omega) (by omega) hd ?_
  rw [← hn]
  exact h p e rm s m args below meth cc H locs cells slots lsA _ am am0 K0 hcx hsf hma hdf hdl hcb hsb hh hS hl ⟨rfl, hs1⟩ he

set_option maxHeartbeats 1000000 in
theorem sd_53 {l : Launch} {base : Nat} {D : va_G} {d b y i : Nat} {ls : List (Option PV)} {st : List PV} {K : KM} {I : IM} {R : RM} {Q : QT} {a c : Nat} {z : Int} (HC : chkB y i 53 a c z (pg_wd y i) = true) (h9 : stC (Snd l base D) 53 a c z d b y i ls st K I R Q) : Snd l base D d b y i ls st K I R Q := by
  intro p e rm s m args below meth cc H locs cells slots lsA stA am am0 K0 hcx hsf hma hdf hdl hcb hsb hh hS hl hs he
  obtain ⟨hx, hb, hr, hml, hown, hlk, hnm, htb⟩ := id hcx
  obtain ⟨tys, Ls, f, hhq⟩ := id hh
  obtain ⟨hKK, hP, hD, -, h14, hinj, hRR⟩ := id hhq
  have hA : ∀ q, s.heap.size ≤ q → ab base q := fun q hq => Nat.le_trans hsf.2.2.2.2.2.2 hq
  obtain ⟨u, r, rfl, hrl, hd1, h⟩ := (show ∃ u r, st = pI u :: r ∧ r.length ≤ 4 ∧ 1 ≤ d ∧ Snd l base D d b y (i + 1) ls (pI (if 0 ≤ u then u else 0 - u) :: r) K I R Q from h9)
  have HC : (dc y i (.invokestatic z.toNat) 3 && isw ((pg_wd y i).getD 0 0) (.methodLink (pg_own y) z.toNat Lib.Math.abs.name) && isw ((pg_wd y i).getD 1 0) (.static Lib.Math.abs.name) && isw ((pg_wd y i).getD 2 0) (.initialized "java/lang/Math") && isw ((pg_wd y i).getD 3 0) (.code Lib.Math.abs.name Lib.Math.abs.code 1 (some .int))) = true := HC
  simp only [Bool.and_eq_true, Bool.or_eq_true, decide_eq_true_eq] at HC
  obtain ⟨⟨⟨⟨h0, hw0⟩, hw1⟩, hw2⟩, hw3⟩ := HC
  obtain ⟨hd, hn⟩ := dc_at h0
  obtain ⟨r1, rfl, hs1⟩ := sr_i hs
  have hc1 := sr_cat hs1
  have hlz := hl.2.choose_spec.1.1
  refine va_mabs hx hb (by rw [hlz, hml]) hown (sfp_word hsf hw0) (sfp_word hsf hw1) (sfp_word hsf hw2) (sfp_word hsf hw3) (by omega) (by omega) (by omega) (by omega) hd ?_
  rw [← hn]
  exact h p e rm s m args below meth cc H locs cells slots lsA _ am am0 K0 hcx hsf hma hdf hdl hcb hsb hh hS hl ⟨rfl, hs1⟩ he

set_option maxHeartbeats 1000000 in
theorem sd_45 {l : Launch} {base : Nat} {D : va_G} {d b y i : Nat} {ls : List (Option PV)} {st : List PV} {K : KM} {I : IM} {R : RM} {Q : QT} {a c : Nat} {z : Int} (HC : chkB y i 45 a c z (pg_wd y i) = true) (h9 : stC (Snd l base D) 45 a c z d b y i ls st K I R Q) : Snd l base D d b y i ls st K I R Q := by
  intro p e rm s m args below meth cc H locs cells slots lsA stA am am0 K0 hcx hsf hma hdf hdl hcb hsb hh hS hl hs he
  obtain ⟨hx, hb, hr, hml, hown, hlk, hnm, htb⟩ := id hcx
  obtain ⟨tys, Ls, f, hhq⟩ := id hh
  obtain ⟨hKK, hP, hD, -, h14, hinj, hRR⟩ := id hhq
  have hA : ∀ q, s.heap.size ≤ q → ab base q := fun q hq => Nat.le_trans hsf.2.2.2.2.2.2 hq
  obtain ⟨x, rfl, hb01, h⟩ := (show ∃ x, st = [pI x] ∧ (pg_rt y = some .boolean → x = 0 ∨ x = 1) ∧ Q (.inl (some (pI x))) K I R from h9)
  have HC : (dc0 y i .ireturn 1 && (decide (pg_rt y = some .int) || decide (pg_rt y = some .boolean))) = true := HC
  simp only [dc0, Bool.and_eq_true, Bool.or_eq_true, decide_eq_true_eq] at HC
  obtain ⟨hd, hrt⟩ := HC
  obtain ⟨r1, rfl, hs1⟩ := sr_i hs
  obtain rfl := sr_nil hs1
  have hvf : ∀ t : State, t.heap = H → va_F (ab base) s t := fun t ht => ⟨by rw [ht]; exact hS.1, fun q q1 q2 => by rw [ht]; exact hS.2.1 q q1 q2⟩
  refine W.widen (k := rm.cells) (n := rm.slots) (by omega) (by omega) (vx_ret ?_)
  have hq : ∀ t : State, t.heap = H → s.WarmedH t.vm → QcF base D am0 K0 Q args s (.returned (some (.int x))) t := fun t ht hW => ⟨some (pI x), K, I, R, am, h, ⟨.int x, rfl, rfl⟩, by rw [ht]; exact hp_moved hW.alike hh, he, hvf t ht⟩
  rcases hrt with hrt | hrt
  · exact W.iret hx hb (hr.trans hrt) hq hS.2.2 hd hlk
  · exact W.zret hx hb (hr.trans hrt) (by rcases hb01 hrt with rfl | rfl <;> rfl) hq hS.2.2 hd hlk

set_option maxHeartbeats 1000000 in
theorem sd_46 {l : Launch} {base : Nat} {D : va_G} {d b y i : Nat} {ls : List (Option PV)} {st : List PV} {K : KM} {I : IM} {R : RM} {Q : QT} {a c : Nat} {z : Int} (HC : chkB y i 46 a c z (pg_wd y i) = true) (h9 : stC (Snd l base D) 46 a c z d b y i ls st K I R Q) : Snd l base D d b y i ls st K I R Q := by
  intro p e rm s m args below meth cc H locs cells slots lsA stA am am0 K0 hcx hsf hma hdf hdl hcb hsb hh hS hl hs he
  obtain ⟨hx, hb, hr, hml, hown, hlk, hnm, htb⟩ := id hcx
  obtain ⟨tys, Ls, f, hhq⟩ := id hh
  obtain ⟨hKK, hP, hD, -, h14, hinj, hRR⟩ := id hhq
  have hA : ∀ q, s.heap.size ≤ q → ab base q := fun q hq => Nat.le_trans hsf.2.2.2.2.2.2 hq
  obtain ⟨L, rfl, h⟩ := (show ∃ L, st = [pR (some L)] ∧ Q (.inl (some (pR (some L)))) K I R from h9)
  have HC : (dc0 y i .areturn 1 && (match pg_rt y with
      | some t => isRT t
      | none => false)) = true := HC
  simp only [dc0, Bool.and_eq_true, decide_eq_true_eq] at HC
  obtain ⟨hd, hrt⟩ := HC
  obtain ⟨r1, rfl, hk2, hs1⟩ := sr_r hs
  obtain rfl := sr_nil hs1
  have hvf : ∀ t : State, t.heap = H → va_F (ab base) s t := fun t ht => ⟨by rw [ht]; exact hS.1, fun q q1 q2 => by rw [ht]; exact hS.2.1 q q1 q2⟩
  refine W.widen (k := rm.cells) (n := rm.slots) (by omega) (by omega) (vx_ret ?_)
  have hq : ∀ t : State, t.heap = H → s.WarmedH t.vm → QcF base D am0 K0 Q args s (.returned (some (.ref (am L)))) t := fun t ht hW => ⟨some (pR (some L)), K, I, R, am, h, ⟨.ref (am L), rfl, rfl, hk2⟩, by rw [ht]; exact hp_moved hW.alike hh, he, hvf t ht⟩
  cases hrr : pg_rt y with
  | none => rw [hrr] at hrt; cases hrt
  | some t =>
    rw [hrr] at hrt hr
    exact W.aret hx hb hr (by
      cases t <;> first | exact Or.inl ⟨_, rfl⟩ | exact Or.inr ⟨_, rfl⟩ | cases hrt) (Or.inr ⟨_, rfl⟩) hq hS.2.2 hd hlk

set_option maxHeartbeats 1000000 in
theorem sd_47 {l : Launch} {base : Nat} {D : va_G} {d b y i : Nat} {ls : List (Option PV)} {st : List PV} {K : KM} {I : IM} {R : RM} {Q : QT} {a c : Nat} {z : Int} (HC : chkB y i 47 a c z (pg_wd y i) = true) (h9 : stC (Snd l base D) 47 a c z d b y i ls st K I R Q) : Snd l base D d b y i ls st K I R Q := by
  intro p e rm s m args below meth cc H locs cells slots lsA stA am am0 K0 hcx hsf hma hdf hdl hcb hsb hh hS hl hs he
  obtain ⟨hx, hb, hr, hml, hown, hlk, hnm, htb⟩ := id hcx
  obtain ⟨tys, Ls, f, hhq⟩ := id hh
  obtain ⟨hKK, hP, hD, -, h14, hinj, hRR⟩ := id hhq
  have hA : ∀ q, s.heap.size ≤ q → ab base q := fun q hq => Nat.le_trans hsf.2.2.2.2.2.2 hq
  obtain ⟨rfl, h⟩ := (show st = [] ∧ Q (.inl none) K I R from h9)
  have HC : (dc0 y i .return_ 1 && decide (pg_rt y = none)) = true := HC
  simp only [dc0, Bool.and_eq_true, decide_eq_true_eq] at HC
  obtain ⟨hd, hrt⟩ := HC
  obtain rfl := sr_nil hs
  have hvf : ∀ t : State, t.heap = H → va_F (ab base) s t := fun t ht => ⟨by rw [ht]; exact hS.1, fun q q1 q2 => by rw [ht]; exact hS.2.1 q q1 q2⟩
  refine W.widen (k := rm.cells) (n := rm.slots) (by omega) (by omega) (vx_ret ?_)
  have hq : ∀ t : State, t.heap = H → s.WarmedH t.vm → QcF base D am0 K0 Q args s (.returned none) t := fun t ht hW => ⟨none, K, I, R, am, h, rfl, by rw [ht]; exact hp_moved hW.alike hh, he, hvf t ht⟩
  exact W.vret hx hb (hr.trans hrt) hq hS.2.2 hd hlk
end
section
theorem z_castw : Cond.castable (pg_ex 1) (pg_ex 1) ∈ lw_tbl ∧ Cond.castable (pg_ex 2) (pg_ex 2) ∈ lw_tbl ∧ Cond.castable (pg_ex 3) (pg_ex 3) ∈ lw_tbl := ⟨List.mem_of_getElem? (i := 321) (by decide +kernel), List.mem_of_getElem? (i := 389) (by decide +kernel), List.mem_of_getElem? (i := 425) (by decide +kernel)⟩

/-! throws and calls -/
theorem va_at_grow {D : va_G} {cl : List vw_C} {q : Nat × va_E} {H H1 : Heap} (hk : ∀ a : Nat, a < H.size → H1[a]? = H[a]?) (h : va_at D cl q H) : va_at D cl q H1 := by
  obtain ⟨a, e⟩ := q
  cases e with
  | inl x =>
    have h : H[a]? = some (vp_cell x.1 x.2) := h
    show H1[a]? = some (vp_cell x.1 x.2)
    rw [hk a (Array.getElem?_eq_some_iff.mp h).1]
    exact h
  | inr o =>
    obtain ⟨r, hr, cell, hc, h2⟩ := h
    exact ⟨r, hr, cell, by rw [hk a (Array.getElem?_eq_some_iff.mp hc).1]; exact hc, h2⟩
theorem hp_grow {base : Nat} {D : va_G} {am : Lb → Nat} {K : KM} {I : IM} {R : RM} {s : State} {H H1 : Heap} (hk : ∀ a : Nat, a < H.size → H1[a]? = H[a]?) (h : hp base D am K I R s H) : hp base D am K I R s H1 := by
  obtain ⟨tys, Ls, f, h1, h2, h3, h4, h5, h6, h7⟩ := h
  refine ⟨tys, Ls, f, h1, fun k q hq => va_at_grow hk (h2 k q hq), h3, h4, fun L n hL => ?_, h6, h7⟩
  obtain ⟨⟨scr, g1, g2⟩, g3⟩ := h5 L n hL
  exact ⟨⟨scr, by rw [hk _ (Array.getElem?_eq_some_iff.mp g1).1]; exact g1, g2⟩, g3⟩
def thW (e : Nat) : List Cond := vx_atS RX5 (if e = 1 then 53 else if e = 2 then 64 else 87) (pg_ex e) thn
set_option maxRecDepth 100000 in
theorem thW_ok : [1, 2, 3].all (fun e => (thW e).all (fun w => decide (w ∈ lw_tbl) && okw w && vx_ot w) && Bundle.fit (pg_ex e)) = true := by decide +kernel
theorem thn_ok : thn.all Bundle.fit = true := by decide +kernel
theorem hh_of (y : Nat) : pg_hh y = (pg_hx y).map (fun h => (h.1, h.2.1, h.2.2.2.2.1, h.2.2.2.2.2.1)) ∧ ∀ h ∈ pg_hx y, isw h.2.2.2.2.2.2 (.classLink (pg_own y) h.2.2.2.2.2.1 (pg_ex h.2.2.2.1)) = true ∧ pg_pc y h.2.2.1 = h.2.2.2.2.1 ∧ h.2.2.2.2.2.1 ≠ 0 ∧ (h.2.2.2.1 = 1 ∨ h.2.2.2.1 = 2 ∨ h.2.2.2.1 = 3) := by
  by_cases hy : y < 158
  · have h := List.all_eq_true.mp chkH_all y (List.mem_range.mpr hy)
    unfold chkH at h
    simp only [Bool.and_eq_true, Bool.or_eq_true, decide_eq_true_eq, List.all_eq_true] at h
    refine ⟨h.1, fun q hq => ?_⟩
    obtain ⟨⟨⟨a, b⟩, c⟩, d⟩ := h.2 q hq
    exact ⟨a, b, c, by rcases d with (d | d) | d <;> simp [d]⟩
  · have e1 : pg_ms[y]? = none := List.getElem?_eq_none (Nat.le_of_not_lt hy)
    have e2 : pg_hs[y]? = none := List.getElem?_eq_none (Nat.le_of_not_lt hy)
    have e3 : pg_hx y = [] := by simp [pg_hx, e2]
    refine ⟨by simp [pg_hh, e1, e3, pg_m0], fun h hh => by rw [e3] at hh; cases hh⟩
def PcF (base : Nat) (D : va_G) (am : Lb → Nat) (K : KM) (I : IM) (R : RM) (as : List PV) : Array Value → State → Prop := fun av U => sfp base U U.heap ∧ hp base D am K I R U U.heap ∧ ∃ as' : List Value, av = as'.toArray ∧ sr am K as as'
theorem blindF {base : Nat} {D : va_G} {am : Lb → Nat} {K : KM} {I : IM} {R : RM} {as : List PV} : FrameBlind (PcF base D am K I R as) := by
  intro a U g mk h
  obtain ⟨h1, h2, h3⟩ := h
  exact ⟨sfp_warm (s := U) (U := U.calling g mk a) (State.WarmedH.refl U) (Nat.le_refl _) (fun _ _ _ => rfl) h1, hp_moved (s := U) (U := U.calling g mk a) (State.WarmedH.refl U).alike h2, h3⟩
theorem chkC_at {a : Nat} (h : chkC a = true) : isw (pg_qs.getD a pg_q0).2.2.2.1 (pg_cw a) = true ∧ isw (pg_qs.getD a pg_q0).2.2.2.2.1 (if pg_sta a then .static (pg_nm a) else .instanceMethod (pg_nm a)) = true ∧ isw (pg_qs.getD a pg_q0).2.2.2.2.2.1 (.initialized (pg_own a)) = true ∧ ((pg_nm a).cls ≠ "java/lang/invoke/MethodHandle" ∧ (pg_nm a).cls ≠ "java/lang/invoke/VarHandle") ∧ (parseMethodDescriptor (pg_nm a).desc).map (fun d => d.parameters.length) = some (if pg_sta a then pg_na a else pg_na a - 1) ∧ plainName (pg_nm a).cls = true ∧ pg_pc a 0 = 0 ∧ pg_na a ≤ pg_ml a ∧ pg_ml a ≤ 40 ∧ pg_own a ≠ "java/lang/Math" ∧ (pg_sta a = true ∨ 1 ≤ pg_na a) := by
  unfold chkC at h
  simp only [Bool.and_eq_true, Bool.or_eq_true, decide_eq_true_eq] at h
  obtain ⟨⟨⟨⟨⟨⟨⟨⟨⟨⟨⟨⟨h1, h2⟩, h3⟩, h4⟩, h5⟩, h6⟩, h7⟩, h8⟩, h9⟩, h10⟩, -⟩, h12⟩, h13⟩ := h
  exact ⟨h1, h2, h3, ⟨h4, h5⟩, h6, h7, h8, h9, h10, h12, h13⟩
set_option maxHeartbeats 1000000 in
/-- what the pure machine does at a method's entry is a contract of the method -/
theorem snd_met {l : Launch} {base : Nat} {D : va_G} {a d' : Nat} {K : KM} {I : IM} {R : RM} {as : List PV} {P : QT} (HX : Snd l base D d' (pg_cst a) a 0 (entls a as) [] K I R P) (hck : chkC a = true) (hna : as.length = pg_na a) (hc1 : ∀ v ∈ as, isC1 v) (am : Lb → Nat) :
    vx_Met l (pg_nm a) [pg_cw a] { frames := d', cells := pg_cst a, slots := pg_cst a, locals := 80 * d' } (PcF base D am K I R as) (QcF base D am K P) (XcF base D am K P) (pg_cst a) (pg_cst a) (ab base) := by
  obtain ⟨k1, k2, k3, k4, k5, k6, k7, k8, k9, k10, k11⟩ := chkC_at hck
  have hgo : ∀ (p : Program) (e : Env) (s : State) (m : MethodId) (args : Array Value) (below : List Frame) (meth : Method) (c : Code) (s₁ : State), BodyLoose p l (pg_nm a) (headSpec [pg_cw a] { frames := d', cells := pg_cst a, slots := pg_cst a, locals := 80 * d' }) (pg_by a) (pg_ml a) (pg_rt a) e s m args below meth c s₁ → c.maxLocals = pg_ml a → c.exceptionTable.toList = tableOf (pg_hh a) → PcF base D am K I R as args s →
      W p l e (headSpec [pg_cw a] { frames := d', cells := pg_cst a, slots := pg_cst a, locals := 80 * d' }).room s m args below meth c s.heap [] 0 0 (vx_MQ below (QcF base D am K P) (XcF base D am K P) args s (pg_cst a) (pg_cst a) (ab base)) (entryFrame m args (pg_ml a)) := by
    intro p e s m args below meth c s₁ B hml htab hP
    obtain ⟨hsf, hh, as', rfl, hsr⟩ := hP
    rw [lg_entry_eq]
    have hcx : Cx p s m meth c a := ⟨B.exec, B.bytes, B.returns, hml, findClass_of_methodNamed B.named, B.notSynchronized, (name_of_methodNamed B.named B.method).1, htab⟩
    have := HX p e { frames := d', cells := pg_cst a, slots := pg_cst a, locals := 80 * d' } s m as'.toArray below meth c s.heap [] 0 0 _ [] am am K hcx hsf k10 (Nat.le_refl _) (Nat.le_refl _) (Nat.le_of_eq (Nat.zero_add _)) (Nat.le_of_eq (Nat.zero_add _)) hh va_S.rf (lr_entry hsr hc1 (by rw [hna]; exact k8)) trivial ext_rfl
    rw [k7] at this
    exact this
  by_cases hhe : pg_hh a = []
  · refine vx_ofW (cc := pg_by a) (maxL := pg_ml a) (ret := pg_rt a) (ws' := []) k6 (by unfold pg_cw; rw [if_pos hhe]) (fun p e s m args below meth c s₁ B hml hno hP => hgo p e s m args below meth c s₁ B hml ?_ hP)
    rw [hhe]
    cases hq : c.exceptionTable.toList with
    | nil => rfl
    | cons x r => exact (hno x (by rw [hq]; exact List.mem_cons_self)).elim
  · refine vx_ofWH (cc := pg_by a) (maxL := pg_ml a) (ret := pg_rt a) (hh := pg_hh a) (ws' := []) k6 (by unfold pg_cw; rw [if_neg hhe]) (fun p e s m args below meth c s₁ B hml hP => hgo p e s m args below meth c s₁ B hml ?_ hP)
    refine vx_table (x := pg_nm a) (bytes := pg_by a) (maxL' := pg_ml a) (ret' := pg_rt a) B ?_
    have := atoms_spec (ws := [pg_cw a]) B.pre (pg_cw a) List.mem_cons_self
    unfold pg_cw at this
    rw [if_neg hhe] at this
    exact this
section ZC
variable {p : Program} {l : Launch} {e : Env} {R : Room} {s : State} {m : MethodId} {args : Array Value} {below : List Frame} {meth : Method} {c : Code} {H : Heap} {locs : List Loc} {cells slots : Nat} {Q : State → Prop}
/-- behind a call that returns or throws -/
theorem z_call {pc : Nat} {ls : Array Slot} {rest st0 : List Value} {base mc ms : Nat} {Qa : State → Outcome → State → Prop} {XC : String → State → State → Prop} (hr : vx_Run p l e R s m args below meth c H locs cells slots mc ms (F0 m pc ls st0) rest Qa XC (ab base)) (hS : va_S (ab base) s.heap H locs)
    (hQF : ∀ st o t, Qa st o t → va_F (ab base) st t) (hXF : ∀ E st t, XC E st t → va_F (ab base) st t)
    (kx : ∀ (E : String) (ce : Cell) (q9 : Addr) (st t : State) (H1 : Heap) (locs1 : List Loc), st.heap = H → t.heap = H1 → s.vm.Alike t.vm → XC E st t → va_S (ab base) s.heap H1 locs1 → H1[q9]? = some ce → ce.vm = .none → s.vm.findClass E = some ce.cls → vx_W p l e R s m args below meth c H1 locs1 (cells + mc) (slots + ms) Q (F0 m pc ls rest) q9)
    (kk : ∀ (v : Option Value) (st t : State) (H1 : Heap) (locs1 : List Loc), st.heap = H → t.heap = H1 → s.vm.Alike t.vm → Qa st (.returned v) t → va_S (ab base) s.heap H1 locs1 → W p l e R s m args below meth c H1 locs1 (cells + mc) (slots + ms) Q (F0 m (pc + 3) ls (v.toList ++ rest))) : W p l e R s m args below meth c H locs cells slots Q (F0 m pc ls st0) := by
  intro T hT X
  rcases hr T hT X with ⟨v, st₀, t, T', L, h0, X', hL, e1, e2, hq, st⟩ | ⟨q, st₀, t, T', L, E, ce, h0, X', hL, e1, e2, hx, hce, hcv, hcl, st⟩
  · obtain ⟨k1, k2, k3⟩ := vx_keep h0 e1 hS (fun _ _ z => z) (fun _ z => z) hL (hQF _ _ _ hq)
    obtain ⟨t2, a1, b1⟩ := kk v st₀ t T'.heap (locs ++ L) h0 e1.symm (by rw [← e2]; exact X'.warmed.alike) hq k3 T' rfl X'
    exact ⟨t2, st t2 a1, b1⟩
  · obtain ⟨k1, k2, k3⟩ := vx_keep h0 e1 hS (fun _ _ z => z) (fun _ z => z) hL (hXF _ _ _ hx)
    obtain ⟨t2, a1, b1⟩ := kx E ce q st₀ t T'.heap (locs ++ L) h0 e1.symm (by rw [← e2]; exact X'.warmed.alike) hx k3 (by rw [e1]; exact hce) hcv hcl T' rfl X'
    exact ⟨t2, st.trans a1, b1⟩
end ZC
def mkE (h : Nat × Nat × Nat × Nat × Nat × Nat × Nat) : ExceptionTableEntry := ⟨h.1, h.2.1, h.2.2.2.2.1, h.2.2.2.2.2.1⟩
theorem pg_ex_ne {e f : Nat} (he : 1 ≤ e ∧ e ≤ 3) (hf : f = 1 ∨ f = 2 ∨ f = 3) (h : f ≠ e) : pg_ex e ≠ pg_ex f := by
  have : e = 1 ∨ e = 2 ∨ e = 3 := by omega
  rcases this with rfl | rfl | rfl <;> rcases hf with rfl | rfl | rfl <;> first | exact absurd rfl h | decide
set_option maxHeartbeats 1000000 in
/-- behind a call: what the pure machine says of it carries over -/
theorem z_aft {l : Launch} {base : Nat} {D : va_G} {d b' y i a : Nat} {ls : List (Option PV)} {rest : List PV} {Q P : QT} {K : KM}
    (h2 : ∀ r K' I' R', P r K' I' R' → aft (Snd l base D) d b' y i ls rest Q r K' I' R')
    {p : Program} {e : Env} {rm : Room} {s : State} {m : MethodId} {args : Array Value} {below : List Frame} {meth : Method} {cc : Code} {H : Heap} {locs : List Loc} {cells slots : Nat} {lsA : Array Slot} {restA st0 : List Value} {am am0 : Lb → Nat} {K0 : KM} {av : Array Value}
    (hcx : Cx p s m meth cc y) (hsf : sfp base s s.heap) (hma : pg_own y ≠ "java/lang/Math") (hdf : d ≤ rm.frames) (hdl : 80 * d ≤ rm.locals) (hcb : cells + pg_cst a + b' ≤ rm.cells) (hsb : slots + pg_cst a + b' ≤ rm.slots)
    (hS : va_S (ab base) s.heap H locs) (hl : lr am K ls lsA (pg_ml y)) (hs : sr am K rest restA) (he : ext am0 K0 am K) (hn : pg_pc y (i + 1) = pg_pc y i + 3)
    (hr : vx_Run p l e rm s m args below meth cc H locs cells slots (pg_cst a) (pg_cst a) (F0 m (pg_pc y i) lsA st0) restA (QcF base D am K P av) (XcF base D am K P) (ab base)) :
    W p l e rm s m args below meth cc H locs cells slots (vx_MQ below (QcF base D am0 K0 Q) (XcF base D am0 K0 Q) args s rm.cells rm.slots (ab base)) (F0 m (pg_pc y i) lsA st0) := by
  refine z_call hr hS (fun st o t hq => ?_) (fun E st t hx => ?_) (fun E ce q9 st t H1 locs1 hst ht hvm hx hS1 hce hcv hcl => ?_) (fun v st t H1 locs1 hst ht hvm hq hS1 => ?_)
  · obtain ⟨r, K', I', R', am', -, -, -, -, hF⟩ := hq
    exact hF
  · obtain ⟨r, K', I', R', am', -, -, -, -, hF⟩ := hx
    exact hF
  · obtain ⟨e9, K', I', R', am', hP, ⟨rfl, he9⟩, hh1, hx1, hF⟩ := hx
    have hh2 : hp base D am' K' I' R' s H1 := by rw [← ht]; exact hp_moved hvm.symm hh1
    have h3 := h2 _ _ _ _ hP
    unfold aft at h3
    dsimp only at h3
    split at h3
    · rename_i h hf
      unfold hfind at hf
      split at hf
      · rename_i x hfx
        cases hf
        obtain ⟨hpx, as1, bs1, hsp, hpre⟩ := List.find?_eq_some_iff_append.mp hfx
        simp only [Bool.and_eq_true, decide_eq_true_eq] at hpx
        obtain ⟨⟨c1, c2⟩, c3⟩ := hpx
        obtain ⟨hmap, hall⟩ := hh_of y
        obtain ⟨w1, w2, w3, w4⟩ := hall x (by rw [hsp]; exact List.mem_append_right _ List.mem_cons_self)
        have htb : cc.exceptionTable.toList = tableOf (pg_hh y) := hcx.2.2.2.2.2.2.2
        have hown := hcx.2.2.2.2.1
        have htb2 : cc.exceptionTable.toList = as1.map mkE ++ mkE x :: bs1.map mkE := by
          rw [htb, hmap, hsp, tableOf, List.map_map, List.map_append, List.map_cons]
          rfl
        refine vx_catch (name := pg_ex x.2.2.2.1) hown (as1.map mkE) (mkE x) (bs1.map mkE) htb2 (fun z hz => ?_) ?_ w3 (sfp_word hsf w1) ?_ hce hcv hcl ?_
        · obtain ⟨z2, hz2, rfl⟩ := List.mem_map.mp hz
          obtain ⟨v1, v2, v3, v4⟩ := hall z2 (by rw [hsp]; exact List.mem_append_left _ hz2)
          have hn2 := hpre z2 hz2
          by_cases hcov : z2.1 ≤ pg_pc y i ∧ pg_pc y i < z2.2.1
          · refine Or.inr ⟨v3, pg_ex z2.2.2.2.1, sfp_word hsf v1, ?_⟩
            refine hsf.2.2.2.1 _ _ (pg_ex_ne he9 v4 (fun q => ?_))
            simp [hcov.1, hcov.2, q] at hn2
          · refine Or.inl ?_
            show (decide (z2.1 ≤ pg_pc y i) && decide (pg_pc y i < z2.2.1)) = false
            by_cases q1 : z2.1 ≤ pg_pc y i
            · rw [decide_eq_false (fun q2 => hcov ⟨q1, q2⟩), Bool.and_false]
            · rw [decide_eq_false q1, Bool.false_and]
        · show (decide (x.1 ≤ pg_pc y i) && decide (pg_pc y i < x.2.1)) = true
          rw [decide_eq_true c1, decide_eq_true c2]; rfl
        · have hE : pg_ex x.2.2.2.1 = pg_ex e9 := by rw [c3]
          rw [hE]
          have hcw : ∀ f : Nat, f = 1 ∨ f = 2 ∨ f = 3 → Cond.castable (pg_ex f) (pg_ex f) ∈ lw_tbl := by
            intro f hf
            rcases hf with rfl | rfl | rfl
            · exact z_castw.1
            · exact z_castw.2.1
            · exact z_castw.2.2
          have hm := hcw e9 (by omega)
          exact okw_use (by rfl) (hsf.1 _ hm (by rfl))
        · show W p l e rm s m args below meth cc H1 locs1 (cells + pg_cst a) (slots + pg_cst a) _ (F0 m x.2.2.2.2.1 lsA [.ref q9])
          rw [← w2]
          exact h3 p e rm s m args below meth cc H1 locs1 _ _ lsA _ am' am0 K0 hcx hsf hma hdf hdl hcb hsb hh2 hS1 (lr_ext hx1 hl) ⟨⟨q9, rfl⟩, trivial⟩ (ext_tr he hx1)
      · cases hf
    · obtain ⟨hx0, hQ⟩ := h3
      have htb : cc.exceptionTable.toList = tableOf (pg_hh y) := hcx.2.2.2.2.2.2.2
      rw [(hh_of y).1, hx0] at htb
      refine vx_out (fun x hx => by rw [htb] at hx; cases hx) hcx.2.2.2.2.2.1 hce hcv hcl (fun t2 ht2 hvm2 => ⟨e9, K', I', R', am', hQ, ⟨rfl, he9⟩, by rw [ht2]; exact hp_moved hvm2 hh2, ext_tr he hx1, by rw [ht2]; exact hS1.1, fun q q1 q2 => by rw [ht2]; exact hS1.2.1 q q1 q2⟩) hS1.2.2 (by omega) (by omega)
  · obtain ⟨r, K', I', R', am', hP, ho, hh1, hx1, hF⟩ := hq
    have hh2 : hp base D am' K' I' R' s H1 := by rw [← ht]; exact hp_moved hvm.symm hh1
    have h3 := h2 _ _ _ _ hP
    rw [← hn]
    cases r with
    | none =>
      have ho : Outcome.returned v = .returned none := ho
      cases ho
      exact (show Snd l base D d b' y (i + 1) ls rest K' I' R' Q from h3) p e rm s m args below meth cc H1 locs1 _ _ lsA _ am' am0 K0 hcx hsf hma hdf hdl hcb hsb hh2 hS1 (lr_ext hx1 hl) (sr_ext hx1 hs) (ext_tr he hx1)
    | some w =>
      obtain ⟨v', ho, hv⟩ := ho
      cases ho
      exact (show Snd l base D d b' y (i + 1) ls (w :: rest) K' I' R' Q from h3) p e rm s m args below meth cc H1 locs1 _ _ lsA _ am' am0 K0 hcx hsf hma hdf hdl hcb hsb hh2 hS1 (lr_ext hx1 hl) ⟨hv, sr_ext hx1 hs⟩ (ext_tr he hx1)

set_option maxHeartbeats 1000000 in
theorem sd_40 {l : Launch} {base : Nat} {D : va_G} {d b y i : Nat} {ls : List (Option PV)} {st : List PV} {K : KM} {I : IM} {R : RM} {Q : QT} {a c : Nat} {z : Int} (HC : chkB y i 40 a c z (pg_wd y i) = true) (h9 : stC (Snd l base D) 40 a c z d b y i ls st K I R Q) : Snd l base D d b y i ls st K I R Q := by
  intro p e rm s m args below meth cc H locs cells slots lsA stA am am0 K0 hcx hsf hma hdf hdl hcb hsb hh hS hl hs he
  obtain ⟨hx, hb, hr, hml, hown, hlk, hnm, htb⟩ := id hcx
  obtain ⟨as, rest, d', b', P, rfl, hna, hc1, hrl, rfl, rfl, h1, h2⟩ := (show ∃ as rest d' b' P, st = as.reverse ++ rest ∧ as.length = pg_na a ∧ (∀ v ∈ as, isC1 v) ∧ rest.length ≤ 4 ∧ d = d' + 1 ∧ b = b' + pg_cst a ∧ Snd l base D d' (pg_cst a) a 0 (entls a as) [] K I R P ∧ ∀ r K' I' R', P r K' I' R' → aft (Snd l base D) (d' + 1) b' y i ls rest Q r K' I' R' from by
    obtain ⟨as, rest, d', b', P, e1, e2, e2c, e3, e4, e5, e6, e7⟩ := h9
    exact ⟨as, rest, d', b', P, e1, e2, e2c, e3, e4, e5, e6, by rw [← e4]; exact e7⟩)
  have HC : (dc y i (.invokestatic z.toNat) 3 && chkC a && pg_sta a && isw ((pg_wd y i).getD 0 0) (.methodLink (pg_own y) z.toNat (pg_nm a))) = true := HC
  simp only [Bool.and_eq_true] at HC
  obtain ⟨⟨⟨h0, hck⟩, hst⟩, hw⟩ := HC
  obtain ⟨hd, hn⟩ := dc_at h0
  obtain ⟨k1, k2, k3, k4, k5, k6, k7, k8, k9, k10, k11⟩ := chkC_at hck
  rw [hst, if_pos rfl] at k2 k5
  obtain ⟨asA, restA, rfl, hsa, hsr⟩ := sr_un hs
  have hlen2 := sr_len hsa
  have hcat : 2 * (F0 m (pg_pc y i) lsA ([] : List Value)).monitorRoom + (restA.map fun v => v.category).sum ≤ 8 := by
    have := sr_cat hsr
    show 2 * 0 + _ ≤ 8
    omega
  have hlz := hl.2.choose_spec.1.1
  have hcwd : (pg_cw a).before args s = true := sfp_word hsf k1
  have hcwU : ∀ w ∈ [pg_cw a], ∀ (a' : Array Value) (U : State), s.WarmedH U.vm → w.before a' U = true := fun w hw a' U hW => by
    rw [List.mem_singleton] at hw
    subst hw
    have ho : okw (pg_cw a) = true := by
      unfold isw at k1
      rw [Bool.and_eq_true] at k1
      exact k1.2
    exact okw_use ho (okw_warm ho hW (okw_use ho hcwd))
  have hsig : ∀ sig, parseMethodDescriptor (pg_nm a).desc = some sig → as.length = sig.parameters.length := fun sig hsg => by
    rw [hsg, Option.map_some] at k5
    have := Option.some.inj k5
    rw [this]
    exact hna
  have hlo0 : 8 + (pg_ml a + 11) + 80 * d' ≤ rm.locals := by omega
  have hfix : CallFix p m cc (pg_by y) (pg_ml y) s args [] (pg_own y) := ⟨hx, hb, hml, hown, fun w hw => nomatch hw⟩
  have hpre : PreS s H (PcF base D am K I R as) asA := ⟨blindF, fun U hU hW => ⟨sfp_warm hW (by rw [hU]; exact hS.1) (fun q q1 q2 => by rw [hU]; exact hS.2.1 q q1 q2) hsf, by rw [hU]; exact hp_moved hW.alike hh, asA, rfl, hsa⟩⟩
  refine z_aft (a := a) (d := d' + 1) h2 hcx hsf hma hdf hdl (by omega) (by omega) hS hl hsr he hn (av := asA.toArray) (st0 := asA.reverse ++ restA) ?_
  by_cases hhe : pg_hh a = []
  · have ecw : pg_cw a = .code (pg_nm a) (pg_by a) (pg_ml a) (pg_rt a) := by unfold pg_cw; rw [if_pos hhe]
    exact vx_runS (n := as.length) hfix (snd_met h1 hck hna hc1 am) ⟨⟨rfl, rfl, hdf, hlo0, hcwU, by rw [ecw]; exact List.mem_cons_self, by rw [← ecw]; exact hcwd, sfp_word hsf k3, k4, hsig, sfp_word hsf hw⟩, sfp_word hsf k2⟩ hpre rfl hlen2 hlz rfl hcat hd ⟨by omega, by omega⟩
  · have ecw : pg_cw a = .codeWith (pg_nm a) (pg_by a) (pg_ml a) (pg_rt a) (pg_hh a) := by unfold pg_cw; rw [if_neg hhe]
    exact vx_runSX (n := as.length) hfix (snd_met h1 hck hna hc1 am) ⟨⟨rfl, rfl, hdf, hlo0, hcwU, by rw [ecw]; exact List.mem_cons_self⟩, by rw [← ecw]; exact hcwd, sfp_word hsf k3, k4, hsig, sfp_word hsf hw, sfp_word hsf k2⟩ hpre rfl hlen2 hlz rfl hcat hd ⟨by omega, by omega⟩

set_option maxHeartbeats 1000000 in
theorem sd_41 {l : Launch} {base : Nat} {D : va_G} {d b y i : Nat} {ls : List (Option PV)} {st : List PV} {K : KM} {I : IM} {R : RM} {Q : QT} {a c : Nat} {z : Int} (HC : chkB y i 41 a c z (pg_wd y i) = true) (h9 : stC (Snd l base D) 41 a c z d b y i ls st K I R Q) : Snd l base D d b y i ls st K I R Q := by
  intro p e rm s m args below meth cc H locs cells slots lsA stA am am0 K0 hcx hsf hma hdf hdl hcb hsb hh hS hl hs he
  obtain ⟨hx, hb, hr, hml, hown, hlk, hnm, htb⟩ := id hcx
  obtain ⟨L, as, rest, d', b', n, P, rfl, hna, hc1, hrl, hK, rfl, rfl, h1, h2⟩ := (show ∃ L as rest d' b' n P, st = as.reverse ++ pR (some L) :: rest ∧ as.length + 1 = pg_na a ∧ (∀ v ∈ as, isC1 v) ∧ rest.length ≤ 4 ∧ K L = some (pg_cl a, n) ∧ d = d' + 1 ∧ b = b' + pg_cst a ∧ Snd l base D d' (pg_cst a) a 0 (entls a (pR (some L) :: as)) [] K I R P ∧ ∀ r K' I' R', P r K' I' R' → aft (Snd l base D) (d' + 1) b' y i ls rest Q r K' I' R' from by
    obtain ⟨L, as, rest, d', b', n, P, e1, e2, e2c, e3, e4, e5, e6, e7, e8⟩ := h9
    exact ⟨L, as, rest, d', b', n, P, e1, e2, e2c, e3, e4, e5, e6, e7, by rw [← e5]; exact e8⟩)
  have HC : (dc y i (.invokevirtual z.toNat) 3 && chkC a && !(pg_sta a) && decide (pg_hh a = []) && decide (pg_cl a < 7) && decide (pg_own a = clC (pg_cl a)) && isw ((pg_wd y i).getD 0 0) (.methodLink (pg_own y) z.toNat (pg_nm a)) && isw (pg_qs.getD a pg_q0).2.2.2.2.2.2 (.selects (pg_own a) (pg_nm a) (pg_nm a))) = true := HC
  simp only [Bool.and_eq_true, decide_eq_true_eq, Bool.not_eq_true'] at HC
  obtain ⟨⟨⟨⟨⟨⟨⟨h0, hck⟩, hst⟩, hhe⟩, hcl7⟩, hoc⟩, hw⟩, hsel⟩ := HC
  obtain ⟨hd, hn⟩ := dc_at h0
  obtain ⟨k1, k2, k3, k4, k5, k6, k7, k8, k9, k10, k11⟩ := chkC_at hck
  rw [hst, if_neg (by exact Bool.false_ne_true)] at k2 k5
  obtain ⟨asA, c2, rfl, hsa, hs2⟩ := sr_un hs
  obtain ⟨restA, rfl, hkL, hsr⟩ := sr_r hs2
  have hlen2 := sr_len hsa
  have hcat : 2 * (F0 m (pg_pc y i) lsA ([] : List Value)).monitorRoom + (restA.map fun v => v.category).sum ≤ 8 := by
    have := sr_cat hsr
    show 2 * 0 + _ ≤ 8
    omega
  have hlz := hl.2.choose_spec.1.1
  have hcwd : (pg_cw a).before args s = true := sfp_word hsf k1
  have hcwU : ∀ w ∈ [pg_cw a], ∀ (a' : Array Value) (U : State), s.WarmedH U.vm → w.before a' U = true := fun w hw a' U hW => by
    rw [List.mem_singleton] at hw
    subst hw
    have ho : okw (pg_cw a) = true := by
      unfold isw at k1
      rw [Bool.and_eq_true] at k1
      exact k1.2
    exact okw_use ho (okw_warm ho hW (okw_use ho hcwd))
  have hsig : ∀ sig, parseMethodDescriptor (pg_nm a).desc = some sig → as.length = sig.parameters.length := fun sig hsg => by
    rw [hsg, Option.map_some] at k5
    have := Option.some.inj k5
    rw [this]
    omega
  have hlo0 : 8 + (pg_ml a + 11) + 80 * d' ≤ rm.locals := by omega
  have hfix : CallFix p m cc (pg_by y) (pg_ml y) s args [] (pg_own y) := ⟨hx, hb, hml, hown, fun w hw => nomatch hw⟩
  have hsa2 : sr am K (pR (some L) :: as) (.ref (am L) :: asA) := ⟨⟨rfl, hkL⟩, hsa⟩
  have hc2 : ∀ v ∈ (pR (some L) :: as), isC1 v := fun v hv => by
    rcases List.mem_cons.mp hv with rfl | hv
    · trivial
    · exact hc1 v hv
  have hpre : ∀ U : State, U.heap = H → s.WarmedH U.vm → PcF base D am K I R (pR (some L) :: as) (Value.ref (am L) :: asA).toArray U := fun U hU hW => ⟨sfp_warm hW (by rw [hU]; exact hS.1) (fun q q1 q2 => by rw [hU]; exact hS.2.1 q q1 q2) hsf, by rw [hU]; exact hp_moved hW.alike hh, _, rfl, hsa2⟩
  have ecw : pg_cw a = .code (pg_nm a) (pg_by a) (pg_ml a) (pg_rt a) := by unfold pg_cw; rw [if_pos hhe]
  obtain ⟨tys, Ls, f, hhq⟩ := id hh
  obtain ⟨q0, fs, hq0, -, -, -⟩ := hq_obj hhq hK hcl7
  have hrecv := va_recv hhq.1 hhq.2.1 (vw_at _ hcl7) hq0
  refine z_aft (a := a) (d := d' + 1) h2 hcx hsf hma hdf hdl (by omega) (by omega) hS hl hsr he hn (av := (Value.ref (am L) :: asA).toArray) (st0 := asA.reverse ++ .ref (am L) :: restA) ?_
  exact vx_runV (n := as.length) (C := pg_own a) hfix (snd_met h1 hck (by rw [List.length_cons]; exact hna) hc2 am) ⟨⟨rfl, rfl, hdf, hlo0, hcwU, by rw [ecw]; exact List.mem_cons_self, by rw [← ecw]; exact hcwd, sfp_word hsf k3, k4, hsig, sfp_word hsf hw⟩, sfp_word hsf k2, sfp_word hsf hsel⟩ ⟨blindF, by rw [hoc]; exact hrecv, hpre⟩ rfl hlen2 hlz rfl hcat hd ⟨by omega, by omega⟩

/-- a contract without throws -/
theorem met_of_vx {l : Launch} {y : MethodName} {ws : List Cond} {rm : Room} {Pc : Array Value → State → Prop} {Qc : Array Value → State → Outcome → State → Prop} {XC : String → State → State → Prop} {mc ms : Nat} {free : Addr → Prop} (h : vx_Met l y ws rm Pc Qc XC mc ms free) (hno : ∀ E st t, ¬ XC E st t) : Met l y ws rm Pc Qc mc ms free := by
  intro p e a1 a2 a3 s m args below a4 a5 a6 a7
  obtain ⟨n, o, b1, b2, b3, b4⟩ := h p e a1 a2 a3 s m args below a4 a5 a6 a7
  refine ⟨n, o, b1, b2, b3, ?_⟩
  rcases b4 with b4 | ⟨q, rfl, E, ce, L, hx, -⟩
  · exact b4
  · exact (hno _ _ _ hx).elim
theorem run_of_va {p : Program} {l : Launch} {e : Env} {R : Room} {s : State} {m : MethodId} {args : Array Value} {below : List Frame} {meth : Method} {c : Code} {H : Heap} {locs : List Loc} {cells slots mc ms : Nat} {g : JFrame} {rest : List Value} {Qa : State → Outcome → State → Prop} {XC : String → State → State → Prop} {free : Addr → Prop} (h : va_Run p l e R s m args below meth c H locs cells slots mc ms g rest Qa free) : vx_Run p l e R s m args below meth c H locs cells slots mc ms g rest Qa XC free := fun T hT X => Or.inl (h T hT X)

set_option maxHeartbeats 1000000 in
theorem sd_42 {l : Launch} {base : Nat} {D : va_G} {d b y i : Nat} {ls : List (Option PV)} {st : List PV} {K : KM} {I : IM} {R : RM} {Q : QT} {a c : Nat} {z : Int} (HC : chkB y i 42 a c z (pg_wd y i) = true) (h9 : stC (Snd l base D) 42 a c z d b y i ls st K I R Q) : Snd l base D d b y i ls st K I R Q := by
  intro p e rm s m args below meth cc H locs cells slots lsA stA am am0 K0 hcx hsf hma hdf hdl hcb hsb hh hS hl hs he
  obtain ⟨hx, hb, hr, hml, hown, hlk, hnm, htb⟩ := id hcx
  obtain ⟨L, as, rest, d', b', n, P, rfl, hna, hc1, hrl, hK, rfl, rfl, h1, h2⟩ := (show ∃ L as rest d' b' n P, st = as.reverse ++ pR (some L) :: rest ∧ as.length + 1 = pg_na a ∧ (∀ v ∈ as, isC1 v) ∧ rest.length ≤ 4 ∧ K L = some (pg_cl a, n) ∧ d = d' + 1 ∧ b = b' + pg_cst a ∧ Snd l base D d' (pg_cst a) a 0 (entls a (pR (some L) :: as)) [] K I R P ∧ ∀ r K' I' R', P r K' I' R' → (∃ v, r = .inl v) ∧ aft (Snd l base D) (d' + 1) b' y i ls rest Q r K' I' R' from by
    obtain ⟨L, as, rest, d', b', n, P, e1, e2, e2c, e3, e4, e5, e6, e7, e8⟩ := h9
    exact ⟨L, as, rest, d', b', n, P, e1, e2, e2c, e3, e4, e5, e6, e7, by rw [← e5]; exact e8⟩)
  have HC : (dc y i (.invokespecial z.toNat) 3 && chkC a && !(pg_sta a) && decide (pg_hh a = []) && decide (pg_cl a < 7) && decide (pg_own a = clC (pg_cl a)) && decide ((pg_nm a).name = "<init>") && decide (pg_rt a = none) && ((decide (c = 0) && isw ((pg_wd y i).getD 0 0) (.methodLink (pg_own y) z.toNat (pg_nm a))) || (decide (c = 1) && isw ((pg_wd y i).getD 0 0) (.methodLinkNest (pg_own y) z.toNat (pg_nm a) "KayfabeRing")))) = true := HC
  simp only [Bool.and_eq_true, Bool.or_eq_true, decide_eq_true_eq, Bool.not_eq_true'] at HC
  obtain ⟨⟨⟨⟨⟨⟨⟨⟨h0, hck⟩, hst⟩, hhe⟩, hcl7⟩, hoc⟩, hin⟩, hrt⟩, hw⟩ := HC
  obtain ⟨hd, hn⟩ := dc_at h0
  obtain ⟨k1, k2, k3, k4, k5, k6, k7, k8, k9, k10, k11⟩ := chkC_at hck
  rw [hst, if_neg (by exact Bool.false_ne_true)] at k2 k5
  obtain ⟨asA, c2, rfl, hsa, hs2⟩ := sr_un hs
  obtain ⟨restA, rfl, hkL, hsr⟩ := sr_r hs2
  have hlen2 := sr_len hsa
  have hcat : 2 * (F0 m (pg_pc y i) lsA ([] : List Value)).monitorRoom + (restA.map fun v => v.category).sum ≤ 8 := by
    have := sr_cat hsr
    show 2 * 0 + _ ≤ 8
    omega
  have hlz := hl.2.choose_spec.1.1
  have hcwd : (pg_cw a).before args s = true := sfp_word hsf k1
  have hcwU : ∀ w ∈ [pg_cw a], ∀ (a' : Array Value) (U : State), s.WarmedH U.vm → w.before a' U = true := fun w hw a' U hW => by
    rw [List.mem_singleton] at hw
    subst hw
    have ho : okw (pg_cw a) = true := by
      unfold isw at k1
      rw [Bool.and_eq_true] at k1
      exact k1.2
    exact okw_use ho (okw_warm ho hW (okw_use ho hcwd))
  have hsig : ∀ sig, parseMethodDescriptor (pg_nm a).desc = some sig → as.length = sig.parameters.length := fun sig hsg => by
    rw [hsg, Option.map_some] at k5
    have := Option.some.inj k5
    rw [this]
    omega
  have hlo0 : 8 + (pg_ml a + 11) + 80 * d' ≤ rm.locals := by omega
  have hfix : CallFix p m cc (pg_by y) (pg_ml y) s args [] (pg_own y) := ⟨hx, hb, hml, hown, fun w hw => nomatch hw⟩
  have hsa2 : sr am K (pR (some L) :: as) (.ref (am L) :: asA) := ⟨⟨rfl, hkL⟩, hsa⟩
  have hc2 : ∀ v ∈ (pR (some L) :: as), isC1 v := fun v hv => by
    rcases List.mem_cons.mp hv with rfl | hv
    · trivial
    · exact hc1 v hv
  have hpre : ∀ U : State, U.heap = H → s.WarmedH U.vm → PcF base D am K I R (pR (some L) :: as) (Value.ref (am L) :: asA).toArray U := fun U hU hW => ⟨sfp_warm hW (by rw [hU]; exact hS.1) (fun q q1 q2 => by rw [hU]; exact hS.2.1 q q1 q2) hsf, by rw [hU]; exact hp_moved hW.alike hh, _, rfl, hsa2⟩
  have ecw : pg_cw a = .code (pg_nm a) (pg_by a) (pg_ml a) (pg_rt a) := by unfold pg_cw; rw [if_pos hhe]
  rw [hrt] at ecw
  have hMet := met_of_vx (snd_met h1 hck (by rw [List.length_cons]; exact hna) hc2 am) (fun E st t hx => by
    obtain ⟨e9, K', I', R', am', hP, -⟩ := hx
    obtain ⟨v, hv⟩ := (h2 _ _ _ _ hP).1
    cases hv)
  refine z_aft (a := a) (d := d' + 1) (fun r K' I' R' hP => (h2 r K' I' R' hP).2) hcx hsf hma hdf hdl (by omega) (by omega) hS hl hsr he hn (av := (Value.ref (am L) :: asA).toArray) (st0 := asA.reverse ++ .ref (am L) :: restA) (run_of_va ?_)
  rcases hw with ⟨-, hw⟩ | ⟨-, hw⟩
  · exact va_runI (n := as.length) hfix hMet ⟨⟨rfl, rfl, hdf, hlo0, hcwU, by rw [ecw]; exact List.mem_cons_self, by rw [← ecw]; exact hcwd, sfp_word hsf k3, k4, hsig, sfp_word hsf hw⟩, hin, sfp_word hsf k2⟩ ⟨blindF, hpre⟩ rfl hlen2 hlz rfl hcat hd ⟨by omega, by omega⟩
  · exact va_runIN (n := as.length) (host := "KayfabeRing") hfix hMet ⟨⟨⟨rfl, rfl, hdf, hlo0, hcwU, by rw [ecw]; exact List.mem_cons_self⟩, by rw [← ecw]; exact hcwd, sfp_word hsf k3, k4, hsig, sfp_word hsf hw⟩, hin, sfp_word hsf k2⟩ ⟨blindF, hpre⟩ rfl hlen2 hlz rfl hcat hd ⟨by omega, by omega⟩

set_option maxHeartbeats 1000000 in
theorem sd_44 {l : Launch} {base : Nat} {D : va_G} {d b y i : Nat} {ls : List (Option PV)} {st : List PV} {K : KM} {I : IM} {R : RM} {Q : QT} {a c : Nat} {z : Int} (hlt : l.stackTraces = false) (HC : chkB y i 44 a c z (pg_wd y i) = true) (h9 : stC (Snd l base D) 44 a c z d b y i ls st K I R Q) : Snd l base D d b y i ls st K I R Q := by
  intro p e rm s m args below meth cc H locs cells slots lsA stA am am0 K0 hcx hsf hma hdf hdl hcb hsb hh hS hl hs he
  obtain ⟨hx, hb, hr, hml, hown, hlk, hnm, htb⟩ := id hcx
  obtain ⟨rfl, hhx, hd6, hb7, hQ⟩ := (show st = [] ∧ pg_hx y = [] ∧ 6 ≤ d ∧ 7 ≤ b ∧ Q (.inr a) K I R from h9)
  generalize pg_wd y i = w at HC
  have HC : (decide (pg_own y = RX5) && (decide (a = 1) || decide (a = 2) || decide (a = 3)) && dc0 y i (.new (w.getD 2 0)) 3 && decide (decode (pg_by y) (pg_pc y i + 3) = .ok (.dup, 1)) && decide ((pg_st.getD c ("", 0, "")).1 = RX5) && decide (c < pg_st.length) &&
      ((decide (w.getD 4 0 = 0) && decide (decode (pg_by y) (pg_pc y i + 4) = .ok (.ldc (pg_st.getD c ("", 0, "")).2.1, 2)) && decide (decode (pg_by y) (pg_pc y i + 6) = .ok (.invokespecial (w.getD 3 0), 3)) && decide (decode (pg_by y) (pg_pc y i + 9) = .ok (.athrow, 1))) ||
       (decide (w.getD 4 0 = 1) && decide (decode (pg_by y) (pg_pc y i + 4) = .ok (.ldc_w (pg_st.getD c ("", 0, "")).2.1, 3)) && decide (decode (pg_by y) (pg_pc y i + 7) = .ok (.invokespecial (w.getD 3 0), 3)) && decide (decode (pg_by y) (pg_pc y i + 10) = .ok (.athrow, 1)))) &&
      isw (w.getD 0 0) (.classLink RX5 (w.getD 2 0) (pg_ex a)) && isw (w.getD 1 0) (.initialized (pg_ex a)) && (decide (a = 1 ∧ w.getD 3 0 = 53) || decide (a = 2 ∧ w.getD 3 0 = 64) || decide (a = 3 ∧ w.getD 3 0 = 87))) = true := HC
  simp only [dc0, Bool.and_eq_true, Bool.or_eq_true, decide_eq_true_eq] at HC
  obtain ⟨⟨⟨⟨⟨⟨⟨⟨⟨ho5, ha⟩, d0⟩, d3⟩, hs5⟩, hcl⟩, hds⟩, hw0⟩, hw1⟩, hic⟩ := HC
  obtain rfl := sr_nil hs
  have hlz := hl.2.choose_spec.1.1
  have ha3 : 1 ≤ a ∧ a ≤ 3 := by omega
  rw [ho5] at hown
  have htb0 : cc.exceptionTable.toList = [] := by rw [htb, (hh_of y).1, hhx]; rfl
  have hic2 : w.getD 3 0 = (if a = 1 then 53 else if a = 2 then 64 else 87) := by
    rcases hic with (⟨rfl, q⟩ | ⟨rfl, q⟩) | ⟨rfl, q⟩ <;> simpa using q
  have hmem : a ∈ [1, 2, 3] := by
    rcases ha with (rfl | rfl) | rfl <;> simp
  have hT := List.all_eq_true.mp thW_ok a hmem
  rw [Bool.and_eq_true] at hT
  have hTw : ∀ w ∈ thW a, w ∈ lw_tbl ∧ okw w = true ∧ vx_ot w = true := fun w9 hw9 => by
    have := List.all_eq_true.mp hT.1 w9 hw9
    simp only [Bool.and_eq_true, decide_eq_true_eq] at this
    exact ⟨this.1.1, this.1.2, this.2⟩
  have eT : thW a = vx_atS RX5 (w.getD 3 0) (pg_ex a) thn := by rw [hic2]; rfl
  rw [eT] at hTw
  have hstm : pg_st.getD c ("", 0, "") ∈ pg_st := by
    rw [List.getD_eq_getElem?_getD, List.getElem?_eq_getElem hcl]
    exact List.getElem_mem hcl
  obtain ⟨sa, hsa⟩ := hsf.2.2.1 _ hstm
  rw [hs5] at hsa
  have hgood : ∀ w9 ∈ Cond.classLink RX5 (w.getD 2 0) (pg_ex a) :: Cond.initialized (pg_ex a) :: vx_atS RX5 (w.getD 3 0) (pg_ex a) thn, vx_ot w9 = true := fun w9 hw9 => by
    rcases List.mem_cons.mp hw9 with rfl | hw9
    · rfl
    · rcases List.mem_cons.mp hw9 with rfl | hw9
      · rfl
      · exact (hTw w9 hw9).2.2
  have hat : ∀ w9 ∈ vx_atS RX5 (w.getD 3 0) (pg_ex a) thn, w9.before args s = true := fun w9 hw9 => okw_use (hTw w9 hw9).2.1 (hsf.1 w9 (hTw w9 hw9).1 (hTw w9 hw9).2.1)
  have hXC : ∀ t : State, s.vm.Alike t.vm → H.size ≤ t.heap.size → (∀ q : Nat, q < H.size → t.heap[q]? = H[q]?) → XcF base D am0 K0 Q (pg_ex a) s t := fun t hvm hz hk => ⟨a, K, I, R, am, hQ, ⟨rfl, ha3⟩, hp_grow hk (hp_moved hvm hh), he, Nat.le_trans hS.1 hz, fun q q1 q2 => by rw [hk q (Nat.lt_of_lt_of_le q1 hS.1)]; exact hS.2.1 q q1 q2⟩
  have hnm2 : ∀ n ∈ thn, Bundle.fit n = true := fun n hn => List.all_eq_true.mp thn_ok n hn
  rcases hds with ⟨⟨⟨-, d4⟩, d6⟩, d9⟩ | ⟨⟨⟨-, d4⟩, d6⟩, d9⟩
  · exact vx_throwS hx hb hlt hown hT.2 hnm2 (sfp_word hsf hw0) (sfp_word hsf hw1) hsa hat hgood hsf.2.2.2.2.1 hsf.2.2.2.2.2.1 hS (by rw [hlz, hml]) d0 d3 d4 d6 d9 (fun x hx => by rw [htb0] at hx; cases hx) (by show 2 + 3 < _; omega) (by show 0 + (13 * (2 + 1) + 43) ≤ _; omega) (by omega) (by omega) hlk hXC hS.2.2 (by omega) (by omega)
  · exact vx_throwSW hx hb hlt hown hT.2 hnm2 (sfp_word hsf hw0) (sfp_word hsf hw1) hsa hat hgood hsf.2.2.2.2.1 hsf.2.2.2.2.2.1 hS (by rw [hlz, hml]) d0 d3 d4 d6 d9 (fun x hx => by rw [htb0] at hx; cases hx) (by show 2 + 3 < _; omega) (by show 0 + (13 * (2 + 1) + 43) ≤ _; omega) (by omega) (by omega) hlk hXC hS.2.2 (by omega) (by omega)
end
section
/-! the soundness of the pure machine -/
set_option maxHeartbeats 4000000 in
theorem snd_step {l : Launch} (hlt : l.stackTraces = false) {base : Nat} {D : va_G} (HC : ∀ y i r, pg_at y i = some r → pg_own y ≠ "java/lang/Math" → chk y i = true) {d b y i : Nat} {ls : List (Option PV)} {st : List PV} {K : KM} {I : IM} {R : RM} {Q : QT} (h : Mst (Snd l base D) d b y i ls st K I R Q) : Snd l base D d b y i ls st K I R Q := by
  intro p e rm s m args below meth cc H locs cells slots lsA stK am am0 K0 hcx hsf hma hdf hdl hcb hsb hh hS hl hs he
  obtain ⟨op, a, c, z, hi, h⟩ := h
  have HK := chk_at hi (HC y i _ hi hma)
  rcases h with h | h | h
  · unfold stA at h
    split at h
    · exact sd_0 HK h p e rm s m args below meth cc H locs cells slots lsA stK am am0 K0 hcx hsf hma hdf hdl hcb hsb hh hS hl hs he
    · exact sd_1 HK h p e rm s m args below meth cc H locs cells slots lsA stK am am0 K0 hcx hsf hma hdf hdl hcb hsb hh hS hl hs he
    · exact sd_2 HK h p e rm s m args below meth cc H locs cells slots lsA stK am am0 K0 hcx hsf hma hdf hdl hcb hsb hh hS hl hs he
    · exact sd_3 HK h p e rm s m args below meth cc H locs cells slots lsA stK am am0 K0 hcx hsf hma hdf hdl hcb hsb hh hS hl hs he
    · exact sd_4 HK h p e rm s m args below meth cc H locs cells slots lsA stK am am0 K0 hcx hsf hma hdf hdl hcb hsb hh hS hl hs he
    · exact sd_5 HK h p e rm s m args below meth cc H locs cells slots lsA stK am am0 K0 hcx hsf hma hdf hdl hcb hsb hh hS hl hs he
    · exact sd_6 HK h p e rm s m args below meth cc H locs cells slots lsA stK am am0 K0 hcx hsf hma hdf hdl hcb hsb hh hS hl hs he
    · exact sd_7 HK h p e rm s m args below meth cc H locs cells slots lsA stK am am0 K0 hcx hsf hma hdf hdl hcb hsb hh hS hl hs he
    · exact sd_8 HK h p e rm s m args below meth cc H locs cells slots lsA stK am am0 K0 hcx hsf hma hdf hdl hcb hsb hh hS hl hs he
    · exact sd_9 HK h p e rm s m args below meth cc H locs cells slots lsA stK am am0 K0 hcx hsf hma hdf hdl hcb hsb hh hS hl hs he
    · exact sd_10 HK h p e rm s m args below meth cc H locs cells slots lsA stK am am0 K0 hcx hsf hma hdf hdl hcb hsb hh hS hl hs he
    · exact sd_11 HK h p e rm s m args below meth cc H locs cells slots lsA stK am am0 K0 hcx hsf hma hdf hdl hcb hsb hh hS hl hs he
    · exact sd_12 HK h p e rm s m args below meth cc H locs cells slots lsA stK am am0 K0 hcx hsf hma hdf hdl hcb hsb hh hS hl hs he
    · exact sd_13 HK h p e rm s m args below meth cc H locs cells slots lsA stK am am0 K0 hcx hsf hma hdf hdl hcb hsb hh hS hl hs he
    · exact sd_14 HK h p e rm s m args below meth cc H locs cells slots lsA stK am am0 K0 hcx hsf hma hdf hdl hcb hsb hh hS hl hs he
    · exact sd_15 HK h p e rm s m args below meth cc H locs cells slots lsA stK am am0 K0 hcx hsf hma hdf hdl hcb hsb hh hS hl hs he
    · exact sd_16 HK h p e rm s m args below meth cc H locs cells slots lsA stK am am0 K0 hcx hsf hma hdf hdl hcb hsb hh hS hl hs he
    · exact sd_17 HK h p e rm s m args below meth cc H locs cells slots lsA stK am am0 K0 hcx hsf hma hdf hdl hcb hsb hh hS hl hs he
    · exact sd_18 HK h p e rm s m args below meth cc H locs cells slots lsA stK am am0 K0 hcx hsf hma hdf hdl hcb hsb hh hS hl hs he
    · exact sd_19 HK h p e rm s m args below meth cc H locs cells slots lsA stK am am0 K0 hcx hsf hma hdf hdl hcb hsb hh hS hl hs he
    · exact sd_20 HK h p e rm s m args below meth cc H locs cells slots lsA stK am am0 K0 hcx hsf hma hdf hdl hcb hsb hh hS hl hs he
    · exact sd_21 HK h p e rm s m args below meth cc H locs cells slots lsA stK am am0 K0 hcx hsf hma hdf hdl hcb hsb hh hS hl hs he
    · exact sd_22 HK h p e rm s m args below meth cc H locs cells slots lsA stK am am0 K0 hcx hsf hma hdf hdl hcb hsb hh hS hl hs he
    · exact sd_23 HK h p e rm s m args below meth cc H locs cells slots lsA stK am am0 K0 hcx hsf hma hdf hdl hcb hsb hh hS hl hs he
    · exact h.elim
  · unfold stB at h
    split at h
    · exact sd_24 HK h p e rm s m args below meth cc H locs cells slots lsA stK am am0 K0 hcx hsf hma hdf hdl hcb hsb hh hS hl hs he
    · exact sd_25 HK h p e rm s m args below meth cc H locs cells slots lsA stK am am0 K0 hcx hsf hma hdf hdl hcb hsb hh hS hl hs he
    · exact sd_26 HK h p e rm s m args below meth cc H locs cells slots lsA stK am am0 K0 hcx hsf hma hdf hdl hcb hsb hh hS hl hs he
    · exact sd_27 HK h p e rm s m args below meth cc H locs cells slots lsA stK am am0 K0 hcx hsf hma hdf hdl hcb hsb hh hS hl hs he
    · exact sd_28 HK h p e rm s m args below meth cc H locs cells slots lsA stK am am0 K0 hcx hsf hma hdf hdl hcb hsb hh hS hl hs he
    · exact sd_29 HK h p e rm s m args below meth cc H locs cells slots lsA stK am am0 K0 hcx hsf hma hdf hdl hcb hsb hh hS hl hs he
    · exact sd_30 HK h p e rm s m args below meth cc H locs cells slots lsA stK am am0 K0 hcx hsf hma hdf hdl hcb hsb hh hS hl hs he
    · exact sd_31 HK h p e rm s m args below meth cc H locs cells slots lsA stK am am0 K0 hcx hsf hma hdf hdl hcb hsb hh hS hl hs he
    · exact sd_32 HK h p e rm s m args below meth cc H locs cells slots lsA stK am am0 K0 hcx hsf hma hdf hdl hcb hsb hh hS hl hs he
    · exact sd_33 HK h p e rm s m args below meth cc H locs cells slots lsA stK am am0 K0 hcx hsf hma hdf hdl hcb hsb hh hS hl hs he
    · exact sd_34 HK h p e rm s m args below meth cc H locs cells slots lsA stK am am0 K0 hcx hsf hma hdf hdl hcb hsb hh hS hl hs he
    · exact sd_35 HK h p e rm s m args below meth cc H locs cells slots lsA stK am am0 K0 hcx hsf hma hdf hdl hcb hsb hh hS hl hs he
    · exact sd_36 HK h p e rm s m args below meth cc H locs cells slots lsA stK am am0 K0 hcx hsf hma hdf hdl hcb hsb hh hS hl hs he
    · exact sd_48 HK h p e rm s m args below meth cc H locs cells slots lsA stK am am0 K0 hcx hsf hma hdf hdl hcb hsb hh hS hl hs he
    · exact sd_50 HK h p e rm s m args below meth cc H locs cells slots lsA stK am am0 K0 hcx hsf hma hdf hdl hcb hsb hh hS hl hs he
    · exact h.elim
  · unfold stC at h
    split at h
    · exact sd_37 HK h p e rm s m args below meth cc H locs cells slots lsA stK am am0 K0 hcx hsf hma hdf hdl hcb hsb hh hS hl hs he
    · exact sd_38 HK h p e rm s m args below meth cc H locs cells slots lsA stK am am0 K0 hcx hsf hma hdf hdl hcb hsb hh hS hl hs he
    · exact sd_39 HK h p e rm s m args below meth cc H locs cells slots lsA stK am am0 K0 hcx hsf hma hdf hdl hcb hsb hh hS hl hs he
    · exact sd_40 HK h p e rm s m args below meth cc H locs cells slots lsA stK am am0 K0 hcx hsf hma hdf hdl hcb hsb hh hS hl hs he
    · exact sd_41 HK h p e rm s m args below meth cc H locs cells slots lsA stK am am0 K0 hcx hsf hma hdf hdl hcb hsb hh hS hl hs he
    · exact sd_42 HK h p e rm s m args below meth cc H locs cells slots lsA stK am am0 K0 hcx hsf hma hdf hdl hcb hsb hh hS hl hs he
    · exact sd_43 HK h p e rm s m args below meth cc H locs cells slots lsA stK am am0 K0 hcx hsf hma hdf hdl hcb hsb hh hS hl hs he
    · exact sd_44 hlt HK h p e rm s m args below meth cc H locs cells slots lsA stK am am0 K0 hcx hsf hma hdf hdl hcb hsb hh hS hl hs he
    · exact sd_45 HK h p e rm s m args below meth cc H locs cells slots lsA stK am am0 K0 hcx hsf hma hdf hdl hcb hsb hh hS hl hs he
    · exact sd_46 HK h p e rm s m args below meth cc H locs cells slots lsA stK am am0 K0 hcx hsf hma hdf hdl hcb hsb hh hS hl hs he
    · exact sd_47 HK h p e rm s m args below meth cc H locs cells slots lsA stK am am0 K0 hcx hsf hma hdf hdl hcb hsb hh hS hl hs he
    · exact sd_51 HK h p e rm s m args below meth cc H locs cells slots lsA stK am am0 K0 hcx hsf hma hdf hdl hcb hsb hh hS hl hs he
    · exact sd_52 HK h p e rm s m args below meth cc H locs cells slots lsA stK am am0 K0 hcx hsf hma hdf hdl hcb hsb hh hS hl hs he
    · exact sd_53 HK h p e rm s m args below meth cc H locs cells slots lsA stK am am0 K0 hcx hsf hma hdf hdl hcb hsb hh hS hl hs he
    · exact h.elim
theorem snd_all {l : Launch} (hlt : l.stackTraces = false) {base : Nat} {D : va_G} (HC : ∀ y i r, pg_at y i = some r → pg_own y ≠ "java/lang/Math" → chk y i = true) {d b y i : Nat} {ls : List (Option PV)} {st : List PV} {K : KM} {I : IM} {R : RM} {Q : QT} (h : Mw d b y i ls st K I R Q) : Snd l base D d b y i ls st K I R Q :=
  h (Snd l base D) (fun _ _ _ _ _ _ _ _ _ _ q => snd_step hlt HC q)
end
section
theorem HCK : ∀ y i r, pg_at y i = some r → pg_own y ≠ "java/lang/Math" → chk y i = true := sorry
/-! THE CLAIM OUT OF ONE WALK OF THE LAW'S BODY. Your part is whole_start (and what it stands on); all else here is the same for every law, but numbers. -/
def R_law : String := "KayfabeRingLaw"
def lw_P (b : Addr) (xs : List Int32) (args : Array Value) (s : State) : Prop := args = #[.ref b] ∧ s.IntsAt b xs ∧ xs.length ≤ 4096 ∧ (Jvm.Cond.and given_1 narrow_1).before args s = true
def lw_Q (_ : Array Value) (s : State) (o : Outcome) (t : State) : Prop := o = .returned (some (.int 1)) ∧ Framed s o t [] 601024 7293033
def lw_Z (below : List Frame) (a : Array Value) (s : State) : State → Prop := fun t => ∃ o, t.status = .running ∧ Ended t below o ∧ lw_Q a s o t
/-- the law's own end, with 1 on the stack, nothing written that was there before, its room as the claim has it -/
theorem lw_ret {p : Program} {l : Launch} {e : Env} {s : State} {m : MethodId} {below : List Frame} {meth : Method} {c : Code} {b : Nat} (hx : p.tables.exec = Jvm.exec) (hb : c.code = code) (hr : meth.sig.returnType = ret) (hlocks : meth.locks = false) {pc : Nat} {H : Heap} {ls : Array Slot} (hdg : decode code pc = .ok (.ireturn, 1)) : W p l e room_1 s m #[Value.ref b] below meth c H [] 601024 7293033 (lw_Z below #[Value.ref b] s) (F0 m pc ls [.int 1]) := by
  intro T hT X
  obtain ⟨fs, hret, hrun, hended, hW, hframe⟩ := X.leave (v := some (.int 1)) (hlocks := hlocks) (fun h => by rw [hr] at h; cases h)
  have hmeth' : T.vm.method? m = some meth := X.method'
  refine ⟨T.setFrames fs, ?_, .returned (some (.int 1)), hrun, hended, rfl, ⟨_, rfl⟩, hW, hframe⟩
  jvm_step X.here [X.here.top, hx, hb, hdg, hmeth', hr, ret, narrow_b1]
  (try refine ⟨rfl, ?_⟩); (try refine ⟨rfl, ?_⟩)
  first | (intro acts; rw [hret _ acts rfl rfl rfl]) | rw [hret _ _ rfl rfl rfl]
  exact Steps.refl _
/-- what holds at the law's entry: the machine, the code, the tables' words (any of lw_tbl by 'hts w (by decide +kernel)'), the script of L ints xs at the cell b, what the Statement gives of the start (any of its parts by flat_of_before) -/
def lw_At (p : Program) (s : State) (m : MethodId) (meth : Method) (c : Code) (b L : Nat) (xs : Nat → Int32) : Prop :=
  p.tables.exec = Jvm.exec ∧ c.code = code ∧ meth.sig.returnType = ret ∧ c.maxLocals = 7 ∧ s.vm.findClass R_law = some m.cls ∧ (∀ w ∈ lw_tbl, w.before #[Value.ref b] s = true) ∧ va_X b L xs s s.heap ∧ b < s.heap.size ∧ meth.locks = false ∧ (Jvm.Cond.and given_1 narrow_1).before #[Value.ref b] s = true

def SCR : Lb := (0, 0, 0)
def K00 (L : Nat) : KM := fun q => if q = SCR then some (14, L) else none
def I00 (xs : Nat → Int32) : IM := fun q => if q = SCR then xs else fun _ => 0
def R00 : RM := fun _ _ => none
def QL : QT := fun r _ _ _ => r = .inl (some (pI 1))
/-- what is owed in the pure machine -/
def HMT : Prop := ∀ (L : Nat) (xs : Nat → Int32), L ≤ 4096 → Mw 1000 601000 N_L_law 0 (entls N_L_law [pR (some SCR)]) [] (K00 L) (I00 xs) R00 QL

theorem z_str0 {args : Array Value} {s : State} (hts : ∀ w ∈ lw_tbl, w.before args s = true) (hgv : (Jvm.Cond.and given_1 narrow_1).before args s = true) : ∃ sa, vk_R "KayfabeRing" 51 "skill, mic or role is out of range" sa s := by
  have h1 : (Cond.stringRef "KayfabeRing" 51 "skill, mic or role is out of range").before args s = true := hts _ (List.mem_of_getElem? (i := 360) (by decide +kernel))
  have h2 : (Cond.exactly (.string "KayfabeRing" 51) "java/lang/String").before args s = true := flat_of_before _ hgv _ (by decide +kernel)
  obtain ⟨a, c, cA, kA, q1, q2⟩ := Cond.exactly_spec h2
  exact ⟨a, vk_R.of (A := #[]) h1 q1⟩
theorem z_str1 {args : Array Value} {s : State} (hts : ∀ w ∈ lw_tbl, w.before args s = true) (hgv : (Jvm.Cond.and given_1 narrow_1).before args s = true) : ∃ sa, vk_R "KayfabeRing" 62 "the roster is full" sa s := by
  have h1 : (Cond.stringRef "KayfabeRing" 62 "the roster is full").before args s = true := hts _ (List.mem_of_getElem? (i := 396) (by decide +kernel))
  have h2 : (Cond.exactly (.string "KayfabeRing" 62) "java/lang/String").before args s = true := flat_of_before _ hgv _ (by decide +kernel)
  obtain ⟨a, c, cA, kA, q1, q2⟩ := Cond.exactly_spec h2
  exact ⟨a, vk_R.of (A := #[]) h1 q1⟩
theorem z_str2 {args : Array Value} {s : State} (hts : ∀ w ∈ lw_tbl, w.before args s = true) (hgv : (Jvm.Cond.and given_1 narrow_1).before args s = true) : ∃ sa, vk_R "KayfabeRing" 77 "there are all titles" sa s := by
  have h1 : (Cond.stringRef "KayfabeRing" 77 "there are all titles").before args s = true := hts _ (List.mem_of_getElem? (i := 410) (by decide +kernel))
  have h2 : (Cond.exactly (.string "KayfabeRing" 77) "java/lang/String").before args s = true := flat_of_before _ hgv _ (by decide +kernel)
  obtain ⟨a, c, cA, kA, q1, q2⟩ := Cond.exactly_spec h2
  exact ⟨a, vk_R.of (A := #[]) h1 q1⟩
theorem z_str3 {args : Array Value} {s : State} (hts : ∀ w ∈ lw_tbl, w.before args s = true) (hgv : (Jvm.Cond.and given_1 narrow_1).before args s = true) : ∃ sa, vk_R "KayfabeRing" 85 "no such wrestler" sa s := by
  have h1 : (Cond.stringRef "KayfabeRing" 85 "no such wrestler").before args s = true := hts _ (List.mem_of_getElem? (i := 432) (by decide +kernel))
  have h2 : (Cond.exactly (.string "KayfabeRing" 85) "java/lang/String").before args s = true := flat_of_before _ hgv _ (by decide +kernel)
  obtain ⟨a, c, cA, kA, q1, q2⟩ := Cond.exactly_spec h2
  exact ⟨a, vk_R.of (A := #[]) h1 q1⟩
theorem z_str4 {args : Array Value} {s : State} (hts : ∀ w ∈ lw_tbl, w.before args s = true) (hgv : (Jvm.Cond.and given_1 narrow_1).before args s = true) : ∃ sa, vk_R "KayfabeRing" 88 "both are the same, or until is out of range" sa s := by
  have h1 : (Cond.stringRef "KayfabeRing" 88 "both are the same, or until is out of range").before args s = true := hts _ (List.mem_of_getElem? (i := 439) (by decide +kernel))
  have h2 : (Cond.exactly (.string "KayfabeRing" 88) "java/lang/String").before args s = true := flat_of_before _ hgv _ (by decide +kernel)
  obtain ⟨a, c, cA, kA, q1, q2⟩ := Cond.exactly_spec h2
  exact ⟨a, vk_R.of (A := #[]) h1 q1⟩
theorem z_str5 {args : Array Value} {s : State} (hts : ∀ w ∈ lw_tbl, w.before args s = true) (hgv : (Jvm.Cond.and given_1 narrow_1).before args s = true) : ∃ sa, vk_R "KayfabeRing" 93 "day is out of range" sa s := by
  have h1 : (Cond.stringRef "KayfabeRing" 93 "day is out of range").before args s = true := hts _ (List.mem_of_getElem? (i := 447) (by decide +kernel))
  have h2 : (Cond.exactly (.string "KayfabeRing" 93) "java/lang/String").before args s = true := flat_of_before _ hgv _ (by decide +kernel)
  obtain ⟨a, c, cA, kA, q1, q2⟩ := Cond.exactly_spec h2
  exact ⟨a, vk_R.of (A := #[]) h1 q1⟩
theorem z_str6 {args : Array Value} {s : State} (hts : ∀ w ∈ lw_tbl, w.before args s = true) (hgv : (Jvm.Cond.and given_1 narrow_1).before args s = true) : ∃ sa, vk_R "KayfabeRing" 104 "no such town, wrestler or title" sa s := by
  have h1 : (Cond.stringRef "KayfabeRing" 104 "no such town, wrestler or title").before args s = true := hts _ (List.mem_of_getElem? (i := 462) (by decide +kernel))
  have h2 : (Cond.exactly (.string "KayfabeRing" 104) "java/lang/String").before args s = true := flat_of_before _ hgv _ (by decide +kernel)
  obtain ⟨a, c, cA, kA, q1, q2⟩ := Cond.exactly_spec h2
  exact ⟨a, vk_R.of (A := #[]) h1 q1⟩
theorem z_str7 {args : Array Value} {s : State} (hts : ∀ w ∈ lw_tbl, w.before args s = true) (hgv : (Jvm.Cond.and given_1 narrow_1).before args s = true) : ∃ sa, vk_R "KayfabeRing" 109 "day or minutes is out of range, or both are the same" sa s := by
  have h1 : (Cond.stringRef "KayfabeRing" 109 "day or minutes is out of range, or both are the same").before args s = true := hts _ (List.mem_of_getElem? (i := 463) (by decide +kernel))
  have h2 : (Cond.exactly (.string "KayfabeRing" 109) "java/lang/String").before args s = true := flat_of_before _ hgv _ (by decide +kernel)
  obtain ⟨a, c, cA, kA, q1, q2⟩ := Cond.exactly_spec h2
  exact ⟨a, vk_R.of (A := #[]) h1 q1⟩
theorem z_str8 {args : Array Value} {s : State} (hts : ∀ w ∈ lw_tbl, w.before args s = true) (hgv : (Jvm.Cond.and given_1 narrow_1).before args s = true) : ∃ sa, vk_R "KayfabeRing" 125 "the card can't take this match" sa s := by
  have h1 : (Cond.stringRef "KayfabeRing" 125 "the card can't take this match").before args s = true := hts _ (List.mem_of_getElem? (i := 484) (by decide +kernel))
  have h2 : (Cond.exactly (.string "KayfabeRing" 125) "java/lang/String").before args s = true := flat_of_before _ hgv _ (by decide +kernel)
  obtain ⟨a, c, cA, kA, q1, q2⟩ := Cond.exactly_spec h2
  exact ⟨a, vk_R.of (A := #[]) h1 q1⟩
theorem z_str9 {args : Array Value} {s : State} (hts : ∀ w ∈ lw_tbl, w.before args s = true) (hgv : (Jvm.Cond.and given_1 narrow_1).before args s = true) : ∃ sa, vk_R "KayfabeRing" 136 "one is hurt or barred, or the champion is neither" sa s := by
  have h1 : (Cond.stringRef "KayfabeRing" 136 "one is hurt or barred, or the champion is neither").before args s = true := hts _ (List.mem_of_getElem? (i := 497) (by decide +kernel))
  have h2 : (Cond.exactly (.string "KayfabeRing" 136) "java/lang/String").before args s = true := flat_of_before _ hgv _ (by decide +kernel)
  obtain ⟨a, c, cA, kA, q1, q2⟩ := Cond.exactly_spec h2
  exact ⟨a, vk_R.of (A := #[]) h1 q1⟩
theorem z_str10 {args : Array Value} {s : State} (hts : ∀ w ∈ lw_tbl, w.before args s = true) (hgv : (Jvm.Cond.and given_1 narrow_1).before args s = true) : ∃ sa, vk_R "KayfabeRing" 160 "no such match" sa s := by
  have h1 : (Cond.stringRef "KayfabeRing" 160 "no such match").before args s = true := hts _ (List.mem_of_getElem? (i := 517) (by decide +kernel))
  have h2 : (Cond.exactly (.string "KayfabeRing" 160) "java/lang/String").before args s = true := flat_of_before _ hgv _ (by decide +kernel)
  obtain ⟨a, c, cA, kA, q1, q2⟩ := Cond.exactly_spec h2
  exact ⟨a, vk_R.of (A := #[]) h1 q1⟩
theorem z_str11 {args : Array Value} {s : State} (hts : ∀ w ∈ lw_tbl, w.before args s = true) (hgv : (Jvm.Cond.and given_1 narrow_1).before args s = true) : ∃ sa, vk_R "KayfabeRing" 166 "the card is played" sa s := by
  have h1 : (Cond.stringRef "KayfabeRing" 166 "the card is played").before args s = true := hts _ (List.mem_of_getElem? (i := 518) (by decide +kernel))
  have h2 : (Cond.exactly (.string "KayfabeRing" 166) "java/lang/String").before args s = true := flat_of_before _ hgv _ (by decide +kernel)
  obtain ⟨a, c, cA, kA, q1, q2⟩ := Cond.exactly_spec h2
  exact ⟨a, vk_R.of (A := #[]) h1 q1⟩
theorem z_str12 {args : Array Value} {s : State} (hts : ∀ w ∈ lw_tbl, w.before args s = true) (hgv : (Jvm.Cond.and given_1 narrow_1).before args s = true) : ∃ sa, vk_R "KayfabeRing" 175 "days is out of range" sa s := by
  have h1 : (Cond.stringRef "KayfabeRing" 175 "days is out of range").before args s = true := hts _ (List.mem_of_getElem? (i := 537) (by decide +kernel))
  have h2 : (Cond.exactly (.string "KayfabeRing" 175) "java/lang/String").before args s = true := flat_of_before _ hgv _ (by decide +kernel)
  obtain ⟨a, c, cA, kA, q1, q2⟩ := Cond.exactly_spec h2
  exact ⟨a, vk_R.of (A := #[]) h1 q1⟩
theorem z_str13 {args : Array Value} {s : State} (hts : ∀ w ∈ lw_tbl, w.before args s = true) (hgv : (Jvm.Cond.and given_1 narrow_1).before args s = true) : ∃ sa, vk_R "KayfabeRing" 199 "there is no card, it is played, or somebody on it is hurt" sa s := by
  have h1 : (Cond.stringRef "KayfabeRing" 199 "there is no card, it is played, or somebody on it is hurt").before args s = true := hts _ (List.mem_of_getElem? (i := 626) (by decide +kernel))
  have h2 : (Cond.exactly (.string "KayfabeRing" 199) "java/lang/String").before args s = true := flat_of_before _ hgv _ (by decide +kernel)
  obtain ⟨a, c, cA, kA, q1, q2⟩ := Cond.exactly_spec h2
  exact ⟨a, vk_R.of (A := #[]) h1 q1⟩
theorem z_str14 {args : Array Value} {s : State} (hts : ∀ w ∈ lw_tbl, w.before args s = true) (hgv : (Jvm.Cond.and given_1 narrow_1).before args s = true) : ∃ sa, vk_R "KayfabeRing" 205 "no such town or wrestler" sa s := by
  have h1 : (Cond.stringRef "KayfabeRing" 205 "no such town or wrestler").before args s = true := hts _ (List.mem_of_getElem? (i := 664) (by decide +kernel))
  have h2 : (Cond.exactly (.string "KayfabeRing" 205) "java/lang/String").before args s = true := flat_of_before _ hgv _ (by decide +kernel)
  obtain ⟨a, c, cA, kA, q1, q2⟩ := Cond.exactly_spec h2
  exact ⟨a, vk_R.of (A := #[]) h1 q1⟩
theorem z_str15 {args : Array Value} {s : State} (hts : ∀ w ∈ lw_tbl, w.before args s = true) (hgv : (Jvm.Cond.and given_1 narrow_1).before args s = true) : ∃ sa, vk_R "KayfabeRing" 207 "slips is out of range" sa s := by
  have h1 : (Cond.stringRef "KayfabeRing" 207 "slips is out of range").before args s = true := hts _ (List.mem_of_getElem? (i := 665) (by decide +kernel))
  have h2 : (Cond.exactly (.string "KayfabeRing" 207) "java/lang/String").before args s = true := flat_of_before _ hgv _ (by decide +kernel)
  obtain ⟨a, c, cA, kA, q1, q2⟩ := Cond.exactly_spec h2
  exact ⟨a, vk_R.of (A := #[]) h1 q1⟩
theorem z_str16 {args : Array Value} {s : State} (hts : ∀ w ∈ lw_tbl, w.before args s = true) (hgv : (Jvm.Cond.and given_1 narrow_1).before args s = true) : ∃ sa, vk_R "KayfabeRing" 212 "that one is hurt, or said a promo today" sa s := by
  have h1 : (Cond.stringRef "KayfabeRing" 212 "that one is hurt, or said a promo today").before args s = true := hts _ (List.mem_of_getElem? (i := 666) (by decide +kernel))
  have h2 : (Cond.exactly (.string "KayfabeRing" 212) "java/lang/String").before args s = true := flat_of_before _ hgv _ (by decide +kernel)
  obtain ⟨a, c, cA, kA, q1, q2⟩ := Cond.exactly_spec h2
  exact ⟨a, vk_R.of (A := #[]) h1 q1⟩
theorem z_str17 {args : Array Value} {s : State} (hts : ∀ w ∈ lw_tbl, w.before args s = true) (hgv : (Jvm.Cond.and given_1 narrow_1).before args s = true) : ∃ sa, vk_R "KayfabeRing" 229 "it is the last day" sa s := by
  have h1 : (Cond.stringRef "KayfabeRing" 229 "it is the last day").before args s = true := hts _ (List.mem_of_getElem? (i := 674) (by decide +kernel))
  have h2 : (Cond.exactly (.string "KayfabeRing" 229) "java/lang/String").before args s = true := flat_of_before _ hgv _ (by decide +kernel)
  obtain ⟨a, c, cA, kA, q1, q2⟩ := Cond.exactly_spec h2
  exact ⟨a, vk_R.of (A := #[]) h1 q1⟩
theorem z_str18 {args : Array Value} {s : State} (hts : ∀ w ∈ lw_tbl, w.before args s = true) (hgv : (Jvm.Cond.and given_1 narrow_1).before args s = true) : ∃ sa, vk_R "KayfabeRing" 246 "what is out of range" sa s := by
  have h1 : (Cond.stringRef "KayfabeRing" 246 "what is out of range").before args s = true := hts _ (List.mem_of_getElem? (i := 682) (by decide +kernel))
  have h2 : (Cond.exactly (.string "KayfabeRing" 246) "java/lang/String").before args s = true := flat_of_before _ hgv _ (by decide +kernel)
  obtain ⟨a, c, cA, kA, q1, q2⟩ := Cond.exactly_spec h2
  exact ⟨a, vk_R.of (A := #[]) h1 q1⟩
theorem z_str19 {args : Array Value} {s : State} (hts : ∀ w ∈ lw_tbl, w.before args s = true) (hgv : (Jvm.Cond.and given_1 narrow_1).before args s = true) : ∃ sa, vk_R "KayfabeRing" 273 "no such title, or not so much in its lineage" sa s := by
  have h1 : (Cond.stringRef "KayfabeRing" 273 "no such title, or not so much in its lineage").before args s = true := hts _ (List.mem_of_getElem? (i := 719) (by decide +kernel))
  have h2 : (Cond.exactly (.string "KayfabeRing" 273) "java/lang/String").before args s = true := flat_of_before _ hgv _ (by decide +kernel)
  obtain ⟨a, c, cA, kA, q1, q2⟩ := Cond.exactly_spec h2
  exact ⟨a, vk_R.of (A := #[]) h1 q1⟩
theorem z_str20 {args : Array Value} {s : State} (hts : ∀ w ∈ lw_tbl, w.before args s = true) (hgv : (Jvm.Cond.and given_1 narrow_1).before args s = true) : ∃ sa, vk_R "KayfabeRing" 281 "no such title" sa s := by
  have h1 : (Cond.stringRef "KayfabeRing" 281 "no such title").before args s = true := hts _ (List.mem_of_getElem? (i := 727) (by decide +kernel))
  have h2 : (Cond.exactly (.string "KayfabeRing" 281) "java/lang/String").before args s = true := flat_of_before _ hgv _ (by decide +kernel)
  obtain ⟨a, c, cA, kA, q1, q2⟩ := Cond.exactly_spec h2
  exact ⟨a, vk_R.of (A := #[]) h1 q1⟩
theorem z_str21 {args : Array Value} {s : State} (hts : ∀ w ∈ lw_tbl, w.before args s = true) (hgv : (Jvm.Cond.and given_1 narrow_1).before args s = true) : ∃ sa, vk_R "KayfabeRing" 292 "no such town" sa s := by
  have h1 : (Cond.stringRef "KayfabeRing" 292 "no such town").before args s = true := hts _ (List.mem_of_getElem? (i := 755) (by decide +kernel))
  have h2 : (Cond.exactly (.string "KayfabeRing" 292) "java/lang/String").before args s = true := flat_of_before _ hgv _ (by decide +kernel)
  obtain ⟨a, c, cA, kA, q1, q2⟩ := Cond.exactly_spec h2
  exact ⟨a, vk_R.of (A := #[]) h1 q1⟩
theorem z_str22 {args : Array Value} {s : State} (hts : ∀ w ∈ lw_tbl, w.before args s = true) (hgv : (Jvm.Cond.and given_1 narrow_1).before args s = true) : ∃ sa, vk_R "KayfabeRing" 314 "there is no card, or it is played" sa s := by
  have h1 : (Cond.stringRef "KayfabeRing" 314 "there is no card, or it is played").before args s = true := hts _ (List.mem_of_getElem? (i := 571) (by decide +kernel))
  have h2 : (Cond.exactly (.string "KayfabeRing" 314) "java/lang/String").before args s = true := flat_of_before _ hgv _ (by decide +kernel)
  obtain ⟨a, c, cA, kA, q1, q2⟩ := Cond.exactly_spec h2
  exact ⟨a, vk_R.of (A := #[]) h1 q1⟩
theorem z_str23 {args : Array Value} {s : State} (hts : ∀ w ∈ lw_tbl, w.before args s = true) (hgv : (Jvm.Cond.and given_1 narrow_1).before args s = true) : ∃ sa, vk_R "KayfabeRing" 323 "too many places are open" sa s := by
  have h1 : (Cond.stringRef "KayfabeRing" 323 "too many places are open").before args s = true := hts _ (List.mem_of_getElem? (i := 590) (by decide +kernel))
  have h2 : (Cond.exactly (.string "KayfabeRing" 323) "java/lang/String").before args s = true := flat_of_before _ hgv _ (by decide +kernel)
  obtain ⟨a, c, cA, kA, q1, q2⟩ := Cond.exactly_spec h2
  exact ⟨a, vk_R.of (A := #[]) h1 q1⟩
theorem z_nc12 {args : Array Value} {s : State} (hgv : (Jvm.Cond.and given_1 narrow_1).before args s = true) : va_Nc "java/lang/IllegalArgumentException" "java/lang/IllegalStateException" s := va_Nc.of (flat_of_before _ hgv _ (by decide +kernel))
theorem z_nc13 {args : Array Value} {s : State} (hgv : (Jvm.Cond.and given_1 narrow_1).before args s = true) : va_Nc "java/lang/IllegalArgumentException" "java/lang/IndexOutOfBoundsException" s := va_Nc.of (flat_of_before _ hgv _ (by decide +kernel))
theorem z_nc21 {args : Array Value} {s : State} (hgv : (Jvm.Cond.and given_1 narrow_1).before args s = true) : va_Nc "java/lang/IllegalStateException" "java/lang/IllegalArgumentException" s := va_Nc.of (flat_of_before _ hgv _ (by decide +kernel))
theorem z_nc23 {args : Array Value} {s : State} (hgv : (Jvm.Cond.and given_1 narrow_1).before args s = true) : va_Nc "java/lang/IllegalStateException" "java/lang/IndexOutOfBoundsException" s := va_Nc.of (flat_of_before _ hgv _ (by decide +kernel))
theorem z_nc31 {args : Array Value} {s : State} (hgv : (Jvm.Cond.and given_1 narrow_1).before args s = true) : va_Nc "java/lang/IndexOutOfBoundsException" "java/lang/IllegalArgumentException" s := va_Nc.of (flat_of_before _ hgv _ (by decide +kernel))
theorem z_nc32 {args : Array Value} {s : State} (hgv : (Jvm.Cond.and given_1 narrow_1).before args s = true) : va_Nc "java/lang/IndexOutOfBoundsException" "java/lang/IllegalStateException" s := va_Nc.of (flat_of_before _ hgv _ (by decide +kernel))
theorem z_sfp {args : Array Value} {s : State} (hts : ∀ w ∈ lw_tbl, w.before args s = true) (hgv : (Jvm.Cond.and given_1 narrow_1).before args s = true) : sfp s.heap.size s s.heap := by
  have hA : ∀ a : Nat, a < s.heap.size → ¬ ab s.heap.size a := fun a ha q => by
    have : s.heap.size ≤ a := q
    omega
  refine ⟨fun w hw ho => okw_use ho (hts w hw), fun k h1 h2 => ?_, fun q hq => ?_, fun e f hef => ?_, ?_, ?_, Nat.le_refl _⟩
  · have : k = 9 ∨ k = 10 ∨ k = 11 ∨ k = 12 := by omega
    rcases this with rfl | rfl | rfl | rfl
    · exact va_AO.of (hts _ (List.mem_of_getElem? (i := 73) (by decide +kernel)))
    · exact va_AO.of (hts _ (List.mem_of_getElem? (i := 80) (by decide +kernel)))
    · exact va_AO.of (hts _ (List.mem_of_getElem? (i := 71) (by decide +kernel)))
    · exact va_AO.of (hts _ (List.mem_of_getElem? (i := 69) (by decide +kernel)))
  · unfold pg_st at hq
    simp only [List.mem_cons, List.not_mem_nil, or_false] at hq
    rcases hq with rfl | rfl | rfl | rfl | rfl | rfl | rfl | rfl | rfl | rfl | rfl | rfl | rfl | rfl | rfl | rfl | rfl | rfl | rfl | rfl | rfl | rfl | rfl | rfl
    · exact z_str0 hts hgv
    · exact z_str1 hts hgv
    · exact z_str2 hts hgv
    · exact z_str3 hts hgv
    · exact z_str4 hts hgv
    · exact z_str5 hts hgv
    · exact z_str6 hts hgv
    · exact z_str7 hts hgv
    · exact z_str8 hts hgv
    · exact z_str9 hts hgv
    · exact z_str10 hts hgv
    · exact z_str11 hts hgv
    · exact z_str12 hts hgv
    · exact z_str13 hts hgv
    · exact z_str14 hts hgv
    · exact z_str15 hts hgv
    · exact z_str16 hts hgv
    · exact z_str17 hts hgv
    · exact z_str18 hts hgv
    · exact z_str19 hts hgv
    · exact z_str20 hts hgv
    · exact z_str21 hts hgv
    · exact z_str22 hts hgv
    · exact z_str23 hts hgv
  · have hcl : ∀ e, pg_ex e = pg_ex 1 ∨ pg_ex e = pg_ex 2 ∨ pg_ex e = pg_ex 3 := fun e => by
      match e with
      | 0 => exact Or.inr (Or.inr rfl)
      | 1 => exact Or.inl rfl
      | 2 => exact Or.inr (Or.inl rfl)
      | n + 3 => exact Or.inr (Or.inr rfl)
    rcases hcl e with h1 | h1 | h1 <;> rcases hcl f with h2 | h2 | h2 <;> rw [h1, h2] at hef ⊢
    · exact absurd rfl hef
    · exact z_nc12 hgv
    · exact z_nc13 hgv
    · exact z_nc21 hgv
    · exact absurd rfl hef
    · exact z_nc23 hgv
    · exact z_nc31 hgv
    · exact z_nc32 hgv
    · exact absurd rfl hef
  · exact vx_Zqof (hts _ (List.mem_of_getElem? (i := 346) (by decide +kernel))) (hts _ (List.mem_of_getElem? (i := 53) (by decide +kernel))) (flat_of_before _ hgv _ (by decide +kernel)) hA
  · exact vx_Zqof (hts _ (List.mem_of_getElem? (i := 348) (by decide +kernel))) (hts _ (List.mem_of_getElem? (i := 53) (by decide +kernel))) (flat_of_before _ hgv _ (by decide +kernel)) hA

set_option maxHeartbeats 1000000 in
/-- from the entry of the law: what the pure machine says is said of the machine -/
theorem whole_start (HM : HMT) {p : Program} {e : Env} {s : State} {m : MethodId} {below : List Frame} {meth : Method} {c : Code} (l : Launch) (hflags : l.flags = flags0) {b L : Nat} {xs : Nat → Int32} (hL : L ≤ 4096) (hcx : Cx p s m meth c N_L_law) (hts : ∀ w ∈ lw_tbl, w.before #[Value.ref b] s = true) (hX : va_X b L xs s s.heap) (hbl : b < s.heap.size) (hgv : (Jvm.Cond.and given_1 narrow_1).before #[Value.ref b] s = true) : W p l e room_1 s m #[Value.ref b] below meth c s.heap [] 0 0 (lw_Z below #[Value.ref b] s) (entryFrame m ([Value.ref b] : List Value).toArray 7) := by
  have hlt : l.stackTraces = false := by
    unfold Launch.stackTraces
    rw [hflags]
    decide +kernel
  obtain ⟨c0, j0, k0⟩ := u_known (C := RX0) (T := TX0) (N := 4) (n := 4) (ws := u_ws (clC 0) (clT 0) (nfl 0)) (uws_at (ci := 0) (by decide) (z_sfp hts hgv)) (fun _ q => q) (hts (.instantiable RX0 4) (List.mem_of_getElem? (i := 74) (by decide +kernel)))
  obtain ⟨c1, j1, k1⟩ := u_known (C := RX1) (T := TX1) (N := 6) (n := 6) (ws := u_ws (clC 1) (clT 1) (nfl 1)) (uws_at (ci := 1) (by decide) (z_sfp hts hgv)) (fun _ q => q) (hts (.instantiable RX1 6) (List.mem_of_getElem? (i := 81) (by decide +kernel)))
  obtain ⟨c2, j2, k2⟩ := u_known (C := RX2) (T := TX2) (N := 14) (n := 14) (ws := u_ws (clC 2) (clT 2) (nfl 2)) (uws_at (ci := 2) (by decide) (z_sfp hts hgv)) (fun _ q => q) (hts (.instantiable RX2 14) (List.mem_of_getElem? (i := 139) (by decide +kernel)))
  obtain ⟨c3, j3, k3⟩ := u_known (C := RX3) (T := TX3) (N := 4) (n := 4) (ws := u_ws (clC 3) (clT 3) (nfl 3)) (uws_at (ci := 3) (by decide) (z_sfp hts hgv)) (fun _ q => q) (hts (.instantiable RX3 4) (List.mem_of_getElem? (i := 253) (by decide +kernel)))
  obtain ⟨c4, j4, k4⟩ := u_known (C := RX4) (T := TX4) (N := 14) (n := 14) (ws := u_ws (clC 4) (clT 4) (nfl 4)) (uws_at (ci := 4) (by decide) (z_sfp hts hgv)) (fun _ q => q) (hts (.instantiable RX4 14) (List.mem_of_getElem? (i := 193) (by decide +kernel)))
  obtain ⟨c5, j5, k5⟩ := u_known (C := RX5) (T := TX5) (N := 9) (n := 9) (ws := u_ws (clC 5) (clT 5) (nfl 5)) (uws_at (ci := 5) (by decide) (z_sfp hts hgv)) (fun _ q => q) (hts (.instantiable RX5 9) (List.mem_of_getElem? (i := 61) (by decide +kernel)))
  obtain ⟨c6, j6, k6⟩ := u_known (C := RX6) (T := TX6) (N := 29) (n := 29) (ws := u_ws (clC 6) (clT 6) (nfl 6)) (uws_at (ci := 6) (by decide) (z_sfp hts hgv)) (fun _ q => q) (hts (.instantiable RX6 29) (List.mem_of_getElem? (i := 790) (by decide +kernel)))
  obtain ⟨dC, dI, hKc⟩ : ∃ (dC : Nat → ClassId) (dI : Nat → Nat → Nat), ∀ (k : Nat) (q : vw_C), vwCl[k]? = some q → u_Kn s q.1 q.2.1 q.2.2 (dC k) (dI k) := by
    refine ⟨fun k => [c0, c1, c2, c3, c4, c5, c6].getD k 0, fun k => [j0, j1, j2, j3, j4, j5, j6].getD k (fun _ => 0), ?_⟩
    intro k q hq
    match k, hq with
    | 0, hq => cases hq; exact k0
    | 1, hq => cases hq; exact k1
    | 2, hq => cases hq; exact k2
    | 3, hq => cases hq; exact k3
    | 4, hq => cases hq; exact k4
    | 5, hq => cases hq; exact k5
    | 6, hq => cases hq; exact k6
    | n + 7, hq =>
      rw [List.getElem?_eq_none (by show 7 ≤ n + 7; omega)] at hq
      cases hq
  have hP0 : hp s.heap.size (dC, dI) (fun _ => b) (K00 L) (I00 xs) R00 s s.heap := by
    refine ⟨[], [], fun _ => .inr (0, []), ⟨hKc, fun k q h => by simp at h⟩, fun k q h => by simp [va_pl] at h, ⟨fun i j p q h => by simp [va_pl] at h, fun k q h => by simp [va_pl] at h⟩, fun L2 k n hk hk2 => ?_, fun L2 n hk => ?_, fun L2 L3 h2 h3 _ => ?_, fun L2 j L3 _ h => by cases h⟩
    · unfold K00 at hk
      split at hk
      · cases hk
        exact absurd rfl hk2
      · cases hk
    · unfold K00 at hk
      split at hk
      · rename_i e2
        cases hk
        refine ⟨?_, hbl⟩
        unfold I00
        rw [if_pos e2]
        exact hX
      · cases hk
    · unfold K00 at h2 h3
      split at h2
      · rename_i e2
        split at h3
        · rename_i e3
          rw [e2, e3]
        · exact absurd rfl h3
      · exact absurd rfl h2
  have hsf := z_sfp hts hgv
  have hsr : sr (fun _ => b) (K00 L) [pR (some SCR)] [Value.ref b] := ⟨⟨rfl, fun h => by unfold K00 at h; rw [if_pos rfl] at h; cases h⟩, trivial⟩
  have hA := snd_all (l := l) hlt (base := s.heap.size) (D := (dC, dI)) HCK (HM L xs hL) p e room_1 s m #[Value.ref b] below meth c s.heap [] 0 0 _ [] (fun _ => b) (fun _ => b) (K00 L) hcx hsf (by decide +kernel) (Nat.le_of_ble_eq_true rfl) (Nat.le_of_ble_eq_true rfl) (Nat.le_of_ble_eq_true rfl) (Nat.le_of_ble_eq_true rfl) hP0 va_S.rf (lr_entry hsr (fun v hv => by rw [List.mem_singleton] at hv; subst hv; trivial) (Nat.le_of_ble_eq_true rfl)) trivial ext_rfl
  rw [lg_entry_eq]
  intro T hT X
  obtain ⟨t, hst, o, ho, hE, hq⟩ := hA T hT X
  refine ⟨t, hst, o, ho, hE, ?_⟩
  rcases hq with ⟨⟨r, K', I', R', am', hr, ho2, -⟩, F, hF, hFb⟩ | ⟨q, rfl, E, ce, F, ⟨e9, K', I', R', am', hr, -⟩, -⟩
  · have hr : r = some (pI 1) := Sum.inl.inj hr
    subst hr
    obtain ⟨v', rfl, hv'⟩ := ho2
    obtain rfl := (show v' = .int 1 from hv')
    refine ⟨rfl, hF.1, hF.2.1, hF.2.2.weaken (fun y hy hlt2 => ?_) (Nat.le_refl _) (Nat.le_refl _)⟩
    exact absurd hlt2 (Nat.not_lt.mpr (hFb y hy))
  · cases hr

-- ===== YOUR PART ENDS =====
set_option maxHeartbeats 4000000 in
theorem lw_walk (HM : HMT) (l : Launch) (hflags : l.flags = flags0) (b : Addr) (xs : List Int32) : MetFree l x (headSpec (Jvm.Cond.code x code maxLocals ret :: tables_1) room_1) (lw_P b xs) (fun _ _ _ _ _ => True) lw_Q := by
  refine MetFree.of_bodyS (code := code) (maxLocals := maxLocals) (ret := ret) (by decide) ?_ ?_
  · intro args s m h hn
    obtain ⟨meth, c, h1, h2, h3, h4, h5, h6, -, -⟩ := Cond.code_spec hn (atoms_spec (ws := Jvm.Cond.code x code maxLocals ret :: tables_1) h _ List.mem_cons_self)
    exact ⟨meth, c, h1, h2, h3, h4, h5, h6⟩
  · intro p e s m args below meth c s₁ B hml0 hP _
    obtain ⟨rfl, hx, hbd, hgv⟩ := hP
    obtain ⟨scr, harrAt, hlist, hof, hsmall⟩ := hx
    obtain ⟨hcb, hkn, -, -⟩ := State.arrayAt?_spec harrAt
    have hown : s.vm.findClass R_law = some m.cls := findClass_of_methodNamed B.named
    have hts0 : ∀ c ∈ (Jvm.Cond.code x code maxLocals ret :: tables_1), c.before #[Value.ref b] s = true := atoms_spec (ws := Jvm.Cond.code x code maxLocals ret :: tables_1) B.pre
    have hts : ∀ w ∈ lw_tbl, w.before #[Value.ref b] s = true := k2_hts_sels lw_privs (fun w hw => hts0 w (List.mem_cons_of_mem _ hw)) lw_privs_ok
    have hml : c.maxLocals = 7 := B.maxLocals_eq (hts0 _ List.mem_cons_self)
    have X₀ : Stand p l e room_1 s m #[Value.ref b] below meth c s₁ [] 0 0 := Stand.of_body B
    have hh0 : s₁.heap = s.heap := by rw [B.state]; rfl
    have hsz : scr.slots.size = xs.length := by rw [← Array.length_toList, hlist, List.length_map]
    have hval : ∀ j : Nat, j < xs.length → scr.slots[j]? = some (.int (xs.getD j 0)) := fun j hj => by
      rw [← Array.getElem?_toList, hlist]
      simp [hj]
    have hbl : b < s.heap.size := (Array.getElem?_eq_some_iff.mp hcb).1
    have hX : va_X b xs.length (fun j => xs.getD j 0) s s.heap := ⟨scr, hcb, hof, hkn, hsz, hval⟩
    have K : W p l e room_1 s m #[Value.ref b] below meth c s₁.heap [] 0 0 (lw_Z below #[Value.ref b] s) (entryFrame m ([Value.ref b] : List Value).toArray 7) := by
      rw [hh0]
      have ht : c.exceptionTable.toList = [] := by
        obtain ⟨meth9, c9, h1, h2, -, -, -, -, h7, -⟩ := Cond.code_spec B.named (hts0 _ List.mem_cons_self)
        cases Option.some.inj (h1.symm.trans B.method)
        cases Option.some.inj (h2.symm.trans (Stand.of_body B).code)
        rw [Array.isEmpty_iff.mp h7]
      exact whole_start HM l hflags hbd ⟨B.exec, B.bytes, B.returns, hml, hown, B.notSynchronized, (name_of_methodNamed B.named B.method).1, ht⟩ hts hX hbl hgv
    obtain ⟨t, a1, o, b1, b2, b3⟩ := K s₁ rfl X₀
    exact ⟨t, o, a1, b1, b2, b3⟩
theorem lw_pre_spec {args : Array Value} {s : State} (h : (Jvm.Cond.and given_1 narrow_1).before args s = true) (hr : rest_1_c.before args s = true) : ∃ (b : Addr) (xs : List Int32), lw_P b xs args s := by
  have hs := flat_of_before _ h
  have hq := flat_of_before _ hr
  have hc : (Cond.count 1).before args s = true := hs _ (by decide +kernel)
  have harr : (Cond.arrayOf (.arg 0) .int).before args s = true := hs _ (by decide +kernel)
  have hle : (Cond.le (.length (.arg 0)) (.int 4096)).before args s = true := hs _ (by decide +kernel)
  have hlen : (Cond.isInt (.length (.arg 0))).before args s = true := hq _ (by decide +kernel)
  have hall : (Cond.all (.arg 0) (.isInt (.elem (.arg 0) (.index 0)))).before args s = true := hq _ (by decide +kernel)
  obtain ⟨b, xs, hb, hx⟩ := State.ints_of_pre rfl harr hlen hall
  have hsm : xs.length < 2 ^ 31 := hx.choose_spec.2.2.2
  have hev : (Term.length (.arg 0)).eval args s none [] s = some (.int xs.length.toInt32) := hx.length_eval hb
  have hv := Cond.le_ints hev (show (Term.int 4096).eval args s none [] s = some (.int 4096) from rfl)
  have hd : xs.length.toInt32 ≤ 4096 := by
    simpa [Cond.before, Cond.holds, hv] using hle
  have hN : xs.length ≤ 4096 := (Int32.ofNat_le_ofNat hsm (by decide)).mp (show Int32.ofNat xs.length ≤ Int32.ofNat 4096 from hd)
  exact ⟨b, xs, Cond.one_arg hc (show args[0]? = some (.ref b) from hb), hx, hN, h⟩
theorem lw_comes (HM : HMT) (l : Launch) (hflags : l.flags = flags0) : Comes l x (Jvm.Cond.code x code maxLocals ret :: tables_1) room_1 (fun tb e args s => Calls_1 tb e args s ∧ rest_1 tb e args s ∧ Pre_1 tb e args s)
    (fun _ _ args s o t => lw_Q args s o t) := by
  intro p e ha hc hk s m args below hf hfit hheap happ hpre
  obtain ⟨b, xs, hP⟩ := lw_pre_spec hpre.2.2 hpre.2.1
  obtain ⟨k, o, h1, h2, h3, hQ⟩ := lw_walk HM l hflags b xs p e ha hc hk s m args below hf ((Spec.applies_iff_loose hf).mp happ).1 hP trivial
  exact ⟨k, o, h1, h2, h3, hQ⟩
theorem lw_frame {s t : State} {o : Outcome} {args : Array Value} (h : Framed s o t [] 601024 7293033) :
    Framed s o t (fieldLocs frame_1_writes args s ++ arrayLocs frame_1_arrays args s ++ staticLocs frame_1_statics s) 601024 7293033 := h
theorem lw_limb (HM : HMT) (L : Cond) (hL : ∀ (args : Array Value) (s t : State), L.after args s (.returned (some (.int 1))) t = true) :
    ArmFor flags0 classFile x code maxLocals ret World_1 tables_1 room_1 Calls_1 rest_1 Pre_1
      (fun tb e a s o t => postC L tb e a s o t ∧ Framed s o t (fieldLocs frame_1_writes a s ++ arrayLocs frame_1_arrays a s ++ staticLocs frame_1_statics s) 601024 7293033) := by
  intro l hflags _ _ p e ha hc hk s m args below hf hfit hheap happ hpre
  obtain ⟨k, o, h1, h2, h3, rfl, hF⟩ := lw_comes HM l hflags p e ha hc hk s m args below hf hfit hheap happ hpre
  exact ⟨k, _, h1, h2, h3, hL args s _, lw_frame hF⟩
end
