-- ===== PART A: goes FIRST, ahead of the names: the tables' words, and 'selects' of the private methods out of them =====
/-- a private method of a class that the tables say can be made, by its rows of tables_1 -/
def lw_okq (q : MethodName × Nat) : Prop := (q.1.cls ≠ "java/lang/invoke/MethodHandle" ∧ q.1.cls ≠ "java/lang/invoke/VarHandle") ∧ Cond.instantiable q.1.cls q.2 ∈ tables_1 ∧ Cond.privateMethod q.1 ∈ tables_1 ∧ Cond.instanceMethod q.1 ∈ tables_1
theorem lw_p0 : lw_okq (⟨"UmbrellaFlight$Reader", "addName", "(JII)V"⟩, 8) := ⟨⟨by decide +kernel, by decide +kernel⟩, List.mem_of_getElem? (i := 153) (by decide +kernel), List.mem_of_getElem? (i := 248) (by decide +kernel), List.mem_of_getElem? (i := 249) (by decide +kernel)⟩
theorem lw_p1 : lw_okq (⟨"UmbrellaFlight", "tapeNumber", "(I)V"⟩, 16) := ⟨⟨by decide +kernel, by decide +kernel⟩, List.mem_of_getElem? (i := 26) (by decide +kernel), List.mem_of_getElem? (i := 500) (by decide +kernel), List.mem_of_getElem? (i := 501) (by decide +kernel)⟩
theorem lw_p2 : lw_okq (⟨"UmbrellaFlight", "refused", "(I)I"⟩, 16) := ⟨⟨by decide +kernel, by decide +kernel⟩, List.mem_of_getElem? (i := 26) (by decide +kernel), List.mem_of_getElem? (i := 509) (by decide +kernel), List.mem_of_getElem? (i := 510) (by decide +kernel)⟩
theorem lw_p3 : lw_okq (⟨"UmbrellaFlight$Tokens", "readLetters", "()V"⟩, 7) := ⟨⟨by decide +kernel, by decide +kernel⟩, List.mem_of_getElem? (i := 161) (by decide +kernel), List.mem_of_getElem? (i := 537) (by decide +kernel), List.mem_of_getElem? (i := 538) (by decide +kernel)⟩
theorem lw_p4 : lw_okq (⟨"UmbrellaFlight$Tokens", "readDigits", "()V"⟩, 7) := ⟨⟨by decide +kernel, by decide +kernel⟩, List.mem_of_getElem? (i := 161) (by decide +kernel), List.mem_of_getElem? (i := 541) (by decide +kernel), List.mem_of_getElem? (i := 542) (by decide +kernel)⟩
theorem lw_p5 : lw_okq (⟨"UmbrellaFlight$Reader", "readLine", "()Z"⟩, 8) := ⟨⟨by decide +kernel, by decide +kernel⟩, List.mem_of_getElem? (i := 153) (by decide +kernel), List.mem_of_getElem? (i := 545) (by decide +kernel), List.mem_of_getElem? (i := 546) (by decide +kernel)⟩
theorem lw_p6 : lw_okq (⟨"UmbrellaFlight$Reader", "findName", "()I"⟩, 8) := ⟨⟨by decide +kernel, by decide +kernel⟩, List.mem_of_getElem? (i := 153) (by decide +kernel), List.mem_of_getElem? (i := 549) (by decide +kernel), List.mem_of_getElem? (i := 550) (by decide +kernel)⟩
theorem lw_p7 : lw_okq (⟨"UmbrellaFlight$Reader", "blame", "(I)Z"⟩, 8) := ⟨⟨by decide +kernel, by decide +kernel⟩, List.mem_of_getElem? (i := 153) (by decide +kernel), List.mem_of_getElem? (i := 554) (by decide +kernel), List.mem_of_getElem? (i := 555) (by decide +kernel)⟩
theorem lw_p8 : lw_okq (⟨"UmbrellaFlight$Reader", "readFlight", "()Z"⟩, 8) := ⟨⟨by decide +kernel, by decide +kernel⟩, List.mem_of_getElem? (i := 153) (by decide +kernel), List.mem_of_getElem? (i := 567) (by decide +kernel), List.mem_of_getElem? (i := 568) (by decide +kernel)⟩
theorem lw_p9 : lw_okq (⟨"UmbrellaFlight$Reader", "readWord", "(Ljava/lang/String;)Z"⟩, 8) := ⟨⟨by decide +kernel, by decide +kernel⟩, List.mem_of_getElem? (i := 153) (by decide +kernel), List.mem_of_getElem? (i := 572) (by decide +kernel), List.mem_of_getElem? (i := 573) (by decide +kernel)⟩
theorem lw_p10 : lw_okq (⟨"UmbrellaFlight$Reader", "readWhole", "(II)I"⟩, 8) := ⟨⟨by decide +kernel, by decide +kernel⟩, List.mem_of_getElem? (i := 153) (by decide +kernel), List.mem_of_getElem? (i := 581) (by decide +kernel), List.mem_of_getElem? (i := 582) (by decide +kernel)⟩
theorem lw_p11 : lw_okq (⟨"UmbrellaFlight$Reader", "noneFor", "(I)I"⟩, 8) := ⟨⟨by decide +kernel, by decide +kernel⟩, List.mem_of_getElem? (i := 153) (by decide +kernel), List.mem_of_getElem? (i := 585) (by decide +kernel), List.mem_of_getElem? (i := 586) (by decide +kernel)⟩
theorem lw_p12 : lw_okq (⟨"UmbrellaFlight$Reader", "readFlies", "()Z"⟩, 8) := ⟨⟨by decide +kernel, by decide +kernel⟩, List.mem_of_getElem? (i := 153) (by decide +kernel), List.mem_of_getElem? (i := 591) (by decide +kernel), List.mem_of_getElem? (i := 592) (by decide +kernel)⟩
theorem lw_p13 : lw_okq (⟨"UmbrellaFlight$Reader", "toldName", "(I)I"⟩, 8) := ⟨⟨by decide +kernel, by decide +kernel⟩, List.mem_of_getElem? (i := 153) (by decide +kernel), List.mem_of_getElem? (i := 595) (by decide +kernel), List.mem_of_getElem? (i := 596) (by decide +kernel)⟩
theorem lw_p14 : lw_okq (⟨"UmbrellaFlight$Reader", "readRoute", "(I)I"⟩, 8) := ⟨⟨by decide +kernel, by decide +kernel⟩, List.mem_of_getElem? (i := 153) (by decide +kernel), List.mem_of_getElem? (i := 604) (by decide +kernel), List.mem_of_getElem? (i := 605) (by decide +kernel)⟩
theorem lw_p15 : lw_okq (⟨"UmbrellaFlight$Reader", "readStop", "(I)Z"⟩, 8) := ⟨⟨by decide +kernel, by decide +kernel⟩, List.mem_of_getElem? (i := 153) (by decide +kernel), List.mem_of_getElem? (i := 619) (by decide +kernel), List.mem_of_getElem? (i := 620) (by decide +kernel)⟩
def lw_privs_1 : List (MethodName × Nat) := [(⟨"UmbrellaFlight$Reader", "addName", "(JII)V"⟩, 8), (⟨"UmbrellaFlight", "tapeNumber", "(I)V"⟩, 16), (⟨"UmbrellaFlight", "refused", "(I)I"⟩, 16), (⟨"UmbrellaFlight$Tokens", "readLetters", "()V"⟩, 7), (⟨"UmbrellaFlight$Tokens", "readDigits", "()V"⟩, 7), (⟨"UmbrellaFlight$Reader", "readLine", "()Z"⟩, 8), (⟨"UmbrellaFlight$Reader", "findName", "()I"⟩, 8), (⟨"UmbrellaFlight$Reader", "blame", "(I)Z"⟩, 8), (⟨"UmbrellaFlight$Reader", "readFlight", "()Z"⟩, 8), (⟨"UmbrellaFlight$Reader", "readWord", "(Ljava/lang/String;)Z"⟩, 8), (⟨"UmbrellaFlight$Reader", "readWhole", "(II)I"⟩, 8), (⟨"UmbrellaFlight$Reader", "noneFor", "(I)I"⟩, 8), (⟨"UmbrellaFlight$Reader", "readFlies", "()Z"⟩, 8), (⟨"UmbrellaFlight$Reader", "toldName", "(I)I"⟩, 8), (⟨"UmbrellaFlight$Reader", "readRoute", "(I)I"⟩, 8), (⟨"UmbrellaFlight$Reader", "readStop", "(I)Z"⟩, 8)]
theorem lw_r1 : ∀ q ∈ lw_privs_1, lw_okq q := List.forall_mem_cons.mpr ⟨lw_p0, List.forall_mem_cons.mpr ⟨lw_p1, List.forall_mem_cons.mpr ⟨lw_p2, List.forall_mem_cons.mpr ⟨lw_p3, List.forall_mem_cons.mpr ⟨lw_p4, List.forall_mem_cons.mpr ⟨lw_p5, List.forall_mem_cons.mpr ⟨lw_p6, List.forall_mem_cons.mpr ⟨lw_p7, List.forall_mem_cons.mpr ⟨lw_p8, List.forall_mem_cons.mpr ⟨lw_p9, List.forall_mem_cons.mpr ⟨lw_p10, List.forall_mem_cons.mpr ⟨lw_p11, List.forall_mem_cons.mpr ⟨lw_p12, List.forall_mem_cons.mpr ⟨lw_p13, List.forall_mem_cons.mpr ⟨lw_p14, List.forall_mem_cons.mpr ⟨lw_p15, fun _ h => absurd h List.not_mem_nil⟩⟩⟩⟩⟩⟩⟩⟩⟩⟩⟩⟩⟩⟩⟩⟩
theorem lw_p16 : lw_okq (⟨"UmbrellaFlight$Reader", "readNewName", "(II)Z"⟩, 8) := ⟨⟨by decide +kernel, by decide +kernel⟩, List.mem_of_getElem? (i := 153) (by decide +kernel), List.mem_of_getElem? (i := 623) (by decide +kernel), List.mem_of_getElem? (i := 624) (by decide +kernel)⟩
theorem lw_p17 : lw_okq (⟨"UmbrellaFlight$Reader", "readWay", "()Z"⟩, 8) := ⟨⟨by decide +kernel, by decide +kernel⟩, List.mem_of_getElem? (i := 153) (by decide +kernel), List.mem_of_getElem? (i := 630) (by decide +kernel), List.mem_of_getElem? (i := 631) (by decide +kernel)⟩
theorem lw_p18 : lw_okq (⟨"UmbrellaFlight$Reader", "readUmbrella", "(I)Z"⟩, 8) := ⟨⟨by decide +kernel, by decide +kernel⟩, List.mem_of_getElem? (i := 153) (by decide +kernel), List.mem_of_getElem? (i := 644) (by decide +kernel), List.mem_of_getElem? (i := 645) (by decide +kernel)⟩
theorem lw_p19 : lw_okq (⟨"UmbrellaFlight$Reader", "kindAtHand", "()I"⟩, 8) := ⟨⟨by decide +kernel, by decide +kernel⟩, List.mem_of_getElem? (i := 153) (by decide +kernel), List.mem_of_getElem? (i := 648) (by decide +kernel), List.mem_of_getElem? (i := 649) (by decide +kernel)⟩
theorem lw_p20 : lw_okq (⟨"UmbrellaFlight$Reader", "readHall", "()I"⟩, 8) := ⟨⟨by decide +kernel, by decide +kernel⟩, List.mem_of_getElem? (i := 153) (by decide +kernel), List.mem_of_getElem? (i := 659) (by decide +kernel), List.mem_of_getElem? (i := 660) (by decide +kernel)⟩
theorem lw_p21 : lw_okq (⟨"UmbrellaFlight$Reader", "readRing", "(I)Z"⟩, 8) := ⟨⟨by decide +kernel, by decide +kernel⟩, List.mem_of_getElem? (i := 153) (by decide +kernel), List.mem_of_getElem? (i := 663) (by decide +kernel), List.mem_of_getElem? (i := 664) (by decide +kernel)⟩
theorem lw_p22 : lw_okq (⟨"UmbrellaFlight$Reader", "readBack", "()Z"⟩, 8) := ⟨⟨by decide +kernel, by decide +kernel⟩, List.mem_of_getElem? (i := 153) (by decide +kernel), List.mem_of_getElem? (i := 667) (by decide +kernel), List.mem_of_getElem? (i := 668) (by decide +kernel)⟩
theorem lw_p23 : lw_okq (⟨"UmbrellaFlight$Reader", "readOwner", "(I)Z"⟩, 8) := ⟨⟨by decide +kernel, by decide +kernel⟩, List.mem_of_getElem? (i := 153) (by decide +kernel), List.mem_of_getElem? (i := 675) (by decide +kernel), List.mem_of_getElem? (i := 676) (by decide +kernel)⟩
theorem lw_p24 : lw_okq (⟨"UmbrellaFlight$Reader", "readOut", "()Z"⟩, 8) := ⟨⟨by decide +kernel, by decide +kernel⟩, List.mem_of_getElem? (i := 153) (by decide +kernel), List.mem_of_getElem? (i := 679) (by decide +kernel), List.mem_of_getElem? (i := 680) (by decide +kernel)⟩
theorem lw_p25 : lw_okq (⟨"UmbrellaFlight$Reader", "readRain", "()Z"⟩, 8) := ⟨⟨by decide +kernel, by decide +kernel⟩, List.mem_of_getElem? (i := 153) (by decide +kernel), List.mem_of_getElem? (i := 688) (by decide +kernel), List.mem_of_getElem? (i := 689) (by decide +kernel)⟩
theorem lw_p26 : lw_okq (⟨"UmbrellaFlight$Reader", "readWind", "(I)Z"⟩, 8) := ⟨⟨by decide +kernel, by decide +kernel⟩, List.mem_of_getElem? (i := 153) (by decide +kernel), List.mem_of_getElem? (i := 704) (by decide +kernel), List.mem_of_getElem? (i := 705) (by decide +kernel)⟩
theorem lw_p27 : lw_okq (⟨"UmbrellaFlight$WaysOut", "add", "(II)V"⟩, 2) := ⟨⟨by decide +kernel, by decide +kernel⟩, List.mem_of_getElem? (i := 378) (by decide +kernel), List.mem_of_getElem? (i := 742) (by decide +kernel), List.mem_of_getElem? (i := 743) (by decide +kernel)⟩
theorem lw_p28 : lw_okq (⟨"UmbrellaFlight", "settle", "()V"⟩, 16) := ⟨⟨by decide +kernel, by decide +kernel⟩, List.mem_of_getElem? (i := 26) (by decide +kernel), List.mem_of_getElem? (i := 751) (by decide +kernel), List.mem_of_getElem? (i := 752) (by decide +kernel)⟩
theorem lw_p29 : lw_okq (⟨"UmbrellaFlight$Year", "passDay", "(I)V"⟩, 10) := ⟨⟨by decide +kernel, by decide +kernel⟩, List.mem_of_getElem? (i := 334) (by decide +kernel), List.mem_of_getElem? (i := 762) (by decide +kernel), List.mem_of_getElem? (i := 763) (by decide +kernel)⟩
theorem lw_p30 : lw_okq (⟨"UmbrellaFlight$Year", "aimOf", "(II)I"⟩, 10) := ⟨⟨by decide +kernel, by decide +kernel⟩, List.mem_of_getElem? (i := 334) (by decide +kernel), List.mem_of_getElem? (i := 767) (by decide +kernel), List.mem_of_getElem? (i := 768) (by decide +kernel)⟩
theorem lw_p31 : lw_okq (⟨"UmbrellaFlight$Year", "flockOf", "(II)I"⟩, 10) := ⟨⟨by decide +kernel, by decide +kernel⟩, List.mem_of_getElem? (i := 334) (by decide +kernel), List.mem_of_getElem? (i := 792) (by decide +kernel), List.mem_of_getElem? (i := 793) (by decide +kernel)⟩
def lw_privs_2 : List (MethodName × Nat) := [(⟨"UmbrellaFlight$Reader", "readNewName", "(II)Z"⟩, 8), (⟨"UmbrellaFlight$Reader", "readWay", "()Z"⟩, 8), (⟨"UmbrellaFlight$Reader", "readUmbrella", "(I)Z"⟩, 8), (⟨"UmbrellaFlight$Reader", "kindAtHand", "()I"⟩, 8), (⟨"UmbrellaFlight$Reader", "readHall", "()I"⟩, 8), (⟨"UmbrellaFlight$Reader", "readRing", "(I)Z"⟩, 8), (⟨"UmbrellaFlight$Reader", "readBack", "()Z"⟩, 8), (⟨"UmbrellaFlight$Reader", "readOwner", "(I)Z"⟩, 8), (⟨"UmbrellaFlight$Reader", "readOut", "()Z"⟩, 8), (⟨"UmbrellaFlight$Reader", "readRain", "()Z"⟩, 8), (⟨"UmbrellaFlight$Reader", "readWind", "(I)Z"⟩, 8), (⟨"UmbrellaFlight$WaysOut", "add", "(II)V"⟩, 2), (⟨"UmbrellaFlight", "settle", "()V"⟩, 16), (⟨"UmbrellaFlight$Year", "passDay", "(I)V"⟩, 10), (⟨"UmbrellaFlight$Year", "aimOf", "(II)I"⟩, 10), (⟨"UmbrellaFlight$Year", "flockOf", "(II)I"⟩, 10)]
theorem lw_r2 : ∀ q ∈ lw_privs_2, lw_okq q := List.forall_mem_cons.mpr ⟨lw_p16, List.forall_mem_cons.mpr ⟨lw_p17, List.forall_mem_cons.mpr ⟨lw_p18, List.forall_mem_cons.mpr ⟨lw_p19, List.forall_mem_cons.mpr ⟨lw_p20, List.forall_mem_cons.mpr ⟨lw_p21, List.forall_mem_cons.mpr ⟨lw_p22, List.forall_mem_cons.mpr ⟨lw_p23, List.forall_mem_cons.mpr ⟨lw_p24, List.forall_mem_cons.mpr ⟨lw_p25, List.forall_mem_cons.mpr ⟨lw_p26, List.forall_mem_cons.mpr ⟨lw_p27, List.forall_mem_cons.mpr ⟨lw_p28, List.forall_mem_cons.mpr ⟨lw_p29, List.forall_mem_cons.mpr ⟨lw_p30, List.forall_mem_cons.mpr ⟨lw_p31, fun _ h => absurd h List.not_mem_nil⟩⟩⟩⟩⟩⟩⟩⟩⟩⟩⟩⟩⟩⟩⟩⟩
theorem lw_p32 : lw_okq (⟨"UmbrellaFlight$Year", "move", "(II)V"⟩, 10) := ⟨⟨by decide +kernel, by decide +kernel⟩, List.mem_of_getElem? (i := 334) (by decide +kernel), List.mem_of_getElem? (i := 796) (by decide +kernel), List.mem_of_getElem? (i := 797) (by decide +kernel)⟩
theorem lw_p33 : lw_okq (⟨"UmbrellaFlight$Year", "costOf", "(III)I"⟩, 10) := ⟨⟨by decide +kernel, by decide +kernel⟩, List.mem_of_getElem? (i := 334) (by decide +kernel), List.mem_of_getElem? (i := 801) (by decide +kernel), List.mem_of_getElem? (i := 802) (by decide +kernel)⟩
theorem lw_p34 : lw_okq (⟨"UmbrellaFlight$Year", "isLost", "(I)Z"⟩, 10) := ⟨⟨by decide +kernel, by decide +kernel⟩, List.mem_of_getElem? (i := 334) (by decide +kernel), List.mem_of_getElem? (i := 813) (by decide +kernel), List.mem_of_getElem? (i := 814) (by decide +kernel)⟩
theorem lw_p35 : lw_okq (⟨"UmbrellaFlight", "answered", "(I)I"⟩, 16) := ⟨⟨by decide +kernel, by decide +kernel⟩, List.mem_of_getElem? (i := 26) (by decide +kernel), List.mem_of_getElem? (i := 819) (by decide +kernel), List.mem_of_getElem? (i := 820) (by decide +kernel)⟩
theorem lw_p36 : lw_okq (⟨"UmbrellaFlight", "isStop", "(I)Z"⟩, 16) := ⟨⟨by decide +kernel, by decide +kernel⟩, List.mem_of_getElem? (i := 26) (by decide +kernel), List.mem_of_getElem? (i := 835) (by decide +kernel), List.mem_of_getElem? (i := 836) (by decide +kernel)⟩
theorem lw_p37 : lw_okq (⟨"UmbrellaFlight", "isUmbrella", "(I)Z"⟩, 16) := ⟨⟨by decide +kernel, by decide +kernel⟩, List.mem_of_getElem? (i := 26) (by decide +kernel), List.mem_of_getElem? (i := 854) (by decide +kernel), List.mem_of_getElem? (i := 855) (by decide +kernel)⟩
theorem lw_p38 : lw_okq (⟨"UmbrellaFlight", "noUmbrellaOrDay", "(II)I"⟩, 16) := ⟨⟨by decide +kernel, by decide +kernel⟩, List.mem_of_getElem? (i := 26) (by decide +kernel), List.mem_of_getElem? (i := 878) (by decide +kernel), List.mem_of_getElem? (i := 879) (by decide +kernel)⟩
theorem lw_p39 : lw_okq (⟨"UmbrellaFlight", "isDay", "(I)Z"⟩, 16) := ⟨⟨by decide +kernel, by decide +kernel⟩, List.mem_of_getElem? (i := 26) (by decide +kernel), List.mem_of_getElem? (i := 882) (by decide +kernel), List.mem_of_getElem? (i := 883) (by decide +kernel)⟩
theorem lw_p40 : lw_okq (⟨"UmbrellaFlight", "hasFlight", "()Z"⟩, 16) := ⟨⟨by decide +kernel, by decide +kernel⟩, List.mem_of_getElem? (i := 26) (by decide +kernel), List.mem_of_getElem? (i := 904) (by decide +kernel), List.mem_of_getElem? (i := 905) (by decide +kernel)⟩
theorem lw_p41 : lw_okq (⟨"UmbrellaFlight", "isWayOut", "(II)Z"⟩, 16) := ⟨⟨by decide +kernel, by decide +kernel⟩, List.mem_of_getElem? (i := 26) (by decide +kernel), List.mem_of_getElem? (i := 947) (by decide +kernel), List.mem_of_getElem? (i := 948) (by decide +kernel)⟩
theorem lw_p42 : lw_okq (⟨"UmbrellaFlight", "noFlier", "(I)I"⟩, 16) := ⟨⟨by decide +kernel, by decide +kernel⟩, List.mem_of_getElem? (i := 26) (by decide +kernel), List.mem_of_getElem? (i := 978) (by decide +kernel), List.mem_of_getElem? (i := 979) (by decide +kernel)⟩
theorem lw_p43 : lw_okq (⟨"UmbrellaFlight", "firstBestDay", "(I)I"⟩, 16) := ⟨⟨by decide +kernel, by decide +kernel⟩, List.mem_of_getElem? (i := 26) (by decide +kernel), List.mem_of_getElem? (i := 982) (by decide +kernel), List.mem_of_getElem? (i := 983) (by decide +kernel)⟩
theorem lw_p44 : lw_okq (⟨"UmbrellaFlight", "arrivingBy", "(II)I"⟩, 16) := ⟨⟨by decide +kernel, by decide +kernel⟩, List.mem_of_getElem? (i := 26) (by decide +kernel), List.mem_of_getElem? (i := 986) (by decide +kernel), List.mem_of_getElem? (i := 987) (by decide +kernel)⟩
theorem lw_p45 : lw_okq (⟨"UmbrellaFlight$Fits", "add", "(LUmbrellaFlight$Flight;IIII)V"⟩, 9) := ⟨⟨by decide +kernel, by decide +kernel⟩, List.mem_of_getElem? (i := 393) (by decide +kernel), List.mem_of_getElem? (i := 1027) (by decide +kernel), List.mem_of_getElem? (i := 1028) (by decide +kernel)⟩
theorem lw_p46 : lw_okq (⟨"UmbrellaFlight$Fits", "chooseLook", "(LUmbrellaFlight$Flight;)V"⟩, 9) := ⟨⟨by decide +kernel, by decide +kernel⟩, List.mem_of_getElem? (i := 393) (by decide +kernel), List.mem_of_getElem? (i := 1033) (by decide +kernel), List.mem_of_getElem? (i := 1034) (by decide +kernel)⟩
theorem lw_p47 : lw_okq (⟨"UmbrellaFlight", "noFit", "(I)I"⟩, 16) := ⟨⟨by decide +kernel, by decide +kernel⟩, List.mem_of_getElem? (i := 26) (by decide +kernel), List.mem_of_getElem? (i := 1051) (by decide +kernel), List.mem_of_getElem? (i := 1052) (by decide +kernel)⟩
def lw_privs_3 : List (MethodName × Nat) := [(⟨"UmbrellaFlight$Year", "move", "(II)V"⟩, 10), (⟨"UmbrellaFlight$Year", "costOf", "(III)I"⟩, 10), (⟨"UmbrellaFlight$Year", "isLost", "(I)Z"⟩, 10), (⟨"UmbrellaFlight", "answered", "(I)I"⟩, 16), (⟨"UmbrellaFlight", "isStop", "(I)Z"⟩, 16), (⟨"UmbrellaFlight", "isUmbrella", "(I)Z"⟩, 16), (⟨"UmbrellaFlight", "noUmbrellaOrDay", "(II)I"⟩, 16), (⟨"UmbrellaFlight", "isDay", "(I)Z"⟩, 16), (⟨"UmbrellaFlight", "hasFlight", "()Z"⟩, 16), (⟨"UmbrellaFlight", "isWayOut", "(II)Z"⟩, 16), (⟨"UmbrellaFlight", "noFlier", "(I)I"⟩, 16), (⟨"UmbrellaFlight", "firstBestDay", "(I)I"⟩, 16), (⟨"UmbrellaFlight", "arrivingBy", "(II)I"⟩, 16), (⟨"UmbrellaFlight$Fits", "add", "(LUmbrellaFlight$Flight;IIII)V"⟩, 9), (⟨"UmbrellaFlight$Fits", "chooseLook", "(LUmbrellaFlight$Flight;)V"⟩, 9), (⟨"UmbrellaFlight", "noFit", "(I)I"⟩, 16)]
theorem lw_r3 : ∀ q ∈ lw_privs_3, lw_okq q := List.forall_mem_cons.mpr ⟨lw_p32, List.forall_mem_cons.mpr ⟨lw_p33, List.forall_mem_cons.mpr ⟨lw_p34, List.forall_mem_cons.mpr ⟨lw_p35, List.forall_mem_cons.mpr ⟨lw_p36, List.forall_mem_cons.mpr ⟨lw_p37, List.forall_mem_cons.mpr ⟨lw_p38, List.forall_mem_cons.mpr ⟨lw_p39, List.forall_mem_cons.mpr ⟨lw_p40, List.forall_mem_cons.mpr ⟨lw_p41, List.forall_mem_cons.mpr ⟨lw_p42, List.forall_mem_cons.mpr ⟨lw_p43, List.forall_mem_cons.mpr ⟨lw_p44, List.forall_mem_cons.mpr ⟨lw_p45, List.forall_mem_cons.mpr ⟨lw_p46, List.forall_mem_cons.mpr ⟨lw_p47, fun _ h => absurd h List.not_mem_nil⟩⟩⟩⟩⟩⟩⟩⟩⟩⟩⟩⟩⟩⟩⟩⟩
theorem lw_p48 : lw_okq (⟨"UmbrellaFlight", "isHall", "(I)Z"⟩, 16) := ⟨⟨by decide +kernel, by decide +kernel⟩, List.mem_of_getElem? (i := 26) (by decide +kernel), List.mem_of_getElem? (i := 1093) (by decide +kernel), List.mem_of_getElem? (i := 1094) (by decide +kernel)⟩
theorem lw_p49 : lw_okq (⟨"UmbrellaFlight$Halls", "roundsOf", "(I)I"⟩, 1) := ⟨⟨by decide +kernel, by decide +kernel⟩, List.mem_of_getElem? (i := 435) (by decide +kernel), List.mem_of_getElem? (i := 1122) (by decide +kernel), List.mem_of_getElem? (i := 1123) (by decide +kernel)⟩
theorem lw_p50 : lw_okq (⟨"UmbrellaFlight", "worthFrom", "(I)J"⟩, 16) := ⟨⟨by decide +kernel, by decide +kernel⟩, List.mem_of_getElem? (i := 26) (by decide +kernel), List.mem_of_getElem? (i := 1132) (by decide +kernel), List.mem_of_getElem? (i := 1133) (by decide +kernel)⟩
theorem lw_p51 : lw_okq (⟨"UmbrellaFlight", "partsFrom", "(I)J"⟩, 16) := ⟨⟨by decide +kernel, by decide +kernel⟩, List.mem_of_getElem? (i := 26) (by decide +kernel), List.mem_of_getElem? (i := 1140) (by decide +kernel), List.mem_of_getElem? (i := 1141) (by decide +kernel)⟩
theorem lw_p52 : lw_okq (⟨"UmbrellaFlight", "herdBehind", "(III)I"⟩, 16) := ⟨⟨by decide +kernel, by decide +kernel⟩, List.mem_of_getElem? (i := 26) (by decide +kernel), List.mem_of_getElem? (i := 1152) (by decide +kernel), List.mem_of_getElem? (i := 1153) (by decide +kernel)⟩
theorem lw_p53 : lw_okq (⟨"UmbrellaFlight", "isRefused", "(I)Z"⟩, 16) := ⟨⟨by decide +kernel, by decide +kernel⟩, List.mem_of_getElem? (i := 26) (by decide +kernel), List.mem_of_getElem? (i := 1174) (by decide +kernel), List.mem_of_getElem? (i := 1175) (by decide +kernel)⟩
theorem lw_p54 : lw_okq (⟨"UmbrellaFlight$Acts", "pastCell", "(I)I"⟩, 5) := ⟨⟨by decide +kernel, by decide +kernel⟩, List.mem_of_getElem? (i := 308) (by decide +kernel), List.mem_of_getElem? (i := 1182) (by decide +kernel), List.mem_of_getElem? (i := 1183) (by decide +kernel)⟩
theorem lw_p55 : lw_okq (⟨"UmbrellaFlight", "isDone", "()Z"⟩, 16) := ⟨⟨by decide +kernel, by decide +kernel⟩, List.mem_of_getElem? (i := 26) (by decide +kernel), List.mem_of_getElem? (i := 1191) (by decide +kernel), List.mem_of_getElem? (i := 1192) (by decide +kernel)⟩
theorem lw_p56 : lw_okq (⟨"java/lang/Throwable", "fillInStackTrace", "(I)Ljava/lang/Throwable;"⟩, 6) := ⟨⟨by decide +kernel, by decide +kernel⟩, List.mem_of_getElem? (i := 1283) (by decide +kernel), List.mem_of_getElem? (i := 1281) (by decide +kernel), List.mem_of_getElem? (i := 1282) (by decide +kernel)⟩
theorem lw_p57 : lw_okq (⟨"UmbrellaFlightModel", "refused", "(I)I"⟩, 45) := ⟨⟨by decide +kernel, by decide +kernel⟩, List.mem_of_getElem? (i := 1312) (by decide +kernel), List.mem_of_getElem? (i := 1466) (by decide +kernel), List.mem_of_getElem? (i := 1467) (by decide +kernel)⟩
theorem lw_p58 : lw_okq (⟨"UmbrellaFlightModel", "goesOn", "()V"⟩, 45) := ⟨⟨by decide +kernel, by decide +kernel⟩, List.mem_of_getElem? (i := 1312) (by decide +kernel), List.mem_of_getElem? (i := 1613) (by decide +kernel), List.mem_of_getElem? (i := 1614) (by decide +kernel)⟩
theorem lw_p59 : lw_okq (⟨"UmbrellaFlightModel", "byteAt", "(I)I"⟩, 45) := ⟨⟨by decide +kernel, by decide +kernel⟩, List.mem_of_getElem? (i := 1312) (by decide +kernel), List.mem_of_getElem? (i := 1617) (by decide +kernel), List.mem_of_getElem? (i := 1618) (by decide +kernel)⟩
theorem lw_p60 : lw_okq (⟨"UmbrellaFlightModel", "readAll", "()V"⟩, 45) := ⟨⟨by decide +kernel, by decide +kernel⟩, List.mem_of_getElem? (i := 1312) (by decide +kernel), List.mem_of_getElem? (i := 1628) (by decide +kernel), List.mem_of_getElem? (i := 1629) (by decide +kernel)⟩
theorem lw_p61 : lw_okq (⟨"UmbrellaFlightModel", "readLine", "()V"⟩, 45) := ⟨⟨by decide +kernel, by decide +kernel⟩, List.mem_of_getElem? (i := 1312) (by decide +kernel), List.mem_of_getElem? (i := 1632) (by decide +kernel), List.mem_of_getElem? (i := 1633) (by decide +kernel)⟩
theorem lw_p62 : lw_okq (⟨"UmbrellaFlightModel", "isWord", "(Ljava/lang/String;)Z"⟩, 45) := ⟨⟨by decide +kernel, by decide +kernel⟩, List.mem_of_getElem? (i := 1312) (by decide +kernel), List.mem_of_getElem? (i := 1637) (by decide +kernel), List.mem_of_getElem? (i := 1638) (by decide +kernel)⟩
theorem lw_p63 : lw_okq (⟨"UmbrellaFlightModel", "readFlight", "()V"⟩, 45) := ⟨⟨by decide +kernel, by decide +kernel⟩, List.mem_of_getElem? (i := 1312) (by decide +kernel), List.mem_of_getElem? (i := 1646) (by decide +kernel), List.mem_of_getElem? (i := 1647) (by decide +kernel)⟩
def lw_privs_4 : List (MethodName × Nat) := [(⟨"UmbrellaFlight", "isHall", "(I)Z"⟩, 16), (⟨"UmbrellaFlight$Halls", "roundsOf", "(I)I"⟩, 1), (⟨"UmbrellaFlight", "worthFrom", "(I)J"⟩, 16), (⟨"UmbrellaFlight", "partsFrom", "(I)J"⟩, 16), (⟨"UmbrellaFlight", "herdBehind", "(III)I"⟩, 16), (⟨"UmbrellaFlight", "isRefused", "(I)Z"⟩, 16), (⟨"UmbrellaFlight$Acts", "pastCell", "(I)I"⟩, 5), (⟨"UmbrellaFlight", "isDone", "()Z"⟩, 16), (⟨"java/lang/Throwable", "fillInStackTrace", "(I)Ljava/lang/Throwable;"⟩, 6), (⟨"UmbrellaFlightModel", "refused", "(I)I"⟩, 45), (⟨"UmbrellaFlightModel", "goesOn", "()V"⟩, 45), (⟨"UmbrellaFlightModel", "byteAt", "(I)I"⟩, 45), (⟨"UmbrellaFlightModel", "readAll", "()V"⟩, 45), (⟨"UmbrellaFlightModel", "readLine", "()V"⟩, 45), (⟨"UmbrellaFlightModel", "isWord", "(Ljava/lang/String;)Z"⟩, 45), (⟨"UmbrellaFlightModel", "readFlight", "()V"⟩, 45)]
theorem lw_r4 : ∀ q ∈ lw_privs_4, lw_okq q := List.forall_mem_cons.mpr ⟨lw_p48, List.forall_mem_cons.mpr ⟨lw_p49, List.forall_mem_cons.mpr ⟨lw_p50, List.forall_mem_cons.mpr ⟨lw_p51, List.forall_mem_cons.mpr ⟨lw_p52, List.forall_mem_cons.mpr ⟨lw_p53, List.forall_mem_cons.mpr ⟨lw_p54, List.forall_mem_cons.mpr ⟨lw_p55, List.forall_mem_cons.mpr ⟨lw_p56, List.forall_mem_cons.mpr ⟨lw_p57, List.forall_mem_cons.mpr ⟨lw_p58, List.forall_mem_cons.mpr ⟨lw_p59, List.forall_mem_cons.mpr ⟨lw_p60, List.forall_mem_cons.mpr ⟨lw_p61, List.forall_mem_cons.mpr ⟨lw_p62, List.forall_mem_cons.mpr ⟨lw_p63, fun _ h => absurd h List.not_mem_nil⟩⟩⟩⟩⟩⟩⟩⟩⟩⟩⟩⟩⟩⟩⟩⟩
theorem lw_p64 : lw_okq (⟨"UmbrellaFlightModel", "flaw", "(I)V"⟩, 45) := ⟨⟨by decide +kernel, by decide +kernel⟩, List.mem_of_getElem? (i := 1312) (by decide +kernel), List.mem_of_getElem? (i := 1650) (by decide +kernel), List.mem_of_getElem? (i := 1651) (by decide +kernel)⟩
theorem lw_p65 : lw_okq (⟨"UmbrellaFlightModel", "readPart", "(Ljava/lang/String;II)I"⟩, 45) := ⟨⟨by decide +kernel, by decide +kernel⟩, List.mem_of_getElem? (i := 1312) (by decide +kernel), List.mem_of_getElem? (i := 1655) (by decide +kernel), List.mem_of_getElem? (i := 1656) (by decide +kernel)⟩
theorem lw_p66 : lw_okq (⟨"UmbrellaFlightModel", "needs", "(Ljava/lang/String;)V"⟩, 45) := ⟨⟨by decide +kernel, by decide +kernel⟩, List.mem_of_getElem? (i := 1312) (by decide +kernel), List.mem_of_getElem? (i := 1659) (by decide +kernel), List.mem_of_getElem? (i := 1660) (by decide +kernel)⟩
theorem lw_p67 : lw_okq (⟨"UmbrellaFlightModel", "readWhole", "(II)I"⟩, 45) := ⟨⟨by decide +kernel, by decide +kernel⟩, List.mem_of_getElem? (i := 1312) (by decide +kernel), List.mem_of_getElem? (i := 1663) (by decide +kernel), List.mem_of_getElem? (i := 1664) (by decide +kernel)⟩
theorem lw_p68 : lw_okq (⟨"UmbrellaFlightModel", "bounded", "(II)I"⟩, 45) := ⟨⟨by decide +kernel, by decide +kernel⟩, List.mem_of_getElem? (i := 1312) (by decide +kernel), List.mem_of_getElem? (i := 1667) (by decide +kernel), List.mem_of_getElem? (i := 1668) (by decide +kernel)⟩
theorem lw_p69 : lw_okq (⟨"UmbrellaFlightModel", "readStop", "()V"⟩, 45) := ⟨⟨by decide +kernel, by decide +kernel⟩, List.mem_of_getElem? (i := 1312) (by decide +kernel), List.mem_of_getElem? (i := 1677) (by decide +kernel), List.mem_of_getElem? (i := 1678) (by decide +kernel)⟩
theorem lw_p70 : lw_okq (⟨"UmbrellaFlightModel", "begins", "(II)V"⟩, 45) := ⟨⟨by decide +kernel, by decide +kernel⟩, List.mem_of_getElem? (i := 1312) (by decide +kernel), List.mem_of_getElem? (i := 1681) (by decide +kernel), List.mem_of_getElem? (i := 1682) (by decide +kernel)⟩
theorem lw_p71 : lw_okq (⟨"UmbrellaFlightModel", "readFresh", "()J"⟩, 45) := ⟨⟨by decide +kernel, by decide +kernel⟩, List.mem_of_getElem? (i := 1312) (by decide +kernel), List.mem_of_getElem? (i := 1685) (by decide +kernel), List.mem_of_getElem? (i := 1686) (by decide +kernel)⟩
theorem lw_p72 : lw_okq (⟨"UmbrellaFlightModel", "isName", "()Z"⟩, 45) := ⟨⟨by decide +kernel, by decide +kernel⟩, List.mem_of_getElem? (i := 1312) (by decide +kernel), List.mem_of_getElem? (i := 1689) (by decide +kernel), List.mem_of_getElem? (i := 1690) (by decide +kernel)⟩
theorem lw_p73 : lw_okq (⟨"UmbrellaFlightModel", "names", "(JII)V"⟩, 45) := ⟨⟨by decide +kernel, by decide +kernel⟩, List.mem_of_getElem? (i := 1312) (by decide +kernel), List.mem_of_getElem? (i := 1709) (by decide +kernel), List.mem_of_getElem? (i := 1710) (by decide +kernel)⟩
theorem lw_p74 : lw_okq (⟨"UmbrellaFlightModel", "readWay", "()V"⟩, 45) := ⟨⟨by decide +kernel, by decide +kernel⟩, List.mem_of_getElem? (i := 1312) (by decide +kernel), List.mem_of_getElem? (i := 1713) (by decide +kernel), List.mem_of_getElem? (i := 1714) (by decide +kernel)⟩
theorem lw_p75 : lw_okq (⟨"UmbrellaFlightModel", "readKnown", "(I)I"⟩, 45) := ⟨⟨by decide +kernel, by decide +kernel⟩, List.mem_of_getElem? (i := 1312) (by decide +kernel), List.mem_of_getElem? (i := 1717) (by decide +kernel), List.mem_of_getElem? (i := 1718) (by decide +kernel)⟩
theorem lw_p76 : lw_okq (⟨"UmbrellaFlightModel", "known", "(I)I"⟩, 45) := ⟨⟨by decide +kernel, by decide +kernel⟩, List.mem_of_getElem? (i := 1312) (by decide +kernel), List.mem_of_getElem? (i := 1721) (by decide +kernel), List.mem_of_getElem? (i := 1722) (by decide +kernel)⟩
theorem lw_p77 : lw_okq (⟨"UmbrellaFlightModel", "readUmbrella", "()V"⟩, 45) := ⟨⟨by decide +kernel, by decide +kernel⟩, List.mem_of_getElem? (i := 1312) (by decide +kernel), List.mem_of_getElem? (i := 1730) (by decide +kernel), List.mem_of_getElem? (i := 1731) (by decide +kernel)⟩
theorem lw_p78 : lw_okq (⟨"UmbrellaFlightModel", "readHall", "()I"⟩, 45) := ⟨⟨by decide +kernel, by decide +kernel⟩, List.mem_of_getElem? (i := 1312) (by decide +kernel), List.mem_of_getElem? (i := 1741) (by decide +kernel), List.mem_of_getElem? (i := 1742) (by decide +kernel)⟩
theorem lw_p79 : lw_okq (⟨"UmbrellaFlightModel", "readFlies", "()V"⟩, 45) := ⟨⟨by decide +kernel, by decide +kernel⟩, List.mem_of_getElem? (i := 1312) (by decide +kernel), List.mem_of_getElem? (i := 1745) (by decide +kernel), List.mem_of_getElem? (i := 1746) (by decide +kernel)⟩
def lw_privs_5 : List (MethodName × Nat) := [(⟨"UmbrellaFlightModel", "flaw", "(I)V"⟩, 45), (⟨"UmbrellaFlightModel", "readPart", "(Ljava/lang/String;II)I"⟩, 45), (⟨"UmbrellaFlightModel", "needs", "(Ljava/lang/String;)V"⟩, 45), (⟨"UmbrellaFlightModel", "readWhole", "(II)I"⟩, 45), (⟨"UmbrellaFlightModel", "bounded", "(II)I"⟩, 45), (⟨"UmbrellaFlightModel", "readStop", "()V"⟩, 45), (⟨"UmbrellaFlightModel", "begins", "(II)V"⟩, 45), (⟨"UmbrellaFlightModel", "readFresh", "()J"⟩, 45), (⟨"UmbrellaFlightModel", "isName", "()Z"⟩, 45), (⟨"UmbrellaFlightModel", "names", "(JII)V"⟩, 45), (⟨"UmbrellaFlightModel", "readWay", "()V"⟩, 45), (⟨"UmbrellaFlightModel", "readKnown", "(I)I"⟩, 45), (⟨"UmbrellaFlightModel", "known", "(I)I"⟩, 45), (⟨"UmbrellaFlightModel", "readUmbrella", "()V"⟩, 45), (⟨"UmbrellaFlightModel", "readHall", "()I"⟩, 45), (⟨"UmbrellaFlightModel", "readFlies", "()V"⟩, 45)]
theorem lw_r5 : ∀ q ∈ lw_privs_5, lw_okq q := List.forall_mem_cons.mpr ⟨lw_p64, List.forall_mem_cons.mpr ⟨lw_p65, List.forall_mem_cons.mpr ⟨lw_p66, List.forall_mem_cons.mpr ⟨lw_p67, List.forall_mem_cons.mpr ⟨lw_p68, List.forall_mem_cons.mpr ⟨lw_p69, List.forall_mem_cons.mpr ⟨lw_p70, List.forall_mem_cons.mpr ⟨lw_p71, List.forall_mem_cons.mpr ⟨lw_p72, List.forall_mem_cons.mpr ⟨lw_p73, List.forall_mem_cons.mpr ⟨lw_p74, List.forall_mem_cons.mpr ⟨lw_p75, List.forall_mem_cons.mpr ⟨lw_p76, List.forall_mem_cons.mpr ⟨lw_p77, List.forall_mem_cons.mpr ⟨lw_p78, List.forall_mem_cons.mpr ⟨lw_p79, fun _ h => absurd h List.not_mem_nil⟩⟩⟩⟩⟩⟩⟩⟩⟩⟩⟩⟩⟩⟩⟩⟩
theorem lw_p80 : lw_okq (⟨"UmbrellaFlightModel", "readDay", "(I)I"⟩, 45) := ⟨⟨by decide +kernel, by decide +kernel⟩, List.mem_of_getElem? (i := 1312) (by decide +kernel), List.mem_of_getElem? (i := 1749) (by decide +kernel), List.mem_of_getElem? (i := 1750) (by decide +kernel)⟩
theorem lw_p81 : lw_okq (⟨"UmbrellaFlightModel", "eatsSign", "(I)Z"⟩, 45) := ⟨⟨by decide +kernel, by decide +kernel⟩, List.mem_of_getElem? (i := 1312) (by decide +kernel), List.mem_of_getElem? (i := 1753) (by decide +kernel), List.mem_of_getElem? (i := 1754) (by decide +kernel)⟩
theorem lw_p82 : lw_okq (⟨"UmbrellaFlightModel", "readRing", "()V"⟩, 45) := ⟨⟨by decide +kernel, by decide +kernel⟩, List.mem_of_getElem? (i := 1312) (by decide +kernel), List.mem_of_getElem? (i := 1757) (by decide +kernel), List.mem_of_getElem? (i := 1758) (by decide +kernel)⟩
theorem lw_p83 : lw_okq (⟨"UmbrellaFlightModel", "readBack", "()V"⟩, 45) := ⟨⟨by decide +kernel, by decide +kernel⟩, List.mem_of_getElem? (i := 1312) (by decide +kernel), List.mem_of_getElem? (i := 1761) (by decide +kernel), List.mem_of_getElem? (i := 1762) (by decide +kernel)⟩
theorem lw_p84 : lw_okq (⟨"UmbrellaFlightModel", "readOwner", "()V"⟩, 45) := ⟨⟨by decide +kernel, by decide +kernel⟩, List.mem_of_getElem? (i := 1312) (by decide +kernel), List.mem_of_getElem? (i := 1765) (by decide +kernel), List.mem_of_getElem? (i := 1766) (by decide +kernel)⟩
theorem lw_p85 : lw_okq (⟨"UmbrellaFlightModel", "readOut", "()V"⟩, 45) := ⟨⟨by decide +kernel, by decide +kernel⟩, List.mem_of_getElem? (i := 1312) (by decide +kernel), List.mem_of_getElem? (i := 1769) (by decide +kernel), List.mem_of_getElem? (i := 1770) (by decide +kernel)⟩
theorem lw_p86 : lw_okq (⟨"UmbrellaFlightModel", "readRain", "()V"⟩, 45) := ⟨⟨by decide +kernel, by decide +kernel⟩, List.mem_of_getElem? (i := 1312) (by decide +kernel), List.mem_of_getElem? (i := 1774) (by decide +kernel), List.mem_of_getElem? (i := 1775) (by decide +kernel)⟩
theorem lw_p87 : lw_okq (⟨"UmbrellaFlightModel", "readWind", "()V"⟩, 45) := ⟨⟨by decide +kernel, by decide +kernel⟩, List.mem_of_getElem? (i := 1312) (by decide +kernel), List.mem_of_getElem? (i := 1781) (by decide +kernel), List.mem_of_getElem? (i := 1782) (by decide +kernel)⟩
theorem lw_p88 : lw_okq (⟨"UmbrellaFlightModel", "good", "(I)I"⟩, 45) := ⟨⟨by decide +kernel, by decide +kernel⟩, List.mem_of_getElem? (i := 1312) (by decide +kernel), List.mem_of_getElem? (i := 1787) (by decide +kernel), List.mem_of_getElem? (i := 1788) (by decide +kernel)⟩
theorem lw_p89 : lw_okq (⟨"UmbrellaFlightModel", "isStop", "(I)Z"⟩, 45) := ⟨⟨by decide +kernel, by decide +kernel⟩, List.mem_of_getElem? (i := 1312) (by decide +kernel), List.mem_of_getElem? (i := 1803) (by decide +kernel), List.mem_of_getElem? (i := 1804) (by decide +kernel)⟩
theorem lw_p90 : lw_okq (⟨"UmbrellaFlightModel", "isUmbrella", "(I)Z"⟩, 45) := ⟨⟨by decide +kernel, by decide +kernel⟩, List.mem_of_getElem? (i := 1312) (by decide +kernel), List.mem_of_getElem? (i := 1815) (by decide +kernel), List.mem_of_getElem? (i := 1816) (by decide +kernel)⟩
theorem lw_p91 : lw_okq (⟨"UmbrellaFlightModel", "refusesDay", "(ZI)I"⟩, 45) := ⟨⟨by decide +kernel, by decide +kernel⟩, List.mem_of_getElem? (i := 1312) (by decide +kernel), List.mem_of_getElem? (i := 1827) (by decide +kernel), List.mem_of_getElem? (i := 1828) (by decide +kernel)⟩
theorem lw_p92 : lw_okq (⟨"UmbrellaFlightModel", "isDay", "(I)Z"⟩, 45) := ⟨⟨by decide +kernel, by decide +kernel⟩, List.mem_of_getElem? (i := 1312) (by decide +kernel), List.mem_of_getElem? (i := 1831) (by decide +kernel), List.mem_of_getElem? (i := 1832) (by decide +kernel)⟩
theorem lw_p93 : lw_okq (⟨"UmbrellaFlightModel", "year", "(Z)V"⟩, 45) := ⟨⟨by decide +kernel, by decide +kernel⟩, List.mem_of_getElem? (i := 1312) (by decide +kernel), List.mem_of_getElem? (i := 1835) (by decide +kernel), List.mem_of_getElem? (i := 1836) (by decide +kernel)⟩
theorem lw_p94 : lw_okq (⟨"UmbrellaFlightModel", "flockOf", "(II)I"⟩, 45) := ⟨⟨by decide +kernel, by decide +kernel⟩, List.mem_of_getElem? (i := 1312) (by decide +kernel), List.mem_of_getElem? (i := 1839) (by decide +kernel), List.mem_of_getElem? (i := 1840) (by decide +kernel)⟩
theorem lw_p95 : lw_okq (⟨"UmbrellaFlightModel", "next", "(II)I"⟩, 45) := ⟨⟨by decide +kernel, by decide +kernel⟩, List.mem_of_getElem? (i := 1312) (by decide +kernel), List.mem_of_getElem? (i := 1843) (by decide +kernel), List.mem_of_getElem? (i := 1844) (by decide +kernel)⟩
def lw_privs_6 : List (MethodName × Nat) := [(⟨"UmbrellaFlightModel", "readDay", "(I)I"⟩, 45), (⟨"UmbrellaFlightModel", "eatsSign", "(I)Z"⟩, 45), (⟨"UmbrellaFlightModel", "readRing", "()V"⟩, 45), (⟨"UmbrellaFlightModel", "readBack", "()V"⟩, 45), (⟨"UmbrellaFlightModel", "readOwner", "()V"⟩, 45), (⟨"UmbrellaFlightModel", "readOut", "()V"⟩, 45), (⟨"UmbrellaFlightModel", "readRain", "()V"⟩, 45), (⟨"UmbrellaFlightModel", "readWind", "()V"⟩, 45), (⟨"UmbrellaFlightModel", "good", "(I)I"⟩, 45), (⟨"UmbrellaFlightModel", "isStop", "(I)Z"⟩, 45), (⟨"UmbrellaFlightModel", "isUmbrella", "(I)Z"⟩, 45), (⟨"UmbrellaFlightModel", "refusesDay", "(ZI)I"⟩, 45), (⟨"UmbrellaFlightModel", "isDay", "(I)Z"⟩, 45), (⟨"UmbrellaFlightModel", "year", "(Z)V"⟩, 45), (⟨"UmbrellaFlightModel", "flockOf", "(II)I"⟩, 45), (⟨"UmbrellaFlightModel", "next", "(II)I"⟩, 45)]
theorem lw_r6 : ∀ q ∈ lw_privs_6, lw_okq q := List.forall_mem_cons.mpr ⟨lw_p80, List.forall_mem_cons.mpr ⟨lw_p81, List.forall_mem_cons.mpr ⟨lw_p82, List.forall_mem_cons.mpr ⟨lw_p83, List.forall_mem_cons.mpr ⟨lw_p84, List.forall_mem_cons.mpr ⟨lw_p85, List.forall_mem_cons.mpr ⟨lw_p86, List.forall_mem_cons.mpr ⟨lw_p87, List.forall_mem_cons.mpr ⟨lw_p88, List.forall_mem_cons.mpr ⟨lw_p89, List.forall_mem_cons.mpr ⟨lw_p90, List.forall_mem_cons.mpr ⟨lw_p91, List.forall_mem_cons.mpr ⟨lw_p92, List.forall_mem_cons.mpr ⟨lw_p93, List.forall_mem_cons.mpr ⟨lw_p94, List.forall_mem_cons.mpr ⟨lw_p95, fun _ h => absurd h List.not_mem_nil⟩⟩⟩⟩⟩⟩⟩⟩⟩⟩⟩⟩⟩⟩⟩⟩
theorem lw_p96 : lw_okq (⟨"UmbrellaFlightModel", "isKept", "(I)Z"⟩, 45) := ⟨⟨by decide +kernel, by decide +kernel⟩, List.mem_of_getElem? (i := 1312) (by decide +kernel), List.mem_of_getElem? (i := 1847) (by decide +kernel), List.mem_of_getElem? (i := 1848) (by decide +kernel)⟩
theorem lw_p97 : lw_okq (⟨"UmbrellaFlightModel", "flown", "(IIZII)I"⟩, 45) := ⟨⟨by decide +kernel, by decide +kernel⟩, List.mem_of_getElem? (i := 1312) (by decide +kernel), List.mem_of_getElem? (i := 1851) (by decide +kernel), List.mem_of_getElem? (i := 1852) (by decide +kernel)⟩
theorem lw_p98 : lw_okq (⟨"UmbrellaFlightModel", "costs", "(III)I"⟩, 45) := ⟨⟨by decide +kernel, by decide +kernel⟩, List.mem_of_getElem? (i := 1312) (by decide +kernel), List.mem_of_getElem? (i := 1855) (by decide +kernel), List.mem_of_getElem? (i := 1856) (by decide +kernel)⟩
theorem lw_p99 : lw_okq (⟨"UmbrellaFlightModel", "arrivedNow", "()I"⟩, 45) := ⟨⟨by decide +kernel, by decide +kernel⟩, List.mem_of_getElem? (i := 1312) (by decide +kernel), List.mem_of_getElem? (i := 1885) (by decide +kernel), List.mem_of_getElem? (i := 1886) (by decide +kernel)⟩
theorem lw_p100 : lw_okq (⟨"UmbrellaFlightModel", "laysWays", "(I)V"⟩, 45) := ⟨⟨by decide +kernel, by decide +kernel⟩, List.mem_of_getElem? (i := 1312) (by decide +kernel), List.mem_of_getElem? (i := 1909) (by decide +kernel), List.mem_of_getElem? (i := 1910) (by decide +kernel)⟩
theorem lw_p101 : lw_okq (⟨"UmbrellaFlightModel", "isOn", "(II)Z"⟩, 45) := ⟨⟨by decide +kernel, by decide +kernel⟩, List.mem_of_getElem? (i := 1312) (by decide +kernel), List.mem_of_getElem? (i := 1913) (by decide +kernel), List.mem_of_getElem? (i := 1914) (by decide +kernel)⟩
theorem lw_p102 : lw_okq (⟨"UmbrellaFlightModel", "safe", "(II)J"⟩, 45) := ⟨⟨by decide +kernel, by decide +kernel⟩, List.mem_of_getElem? (i := 1312) (by decide +kernel), List.mem_of_getElem? (i := 1925) (by decide +kernel), List.mem_of_getElem? (i := 1926) (by decide +kernel)⟩
theorem lw_p103 : lw_okq (⟨"UmbrellaFlightModel", "fraction", "(JJZ)J"⟩, 45) := ⟨⟨by decide +kernel, by decide +kernel⟩, List.mem_of_getElem? (i := 1312) (by decide +kernel), List.mem_of_getElem? (i := 1931) (by decide +kernel), List.mem_of_getElem? (i := 1932) (by decide +kernel)⟩
theorem lw_p104 : lw_okq (⟨"UmbrellaFlightModel", "refusesBest", "(I)I"⟩, 45) := ⟨⟨by decide +kernel, by decide +kernel⟩, List.mem_of_getElem? (i := 1312) (by decide +kernel), List.mem_of_getElem? (i := 1946) (by decide +kernel), List.mem_of_getElem? (i := 1947) (by decide +kernel)⟩
theorem lw_p105 : lw_okq (⟨"UmbrellaFlightModel", "bestDays", "(I)V"⟩, 45) := ⟨⟨by decide +kernel, by decide +kernel⟩, List.mem_of_getElem? (i := 1312) (by decide +kernel), List.mem_of_getElem? (i := 1950) (by decide +kernel), List.mem_of_getElem? (i := 1951) (by decide +kernel)⟩
theorem lw_p106 : lw_okq (⟨"UmbrellaFlightModel", "laysFits", "(I)V"⟩, 45) := ⟨⟨by decide +kernel, by decide +kernel⟩, List.mem_of_getElem? (i := 1312) (by decide +kernel), List.mem_of_getElem? (i := 1962) (by decide +kernel), List.mem_of_getElem? (i := 1963) (by decide +kernel)⟩
theorem lw_p107 : lw_okq (⟨"UmbrellaFlightModel", "fitsSo", "(III)Z"⟩, 45) := ⟨⟨by decide +kernel, by decide +kernel⟩, List.mem_of_getElem? (i := 1312) (by decide +kernel), List.mem_of_getElem? (i := 1966) (by decide +kernel), List.mem_of_getElem? (i := 1967) (by decide +kernel)⟩
theorem lw_p108 : lw_okq (⟨"UmbrellaFlightModel", "along", "(III)I"⟩, 45) := ⟨⟨by decide +kernel, by decide +kernel⟩, List.mem_of_getElem? (i := 1312) (by decide +kernel), List.mem_of_getElem? (i := 1970) (by decide +kernel), List.mem_of_getElem? (i := 1971) (by decide +kernel)⟩
theorem lw_p109 : lw_okq (⟨"UmbrellaFlightModel", "refusesFits", "(I)I"⟩, 45) := ⟨⟨by decide +kernel, by decide +kernel⟩, List.mem_of_getElem? (i := 1312) (by decide +kernel), List.mem_of_getElem? (i := 1986) (by decide +kernel), List.mem_of_getElem? (i := 1987) (by decide +kernel)⟩
theorem lw_p110 : lw_okq (⟨"UmbrellaFlightModel", "counts", "(I)V"⟩, 45) := ⟨⟨by decide +kernel, by decide +kernel⟩, List.mem_of_getElem? (i := 1312) (by decide +kernel), List.mem_of_getElem? (i := 1994) (by decide +kernel), List.mem_of_getElem? (i := 1995) (by decide +kernel)⟩
theorem lw_p111 : lw_okq (⟨"UmbrellaFlightModel", "wetOn", "(I)I"⟩, 45) := ⟨⟨by decide +kernel, by decide +kernel⟩, List.mem_of_getElem? (i := 1312) (by decide +kernel), List.mem_of_getElem? (i := 2006) (by decide +kernel), List.mem_of_getElem? (i := 2007) (by decide +kernel)⟩
def lw_privs_7 : List (MethodName × Nat) := [(⟨"UmbrellaFlightModel", "isKept", "(I)Z"⟩, 45), (⟨"UmbrellaFlightModel", "flown", "(IIZII)I"⟩, 45), (⟨"UmbrellaFlightModel", "costs", "(III)I"⟩, 45), (⟨"UmbrellaFlightModel", "arrivedNow", "()I"⟩, 45), (⟨"UmbrellaFlightModel", "laysWays", "(I)V"⟩, 45), (⟨"UmbrellaFlightModel", "isOn", "(II)Z"⟩, 45), (⟨"UmbrellaFlightModel", "safe", "(II)J"⟩, 45), (⟨"UmbrellaFlightModel", "fraction", "(JJZ)J"⟩, 45), (⟨"UmbrellaFlightModel", "refusesBest", "(I)I"⟩, 45), (⟨"UmbrellaFlightModel", "bestDays", "(I)V"⟩, 45), (⟨"UmbrellaFlightModel", "laysFits", "(I)V"⟩, 45), (⟨"UmbrellaFlightModel", "fitsSo", "(III)Z"⟩, 45), (⟨"UmbrellaFlightModel", "along", "(III)I"⟩, 45), (⟨"UmbrellaFlightModel", "refusesFits", "(I)I"⟩, 45), (⟨"UmbrellaFlightModel", "counts", "(I)V"⟩, 45), (⟨"UmbrellaFlightModel", "wetOn", "(I)I"⟩, 45)]
theorem lw_r7 : ∀ q ∈ lw_privs_7, lw_okq q := List.forall_mem_cons.mpr ⟨lw_p96, List.forall_mem_cons.mpr ⟨lw_p97, List.forall_mem_cons.mpr ⟨lw_p98, List.forall_mem_cons.mpr ⟨lw_p99, List.forall_mem_cons.mpr ⟨lw_p100, List.forall_mem_cons.mpr ⟨lw_p101, List.forall_mem_cons.mpr ⟨lw_p102, List.forall_mem_cons.mpr ⟨lw_p103, List.forall_mem_cons.mpr ⟨lw_p104, List.forall_mem_cons.mpr ⟨lw_p105, List.forall_mem_cons.mpr ⟨lw_p106, List.forall_mem_cons.mpr ⟨lw_p107, List.forall_mem_cons.mpr ⟨lw_p108, List.forall_mem_cons.mpr ⟨lw_p109, List.forall_mem_cons.mpr ⟨lw_p110, List.forall_mem_cons.mpr ⟨lw_p111, fun _ h => absurd h List.not_mem_nil⟩⟩⟩⟩⟩⟩⟩⟩⟩⟩⟩⟩⟩⟩⟩⟩
theorem lw_p112 : lw_okq (⟨"UmbrellaFlightModel", "keptIn", "(I)I"⟩, 45) := ⟨⟨by decide +kernel, by decide +kernel⟩, List.mem_of_getElem? (i := 1312) (by decide +kernel), List.mem_of_getElem? (i := 2010) (by decide +kernel), List.mem_of_getElem? (i := 2011) (by decide +kernel)⟩
theorem lw_p113 : lw_okq (⟨"UmbrellaFlightModel", "isHall", "(I)Z"⟩, 45) := ⟨⟨by decide +kernel, by decide +kernel⟩, List.mem_of_getElem? (i := 1312) (by decide +kernel), List.mem_of_getElem? (i := 2027) (by decide +kernel), List.mem_of_getElem? (i := 2028) (by decide +kernel)⟩
theorem lw_p114 : lw_okq (⟨"UmbrellaFlightModel", "pinsOf", "(I)I"⟩, 45) := ⟨⟨by decide +kernel, by decide +kernel⟩, List.mem_of_getElem? (i := 1312) (by decide +kernel), List.mem_of_getElem? (i := 2031) (by decide +kernel), List.mem_of_getElem? (i := 2032) (by decide +kernel)⟩
theorem lw_p115 : lw_okq (⟨"UmbrellaFlightModel", "rounds", "(I)I"⟩, 45) := ⟨⟨by decide +kernel, by decide +kernel⟩, List.mem_of_getElem? (i := 1312) (by decide +kernel), List.mem_of_getElem? (i := 2043) (by decide +kernel), List.mem_of_getElem? (i := 2044) (by decide +kernel)⟩
theorem lw_p116 : lw_okq (⟨"UmbrellaFlightModel", "nextOrder", "(I)Z"⟩, 45) := ⟨⟨by decide +kernel, by decide +kernel⟩, List.mem_of_getElem? (i := 1312) (by decide +kernel), List.mem_of_getElem? (i := 2047) (by decide +kernel), List.mem_of_getElem? (i := 2048) (by decide +kernel)⟩
theorem lw_p117 : lw_okq (⟨"UmbrellaFlightModel", "swaps", "(II)V"⟩, 45) := ⟨⟨by decide +kernel, by decide +kernel⟩, List.mem_of_getElem? (i := 1312) (by decide +kernel), List.mem_of_getElem? (i := 2051) (by decide +kernel), List.mem_of_getElem? (i := 2052) (by decide +kernel)⟩
theorem lw_p118 : lw_okq (⟨"UmbrellaFlightModel", "waiting", "(I)J"⟩, 45) := ⟨⟨by decide +kernel, by decide +kernel⟩, List.mem_of_getElem? (i := 1312) (by decide +kernel), List.mem_of_getElem? (i := 2059) (by decide +kernel), List.mem_of_getElem? (i := 2060) (by decide +kernel)⟩
theorem lw_p119 : lw_okq (⟨"UmbrellaFlightModel", "partsFrom", "(I)J"⟩, 45) := ⟨⟨by decide +kernel, by decide +kernel⟩, List.mem_of_getElem? (i := 1312) (by decide +kernel), List.mem_of_getElem? (i := 2063) (by decide +kernel), List.mem_of_getElem? (i := 2064) (by decide +kernel)⟩
theorem lw_p120 : lw_okq (⟨"UmbrellaFlightModel", "refusesHerd", "(III)I"⟩, 45) := ⟨⟨by decide +kernel, by decide +kernel⟩, List.mem_of_getElem? (i := 1312) (by decide +kernel), List.mem_of_getElem? (i := 2075) (by decide +kernel), List.mem_of_getElem? (i := 2076) (by decide +kernel)⟩
theorem lw_p121 : lw_okq (⟨"UmbrellaFlightModel", "herdOf", "(III)I"⟩, 45) := ⟨⟨by decide +kernel, by decide +kernel⟩, List.mem_of_getElem? (i := 1312) (by decide +kernel), List.mem_of_getElem? (i := 2079) (by decide +kernel), List.mem_of_getElem? (i := 2080) (by decide +kernel)⟩
theorem lw_p122 : lw_okq (⟨"UmbrellaFlightModel", "denied", "(I)Z"⟩, 45) := ⟨⟨by decide +kernel, by decide +kernel⟩, List.mem_of_getElem? (i := 1312) (by decide +kernel), List.mem_of_getElem? (i := 2100) (by decide +kernel), List.mem_of_getElem? (i := 2101) (by decide +kernel)⟩
theorem lw_p123 : lw_okq (⟨"UmbrellaFlightModel", "keeps", "()V"⟩, 45) := ⟨⟨by decide +kernel, by decide +kernel⟩, List.mem_of_getElem? (i := 1312) (by decide +kernel), List.mem_of_getElem? (i := 2104) (by decide +kernel), List.mem_of_getElem? (i := 2105) (by decide +kernel)⟩
theorem lw_p124 : lw_okq (⟨"UmbrellaFlightModel", "granted", "()Z"⟩, 45) := ⟨⟨by decide +kernel, by decide +kernel⟩, List.mem_of_getElem? (i := 1312) (by decide +kernel), List.mem_of_getElem? (i := 2108) (by decide +kernel), List.mem_of_getElem? (i := 2109) (by decide +kernel)⟩
def lw_privs_8 : List (MethodName × Nat) := [(⟨"UmbrellaFlightModel", "keptIn", "(I)I"⟩, 45), (⟨"UmbrellaFlightModel", "isHall", "(I)Z"⟩, 45), (⟨"UmbrellaFlightModel", "pinsOf", "(I)I"⟩, 45), (⟨"UmbrellaFlightModel", "rounds", "(I)I"⟩, 45), (⟨"UmbrellaFlightModel", "nextOrder", "(I)Z"⟩, 45), (⟨"UmbrellaFlightModel", "swaps", "(II)V"⟩, 45), (⟨"UmbrellaFlightModel", "waiting", "(I)J"⟩, 45), (⟨"UmbrellaFlightModel", "partsFrom", "(I)J"⟩, 45), (⟨"UmbrellaFlightModel", "refusesHerd", "(III)I"⟩, 45), (⟨"UmbrellaFlightModel", "herdOf", "(III)I"⟩, 45), (⟨"UmbrellaFlightModel", "denied", "(I)Z"⟩, 45), (⟨"UmbrellaFlightModel", "keeps", "()V"⟩, 45), (⟨"UmbrellaFlightModel", "granted", "()Z"⟩, 45)]
theorem lw_r8 : ∀ q ∈ lw_privs_8, lw_okq q := List.forall_mem_cons.mpr ⟨lw_p112, List.forall_mem_cons.mpr ⟨lw_p113, List.forall_mem_cons.mpr ⟨lw_p114, List.forall_mem_cons.mpr ⟨lw_p115, List.forall_mem_cons.mpr ⟨lw_p116, List.forall_mem_cons.mpr ⟨lw_p117, List.forall_mem_cons.mpr ⟨lw_p118, List.forall_mem_cons.mpr ⟨lw_p119, List.forall_mem_cons.mpr ⟨lw_p120, List.forall_mem_cons.mpr ⟨lw_p121, List.forall_mem_cons.mpr ⟨lw_p122, List.forall_mem_cons.mpr ⟨lw_p123, List.forall_mem_cons.mpr ⟨lw_p124, fun _ h => absurd h List.not_mem_nil⟩⟩⟩⟩⟩⟩⟩⟩⟩⟩⟩⟩⟩
def lw_privs : List (MethodName × Nat) := lw_privs_1 ++ (lw_privs_2 ++ (lw_privs_3 ++ (lw_privs_4 ++ (lw_privs_5 ++ (lw_privs_6 ++ (lw_privs_7 ++ (lw_privs_8)))))))
def lw_tbl : List Cond := k2_sels lw_privs ++ tables_1
theorem lw_privs_ok : ∀ q ∈ lw_privs, lw_okq q := by
  show ∀ q ∈ lw_privs_1 ++ (lw_privs_2 ++ (lw_privs_3 ++ (lw_privs_4 ++ (lw_privs_5 ++ (lw_privs_6 ++ (lw_privs_7 ++ (lw_privs_8))))))), lw_okq q
  exact List.forall_mem_append.mpr ⟨lw_r1, List.forall_mem_append.mpr ⟨lw_r2, List.forall_mem_append.mpr ⟨lw_r3, List.forall_mem_append.mpr ⟨lw_r4, List.forall_mem_append.mpr ⟨lw_r5, List.forall_mem_append.mpr ⟨lw_r6, List.forall_mem_append.mpr ⟨lw_r7, lw_r8⟩⟩⟩⟩⟩⟩⟩
def RX0 : String := "UmbrellaFlight$Acts"
def TX0 : u_T := fun k => match k with
  | 0 => ("UmbrellaFlight$Acts", "past", "LUmbrellaFlight$Row;", true)
  | 1 => ("UmbrellaFlight$Acts", "marks", "LUmbrellaFlight$Row;", true)
  | 2 => ("UmbrellaFlight$Acts", "oldest", "I", false)
  | 3 => ("UmbrellaFlight$Acts", "toUndo", "I", false)
  | _ => ("UmbrellaFlight$Acts", "marked", "I", false)
def tyX0 : Nat → FieldType := fun k => match k with
  | 0 => .object "UmbrellaFlight$Row"
  | 1 => .object "UmbrellaFlight$Row"
  | 2 => .int
  | 3 => .int
  | _ => .int
abbrev wsX00 : List Cond := u_ws RX0 TX0 5
theorem nmX0 : ∀ a, a < 5 → ∀ b, b < 5 → a ≠ b → (TX0 a).2.1 ≠ (TX0 b).2.1 := by decide +kernel
theorem tyX0_ok : ∀ k, k < 5 → parseFieldDescriptor (TX0 k).2.2.1 = some (tyX0 k) := by decide +kernel
abbrev cX0_init : ByteArray := prog_2_method_1_code
def yX0_init : MethodName := ⟨RX0, "<init>", "()V"⟩
abbrev cX0_clear : ByteArray := prog_2_method_2_code
def yX0_clear : MethodName := ⟨RX0, "clear", "()V"⟩
abbrev cX0_remember : ByteArray := prog_2_method_3_code
def yX0_remember : MethodName := ⟨RX0, "remember", "(LUmbrellaFlight$Plan;)V"⟩
abbrev cX0_takeBack : ByteArray := prog_2_method_4_code
def yX0_takeBack : MethodName := ⟨RX0, "takeBack", "(LUmbrellaFlight$Plan;)V"⟩
abbrev cX0_setMark : ByteArray := prog_2_method_5_code
def yX0_setMark : MethodName := ⟨RX0, "setMark", "(LUmbrellaFlight$Plan;)I"⟩
abbrev cX0_goBack : ByteArray := prog_2_method_6_code
def yX0_goBack : MethodName := ⟨RX0, "goBack", "(ILUmbrellaFlight$Plan;)V"⟩
abbrev cX0_pastCell : ByteArray := prog_2_method_7_code
def yX0_pastCell : MethodName := ⟨RX0, "pastCell", "(I)I"⟩
def RX1 : String := "UmbrellaFlight$Fits"
def TX1 : u_T := fun k => match k with
  | 0 => ("UmbrellaFlight$Fits", "seen", "LUmbrellaFlight$Row;", true)
  | 1 => ("UmbrellaFlight$Fits", "of", "I", false)
  | 2 => ("UmbrellaFlight$Fits", "mostLot", "J", false)
  | 3 => ("UmbrellaFlight$Fits", "total", "I", false)
  | 4 => ("UmbrellaFlight$Fits", "inSome", "I", false)
  | 5 => ("UmbrellaFlight$Fits", "inAll", "I", false)
  | 6 => ("UmbrellaFlight$Fits", "likely", "I", false)
  | 7 => ("UmbrellaFlight$Fits", "lookAt", "I", false)
  | _ => ("UmbrellaFlight$Fits", "leftAtMost", "I", false)
def tyX1 : Nat → FieldType := fun k => match k with
  | 0 => .object "UmbrellaFlight$Row"
  | 1 => .int
  | 2 => .long
  | 3 => .int
  | 4 => .int
  | 5 => .int
  | 6 => .int
  | 7 => .int
  | _ => .int
abbrev wsX10 : List Cond := u_ws RX1 TX1 9
theorem nmX1 : ∀ a, a < 9 → ∀ b, b < 9 → a ≠ b → (TX1 a).2.1 ≠ (TX1 b).2.1 := by decide +kernel
theorem tyX1_ok : ∀ k, k < 9 → parseFieldDescriptor (TX1 k).2.2.1 = some (tyX1 k) := by decide +kernel
abbrev cX1_init : ByteArray := prog_3_method_1_code
def yX1_init : MethodName := ⟨RX1, "<init>", "()V"⟩
abbrev cX1_forget : ByteArray := prog_3_method_2_code
def yX1_forget : MethodName := ⟨RX1, "forget", "()V"⟩
abbrev cX1_weigh : ByteArray := prog_3_method_3_code
def yX1_weigh : MethodName := ⟨RX1, "weigh", "(LUmbrellaFlight$Flight;LUmbrellaFlight$WaysOut;I)V"⟩
abbrev cX1_isFit : ByteArray := prog_3_method_4_code
def yX1_isFit : MethodName := ⟨RX1, "isFit", "(LUmbrellaFlight$Flight;III)Z"⟩
abbrev cX1_placeOf : ByteArray := prog_3_method_5_code
def yX1_placeOf : MethodName := ⟨RX1, "placeOf", "(LUmbrellaFlight$Flight;IIII)I"⟩
abbrev cX1_add : ByteArray := prog_3_method_6_code
def yX1_add : MethodName := ⟨RX1, "add", "(LUmbrellaFlight$Flight;IIII)V"⟩
abbrev cX1_chooseLook : ByteArray := prog_3_method_7_code
def yX1_chooseLook : MethodName := ⟨RX1, "chooseLook", "(LUmbrellaFlight$Flight;)V"⟩
def RX2 : String := "UmbrellaFlight$Flight"
def TX2 : u_T := fun k => match k with
  | 0 => ("UmbrellaFlight$Flight", "sizes", "LUmbrellaFlight$Row;", true)
  | 1 => ("UmbrellaFlight$Flight", "sorts", "LUmbrellaFlight$Row;", true)
  | 2 => ("UmbrellaFlight$Flight", "wayWinds", "LUmbrellaFlight$Row;", true)
  | 3 => ("UmbrellaFlight$Flight", "wayLosses", "LUmbrellaFlight$Row;", true)
  | 4 => ("UmbrellaFlight$Flight", "kinds", "LUmbrellaFlight$Row;", true)
  | 5 => ("UmbrellaFlight$Flight", "strong", "LUmbrellaFlight$Row;", true)
  | 6 => ("UmbrellaFlight$Flight", "homes", "LUmbrellaFlight$Row;", true)
  | 7 => ("UmbrellaFlight$Flight", "setsOut", "LUmbrellaFlight$Row;", true)
  | 8 => ("UmbrellaFlight$Flight", "routes", "LUmbrellaFlight$Row;", true)
  | 9 => ("UmbrellaFlight$Flight", "backAt", "LUmbrellaFlight$Row;", true)
  | 10 => ("UmbrellaFlight$Flight", "ringOf", "LUmbrellaFlight$Row;", true)
  | 11 => ("UmbrellaFlight$Flight", "ringStops", "LUmbrellaFlight$Row;", true)
  | 12 => ("UmbrellaFlight$Flight", "ringDays", "LUmbrellaFlight$Row;", true)
  | 13 => ("UmbrellaFlight$Flight", "ownHalls", "LUmbrellaFlight$Row;", true)
  | 14 => ("UmbrellaFlight$Flight", "outDays", "LUmbrellaFlight$Row;", true)
  | 15 => ("UmbrellaFlight$Flight", "rainy", "LUmbrellaFlight$Row;", true)
  | 16 => ("UmbrellaFlight$Flight", "chances", "LUmbrellaFlight$Row;", true)
  | 17 => ("UmbrellaFlight$Flight", "goods", "LUmbrellaFlight$Row;", true)
  | _ => ("UmbrellaFlight$Flight", "bads", "LUmbrellaFlight$Row;", true)
def tyX2 : Nat → FieldType := fun k => match k with
  | 0 => .object "UmbrellaFlight$Row"
  | 1 => .object "UmbrellaFlight$Row"
  | 2 => .object "UmbrellaFlight$Row"
  | 3 => .object "UmbrellaFlight$Row"
  | 4 => .object "UmbrellaFlight$Row"
  | 5 => .object "UmbrellaFlight$Row"
  | 6 => .object "UmbrellaFlight$Row"
  | 7 => .object "UmbrellaFlight$Row"
  | 8 => .object "UmbrellaFlight$Row"
  | 9 => .object "UmbrellaFlight$Row"
  | 10 => .object "UmbrellaFlight$Row"
  | 11 => .object "UmbrellaFlight$Row"
  | 12 => .object "UmbrellaFlight$Row"
  | 13 => .object "UmbrellaFlight$Row"
  | 14 => .object "UmbrellaFlight$Row"
  | 15 => .object "UmbrellaFlight$Row"
  | 16 => .object "UmbrellaFlight$Row"
  | 17 => .object "UmbrellaFlight$Row"
  | _ => .object "UmbrellaFlight$Row"
abbrev wsX20 : List Cond := u_ws RX2 TX2 19
theorem nmX2 : ∀ a, a < 19 → ∀ b, b < 19 → a ≠ b → (TX2 a).2.1 ≠ (TX2 b).2.1 := by decide +kernel
theorem tyX2_ok : ∀ k, k < 19 → parseFieldDescriptor (TX2 k).2.2.1 = some (tyX2 k) := by decide +kernel
abbrev cX2_init : ByteArray := prog_4_method_1_code
def yX2_init : MethodName := ⟨RX2, "<init>", "()V"⟩
abbrev cX2_clear : ByteArray := prog_4_method_2_code
def yX2_clear : MethodName := ⟨RX2, "clear", "()V"⟩
abbrev cX2_days : ByteArray := prog_4_method_3_code
def yX2_days : MethodName := ⟨RX2, "days", "()I"⟩
abbrev cX2_lastDay : ByteArray := prog_4_method_4_code
def yX2_lastDay : MethodName := ⟨RX2, "lastDay", "()I"⟩
abbrev cX2_stops : ByteArray := prog_4_method_5_code
def yX2_stops : MethodName := ⟨RX2, "stops", "()I"⟩
abbrev cX2_umbrellas : ByteArray := prog_4_method_6_code
def yX2_umbrellas : MethodName := ⟨RX2, "umbrellas", "()I"⟩
abbrev cX2_owners : ByteArray := prog_4_method_7_code
def yX2_owners : MethodName := ⟨RX2, "owners", "()I"⟩
abbrev cX2_winds : ByteArray := prog_4_method_8_code
def yX2_winds : MethodName := ⟨RX2, "winds", "()I"⟩
abbrev cX2_windOf : ByteArray := prog_4_method_9_code
def yX2_windOf : MethodName := ⟨RX2, "windOf", "(II)I"⟩
abbrev cX2_lossOf : ByteArray := prog_4_method_10_code
def yX2_lossOf : MethodName := ⟨RX2, "lossOf", "(II)I"⟩
abbrev cX2_lossFor : ByteArray := prog_4_method_11_code
def yX2_lossFor : MethodName := ⟨RX2, "lossFor", "(III)I"⟩
abbrev cX2_setWay : ByteArray := prog_4_method_12_code
def yX2_setWay : MethodName := ⟨RX2, "setWay", "(IIII)V"⟩
abbrev cX2_isRainy : ByteArray := prog_4_method_13_code
def yX2_isRainy : MethodName := ⟨RX2, "isRainy", "(I)Z"⟩
abbrev cX2_setRain : ByteArray := prog_4_method_14_code
def yX2_setRain : MethodName := ⟨RX2, "setRain", "(I)V"⟩
abbrev cX2_isOut : ByteArray := prog_4_method_15_code
def yX2_isOut : MethodName := ⟨RX2, "isOut", "(II)Z"⟩
abbrev cX2_setOuting : ByteArray := prog_4_method_16_code
def yX2_setOuting : MethodName := ⟨RX2, "setOuting", "(III)V"⟩
def RX3 : String := "UmbrellaFlight$Halls"
def TX3 : u_T := fun k => match k with
  | _ => ("UmbrellaFlight$Halls", "rounds", "LUmbrellaFlight$Row;", true)
def tyX3 : Nat → FieldType := fun k => match k with
  | _ => .object "UmbrellaFlight$Row"
abbrev wsX30 : List Cond := u_ws RX3 TX3 1
theorem nmX3 : ∀ a, a < 1 → ∀ b, b < 1 → a ≠ b → (TX3 a).2.1 ≠ (TX3 b).2.1 := by decide +kernel
theorem tyX3_ok : ∀ k, k < 1 → parseFieldDescriptor (TX3 k).2.2.1 = some (tyX3 k) := by decide +kernel
abbrev cX3_init : ByteArray := prog_5_method_1_code
def yX3_init : MethodName := ⟨RX3, "<init>", "()V"⟩
abbrev cX3_isWet : ByteArray := prog_5_method_2_code
def yX3_isWet : MethodName := ⟨RX3, "isWet", "(LUmbrellaFlight$Flight;LUmbrellaFlight$Plan;II)Z"⟩
abbrev cX3_pinsOf : ByteArray := prog_5_method_3_code
def yX3_pinsOf : MethodName := ⟨RX3, "pinsOf", "(LUmbrellaFlight$Flight;I)I"⟩
abbrev cX3_atHomeIn : ByteArray := prog_5_method_4_code
def yX3_atHomeIn : MethodName := ⟨RX3, "atHomeIn", "(LUmbrellaFlight$Flight;I)I"⟩
abbrev cX3_keptIn : ByteArray := prog_5_method_5_code
def yX3_keptIn : MethodName := ⟨RX3, "keptIn", "(LUmbrellaFlight$Flight;LUmbrellaFlight$Plan;I)I"⟩
abbrev cX3_outIn : ByteArray := prog_5_method_6_code
def yX3_outIn : MethodName := ⟨RX3, "outIn", "(LUmbrellaFlight$Flight;III)I"⟩
abbrev cX3_fewestExchanges : ByteArray := prog_5_method_7_code
def yX3_fewestExchanges : MethodName := ⟨RX3, "fewestExchanges", "(LUmbrellaFlight$Flight;)I"⟩
abbrev cX3_roundsOf : ByteArray := prog_5_method_8_code
def yX3_roundsOf : MethodName := ⟨RX3, "roundsOf", "(I)I"⟩
abbrev cX3_isEven : ByteArray := prog_5_method_9_code
def yX3_isEven : MethodName := ⟨RX3, "isEven", "(LUmbrellaFlight$Flight;I)Z"⟩
def RX4 : String := "UmbrellaFlight$Plan"
def TX4 : u_T := fun k => match k with
  | _ => ("UmbrellaFlight$Plan", "cells", "LUmbrellaFlight$Row;", true)
def tyX4 : Nat → FieldType := fun k => match k with
  | _ => .object "UmbrellaFlight$Row"
abbrev wsX40 : List Cond := u_ws RX4 TX4 1
theorem nmX4 : ∀ a, a < 1 → ∀ b, b < 1 → a ≠ b → (TX4 a).2.1 ≠ (TX4 b).2.1 := by decide +kernel
theorem tyX4_ok : ∀ k, k < 1 → parseFieldDescriptor (TX4 k).2.2.1 = some (tyX4 k) := by decide +kernel
abbrev cX4_init : ByteArray := prog_6_method_1_code
def yX4_init : MethodName := ⟨RX4, "<init>", "()V"⟩
abbrev cX4_begin : ByteArray := prog_6_method_2_code
def yX4_begin : MethodName := ⟨RX4, "begin", "(LUmbrellaFlight$Flight;)V"⟩
abbrev cX4_copy : ByteArray := prog_6_method_3_code
def yX4_copy : MethodName := ⟨RX4, "copy", "(LUmbrellaFlight$Plan;)V"⟩
abbrev cX4_strongOf : ByteArray := prog_6_method_4_code
def yX4_strongOf : MethodName := ⟨RX4, "strongOf", "(I)I"⟩
abbrev cX4_setsOutOf : ByteArray := prog_6_method_5_code
def yX4_setsOutOf : MethodName := ⟨RX4, "setsOutOf", "(I)I"⟩
abbrev cX4_routeOf : ByteArray := prog_6_method_6_code
def yX4_routeOf : MethodName := ⟨RX4, "routeOf", "(I)I"⟩
abbrev cX4_isKept : ByteArray := prog_6_method_7_code
def yX4_isKept : MethodName := ⟨RX4, "isKept", "(I)Z"⟩
abbrev cX4_setStrong : ByteArray := prog_6_method_8_code
def yX4_setStrong : MethodName := ⟨RX4, "setStrong", "(II)V"⟩
abbrev cX4_setOut : ByteArray := prog_6_method_9_code
def yX4_setOut : MethodName := ⟨RX4, "setOut", "(III)V"⟩
abbrev cX4_setKept : ByteArray := prog_6_method_10_code
def yX4_setKept : MethodName := ⟨RX4, "setKept", "(IZ)V"⟩
def RX5 : String := "UmbrellaFlight$Reader"
def TX5 : u_T := fun k => match k with
  | 0 => ("UmbrellaFlight$Reader", "tokens", "LUmbrellaFlight$Tokens;", true)
  | 1 => ("UmbrellaFlight$Reader", "names", "[J", true)
  | 2 => ("UmbrellaFlight$Reader", "nameSorts", "LUmbrellaFlight$Row;", true)
  | 3 => ("UmbrellaFlight$Reader", "nameNumbers", "LUmbrellaFlight$Row;", true)
  | 4 => ("UmbrellaFlight$Reader", "named", "I", false)
  | 5 => ("UmbrellaFlight$Reader", "into", "LUmbrellaFlight$Flight;", false)
  | 6 => ("UmbrellaFlight$Reader", "reason", "I", false)
  | _ => ("UmbrellaFlight$Reader", "spot", "I", false)
def tyX5 : Nat → FieldType := fun k => match k with
  | 0 => .object "UmbrellaFlight$Tokens"
  | 1 => .array .long
  | 2 => .object "UmbrellaFlight$Row"
  | 3 => .object "UmbrellaFlight$Row"
  | 4 => .int
  | 5 => .object "UmbrellaFlight$Flight"
  | 6 => .int
  | _ => .int
abbrev wsX50 : List Cond := u_ws RX5 TX5 8
theorem nmX5 : ∀ a, a < 8 → ∀ b, b < 8 → a ≠ b → (TX5 a).2.1 ≠ (TX5 b).2.1 := by decide +kernel
theorem tyX5_ok : ∀ k, k < 8 → parseFieldDescriptor (TX5 k).2.2.1 = some (tyX5 k) := by decide +kernel
abbrev cX5_init : ByteArray := prog_7_method_1_code
def yX5_init : MethodName := ⟨RX5, "<init>", "(LUmbrellaFlight$Row;LUmbrellaFlight$Flight;)V"⟩
abbrev cX5_reads : ByteArray := prog_7_method_2_code
def yX5_reads : MethodName := ⟨RX5, "reads", "(ILUmbrellaFlight$Flight;)Z"⟩
abbrev cX5_blame : ByteArray := prog_7_method_3_code
def yX5_blame : MethodName := ⟨RX5, "blame", "(I)Z"⟩
abbrev cX5_noneFor : ByteArray := prog_7_method_4_code
def yX5_noneFor : MethodName := ⟨RX5, "noneFor", "(I)I"⟩
abbrev cX5_readLine : ByteArray := prog_7_method_5_code
def yX5_readLine : MethodName := ⟨RX5, "readLine", "()Z"⟩
abbrev cX5_mostLines : ByteArray := prog_7_method_6_code
def yX5_mostLines : MethodName := ⟨RX5, "mostLines", "(I)I"⟩
abbrev cX5_readFlight : ByteArray := prog_7_method_7_code
def yX5_readFlight : MethodName := ⟨RX5, "readFlight", "()Z"⟩
abbrev cX5_readStop : ByteArray := prog_7_method_8_code
def yX5_readStop : MethodName := ⟨RX5, "readStop", "(I)Z"⟩
abbrev cX5_readWay : ByteArray := prog_7_method_9_code
def yX5_readWay : MethodName := ⟨RX5, "readWay", "()Z"⟩
abbrev cX5_readUmbrella : ByteArray := prog_7_method_10_code
def yX5_readUmbrella : MethodName := ⟨RX5, "readUmbrella", "(I)Z"⟩
abbrev cX5_kindAtHand : ByteArray := prog_7_method_11_code
def yX5_kindAtHand : MethodName := ⟨RX5, "kindAtHand", "()I"⟩
abbrev cX5_readFlies : ByteArray := prog_7_method_12_code
def yX5_readFlies : MethodName := ⟨RX5, "readFlies", "()Z"⟩
abbrev cX5_readRoute : ByteArray := prog_7_method_13_code
def yX5_readRoute : MethodName := ⟨RX5, "readRoute", "(I)I"⟩
abbrev cX5_readRing : ByteArray := prog_7_method_14_code
def yX5_readRing : MethodName := ⟨RX5, "readRing", "(I)Z"⟩
abbrev cX5_readBack : ByteArray := prog_7_method_15_code
def yX5_readBack : MethodName := ⟨RX5, "readBack", "()Z"⟩
abbrev cX5_readOwner : ByteArray := prog_7_method_16_code
def yX5_readOwner : MethodName := ⟨RX5, "readOwner", "(I)Z"⟩
abbrev cX5_readOut : ByteArray := prog_7_method_17_code
def yX5_readOut : MethodName := ⟨RX5, "readOut", "()Z"⟩
abbrev cX5_readRain : ByteArray := prog_7_method_18_code
def yX5_readRain : MethodName := ⟨RX5, "readRain", "()Z"⟩
abbrev cX5_readWind : ByteArray := prog_7_method_19_code
def yX5_readWind : MethodName := ⟨RX5, "readWind", "(I)Z"⟩
abbrev cX5_readWord : ByteArray := prog_7_method_20_code
def yX5_readWord : MethodName := ⟨RX5, "readWord", "(Ljava/lang/String;)Z"⟩
abbrev cX5_readWhole : ByteArray := prog_7_method_21_code
def yX5_readWhole : MethodName := ⟨RX5, "readWhole", "(II)I"⟩
abbrev cX5_readHall : ByteArray := prog_7_method_22_code
def yX5_readHall : MethodName := ⟨RX5, "readHall", "()I"⟩
abbrev cX5_readNewName : ByteArray := prog_7_method_23_code
def yX5_readNewName : MethodName := ⟨RX5, "readNewName", "(II)Z"⟩
abbrev cX5_toldName : ByteArray := prog_7_method_24_code
def yX5_toldName : MethodName := ⟨RX5, "toldName", "(I)I"⟩
abbrev cX5_addName : ByteArray := prog_7_method_25_code
def yX5_addName : MethodName := ⟨RX5, "addName", "(JII)V"⟩
abbrev cX5_findName : ByteArray := prog_7_method_26_code
def yX5_findName : MethodName := ⟨RX5, "findName", "()I"⟩
def RX6 : String := "UmbrellaFlight$Route"
def TX6 : u_T := fun k => match k with
  | _ => ("", "", "", false)
def tyX6 : Nat → FieldType := fun k => match k with
  | _ => .int
abbrev wsX60 : List Cond := u_ws RX6 TX6 0
theorem nmX6 : ∀ a, a < 0 → ∀ b, b < 0 → a ≠ b → (TX6 a).2.1 ≠ (TX6 b).2.1 := by decide +kernel
theorem tyX6_ok : ∀ k, k < 0 → parseFieldDescriptor (TX6 k).2.2.1 = some (tyX6 k) := by decide +kernel
abbrev cX6_stopAt : ByteArray := prog_8_method_2_code
def yX6_stopAt : MethodName := ⟨RX6, "stopAt", "(II)I"⟩
abbrev cX6_with : ByteArray := prog_8_method_3_code
def yX6_with : MethodName := ⟨RX6, "with", "(III)I"⟩
abbrev cX6_ways : ByteArray := prog_8_method_4_code
def yX6_ways : MethodName := ⟨RX6, "ways", "(I)I"⟩
def RX7 : String := "UmbrellaFlight$Row"
def TX7 : u_T := fun k => match k with
  | _ => ("UmbrellaFlight$Row", "cells", "[I", true)
def tyX7 : Nat → FieldType := fun k => match k with
  | _ => .array .int
abbrev wsX70 : List Cond := u_ws RX7 TX7 1
theorem nmX7 : ∀ a, a < 1 → ∀ b, b < 1 → a ≠ b → (TX7 a).2.1 ≠ (TX7 b).2.1 := by decide +kernel
theorem tyX7_ok : ∀ k, k < 1 → parseFieldDescriptor (TX7 k).2.2.1 = some (tyX7 k) := by decide +kernel
abbrev cX7_init : ByteArray := prog_9_method_1_code
def yX7_init : MethodName := ⟨RX7, "<init>", "(I)V"⟩
abbrev cX7_look : ByteArray := prog_9_method_2_code
def yX7_look : MethodName := ⟨RX7, "look", "(I)I"⟩
abbrev cX7_put : ByteArray := prog_9_method_3_code
def yX7_put : MethodName := ⟨RX7, "put", "(II)V"⟩
abbrev cX7_add : ByteArray := prog_9_method_4_code
def yX7_add : MethodName := ⟨RX7, "add", "(II)V"⟩
abbrev cX7_fill : ByteArray := prog_9_method_5_code
def yX7_fill : MethodName := ⟨RX7, "fill", "(I)V"⟩
abbrev cX7_copy : ByteArray := prog_9_method_6_code
def yX7_copy : MethodName := ⟨RX7, "copy", "(ILUmbrellaFlight$Row;II)V"⟩
def RX8 : String := "UmbrellaFlight$Tokens"
def TX8 : u_T := fun k => match k with
  | 0 => ("UmbrellaFlight$Tokens", "bytes", "LUmbrellaFlight$Row;", true)
  | 1 => ("UmbrellaFlight$Tokens", "end", "I", false)
  | 2 => ("UmbrellaFlight$Tokens", "next", "I", false)
  | 3 => ("UmbrellaFlight$Tokens", "place", "I", false)
  | 4 => ("UmbrellaFlight$Tokens", "sort", "I", false)
  | 5 => ("UmbrellaFlight$Tokens", "word", "J", false)
  | _ => ("UmbrellaFlight$Tokens", "whole", "I", false)
def tyX8 : Nat → FieldType := fun k => match k with
  | 0 => .object "UmbrellaFlight$Row"
  | 1 => .int
  | 2 => .int
  | 3 => .int
  | 4 => .int
  | 5 => .long
  | _ => .int
abbrev wsX80 : List Cond := u_ws RX8 TX8 7
theorem nmX8 : ∀ a, a < 7 → ∀ b, b < 7 → a ≠ b → (TX8 a).2.1 ≠ (TX8 b).2.1 := by decide +kernel
theorem tyX8_ok : ∀ k, k < 7 → parseFieldDescriptor (TX8 k).2.2.1 = some (tyX8 k) := by decide +kernel
abbrev cX8_init : ByteArray := prog_10_method_1_code
def yX8_init : MethodName := ⟨RX8, "<init>", "(LUmbrellaFlight$Row;)V"⟩
abbrev cX8_begin : ByteArray := prog_10_method_2_code
def yX8_begin : MethodName := ⟨RX8, "begin", "(I)V"⟩
abbrev cX8_step : ByteArray := prog_10_method_3_code
def yX8_step : MethodName := ⟨RX8, "step", "()V"⟩
abbrev cX8_is : ByteArray := prog_10_method_4_code
def yX8_is : MethodName := ⟨RX8, "is", "(Ljava/lang/String;)Z"⟩
abbrev cX8_packed : ByteArray := prog_10_method_5_code
def yX8_packed : MethodName := ⟨RX8, "packed", "(Ljava/lang/String;)J"⟩
abbrev cX8_readLetters : ByteArray := prog_10_method_6_code
def yX8_readLetters : MethodName := ⟨RX8, "readLetters", "()V"⟩
abbrev cX8_readDigits : ByteArray := prog_10_method_7_code
def yX8_readDigits : MethodName := ⟨RX8, "readDigits", "()V"⟩
def RX9 : String := "UmbrellaFlight$WaysOut"
def TX9 : u_T := fun k => match k with
  | 0 => ("UmbrellaFlight$WaysOut", "routes", "LUmbrellaFlight$Row;", true)
  | _ => ("UmbrellaFlight$WaysOut", "found", "LUmbrellaFlight$Row;", true)
def tyX9 : Nat → FieldType := fun k => match k with
  | 0 => .object "UmbrellaFlight$Row"
  | _ => .object "UmbrellaFlight$Row"
abbrev wsX90 : List Cond := u_ws RX9 TX9 2
theorem nmX9 : ∀ a, a < 2 → ∀ b, b < 2 → a ≠ b → (TX9 a).2.1 ≠ (TX9 b).2.1 := by decide +kernel
theorem tyX9_ok : ∀ k, k < 2 → parseFieldDescriptor (TX9 k).2.2.1 = some (tyX9 k) := by decide +kernel
abbrev cX9_init : ByteArray := prog_11_method_1_code
def yX9_init : MethodName := ⟨RX9, "<init>", "()V"⟩
abbrev cX9_find : ByteArray := prog_11_method_2_code
def yX9_find : MethodName := ⟨RX9, "find", "(LUmbrellaFlight$Flight;)V"⟩
abbrev cX9_foundFor : ByteArray := prog_11_method_3_code
def yX9_foundFor : MethodName := ⟨RX9, "foundFor", "(I)I"⟩
abbrev cX9_routeOf : ByteArray := prog_11_method_4_code
def yX9_routeOf : MethodName := ⟨RX9, "routeOf", "(II)I"⟩
abbrev cX9_goOn : ByteArray := prog_11_method_5_code
def yX9_goOn : MethodName := ⟨RX9, "goOn", "(LUmbrellaFlight$Flight;LUmbrellaFlight$WaysOut;IIIII)V"⟩
abbrev cX9_add : ByteArray := prog_11_method_6_code
def yX9_add : MethodName := ⟨RX9, "add", "(II)V"⟩
abbrev cX9_lotOf : ByteArray := prog_11_method_7_code
def yX9_lotOf : MethodName := ⟨RX9, "lotOf", "(LUmbrellaFlight$Flight;II)J"⟩
def RX10 : String := "UmbrellaFlight$Year"
def TX10 : u_T := fun k => match k with
  | 0 => ("UmbrellaFlight$Year", "places", "LUmbrellaFlight$Row;", true)
  | 1 => ("UmbrellaFlight$Year", "strengths", "LUmbrellaFlight$Row;", true)
  | 2 => ("UmbrellaFlight$Year", "flocks", "LUmbrellaFlight$Row;", true)
  | 3 => ("UmbrellaFlight$Year", "fallen", "LUmbrellaFlight$Row;", true)
  | 4 => ("UmbrellaFlight$Year", "spots", "LUmbrellaFlight$Row;", true)
  | 5 => ("UmbrellaFlight$Year", "aims", "LUmbrellaFlight$Row;", true)
  | 6 => ("UmbrellaFlight$Year", "left", "LUmbrellaFlight$Row;", true)
  | 7 => ("UmbrellaFlight$Year", "told", "LUmbrellaFlight$Flight;", false)
  | 8 => ("UmbrellaFlight$Year", "plan", "LUmbrellaFlight$Plan;", false)
  | _ => ("UmbrellaFlight$Year", "seed", "I", false)
def tyX10 : Nat → FieldType := fun k => match k with
  | 0 => .object "UmbrellaFlight$Row"
  | 1 => .object "UmbrellaFlight$Row"
  | 2 => .object "UmbrellaFlight$Row"
  | 3 => .object "UmbrellaFlight$Row"
  | 4 => .object "UmbrellaFlight$Row"
  | 5 => .object "UmbrellaFlight$Row"
  | 6 => .object "UmbrellaFlight$Row"
  | 7 => .object "UmbrellaFlight$Flight"
  | 8 => .object "UmbrellaFlight$Plan"
  | _ => .int
abbrev wsX100 : List Cond := u_ws RX10 TX10 10
theorem nmX10 : ∀ a, a < 10 → ∀ b, b < 10 → a ≠ b → (TX10 a).2.1 ≠ (TX10 b).2.1 := by decide +kernel
theorem tyX10_ok : ∀ k, k < 10 → parseFieldDescriptor (TX10 k).2.2.1 = some (tyX10 k) := by decide +kernel
abbrev cX10_init : ByteArray := prog_12_method_1_code
def yX10_init : MethodName := ⟨RX10, "<init>", "(LUmbrellaFlight$Flight;LUmbrellaFlight$Plan;)V"⟩
abbrev cX10_cell : ByteArray := prog_12_method_2_code
def yX10_cell : MethodName := ⟨RX10, "cell", "(II)I"⟩
abbrev cX10_pass : ByteArray := prog_12_method_3_code
def yX10_pass : MethodName := ⟨RX10, "pass", "(LUmbrellaFlight$Flight;LUmbrellaFlight$Plan;I)V"⟩
abbrev cX10_arrivals : ByteArray := prog_12_method_4_code
def yX10_arrivals : MethodName := ⟨RX10, "arrivals", "()I"⟩
abbrev cX10_passDay : ByteArray := prog_12_method_5_code
def yX10_passDay : MethodName := ⟨RX10, "passDay", "(I)V"⟩
abbrev cX10_aimOf : ByteArray := prog_12_method_6_code
def yX10_aimOf : MethodName := ⟨RX10, "aimOf", "(II)I"⟩
abbrev cX10_flockOf : ByteArray := prog_12_method_7_code
def yX10_flockOf : MethodName := ⟨RX10, "flockOf", "(II)I"⟩
abbrev cX10_move : ByteArray := prog_12_method_8_code
def yX10_move : MethodName := ⟨RX10, "move", "(II)V"⟩
abbrev cX10_costOf : ByteArray := prog_12_method_9_code
def yX10_costOf : MethodName := ⟨RX10, "costOf", "(III)I"⟩
abbrev cX10_isLost : ByteArray := prog_12_method_10_code
def yX10_isLost : MethodName := ⟨RX10, "isLost", "(I)Z"⟩
def RX11 : String := "UmbrellaFlight"
def TX11 : u_T := fun k => match k with
  | 0 => ("UmbrellaFlight", "told", "LUmbrellaFlight$Flight;", false)
  | 1 => ("UmbrellaFlight", "spareFlight", "LUmbrellaFlight$Flight;", false)
  | 2 => ("UmbrellaFlight", "tape", "LUmbrellaFlight$Row;", true)
  | 3 => ("UmbrellaFlight", "reader", "LUmbrellaFlight$Reader;", true)
  | 4 => ("UmbrellaFlight", "now", "LUmbrellaFlight$Plan;", true)
  | 5 => ("UmbrellaFlight", "trialPlan", "LUmbrellaFlight$Plan;", true)
  | 6 => ("UmbrellaFlight", "acts", "LUmbrellaFlight$Acts;", true)
  | 7 => ("UmbrellaFlight", "year", "LUmbrellaFlight$Year;", true)
  | 8 => ("UmbrellaFlight", "trialYear", "LUmbrellaFlight$Year;", true)
  | 9 => ("UmbrellaFlight", "out", "LUmbrellaFlight$WaysOut;", true)
  | 10 => ("UmbrellaFlight", "fitting", "LUmbrellaFlight$Fits;", true)
  | 11 => ("UmbrellaFlight", "halls", "LUmbrellaFlight$Halls;", true)
  | 12 => ("UmbrellaFlight", "taped", "I", false)
  | 13 => ("UmbrellaFlight", "refusal", "I", false)
  | 14 => ("UmbrellaFlight", "latestFault", "I", false)
  | _ => ("UmbrellaFlight", "faultPlace", "I", false)
def tyX11 : Nat → FieldType := fun k => match k with
  | 0 => .object "UmbrellaFlight$Flight"
  | 1 => .object "UmbrellaFlight$Flight"
  | 2 => .object "UmbrellaFlight$Row"
  | 3 => .object "UmbrellaFlight$Reader"
  | 4 => .object "UmbrellaFlight$Plan"
  | 5 => .object "UmbrellaFlight$Plan"
  | 6 => .object "UmbrellaFlight$Acts"
  | 7 => .object "UmbrellaFlight$Year"
  | 8 => .object "UmbrellaFlight$Year"
  | 9 => .object "UmbrellaFlight$WaysOut"
  | 10 => .object "UmbrellaFlight$Fits"
  | 11 => .object "UmbrellaFlight$Halls"
  | 12 => .int
  | 13 => .int
  | 14 => .int
  | _ => .int
abbrev wsX110 : List Cond := u_ws RX11 TX11 16
theorem nmX11 : ∀ a, a < 16 → ∀ b, b < 16 → a ≠ b → (TX11 a).2.1 ≠ (TX11 b).2.1 := by decide +kernel
theorem tyX11_ok : ∀ k, k < 16 → parseFieldDescriptor (TX11 k).2.2.1 = some (tyX11 k) := by decide +kernel
abbrev cX11_init : ByteArray := prog_1_method_1_code
def yX11_init : MethodName := ⟨RX11, "<init>", "()V"⟩
abbrev cX11_feed : ByteArray := prog_1_method_2_code
def yX11_feed : MethodName := ⟨RX11, "feed", "(IIIII)I"⟩
abbrev cX11_flight : ByteArray := prog_1_method_3_code
def yX11_flight : MethodName := ⟨RX11, "flight", "(I)I"⟩
abbrev cX11_fault : ByteArray := prog_1_method_4_code
def yX11_fault : MethodName := ⟨RX11, "fault", "()I"⟩
abbrev cX11_where : ByteArray := prog_1_method_5_code
def yX11_where : MethodName := ⟨RX11, "where", "()I"⟩
abbrev cX11_stop : ByteArray := prog_1_method_6_code
def yX11_stop : MethodName := ⟨RX11, "stop", "(I)I"⟩
abbrev cX11_way : ByteArray := prog_1_method_7_code
def yX11_way : MethodName := ⟨RX11, "way", "(III)I"⟩
abbrev cX11_umbrella : ByteArray := prog_1_method_8_code
def yX11_umbrella : MethodName := ⟨RX11, "umbrella", "(II)I"⟩
abbrev cX11_flies : ByteArray := prog_1_method_9_code
def yX11_flies : MethodName := ⟨RX11, "flies", "(II)I"⟩
abbrev cX11_at : ByteArray := prog_1_method_10_code
def yX11_at : MethodName := ⟨RX11, "at", "(II)I"⟩
abbrev cX11_strength : ByteArray := prog_1_method_11_code
def yX11_strength : MethodName := ⟨RX11, "strength", "(II)I"⟩
abbrev cX11_flock : ByteArray := prog_1_method_12_code
def yX11_flock : MethodName := ⟨RX11, "flock", "(II)I"⟩
abbrev cX11_falls : ByteArray := prog_1_method_13_code
def yX11_falls : MethodName := ⟨RX11, "falls", "(I)I"⟩
abbrev cX11_arrived : ByteArray := prog_1_method_14_code
def yX11_arrived : MethodName := ⟨RX11, "arrived", "()I"⟩
abbrev cX11_many : ByteArray := prog_1_method_15_code
def yX11_many : MethodName := ⟨RX11, "many", "(II)I"⟩
abbrev cX11_wedge : ByteArray := prog_1_method_16_code
def yX11_wedge : MethodName := ⟨RX11, "wedge", "()I"⟩
abbrev cX11_strongest : ByteArray := prog_1_method_17_code
def yX11_strongest : MethodName := ⟨RX11, "strongest", "()I"⟩
abbrev cX11_judge : ByteArray := prog_1_method_18_code
def yX11_judge : MethodName := ⟨RX11, "judge", "()I"⟩
abbrev cX11_waysOut : ByteArray := prog_1_method_19_code
def yX11_waysOut : MethodName := ⟨RX11, "waysOut", "(I)I"⟩
abbrev cX11_wayOut : ByteArray := prog_1_method_20_code
def yX11_wayOut : MethodName := ⟨RX11, "wayOut", "(III)I"⟩
abbrev cX11_chance : ByteArray := prog_1_method_21_code
def yX11_chance : MethodName := ⟨RX11, "chance", "(IIZ)J"⟩
abbrev cX11_bestWay : ByteArray := prog_1_method_22_code
def yX11_bestWay : MethodName := ⟨RX11, "bestWay", "(I)I"⟩
abbrev cX11_bestDay : ByteArray := prog_1_method_23_code
def yX11_bestDay : MethodName := ⟨RX11, "bestDay", "(I)I"⟩
abbrev cX11_bestMany : ByteArray := prog_1_method_24_code
def yX11_bestMany : MethodName := ⟨RX11, "bestMany", "(I)I"⟩
abbrev cX11_fits : ByteArray := prog_1_method_25_code
def yX11_fits : MethodName := ⟨RX11, "fits", "(I)I"⟩
abbrev cX11_could : ByteArray := prog_1_method_26_code
def yX11_could : MethodName := ⟨RX11, "could", "(I)I"⟩
abbrev cX11_surely : ByteArray := prog_1_method_27_code
def yX11_surely : MethodName := ⟨RX11, "surely", "(I)I"⟩
abbrev cX11_likeliest : ByteArray := prog_1_method_28_code
def yX11_likeliest : MethodName := ⟨RX11, "likeliest", "(I)I"⟩
abbrev cX11_count : ByteArray := prog_1_method_29_code
def yX11_count : MethodName := ⟨RX11, "count", "(I)I"⟩
abbrev cX11_countMost : ByteArray := prog_1_method_30_code
def yX11_countMost : MethodName := ⟨RX11, "countMost", "(I)I"⟩
abbrev cX11_wet : ByteArray := prog_1_method_31_code
def yX11_wet : MethodName := ⟨RX11, "wet", "(I)I"⟩
abbrev cX11_wetDays : ByteArray := prog_1_method_32_code
def yX11_wetDays : MethodName := ⟨RX11, "wetDays", "(I)I"⟩
abbrev cX11_pins : ByteArray := prog_1_method_33_code
def yX11_pins : MethodName := ⟨RX11, "pins", "(I)I"⟩
abbrev cX11_spare : ByteArray := prog_1_method_34_code
def yX11_spare : MethodName := ⟨RX11, "spare", "(I)I"⟩
abbrev cX11_handings : ByteArray := prog_1_method_35_code
def yX11_handings : MethodName := ⟨RX11, "handings", "()I"⟩
abbrev cX11_mean : ByteArray := prog_1_method_36_code
def yX11_mean : MethodName := ⟨RX11, "mean", "(Z)J"⟩
abbrev cX11_go : ByteArray := prog_1_method_37_code
def yX11_go : MethodName := ⟨RX11, "go", "(IZ)I"⟩
abbrev cX11_herd : ByteArray := prog_1_method_38_code
def yX11_herd : MethodName := ⟨RX11, "herd", "(III)I"⟩
abbrev cX11_mostTaken : ByteArray := prog_1_method_39_code
def yX11_mostTaken : MethodName := ⟨RX11, "mostTaken", "(II)I"⟩
abbrev cX11_yearBy : ByteArray := prog_1_method_40_code
def yX11_yearBy : MethodName := ⟨RX11, "yearBy", "(I)I"⟩
abbrev cX11_seasons : ByteArray := prog_1_method_41_code
def yX11_seasons : MethodName := ⟨RX11, "seasons", "(II)I"⟩
abbrev cX11_keep : ByteArray := prog_1_method_42_code
def yX11_keep : MethodName := ⟨RX11, "keep", "(IZ)Z"⟩
abbrev cX11_send : ByteArray := prog_1_method_43_code
def yX11_send : MethodName := ⟨RX11, "send", "(III)Z"⟩
abbrev cX11_mend : ByteArray := prog_1_method_44_code
def yX11_mend : MethodName := ⟨RX11, "mend", "(I)I"⟩
abbrev cX11_undo : ByteArray := prog_1_method_45_code
def yX11_undo : MethodName := ⟨RX11, "undo", "()Z"⟩
abbrev cX11_mark : ByteArray := prog_1_method_46_code
def yX11_mark : MethodName := ⟨RX11, "mark", "()I"⟩
abbrev cX11_back : ByteArray := prog_1_method_47_code
def yX11_back : MethodName := ⟨RX11, "back", "(I)Z"⟩
abbrev cX11_led : ByteArray := prog_1_method_48_code
def yX11_led : MethodName := ⟨RX11, "led", "(I)I"⟩
abbrev cX11_size : ByteArray := prog_1_method_49_code
def yX11_size : MethodName := ⟨RX11, "size", "(I)I"⟩
abbrev cX11_trouble : ByteArray := prog_1_method_50_code
def yX11_trouble : MethodName := ⟨RX11, "trouble", "()I"⟩
abbrev cX11_refused : ByteArray := prog_1_method_51_code
def yX11_refused : MethodName := ⟨RX11, "refused", "(I)I"⟩
abbrev cX11_answered : ByteArray := prog_1_method_52_code
def yX11_answered : MethodName := ⟨RX11, "answered", "(I)I"⟩
abbrev cX11_isRefused : ByteArray := prog_1_method_53_code
def yX11_isRefused : MethodName := ⟨RX11, "isRefused", "(I)Z"⟩
abbrev cX11_isDone : ByteArray := prog_1_method_54_code
def yX11_isDone : MethodName := ⟨RX11, "isDone", "()Z"⟩
abbrev cX11_hasFlight : ByteArray := prog_1_method_55_code
def yX11_hasFlight : MethodName := ⟨RX11, "hasFlight", "()Z"⟩
abbrev cX11_isStop : ByteArray := prog_1_method_56_code
def yX11_isStop : MethodName := ⟨RX11, "isStop", "(I)Z"⟩
abbrev cX11_isHall : ByteArray := prog_1_method_57_code
def yX11_isHall : MethodName := ⟨RX11, "isHall", "(I)Z"⟩
abbrev cX11_isUmbrella : ByteArray := prog_1_method_58_code
def yX11_isUmbrella : MethodName := ⟨RX11, "isUmbrella", "(I)Z"⟩
abbrev cX11_isDay : ByteArray := prog_1_method_59_code
def yX11_isDay : MethodName := ⟨RX11, "isDay", "(I)Z"⟩
abbrev cX11_isWayOut : ByteArray := prog_1_method_60_code
def yX11_isWayOut : MethodName := ⟨RX11, "isWayOut", "(II)Z"⟩
abbrev cX11_noUmbrellaOrDay : ByteArray := prog_1_method_61_code
def yX11_noUmbrellaOrDay : MethodName := ⟨RX11, "noUmbrellaOrDay", "(II)I"⟩
abbrev cX11_noFlier : ByteArray := prog_1_method_62_code
def yX11_noFlier : MethodName := ⟨RX11, "noFlier", "(I)I"⟩
abbrev cX11_noFit : ByteArray := prog_1_method_63_code
def yX11_noFit : MethodName := ⟨RX11, "noFit", "(I)I"⟩
abbrev cX11_tapeNumber : ByteArray := prog_1_method_64_code
def yX11_tapeNumber : MethodName := ⟨RX11, "tapeNumber", "(I)V"⟩
abbrev cX11_settle : ByteArray := prog_1_method_65_code
def yX11_settle : MethodName := ⟨RX11, "settle", "()V"⟩
abbrev cX11_arrivingBy : ByteArray := prog_1_method_66_code
def yX11_arrivingBy : MethodName := ⟨RX11, "arrivingBy", "(II)I"⟩
abbrev cX11_firstBestDay : ByteArray := prog_1_method_67_code
def yX11_firstBestDay : MethodName := ⟨RX11, "firstBestDay", "(I)I"⟩
abbrev cX11_herdBehind : ByteArray := prog_1_method_68_code
def yX11_herdBehind : MethodName := ⟨RX11, "herdBehind", "(III)I"⟩
abbrev cX11_worthFrom : ByteArray := prog_1_method_69_code
def yX11_worthFrom : MethodName := ⟨RX11, "worthFrom", "(I)J"⟩
abbrev cX11_partsFrom : ByteArray := prog_1_method_70_code
def yX11_partsFrom : MethodName := ⟨RX11, "partsFrom", "(I)J"⟩
abbrev cX11_lowest : ByteArray := prog_1_method_71_code
def yX11_lowest : MethodName := ⟨RX11, "lowest", "(JJZ)J"⟩
def RX12 : String := "UmbrellaFlightModel$Flight"
def TX12 : u_T := fun k => match k with
  | 0 => ("UmbrellaFlightModel$Flight", "days", "I", false)
  | 1 => ("UmbrellaFlightModel$Flight", "grows", "I", false)
  | 2 => ("UmbrellaFlightModel$Flight", "room", "I", false)
  | 3 => ("UmbrellaFlightModel$Flight", "stops", "I", false)
  | 4 => ("UmbrellaFlightModel$Flight", "ways", "I", false)
  | 5 => ("UmbrellaFlightModel$Flight", "umbrellas", "I", false)
  | 6 => ("UmbrellaFlightModel$Flight", "rings", "I", false)
  | 7 => ("UmbrellaFlightModel$Flight", "backs", "I", false)
  | 8 => ("UmbrellaFlightModel$Flight", "owners", "I", false)
  | 9 => ("UmbrellaFlightModel$Flight", "outs", "I", false)
  | 10 => ("UmbrellaFlightModel$Flight", "rain", "I", false)
  | 11 => ("UmbrellaFlightModel$Flight", "rains", "I", false)
  | 12 => ("UmbrellaFlightModel$Flight", "winds", "I", false)
  | 13 => ("UmbrellaFlightModel$Flight", "names", "I", false)
  | 14 => ("UmbrellaFlightModel$Flight", "sort", "[I", true)
  | 15 => ("UmbrellaFlightModel$Flight", "wind", "[I", true)
  | 16 => ("UmbrellaFlightModel$Flight", "loss", "[I", true)
  | 17 => ("UmbrellaFlightModel$Flight", "kind", "[I", true)
  | 18 => ("UmbrellaFlightModel$Flight", "strong", "[I", true)
  | 19 => ("UmbrellaFlightModel$Flight", "home", "[I", true)
  | 20 => ("UmbrellaFlightModel$Flight", "day", "[I", true)
  | 21 => ("UmbrellaFlightModel$Flight", "legs", "[I", true)
  | 22 => ("UmbrellaFlightModel$Flight", "flies", "[I", true)
  | 23 => ("UmbrellaFlightModel$Flight", "back", "[I", true)
  | 24 => ("UmbrellaFlightModel$Flight", "ringOf", "[I", true)
  | 25 => ("UmbrellaFlightModel$Flight", "ringAt", "[I", true)
  | 26 => ("UmbrellaFlightModel$Flight", "ringDay", "[I", true)
  | 27 => ("UmbrellaFlightModel$Flight", "hall", "[I", true)
  | 28 => ("UmbrellaFlightModel$Flight", "outOf", "[I", true)
  | 29 => ("UmbrellaFlightModel$Flight", "outFrom", "[I", true)
  | 30 => ("UmbrellaFlightModel$Flight", "outTo", "[I", true)
  | 31 => ("UmbrellaFlightModel$Flight", "often", "[I", true)
  | 32 => ("UmbrellaFlightModel$Flight", "goodIs", "[I", true)
  | 33 => ("UmbrellaFlightModel$Flight", "badIs", "[I", true)
  | 34 => ("UmbrellaFlightModel$Flight", "name", "[J", true)
  | 35 => ("UmbrellaFlightModel$Flight", "nameSort", "[I", true)
  | _ => ("UmbrellaFlightModel$Flight", "numberOf", "[I", true)
def tyX12 : Nat → FieldType := fun k => match k with
  | 0 => .int
  | 1 => .int
  | 2 => .int
  | 3 => .int
  | 4 => .int
  | 5 => .int
  | 6 => .int
  | 7 => .int
  | 8 => .int
  | 9 => .int
  | 10 => .int
  | 11 => .int
  | 12 => .int
  | 13 => .int
  | 14 => .array .int
  | 15 => .array .int
  | 16 => .array .int
  | 17 => .array .int
  | 18 => .array .int
  | 19 => .array .int
  | 20 => .array .int
  | 21 => .array .int
  | 22 => .array .int
  | 23 => .array .int
  | 24 => .array .int
  | 25 => .array .int
  | 26 => .array .int
  | 27 => .array .int
  | 28 => .array .int
  | 29 => .array .int
  | 30 => .array .int
  | 31 => .array .int
  | 32 => .array .int
  | 33 => .array .int
  | 34 => .array .long
  | 35 => .array .int
  | _ => .array .int
abbrev wsX120 : List Cond := u_ws RX12 TX12 37
theorem nmX12 : ∀ a, a < 37 → ∀ b, b < 37 → a ≠ b → (TX12 a).2.1 ≠ (TX12 b).2.1 := by decide +kernel
theorem tyX12_ok : ∀ k, k < 37 → parseFieldDescriptor (TX12 k).2.2.1 = some (tyX12 k) := by decide +kernel
abbrev cX12_init : ByteArray := prog_15_method_1_code
def yX12_init : MethodName := ⟨RX12, "<init>", "()V"⟩
abbrev cX12_find : ByteArray := prog_15_method_2_code
def yX12_find : MethodName := ⟨RX12, "find", "(J)I"⟩
abbrev cX12_isWay : ByteArray := prog_15_method_3_code
def yX12_isWay : MethodName := ⟨RX12, "isWay", "(II)Z"⟩
abbrev cX12_lost : ByteArray := prog_15_method_4_code
def yX12_lost : MethodName := ⟨RX12, "lost", "(III)I"⟩
abbrev cX12_isOut : ByteArray := prog_15_method_5_code
def yX12_isOut : MethodName := ⟨RX12, "isOut", "(II)Z"⟩
def RX13 : String := "UmbrellaFlightModel"
def TX13 : u_T := fun k => match k with
  | 0 => ("UmbrellaFlightModel", "thrown", "I", false)
  | 1 => ("UmbrellaFlightModel", "trouble", "I", false)
  | 2 => ("UmbrellaFlightModel", "where", "I", false)
  | 3 => ("UmbrellaFlightModel", "flight", "LUmbrellaFlightModel$Flight;", false)
  | 4 => ("UmbrellaFlightModel", "read", "LUmbrellaFlightModel$Flight;", false)
  | 5 => ("UmbrellaFlightModel", "tape", "[B", true)
  | 6 => ("UmbrellaFlightModel", "taped", "I", false)
  | 7 => ("UmbrellaFlightModel", "size", "I", false)
  | 8 => ("UmbrellaFlightModel", "spot", "I", false)
  | 9 => ("UmbrellaFlightModel", "sort", "I", false)
  | 10 => ("UmbrellaFlightModel", "place", "I", false)
  | 11 => ("UmbrellaFlightModel", "sign", "I", false)
  | 12 => ("UmbrellaFlightModel", "number", "I", false)
  | 13 => ("UmbrellaFlightModel", "fault", "I", false)
  | 14 => ("UmbrellaFlightModel", "wrongAt", "I", false)
  | 15 => ("UmbrellaFlightModel", "word", "J", false)
  | 16 => ("UmbrellaFlightModel", "v", "[I", true)
  | 17 => ("UmbrellaFlightModel", "past", "[I", true)
  | 18 => ("UmbrellaFlightModel", "kept", "[I", true)
  | 19 => ("UmbrellaFlightModel", "acts", "I", false)
  | 20 => ("UmbrellaFlightModel", "marks", "I", false)
  | 21 => ("UmbrellaFlightModel", "is", "[I", true)
  | 22 => ("UmbrellaFlightModel", "hasLeft", "[I", true)
  | 23 => ("UmbrellaFlightModel", "isBy", "[I", true)
  | 24 => ("UmbrellaFlightModel", "strongBy", "[I", true)
  | 25 => ("UmbrellaFlightModel", "flockBy", "[I", true)
  | 26 => ("UmbrellaFlightModel", "fallen", "[I", true)
  | 27 => ("UmbrellaFlightModel", "then", "[I", true)
  | 28 => ("UmbrellaFlightModel", "seed", "I", false)
  | 29 => ("UmbrellaFlightModel", "rows", "[I", true)
  | 30 => ("UmbrellaFlightModel", "ends", "[I", true)
  | 31 => ("UmbrellaFlightModel", "stack", "[I", true)
  | 32 => ("UmbrellaFlightModel", "tried", "[I", true)
  | 33 => ("UmbrellaFlightModel", "many", "I", false)
  | 34 => ("UmbrellaFlightModel", "bestDayIs", "I", false)
  | 35 => ("UmbrellaFlightModel", "bestCount", "I", false)
  | 36 => ("UmbrellaFlightModel", "fitting", "I", false)
  | 37 => ("UmbrellaFlightModel", "couldBe", "I", false)
  | 38 => ("UmbrellaFlightModel", "sureBe", "I", false)
  | 39 => ("UmbrellaFlightModel", "likelyAt", "I", false)
  | 40 => ("UmbrellaFlightModel", "seen", "[I", true)
  | 41 => ("UmbrellaFlightModel", "countAt", "I", false)
  | 42 => ("UmbrellaFlightModel", "countLeft", "I", false)
  | 43 => ("UmbrellaFlightModel", "who", "[I", true)
  | _ => ("UmbrellaFlightModel", "order", "[I", true)
def tyX13 : Nat → FieldType := fun k => match k with
  | 0 => .int
  | 1 => .int
  | 2 => .int
  | 3 => .object "UmbrellaFlightModel$Flight"
  | 4 => .object "UmbrellaFlightModel$Flight"
  | 5 => .array .byte
  | 6 => .int
  | 7 => .int
  | 8 => .int
  | 9 => .int
  | 10 => .int
  | 11 => .int
  | 12 => .int
  | 13 => .int
  | 14 => .int
  | 15 => .long
  | 16 => .array .int
  | 17 => .array .int
  | 18 => .array .int
  | 19 => .int
  | 20 => .int
  | 21 => .array .int
  | 22 => .array .int
  | 23 => .array .int
  | 24 => .array .int
  | 25 => .array .int
  | 26 => .array .int
  | 27 => .array .int
  | 28 => .int
  | 29 => .array .int
  | 30 => .array .int
  | 31 => .array .int
  | 32 => .array .int
  | 33 => .int
  | 34 => .int
  | 35 => .int
  | 36 => .int
  | 37 => .int
  | 38 => .int
  | 39 => .int
  | 40 => .array .int
  | 41 => .int
  | 42 => .int
  | 43 => .array .int
  | _ => .array .int
abbrev wsX130 : List Cond := u_ws RX13 TX13 45
theorem nmX13 : ∀ a, a < 45 → ∀ b, b < 45 → a ≠ b → (TX13 a).2.1 ≠ (TX13 b).2.1 := by decide +kernel
theorem tyX13_ok : ∀ k, k < 45 → parseFieldDescriptor (TX13 k).2.2.1 = some (tyX13 k) := by decide +kernel
abbrev cX13_init : ByteArray := prog_14_method_1_code
def yX13_init : MethodName := ⟨RX13, "<init>", "()V"⟩
abbrev cX13_thrown : ByteArray := prog_14_method_2_code
def yX13_thrown : MethodName := ⟨RX13, "thrown", "()I"⟩
abbrev cX13_refused : ByteArray := prog_14_method_3_code
def yX13_refused : MethodName := ⟨RX13, "refused", "(I)I"⟩
abbrev cX13_denied : ByteArray := prog_14_method_4_code
def yX13_denied : MethodName := ⟨RX13, "denied", "(I)Z"⟩
abbrev cX13_good : ByteArray := prog_14_method_5_code
def yX13_good : MethodName := ⟨RX13, "good", "(I)I"⟩
abbrev cX13_granted : ByteArray := prog_14_method_6_code
def yX13_granted : MethodName := ⟨RX13, "granted", "()Z"⟩
abbrev cX13_in : ByteArray := prog_14_method_7_code
def yX13_in : MethodName := ⟨RX13, "in", "(III)Z"⟩
abbrev cX13_bit : ByteArray := prog_14_method_8_code
def yX13_bit : MethodName := ⟨RX13, "bit", "(II)Z"⟩
abbrev cX13_bits : ByteArray := prog_14_method_9_code
def yX13_bits : MethodName := ⟨RX13, "bits", "(I)I"⟩
abbrev cX13_byteAt : ByteArray := prog_14_method_10_code
def yX13_byteAt : MethodName := ⟨RX13, "byteAt", "(I)I"⟩
abbrev cX13_isLetter : ByteArray := prog_14_method_11_code
def yX13_isLetter : MethodName := ⟨RX13, "isLetter", "(I)Z"⟩
abbrev cX13_isDigit : ByteArray := prog_14_method_12_code
def yX13_isDigit : MethodName := ⟨RX13, "isDigit", "(I)Z"⟩
abbrev cX13_wordOf : ByteArray := prog_14_method_13_code
def yX13_wordOf : MethodName := ⟨RX13, "wordOf", "(Ljava/lang/String;)J"⟩
abbrev cX13_goesOn : ByteArray := prog_14_method_14_code
def yX13_goesOn : MethodName := ⟨RX13, "goesOn", "()V"⟩
abbrev cX13_flaw : ByteArray := prog_14_method_15_code
def yX13_flaw : MethodName := ⟨RX13, "flaw", "(I)V"⟩
abbrev cX13_isWord : ByteArray := prog_14_method_16_code
def yX13_isWord : MethodName := ⟨RX13, "isWord", "(Ljava/lang/String;)Z"⟩
abbrev cX13_eatsSign : ByteArray := prog_14_method_17_code
def yX13_eatsSign : MethodName := ⟨RX13, "eatsSign", "(I)Z"⟩
abbrev cX13_needs : ByteArray := prog_14_method_18_code
def yX13_needs : MethodName := ⟨RX13, "needs", "(Ljava/lang/String;)V"⟩
abbrev cX13_bounded : ByteArray := prog_14_method_19_code
def yX13_bounded : MethodName := ⟨RX13, "bounded", "(II)I"⟩
abbrev cX13_readWhole : ByteArray := prog_14_method_20_code
def yX13_readWhole : MethodName := ⟨RX13, "readWhole", "(II)I"⟩
abbrev cX13_readPart : ByteArray := prog_14_method_21_code
def yX13_readPart : MethodName := ⟨RX13, "readPart", "(Ljava/lang/String;II)I"⟩
abbrev cX13_readDay : ByteArray := prog_14_method_22_code
def yX13_readDay : MethodName := ⟨RX13, "readDay", "(I)I"⟩
abbrev cX13_isName : ByteArray := prog_14_method_23_code
def yX13_isName : MethodName := ⟨RX13, "isName", "()Z"⟩
abbrev cX13_begins : ByteArray := prog_14_method_24_code
def yX13_begins : MethodName := ⟨RX13, "begins", "(II)V"⟩
abbrev cX13_readFresh : ByteArray := prog_14_method_25_code
def yX13_readFresh : MethodName := ⟨RX13, "readFresh", "()J"⟩
abbrev cX13_names : ByteArray := prog_14_method_26_code
def yX13_names : MethodName := ⟨RX13, "names", "(JII)V"⟩
abbrev cX13_known : ByteArray := prog_14_method_27_code
def yX13_known : MethodName := ⟨RX13, "known", "(I)I"⟩
abbrev cX13_readKnown : ByteArray := prog_14_method_28_code
def yX13_readKnown : MethodName := ⟨RX13, "readKnown", "(I)I"⟩
abbrev cX13_readHall : ByteArray := prog_14_method_29_code
def yX13_readHall : MethodName := ⟨RX13, "readHall", "()I"⟩
abbrev cX13_readAll : ByteArray := prog_14_method_30_code
def yX13_readAll : MethodName := ⟨RX13, "readAll", "()V"⟩
abbrev cX13_readLine : ByteArray := prog_14_method_31_code
def yX13_readLine : MethodName := ⟨RX13, "readLine", "()V"⟩
abbrev cX13_readFlight : ByteArray := prog_14_method_32_code
def yX13_readFlight : MethodName := ⟨RX13, "readFlight", "()V"⟩
abbrev cX13_readStop : ByteArray := prog_14_method_33_code
def yX13_readStop : MethodName := ⟨RX13, "readStop", "()V"⟩
abbrev cX13_readWay : ByteArray := prog_14_method_34_code
def yX13_readWay : MethodName := ⟨RX13, "readWay", "()V"⟩
abbrev cX13_readUmbrella : ByteArray := prog_14_method_35_code
def yX13_readUmbrella : MethodName := ⟨RX13, "readUmbrella", "()V"⟩
abbrev cX13_readFlies : ByteArray := prog_14_method_36_code
def yX13_readFlies : MethodName := ⟨RX13, "readFlies", "()V"⟩
abbrev cX13_readRing : ByteArray := prog_14_method_37_code
def yX13_readRing : MethodName := ⟨RX13, "readRing", "()V"⟩
abbrev cX13_readBack : ByteArray := prog_14_method_38_code
def yX13_readBack : MethodName := ⟨RX13, "readBack", "()V"⟩
abbrev cX13_readOwner : ByteArray := prog_14_method_39_code
def yX13_readOwner : MethodName := ⟨RX13, "readOwner", "()V"⟩
abbrev cX13_readOut : ByteArray := prog_14_method_40_code
def yX13_readOut : MethodName := ⟨RX13, "readOut", "()V"⟩
abbrev cX13_readRain : ByteArray := prog_14_method_41_code
def yX13_readRain : MethodName := ⟨RX13, "readRain", "()V"⟩
abbrev cX13_readWind : ByteArray := prog_14_method_42_code
def yX13_readWind : MethodName := ⟨RX13, "readWind", "()V"⟩
abbrev cX13_feed : ByteArray := prog_14_method_43_code
def yX13_feed : MethodName := ⟨RX13, "feed", "(IIIII)I"⟩
abbrev cX13_flight : ByteArray := prog_14_method_44_code
def yX13_flight : MethodName := ⟨RX13, "flight", "(I)I"⟩
abbrev cX13_fault : ByteArray := prog_14_method_45_code
def yX13_fault : MethodName := ⟨RX13, "fault", "()I"⟩
abbrev cX13_where : ByteArray := prog_14_method_46_code
def yX13_where : MethodName := ⟨RX13, "where", "()I"⟩
abbrev cX13_isUmbrella : ByteArray := prog_14_method_47_code
def yX13_isUmbrella : MethodName := ⟨RX13, "isUmbrella", "(I)Z"⟩
abbrev cX13_isStop : ByteArray := prog_14_method_48_code
def yX13_isStop : MethodName := ⟨RX13, "isStop", "(I)Z"⟩
abbrev cX13_isDay : ByteArray := prog_14_method_49_code
def yX13_isDay : MethodName := ⟨RX13, "isDay", "(I)Z"⟩
abbrev cX13_isKept : ByteArray := prog_14_method_50_code
def yX13_isKept : MethodName := ⟨RX13, "isKept", "(I)Z"⟩
abbrev cX13_next : ByteArray := prog_14_method_51_code
def yX13_next : MethodName := ⟨RX13, "next", "(II)I"⟩
abbrev cX13_flockOf : ByteArray := prog_14_method_52_code
def yX13_flockOf : MethodName := ⟨RX13, "flockOf", "(II)I"⟩
abbrev cX13_costs : ByteArray := prog_14_method_53_code
def yX13_costs : MethodName := ⟨RX13, "costs", "(III)I"⟩
abbrev cX13_year : ByteArray := prog_14_method_54_code
def yX13_year : MethodName := ⟨RX13, "year", "(Z)V"⟩
abbrev cX13_flown : ByteArray := prog_14_method_55_code
def yX13_flown : MethodName := ⟨RX13, "flown", "(IIZII)I"⟩
abbrev cX13_arrivedNow : ByteArray := prog_14_method_56_code
def yX13_arrivedNow : MethodName := ⟨RX13, "arrivedNow", "()I"⟩
abbrev cX13_refusesDay : ByteArray := prog_14_method_57_code
def yX13_refusesDay : MethodName := ⟨RX13, "refusesDay", "(ZI)I"⟩
abbrev cX13_stop : ByteArray := prog_14_method_58_code
def yX13_stop : MethodName := ⟨RX13, "stop", "(I)I"⟩
abbrev cX13_way : ByteArray := prog_14_method_59_code
def yX13_way : MethodName := ⟨RX13, "way", "(III)I"⟩
abbrev cX13_umbrella : ByteArray := prog_14_method_60_code
def yX13_umbrella : MethodName := ⟨RX13, "umbrella", "(II)I"⟩
abbrev cX13_flies : ByteArray := prog_14_method_61_code
def yX13_flies : MethodName := ⟨RX13, "flies", "(II)I"⟩
abbrev cX13_at : ByteArray := prog_14_method_62_code
def yX13_at : MethodName := ⟨RX13, "at", "(II)I"⟩
abbrev cX13_strength : ByteArray := prog_14_method_63_code
def yX13_strength : MethodName := ⟨RX13, "strength", "(II)I"⟩
abbrev cX13_flock : ByteArray := prog_14_method_64_code
def yX13_flock : MethodName := ⟨RX13, "flock", "(II)I"⟩
abbrev cX13_falls : ByteArray := prog_14_method_65_code
def yX13_falls : MethodName := ⟨RX13, "falls", "(I)I"⟩
abbrev cX13_arrived : ByteArray := prog_14_method_66_code
def yX13_arrived : MethodName := ⟨RX13, "arrived", "()I"⟩
abbrev cX13_many : ByteArray := prog_14_method_67_code
def yX13_many : MethodName := ⟨RX13, "many", "(II)I"⟩
abbrev cX13_wedge : ByteArray := prog_14_method_68_code
def yX13_wedge : MethodName := ⟨RX13, "wedge", "()I"⟩
abbrev cX13_strongest : ByteArray := prog_14_method_69_code
def yX13_strongest : MethodName := ⟨RX13, "strongest", "()I"⟩
abbrev cX13_judge : ByteArray := prog_14_method_70_code
def yX13_judge : MethodName := ⟨RX13, "judge", "()I"⟩
abbrev cX13_isOn : ByteArray := prog_14_method_71_code
def yX13_isOn : MethodName := ⟨RX13, "isOn", "(II)Z"⟩
abbrev cX13_laysWays : ByteArray := prog_14_method_72_code
def yX13_laysWays : MethodName := ⟨RX13, "laysWays", "(I)V"⟩
abbrev cX13_safe : ByteArray := prog_14_method_73_code
def yX13_safe : MethodName := ⟨RX13, "safe", "(II)J"⟩
abbrev cX13_waysOut : ByteArray := prog_14_method_74_code
def yX13_waysOut : MethodName := ⟨RX13, "waysOut", "(I)I"⟩
abbrev cX13_wayOut : ByteArray := prog_14_method_75_code
def yX13_wayOut : MethodName := ⟨RX13, "wayOut", "(III)I"⟩
abbrev cX13_common : ByteArray := prog_14_method_76_code
def yX13_common : MethodName := ⟨RX13, "common", "(JJ)J"⟩
abbrev cX13_fraction : ByteArray := prog_14_method_77_code
def yX13_fraction : MethodName := ⟨RX13, "fraction", "(JJZ)J"⟩
abbrev cX13_chance : ByteArray := prog_14_method_78_code
def yX13_chance : MethodName := ⟨RX13, "chance", "(IIZ)J"⟩
abbrev cX13_bestWay : ByteArray := prog_14_method_79_code
def yX13_bestWay : MethodName := ⟨RX13, "bestWay", "(I)I"⟩
abbrev cX13_refusesBest : ByteArray := prog_14_method_80_code
def yX13_refusesBest : MethodName := ⟨RX13, "refusesBest", "(I)I"⟩
abbrev cX13_bestDays : ByteArray := prog_14_method_81_code
def yX13_bestDays : MethodName := ⟨RX13, "bestDays", "(I)V"⟩
abbrev cX13_bestDay : ByteArray := prog_14_method_82_code
def yX13_bestDay : MethodName := ⟨RX13, "bestDay", "(I)I"⟩
abbrev cX13_bestMany : ByteArray := prog_14_method_83_code
def yX13_bestMany : MethodName := ⟨RX13, "bestMany", "(I)I"⟩
abbrev cX13_along : ByteArray := prog_14_method_84_code
def yX13_along : MethodName := ⟨RX13, "along", "(III)I"⟩
abbrev cX13_fitsSo : ByteArray := prog_14_method_85_code
def yX13_fitsSo : MethodName := ⟨RX13, "fitsSo", "(III)Z"⟩
abbrev cX13_laysFits : ByteArray := prog_14_method_86_code
def yX13_laysFits : MethodName := ⟨RX13, "laysFits", "(I)V"⟩
abbrev cX13_fits : ByteArray := prog_14_method_87_code
def yX13_fits : MethodName := ⟨RX13, "fits", "(I)I"⟩
abbrev cX13_could : ByteArray := prog_14_method_88_code
def yX13_could : MethodName := ⟨RX13, "could", "(I)I"⟩
abbrev cX13_surely : ByteArray := prog_14_method_89_code
def yX13_surely : MethodName := ⟨RX13, "surely", "(I)I"⟩
abbrev cX13_refusesFits : ByteArray := prog_14_method_90_code
def yX13_refusesFits : MethodName := ⟨RX13, "refusesFits", "(I)I"⟩
abbrev cX13_likeliest : ByteArray := prog_14_method_91_code
def yX13_likeliest : MethodName := ⟨RX13, "likeliest", "(I)I"⟩
abbrev cX13_counts : ByteArray := prog_14_method_92_code
def yX13_counts : MethodName := ⟨RX13, "counts", "(I)V"⟩
abbrev cX13_count : ByteArray := prog_14_method_93_code
def yX13_count : MethodName := ⟨RX13, "count", "(I)I"⟩
abbrev cX13_countMost : ByteArray := prog_14_method_94_code
def yX13_countMost : MethodName := ⟨RX13, "countMost", "(I)I"⟩
abbrev cX13_keptIn : ByteArray := prog_14_method_95_code
def yX13_keptIn : MethodName := ⟨RX13, "keptIn", "(I)I"⟩
abbrev cX13_wetOn : ByteArray := prog_14_method_96_code
def yX13_wetOn : MethodName := ⟨RX13, "wetOn", "(I)I"⟩
abbrev cX13_wet : ByteArray := prog_14_method_97_code
def yX13_wet : MethodName := ⟨RX13, "wet", "(I)I"⟩
abbrev cX13_wetDays : ByteArray := prog_14_method_98_code
def yX13_wetDays : MethodName := ⟨RX13, "wetDays", "(I)I"⟩
abbrev cX13_pinsOf : ByteArray := prog_14_method_99_code
def yX13_pinsOf : MethodName := ⟨RX13, "pinsOf", "(I)I"⟩
abbrev cX13_isHall : ByteArray := prog_14_method_100_code
def yX13_isHall : MethodName := ⟨RX13, "isHall", "(I)Z"⟩
abbrev cX13_pins : ByteArray := prog_14_method_101_code
def yX13_pins : MethodName := ⟨RX13, "pins", "(I)I"⟩
abbrev cX13_spare : ByteArray := prog_14_method_102_code
def yX13_spare : MethodName := ⟨RX13, "spare", "(I)I"⟩
abbrev cX13_rounds : ByteArray := prog_14_method_103_code
def yX13_rounds : MethodName := ⟨RX13, "rounds", "(I)I"⟩
abbrev cX13_nextOrder : ByteArray := prog_14_method_104_code
def yX13_nextOrder : MethodName := ⟨RX13, "nextOrder", "(I)Z"⟩
abbrev cX13_swaps : ByteArray := prog_14_method_105_code
def yX13_swaps : MethodName := ⟨RX13, "swaps", "(II)V"⟩
abbrev cX13_handings : ByteArray := prog_14_method_106_code
def yX13_handings : MethodName := ⟨RX13, "handings", "()I"⟩
abbrev cX13_waiting : ByteArray := prog_14_method_107_code
def yX13_waiting : MethodName := ⟨RX13, "waiting", "(I)J"⟩
abbrev cX13_partsFrom : ByteArray := prog_14_method_108_code
def yX13_partsFrom : MethodName := ⟨RX13, "partsFrom", "(I)J"⟩
abbrev cX13_mean : ByteArray := prog_14_method_109_code
def yX13_mean : MethodName := ⟨RX13, "mean", "(Z)J"⟩
abbrev cX13_go : ByteArray := prog_14_method_110_code
def yX13_go : MethodName := ⟨RX13, "go", "(IZ)I"⟩
abbrev cX13_herdOf : ByteArray := prog_14_method_111_code
def yX13_herdOf : MethodName := ⟨RX13, "herdOf", "(III)I"⟩
abbrev cX13_refusesHerd : ByteArray := prog_14_method_112_code
def yX13_refusesHerd : MethodName := ⟨RX13, "refusesHerd", "(III)I"⟩
abbrev cX13_herd : ByteArray := prog_14_method_113_code
def yX13_herd : MethodName := ⟨RX13, "herd", "(III)I"⟩
abbrev cX13_mostTaken : ByteArray := prog_14_method_114_code
def yX13_mostTaken : MethodName := ⟨RX13, "mostTaken", "(II)I"⟩
abbrev cX13_yearBy : ByteArray := prog_14_method_115_code
def yX13_yearBy : MethodName := ⟨RX13, "yearBy", "(I)I"⟩
abbrev cX13_seasons : ByteArray := prog_14_method_116_code
def yX13_seasons : MethodName := ⟨RX13, "seasons", "(II)I"⟩
abbrev cX13_keeps : ByteArray := prog_14_method_117_code
def yX13_keeps : MethodName := ⟨RX13, "keeps", "()V"⟩
abbrev cX13_keep : ByteArray := prog_14_method_118_code
def yX13_keep : MethodName := ⟨RX13, "keep", "(IZ)Z"⟩
abbrev cX13_send : ByteArray := prog_14_method_119_code
def yX13_send : MethodName := ⟨RX13, "send", "(III)Z"⟩
abbrev cX13_mend : ByteArray := prog_14_method_120_code
def yX13_mend : MethodName := ⟨RX13, "mend", "(I)I"⟩
abbrev cX13_undo : ByteArray := prog_14_method_121_code
def yX13_undo : MethodName := ⟨RX13, "undo", "()Z"⟩
abbrev cX13_mark : ByteArray := prog_14_method_122_code
def yX13_mark : MethodName := ⟨RX13, "mark", "()I"⟩
abbrev cX13_back : ByteArray := prog_14_method_123_code
def yX13_back : MethodName := ⟨RX13, "back", "(I)Z"⟩
abbrev cX13_led : ByteArray := prog_14_method_124_code
def yX13_led : MethodName := ⟨RX13, "led", "(I)I"⟩
abbrev cX13_size : ByteArray := prog_14_method_125_code
def yX13_size : MethodName := ⟨RX13, "size", "(I)I"⟩
abbrev cX13_trouble : ByteArray := prog_14_method_126_code
def yX13_trouble : MethodName := ⟨RX13, "trouble", "()I"⟩
def RJx145de : String := "java/io/Serializable"
def TJx145de : u_T := fun k => match k with
  | _ => ("", "", "", false)
def tyJx145de : Nat → FieldType := fun k => match k with
  | _ => .int
abbrev wsJx145de0 : List Cond := u_ws RJx145de TJx145de 0
theorem nmJx145de : ∀ a, a < 0 → ∀ b, b < 0 → a ≠ b → (TJx145de a).2.1 ≠ (TJx145de b).2.1 := by decide +kernel
theorem tyJx145de_ok : ∀ k, k < 0 → parseFieldDescriptor (TJx145de k).2.2.1 = some (tyJx145de k) := by decide +kernel
def RJx9f9b0 : String := "java/lang/CharSequence"
def TJx9f9b0 : u_T := fun k => match k with
  | _ => ("", "", "", false)
def tyJx9f9b0 : Nat → FieldType := fun k => match k with
  | _ => .int
abbrev wsJx9f9b00 : List Cond := u_ws RJx9f9b0 TJx9f9b0 0
theorem nmJx9f9b0 : ∀ a, a < 0 → ∀ b, b < 0 → a ≠ b → (TJx9f9b0 a).2.1 ≠ (TJx9f9b0 b).2.1 := by decide +kernel
theorem tyJx9f9b0_ok : ∀ k, k < 0 → parseFieldDescriptor (TJx9f9b0 k).2.2.1 = some (tyJx9f9b0 k) := by decide +kernel
def RJxb160c : String := "java/lang/Comparable"
def TJxb160c : u_T := fun k => match k with
  | _ => ("", "", "", false)
def tyJxb160c : Nat → FieldType := fun k => match k with
  | _ => .int
abbrev wsJxb160c0 : List Cond := u_ws RJxb160c TJxb160c 0
theorem nmJxb160c : ∀ a, a < 0 → ∀ b, b < 0 → a ≠ b → (TJxb160c a).2.1 ≠ (TJxb160c b).2.1 := by decide +kernel
theorem tyJxb160c_ok : ∀ k, k < 0 → parseFieldDescriptor (TJxb160c k).2.2.1 = some (tyJxb160c k) := by decide +kernel
def RJ6 : String := "java/lang/Integer"
def TJ6 : u_T := fun k => match k with
  | _ => ("", "", "", false)
def tyJ6 : Nat → FieldType := fun k => match k with
  | _ => .int
abbrev wsJ60 : List Cond := u_ws RJ6 TJ6 0
theorem nmJ6 : ∀ a, a < 0 → ∀ b, b < 0 → a ≠ b → (TJ6 a).2.1 ≠ (TJ6 b).2.1 := by decide +kernel
theorem tyJ6_ok : ∀ k, k < 0 → parseFieldDescriptor (TJ6 k).2.2.1 = some (tyJ6 k) := by decide +kernel
abbrev cJ6_bitCount_0f7a4 : ByteArray := prog_20_method_49_code
def yJ6_bitCount_0f7a4 : MethodName := ⟨RJ6, "bitCount", "(I)I"⟩
def RJ9 : String := "java/lang/Math"
def TJ9 : u_T := fun k => match k with
  | _ => ("", "", "", false)
def tyJ9 : Nat → FieldType := fun k => match k with
  | _ => .int
abbrev wsJ90 : List Cond := u_ws RJ9 TJ9 0
theorem nmJ9 : ∀ a, a < 0 → ∀ b, b < 0 → a ≠ b → (TJ9 a).2.1 ≠ (TJ9 b).2.1 := by decide +kernel
theorem tyJ9_ok : ∀ k, k < 0 → parseFieldDescriptor (TJ9 k).2.2.1 = some (tyJ9 k) := by decide +kernel
abbrev cJ9_max_7cf53 : ByteArray := prog_21_method_65_code
def yJ9_max_7cf53 : MethodName := ⟨RJ9, "max", "(II)I"⟩
abbrev cJ9_max_f86c9 : ByteArray := prog_21_method_66_code
def yJ9_max_f86c9 : MethodName := ⟨RJ9, "max", "(JJ)J"⟩
abbrev cJ9_min_7cf53 : ByteArray := prog_21_method_69_code
def yJ9_min_7cf53 : MethodName := ⟨RJ9, "min", "(II)I"⟩
def RJ0 : String := "java/lang/String"
def TJ0 : u_T := fun k => match k with
  | _ => ("", "", "", false)
def tyJ0 : Nat → FieldType := fun k => match k with
  | _ => .int
abbrev wsJ00 : List Cond := u_ws RJ0 TJ0 0
theorem nmJ0 : ∀ a, a < 0 → ∀ b, b < 0 → a ≠ b → (TJ0 a).2.1 ≠ (TJ0 b).2.1 := by decide +kernel
theorem tyJ0_ok : ∀ k, k < 0 → parseFieldDescriptor (TJ0 k).2.2.1 = some (tyJ0 k) := by decide +kernel
abbrev cJ0_length_8abf5 : ByteArray := prog_23_method_54_code
def yJ0_length_8abf5 : MethodName := ⟨RJ0, "length", "()I"⟩
abbrev cJ0_charAt_5068e : ByteArray := prog_23_method_56_code
def yJ0_charAt_5068e : MethodName := ⟨RJ0, "charAt", "(I)C"⟩
abbrev cJ0_coder_7d493 : ByteArray := prog_23_method_152_code
def yJ0_coder_7d493 : MethodName := ⟨RJ0, "coder", "()B"⟩
abbrev cJ0_isLatin1_aae02 : ByteArray := prog_23_method_154_code
def yJ0_isLatin1_aae02 : MethodName := ⟨RJ0, "isLatin1", "()Z"⟩
abbrev cJ0_checkIndex_df160 : ByteArray := prog_23_method_155_code
def yJ0_checkIndex_df160 : MethodName := ⟨RJ0, "checkIndex", "(II)V"⟩
def RJ1 : String := "java/lang/StringLatin1"
def TJ1 : u_T := fun k => match k with
  | _ => ("", "", "", false)
def tyJ1 : Nat → FieldType := fun k => match k with
  | _ => .int
abbrev wsJ10 : List Cond := u_ws RJ1 TJ1 0
theorem nmJ1 : ∀ a, a < 0 → ∀ b, b < 0 → a ≠ b → (TJ1 a).2.1 ≠ (TJ1 b).2.1 := by decide +kernel
theorem tyJ1_ok : ∀ k, k < 0 → parseFieldDescriptor (TJ1 k).2.2.1 = some (tyJ1 k) := by decide +kernel
abbrev cJ1_charAt_3b067 : ByteArray := prog_24_method_2_code
def yJ1_charAt_3b067 : MethodName := ⟨RJ1, "charAt", "([BI)C"⟩
def RJ2 : String := "java/lang/StringUTF16"
def TJ2 : u_T := fun k => match k with
  | _ => ("", "", "", false)
def tyJ2 : Nat → FieldType := fun k => match k with
  | _ => .int
abbrev wsJ20 : List Cond := u_ws RJ2 TJ2 0
theorem nmJ2 : ∀ a, a < 0 → ∀ b, b < 0 → a ≠ b → (TJ2 a).2.1 ≠ (TJ2 b).2.1 := by decide +kernel
theorem tyJ2_ok : ∀ k, k < 0 → parseFieldDescriptor (TJ2 k).2.2.1 = some (tyJ2 k) := by decide +kernel
abbrev cJ2_getChar_3b067 : ByteArray := prog_25_method_5_code
def yJ2_getChar_3b067 : MethodName := ⟨RJ2, "getChar", "([BI)C"⟩
abbrev cJ2_length_9d52b : ByteArray := prog_25_method_6_code
def yJ2_length_9d52b : MethodName := ⟨RJ2, "length", "([B)I"⟩
abbrev cJ2_charAt_3b067 : ByteArray := prog_25_method_83_code
def yJ2_charAt_3b067 : MethodName := ⟨RJ2, "charAt", "([BI)C"⟩
abbrev cJ2_checkIndex_2214a : ByteArray := prog_25_method_91_code
def yJ2_checkIndex_2214a : MethodName := ⟨RJ2, "checkIndex", "(I[B)V"⟩
def RJxfd54e : String := "java/lang/constant/Constable"
def TJxfd54e : u_T := fun k => match k with
  | _ => ("", "", "", false)
def tyJxfd54e : Nat → FieldType := fun k => match k with
  | _ => .int
abbrev wsJxfd54e0 : List Cond := u_ws RJxfd54e TJxfd54e 0
theorem nmJxfd54e : ∀ a, a < 0 → ∀ b, b < 0 → a ≠ b → (TJxfd54e a).2.1 ≠ (TJxfd54e b).2.1 := by decide +kernel
theorem tyJxfd54e_ok : ∀ k, k < 0 → parseFieldDescriptor (TJxfd54e k).2.2.1 = some (tyJxfd54e k) := by decide +kernel
def RJx3cf43 : String := "java/lang/constant/ConstantDesc"
def TJx3cf43 : u_T := fun k => match k with
  | _ => ("", "", "", false)
def tyJx3cf43 : Nat → FieldType := fun k => match k with
  | _ => .int
abbrev wsJx3cf430 : List Cond := u_ws RJx3cf43 TJx3cf43 0
theorem nmJx3cf43 : ∀ a, a < 0 → ∀ b, b < 0 → a ≠ b → (TJx3cf43 a).2.1 ≠ (TJx3cf43 b).2.1 := by decide +kernel
theorem tyJx3cf43_ok : ∀ k, k < 0 → parseFieldDescriptor (TJx3cf43 k).2.2.1 = some (tyJx3cf43 k) := by decide +kernel
def RJ3 : String := "jdk/internal/util/Preconditions"
def TJ3 : u_T := fun k => match k with
  | _ => ("", "", "", false)
def tyJ3 : Nat → FieldType := fun k => match k with
  | _ => .int
abbrev wsJ30 : List Cond := u_ws RJ3 TJ3 0
theorem nmJ3 : ∀ a, a < 0 → ∀ b, b < 0 → a ≠ b → (TJ3 a).2.1 ≠ (TJ3 b).2.1 := by decide +kernel
theorem tyJ3_ok : ∀ k, k < 0 → parseFieldDescriptor (TJ3 k).2.2.1 = some (tyJ3 k) := by decide +kernel
abbrev cJ3_checkIndex_8e157 : ByteArray := prog_30_method_11_code
def yJ3_checkIndex_8e157 : MethodName := ⟨RJ3, "checkIndex", "(IILjava/util/function/BiFunction;)I"⟩
def RL : String := "UmbrellaFlightLaw"
abbrev cL_led : ByteArray := method_3_code
def yL_led : MethodName := ⟨RL, "led", "(LUmbrellaFlight;I[J)I"⟩
abbrev cL_law : ByteArray := code
def yL_law : MethodName := ⟨RL, "law", "([I)Z"⟩
abbrev vwCl : List vw_C := [(RX0, TX0, 5), (RX1, TX1, 9), (RX2, TX2, 19), (RX3, TX3, 1), (RX4, TX4, 1), (RX5, TX5, 8), (RX7, TX7, 1), (RX8, TX8, 7), (RX9, TX9, 2), (RX10, TX10, 10), (RX11, TX11, 16), (RX12, TX12, 37), (RX13, TX13, 45)]
