section
-- ===== PART A: goes FIRST, ahead of the names: the tables' words, and 'selects' of the private methods out of them =====
/-- a private method of a class that the tables say can be made, by its rows of tables_1 -/
def lw_okq (q : MethodName × Nat) : Prop := (q.1.cls ≠ "java/lang/invoke/MethodHandle" ∧ q.1.cls ≠ "java/lang/invoke/VarHandle") ∧ Cond.instantiable q.1.cls q.2 ∈ tables_1 ∧ Cond.privateMethod q.1 ∈ tables_1 ∧ Cond.instanceMethod q.1 ∈ tables_1
theorem lw_p0 : lw_okq (⟨"java/lang/Throwable", "fillInStackTrace", "(I)Ljava/lang/Throwable;"⟩, 6) := ⟨⟨by decide +kernel, by decide +kernel⟩, List.mem_of_getElem? (i := 258) (by decide +kernel), List.mem_of_getElem? (i := 256) (by decide +kernel), List.mem_of_getElem? (i := 257) (by decide +kernel)⟩
theorem lw_p1 : lw_okq (⟨"PlanetoidDesk", "findOrbits", "(I)V"⟩, 6) := ⟨⟨by decide +kernel, by decide +kernel⟩, List.mem_of_getElem? (i := 19) (by decide +kernel), List.mem_of_getElem? (i := 427) (by decide +kernel), List.mem_of_getElem? (i := 428) (by decide +kernel)⟩
theorem lw_p2 : lw_okq (⟨"PlanetoidDesk", "keepFitting", "(I)V"⟩, 6) := ⟨⟨by decide +kernel, by decide +kernel⟩, List.mem_of_getElem? (i := 19) (by decide +kernel), List.mem_of_getElem? (i := 436) (by decide +kernel), List.mem_of_getElem? (i := 437) (by decide +kernel)⟩
theorem lw_p3 : lw_okq (⟨"PlanetoidDesk", "gatherLooks", "(I)V"⟩, 6) := ⟨⟨by decide +kernel, by decide +kernel⟩, List.mem_of_getElem? (i := 19) (by decide +kernel), List.mem_of_getElem? (i := 440) (by decide +kernel), List.mem_of_getElem? (i := 441) (by decide +kernel)⟩
theorem lw_p4 : lw_okq (⟨"PlanetoidDesk$Orbits", "behind", "(II)I"⟩, 3) := ⟨⟨by decide +kernel, by decide +kernel⟩, List.mem_of_getElem? (i := 133) (by decide +kernel), List.mem_of_getElem? (i := 477) (by decide +kernel), List.mem_of_getElem? (i := 478) (by decide +kernel)⟩
theorem lw_p5 : lw_okq (⟨"PlanetoidDesk", "canTake", "(II)Z"⟩, 6) := ⟨⟨by decide +kernel, by decide +kernel⟩, List.mem_of_getElem? (i := 19) (by decide +kernel), List.mem_of_getElem? (i := 491) (by decide +kernel), List.mem_of_getElem? (i := 492) (by decide +kernel)⟩
theorem lw_p6 : lw_okq (⟨"PlanetoidDesk", "isSeenOn", "(II)Z"⟩, 6) := ⟨⟨by decide +kernel, by decide +kernel⟩, List.mem_of_getElem? (i := 19) (by decide +kernel), List.mem_of_getElem? (i := 503) (by decide +kernel), List.mem_of_getElem? (i := 504) (by decide +kernel)⟩
theorem lw_p7 : lw_okq (⟨"PlanetoidDesk", "countLooks", "(I)I"⟩, 6) := ⟨⟨by decide +kernel, by decide +kernel⟩, List.mem_of_getElem? (i := 19) (by decide +kernel), List.mem_of_getElem? (i := 513) (by decide +kernel), List.mem_of_getElem? (i := 514) (by decide +kernel)⟩
theorem lw_p8 : lw_okq (⟨"PlanetoidDesk", "canJoin", "(II)Z"⟩, 6) := ⟨⟨by decide +kernel, by decide +kernel⟩, List.mem_of_getElem? (i := 19) (by decide +kernel), List.mem_of_getElem? (i := 536) (by decide +kernel), List.mem_of_getElem? (i := 537) (by decide +kernel)⟩
theorem lw_p9 : lw_okq (⟨"PlanetoidDesk", "shareAPlate", "(II)Z"⟩, 6) := ⟨⟨by decide +kernel, by decide +kernel⟩, List.mem_of_getElem? (i := 19) (by decide +kernel), List.mem_of_getElem? (i := 544) (by decide +kernel), List.mem_of_getElem? (i := 545) (by decide +kernel)⟩
theorem lw_p10 : lw_okq (⟨"PlanetoidDesk", "isStronger", "(II)Z"⟩, 6) := ⟨⟨by decide +kernel, by decide +kernel⟩, List.mem_of_getElem? (i := 19) (by decide +kernel), List.mem_of_getElem? (i := 553) (by decide +kernel), List.mem_of_getElem? (i := 554) (by decide +kernel)⟩
theorem lw_p11 : lw_okq (⟨"PlanetoidDesk", "firstLookOf", "(I)I"⟩, 6) := ⟨⟨by decide +kernel, by decide +kernel⟩, List.mem_of_getElem? (i := 19) (by decide +kernel), List.mem_of_getElem? (i := 557) (by decide +kernel), List.mem_of_getElem? (i := 558) (by decide +kernel)⟩
theorem lw_p12 : lw_okq (⟨"PlanetoidDesk", "canGetNumber", "(I)Z"⟩, 6) := ⟨⟨by decide +kernel, by decide +kernel⟩, List.mem_of_getElem? (i := 19) (by decide +kernel), List.mem_of_getElem? (i := 588) (by decide +kernel), List.mem_of_getElem? (i := 589) (by decide +kernel)⟩
theorem lw_p13 : lw_okq (⟨"PlanetoidDesk", "isSeenLongEnough", "(I)Z"⟩, 6) := ⟨⟨by decide +kernel, by decide +kernel⟩, List.mem_of_getElem? (i := 19) (by decide +kernel), List.mem_of_getElem? (i := 592) (by decide +kernel), List.mem_of_getElem? (i := 593) (by decide +kernel)⟩
theorem lw_p14 : lw_okq (⟨"PlanetoidDesk$Orbits", "tallyPlaces", "(I)V"⟩, 3) := ⟨⟨by decide +kernel, by decide +kernel⟩, List.mem_of_getElem? (i := 133) (by decide +kernel), List.mem_of_getElem? (i := 603) (by decide +kernel), List.mem_of_getElem? (i := 604) (by decide +kernel)⟩
theorem lw_p15 : lw_okq (⟨"PlanetoidDesk$Orbits", "courseWith", "(II)I"⟩, 3) := ⟨⟨by decide +kernel, by decide +kernel⟩, List.mem_of_getElem? (i := 133) (by decide +kernel), List.mem_of_getElem? (i := 607) (by decide +kernel), List.mem_of_getElem? (i := 608) (by decide +kernel)⟩
def lw_privs_1 : List (MethodName × Nat) := [(⟨"java/lang/Throwable", "fillInStackTrace", "(I)Ljava/lang/Throwable;"⟩, 6), (⟨"PlanetoidDesk", "findOrbits", "(I)V"⟩, 6), (⟨"PlanetoidDesk", "keepFitting", "(I)V"⟩, 6), (⟨"PlanetoidDesk", "gatherLooks", "(I)V"⟩, 6), (⟨"PlanetoidDesk$Orbits", "behind", "(II)I"⟩, 3), (⟨"PlanetoidDesk", "canTake", "(II)Z"⟩, 6), (⟨"PlanetoidDesk", "isSeenOn", "(II)Z"⟩, 6), (⟨"PlanetoidDesk", "countLooks", "(I)I"⟩, 6), (⟨"PlanetoidDesk", "canJoin", "(II)Z"⟩, 6), (⟨"PlanetoidDesk", "shareAPlate", "(II)Z"⟩, 6), (⟨"PlanetoidDesk", "isStronger", "(II)Z"⟩, 6), (⟨"PlanetoidDesk", "firstLookOf", "(I)I"⟩, 6), (⟨"PlanetoidDesk", "canGetNumber", "(I)Z"⟩, 6), (⟨"PlanetoidDesk", "isSeenLongEnough", "(I)Z"⟩, 6), (⟨"PlanetoidDesk$Orbits", "tallyPlaces", "(I)V"⟩, 3), (⟨"PlanetoidDesk$Orbits", "courseWith", "(II)I"⟩, 3)]
theorem lw_r1 : ∀ q ∈ lw_privs_1, lw_okq q := List.forall_mem_cons.mpr ⟨lw_p0, List.forall_mem_cons.mpr ⟨lw_p1, List.forall_mem_cons.mpr ⟨lw_p2, List.forall_mem_cons.mpr ⟨lw_p3, List.forall_mem_cons.mpr ⟨lw_p4, List.forall_mem_cons.mpr ⟨lw_p5, List.forall_mem_cons.mpr ⟨lw_p6, List.forall_mem_cons.mpr ⟨lw_p7, List.forall_mem_cons.mpr ⟨lw_p8, List.forall_mem_cons.mpr ⟨lw_p9, List.forall_mem_cons.mpr ⟨lw_p10, List.forall_mem_cons.mpr ⟨lw_p11, List.forall_mem_cons.mpr ⟨lw_p12, List.forall_mem_cons.mpr ⟨lw_p13, List.forall_mem_cons.mpr ⟨lw_p14, List.forall_mem_cons.mpr ⟨lw_p15, fun _ h => absurd h List.not_mem_nil⟩⟩⟩⟩⟩⟩⟩⟩⟩⟩⟩⟩⟩⟩⟩⟩
theorem lw_p16 : lw_okq (⟨"PlanetoidDesk", "countPlacesLeft", "(I)I"⟩, 6) := ⟨⟨by decide +kernel, by decide +kernel⟩, List.mem_of_getElem? (i := 19) (by decide +kernel), List.mem_of_getElem? (i := 648) (by decide +kernel), List.mem_of_getElem? (i := 649) (by decide +kernel)⟩
theorem lw_p17 : lw_okq (⟨"PlanetoidDesk", "leastAOf", "(II)I"⟩, 6) := ⟨⟨by decide +kernel, by decide +kernel⟩, List.mem_of_getElem? (i := 19) (by decide +kernel), List.mem_of_getElem? (i := 652) (by decide +kernel), List.mem_of_getElem? (i := 653) (by decide +kernel)⟩
theorem lw_p18 : lw_okq (⟨"PlanetoidDesk$Paths", "makeGroups", "(II)V"⟩, 5) := ⟨⟨by decide +kernel, by decide +kernel⟩, List.mem_of_getElem? (i := 151) (by decide +kernel), List.mem_of_getElem? (i := 717) (by decide +kernel), List.mem_of_getElem? (i := 718) (by decide +kernel)⟩
theorem lw_p19 : lw_okq (⟨"PlanetoidDesk$Paths", "countCourse", "(LPlanetoidDesk$Orbits;IIII)V"⟩, 5) := ⟨⟨by decide +kernel, by decide +kernel⟩, List.mem_of_getElem? (i := 151) (by decide +kernel), List.mem_of_getElem? (i := 732) (by decide +kernel), List.mem_of_getElem? (i := 733) (by decide +kernel)⟩
theorem lw_p20 : lw_okq (⟨"PlanetoidDesk$Kinship", "spreadLowest", "(LPlanetoidDesk$Bodies;I)V"⟩, 1) := ⟨⟨by decide +kernel, by decide +kernel⟩, List.mem_of_getElem? (i := 177) (by decide +kernel), List.mem_of_getElem? (i := 760) (by decide +kernel), List.mem_of_getElem? (i := 761) (by decide +kernel)⟩
theorem lw_p21 : lw_okq (⟨"PlanetoidDesk", "faultOf", "(I)I"⟩, 6) := ⟨⟨by decide +kernel, by decide +kernel⟩, List.mem_of_getElem? (i := 19) (by decide +kernel), List.mem_of_getElem? (i := 800) (by decide +kernel), List.mem_of_getElem? (i := 801) (by decide +kernel)⟩
theorem lw_p22 : lw_okq (⟨"PlanetoidDesk", "lightRange", "(II)I"⟩, 6) := ⟨⟨by decide +kernel, by decide +kernel⟩, List.mem_of_getElem? (i := 19) (by decide +kernel), List.mem_of_getElem? (i := 804) (by decide +kernel), List.mem_of_getElem? (i := 805) (by decide +kernel)⟩
theorem lw_p23 : lw_okq (⟨"PlanetoidDeskModel", "can", "(I)Z"⟩, 32) := ⟨⟨by decide +kernel, by decide +kernel⟩, List.mem_of_getElem? (i := 808) (by decide +kernel), List.mem_of_getElem? (i := 923) (by decide +kernel), List.mem_of_getElem? (i := 924) (by decide +kernel)⟩
theorem lw_p24 : lw_okq (⟨"PlanetoidDeskModel", "isDot", "(I)Z"⟩, 32) := ⟨⟨by decide +kernel, by decide +kernel⟩, List.mem_of_getElem? (i := 808) (by decide +kernel), List.mem_of_getElem? (i := 946) (by decide +kernel), List.mem_of_getElem? (i := 947) (by decide +kernel)⟩
theorem lw_p25 : lw_okq (⟨"PlanetoidDeskModel", "nightOf", "(I)I"⟩, 32) := ⟨⟨by decide +kernel, by decide +kernel⟩, List.mem_of_getElem? (i := 808) (by decide +kernel), List.mem_of_getElem? (i := 950) (by decide +kernel), List.mem_of_getElem? (i := 951) (by decide +kernel)⟩
theorem lw_p26 : lw_okq (⟨"PlanetoidDeskModel", "trueOf", "(I)I"⟩, 32) := ⟨⟨by decide +kernel, by decide +kernel⟩, List.mem_of_getElem? (i := 808) (by decide +kernel), List.mem_of_getElem? (i := 954) (by decide +kernel), List.mem_of_getElem? (i := 955) (by decide +kernel)⟩
theorem lw_p27 : lw_okq (⟨"PlanetoidDeskModel", "isBody", "(I)Z"⟩, 32) := ⟨⟨by decide +kernel, by decide +kernel⟩, List.mem_of_getElem? (i := 808) (by decide +kernel), List.mem_of_getElem? (i := 969) (by decide +kernel), List.mem_of_getElem? (i := 970) (by decide +kernel)⟩
theorem lw_p28 : lw_okq (⟨"PlanetoidDeskModel", "canLink", "(II)Z"⟩, 32) := ⟨⟨by decide +kernel, by decide +kernel⟩, List.mem_of_getElem? (i := 808) (by decide +kernel), List.mem_of_getElem? (i := 973) (by decide +kernel), List.mem_of_getElem? (i := 974) (by decide +kernel)⟩
theorem lw_p29 : lw_okq (⟨"PlanetoidDeskModel", "lays", "(I)V"⟩, 32) := ⟨⟨by decide +kernel, by decide +kernel⟩, List.mem_of_getElem? (i := 808) (by decide +kernel), List.mem_of_getElem? (i := 977) (by decide +kernel), List.mem_of_getElem? (i := 978) (by decide +kernel)⟩
theorem lw_p30 : lw_okq (⟨"PlanetoidDeskModel", "laysAlso", "(I)V"⟩, 32) := ⟨⟨by decide +kernel, by decide +kernel⟩, List.mem_of_getElem? (i := 808) (by decide +kernel), List.mem_of_getElem? (i := 981) (by decide +kernel), List.mem_of_getElem? (i := 982) (by decide +kernel)⟩
theorem lw_p31 : lw_okq (⟨"PlanetoidDeskModel", "isBelow", "(II)Z"⟩, 32) := ⟨⟨by decide +kernel, by decide +kernel⟩, List.mem_of_getElem? (i := 808) (by decide +kernel), List.mem_of_getElem? (i := 985) (by decide +kernel), List.mem_of_getElem? (i := 986) (by decide +kernel)⟩
def lw_privs_2 : List (MethodName × Nat) := [(⟨"PlanetoidDesk", "countPlacesLeft", "(I)I"⟩, 6), (⟨"PlanetoidDesk", "leastAOf", "(II)I"⟩, 6), (⟨"PlanetoidDesk$Paths", "makeGroups", "(II)V"⟩, 5), (⟨"PlanetoidDesk$Paths", "countCourse", "(LPlanetoidDesk$Orbits;IIII)V"⟩, 5), (⟨"PlanetoidDesk$Kinship", "spreadLowest", "(LPlanetoidDesk$Bodies;I)V"⟩, 1), (⟨"PlanetoidDesk", "faultOf", "(I)I"⟩, 6), (⟨"PlanetoidDesk", "lightRange", "(II)I"⟩, 6), (⟨"PlanetoidDeskModel", "can", "(I)Z"⟩, 32), (⟨"PlanetoidDeskModel", "isDot", "(I)Z"⟩, 32), (⟨"PlanetoidDeskModel", "nightOf", "(I)I"⟩, 32), (⟨"PlanetoidDeskModel", "trueOf", "(I)I"⟩, 32), (⟨"PlanetoidDeskModel", "isBody", "(I)Z"⟩, 32), (⟨"PlanetoidDeskModel", "canLink", "(II)Z"⟩, 32), (⟨"PlanetoidDeskModel", "lays", "(I)V"⟩, 32), (⟨"PlanetoidDeskModel", "laysAlso", "(I)V"⟩, 32), (⟨"PlanetoidDeskModel", "isBelow", "(II)Z"⟩, 32)]
theorem lw_r2 : ∀ q ∈ lw_privs_2, lw_okq q := List.forall_mem_cons.mpr ⟨lw_p16, List.forall_mem_cons.mpr ⟨lw_p17, List.forall_mem_cons.mpr ⟨lw_p18, List.forall_mem_cons.mpr ⟨lw_p19, List.forall_mem_cons.mpr ⟨lw_p20, List.forall_mem_cons.mpr ⟨lw_p21, List.forall_mem_cons.mpr ⟨lw_p22, List.forall_mem_cons.mpr ⟨lw_p23, List.forall_mem_cons.mpr ⟨lw_p24, List.forall_mem_cons.mpr ⟨lw_p25, List.forall_mem_cons.mpr ⟨lw_p26, List.forall_mem_cons.mpr ⟨lw_p27, List.forall_mem_cons.mpr ⟨lw_p28, List.forall_mem_cons.mpr ⟨lw_p29, List.forall_mem_cons.mpr ⟨lw_p30, List.forall_mem_cons.mpr ⟨lw_p31, fun _ h => absurd h List.not_mem_nil⟩⟩⟩⟩⟩⟩⟩⟩⟩⟩⟩⟩⟩⟩⟩⟩
theorem lw_p32 : lw_okq (⟨"PlanetoidDeskModel", "isOnPlate", "(II)Z"⟩, 32) := ⟨⟨by decide +kernel, by decide +kernel⟩, List.mem_of_getElem? (i := 808) (by decide +kernel), List.mem_of_getElem? (i := 989) (by decide +kernel), List.mem_of_getElem? (i := 990) (by decide +kernel)⟩
theorem lw_p33 : lw_okq (⟨"PlanetoidDeskModel", "hasOrbit", "()Z"⟩, 32) := ⟨⟨by decide +kernel, by decide +kernel⟩, List.mem_of_getElem? (i := 808) (by decide +kernel), List.mem_of_getElem? (i := 993) (by decide +kernel), List.mem_of_getElem? (i := 994) (by decide +kernel)⟩
theorem lw_p34 : lw_okq (⟨"PlanetoidDeskModel", "finds", "()V"⟩, 32) := ⟨⟨by decide +kernel, by decide +kernel⟩, List.mem_of_getElem? (i := 808) (by decide +kernel), List.mem_of_getElem? (i := 997) (by decide +kernel), List.mem_of_getElem? (i := 998) (by decide +kernel)⟩
theorem lw_p35 : lw_okq (⟨"PlanetoidDeskModel", "errorOf", "(I)I"⟩, 32) := ⟨⟨by decide +kernel, by decide +kernel⟩, List.mem_of_getElem? (i := 808) (by decide +kernel), List.mem_of_getElem? (i := 1001) (by decide +kernel), List.mem_of_getElem? (i := 1002) (by decide +kernel)⟩
theorem lw_p36 : lw_okq (⟨"PlanetoidDeskModel", "fits", "(III)Z"⟩, 32) := ⟨⟨by decide +kernel, by decide +kernel⟩, List.mem_of_getElem? (i := 808) (by decide +kernel), List.mem_of_getElem? (i := 1008) (by decide +kernel), List.mem_of_getElem? (i := 1009) (by decide +kernel)⟩
theorem lw_p37 : lw_okq (⟨"PlanetoidDeskModel", "ownOf", "(I)I"⟩, 32) := ⟨⟨by decide +kernel, by decide +kernel⟩, List.mem_of_getElem? (i := 808) (by decide +kernel), List.mem_of_getElem? (i := 1022) (by decide +kernel), List.mem_of_getElem? (i := 1023) (by decide +kernel)⟩
theorem lw_p38 : lw_okq (⟨"PlanetoidDeskModel", "canJoin", "(II)Z"⟩, 32) := ⟨⟨by decide +kernel, by decide +kernel⟩, List.mem_of_getElem? (i := 808) (by decide +kernel), List.mem_of_getElem? (i := 1030) (by decide +kernel), List.mem_of_getElem? (i := 1031) (by decide +kernel)⟩
theorem lw_p39 : lw_okq (⟨"PlanetoidDeskModel", "stronger", "(II)I"⟩, 32) := ⟨⟨by decide +kernel, by decide +kernel⟩, List.mem_of_getElem? (i := 808) (by decide +kernel), List.mem_of_getElem? (i := 1034) (by decide +kernel), List.mem_of_getElem? (i := 1035) (by decide +kernel)⟩
theorem lw_p40 : lw_okq (⟨"PlanetoidDeskModel", "firstOf", "(I)I"⟩, 32) := ⟨⟨by decide +kernel, by decide +kernel⟩, List.mem_of_getElem? (i := 808) (by decide +kernel), List.mem_of_getElem? (i := 1038) (by decide +kernel), List.mem_of_getElem? (i := 1039) (by decide +kernel)⟩
theorem lw_p41 : lw_okq (⟨"PlanetoidDeskModel", "latest", "(I)I"⟩, 32) := ⟨⟨by decide +kernel, by decide +kernel⟩, List.mem_of_getElem? (i := 808) (by decide +kernel), List.mem_of_getElem? (i := 1046) (by decide +kernel), List.mem_of_getElem? (i := 1047) (by decide +kernel)⟩
theorem lw_p42 : lw_okq (⟨"PlanetoidDeskModel", "canNumber", "(I)Z"⟩, 32) := ⟨⟨by decide +kernel, by decide +kernel⟩, List.mem_of_getElem? (i := 808) (by decide +kernel), List.mem_of_getElem? (i := 1054) (by decide +kernel), List.mem_of_getElem? (i := 1055) (by decide +kernel)⟩
theorem lw_p43 : lw_okq (⟨"PlanetoidDeskModel", "looksOf", "(I)I"⟩, 32) := ⟨⟨by decide +kernel, by decide +kernel⟩, List.mem_of_getElem? (i := 808) (by decide +kernel), List.mem_of_getElem? (i := 1062) (by decide +kernel), List.mem_of_getElem? (i := 1063) (by decide +kernel)⟩
theorem lw_p44 : lw_okq (⟨"PlanetoidDeskModel", "joinedTo", "(I)I"⟩, 32) := ⟨⟨by decide +kernel, by decide +kernel⟩, List.mem_of_getElem? (i := 808) (by decide +kernel), List.mem_of_getElem? (i := 1066) (by decide +kernel), List.mem_of_getElem? (i := 1067) (by decide +kernel)⟩
theorem lw_p45 : lw_okq (⟨"PlanetoidDeskModel", "orbitsOf", "(I)I"⟩, 32) := ⟨⟨by decide +kernel, by decide +kernel⟩, List.mem_of_getElem? (i := 808) (by decide +kernel), List.mem_of_getElem? (i := 1074) (by decide +kernel), List.mem_of_getElem? (i := 1075) (by decide +kernel)⟩
theorem lw_p46 : lw_okq (⟨"PlanetoidDeskModel", "keyAt", "(I)I"⟩, 32) := ⟨⟨by decide +kernel, by decide +kernel⟩, List.mem_of_getElem? (i := 808) (by decide +kernel), List.mem_of_getElem? (i := 1086) (by decide +kernel), List.mem_of_getElem? (i := 1087) (by decide +kernel)⟩
theorem lw_p47 : lw_okq (⟨"PlanetoidDeskModel", "spreadOf", "(II)I"⟩, 32) := ⟨⟨by decide +kernel, by decide +kernel⟩, List.mem_of_getElem? (i := 808) (by decide +kernel), List.mem_of_getElem? (i := 1095) (by decide +kernel), List.mem_of_getElem? (i := 1096) (by decide +kernel)⟩
def lw_privs_3 : List (MethodName × Nat) := [(⟨"PlanetoidDeskModel", "isOnPlate", "(II)Z"⟩, 32), (⟨"PlanetoidDeskModel", "hasOrbit", "()Z"⟩, 32), (⟨"PlanetoidDeskModel", "finds", "()V"⟩, 32), (⟨"PlanetoidDeskModel", "errorOf", "(I)I"⟩, 32), (⟨"PlanetoidDeskModel", "fits", "(III)Z"⟩, 32), (⟨"PlanetoidDeskModel", "ownOf", "(I)I"⟩, 32), (⟨"PlanetoidDeskModel", "canJoin", "(II)Z"⟩, 32), (⟨"PlanetoidDeskModel", "stronger", "(II)I"⟩, 32), (⟨"PlanetoidDeskModel", "firstOf", "(I)I"⟩, 32), (⟨"PlanetoidDeskModel", "latest", "(I)I"⟩, 32), (⟨"PlanetoidDeskModel", "canNumber", "(I)Z"⟩, 32), (⟨"PlanetoidDeskModel", "looksOf", "(I)I"⟩, 32), (⟨"PlanetoidDeskModel", "joinedTo", "(I)I"⟩, 32), (⟨"PlanetoidDeskModel", "orbitsOf", "(I)I"⟩, 32), (⟨"PlanetoidDeskModel", "keyAt", "(I)I"⟩, 32), (⟨"PlanetoidDeskModel", "spreadOf", "(II)I"⟩, 32)]
theorem lw_r3 : ∀ q ∈ lw_privs_3, lw_okq q := List.forall_mem_cons.mpr ⟨lw_p32, List.forall_mem_cons.mpr ⟨lw_p33, List.forall_mem_cons.mpr ⟨lw_p34, List.forall_mem_cons.mpr ⟨lw_p35, List.forall_mem_cons.mpr ⟨lw_p36, List.forall_mem_cons.mpr ⟨lw_p37, List.forall_mem_cons.mpr ⟨lw_p38, List.forall_mem_cons.mpr ⟨lw_p39, List.forall_mem_cons.mpr ⟨lw_p40, List.forall_mem_cons.mpr ⟨lw_p41, List.forall_mem_cons.mpr ⟨lw_p42, List.forall_mem_cons.mpr ⟨lw_p43, List.forall_mem_cons.mpr ⟨lw_p44, List.forall_mem_cons.mpr ⟨lw_p45, List.forall_mem_cons.mpr ⟨lw_p46, List.forall_mem_cons.mpr ⟨lw_p47, fun _ h => absurd h List.not_mem_nil⟩⟩⟩⟩⟩⟩⟩⟩⟩⟩⟩⟩⟩⟩⟩⟩
theorem lw_p48 : lw_okq (⟨"PlanetoidDeskModel", "spreads", "(II)V"⟩, 32) := ⟨⟨by decide +kernel, by decide +kernel⟩, List.mem_of_getElem? (i := 808) (by decide +kernel), List.mem_of_getElem? (i := 1099) (by decide +kernel), List.mem_of_getElem? (i := 1100) (by decide +kernel)⟩
theorem lw_p49 : lw_okq (⟨"PlanetoidDeskModel", "placeBy", "(II)I"⟩, 32) := ⟨⟨by decide +kernel, by decide +kernel⟩, List.mem_of_getElem? (i := 808) (by decide +kernel), List.mem_of_getElem? (i := 1103) (by decide +kernel), List.mem_of_getElem? (i := 1104) (by decide +kernel)⟩
theorem lw_p50 : lw_okq (⟨"PlanetoidDeskModel", "placeAt", "(III)I"⟩, 32) := ⟨⟨by decide +kernel, by decide +kernel⟩, List.mem_of_getElem? (i := 808) (by decide +kernel), List.mem_of_getElem? (i := 1111) (by decide +kernel), List.mem_of_getElem? (i := 1112) (by decide +kernel)⟩
theorem lw_p51 : lw_okq (⟨"PlanetoidDeskModel", "candidatesOf", "(I)I"⟩, 32) := ⟨⟨by decide +kernel, by decide +kernel⟩, List.mem_of_getElem? (i := 808) (by decide +kernel), List.mem_of_getElem? (i := 1119) (by decide +kernel), List.mem_of_getElem? (i := 1120) (by decide +kernel)⟩
theorem lw_p52 : lw_okq (⟨"PlanetoidDeskModel", "chanceOf", "(IIIZ)I"⟩, 32) := ⟨⟨by decide +kernel, by decide +kernel⟩, List.mem_of_getElem? (i := 808) (by decide +kernel), List.mem_of_getElem? (i := 1127) (by decide +kernel), List.mem_of_getElem? (i := 1128) (by decide +kernel)⟩
theorem lw_p53 : lw_okq (⟨"PlanetoidDeskModel", "paths", "(II)I"⟩, 32) := ⟨⟨by decide +kernel, by decide +kernel⟩, List.mem_of_getElem? (i := 808) (by decide +kernel), List.mem_of_getElem? (i := 1131) (by decide +kernel), List.mem_of_getElem? (i := 1132) (by decide +kernel)⟩
theorem lw_p54 : lw_okq (⟨"PlanetoidDeskModel", "isNear", "(III)Z"⟩, 32) := ⟨⟨by decide +kernel, by decide +kernel⟩, List.mem_of_getElem? (i := 808) (by decide +kernel), List.mem_of_getElem? (i := 1135) (by decide +kernel), List.mem_of_getElem? (i := 1136) (by decide +kernel)⟩
theorem lw_p55 : lw_okq (⟨"PlanetoidDeskModel", "reaches", "(I)V"⟩, 32) := ⟨⟨by decide +kernel, by decide +kernel⟩, List.mem_of_getElem? (i := 808) (by decide +kernel), List.mem_of_getElem? (i := 1146) (by decide +kernel), List.mem_of_getElem? (i := 1147) (by decide +kernel)⟩
theorem lw_p56 : lw_okq (⟨"PlanetoidDeskModel", "areAkin", "(III)Z"⟩, 32) := ⟨⟨by decide +kernel, by decide +kernel⟩, List.mem_of_getElem? (i := 808) (by decide +kernel), List.mem_of_getElem? (i := 1150) (by decide +kernel), List.mem_of_getElem? (i := 1151) (by decide +kernel)⟩
theorem lw_p57 : lw_okq (⟨"PlanetoidDeskModel", "familyOf", "(II)I"⟩, 32) := ⟨⟨by decide +kernel, by decide +kernel⟩, List.mem_of_getElem? (i := 808) (by decide +kernel), List.mem_of_getElem? (i := 1158) (by decide +kernel), List.mem_of_getElem? (i := 1159) (by decide +kernel)⟩
theorem lw_p58 : lw_okq (⟨"PlanetoidDeskModel", "turnOf", "(IZ)I"⟩, 32) := ⟨⟨by decide +kernel, by decide +kernel⟩, List.mem_of_getElem? (i := 808) (by decide +kernel), List.mem_of_getElem? (i := 1166) (by decide +kernel), List.mem_of_getElem? (i := 1167) (by decide +kernel)⟩
theorem lw_p59 : lw_okq (⟨"PlanetoidDeskModel", "fault", "(I)I"⟩, 32) := ⟨⟨by decide +kernel, by decide +kernel⟩, List.mem_of_getElem? (i := 808) (by decide +kernel), List.mem_of_getElem? (i := 1170) (by decide +kernel), List.mem_of_getElem? (i := 1171) (by decide +kernel)⟩
def lw_privs_4 : List (MethodName × Nat) := [(⟨"PlanetoidDeskModel", "spreads", "(II)V"⟩, 32), (⟨"PlanetoidDeskModel", "placeBy", "(II)I"⟩, 32), (⟨"PlanetoidDeskModel", "placeAt", "(III)I"⟩, 32), (⟨"PlanetoidDeskModel", "candidatesOf", "(I)I"⟩, 32), (⟨"PlanetoidDeskModel", "chanceOf", "(IIIZ)I"⟩, 32), (⟨"PlanetoidDeskModel", "paths", "(II)I"⟩, 32), (⟨"PlanetoidDeskModel", "isNear", "(III)Z"⟩, 32), (⟨"PlanetoidDeskModel", "reaches", "(I)V"⟩, 32), (⟨"PlanetoidDeskModel", "areAkin", "(III)Z"⟩, 32), (⟨"PlanetoidDeskModel", "familyOf", "(II)I"⟩, 32), (⟨"PlanetoidDeskModel", "turnOf", "(IZ)I"⟩, 32), (⟨"PlanetoidDeskModel", "fault", "(I)I"⟩, 32)]
theorem lw_r4 : ∀ q ∈ lw_privs_4, lw_okq q := List.forall_mem_cons.mpr ⟨lw_p48, List.forall_mem_cons.mpr ⟨lw_p49, List.forall_mem_cons.mpr ⟨lw_p50, List.forall_mem_cons.mpr ⟨lw_p51, List.forall_mem_cons.mpr ⟨lw_p52, List.forall_mem_cons.mpr ⟨lw_p53, List.forall_mem_cons.mpr ⟨lw_p54, List.forall_mem_cons.mpr ⟨lw_p55, List.forall_mem_cons.mpr ⟨lw_p56, List.forall_mem_cons.mpr ⟨lw_p57, List.forall_mem_cons.mpr ⟨lw_p58, List.forall_mem_cons.mpr ⟨lw_p59, fun _ h => absurd h List.not_mem_nil⟩⟩⟩⟩⟩⟩⟩⟩⟩⟩⟩⟩
def lw_privs : List (MethodName × Nat) := lw_privs_1 ++ (lw_privs_2 ++ (lw_privs_3 ++ (lw_privs_4)))
def lw_tbl : List Cond := k2_sels lw_privs ++ tables_1
theorem lw_privs_ok : ∀ q ∈ lw_privs, lw_okq q := by
  show ∀ q ∈ lw_privs_1 ++ (lw_privs_2 ++ (lw_privs_3 ++ (lw_privs_4))), lw_okq q
  exact List.forall_mem_append.mpr ⟨lw_r1, List.forall_mem_append.mpr ⟨lw_r2, List.forall_mem_append.mpr ⟨lw_r3, lw_r4⟩⟩⟩
-- ===== end of PART A; then your names; then what follows =====
end
section
/-! ===== BEGIN words of one list among another's, by their places ===== -/
theorem goodIn_r {big : List Cond} (ws : List Cond) (ps : List Nat) (hp : ws = ps.filterMap (fun i => big[i]?)) (h : ws.all goodWord = true) : GoodIn big ws := by
  intro w hw
  have h1 := List.all_eq_true.mp h w hw
  rw [hp] at hw
  obtain ⟨i, -, hi⟩ := List.mem_filterMap.mp hw
  have hm : w ∈ big := by first | exact List.mem_of_getElem? hi | exact List.getElem?_mem hi
  exact ⟨hm, good_of_word h1⟩
theorem goodIn_app {big a b : List Cond} (ha : GoodIn big a) (hb : GoodIn big b) : GoodIn big (a ++ b) := fun w h => (List.mem_append.mp h).elim (ha w) (hb w)
theorem goodIn_ca {big a b : List Cond} {c : Cond} (ha : GoodIn big (c :: a)) (hb : GoodIn big b) : GoodIn big (c :: (a ++ b)) := fun w h => (List.mem_cons.mp h).elim (fun e => ha w (List.mem_cons.mpr (Or.inl e))) (fun h => (List.mem_append.mp h).elim (fun h => ha w (List.mem_cons.mpr (Or.inr h))) (hb w))
theorem goodIn_sub {big ws : List Cond} (hm : ∀ w ∈ ws, w ∈ big) (h : ws.all goodWord = true) : GoodIn big ws := fun w hw => ⟨hm w hw, good_of_word (List.all_eq_true.mp h w hw)⟩
/-! ===== END ===== -/

/-! ===== BEGIN exceptions that leave a method, and their catching by the caller (launches without stack traces) ===== -/
section VXA
/-! The laws vx_back, vx_callV, vx_callS, vx_callSW, vx_throw0, vx_throwS follow proofs of the library, with one case more: JvmDerived/Free/Laws.lean (Back.of_free), Shelf42/LK1.lean (callV, callS), Shelf/KitTraced.lean (throwNew0V, throwNewS). -/
/-- where a method has thrown q: the class by its name, the cell, what was written, the world -/
def vx_T (XC : String → State → State → Prop) (st : State) (q : Addr) (t : State) (mc ms : Nat) (free : Addr → Prop) : Prop :=
  ∃ (E : String) (ce : Cell) (L : List Loc), XC E st t ∧ t.heap[q]? = some ce ∧ ce.vm = .none ∧ st.vm.findClass E = some ce.cls ∧ st.WarmedH t.vm ∧ st.sameButNew ({ t with vm := st.vm } : State) L mc ms ∧ ∀ z ∈ L, free z.base
def vx_Q (Qc : Array Value → State → Outcome → State → Prop) (XC : String → State → State → Prop) (mc ms : Nat) (free : Addr → Prop) : Array Value → State → Outcome → State → Prop := fun a st o t =>
  (Qc a st o t ∧ ∃ L, FrameEnd st o t L mc ms ∧ ∀ q ∈ L, free q.base) ∨ ∃ q, o = .threw q ∧ vx_T XC st q t mc ms free
/-- a callee that returns or throws -/
def vx_Met (l : Launch) (y : MethodName) (ws : List Cond) (rm : Room) (Pc : Array Value → State → Prop) (Qc : Array Value → State → Outcome → State → Prop) (XC : String → State → State → Prop) (mc ms : Nat) (free : Addr → Prop) : Prop :=
  MetFree l y (headSpec ws rm) Pc (fun _ _ _ _ _ => True) (vx_Q Qc XC mc ms free)
def vx_Post (XC : String → State → State → Prop) (mc ms : Nat) (free : Addr → Prop) : Pt → Array Value → Addr → Pt → Prop := fun A a q B =>
  ∃ (g : JFrame) (mk : MethodId) (t : State) (L : List Loc) (E : String) (ce : Cell), B.U.heap = t.heap ∧ B.U.vm = t.vm ∧ XC E (A.U.calling g mk a) t ∧ t.heap[q]? = some ce ∧ ce.vm = .none ∧ A.U.vm.findClass E = some ce.cls ∧ B.locs = A.locs ++ L ∧ (∀ z ∈ L, free z.base) ∧ B.cells = A.cells + mc ∧ B.slots = A.slots + ms
def vx_Back (l : Launch) (R : Room) (p : Program) (e : Env) (below : List Frame) (s : State) (sargs : Array Value) (y : MethodName) (len W9 : Nat)
    (Pre : Pt → Array Value → Prop) (Post : Pt → Array Value → Option Value → Pt → Prop) (PostX : Pt → Array Value → Addr → Pt → Prop) : Prop :=
  ∀ (m : MethodId) (meth : Method) (c : Code) (A : Pt) (g : JFrame) (ig : Instr) (mk : MethodId) (a : Array Value),
    Stand p l e R s m sargs below meth c A.U A.locs A.cells A.slots → g.method = m → g.locals.size = c.maxLocals → decode c.code g.pc = .ok (ig, len) →
    2 * g.monitorRoom + (g.stack.map fun v => v.category).sum ≤ W9 → A.U.methodNamed? y = some mk → Pre A a →
    (∃ (v : Option Value) (B : Pt), Stand p l e R s m sargs below meth c B.U B.locs B.cells B.slots ∧ Post A a v B ∧
      Steps p.tables e below (doInvoke e (A.U.setTop g) [] mk a).1 (B.U.setTop { g with pc := g.pc + len, stack := v.toList ++ g.stack })) ∨
    (∃ (q : Addr) (B : Pt), Stand p l e R s m sargs below meth c B.U B.locs B.cells B.slots ∧ PostX A a q B ∧
      Steps p.tables e below (doInvoke e (A.U.setTop g) [] mk a).1 ((B.U.setTop g).pushFrame (.throwing q)))
section Payer
variable {l : Launch} {R : Room} {p : Program} {e : Env} {below : List Frame} {s : State} {sargs : Array Value} {y : MethodName} {len W9 : Nat}
theorem vx_back {ws : List Cond} {rm : Room} {Pc : Array Value → State → Prop} {Qc : Array Value → State → Outcome → State → Prop} {XC : String → State → State → Prop} {mc ms : Nat} {free : Addr → Prop} {bytes : ByteArray} {maxL : Nat} {ret : Option FieldType}
    (hM : vx_Met l y ws rm Pc Qc XC mc ms free) (hblind : FrameBlind Pc) (hrc : rm.cells = mc) (hrs : rm.slots = ms)
    (hframes : rm.frames + 1 ≤ R.frames) (hlocals : W9 + (maxL + 11) + rm.locals ≤ R.locals)
    (hws : ∀ w ∈ ws, ∀ a' U, s.WarmedH U.vm → w.before a' U = true) (hcode : Cond.code y bytes maxL ret ∈ ws) (hinit : ∀ a' U, s.WarmedH U.vm → (Cond.initialized y.cls).before a' U = true) :
    vx_Back l R p e below s sargs y len W9 (PreOf R mc ms Pc) (PostOf Qc mc ms free) (vx_Post XC mc ms free) := by
  intro m meth c A g ig mk a X hg hsize hdg hW hn hp
  have h1 : (headSpec ws rm).pre.before a A.U = true := atoms_intro fun w hw => hws w hw _ _ X.warmed
  have h2 : (Cond.code y bytes maxL ret).before a A.U = true := hws _ hcode _ _ X.warmed
  have h3 : (Cond.initialized y.cls).before a A.U = true := hinit _ _ X.warmed
  have h4 : A.cells + (headSpec ws rm).room.cells ≤ R.cells := by rw [show (headSpec ws rm).room.cells = mc from hrc]; exact hp.1
  have h5 : A.slots + (headSpec ws rm).room.slots ≤ R.slots := by rw [show (headSpec ws rm).room.slots = ms from hrs]; exact hp.2.1
  have hPc : Pc a (A.U.calling g mk a) := hblind _ _ _ _ hp.2.2
  obtain ⟨U, Ls, c0, s0⟩ := A
  dsimp only [Pt.U, Pt.locs, Pt.cells, Pt.slots] at h1 h2 h3 h4 h5 X hn hPc ⊢
  obtain ⟨methY, cY, hmY, hcY, -, hlY, -, -, -, -⟩ := Cond.code_spec hn h2
  obtain ⟨kY, hkY, -⟩ := className_of_methodNamed hn
  have hinitY : kY.init = .initialized := Cond.initialized_spec (findClass_of_methodNamed hn) hkY h3
  have h : At U g.method c below := by rw [hg]; exact X.here
  have hlocals9 : W9 + (maxL + 11) + (headSpec ws rm).room.locals ≤ R.locals := hlocals
  have happ : (headSpec ws rm).appliesLoose y e.platform (U.calling g mk a) = true :=
    Spec.appliesLoose_calling (g := g) h hdg hn hkY hinitY
      (X.room_calling (g := g) (R' := (headSpec ws rm).room) hsize hmY hcY hframes (by rw [hlY]; omega) h4 h5) h1
  obtain ⟨mid, hmid⟩ := h.above
  have hfr : (U.setTop g).frames = (.java g :: mid) ++ below := by rw [State.frames_setTop' g h.top, hmid]; rfl
  obtain ⟨o, s₂, hsteps, -, hend, hq⟩ := Steps.callFree hM p X.admits X.cas X.clock (acts := []) hfr happ hPc trivial
  have hq' : vx_Q Qc XC mc ms free a (U.calling g mk a) o s₂ := hq
  rw [State.frames_setTop' g h.top] at hend
  obtain ⟨g₀, hg0⟩ := Option.isSome_iff_exists.mp h.top
  obtain ⟨r, hr⟩ := State.topJava?_eq_some.mp hg0
  have hr' : (({ U with heap := s₂.heap, slotsUsed := s₂.slotsUsed } : State).setVm s₂.vm).frames = .java g₀ :: r := hr
  rcases hq' with ⟨hqc, L, hfe, hL⟩ | ⟨q, rfl, E, ce, L, hx, hce, hcv, hcl, hW₂, hsm, hL⟩
  · obtain ⟨⟨v, rfl⟩, hW₂, e2, q2, q3, q4, q5, q6⟩ := id hfe
    have e3 : s₂ = ({ (U.calling g mk a).setFrames s₂.frames with heap := s₂.heap, slotsUsed := s₂.slotsUsed } : State).setVm s₂.vm := by
      have : s₂ = ({ s₂ with vm := (U.calling g mk a).vm } : State).setVm s₂.vm := rfl
      rw [e2] at this
      exact this
    obtain ⟨c₂, i₂, len₂, hc₂, hd₂, hf₂⟩ := hend
    have hW' : U.WarmedH s₂.vm := hW₂
    have hcc : c₂ = c := by
      have h1 : s₂.code? g.method = U.code? g.method := by
        rw [State.code?_eq, State.code?_eq, hW'.alike.method?]
      exact Option.some.inj (hc₂.symm.trans (h1.trans h.code))
    subst hcc
    have hlen : len₂ = len := by rw [hdg] at hd₂; cases hd₂; rfl
    subst hlen
    have hs₂ : s₂ = (({ U with heap := s₂.heap, slotsUsed := s₂.slotsUsed } : State).setVm s₂.vm).setTop { g with pc := g.pc + len₂, stack := v.toList ++ g.stack } := by
      refine e3.trans ?_
      rw [hf₂, State.calling_eq h.top, State.setFrames_setFrames, State.setTop_of_frames _ hr', hr]
      rfl
    have hsame : U.sameButNew ({ U with heap := s₂.heap, slotsUsed := s₂.slotsUsed } : State) L mc ms := by
      refine ⟨?_, q2, q3, q4, q5, q6⟩
      obtain ⟨t, ht, -⟩ := State.frames_cons hr
      show ({ U with heap := s₂.heap, slotsUsed := s₂.slotsUsed } : State) = { U.setFrames U.frames with heap := s₂.heap, slotsUsed := s₂.slotsUsed }
      rw [State.setFrames_self ht]
    subst hg
    refine Or.inl ⟨v, ⟨(({ U with heap := s₂.heap, slotsUsed := s₂.slotsUsed } : State).setVm s₂.vm), Ls ++ L, c0 + mc, s0 + ms⟩,
      ⟨X.admits, X.cas, X.clock, X.frames, X.room, X.hears, X.method, X.code, (X.here.setHeapUsed s₂.heap s₂.slotsUsed).setVm hW'.alike, X.tail, State.WarmedH.trans X.warmed hW', X.limits, X.bytes, X.same.trans (hsame.setVm s.vm)⟩,
      ⟨g, mk, s₂, L, rfl, rfl, hqc, rfl, hL, rfl, rfl⟩, ?_⟩
    show Steps p.tables e below _ ((({ U with heap := s₂.heap, slotsUsed := s₂.slotsUsed } : State).setVm s₂.vm).setTop { g with pc := g.pc + len₂, stack := v.toList ++ g.stack })
    rw [← hs₂]
    exact hsteps
  · obtain ⟨e2, q2, q3, q4, q5, q6⟩ := id hsm
    have e3 : s₂ = ({ (U.calling g mk a).setFrames s₂.frames with heap := s₂.heap, slotsUsed := s₂.slotsUsed } : State).setVm s₂.vm := by
      have : s₂ = ({ s₂ with vm := (U.calling g mk a).vm } : State).setVm s₂.vm := rfl
      rw [e2] at this
      exact this
    have hf₂ : s₂.frames = .throwing q :: .java g :: U.frames.tail := hend
    have hW' : U.WarmedH s₂.vm := hW₂
    have hs₂ : s₂ = ((({ U with heap := s₂.heap, slotsUsed := s₂.slotsUsed } : State).setVm s₂.vm).setTop g).pushFrame (.throwing q) := by
      refine e3.trans ?_
      rw [hf₂, State.calling_eq h.top, State.setFrames_setFrames, State.pushFrame, State.frames_setTop _ hr', State.setTop_of_frames _ hr', State.setFrames_setFrames, hr]
      rfl
    have hsame : U.sameButNew ({ U with heap := s₂.heap, slotsUsed := s₂.slotsUsed } : State) L mc ms := by
      refine ⟨?_, q2, q3, q4, q5, q6⟩
      obtain ⟨t, ht, -⟩ := State.frames_cons hr
      show ({ U with heap := s₂.heap, slotsUsed := s₂.slotsUsed } : State) = { U.setFrames U.frames with heap := s₂.heap, slotsUsed := s₂.slotsUsed }
      rw [State.setFrames_self ht]
    subst hg
    refine Or.inr ⟨q, ⟨(({ U with heap := s₂.heap, slotsUsed := s₂.slotsUsed } : State).setVm s₂.vm), Ls ++ L, c0 + mc, s0 + ms⟩,
      ⟨X.admits, X.cas, X.clock, X.frames, X.room, X.hears, X.method, X.code, (X.here.setHeapUsed s₂.heap s₂.slotsUsed).setVm hW'.alike, X.tail, State.WarmedH.trans X.warmed hW', X.limits, X.bytes, X.same.trans (hsame.setVm s.vm)⟩,
      ⟨g, mk, s₂, L, E, ce, rfl, rfl, hx, hce, hcv, hcl, rfl, hL, rfl, rfl⟩, ?_⟩
    show Steps p.tables e below _ (((({ U with heap := s₂.heap, slotsUsed := s₂.slotsUsed } : State).setVm s₂.vm).setTop g).pushFrame (.throwing q))
    rw [← hs₂]
    exact hsteps
end Payer
section Calls
variable {p : Program} {l : Launch} {e : Env} {R : Room} {s : State} {m : MethodId} {args : Array Value} {below : List Frame} {meth : Method} {c : Code} {T : State} {locs : List Loc} {cells slots : Nat}
theorem vx_callV (X : Stand p l e R s m args below meth c T locs cells slots) (hexec : p.tables.exec = Jvm.exec) {own C : String} {index : Nat} {y : MethodName} {bytes : ByteArray} {maxL : Nat} {ret : Option FieldType}
    (hown : s.vm.findClass own = some m.cls) (hlink : (Cond.methodLink own index y).before args s = true) (hinst : (Cond.instanceMethod y).before args s = true) (hsel : (Cond.selects C y y).before args s = true)
    (hcode : (Cond.code y bytes maxL ret).before args s = true) (hy : y.cls ≠ "java/lang/invoke/MethodHandle" ∧ y.cls ≠ "java/lang/invoke/VarHandle")
    {W9 : Nat} {Pre : Pt → Array Value → Prop} {Post : Pt → Array Value → Option Value → Pt → Prop} {PostX : Pt → Array Value → Addr → Pt → Prop} (hK : vx_Back l R p e below s args y 3 W9 Pre Post PostX)
    {b : Addr} {cellB : Cell} (hcell : T.heap[b]? = some cellB) (hobj : cellB.vm.isStatics = false) (hcls : s.vm.findClass C = some cellB.cls)
    {g : JFrame} (hg : g.method = m) (hsize : g.locals.size = c.maxLocals) {argsL rest : List Value} (hlen : ∀ sig, parseMethodDescriptor y.desc = some sig → argsL.length = sig.parameters.length)
    (hstack : g.stack = argsL.reverse ++ .ref b :: rest) (hW : 2 * g.monitorRoom + (rest.map fun v => v.category).sum ≤ W9) (hdg : decode c.code g.pc = .ok (.invokevirtual index, 3))
    (hpre : ∀ vm₁, s.WarmedH vm₁ → Pre ⟨T.setVm vm₁, locs, cells, slots⟩ (Value.ref b :: argsL).toArray) :
    (∃ (v : Option Value) (vm₁ : Vm) (B : Pt), s.WarmedH vm₁ ∧ Stand p l e R s m args below meth c B.U B.locs B.cells B.slots ∧ Post ⟨T.setVm vm₁, locs, cells, slots⟩ (Value.ref b :: argsL).toArray v B ∧
      ∀ target, Steps p.tables e below (B.U.setTop { g with pc := g.pc + 3, stack := v.toList ++ rest }) target → Steps p.tables e below (T.setTop g) target) ∨
    (∃ (q : Addr) (vm₁ : Vm) (B : Pt), s.WarmedH vm₁ ∧ Stand p l e R s m args below meth c B.U B.locs B.cells B.slots ∧ PostX ⟨T.setVm vm₁, locs, cells, slots⟩ (Value.ref b :: argsL).toArray q B ∧
      Steps p.tables e below (T.setTop g) ((B.U.setTop { g with stack := rest }).pushFrame (.throwing q))) := by
  obtain ⟨mk, methM, hnamed, hmethM, hstM, habM⟩ := Cond.instanceMethod_spec hinst
  obtain ⟨methM', cM, hmethM', -, -, -, -, -, -, hsigM⟩ := Cond.code_spec hnamed hcode
  cases hmethM.symm.trans hmethM'
  obtain ⟨c2, r2, m2, q1, q2, q3, q4, kP, hkP, hkPi⟩ := Cond.selects_spec hsel
  cases hcls.symm.trans q1
  cases (State.methodFound?_of_named hnamed hy).symm.trans q2
  cases hnamed.symm.trans q3
  have hselP : selectMethod e.platform s.vm cellB.cls mk = .method mk := by rw [Launch.admits_selectMethod X.admits]; exact q4
  obtain ⟨vm₁, X₁, hstep₁⟩ := X.invokevirtual hexec hown hlink hnamed hmethM hstM hkP hkPi hy (a := b) (cell := cellB) hcell
    (fun z h => by rw [h] at hobj; cases hobj) hselP hmethM habM hkP hkPi (g := g) hg (argsL := argsL) (rest := rest) (hlen _ hsigM) hstack hdg
  rcases hK m meth c ⟨T.setVm vm₁, locs, cells, slots⟩ { g with stack := rest } (.invokevirtual index) mk (Value.ref b :: argsL).toArray X₁ hg hsize hdg hW (X₁.named hnamed) (hpre vm₁ X₁.warmed) with ⟨v, B, X', hpost, hsteps⟩ | ⟨q, B, X', hpost, hsteps⟩
  · exact Or.inl ⟨v, vm₁, B, X₁.warmed, X', hpost, fun target h => hstep₁ _ fun acts => by rw [doInvoke_state]; exact hsteps.trans h⟩
  · exact Or.inr ⟨q, vm₁, B, X₁.warmed, X', hpost, hstep₁ _ fun acts => by rw [doInvoke_state]; exact hsteps⟩
theorem vx_callS (X : Stand p l e R s m args below meth c T locs cells slots) (hexec : p.tables.exec = Jvm.exec) {own : String} {index : Nat} {y : MethodName} {bytes : ByteArray} {maxL : Nat} {ret : Option FieldType}
    (hown : s.vm.findClass own = some m.cls) (hlink : (Cond.methodLink own index y).before args s = true) (hstat : (Cond.static y).before args s = true) (hinit : (Cond.initialized y.cls).before args s = true)
    (hcode : (Cond.code y bytes maxL ret).before args s = true) (hy : y.cls ≠ "java/lang/invoke/MethodHandle" ∧ y.cls ≠ "java/lang/invoke/VarHandle")
    {W9 : Nat} {Pre : Pt → Array Value → Prop} {Post : Pt → Array Value → Option Value → Pt → Prop} {PostX : Pt → Array Value → Addr → Pt → Prop} (hK : vx_Back l R p e below s args y 3 W9 Pre Post PostX)
    {g : JFrame} (hg : g.method = m) (hsize : g.locals.size = c.maxLocals) {argsL rest : List Value} (hlen : ∀ sig, parseMethodDescriptor y.desc = some sig → argsL.length = sig.parameters.length)
    (hstack : g.stack = argsL.reverse ++ rest) (hW : 2 * g.monitorRoom + (rest.map fun v => v.category).sum ≤ W9) (hdg : decode c.code g.pc = .ok (.invokestatic index, 3))
    (hpre : ∀ vm₁, s.WarmedH vm₁ → Pre ⟨T.setVm vm₁, locs, cells, slots⟩ argsL.toArray) :
    (∃ (v : Option Value) (vm₁ : Vm) (B : Pt), s.WarmedH vm₁ ∧ Stand p l e R s m args below meth c B.U B.locs B.cells B.slots ∧ Post ⟨T.setVm vm₁, locs, cells, slots⟩ argsL.toArray v B ∧
      ∀ target, Steps p.tables e below (B.U.setTop { g with pc := g.pc + 3, stack := v.toList ++ rest }) target → Steps p.tables e below (T.setTop g) target) ∨
    (∃ (q : Addr) (vm₁ : Vm) (B : Pt), s.WarmedH vm₁ ∧ Stand p l e R s m args below meth c B.U B.locs B.cells B.slots ∧ PostX ⟨T.setVm vm₁, locs, cells, slots⟩ argsL.toArray q B ∧
      Steps p.tables e below (T.setTop g) ((B.U.setTop { g with stack := rest }).pushFrame (.throwing q))) := by
  obtain ⟨mk, hnamed⟩ := Cond.code_named hcode
  obtain ⟨methM, cM, hmethM, -, -, -, -, -, -, hsigM⟩ := Cond.code_spec hnamed hcode
  have hstatic : methM.isStatic = true := Cond.static_spec hnamed hmethM hstat
  obtain ⟨kP, hkP, -⟩ := className_of_methodNamed hnamed
  have hinitP : kP.init = .initialized := Cond.initialized_spec (findClass_of_methodNamed hnamed) hkP hinit
  obtain ⟨vm₁, X₁, hstep₁⟩ := X.invokestatic hexec hown hlink hnamed hmethM hstatic hkP hinitP hy (g := g) hg (argsL := argsL) (rest := rest) (hlen _ hsigM) hstack hdg
  rcases hK m meth c ⟨T.setVm vm₁, locs, cells, slots⟩ { g with stack := rest } (.invokestatic index) mk argsL.toArray X₁ hg hsize hdg hW (X₁.named hnamed) (hpre vm₁ X₁.warmed) with ⟨v, B, X', hpost, hsteps⟩ | ⟨q, B, X', hpost, hsteps⟩
  · exact Or.inl ⟨v, vm₁, B, X₁.warmed, X', hpost, fun target h => hstep₁ _ fun acts => by rw [doInvoke_state]; exact hsteps.trans h⟩
  · exact Or.inr ⟨q, vm₁, B, X₁.warmed, X', hpost, hstep₁ _ fun acts => by rw [doInvoke_state]; exact hsteps⟩
end Calls
theorem vx_cls {s : State} {T : State} {vm₁ : Vm} {E : String} {k : ClassId} (hW : s.WarmedH vm₁) (h : (T.setVm vm₁).vm.findClass E = some k) : s.vm.findClass E = some k := by
  have h1 : vm₁.findClass E = some k := h
  rw [hW.alike.findClass] at h1
  exact h1
/-- the method's frame g, with q thrown over it -/
def vx_W (p : Program) (l : Launch) (e : Env) (R : Room) (s : State) (m : MethodId) (args : Array Value) (below : List Frame) (meth : Method) (c : Code) (H : Heap) (locs : List Loc) (cells slots : Nat) (Q : State → Prop) (g : JFrame) (q : Addr) : Prop :=
  ∀ T : State, T.heap = H → Stand p l e R s m args below meth c T locs cells slots → ∃ t, Steps p.tables e below ((T.setTop g).pushFrame (.throwing q)) t ∧ Q t
def vx_Run (p : Program) (l : Launch) (e : Env) (R : Room) (s : State) (m : MethodId) (args : Array Value) (below : List Frame) (meth : Method) (c : Code) (H : Heap) (locs : List Loc) (cells slots mc ms : Nat) (g : JFrame) (rest : List Value) (Qa : State → Outcome → State → Prop) (XC : String → State → State → Prop) (free : Addr → Prop) : Prop :=
  ∀ T : State, T.heap = H → Stand p l e R s m args below meth c T locs cells slots →
    (∃ (v : Option Value) (st₀ t T' : State) (L : List Loc), st₀.heap = H ∧ Stand p l e R s m args below meth c T' (locs ++ L) (cells + mc) (slots + ms) ∧ (∀ q ∈ L, free q.base) ∧ T'.heap = t.heap ∧ T'.vm = t.vm ∧ Qa st₀ (.returned v) t ∧
      Goes p e below T g T' { g with pc := g.pc + 3, stack := v.toList ++ rest }) ∨
    (∃ (q : Addr) (st₀ t T' : State) (L : List Loc) (E : String) (ce : Cell), st₀.heap = H ∧ Stand p l e R s m args below meth c T' (locs ++ L) (cells + mc) (slots + ms) ∧ (∀ z ∈ L, free z.base) ∧ T'.heap = t.heap ∧ T'.vm = t.vm ∧ XC E st₀ t ∧ t.heap[q]? = some ce ∧ ce.vm = .none ∧ s.vm.findClass E = some ce.cls ∧
      Steps p.tables e below (T.setTop g) ((T'.setTop { g with stack := rest }).pushFrame (.throwing q)))
def vx_X {S : Type} (px : S → Prop) (B : String → S → State → Prop) (A : Nat → Prop) : String → State → State → Prop := fun E st t => ∃ u : S, px u ∧ B E u t ∧ va_F A st t
section Runs
variable {p : Program} {l : Launch} {e : Env} {R : Room} {s : State} {m : MethodId} {args : Array Value} {below : List Frame} {meth : Method} {c : Code} {H : Heap} {locs : List Loc} {cells slots : Nat}
variable {y : MethodName} {bytes cc : ByteArray} {maxL nL mc ms n index : Nat} {ret : Option FieldType} {ws : List Cond} {rm : Room} {Pc : Array Value → State → Prop} {Qc : Array Value → State → Outcome → State → Prop} {XC : String → State → State → Prop} {free : Addr → Prop} {Ts : List Cond} {own C : String} {b : Addr} {As rest : List Value} {g : JFrame}
theorem vx_callBack (cb : CallB R s args own index y bytes maxL ret ws rm mc ms n) (hM : vx_Met l y ws rm Pc Qc XC mc ms free) (hbl : FrameBlind Pc) : vx_Back l R p e below s args y 3 8 (PreOf R mc ms Pc) (PostOf Qc mc ms free) (vx_Post XC mc ms free) := by
  obtain ⟨hrc, hrs, hfr, hlo, hws, hcw, -, hini, -⟩ := cb
  exact vx_back (bytes := bytes) (maxL := maxL) (ret := ret) hM hbl hrc hrs hfr hlo hws hcw (fun a' U hW => word_at hW (Or.inl (by first | rfl | simp [Cond.onTables, Cond.keeps, Cond.steady])) hini)
theorem vx_runV (S : CallFix p m c cc nL s args Ts own) (hM : vx_Met l y ws rm Pc Qc XC mc ms free) (cw : CallW R s args own C index y bytes maxL ret ws rm mc ms n) (hp : PreV s H C b Pc As)
    (hg : g.method = m) (hn : As.length = n) (hsize : g.locals.size = nL) (hstack : g.stack = As.reverse ++ .ref b :: rest) (hW : 2 * g.monitorRoom + (rest.map fun v => v.category).sum ≤ 8) (hdg : decode cc g.pc = .ok (.invokevirtual index, 3)) (hf : cells + mc ≤ R.cells ∧ slots + ms ≤ R.slots) :
    vx_Run p l e R s m args below meth c H locs cells slots mc ms g rest (Qc (Value.ref b :: As).toArray) XC free := by
  have hK : vx_Back l R p e below s args y 3 8 (PreOf R mc ms Pc) (PostOf Qc mc ms free) (vx_Post XC mc ms free) := vx_callBack cw.1 hM hp.1
  obtain ⟨⟨-, -, -, -, -, -, hcode, -, hy, hlen, hl⟩, hin, hse⟩ := cw
  obtain ⟨hx, hb, hml, ho, -⟩ := S
  obtain ⟨-, ⟨cellB, hcB, hoB, hclB⟩, hPc⟩ := hp
  intro T hT X
  rcases vx_callV X hx (C := C) (bytes := bytes) (maxL := maxL) (ret := ret) ho hl hin hse hcode hy hK (by rw [hT]; exact hcB) hoB hclB hg (hsize.trans hml.symm) (argsL := As) (rest := rest) (fun sig h => hn.trans (hlen sig h)) hstack hW (by rw [hb]; exact hdg)
    (fun vm₁ hW₁ => ⟨hf.1, hf.2, hPc (T.setVm vm₁) hT hW₁⟩) with ⟨v, vm₁, ⟨U', l2, c2, s2⟩, hW₁, X', ⟨g', mk, t, L, e1, e2, hq, h1, hL, h2, h3⟩, st⟩ | ⟨q, vm₁, ⟨U', l2, c2, s2⟩, hW₁, X', ⟨g', mk, t, L, E, ce, e1, e2, hq, hce, hcv, hcl, h1, hL, h2, h3⟩, st⟩
  · dsimp only [Pt.U, Pt.locs, Pt.cells, Pt.slots] at X' e1 e2 h1 h2 h3 st
    subst h1; subst h2; subst h3
    exact Or.inl ⟨v, (T.setVm vm₁).calling g' mk (Value.ref b :: As).toArray, t, U', L, hT, X', hL, e1, e2, hq, st⟩
  · dsimp only [Pt.U, Pt.locs, Pt.cells, Pt.slots] at X' e1 e2 h1 h2 h3 st hcl
    subst h1; subst h2; subst h3
    exact Or.inr ⟨q, (T.setVm vm₁).calling g' mk (Value.ref b :: As).toArray, t, U', L, E, ce, hT, X', hL, e1, e2, hq, hce, hcv, vx_cls hW₁ hcl, st⟩
theorem vx_runS (S : CallFix p m c cc nL s args Ts own) (hM : vx_Met l y ws rm Pc Qc XC mc ms free) (cw : CallB R s args own index y bytes maxL ret ws rm mc ms n ∧ (Cond.static y).before args s = true) (hp : PreS s H Pc As)
    (hg : g.method = m) (hn : As.length = n) (hsize : g.locals.size = nL) (hstack : g.stack = As.reverse ++ rest) (hW : 2 * g.monitorRoom + (rest.map fun v => v.category).sum ≤ 8) (hdg : decode cc g.pc = .ok (.invokestatic index, 3)) (hf : cells + mc ≤ R.cells ∧ slots + ms ≤ R.slots) :
    vx_Run p l e R s m args below meth c H locs cells slots mc ms g rest (Qc As.toArray) XC free := by
  have hK : vx_Back l R p e below s args y 3 8 (PreOf R mc ms Pc) (PostOf Qc mc ms free) (vx_Post XC mc ms free) := vx_callBack cw.1 hM hp.1
  obtain ⟨⟨-, -, -, -, -, -, hcode, hini, hy, hlen, hl⟩, hstt⟩ := cw
  obtain ⟨hx, hb, hml, ho, -⟩ := S
  intro T hT X
  rcases vx_callS X hx (bytes := bytes) (maxL := maxL) (ret := ret) ho hl hstt hini hcode hy hK hg (hsize.trans hml.symm) (argsL := As) (rest := rest) (fun sig h => hn.trans (hlen sig h)) hstack hW (by rw [hb]; exact hdg)
    (fun vm₁ hW₁ => ⟨hf.1, hf.2, hp.2 (T.setVm vm₁) hT hW₁⟩) with ⟨v, vm₁, ⟨U', l2, c2, s2⟩, hW₁, X', ⟨g', mk, t, L, e1, e2, hq, h1, hL, h2, h3⟩, st⟩ | ⟨q, vm₁, ⟨U', l2, c2, s2⟩, hW₁, X', ⟨g', mk, t, L, E, ce, e1, e2, hq, hce, hcv, hcl, h1, hL, h2, h3⟩, st⟩
  · dsimp only [Pt.U, Pt.locs, Pt.cells, Pt.slots] at X' e1 e2 h1 h2 h3 st
    subst h1; subst h2; subst h3
    exact Or.inl ⟨v, (T.setVm vm₁).calling g' mk As.toArray, t, U', L, hT, X', hL, e1, e2, hq, st⟩
  · dsimp only [Pt.U, Pt.locs, Pt.cells, Pt.slots] at X' e1 e2 h1 h2 h3 st hcl
    subst h1; subst h2; subst h3
    exact Or.inr ⟨q, (T.setVm vm₁).calling g' mk As.toArray, t, U', L, E, ce, hT, X', hL, e1, e2, hq, hce, hcv, vx_cls hW₁ hcl, st⟩
end Runs
section Rows
variable {p : Program} {l : Launch} {e : Env} {R : Room} {s : State} {m : MethodId} {args : Array Value} {below : List Frame} {meth : Method} {c : Code} {H : Heap} {locs : List Loc} {cells slots : Nat} {Q : State → Prop}
variable {mc ms : Nat} {free : Addr → Prop} {A0 A1 : Nat → Prop} {H0 : Heap} {a : Array Value} {pc : Nat} {ls : Array Slot} {st0 rest : List Value}
theorem vx_keep {st₀ t T' : State} {L : List Loc} (h0 : st₀.heap = H) (e1 : T'.heap = t.heap) (hS : va_S A0 H0 H locs) (hA : ∀ q, q < H.size → A1 q → A0 q) (hf : ∀ q, free q → A0 q) (hL : ∀ q ∈ L, free q.base) (hF : va_F A1 st₀ t) :
    H.size ≤ T'.heap.size ∧ (∀ q : Nat, q < H.size → ¬ A1 q → T'.heap[q]? = H[q]?) ∧ va_S A0 H0 T'.heap (locs ++ L) := by
  obtain ⟨hz, hk⟩ := hF
  rw [h0] at hz hk
  exact ⟨by rw [e1]; exact hz, fun q h1 h2 => by rw [e1]; exact hk q h1 h2,
    ⟨Nat.le_trans hS.1 (by rw [e1]; exact hz), fun q h1 h2 => by rw [e1, hk q (Nat.lt_of_lt_of_le h1 hS.1) (fun z => h2 (hA q (Nat.lt_of_lt_of_le h1 hS.1) z))]; exact hS.2.1 q h1 h2, fun q hq => by
      rcases List.mem_append.mp hq with h | h
      · exact hS.2.2 q h
      · exact hf _ (hL q h)⟩⟩
theorem vx_calli {S SX : Type} {post : Int32 → S → Prop} {px : SX → Prop} {B : S → State → Prop} {BX : String → SX → State → Prop} {AX : Nat → Prop} (hr : vx_Run p l e R s m args below meth c H locs cells slots mc ms (F0 m pc ls st0) rest (va_Qi post B A1 a) (vx_X px BX AX) free) (hS : va_S A0 H0 H locs) (hA : ∀ q, q < H.size → A1 q → A0 q) (hf : ∀ q, free q → A0 q) (hAX : ∀ q, q < H.size → AX q → A0 q)
    (kx : ∀ (E : String) (ce : Cell) (q9 : Addr) (u : SX) (t : State) (H1 : Heap) (locs1 : List Loc), t.heap = H1 → s.vm.Alike t.vm → px u → BX E u t → H.size ≤ H1.size → (∀ q : Nat, q < H.size → ¬ AX q → H1[q]? = H[q]?) → va_S A0 H0 H1 locs1 → H1[q9]? = some ce → ce.vm = .none → s.vm.findClass E = some ce.cls → vx_W p l e R s m args below meth c H1 locs1 (cells + mc) (slots + ms) Q (F0 m pc ls rest) q9)
    (kk : ∀ (r : Int32) (u : S) (t : State) (H1 : Heap) (locs1 : List Loc), t.heap = H1 → s.vm.Alike t.vm → post r u → B u t → H.size ≤ H1.size → (∀ q : Nat, q < H.size → ¬ A1 q → H1[q]? = H[q]?) → va_S A0 H0 H1 locs1 → W p l e R s m args below meth c H1 locs1 (cells + mc) (slots + ms) Q (F0 m (pc + 3) ls (.int r :: rest))) : W p l e R s m args below meth c H locs cells slots Q (F0 m pc ls st0) := by
  intro T hT X
  rcases hr T hT X with ⟨v, st₀, t, T', L, h0, X', hL, e1, e2, ⟨⟨r, u, hv, hp, hb⟩, hF⟩, st⟩ | ⟨q, st₀, t, T', L, E, ce, h0, X', hL, e1, e2, ⟨u, hp, hb, hF⟩, hce, hcv, hcl, st⟩
  · cases hv
    obtain ⟨k1, k2, k3⟩ := vx_keep h0 e1 hS hA hf hL hF
    obtain ⟨t2, a1, b1⟩ := kk r u t T'.heap (locs ++ L) e1.symm (by rw [← e2]; exact X'.warmed.alike) hp hb k1 k2 k3 T' rfl X'
    exact ⟨t2, st t2 a1, b1⟩
  · obtain ⟨k1, k2, k3⟩ := vx_keep h0 e1 hS hAX hf hL hF
    obtain ⟨t2, a1, b1⟩ := kx E ce q u t T'.heap (locs ++ L) e1.symm (by rw [← e2]; exact X'.warmed.alike) hp hb k1 k2 k3 (by rw [e1]; exact hce) hcv hcl T' rfl X'
    exact ⟨t2, st.trans a1, b1⟩
theorem vx_calll {S SX : Type} {post : Int64 → S → Prop} {px : SX → Prop} {B : S → State → Prop} {BX : String → SX → State → Prop} {AX : Nat → Prop} (hr : vx_Run p l e R s m args below meth c H locs cells slots mc ms (F0 m pc ls st0) rest (va_Ql post B A1 a) (vx_X px BX AX) free) (hS : va_S A0 H0 H locs) (hA : ∀ q, q < H.size → A1 q → A0 q) (hf : ∀ q, free q → A0 q) (hAX : ∀ q, q < H.size → AX q → A0 q)
    (kx : ∀ (E : String) (ce : Cell) (q9 : Addr) (u : SX) (t : State) (H1 : Heap) (locs1 : List Loc), t.heap = H1 → s.vm.Alike t.vm → px u → BX E u t → H.size ≤ H1.size → (∀ q : Nat, q < H.size → ¬ AX q → H1[q]? = H[q]?) → va_S A0 H0 H1 locs1 → H1[q9]? = some ce → ce.vm = .none → s.vm.findClass E = some ce.cls → vx_W p l e R s m args below meth c H1 locs1 (cells + mc) (slots + ms) Q (F0 m pc ls rest) q9)
    (kk : ∀ (r : Int64) (u : S) (t : State) (H1 : Heap) (locs1 : List Loc), t.heap = H1 → s.vm.Alike t.vm → post r u → B u t → H.size ≤ H1.size → (∀ q : Nat, q < H.size → ¬ A1 q → H1[q]? = H[q]?) → va_S A0 H0 H1 locs1 → W p l e R s m args below meth c H1 locs1 (cells + mc) (slots + ms) Q (F0 m (pc + 3) ls (.long r :: rest))) : W p l e R s m args below meth c H locs cells slots Q (F0 m pc ls st0) := by
  intro T hT X
  rcases hr T hT X with ⟨v, st₀, t, T', L, h0, X', hL, e1, e2, ⟨⟨r, u, hv, hp, hb⟩, hF⟩, st⟩ | ⟨q, st₀, t, T', L, E, ce, h0, X', hL, e1, e2, ⟨u, hp, hb, hF⟩, hce, hcv, hcl, st⟩
  · cases hv
    obtain ⟨k1, k2, k3⟩ := vx_keep h0 e1 hS hA hf hL hF
    obtain ⟨t2, a1, b1⟩ := kk r u t T'.heap (locs ++ L) e1.symm (by rw [← e2]; exact X'.warmed.alike) hp hb k1 k2 k3 T' rfl X'
    exact ⟨t2, st t2 a1, b1⟩
  · obtain ⟨k1, k2, k3⟩ := vx_keep h0 e1 hS hAX hf hL hF
    obtain ⟨t2, a1, b1⟩ := kx E ce q u t T'.heap (locs ++ L) e1.symm (by rw [← e2]; exact X'.warmed.alike) hp hb k1 k2 k3 (by rw [e1]; exact hce) hcv hcl T' rfl X'
    exact ⟨t2, st.trans a1, b1⟩
theorem vx_callf {S SX : Type} {post : UInt32 → S → Prop} {px : SX → Prop} {B : S → State → Prop} {BX : String → SX → State → Prop} {AX : Nat → Prop} (hr : vx_Run p l e R s m args below meth c H locs cells slots mc ms (F0 m pc ls st0) rest (va_Qf post B A1 a) (vx_X px BX AX) free) (hS : va_S A0 H0 H locs) (hA : ∀ q, q < H.size → A1 q → A0 q) (hf : ∀ q, free q → A0 q) (hAX : ∀ q, q < H.size → AX q → A0 q)
    (kx : ∀ (E : String) (ce : Cell) (q9 : Addr) (u : SX) (t : State) (H1 : Heap) (locs1 : List Loc), t.heap = H1 → s.vm.Alike t.vm → px u → BX E u t → H.size ≤ H1.size → (∀ q : Nat, q < H.size → ¬ AX q → H1[q]? = H[q]?) → va_S A0 H0 H1 locs1 → H1[q9]? = some ce → ce.vm = .none → s.vm.findClass E = some ce.cls → vx_W p l e R s m args below meth c H1 locs1 (cells + mc) (slots + ms) Q (F0 m pc ls rest) q9)
    (kk : ∀ (r : UInt32) (u : S) (t : State) (H1 : Heap) (locs1 : List Loc), t.heap = H1 → s.vm.Alike t.vm → post r u → B u t → H.size ≤ H1.size → (∀ q : Nat, q < H.size → ¬ A1 q → H1[q]? = H[q]?) → va_S A0 H0 H1 locs1 → W p l e R s m args below meth c H1 locs1 (cells + mc) (slots + ms) Q (F0 m (pc + 3) ls (.float r :: rest))) : W p l e R s m args below meth c H locs cells slots Q (F0 m pc ls st0) := by
  intro T hT X
  rcases hr T hT X with ⟨v, st₀, t, T', L, h0, X', hL, e1, e2, ⟨⟨r, u, hv, hp, hb⟩, hF⟩, st⟩ | ⟨q, st₀, t, T', L, E, ce, h0, X', hL, e1, e2, ⟨u, hp, hb, hF⟩, hce, hcv, hcl, st⟩
  · cases hv
    obtain ⟨k1, k2, k3⟩ := vx_keep h0 e1 hS hA hf hL hF
    obtain ⟨t2, a1, b1⟩ := kk r u t T'.heap (locs ++ L) e1.symm (by rw [← e2]; exact X'.warmed.alike) hp hb k1 k2 k3 T' rfl X'
    exact ⟨t2, st t2 a1, b1⟩
  · obtain ⟨k1, k2, k3⟩ := vx_keep h0 e1 hS hAX hf hL hF
    obtain ⟨t2, a1, b1⟩ := kx E ce q u t T'.heap (locs ++ L) e1.symm (by rw [← e2]; exact X'.warmed.alike) hp hb k1 k2 k3 (by rw [e1]; exact hce) hcv hcl T' rfl X'
    exact ⟨t2, st.trans a1, b1⟩
theorem vx_calld {S SX : Type} {post : UInt64 → S → Prop} {px : SX → Prop} {B : S → State → Prop} {BX : String → SX → State → Prop} {AX : Nat → Prop} (hr : vx_Run p l e R s m args below meth c H locs cells slots mc ms (F0 m pc ls st0) rest (va_Qd post B A1 a) (vx_X px BX AX) free) (hS : va_S A0 H0 H locs) (hA : ∀ q, q < H.size → A1 q → A0 q) (hf : ∀ q, free q → A0 q) (hAX : ∀ q, q < H.size → AX q → A0 q)
    (kx : ∀ (E : String) (ce : Cell) (q9 : Addr) (u : SX) (t : State) (H1 : Heap) (locs1 : List Loc), t.heap = H1 → s.vm.Alike t.vm → px u → BX E u t → H.size ≤ H1.size → (∀ q : Nat, q < H.size → ¬ AX q → H1[q]? = H[q]?) → va_S A0 H0 H1 locs1 → H1[q9]? = some ce → ce.vm = .none → s.vm.findClass E = some ce.cls → vx_W p l e R s m args below meth c H1 locs1 (cells + mc) (slots + ms) Q (F0 m pc ls rest) q9)
    (kk : ∀ (r : UInt64) (u : S) (t : State) (H1 : Heap) (locs1 : List Loc), t.heap = H1 → s.vm.Alike t.vm → post r u → B u t → H.size ≤ H1.size → (∀ q : Nat, q < H.size → ¬ A1 q → H1[q]? = H[q]?) → va_S A0 H0 H1 locs1 → W p l e R s m args below meth c H1 locs1 (cells + mc) (slots + ms) Q (F0 m (pc + 3) ls (.double r :: rest))) : W p l e R s m args below meth c H locs cells slots Q (F0 m pc ls st0) := by
  intro T hT X
  rcases hr T hT X with ⟨v, st₀, t, T', L, h0, X', hL, e1, e2, ⟨⟨r, u, hv, hp, hb⟩, hF⟩, st⟩ | ⟨q, st₀, t, T', L, E, ce, h0, X', hL, e1, e2, ⟨u, hp, hb, hF⟩, hce, hcv, hcl, st⟩
  · cases hv
    obtain ⟨k1, k2, k3⟩ := vx_keep h0 e1 hS hA hf hL hF
    obtain ⟨t2, a1, b1⟩ := kk r u t T'.heap (locs ++ L) e1.symm (by rw [← e2]; exact X'.warmed.alike) hp hb k1 k2 k3 T' rfl X'
    exact ⟨t2, st t2 a1, b1⟩
  · obtain ⟨k1, k2, k3⟩ := vx_keep h0 e1 hS hAX hf hL hF
    obtain ⟨t2, a1, b1⟩ := kx E ce q u t T'.heap (locs ++ L) e1.symm (by rw [← e2]; exact X'.warmed.alike) hp hb k1 k2 k3 (by rw [e1]; exact hce) hcv hcl T' rfl X'
    exact ⟨t2, st.trans a1, b1⟩
theorem vx_callv {S SX : Type} {post : S → Prop} {px : SX → Prop} {B : S → State → Prop} {BX : String → SX → State → Prop} {AX : Nat → Prop} (hr : vx_Run p l e R s m args below meth c H locs cells slots mc ms (F0 m pc ls st0) rest (va_Qv post B A1 a) (vx_X px BX AX) free) (hS : va_S A0 H0 H locs) (hA : ∀ q, q < H.size → A1 q → A0 q) (hf : ∀ q, free q → A0 q) (hAX : ∀ q, q < H.size → AX q → A0 q)
    (kx : ∀ (E : String) (ce : Cell) (q9 : Addr) (u : SX) (t : State) (H1 : Heap) (locs1 : List Loc), t.heap = H1 → s.vm.Alike t.vm → px u → BX E u t → H.size ≤ H1.size → (∀ q : Nat, q < H.size → ¬ AX q → H1[q]? = H[q]?) → va_S A0 H0 H1 locs1 → H1[q9]? = some ce → ce.vm = .none → s.vm.findClass E = some ce.cls → vx_W p l e R s m args below meth c H1 locs1 (cells + mc) (slots + ms) Q (F0 m pc ls rest) q9)
    (kk : ∀ (u : S) (t : State) (H1 : Heap) (locs1 : List Loc), t.heap = H1 → s.vm.Alike t.vm → post u → B u t → H.size ≤ H1.size → (∀ q : Nat, q < H.size → ¬ A1 q → H1[q]? = H[q]?) → va_S A0 H0 H1 locs1 → W p l e R s m args below meth c H1 locs1 (cells + mc) (slots + ms) Q (F0 m (pc + 3) ls (rest))) : W p l e R s m args below meth c H locs cells slots Q (F0 m pc ls st0) := by
  intro T hT X
  rcases hr T hT X with ⟨v, st₀, t, T', L, h0, X', hL, e1, e2, ⟨⟨u, hv, hp, hb⟩, hF⟩, st⟩ | ⟨q, st₀, t, T', L, E, ce, h0, X', hL, e1, e2, ⟨u, hp, hb, hF⟩, hce, hcv, hcl, st⟩
  · cases hv
    obtain ⟨k1, k2, k3⟩ := vx_keep h0 e1 hS hA hf hL hF
    obtain ⟨t2, a1, b1⟩ := kk u t T'.heap (locs ++ L) e1.symm (by rw [← e2]; exact X'.warmed.alike) hp hb k1 k2 k3 T' rfl X'
    exact ⟨t2, st t2 a1, b1⟩
  · obtain ⟨k1, k2, k3⟩ := vx_keep h0 e1 hS hAX hf hL hF
    obtain ⟨t2, a1, b1⟩ := kx E ce q u t T'.heap (locs ++ L) e1.symm (by rw [← e2]; exact X'.warmed.alike) hp hb k1 k2 k3 (by rw [e1]; exact hce) hcv hcl T' rfl X'
    exact ⟨t2, st.trans a1, b1⟩
/-- caught by the row x of this method's table; the rows ahead don't take it -/
theorem vx_catch {own name : String} {E : String} {ce : Cell} {q : Addr} (hown : s.vm.findClass own = some m.cls) (pre : List ExceptionTableEntry) (x : ExceptionTableEntry) (suf : List ExceptionTableEntry) (hsplit : c.exceptionTable.toList = pre ++ x :: suf)
    (hpass : ∀ z ∈ pre, covers z pc = false ∨ (z.catchType ≠ 0 ∧ ∃ nm : String, (Cond.classLink own z.catchType nm).before args s = true ∧ va_Nc E nm s)) (hx : covers x pc = true) (h0 : x.catchType ≠ 0)
    (hlink : (Cond.classLink own x.catchType name).before args s = true) (hcast : (Cond.castable E name).before args s = true) (hcell : H[q]? = some ce) (hv : ce.vm = .none) (hcl : s.vm.findClass E = some ce.cls)
    (kk : W p l e R s m args below meth c H locs cells slots Q (F0 m x.handlerPc ls [.ref q])) : vx_W p l e R s m args below meth c H locs cells slots Q (F0 m pc ls rest) q := by
  intro T hT X
  have hpl : e.platform.magicAccessors = ({} : Platform).magicAccessors := by rw [X.admits.platform]
  obtain ⟨c3, c4, hc3, hc4, hasg⟩ := Cond.castable_spec hcast
  cases Option.some.inj (hc3.symm.trans hcl)
  obtain ⟨c5, hc5, hcl5⟩ := Cond.classLink_spec hown hlink e.platform hpl
  cases Option.some.inj (hc4.symm.trans hc5)
  obtain ⟨vm', X', st⟩ := X.thenCaughtThrough q (g := F0 m pc ls rest) rfl (Steps.refl _) (by rw [hT]; exact hcell) (by rw [hv]; rfl) (by obtain ⟨k9, h9, -⟩ := Vm.findClass_spec hcl; exact ⟨k9, h9⟩) pre x suf hsplit
    (fun z hz => by
      rcases hpass z hz with h | ⟨hz0, nm, hl1, hn1⟩
      · exact Or.inl h
      · obtain ⟨c6, hc6, hcl6⟩ := Cond.classLink_spec hown hl1 e.platform hpl
        obtain ⟨a8, b8, h1, h2, h3⟩ := hn1
        cases Option.some.inj (h1.symm.trans hcl)
        cases Option.some.inj (h2.symm.trans hc6)
        exact Or.inr ⟨hz0, _, hcl6, h3⟩) hx (Or.inr ⟨h0, c4, hcl5, hasg⟩)
  obtain ⟨t, a1, b1⟩ := kk (T.setVm vm') hT X'
  exact ⟨t, st.trans a1, b1⟩
end Rows
section Ends
variable {p : Program} {l : Launch} {e : Env} {R : Room} {s : State} {m : MethodId} {args : Array Value} {below : List Frame} {meth : Method} {c : Code} {H : Heap} {locs : List Loc} {cells slots : Nat} {Q : State → Prop}
variable {mc ms : Nat} {free : Addr → Prop} {A0 A1 : Nat → Prop} {H0 : Heap} {a : Array Value} {ls : Array Slot} {st0 rest : List Value}
variable {Qc : Array Value → State → Outcome → State → Prop} {XC : String → State → State → Prop}
/-- what a body that may throw owes at its end -/
def vx_MQ (below : List Frame) (Qc : Array Value → State → Outcome → State → Prop) (XC : String → State → State → Prop) (a : Array Value) (s : State) (mc ms : Nat) (free : Addr → Prop) : State → Prop := fun t =>
  ∃ o, t.status = .running ∧ Ended t below o ∧ vx_Q Qc XC mc ms free a s o t
theorem vx_ret {g : JFrame} {mc ms : Nat} (k : W p l e R s m args below meth c H locs cells slots (MQ below Qc args s mc ms free) g) : W p l e R s m args below meth c H locs cells slots (vx_MQ below Qc XC args s mc ms free) g := by
  intro T hT X
  obtain ⟨t, a1, o, b1, b2, b3, b4⟩ := k T hT X
  exact ⟨t, a1, o, b1, b2, Or.inl ⟨b3, b4⟩⟩
/-- not caught here: it goes on to the caller -/
theorem vx_widen {g : JFrame} {q : Addr} {k n : Nat} (h1 : cells ≤ k) (h2 : slots ≤ n) (kk : vx_W p l e R s m args below meth c H locs k n Q g q) : vx_W p l e R s m args below meth c H locs cells slots Q g q := fun T hT X => kk T hT (stand_widen X h1 h2)
theorem vx_out {pc : Nat} {E : String} {ce : Cell} {q : Addr} {mc ms : Nat} (hout : ∀ x ∈ c.exceptionTable.toList, covers x pc = false) (hlocks : meth.locks = false) (hcell : H[q]? = some ce) (hv : ce.vm = .none) (hcl : s.vm.findClass E = some ce.cls)
    (hx : ∀ t : State, t.heap = H → s.vm.Alike t.vm → XC E s t) (hf : ∀ z ∈ locs, free z.base) (hc : cells ≤ mc) (hs : slots ≤ ms) :
    vx_W p l e R s m args below meth c H locs cells slots (vx_MQ below Qc XC args s mc ms free) (F0 m pc ls rest) q := by
  intro T hT X
  obtain ⟨st1, hrun, hend, hW, hsm⟩ := X.leaveThrown q (g := F0 m pc ls rest) rfl rfl rfl hout hlocks
  have hcell9 : (T.setFrames (.throwing q :: below)).heap[q]? = some ce := by
    show T.heap[q]? = some ce
    rw [hT]; exact hcell
  exact ⟨_, st1, .threw q, hrun, hend, Or.inr ⟨q, rfl, E, ce, locs, hx _ hT hW.alike, hcell9, hv, hcl, hW, hsm.mono hc hs, hf⟩⟩
theorem vx_frame {U : State} {k n : Nat} (h : s.sameButNew ({ U with vm := s.vm } : State) locs k n) : s.heap.size ≤ U.heap.size ∧ ∀ q : Nat, q < s.heap.size → (∀ z ∈ locs, z.base ≠ q) → U.heap[q]? = s.heap[q]? := by
  obtain ⟨-, h2, -, -, -, h6⟩ := h
  refine ⟨h2, fun q hq hz => ?_⟩
  obtain ⟨c9, e1, e2, e3, e4⟩ := h6 q _ (Array.getElem?_eq_getElem hq)
  have hs : c9.slots = (s.heap[q]).slots := Array.ext_getElem? fun i => e4 i fun hm => hz _ hm rfl
  have h9 : c9 = s.heap[q] := by
    rw [hs] at e2
    exact e2
  have e5 : U.heap[q]? = some c9 := e1
  rw [e5, h9, Array.getElem?_eq_getElem hq]
/-- the words of a throw but the four that speak of the heap -/
def vx_no (w : Cond) : Bool := decide (w ≠ .isRef (.static Bundle.tN "UNASSIGNED_STACK" Bundle.steD)) && decide (w ≠ .isRef (.static Bundle.tN "SUPPRESSED_SENTINEL" Bundle.listD)) && decide (w ≠ .laysStatic Bundle.tN "UNASSIGNED_STACK" Bundle.steD) && decide (w ≠ .laysStatic Bundle.tN "SUPPRESSED_SENTINEL" Bundle.listD)
def vx_at0 (own : String) (ic : Nat) (X : String) (names : List String) : List Cond := (Bundle.ownAtoms0 own ic X names).filter vx_no
def vx_atS (own : String) (ic : Nat) (X : String) (names : List String) : List Cond := (Bundle.ownAtoms own ic X names).filter vx_no
/-- a word that the tables alone decide, or a good one -/
def vx_ot (w : Cond) : Bool := w.onTables || goodWord w
theorem vx_ot_at {args a' : Array Value} {s U : State} {w : Cond} (hW : s.WarmedH U.vm) (hvm : s.vm = U.vm) (hg : vx_ot w = true) (h : w.before args s = true) : w.before a' U = true := by
  simp only [vx_ot, Bool.or_eq_true] at hg
  rcases hg with hg | hg
  · exact va_tabs hg hvm h
  · exact word_at hW (good_of_word hg) h
/-- a list's words: the good ones out of the method's own list, the others by premises of their own -/
theorem vx_hat {args : Array Value} {s : State} {L B : List Cond} (h1 : ∀ w ∈ L.filter goodWord, w.before args s = true) (h2 : ∀ w ∈ L.filter (fun w => !goodWord w), w ∈ B) (h3 : ∀ w ∈ B, w.before args s = true) : ∀ w ∈ L, w.before args s = true := by
  intro w hw
  by_cases g : goodWord w = true
  · exact h1 w (List.mem_filter.mpr ⟨hw, g⟩)
  · refine h3 w (h2 w (List.mem_filter.mpr ⟨hw, ?_⟩))
    show (!goodWord w) = true
    cases hgw : goodWord w
    · rfl
    · exact absurd hgw g
theorem vx_c {args : Array Value} {s : State} {w : Cond} {B : List Cond} (h : w.before args s = true) (t : ∀ w ∈ B, w.before args s = true) : ∀ w' ∈ w :: B, w'.before args s = true := fun w' h' => (List.mem_cons.mp h').elim (fun e => by rw [e]; exact h) (t w')
theorem vx_n {args : Array Value} {s : State} : ∀ w ∈ ([] : List Cond), w.before args s = true := fun _ h => nomatch h
theorem vx_own {args : Array Value} {s : State} {L : List Cond} (h1 : ∀ w ∈ L.filter vx_no, w.before args s = true)
    (hU : (Cond.isRef (.static Bundle.tN "UNASSIGNED_STACK" Bundle.steD)).before args s = true) (hN : (Cond.isRef (.static Bundle.tN "SUPPRESSED_SENTINEL" Bundle.listD)).before args s = true)
    (lU : (Cond.laysStatic Bundle.tN "UNASSIGNED_STACK" Bundle.steD).before args s = true) (lN : (Cond.laysStatic Bundle.tN "SUPPRESSED_SENTINEL" Bundle.listD).before args s = true) : ∀ w ∈ L, w.before args s = true := by
  intro w hw
  by_cases e1 : w = .isRef (.static Bundle.tN "UNASSIGNED_STACK" Bundle.steD)
  · rw [e1]; exact hU
  · by_cases e2 : w = .isRef (.static Bundle.tN "SUPPRESSED_SENTINEL" Bundle.listD)
    · rw [e2]; exact hN
    · by_cases e3 : w = .laysStatic Bundle.tN "UNASSIGNED_STACK" Bundle.steD
      · rw [e3]; exact lU
      · by_cases e4 : w = .laysStatic Bundle.tN "SUPPRESSED_SENTINEL" Bundle.listD
        · rw [e4]; exact lN
        · exact h1 w (List.mem_filter.mpr ⟨hw, by unfold vx_no; rw [decide_eq_true e1, decide_eq_true e2, decide_eq_true e3, decide_eq_true e4]; rfl⟩)
/-- where a static field lies, its class's statics cell in H -/
def vx_L (C n d : String) (A : Nat → Prop) (U : State) (H : Heap) : Prop := ∃ (c : ClassId) (k : Class) (i : Nat) (f : Field) (a : Nat) (cell : Cell), U.vm.findClass C = some c ∧ U.fieldFound? C n d = some (c, k, i, f) ∧ f.isStatic = true ∧ k.statics = some a ∧ H[a]? = some cell ∧ cell.vm.isStatics = true ∧ cell.cls = c ∧ f.slot < cell.slots.size ∧ k.staticTypes[f.slot]? = some f.type ∧ ¬ A a
theorem vx_L.moved {C n d : String} {A : Nat → Prop} {u U : State} {H : Heap} (hvm : u.vm.Alike U.vm) (h : vx_L C n d A u H) : vx_L C n d A U H := by
  obtain ⟨c, k, i, f, a, cell, h1, h2, h3, h4, h5, h6, h7, h8, h9, h10⟩ := h
  obtain ⟨k', hi', he⟩ := State.fieldFound?_setVm hvm h2
  exact ⟨c, k', i, f, a, cell, by rw [hvm.findClass]; exact h1, hi', h3, by rw [he]; exact h4, h5, h6, h7, h8, by rw [he]; exact h9, h10⟩
theorem vx_L.kept {C n d : String} {A : Nat → Prop} {U : State} {H H1 : Heap} (h : vx_L C n d A U H) (hq : ∀ a : Nat, a < H.size → ¬ A a → H1[a]? = H[a]?) : vx_L C n d A U H1 := by
  obtain ⟨c, k, i, f, a, cell, h1, h2, h3, h4, h5, h6, h7, h8, h9, h10⟩ := h
  exact ⟨c, k, i, f, a, cell, h1, h2, h3, h4, by rw [hq a (Array.getElem?_eq_some_iff.mp h5).1 h10]; exact h5, h6, h7, h8, h9, h10⟩
theorem vx_L.narrow {C n d : String} {A B : Nat → Prop} {U : State} {H : Heap} (h : vx_L C n d A U H) (hAB : ∀ q, B q → A q) : vx_L C n d B U H := by
  obtain ⟨c, k, i, f, a, cell, h1, h2, h3, h4, h5, h6, h7, h8, h9, h10⟩ := h
  exact ⟨c, k, i, f, a, cell, h1, h2, h3, h4, h5, h6, h7, h8, h9, fun z => h10 (hAB _ z)⟩
theorem vx_L.word {C n d : String} {A : Nat → Prop} {s : State} {args : Array Value} (h : vx_L C n d A s s.heap) : (Cond.laysStatic C n d).before args s = true := by
  obtain ⟨c, k, i, f, a, cell, h1, h2, h3, h4, h5, h6, h7, h8, h9, -⟩ := h
  show (Cond.laysStatic C n d).holds args s none s [] = true
  exact Cond.laysStatic_of h1 h2 h3 h4 h5 h6 h7 h8 h9
/-- .. and what it holds: null or some reference -/
def vx_Zq (C n d : String) (A : Nat → Prop) (U : State) (H : Heap) : Prop := va_Zq C n d A U H ∧ vx_L C n d A U H
theorem vx_Zq.moved {C n d : String} {A : Nat → Prop} {u U : State} {H : Heap} (hvm : u.vm.Alike U.vm) (h : vx_Zq C n d A u H) : vx_Zq C n d A U H := ⟨va_Zq.moved hvm h.1, vx_L.moved hvm h.2⟩
theorem vx_Zq.kept {C n d : String} {A : Nat → Prop} {U : State} {H H1 : Heap} (h : vx_Zq C n d A U H) (hq : ∀ a : Nat, a < H.size → ¬ A a → H1[a]? = H[a]?) : vx_Zq C n d A U H1 := ⟨va_Zq.kept h.1 hq, vx_L.kept h.2 hq⟩
theorem vx_Zq.narrow {C n d : String} {A B : Nat → Prop} {U : State} {H : Heap} (h : vx_Zq C n d A U H) (hAB : ∀ q, B q → A q) : vx_Zq C n d B U H := ⟨va_Zq.narrow h.1 hAB, vx_L.narrow h.2 hAB⟩
theorem vx_Zqof {args : Array Value} {s : State} {C n d : String} {A : Nat → Prop} (hl : (Cond.laysStatic C n d).before args s = true) (hini : (Cond.initialized C).before args s = true) (h : (Cond.isRef (.static C n d)).before args s = true) (hA : ∀ a : Nat, a < s.heap.size → ¬ A a) : vx_Zq C n d A s s.heap := by
  refine ⟨va_Zqof hl hini h hA, ?_⟩
  obtain ⟨c, k, i, f, a, cell, h1, h2, h3, h4, h5, h6, h7, h8, h9⟩ := Cond.laysStatic_spec hl
  exact ⟨c, k, i, f, a, cell, h1, h2, h3, h4, h5, h6, h7, h8, h9, hA a (Array.getElem?_eq_some_iff.mp h5).1⟩
theorem vx_isRef {C n d : String} {v : Value} {A : Nat → Prop} {s : State} {args : Array Value} (h : va_Z C n d v A s s.heap) (hv : v.isRef = true) : (Cond.isRef (.static C n d)).before args s = true := by
  obtain ⟨cf, kf, fi, f, a, cell, h1, h2, h3, h4, h5, h6, h7, -⟩ := h
  have he : (Term.static C n d).eval args s none [] s = some v := by
    simp [Term.eval, State.fieldNamed?, h1, h2, h4, h5, h6, h7]
  simp only [Cond.before, Cond.holds, Cond.value, he]
  cases v <;> simp_all [Value.isRef]
theorem vx_isRefq {C n d : String} {A : Nat → Prop} {s : State} {args : Array Value} (h : va_Zq C n d A s s.heap) : (Cond.isRef (.static C n d)).before args s = true := by
  rcases h with h | ⟨t, h⟩
  · exact vx_isRef h rfl
  · exact vx_isRef h rfl
/-- the same frame, seen from here: as if the method were called anew in this heap -/
theorem vx_rebase {T : State} (X : Stand p l e R s m args below meth c T locs cells slots) {R' : Room} (hf : R'.frames ≤ R.frames) (hl : R'.locals ≤ R.locals) (hc : cells + R'.cells ≤ R.cells) (hs : slots + R'.slots ≤ R.slots) :
    Stand p l e R' ((T.setVm s.vm).setFrames (.invoking m args :: below)) m args below meth c T [] 0 0 := by
  have htop : (T.setVm s.vm).topJava?.isSome := X.here.top
  have hF : ((T.setVm s.vm).setFrames (.invoking m args :: below)).frames = .invoking m args :: below := State.frames_setFrames _ (State.cur_lt_of_top htop)
  obtain ⟨g₀, hg0⟩ := Option.isSome_iff_exists.mp htop
  obtain ⟨r, hr⟩ := State.topJava?_eq_some.mp hg0
  have hl9 : e.platform.stackLimits (T.setVm s.vm).me = e.platform.stackLimits s.me := X.limits
  have hb9 : (T.setVm s.vm).me.stackBytes = s.me.stackBytes := X.bytes
  refine ⟨X.admits, X.cas, X.clock, hF, ?_, X.hears, X.method, X.code, X.here, X.tail, X.warmed, ?_, ?_, ?_⟩
  · have h := X.room
    have hU : ((T.setVm s.vm).setFrames (.invoking m args :: below)).localsInUse = s.localsInUse := by
      rw [State.localsInUse_invoking hF (meth := meth) (c := c) X.method X.code, State.localsInUse_invoking X.frames X.method X.code]
    simp only [State.hasRoom, Bool.and_eq_true, decide_eq_true_eq] at h ⊢
    obtain ⟨⟨⟨⟨h1, h2, h3, h4, h5, h6⟩, h7⟩, h8⟩, h9⟩ := h
    rw [X.frames, List.length_cons] at h2 h3
    have q1 := X.heapSize
    have q2 := X.used
    simp only [hF, hU, List.length_cons, State.stackLimits_setFrames, State.stackBytes_setFrames, hl9, hb9]
    refine ⟨⟨⟨⟨by omega, by omega, by omega, by omega, by omega, h6⟩, ?_⟩, ?_⟩, X.book⟩
    · show T.heap.size + R'.cells ≤ e.platform.maxCells
      omega
    · show T.slotsUsed + R'.slots ≤ e.platform.maxSlots
      omega
  · rw [State.stackLimits_setFrames]; rfl
  · rw [State.stackBytes_setFrames]; rfl
  · refine ⟨?_, Nat.le_refl _, Nat.le_refl _, ?_, ?_, fun a c9 h9 => ⟨c9, h9, rfl, rfl, fun _ _ => rfl⟩⟩
    · obtain ⟨t, ht, -⟩ := State.frames_cons hr
      show T.setVm s.vm = { ((T.setVm s.vm).setFrames (.invoking m args :: below)).setFrames (T.setVm s.vm).frames with heap := T.heap, slotsUsed := T.slotsUsed }
      rw [State.setFrames_setFrames, State.setFrames_self ht]
      rfl
    · show T.slotsUsed = T.slotsUsed + ((T.heap.toList.drop T.heap.size).map (·.slots.size)).sum
      rw [List.drop_eq_nil_of_le (Nat.le_of_eq Array.length_toList)]
      rfl
    · show ((T.heap.toList.drop T.heap.size).map (·.slots.size)).sum ≤ 0
      rw [List.drop_eq_nil_of_le (Nat.le_of_eq Array.length_toList)]
      exact Nat.le_refl _
/-- 'throw new E()': new; dup; invokespecial; athrow -/
theorem vx_throw0 {cc : ByteArray} {pc : Nat} (hexec : p.tables.exec = Jvm.exec) (hb : c.code = cc) (hl : l.stackTraces = false) {own cls : String} {names : List String} {ik ic mc ms : Nat} {A : Nat → Prop}
    (hown : s.vm.findClass own = some m.cls) (hcls : Bundle.fit cls = true) (hnames : ∀ n ∈ names, Bundle.fit n = true)
    (hk : (Cond.classLink own ik cls).before args s = true) (hini : (Cond.initialized cls).before args s = true) (hat : ∀ w ∈ vx_at0 own ic cls names, w.before args s = true)
    (hgood : ∀ w ∈ Cond.classLink own ik cls :: Cond.initialized cls :: vx_at0 own ic cls names, vx_ot w = true)
    (hU : vx_Zq Bundle.tN "UNASSIGNED_STACK" Bundle.steD A s s.heap) (hN : vx_Zq Bundle.tN "SUPPRESSED_SENTINEL" Bundle.listD A s s.heap) (hS : va_S A s.heap H locs) (hsize : ls.size = c.maxLocals)
    (d0 : decode cc pc = .ok (.new ik, 3)) (d3 : decode cc (pc + 3) = .ok (.dup, 1)) (d4 : decode cc (pc + 4) = .ok (.invokespecial ic, 3)) (d7 : decode cc (pc + 7) = .ok (.athrow, 1))
    (hout : ∀ x ∈ c.exceptionTable.toList, covers x (pc + 7) = false)
    (hRframes : names.length + 3 < R.frames) (hRlocals : (rest.map fun v => v.category).sum + (13 * (names.length + 1) + 42) ≤ R.locals) (hRcells : cells + 1 ≤ R.cells) (hRslots : slots + 6 ≤ R.slots) (hlocks : meth.locks = false)
    (hx : ∀ t : State, s.vm.Alike t.vm → H.size ≤ t.heap.size → (∀ q : Nat, q < H.size → t.heap[q]? = H[q]?) → XC cls s t)
    (hf : ∀ z ∈ locs, free z.base) (hc : cells + 1 ≤ mc) (hs : slots + 6 ≤ ms) :
    W p l e R s m args below meth c H locs cells slots (vx_MQ below Qc XC args s mc ms free) (F0 m pc ls rest) := by
  intro T hT X
  have htr : e.platform.stackTraces = false := (show e.platform.stackTraces = l.stackTraces by rw [X.admits.platform]).trans hl
  have Y := vx_rebase X (R' := { frames := R.frames, locals := R.locals, cells := 1, slots := 6 }) (Nat.le_refl _) (Nat.le_refl _) hRcells hRslots
  obtain ⟨s', hA⟩ : ∃ z, z = (T.setVm s.vm).setFrames (.invoking m args :: below) := ⟨_, rfl⟩
  rw [← hA] at Y
  have hvm : s'.vm = s.vm := by rw [hA]; rfl
  have hhp : s'.heap = H := by rw [hA]; exact hT
  have hW0 : s.WarmedH s'.vm := by rw [hvm]; exact State.WarmedH.refl s
  have hat' : ∀ w ∈ vx_at0 own ic cls names, w.before args s' = true := fun w hw => vx_ot_at hW0 hvm.symm (hgood w (List.mem_cons_of_mem _ (List.mem_cons_of_mem _ hw))) (hat w hw)
  have hk' : (Cond.classLink own ik cls).before args s' = true := vx_ot_at hW0 hvm.symm (hgood _ List.mem_cons_self) hk
  have hini' : (Cond.initialized cls).before args s' = true := vx_ot_at hW0 hvm.symm (hgood _ (List.mem_cons_of_mem _ List.mem_cons_self)) hini
  have hU' : vx_Zq Bundle.tN "UNASSIGNED_STACK" Bundle.steD A s' s'.heap := by rw [hhp]; exact vx_Zq.moved hW0.alike (hU.kept hS.2.1)
  have hN' : vx_Zq Bundle.tN "SUPPRESSED_SENTINEL" Bundle.listD A s' s'.heap := by rw [hhp]; exact vx_Zq.moved hW0.alike (hN.kept hS.2.1)
  have h : ∀ w ∈ Bundle.ownAtoms0 own ic cls names, w.before args s' = true := vx_own hat' (vx_isRefq hU'.1) (vx_isRefq hN'.1) hU'.2.word hN'.2.word
  have hown' : s'.vm.findClass own = some m.cls := by rw [hvm]; exact hown
  have hins : (Cond.instantiable cls 6).before args s' = true := h _ (by simp [Bundle.ownAtoms0])
  obtain ⟨vm₁, cX, kX, hfX, hkX, -, -, X₁, st1⟩ := Y.newCold hexec (own := own) (C := cls) (index := ik) (n := 6) hown' hk' hins hini'
    (g := F0 m pc ls rest) rfl (by rw [hb]; exact d0) (Nat.le_refl _) (Nat.le_refl _)
  generalize hT1 : (T.setVm vm₁).pushCell { cls := cX, slots := kX.instanceTypes.map defaultValue, vm := .none } = T1 at X₁ st1
  have hcat : (Value.ref T.heap.size).category = 1 := rfl
  have hcellA : T1.heap[T.heap.size]? = some (freshCell cX kX) := by rw [← hT1]; exact State.heap_pushCell_size _ _
  have d3' : decode c.code (pc + 3) = .ok (.dup, 1) := by rw [hb]; exact d3
  obtain ⟨U, hsteps, hrun, hend, hW, hsame, ce, hce, hO⟩ := X₁.ctorThrow0 hexec htr (own := own) (cls := cls) (names := names) (ic := ic) hown' hcls hnames h (fun x hx => nomatch hx) hfX hkX hcellA (by rw [hhp, hT]; exact Nat.le_refl _)
    (g := { method := m, pc := pc + 4, locals := ls, stack := .ref T.heap.size :: .ref T.heap.size :: rest, locked := none }) rfl hsize rfl rfl (rest := rest) rfl
    (by rw [hb]; exact d4) (by rw [hb]; exact d7) hout hRframes (by simp only [List.map_cons, List.sum_cons, hcat]; omega) hlocks
  obtain ⟨f1, f2⟩ := vx_frame hsame
  rw [hhp] at f1 f2
  have hWs : s.WarmedH U.vm := State.WarmedH.trans hW0 hW
  have hcl : s.vm.findClass cls = some ce.cls := by
    have h9 := hO.cls
    rw [hvm] at h9
    exact h9
  have hall : s.sameButNew ({ U with vm := s.vm } : State) locs mc ms := by
    subst hA
    obtain ⟨e1, e2⟩ := hsame
    rw [State.setFrames_setFrames] at e1
    have h2 : (T.setVm s.vm).sameButNew ({ U with vm := s.vm } : State) [] (0 + 1) (0 + 6) := ⟨e1, e2⟩
    have h3 := X.same.trans h2
    rw [List.append_nil] at h3
    exact h3.mono hc hs
  refine ⟨U, ?_, .threw T.heap.size, hrun, hend, Or.inr ⟨T.heap.size, rfl, cls, ce, locs, hx U hWs.alike f1 (fun q hq => f2 q hq (fun z hz => nomatch hz)), hce, hO.vm, hcl, hWs, hall, hf⟩⟩
  refine st1 _ ?_
  show Steps p.tables e below (T1.setTop { method := m, pc := pc + 3, locals := ls, stack := .ref T.heap.size :: rest, locked := none }) _
  jvm_step X₁.here [X₁.here.top, hexec, d3', Value.category]
  exact hsteps
/-- 'throw new E("text")': new; dup; ldc; invokespecial; athrow -/
theorem vx_throwS {cc : ByteArray} {pc : Nat} (hexec : p.tables.exec = Jvm.exec) (hb : c.code = cc) (hl : l.stackTraces = false) {own cls text : String} {names : List String} {ik is ic mc ms sa : Nat} {A : Nat → Prop}
    (hown : s.vm.findClass own = some m.cls) (hcls : Bundle.fit cls = true) (hnames : ∀ n ∈ names, Bundle.fit n = true)
    (hk : (Cond.classLink own ik cls).before args s = true) (hini : (Cond.initialized cls).before args s = true) (hstr : vk_R own is text sa s) (hat : ∀ w ∈ vx_atS own ic cls names, w.before args s = true)
    (hgood : ∀ w ∈ Cond.classLink own ik cls :: Cond.initialized cls :: vx_atS own ic cls names, vx_ot w = true)
    (hU : vx_Zq Bundle.tN "UNASSIGNED_STACK" Bundle.steD A s s.heap) (hN : vx_Zq Bundle.tN "SUPPRESSED_SENTINEL" Bundle.listD A s s.heap) (hS : va_S A s.heap H locs) (hsize : ls.size = c.maxLocals)
    (d0 : decode cc pc = .ok (.new ik, 3)) (d3 : decode cc (pc + 3) = .ok (.dup, 1)) (d4 : decode cc (pc + 4) = .ok (.ldc is, 2)) (d6 : decode cc (pc + 6) = .ok (.invokespecial ic, 3)) (d9 : decode cc (pc + 9) = .ok (.athrow, 1))
    (hout : ∀ x ∈ c.exceptionTable.toList, covers x (pc + 9) = false)
    (hRframes : names.length + 3 < R.frames) (hRlocals : (rest.map fun v => v.category).sum + (13 * (names.length + 1) + 43) ≤ R.locals) (hRcells : cells + 1 ≤ R.cells) (hRslots : slots + 6 ≤ R.slots) (hlocks : meth.locks = false)
    (hx : ∀ t : State, s.vm.Alike t.vm → H.size ≤ t.heap.size → (∀ q : Nat, q < H.size → t.heap[q]? = H[q]?) → XC cls s t)
    (hf : ∀ z ∈ locs, free z.base) (hc : cells + 1 ≤ mc) (hs : slots + 6 ≤ ms) :
    W p l e R s m args below meth c H locs cells slots (vx_MQ below Qc XC args s mc ms free) (F0 m pc ls rest) := by
  intro T hT X
  have htr : e.platform.stackTraces = false := (show e.platform.stackTraces = l.stackTraces by rw [X.admits.platform]).trans hl
  have Y := vx_rebase X (R' := { frames := R.frames, locals := R.locals, cells := 1, slots := 6 }) (Nat.le_refl _) (Nat.le_refl _) hRcells hRslots
  obtain ⟨s', hA⟩ : ∃ z, z = (T.setVm s.vm).setFrames (.invoking m args :: below) := ⟨_, rfl⟩
  rw [← hA] at Y
  have hvm : s'.vm = s.vm := by rw [hA]; rfl
  have hhp : s'.heap = H := by rw [hA]; exact hT
  have hW0 : s.WarmedH s'.vm := by rw [hvm]; exact State.WarmedH.refl s
  have hat' : ∀ w ∈ vx_atS own ic cls names, w.before args s' = true := fun w hw => vx_ot_at hW0 hvm.symm (hgood w (List.mem_cons_of_mem _ (List.mem_cons_of_mem _ hw))) (hat w hw)
  have hk' : (Cond.classLink own ik cls).before args s' = true := vx_ot_at hW0 hvm.symm (hgood _ List.mem_cons_self) hk
  have hini' : (Cond.initialized cls).before args s' = true := vx_ot_at hW0 hvm.symm (hgood _ (List.mem_cons_of_mem _ List.mem_cons_self)) hini
  have hU' : vx_Zq Bundle.tN "UNASSIGNED_STACK" Bundle.steD A s' s'.heap := by rw [hhp]; exact vx_Zq.moved hW0.alike (hU.kept hS.2.1)
  have hN' : vx_Zq Bundle.tN "SUPPRESSED_SENTINEL" Bundle.listD A s' s'.heap := by rw [hhp]; exact vx_Zq.moved hW0.alike (hN.kept hS.2.1)
  have h : ∀ w ∈ Bundle.ownAtoms own ic cls names, w.before args s' = true := vx_own hat' (vx_isRefq hU'.1) (vx_isRefq hN'.1) hU'.2.word hN'.2.word
  have hown' : s'.vm.findClass own = some m.cls := by rw [hvm]; exact hown
  have hins : (Cond.instantiable cls 6).before args s' = true := h _ (by simp [Bundle.ownAtoms])
  obtain ⟨vm₁, cX, kX, hfX, hkX, -, -, X₁, st1⟩ := Y.newCold hexec (own := own) (C := cls) (index := ik) (n := 6) hown' hk' hins hini'
    (g := F0 m pc ls rest) rfl (by rw [hb]; exact d0) (Nat.le_refl _) (Nat.le_refl _)
  generalize hT1 : (T.setVm vm₁).pushCell { cls := cX, slots := kX.instanceTypes.map defaultValue, vm := .none } = T1 at X₁ st1
  have hcat : (Value.ref T.heap.size).category = 1 := rfl
  have hcellA : T1.heap[T.heap.size]? = some (freshCell cX kX) := by rw [← hT1]; exact State.heap_pushCell_size _ _
  have d3' : decode c.code (pc + 3) = .ok (.dup, 1) := by rw [hb]; exact d3
  have d4' : decode c.code (pc + 4) = .ok (.ldc is, 2) := by rw [hb]; exact d4
  have hstr' : vk_R own is text sa s' := vk_R.warm hW0 hstr
  obtain ⟨U, hsteps, hrun, hend, hW, hsame, ce, hce, hO⟩ := X₁.ctorThrowS hexec htr (own := own) (cls := cls) (names := names) (ic := ic) hown' hcls hnames h (fun x hx => nomatch hx) hfX hkX hcellA (by rw [hhp, hT]; exact Nat.le_refl _) (msg := .ref sa) rfl
    (g := { method := m, pc := pc + 6, locals := ls, stack := .ref sa :: .ref T.heap.size :: .ref T.heap.size :: rest, locked := none }) rfl hsize rfl rfl (rest := rest) rfl
    (by rw [hb]; exact d6) (by rw [hb]; exact d9) hout hRframes (by simp only [List.map_cons, List.sum_cons, hcat]; omega) hlocks
  obtain ⟨f1, f2⟩ := vx_frame hsame
  rw [hhp] at f1 f2
  have hWs : s.WarmedH U.vm := State.WarmedH.trans hW0 hW
  have hcl : s.vm.findClass cls = some ce.cls := by
    have h9 := hO.cls
    rw [hvm] at h9
    exact h9
  have hall : s.sameButNew ({ U with vm := s.vm } : State) locs mc ms := by
    subst hA
    obtain ⟨e1, e2⟩ := hsame
    rw [State.setFrames_setFrames] at e1
    have h2 : (T.setVm s.vm).sameButNew ({ U with vm := s.vm } : State) [] (0 + 1) (0 + 6) := ⟨e1, e2⟩
    have h3 := X.same.trans h2
    rw [List.append_nil] at h3
    exact h3.mono hc hs
  refine ⟨U, ?_, .threw T.heap.size, hrun, hend, Or.inr ⟨T.heap.size, rfl, cls, ce, locs, hx U hWs.alike f1 (fun q hq => f2 q hq (fun z hz => nomatch hz)), hce, hO.vm, hcl, hWs, hall, hf⟩⟩
  refine st1 _ ?_
  show Steps p.tables e below (T1.setTop { method := m, pc := pc + 3, locals := ls, stack := .ref T.heap.size :: rest, locked := none }) _
  jvm_step X₁.here [X₁.here.top, hexec, d3', Value.category]
  exact X₁.ldcString hexec (own := own) (text := text) (index := is) (a := sa) hown' hstr'.1 hstr'.2
    (g := { method := m, pc := pc + 4, locals := ls, stack := .ref T.heap.size :: .ref T.heap.size :: rest, locked := none }) rfl d4' _ hsteps
/-- 'throw new E("text")', the text by a wide index -/
theorem vx_throwSW {cc : ByteArray} {pc : Nat} (hexec : p.tables.exec = Jvm.exec) (hb : c.code = cc) (hl : l.stackTraces = false) {own cls text : String} {names : List String} {ik is ic mc ms sa : Nat} {A : Nat → Prop}
    (hown : s.vm.findClass own = some m.cls) (hcls : Bundle.fit cls = true) (hnames : ∀ n ∈ names, Bundle.fit n = true)
    (hk : (Cond.classLink own ik cls).before args s = true) (hini : (Cond.initialized cls).before args s = true) (hstr : vk_R own is text sa s) (hat : ∀ w ∈ vx_atS own ic cls names, w.before args s = true)
    (hgood : ∀ w ∈ Cond.classLink own ik cls :: Cond.initialized cls :: vx_atS own ic cls names, vx_ot w = true)
    (hU : vx_Zq Bundle.tN "UNASSIGNED_STACK" Bundle.steD A s s.heap) (hN : vx_Zq Bundle.tN "SUPPRESSED_SENTINEL" Bundle.listD A s s.heap) (hS : va_S A s.heap H locs) (hsize : ls.size = c.maxLocals)
    (d0 : decode cc pc = .ok (.new ik, 3)) (d3 : decode cc (pc + 3) = .ok (.dup, 1)) (d4 : decode cc (pc + 4) = .ok (.ldc_w is, 3)) (d7 : decode cc (pc + 7) = .ok (.invokespecial ic, 3)) (d10 : decode cc (pc + 10) = .ok (.athrow, 1))
    (hout : ∀ x ∈ c.exceptionTable.toList, covers x (pc + 10) = false)
    (hRframes : names.length + 3 < R.frames) (hRlocals : (rest.map fun v => v.category).sum + (13 * (names.length + 1) + 43) ≤ R.locals) (hRcells : cells + 1 ≤ R.cells) (hRslots : slots + 6 ≤ R.slots) (hlocks : meth.locks = false)
    (hx : ∀ t : State, s.vm.Alike t.vm → H.size ≤ t.heap.size → (∀ q : Nat, q < H.size → t.heap[q]? = H[q]?) → XC cls s t)
    (hf : ∀ z ∈ locs, free z.base) (hc : cells + 1 ≤ mc) (hs : slots + 6 ≤ ms) :
    W p l e R s m args below meth c H locs cells slots (vx_MQ below Qc XC args s mc ms free) (F0 m pc ls rest) := by
  intro T hT X
  have htr : e.platform.stackTraces = false := (show e.platform.stackTraces = l.stackTraces by rw [X.admits.platform]).trans hl
  have Y := vx_rebase X (R' := { frames := R.frames, locals := R.locals, cells := 1, slots := 6 }) (Nat.le_refl _) (Nat.le_refl _) hRcells hRslots
  obtain ⟨s', hA⟩ : ∃ z, z = (T.setVm s.vm).setFrames (.invoking m args :: below) := ⟨_, rfl⟩
  rw [← hA] at Y
  have hvm : s'.vm = s.vm := by rw [hA]; rfl
  have hhp : s'.heap = H := by rw [hA]; exact hT
  have hW0 : s.WarmedH s'.vm := by rw [hvm]; exact State.WarmedH.refl s
  have hat' : ∀ w ∈ vx_atS own ic cls names, w.before args s' = true := fun w hw => vx_ot_at hW0 hvm.symm (hgood w (List.mem_cons_of_mem _ (List.mem_cons_of_mem _ hw))) (hat w hw)
  have hk' : (Cond.classLink own ik cls).before args s' = true := vx_ot_at hW0 hvm.symm (hgood _ List.mem_cons_self) hk
  have hini' : (Cond.initialized cls).before args s' = true := vx_ot_at hW0 hvm.symm (hgood _ (List.mem_cons_of_mem _ List.mem_cons_self)) hini
  have hU' : vx_Zq Bundle.tN "UNASSIGNED_STACK" Bundle.steD A s' s'.heap := by rw [hhp]; exact vx_Zq.moved hW0.alike (hU.kept hS.2.1)
  have hN' : vx_Zq Bundle.tN "SUPPRESSED_SENTINEL" Bundle.listD A s' s'.heap := by rw [hhp]; exact vx_Zq.moved hW0.alike (hN.kept hS.2.1)
  have h : ∀ w ∈ Bundle.ownAtoms own ic cls names, w.before args s' = true := vx_own hat' (vx_isRefq hU'.1) (vx_isRefq hN'.1) hU'.2.word hN'.2.word
  have hown' : s'.vm.findClass own = some m.cls := by rw [hvm]; exact hown
  have hins : (Cond.instantiable cls 6).before args s' = true := h _ (by simp [Bundle.ownAtoms])
  obtain ⟨vm₁, cX, kX, hfX, hkX, -, -, X₁, st1⟩ := Y.newCold hexec (own := own) (C := cls) (index := ik) (n := 6) hown' hk' hins hini'
    (g := F0 m pc ls rest) rfl (by rw [hb]; exact d0) (Nat.le_refl _) (Nat.le_refl _)
  generalize hT1 : (T.setVm vm₁).pushCell { cls := cX, slots := kX.instanceTypes.map defaultValue, vm := .none } = T1 at X₁ st1
  have hcat : (Value.ref T.heap.size).category = 1 := rfl
  have hcellA : T1.heap[T.heap.size]? = some (freshCell cX kX) := by rw [← hT1]; exact State.heap_pushCell_size _ _
  have d3' : decode c.code (pc + 3) = .ok (.dup, 1) := by rw [hb]; exact d3
  have d4' : decode c.code (pc + 4) = .ok (.ldc_w is, 3) := by rw [hb]; exact d4
  have hstr' : vk_R own is text sa s' := vk_R.warm hW0 hstr
  obtain ⟨U, hsteps, hrun, hend, hW, hsame, ce, hce, hO⟩ := X₁.ctorThrowS hexec htr (own := own) (cls := cls) (names := names) (ic := ic) hown' hcls hnames h (fun x hx => nomatch hx) hfX hkX hcellA (by rw [hhp, hT]; exact Nat.le_refl _) (msg := .ref sa) rfl
    (g := { method := m, pc := pc + 7, locals := ls, stack := .ref sa :: .ref T.heap.size :: .ref T.heap.size :: rest, locked := none }) rfl hsize rfl rfl (rest := rest) rfl
    (by rw [hb]; exact d7) (by rw [hb]; exact d10) hout hRframes (by simp only [List.map_cons, List.sum_cons, hcat]; omega) hlocks
  obtain ⟨f1, f2⟩ := vx_frame hsame
  rw [hhp] at f1 f2
  have hWs : s.WarmedH U.vm := State.WarmedH.trans hW0 hW
  have hcl : s.vm.findClass cls = some ce.cls := by
    have h9 := hO.cls
    rw [hvm] at h9
    exact h9
  have hall : s.sameButNew ({ U with vm := s.vm } : State) locs mc ms := by
    subst hA
    obtain ⟨e1, e2⟩ := hsame
    rw [State.setFrames_setFrames] at e1
    have h2 : (T.setVm s.vm).sameButNew ({ U with vm := s.vm } : State) [] (0 + 1) (0 + 6) := ⟨e1, e2⟩
    have h3 := X.same.trans h2
    rw [List.append_nil] at h3
    exact h3.mono hc hs
  refine ⟨U, ?_, .threw T.heap.size, hrun, hend, Or.inr ⟨T.heap.size, rfl, cls, ce, locs, hx U hWs.alike f1 (fun q hq => f2 q hq (fun z hz => nomatch hz)), hce, hO.vm, hcl, hWs, hall, hf⟩⟩
  refine st1 _ ?_
  show Steps p.tables e below (T1.setTop { method := m, pc := pc + 3, locals := ls, stack := .ref T.heap.size :: rest, locked := none }) _
  jvm_step X₁.here [X₁.here.top, hexec, d3', Value.category]
  exact X₁.ldcStringW hexec (own := own) (text := text) (index := is) (a := sa) hown' hstr'.1 hstr'.2
    (g := { method := m, pc := pc + 4, locals := ls, stack := .ref T.heap.size :: .ref T.heap.size :: rest, locked := none }) rfl d4' _ hsteps
end Ends
section Bodies
variable {l : Launch}
theorem vx_ofW {y : MethodName} {ws ws' : List Cond} {rm : Room} {Pc : Array Value → State → Prop} {Qc : Array Value → State → Outcome → State → Prop} {XC : String → State → State → Prop} {mc ms : Nat} {free : Addr → Prop} {cc : ByteArray} {maxL : Nat} {ret : Option FieldType}
    (hy : plainName y.cls = true) (hw : ws = Cond.code y cc maxL ret :: ws')
    (body : ∀ p e s m args below meth c s₁, BodyLoose p l y (headSpec ws rm) cc maxL ret e s m args below meth c s₁ → c.maxLocals = maxL → (∀ x ∈ c.exceptionTable.toList, False) → Pc args s →
      W p l e (headSpec ws rm).room s m args below meth c s.heap [] 0 0 (vx_MQ below Qc XC args s mc ms free) (entryFrame m args maxL)) : vx_Met l y ws rm Pc Qc XC mc ms free := by
  refine MetFree.of_bodyS (code := cc) (maxLocals := maxL) (ret := ret) hy ?_ ?_
  · intro args s m h hn
    obtain ⟨meth, c, h1, h2, h3, h4, h5, h6, -, -⟩ := Cond.code_spec hn (atoms_spec (ws := ws) h _ (by rw [hw]; exact List.mem_cons_self))
    exact ⟨meth, c, h1, h2, h3, h4, h5, h6⟩
  · intro p e s m args below meth c s₁ B hml hP _
    have hh0 : s₁.heap = s.heap := by rw [B.state]; rfl
    have ht : ∀ x ∈ c.exceptionTable.toList, False := by
      obtain ⟨meth9, c9, h1, h2, -, -, -, -, h7, -⟩ := Cond.code_spec B.named (atoms_spec (ws := ws) B.pre _ (by rw [hw]; exact List.mem_cons_self))
      cases Option.some.inj (h1.symm.trans B.method)
      cases Option.some.inj (h2.symm.trans (Stand.of_body B).code)
      intro x hx
      rw [Array.isEmpty_iff.mp h7] at hx
      cases hx
    obtain ⟨t, a1, o, b1, b2, b3⟩ := body p e s m args below meth c s₁ B hml ht hP s₁ hh0 (Stand.of_body B)
    exact ⟨t, o, a1, b1, b2, b3⟩
/-- the table of a body with handlers -/
theorem vx_table {p : Program} {x y : MethodName} {S : Spec} {cc bytes : ByteArray} {maxL maxL' : Nat} {ret ret' : Option FieldType} {e : Env} {s s₁ : State} {m : MethodId} {args : Array Value} {below : List Frame} {meth : Method} {c : Code} {hh : List (Nat × Nat × Nat × Nat)}
    (B : BodyLoose p l y S cc maxL ret e s m args below meth c s₁) (h : (Cond.codeWith y bytes maxL' ret' hh).before args s = true) : c.exceptionTable.toList = tableOf hh := by
  obtain ⟨m9, meth9, c9, hn9, h1, h2, -, -, h6, -⟩ := Cond.codeWith_spec h
  cases Option.some.inj (hn9.symm.trans B.named)
  cases Option.some.inj (h1.symm.trans B.method)
  cases Option.some.inj (h2.symm.trans (Stand.of_body B).code)
  rw [← h6, table_eq]
end Bodies
end VXA
/-! ===== END ===== -/
/-! ===== BEGIN a static call of a method with an exception table ===== -/
section VXS
variable {p : Program} {l : Launch} {e : Env} {R : Room} {s : State} {m : MethodId} {args : Array Value} {below : List Frame} {meth : Method} {c : Code} {T : State} {H : Heap} {locs : List Loc} {cells slots : Nat}
abbrev vx_CSW (R : Room) (s : State) (args : Array Value) (own : String) (index : Nat) (y : MethodName) (bytes : ByteArray) (maxL : Nat) (ret : Option FieldType) (hh : List (Nat × Nat × Nat × Nat)) (ws : List Cond) (rm : Room) (mc ms n : Nat) : Prop :=
  (rm.cells = mc ∧ rm.slots = ms ∧ rm.frames + 1 ≤ R.frames ∧ 8 + (maxL + 11) + rm.locals ≤ R.locals ∧ (∀ w ∈ ws, ∀ (a' : Array Value) (U : State), s.WarmedH U.vm → w.before a' U = true) ∧ Cond.codeWith y bytes maxL ret hh ∈ ws) ∧
  (Cond.codeWith y bytes maxL ret hh).before args s = true ∧ (Cond.initialized y.cls).before args s = true ∧ (y.cls ≠ "java/lang/invoke/MethodHandle" ∧ y.cls ≠ "java/lang/invoke/VarHandle") ∧
  (∀ sig, parseMethodDescriptor y.desc = some sig → n = sig.parameters.length) ∧ (Cond.methodLink own index y).before args s = true ∧ (Cond.static y).before args s = true
theorem vx_cwSW {own : String} {index maxL mc ms : Nat} {y : MethodName} {bytes : ByteArray} {ret : Option FieldType} {hh : List (Nat × Nat × Nat × Nat)} {Ts ws ws' : List Cond} {rm : Room} (n : Nat) (ht : ∀ w ∈ Ts, w.before args s = true) (hT : GoodIn Ts (va_wsS own index y ws)) (hw : ws = Cond.codeWith y bytes maxL ret hh :: ws') (hrc : rm.cells = mc) (hrs : rm.slots = ms)
    (hd : y.cls ≠ "java/lang/invoke/MethodHandle" ∧ y.cls ≠ "java/lang/invoke/VarHandle" ∧ (parseMethodDescriptor y.desc).map (fun d => d.parameters.length) = some n) (hR : rm.frames + 1 ≤ R.frames ∧ 8 + (maxL + 11) + rm.locals ≤ R.locals) :
    vx_CSW R s args own index y bytes maxL ret hh ws rm mc ms n := by
  have ok : ∀ w ∈ va_wsS own index y ws, w.before args s = true := fun w h => ht w (hT w h).1
  have hG : GoodIn Ts ws := fun w h => hT w (by unfold va_wsS; exact List.mem_append_right _ h)
  have hc : Cond.codeWith y bytes maxL ret hh ∈ ws := by rw [hw]; exact List.mem_cons_self
  refine ⟨⟨hrc, hrs, hR.1, hR.2, pay_in ht hG, hc⟩, ht _ (hG _ hc).1, ok _ (by simp [va_wsS]), ⟨hd.1, hd.2.1⟩, fun sig h => ?_, ok _ (by simp [va_wsS]), ok _ (by simp [va_wsS])⟩
  have h2 := hd.2.2
  rw [h] at h2
  exact (Option.some.inj h2).symm
theorem vx_callSW (X : Stand p l e R s m args below meth c T locs cells slots) (hexec : p.tables.exec = Jvm.exec) {own : String} {index : Nat} {y : MethodName} {bytes : ByteArray} {maxL : Nat} {ret : Option FieldType} {hh : List (Nat × Nat × Nat × Nat)}
    (hown : s.vm.findClass own = some m.cls) (hlink : (Cond.methodLink own index y).before args s = true) (hstat : (Cond.static y).before args s = true) (hinit : (Cond.initialized y.cls).before args s = true)
    (hcode : (Cond.codeWith y bytes maxL ret hh).before args s = true) (hy : y.cls ≠ "java/lang/invoke/MethodHandle" ∧ y.cls ≠ "java/lang/invoke/VarHandle")
    {W9 : Nat} {Pre : Pt → Array Value → Prop} {Post : Pt → Array Value → Option Value → Pt → Prop} (hK : Back l R p e below s args y 3 W9 Pre Post)
    {g : JFrame} (hg : g.method = m) (hsize : g.locals.size = c.maxLocals) {argsL rest : List Value} (hlen : ∀ sig, parseMethodDescriptor y.desc = some sig → argsL.length = sig.parameters.length)
    (hstack : g.stack = argsL.reverse ++ rest) (hW : 2 * g.monitorRoom + (rest.map fun v => v.category).sum ≤ W9) (hdg : decode c.code g.pc = .ok (.invokestatic index, 3))
    (hpre : ∀ vm₁, s.WarmedH vm₁ → Pre ⟨T.setVm vm₁, locs, cells, slots⟩ argsL.toArray) :
    ∃ (v : Option Value) (vm₁ : Vm) (B : Pt), s.WarmedH vm₁ ∧ Stand p l e R s m args below meth c B.U B.locs B.cells B.slots ∧ Post ⟨T.setVm vm₁, locs, cells, slots⟩ argsL.toArray v B ∧
      ∀ target, Steps p.tables e below (B.U.setTop { g with pc := g.pc + 3, stack := v.toList ++ rest }) target → Steps p.tables e below (T.setTop g) target := by
  obtain ⟨mk, methM, cM, hnamed, hmethM, -, -, -, -, -, -, hsigM⟩ := Cond.codeWith_spec hcode
  have hstatic : methM.isStatic = true := Cond.static_spec hnamed hmethM hstat
  obtain ⟨kP, hkP, -⟩ := className_of_methodNamed hnamed
  have hinitP : kP.init = .initialized := Cond.initialized_spec (findClass_of_methodNamed hnamed) hkP hinit
  obtain ⟨vm₁, X₁, hstep₁⟩ := X.invokestatic hexec hown hlink hnamed hmethM hstatic hkP hinitP hy (g := g) hg (argsL := argsL) (rest := rest) (hlen _ hsigM) hstack hdg
  obtain ⟨v, B, X', hpost, hsteps⟩ := hK m meth c ⟨T.setVm vm₁, locs, cells, slots⟩ { g with stack := rest } (.invokestatic index) mk argsL.toArray X₁ hg hsize hdg hW (X₁.named hnamed) (hpre vm₁ X₁.warmed)
  exact ⟨v, vm₁, B, X₁.warmed, X', hpost, fun target h => hstep₁ _ fun acts => by rw [doInvoke_state]; exact hsteps.trans h⟩
theorem vx_runSW {y : MethodName} {bytes cc : ByteArray} {maxL nL mc ms n index : Nat} {ret : Option FieldType} {hh : List (Nat × Nat × Nat × Nat)} {ws : List Cond} {rm : Room} {Pc : Array Value → State → Prop} {Qc : Array Value → State → Outcome → State → Prop} {free : Addr → Prop} {Ts : List Cond} {own : String} {As rest : List Value} {g : JFrame}
    (S : CallFix p m c cc nL s args Ts own) (hM : Met l y ws rm Pc Qc mc ms free) (cw : vx_CSW R s args own index y bytes maxL ret hh ws rm mc ms n) (hp : PreS s H Pc As)
    (hg : g.method = m) (hn : As.length = n) (hsize : g.locals.size = nL) (hstack : g.stack = As.reverse ++ rest) (hW : 2 * g.monitorRoom + (rest.map fun v => v.category).sum ≤ 8) (hdg : decode cc g.pc = .ok (.invokestatic index, 3)) (hf : cells + mc ≤ R.cells ∧ slots + ms ≤ R.slots) :
    va_Run p l e R s m args below meth c H locs cells slots mc ms g rest (Qc As.toArray) (free) := by
  obtain ⟨⟨hrc, hrs, hfr, hlo, hws, hcw⟩, hcode, hini, hy, hlen, hl, hstt⟩ := cw
  have hK : Back l R p e below s args y 3 8 (PreOf R mc ms Pc) (PostOf Qc mc ms free) := va_backW (hh := hh) (bytes := bytes) (maxL := maxL) (ret := ret) hM hp.1 hrc hrs hfr hlo hws hcw (fun a' U hW => word_at hW (Or.inl (by first | rfl | simp [Cond.onTables, Cond.keeps, Cond.steady])) hini)
  obtain ⟨hx, hb, hml, ho, -⟩ := S
  intro T hT X
  obtain ⟨v, vm₁, ⟨U', l2, c2, s2⟩, hW₁, X', ⟨g', mk, t, L, e1, e2, hq, h1, hL, h2, h3⟩, st⟩ := vx_callSW X hx (hh := hh) (bytes := bytes) (maxL := maxL) (ret := ret) ho hl hstt hini hcode hy hK hg (hsize.trans hml.symm) (argsL := As) (rest := rest) (fun sig h => hn.trans (hlen sig h)) hstack hW (by rw [hb]; exact hdg)
    (fun vm₁ hW₁ => ⟨hf.1, hf.2, hp.2 (T.setVm vm₁) hT hW₁⟩)
  dsimp only [Pt.U, Pt.locs, Pt.cells, Pt.slots] at X' e1 e2 h1 h2 h3 st
  subst h1; subst h2; subst h3
  exact ⟨v, (T.setVm vm₁).calling g' mk As.toArray, t, U', L, hT, X', hL, e1, e2, hq, st⟩
/-- not caught here, past rows that name other classes: it goes on to the caller -/
theorem vx_outP {p : Program} {l : Launch} {e : Env} {R : Room} {s : State} {m : MethodId} {args : Array Value} {below : List Frame} {meth : Method} {c : Code} {H : Heap} {locs : List Loc} {cells slots : Nat} {free : Addr → Prop} {ls : Array Slot} {rest : List Value} {Qc : Array Value → State → Outcome → State → Prop} {XC : String → State → State → Prop}
    {pc : Nat} {own E : String} {ce : Cell} {q : Addr} {mc ms : Nat} (hown : s.vm.findClass own = some m.cls) (hlocks : meth.locks = false)
    (hpass : ∀ z ∈ c.exceptionTable.toList, covers z pc = false ∨ (z.catchType ≠ 0 ∧ ∃ nm : String, (Cond.classLink own z.catchType nm).before args s = true ∧ va_Nc E nm s)) (hcell : H[q]? = some ce) (hv : ce.vm = .none) (hcl : s.vm.findClass E = some ce.cls)
    (hx : ∀ t : State, t.heap = H → s.vm.Alike t.vm → XC E s t) (hf : ∀ z ∈ locs, free z.base) (hc : cells ≤ mc) (hs : slots ≤ ms) :
    vx_W p l e R s m args below meth c H locs cells slots (vx_MQ below Qc XC args s mc ms free) (F0 m pc ls rest) q := by
  intro T hT X
  have hpl : e.platform.magicAccessors = ({} : Platform).magicAccessors := by rw [X.admits.platform]
  obtain ⟨vm', hW', X', st⟩ := X.outThrough hlocks q (g := F0 m pc ls rest) rfl rfl rfl (cell := ce) (by rw [hT]; exact hcell) (by rw [hv]; rfl)
    (by obtain ⟨k9, h9, -⟩ := Vm.findClass_spec hcl; exact ⟨k9, h9⟩) (fun z hz => by
      rcases hpass z hz with h | ⟨hz0, nm, hl1, hn1⟩
      · exact Or.inl h
      · obtain ⟨c6, hc6, hcl6⟩ := Cond.classLink_spec hown hl1 e.platform hpl
        obtain ⟨a8, b8, h1, h2, h3⟩ := hn1
        cases Option.some.inj (h1.symm.trans hcl)
        cases Option.some.inj (h2.symm.trans hc6)
        exact Or.inr ⟨hz0, _, hcl6, h3⟩)
  obtain ⟨g₀, hfr⟩ := X'.frames_eq
  have hcell9 : ((T.setVm vm').setFrames (.throwing q :: below)).heap[q]? = some ce := by
    show T.heap[q]? = some ce
    rw [hT]; exact hcell
  have hend : Ended ((T.setVm vm').setFrames (.throwing q :: below)) below (.threw q) := State.frames_setFrames _ (State.cur_lt_of_frames hfr)
  refine ⟨(T.setVm vm').setFrames (.throwing q :: below), ?_, .threw q, X'.here.running, hend, Or.inr ⟨q, rfl, E, ce, locs, hx _ hT (X'.ends _).1.alike, hcell9, hv, hcl, (X'.ends _).1, (X'.ends _).2.mono hc hs, hf⟩⟩
  rw [X.pushThrowing_eq]
  exact st
/-- a thing of a world lies in the heap -/
theorem vx_lt {D : va_G} {cl : List vw_C} {ws : va_W} {H1 : Heap} (h : va_P D cl ws H1) {k : Nat} {q : Nat × va_E} (hk : ws[k]? = some q) : q.1 < H1.size := (h k q hk).lt
end VXS
/-! ===== END ===== -/
/-! ===== BEGIN methods with a table of their own: called by a name, returning or throwing ===== -/
section VXH
/-! vx_backW, vx_callVX, vx_callSX, vx_callVW, vx_runVW, vx_runVX, vx_runSX, vx_ofWH follow the same proofs as their sisters above (Free/Laws.lean, Shelf42/LK1.lean); vx_outP calls Shelf42/NT130.lean (outThrough). -/
section
variable {l : Launch} {R : Room} {p : Program} {e : Env} {below : List Frame} {s : State} {sargs : Array Value} {y : MethodName} {len W9 : Nat}
theorem vx_backW {ws : List Cond} {rm : Room} {Pc : Array Value → State → Prop} {Qc : Array Value → State → Outcome → State → Prop} {XC : String → State → State → Prop} {mc ms : Nat} {free : Addr → Prop} {bytes : ByteArray} {maxL : Nat} {ret : Option FieldType} {hh : List (Nat × Nat × Nat × Nat)}
    (hM : vx_Met l y ws rm Pc Qc XC mc ms free) (hblind : FrameBlind Pc) (hrc : rm.cells = mc) (hrs : rm.slots = ms)
    (hframes : rm.frames + 1 ≤ R.frames) (hlocals : W9 + (maxL + 11) + rm.locals ≤ R.locals)
    (hws : ∀ w ∈ ws, ∀ a' U, s.WarmedH U.vm → w.before a' U = true) (hcode : Cond.codeWith y bytes maxL ret hh ∈ ws) (hinit : ∀ a' U, s.WarmedH U.vm → (Cond.initialized y.cls).before a' U = true) :
    vx_Back l R p e below s sargs y len W9 (PreOf R mc ms Pc) (PostOf Qc mc ms free) (vx_Post XC mc ms free) := by
  intro m meth c A g ig mk a X hg hsize hdg hW hn hp
  have h1 : (headSpec ws rm).pre.before a A.U = true := atoms_intro fun w hw => hws w hw _ _ X.warmed
  have h2 : (Cond.codeWith y bytes maxL ret hh).before a A.U = true := hws _ hcode _ _ X.warmed
  have h3 : (Cond.initialized y.cls).before a A.U = true := hinit _ _ X.warmed
  have h4 : A.cells + (headSpec ws rm).room.cells ≤ R.cells := by rw [show (headSpec ws rm).room.cells = mc from hrc]; exact hp.1
  have h5 : A.slots + (headSpec ws rm).room.slots ≤ R.slots := by rw [show (headSpec ws rm).room.slots = ms from hrs]; exact hp.2.1
  have hPc : Pc a (A.U.calling g mk a) := hblind _ _ _ _ hp.2.2
  obtain ⟨U, Ls, c0, s0⟩ := A
  dsimp only [Pt.U, Pt.locs, Pt.cells, Pt.slots] at h1 h2 h3 h4 h5 X hn hPc ⊢
  obtain ⟨m9, methY, cY, hn9, hmY, hcY, -, hlY, -⟩ := Cond.codeWith_spec h2
  cases Option.some.inj (hn9.symm.trans hn)
  obtain ⟨kY, hkY, -⟩ := className_of_methodNamed hn
  have hinitY : kY.init = .initialized := Cond.initialized_spec (findClass_of_methodNamed hn) hkY h3
  have h : At U g.method c below := by rw [hg]; exact X.here
  have hlocals9 : W9 + (maxL + 11) + (headSpec ws rm).room.locals ≤ R.locals := hlocals
  have happ : (headSpec ws rm).appliesLoose y e.platform (U.calling g mk a) = true :=
    Spec.appliesLoose_calling (g := g) h hdg hn hkY hinitY
      (X.room_calling (g := g) (R' := (headSpec ws rm).room) hsize hmY hcY hframes (by rw [hlY]; omega) h4 h5) h1
  obtain ⟨mid, hmid⟩ := h.above
  have hfr : (U.setTop g).frames = (.java g :: mid) ++ below := by rw [State.frames_setTop' g h.top, hmid]; rfl
  obtain ⟨o, s₂, hsteps, -, hend, hq⟩ := Steps.callFree hM p X.admits X.cas X.clock (acts := []) hfr happ hPc trivial
  have hq' : vx_Q Qc XC mc ms free a (U.calling g mk a) o s₂ := hq
  rw [State.frames_setTop' g h.top] at hend
  obtain ⟨g₀, hg0⟩ := Option.isSome_iff_exists.mp h.top
  obtain ⟨r, hr⟩ := State.topJava?_eq_some.mp hg0
  have hr' : (({ U with heap := s₂.heap, slotsUsed := s₂.slotsUsed } : State).setVm s₂.vm).frames = .java g₀ :: r := hr
  rcases hq' with ⟨hqc, L, hfe, hL⟩ | ⟨q, rfl, E, ce, L, hx, hce, hcv, hcl, hW₂, hsm, hL⟩
  · obtain ⟨⟨v, rfl⟩, hW₂, e2, q2, q3, q4, q5, q6⟩ := id hfe
    have e3 : s₂ = ({ (U.calling g mk a).setFrames s₂.frames with heap := s₂.heap, slotsUsed := s₂.slotsUsed } : State).setVm s₂.vm := by
      have : s₂ = ({ s₂ with vm := (U.calling g mk a).vm } : State).setVm s₂.vm := rfl
      rw [e2] at this
      exact this
    obtain ⟨c₂, i₂, len₂, hc₂, hd₂, hf₂⟩ := hend
    have hW' : U.WarmedH s₂.vm := hW₂
    have hcc : c₂ = c := by
      have h1 : s₂.code? g.method = U.code? g.method := by
        rw [State.code?_eq, State.code?_eq, hW'.alike.method?]
      exact Option.some.inj (hc₂.symm.trans (h1.trans h.code))
    subst hcc
    have hlen : len₂ = len := by rw [hdg] at hd₂; cases hd₂; rfl
    subst hlen
    have hs₂ : s₂ = (({ U with heap := s₂.heap, slotsUsed := s₂.slotsUsed } : State).setVm s₂.vm).setTop { g with pc := g.pc + len₂, stack := v.toList ++ g.stack } := by
      refine e3.trans ?_
      rw [hf₂, State.calling_eq h.top, State.setFrames_setFrames, State.setTop_of_frames _ hr', hr]
      rfl
    have hsame : U.sameButNew ({ U with heap := s₂.heap, slotsUsed := s₂.slotsUsed } : State) L mc ms := by
      refine ⟨?_, q2, q3, q4, q5, q6⟩
      obtain ⟨t, ht, -⟩ := State.frames_cons hr
      show ({ U with heap := s₂.heap, slotsUsed := s₂.slotsUsed } : State) = { U.setFrames U.frames with heap := s₂.heap, slotsUsed := s₂.slotsUsed }
      rw [State.setFrames_self ht]
    subst hg
    refine Or.inl ⟨v, ⟨(({ U with heap := s₂.heap, slotsUsed := s₂.slotsUsed } : State).setVm s₂.vm), Ls ++ L, c0 + mc, s0 + ms⟩,
      ⟨X.admits, X.cas, X.clock, X.frames, X.room, X.hears, X.method, X.code, (X.here.setHeapUsed s₂.heap s₂.slotsUsed).setVm hW'.alike, X.tail, State.WarmedH.trans X.warmed hW', X.limits, X.bytes, X.same.trans (hsame.setVm s.vm)⟩,
      ⟨g, mk, s₂, L, rfl, rfl, hqc, rfl, hL, rfl, rfl⟩, ?_⟩
    show Steps p.tables e below _ ((({ U with heap := s₂.heap, slotsUsed := s₂.slotsUsed } : State).setVm s₂.vm).setTop { g with pc := g.pc + len₂, stack := v.toList ++ g.stack })
    rw [← hs₂]
    exact hsteps
  · obtain ⟨e2, q2, q3, q4, q5, q6⟩ := id hsm
    have e3 : s₂ = ({ (U.calling g mk a).setFrames s₂.frames with heap := s₂.heap, slotsUsed := s₂.slotsUsed } : State).setVm s₂.vm := by
      have : s₂ = ({ s₂ with vm := (U.calling g mk a).vm } : State).setVm s₂.vm := rfl
      rw [e2] at this
      exact this
    have hf₂ : s₂.frames = .throwing q :: .java g :: U.frames.tail := hend
    have hW' : U.WarmedH s₂.vm := hW₂
    have hs₂ : s₂ = ((({ U with heap := s₂.heap, slotsUsed := s₂.slotsUsed } : State).setVm s₂.vm).setTop g).pushFrame (.throwing q) := by
      refine e3.trans ?_
      rw [hf₂, State.calling_eq h.top, State.setFrames_setFrames, State.pushFrame, State.frames_setTop _ hr', State.setTop_of_frames _ hr', State.setFrames_setFrames, hr]
      rfl
    have hsame : U.sameButNew ({ U with heap := s₂.heap, slotsUsed := s₂.slotsUsed } : State) L mc ms := by
      refine ⟨?_, q2, q3, q4, q5, q6⟩
      obtain ⟨t, ht, -⟩ := State.frames_cons hr
      show ({ U with heap := s₂.heap, slotsUsed := s₂.slotsUsed } : State) = { U.setFrames U.frames with heap := s₂.heap, slotsUsed := s₂.slotsUsed }
      rw [State.setFrames_self ht]
    subst hg
    refine Or.inr ⟨q, ⟨(({ U with heap := s₂.heap, slotsUsed := s₂.slotsUsed } : State).setVm s₂.vm), Ls ++ L, c0 + mc, s0 + ms⟩,
      ⟨X.admits, X.cas, X.clock, X.frames, X.room, X.hears, X.method, X.code, (X.here.setHeapUsed s₂.heap s₂.slotsUsed).setVm hW'.alike, X.tail, State.WarmedH.trans X.warmed hW', X.limits, X.bytes, X.same.trans (hsame.setVm s.vm)⟩,
      ⟨g, mk, s₂, L, E, ce, rfl, rfl, hx, hce, hcv, hcl, rfl, hL, rfl, rfl⟩, ?_⟩
    show Steps p.tables e below _ (((({ U with heap := s₂.heap, slotsUsed := s₂.slotsUsed } : State).setVm s₂.vm).setTop g).pushFrame (.throwing q))
    rw [← hs₂]
    exact hsteps
end
variable {p : Program} {l : Launch} {e : Env} {R : Room} {s : State} {m : MethodId} {args : Array Value} {below : List Frame} {meth : Method} {c : Code} {T : State} {H : Heap} {locs : List Loc} {cells slots : Nat}
theorem vx_callVX (X : Stand p l e R s m args below meth c T locs cells slots) (hexec : p.tables.exec = Jvm.exec) {own C : String} {index : Nat} {y : MethodName} {bytes : ByteArray} {maxL : Nat} {ret : Option FieldType} {hh : List (Nat × Nat × Nat × Nat)}
    (hown : s.vm.findClass own = some m.cls) (hlink : (Cond.methodLink own index y).before args s = true) (hinst : (Cond.instanceMethod y).before args s = true) (hsel : (Cond.selects C y y).before args s = true)
    (hcode : (Cond.codeWith y bytes maxL ret hh).before args s = true) (hy : y.cls ≠ "java/lang/invoke/MethodHandle" ∧ y.cls ≠ "java/lang/invoke/VarHandle")
    {W9 : Nat} {Pre : Pt → Array Value → Prop} {Post : Pt → Array Value → Option Value → Pt → Prop} {PostX : Pt → Array Value → Addr → Pt → Prop} (hK : vx_Back l R p e below s args y 3 W9 Pre Post PostX)
    {b : Addr} {cellB : Cell} (hcell : T.heap[b]? = some cellB) (hobj : cellB.vm.isStatics = false) (hcls : s.vm.findClass C = some cellB.cls)
    {g : JFrame} (hg : g.method = m) (hsize : g.locals.size = c.maxLocals) {argsL rest : List Value} (hlen : ∀ sig, parseMethodDescriptor y.desc = some sig → argsL.length = sig.parameters.length)
    (hstack : g.stack = argsL.reverse ++ .ref b :: rest) (hW : 2 * g.monitorRoom + (rest.map fun v => v.category).sum ≤ W9) (hdg : decode c.code g.pc = .ok (.invokevirtual index, 3))
    (hpre : ∀ vm₁, s.WarmedH vm₁ → Pre ⟨T.setVm vm₁, locs, cells, slots⟩ (Value.ref b :: argsL).toArray) :
    (∃ (v : Option Value) (vm₁ : Vm) (B : Pt), s.WarmedH vm₁ ∧ Stand p l e R s m args below meth c B.U B.locs B.cells B.slots ∧ Post ⟨T.setVm vm₁, locs, cells, slots⟩ (Value.ref b :: argsL).toArray v B ∧
      ∀ target, Steps p.tables e below (B.U.setTop { g with pc := g.pc + 3, stack := v.toList ++ rest }) target → Steps p.tables e below (T.setTop g) target) ∨
    (∃ (q : Addr) (vm₁ : Vm) (B : Pt), s.WarmedH vm₁ ∧ Stand p l e R s m args below meth c B.U B.locs B.cells B.slots ∧ PostX ⟨T.setVm vm₁, locs, cells, slots⟩ (Value.ref b :: argsL).toArray q B ∧
      Steps p.tables e below (T.setTop g) ((B.U.setTop { g with stack := rest }).pushFrame (.throwing q))) := by
  obtain ⟨mk, methM, hnamed, hmethM, hstM, habM⟩ := Cond.instanceMethod_spec hinst
  obtain ⟨m8, methM', cM, hn8, hmethM', -, -, -, -, -, -, hsigM⟩ := Cond.codeWith_spec hcode
  cases Option.some.inj (hn8.symm.trans hnamed)
  cases hmethM.symm.trans hmethM'
  obtain ⟨c2, r2, m2, q1, q2, q3, q4, kP, hkP, hkPi⟩ := Cond.selects_spec hsel
  cases hcls.symm.trans q1
  cases (State.methodFound?_of_named hnamed hy).symm.trans q2
  cases hnamed.symm.trans q3
  have hselP : selectMethod e.platform s.vm cellB.cls mk = .method mk := by rw [Launch.admits_selectMethod X.admits]; exact q4
  obtain ⟨vm₁, X₁, hstep₁⟩ := X.invokevirtual hexec hown hlink hnamed hmethM hstM hkP hkPi hy (a := b) (cell := cellB) hcell
    (fun z h => by rw [h] at hobj; cases hobj) hselP hmethM habM hkP hkPi (g := g) hg (argsL := argsL) (rest := rest) (hlen _ hsigM) hstack hdg
  rcases hK m meth c ⟨T.setVm vm₁, locs, cells, slots⟩ { g with stack := rest } (.invokevirtual index) mk (Value.ref b :: argsL).toArray X₁ hg hsize hdg hW (X₁.named hnamed) (hpre vm₁ X₁.warmed) with ⟨v, B, X', hpost, hsteps⟩ | ⟨q, B, X', hpost, hsteps⟩
  · exact Or.inl ⟨v, vm₁, B, X₁.warmed, X', hpost, fun target h => hstep₁ _ fun acts => by rw [doInvoke_state]; exact hsteps.trans h⟩
  · exact Or.inr ⟨q, vm₁, B, X₁.warmed, X', hpost, hstep₁ _ fun acts => by rw [doInvoke_state]; exact hsteps⟩
theorem vx_callSX (X : Stand p l e R s m args below meth c T locs cells slots) (hexec : p.tables.exec = Jvm.exec) {own : String} {index : Nat} {y : MethodName} {bytes : ByteArray} {maxL : Nat} {ret : Option FieldType} {hh : List (Nat × Nat × Nat × Nat)}
    (hown : s.vm.findClass own = some m.cls) (hlink : (Cond.methodLink own index y).before args s = true) (hstat : (Cond.static y).before args s = true) (hinit : (Cond.initialized y.cls).before args s = true)
    (hcode : (Cond.codeWith y bytes maxL ret hh).before args s = true) (hy : y.cls ≠ "java/lang/invoke/MethodHandle" ∧ y.cls ≠ "java/lang/invoke/VarHandle")
    {W9 : Nat} {Pre : Pt → Array Value → Prop} {Post : Pt → Array Value → Option Value → Pt → Prop} {PostX : Pt → Array Value → Addr → Pt → Prop} (hK : vx_Back l R p e below s args y 3 W9 Pre Post PostX)
    {g : JFrame} (hg : g.method = m) (hsize : g.locals.size = c.maxLocals) {argsL rest : List Value} (hlen : ∀ sig, parseMethodDescriptor y.desc = some sig → argsL.length = sig.parameters.length)
    (hstack : g.stack = argsL.reverse ++ rest) (hW : 2 * g.monitorRoom + (rest.map fun v => v.category).sum ≤ W9) (hdg : decode c.code g.pc = .ok (.invokestatic index, 3))
    (hpre : ∀ vm₁, s.WarmedH vm₁ → Pre ⟨T.setVm vm₁, locs, cells, slots⟩ argsL.toArray) :
    (∃ (v : Option Value) (vm₁ : Vm) (B : Pt), s.WarmedH vm₁ ∧ Stand p l e R s m args below meth c B.U B.locs B.cells B.slots ∧ Post ⟨T.setVm vm₁, locs, cells, slots⟩ argsL.toArray v B ∧
      ∀ target, Steps p.tables e below (B.U.setTop { g with pc := g.pc + 3, stack := v.toList ++ rest }) target → Steps p.tables e below (T.setTop g) target) ∨
    (∃ (q : Addr) (vm₁ : Vm) (B : Pt), s.WarmedH vm₁ ∧ Stand p l e R s m args below meth c B.U B.locs B.cells B.slots ∧ PostX ⟨T.setVm vm₁, locs, cells, slots⟩ argsL.toArray q B ∧
      Steps p.tables e below (T.setTop g) ((B.U.setTop { g with stack := rest }).pushFrame (.throwing q))) := by
  obtain ⟨mk, methM, cM, hnamed, hmethM, -, -, -, -, -, -, hsigM⟩ := Cond.codeWith_spec hcode
  have hstatic : methM.isStatic = true := Cond.static_spec hnamed hmethM hstat
  obtain ⟨kP, hkP, -⟩ := className_of_methodNamed hnamed
  have hinitP : kP.init = .initialized := Cond.initialized_spec (findClass_of_methodNamed hnamed) hkP hinit
  obtain ⟨vm₁, X₁, hstep₁⟩ := X.invokestatic hexec hown hlink hnamed hmethM hstatic hkP hinitP hy (g := g) hg (argsL := argsL) (rest := rest) (hlen _ hsigM) hstack hdg
  rcases hK m meth c ⟨T.setVm vm₁, locs, cells, slots⟩ { g with stack := rest } (.invokestatic index) mk argsL.toArray X₁ hg hsize hdg hW (X₁.named hnamed) (hpre vm₁ X₁.warmed) with ⟨v, B, X', hpost, hsteps⟩ | ⟨q, B, X', hpost, hsteps⟩
  · exact Or.inl ⟨v, vm₁, B, X₁.warmed, X', hpost, fun target h => hstep₁ _ fun acts => by rw [doInvoke_state]; exact hsteps.trans h⟩
  · exact Or.inr ⟨q, vm₁, B, X₁.warmed, X', hpost, hstep₁ _ fun acts => by rw [doInvoke_state]; exact hsteps⟩
theorem vx_callVW (X : Stand p l e R s m args below meth c T locs cells slots) (hexec : p.tables.exec = Jvm.exec) {own C : String} {index : Nat} {y : MethodName} {bytes : ByteArray} {maxL : Nat} {ret : Option FieldType} {hh : List (Nat × Nat × Nat × Nat)}
    (hown : s.vm.findClass own = some m.cls) (hlink : (Cond.methodLink own index y).before args s = true) (hinst : (Cond.instanceMethod y).before args s = true) (hsel : (Cond.selects C y y).before args s = true)
    (hcode : (Cond.codeWith y bytes maxL ret hh).before args s = true) (hy : y.cls ≠ "java/lang/invoke/MethodHandle" ∧ y.cls ≠ "java/lang/invoke/VarHandle")
    {W9 : Nat} {Pre : Pt → Array Value → Prop} {Post : Pt → Array Value → Option Value → Pt → Prop} (hK : Back l R p e below s args y 3 W9 Pre Post)
    {b : Addr} {cellB : Cell} (hcell : T.heap[b]? = some cellB) (hobj : cellB.vm.isStatics = false) (hcls : s.vm.findClass C = some cellB.cls)
    {g : JFrame} (hg : g.method = m) (hsize : g.locals.size = c.maxLocals) {argsL rest : List Value} (hlen : ∀ sig, parseMethodDescriptor y.desc = some sig → argsL.length = sig.parameters.length)
    (hstack : g.stack = argsL.reverse ++ .ref b :: rest) (hW : 2 * g.monitorRoom + (rest.map fun v => v.category).sum ≤ W9) (hdg : decode c.code g.pc = .ok (.invokevirtual index, 3))
    (hpre : ∀ vm₁, s.WarmedH vm₁ → Pre ⟨T.setVm vm₁, locs, cells, slots⟩ (Value.ref b :: argsL).toArray) :
    ∃ (v : Option Value) (vm₁ : Vm) (B : Pt), s.WarmedH vm₁ ∧ Stand p l e R s m args below meth c B.U B.locs B.cells B.slots ∧ Post ⟨T.setVm vm₁, locs, cells, slots⟩ (Value.ref b :: argsL).toArray v B ∧
      ∀ target, Steps p.tables e below (B.U.setTop { g with pc := g.pc + 3, stack := v.toList ++ rest }) target → Steps p.tables e below (T.setTop g) target := by
  obtain ⟨mk, methM, hnamed, hmethM, hstM, habM⟩ := Cond.instanceMethod_spec hinst
  obtain ⟨m8, methM', cM, hn8, hmethM', -, -, -, -, -, -, hsigM⟩ := Cond.codeWith_spec hcode
  cases Option.some.inj (hn8.symm.trans hnamed)
  cases hmethM.symm.trans hmethM'
  obtain ⟨c2, r2, m2, q1, q2, q3, q4, kP, hkP, hkPi⟩ := Cond.selects_spec hsel
  cases hcls.symm.trans q1
  cases (State.methodFound?_of_named hnamed hy).symm.trans q2
  cases hnamed.symm.trans q3
  have hselP : selectMethod e.platform s.vm cellB.cls mk = .method mk := by rw [Launch.admits_selectMethod X.admits]; exact q4
  obtain ⟨vm₁, X₁, hstep₁⟩ := X.invokevirtual hexec hown hlink hnamed hmethM hstM hkP hkPi hy (a := b) (cell := cellB) hcell
    (fun z h => by rw [h] at hobj; cases hobj) hselP hmethM habM hkP hkPi (g := g) hg (argsL := argsL) (rest := rest) (hlen _ hsigM) hstack hdg
  obtain ⟨v, B, X', hpost, hsteps⟩ := hK m meth c ⟨T.setVm vm₁, locs, cells, slots⟩ { g with stack := rest } (.invokevirtual index) mk (Value.ref b :: argsL).toArray X₁ hg hsize hdg hW (X₁.named hnamed) (hpre vm₁ X₁.warmed)
  exact ⟨v, vm₁, B, X₁.warmed, X', hpost, fun target h => hstep₁ _ fun acts => by rw [doInvoke_state]; exact hsteps.trans h⟩
abbrev vx_CVW (R : Room) (s : State) (args : Array Value) (own C : String) (index : Nat) (y : MethodName) (bytes : ByteArray) (maxL : Nat) (ret : Option FieldType) (hh : List (Nat × Nat × Nat × Nat)) (ws : List Cond) (rm : Room) (mc ms n : Nat) : Prop :=
  (rm.cells = mc ∧ rm.slots = ms ∧ rm.frames + 1 ≤ R.frames ∧ 8 + (maxL + 11) + rm.locals ≤ R.locals ∧ (∀ w ∈ ws, ∀ (a' : Array Value) (U : State), s.WarmedH U.vm → w.before a' U = true) ∧ Cond.codeWith y bytes maxL ret hh ∈ ws) ∧
  (Cond.codeWith y bytes maxL ret hh).before args s = true ∧ (Cond.initialized y.cls).before args s = true ∧ (y.cls ≠ "java/lang/invoke/MethodHandle" ∧ y.cls ≠ "java/lang/invoke/VarHandle") ∧
  (∀ sig, parseMethodDescriptor y.desc = some sig → n = sig.parameters.length) ∧ (Cond.methodLink own index y).before args s = true ∧ (Cond.instanceMethod y).before args s = true ∧ (Cond.selects C y y).before args s = true
theorem vx_cwVW {own C : String} {index maxL mc ms : Nat} {y : MethodName} {bytes : ByteArray} {ret : Option FieldType} {hh : List (Nat × Nat × Nat × Nat)} {Ts ws ws' : List Cond} {rm : Room} (n : Nat) (ht : ∀ w ∈ Ts, w.before args s = true) (hT : GoodIn Ts (wsV own index C y ws)) (hw : ws = Cond.codeWith y bytes maxL ret hh :: ws') (hrc : rm.cells = mc) (hrs : rm.slots = ms)
    (hd : y.cls = C ∧ y.cls ≠ "java/lang/invoke/MethodHandle" ∧ y.cls ≠ "java/lang/invoke/VarHandle" ∧ (parseMethodDescriptor y.desc).map (fun d => d.parameters.length) = some n) (hR : rm.frames + 1 ≤ R.frames ∧ 8 + (maxL + 11) + rm.locals ≤ R.locals) :
    vx_CVW R s args own C index y bytes maxL ret hh ws rm mc ms n := by
  obtain ⟨hC, hd⟩ := hd
  subst hC
  have ok : ∀ w ∈ wsV own index y.cls y ws, w.before args s = true := fun w h => ht w (hT w h).1
  have hG : GoodIn Ts ws := fun w h => hT w (by unfold wsV; exact List.mem_append_right _ h)
  have hc : Cond.codeWith y bytes maxL ret hh ∈ ws := by rw [hw]; exact List.mem_cons_self
  refine ⟨⟨hrc, hrs, hR.1, hR.2, pay_in ht hG, hc⟩, ht _ (hG _ hc).1, ok _ (by simp [wsV]), ⟨hd.1, hd.2.1⟩, fun sig h => ?_, ok _ (by simp [wsV]), ok _ (by simp [wsV]), ok _ (by simp [wsV])⟩
  have h2 := hd.2.2
  rw [h] at h2
  exact (Option.some.inj h2).symm
theorem vx_runVW {y : MethodName} {bytes cc : ByteArray} {maxL nL mc ms n index : Nat} {ret : Option FieldType} {hh : List (Nat × Nat × Nat × Nat)} {ws : List Cond} {rm : Room} {Pc : Array Value → State → Prop} {Qc : Array Value → State → Outcome → State → Prop} {free : Addr → Prop} {Ts : List Cond} {own C : String} {b : Addr} {As rest : List Value} {g : JFrame}
    (S : CallFix p m c cc nL s args Ts own) (hM : Met l y ws rm Pc Qc mc ms free) (cw : vx_CVW R s args own C index y bytes maxL ret hh ws rm mc ms n) (hp : PreV s H C b Pc As)
    (hg : g.method = m) (hn : As.length = n) (hsize : g.locals.size = nL) (hstack : g.stack = As.reverse ++ .ref b :: rest) (hW : 2 * g.monitorRoom + (rest.map fun v => v.category).sum ≤ 8) (hdg : decode cc g.pc = .ok (.invokevirtual index, 3)) (hf : cells + mc ≤ R.cells ∧ slots + ms ≤ R.slots) :
    va_Run p l e R s m args below meth c H locs cells slots mc ms g rest (Qc (Value.ref b :: As).toArray) free := by
  obtain ⟨⟨hrc, hrs, hfr, hlo, hws, hcw⟩, hcode, hini, hy, hlen, hl, hin, hse⟩ := cw
  have hK : Back l R p e below s args y 3 8 (PreOf R mc ms Pc) (PostOf Qc mc ms free) := va_backW (hh := hh) (bytes := bytes) (maxL := maxL) (ret := ret) hM hp.1 hrc hrs hfr hlo hws hcw (fun a' U hW => word_at hW (Or.inl (by first | rfl | simp [Cond.onTables, Cond.keeps, Cond.steady])) hini)
  obtain ⟨hx, hb, hml, ho, -⟩ := S
  obtain ⟨-, ⟨cellB, hcB, hoB, hclB⟩, hPc⟩ := hp
  intro T hT X
  obtain ⟨v, vm₁, ⟨U', l2, c2, s2⟩, hW₁, X', ⟨g', mk, t, L, e1, e2, hq, h1, hL, h2, h3⟩, st⟩ := vx_callVW X hx (C := C) (hh := hh) (bytes := bytes) (maxL := maxL) (ret := ret) ho hl hin hse hcode hy hK (by rw [hT]; exact hcB) hoB hclB hg (hsize.trans hml.symm) (argsL := As) (rest := rest) (fun sig h => hn.trans (hlen sig h)) hstack hW (by rw [hb]; exact hdg)
    (fun vm₁ hW₁ => ⟨hf.1, hf.2, hPc (T.setVm vm₁) hT hW₁⟩)
  dsimp only [Pt.U, Pt.locs, Pt.cells, Pt.slots] at X' e1 e2 h1 h2 h3 st
  subst h1; subst h2; subst h3
  exact ⟨v, (T.setVm vm₁).calling g' mk (Value.ref b :: As).toArray, t, U', L, hT, X', hL, e1, e2, hq, st⟩
section
variable {y : MethodName} {bytes cc : ByteArray} {maxL nL mc ms n index : Nat} {ret : Option FieldType} {ws : List Cond} {rm : Room} {Pc : Array Value → State → Prop} {Qc : Array Value → State → Outcome → State → Prop} {XC : String → State → State → Prop} {free : Addr → Prop} {Ts : List Cond} {own C : String} {b : Addr} {As rest : List Value} {g : JFrame}
theorem vx_runVX {hh : List (Nat × Nat × Nat × Nat)} (S : CallFix p m c cc nL s args Ts own) (hM : vx_Met l y ws rm Pc Qc XC mc ms free) (cw : vx_CVW R s args own C index y bytes maxL ret hh ws rm mc ms n) (hp : PreV s H C b Pc As)
    (hg : g.method = m) (hn : As.length = n) (hsize : g.locals.size = nL) (hstack : g.stack = As.reverse ++ .ref b :: rest) (hW : 2 * g.monitorRoom + (rest.map fun v => v.category).sum ≤ 8) (hdg : decode cc g.pc = .ok (.invokevirtual index, 3)) (hf : cells + mc ≤ R.cells ∧ slots + ms ≤ R.slots) :
    vx_Run p l e R s m args below meth c H locs cells slots mc ms g rest (Qc (Value.ref b :: As).toArray) XC free := by
  obtain ⟨⟨hrc, hrs, hfr, hlo, hws, hcw⟩, hcode, hini, hy, hlen, hl, hin, hse⟩ := cw
  have hK : vx_Back l R p e below s args y 3 8 (PreOf R mc ms Pc) (PostOf Qc mc ms free) (vx_Post XC mc ms free) := vx_backW (hh := hh) (bytes := bytes) (maxL := maxL) (ret := ret) hM hp.1 hrc hrs hfr hlo hws hcw (fun a' U hW => word_at hW (Or.inl (by first | rfl | simp [Cond.onTables, Cond.keeps, Cond.steady])) hini)
  obtain ⟨hx, hb, hml, ho, -⟩ := S
  obtain ⟨-, ⟨cellB, hcB, hoB, hclB⟩, hPc⟩ := hp
  intro T hT X
  rcases vx_callVX X hx (C := C) (hh := hh) (bytes := bytes) (maxL := maxL) (ret := ret) ho hl hin hse hcode hy hK (by rw [hT]; exact hcB) hoB hclB hg (hsize.trans hml.symm) (argsL := As) (rest := rest) (fun sig h => hn.trans (hlen sig h)) hstack hW (by rw [hb]; exact hdg)
    (fun vm₁ hW₁ => ⟨hf.1, hf.2, hPc (T.setVm vm₁) hT hW₁⟩) with ⟨v, vm₁, ⟨U', l2, c2, s2⟩, hW₁, X', ⟨g', mk, t, L, e1, e2, hq, h1, hL, h2, h3⟩, st⟩ | ⟨q, vm₁, ⟨U', l2, c2, s2⟩, hW₁, X', ⟨g', mk, t, L, E, ce, e1, e2, hq, hce, hcv, hcl, h1, hL, h2, h3⟩, st⟩
  · dsimp only [Pt.U, Pt.locs, Pt.cells, Pt.slots] at X' e1 e2 h1 h2 h3 st
    subst h1; subst h2; subst h3
    exact Or.inl ⟨v, (T.setVm vm₁).calling g' mk (Value.ref b :: As).toArray, t, U', L, hT, X', hL, e1, e2, hq, st⟩
  · dsimp only [Pt.U, Pt.locs, Pt.cells, Pt.slots] at X' e1 e2 h1 h2 h3 st hcl
    subst h1; subst h2; subst h3
    exact Or.inr ⟨q, (T.setVm vm₁).calling g' mk (Value.ref b :: As).toArray, t, U', L, E, ce, hT, X', hL, e1, e2, hq, hce, hcv, vx_cls hW₁ hcl, st⟩
theorem vx_runSX {hh : List (Nat × Nat × Nat × Nat)} (S : CallFix p m c cc nL s args Ts own) (hM : vx_Met l y ws rm Pc Qc XC mc ms free) (cw : vx_CSW R s args own index y bytes maxL ret hh ws rm mc ms n) (hp : PreS s H Pc As)
    (hg : g.method = m) (hn : As.length = n) (hsize : g.locals.size = nL) (hstack : g.stack = As.reverse ++ rest) (hW : 2 * g.monitorRoom + (rest.map fun v => v.category).sum ≤ 8) (hdg : decode cc g.pc = .ok (.invokestatic index, 3)) (hf : cells + mc ≤ R.cells ∧ slots + ms ≤ R.slots) :
    vx_Run p l e R s m args below meth c H locs cells slots mc ms g rest (Qc As.toArray) XC free := by
  obtain ⟨⟨hrc, hrs, hfr, hlo, hws, hcw⟩, hcode, hini, hy, hlen, hl, hstt⟩ := cw
  have hK : vx_Back l R p e below s args y 3 8 (PreOf R mc ms Pc) (PostOf Qc mc ms free) (vx_Post XC mc ms free) := vx_backW (hh := hh) (bytes := bytes) (maxL := maxL) (ret := ret) hM hp.1 hrc hrs hfr hlo hws hcw (fun a' U hW => word_at hW (Or.inl (by first | rfl | simp [Cond.onTables, Cond.keeps, Cond.steady])) hini)
  obtain ⟨hx, hb, hml, ho, -⟩ := S
  intro T hT X
  rcases vx_callSX X hx (hh := hh) (bytes := bytes) (maxL := maxL) (ret := ret) ho hl hstt hini hcode hy hK hg (hsize.trans hml.symm) (argsL := As) (rest := rest) (fun sig h => hn.trans (hlen sig h)) hstack hW (by rw [hb]; exact hdg)
    (fun vm₁ hW₁ => ⟨hf.1, hf.2, hp.2 (T.setVm vm₁) hT hW₁⟩) with ⟨v, vm₁, ⟨U', l2, c2, s2⟩, hW₁, X', ⟨g', mk, t, L, e1, e2, hq, h1, hL, h2, h3⟩, st⟩ | ⟨q, vm₁, ⟨U', l2, c2, s2⟩, hW₁, X', ⟨g', mk, t, L, E, ce, e1, e2, hq, hce, hcv, hcl, h1, hL, h2, h3⟩, st⟩
  · dsimp only [Pt.U, Pt.locs, Pt.cells, Pt.slots] at X' e1 e2 h1 h2 h3 st
    subst h1; subst h2; subst h3
    exact Or.inl ⟨v, (T.setVm vm₁).calling g' mk As.toArray, t, U', L, hT, X', hL, e1, e2, hq, st⟩
  · dsimp only [Pt.U, Pt.locs, Pt.cells, Pt.slots] at X' e1 e2 h1 h2 h3 st hcl
    subst h1; subst h2; subst h3
    exact Or.inr ⟨q, (T.setVm vm₁).calling g' mk As.toArray, t, U', L, E, ce, hT, X', hL, e1, e2, hq, hce, hcv, vx_cls hW₁ hcl, st⟩
end
end VXH
theorem vx_ofWH {l : Launch} {y : MethodName} {ws ws' : List Cond} {rm : Room} {Pc : Array Value → State → Prop} {Qc : Array Value → State → Outcome → State → Prop} {XC : String → State → State → Prop} {mc ms : Nat} {free : Addr → Prop} {cc : ByteArray} {maxL : Nat} {ret : Option FieldType} {hh : List (Nat × Nat × Nat × Nat)}
    (hy : plainName y.cls = true) (hw : ws = Cond.codeWith y cc maxL ret hh :: ws')
    (body : ∀ p e s m args below meth c s₁, BodyLoose p l y (headSpec ws rm) cc maxL ret e s m args below meth c s₁ → c.maxLocals = maxL → Pc args s →
      W p l e (headSpec ws rm).room s m args below meth c s.heap [] 0 0 (vx_MQ below Qc XC args s mc ms free) (entryFrame m args maxL)) : vx_Met l y ws rm Pc Qc XC mc ms free := by
  refine MetFree.of_bodyS (code := cc) (maxLocals := maxL) (ret := ret) hy ?_ ?_
  · intro args s m h hn
    obtain ⟨m9, meth, c, hn9, h1, h2, h3, h4, -, h5, h6, -⟩ := Cond.codeWith_spec (atoms_spec (ws := ws) h _ (by rw [hw]; exact List.mem_cons_self))
    cases hn.symm.trans hn9
    exact ⟨meth, c, h1, h2, h3, h4, h5, h6⟩
  · intro p e s m args below meth c s₁ B hml hP _
    have hh0 : s₁.heap = s.heap := by rw [B.state]; rfl
    obtain ⟨t, a1, o, b1, b2, b3⟩ := body p e s m args below meth c s₁ B hml hP s₁ hh0 (Stand.of_body B)
    exact ⟨t, o, a1, b1, b2, b3⟩
/-! ===== END ===== -/
end
section
/-! ===== BEGIN printed: names, fields, word lists, decode rows ===== -/
def RX0 : String := "PlanetoidDesk$Bodies"
def TX0 : u_T := fun k => match k with
  | 0 => ("PlanetoidDesk$Bodies", "owners", "LPlanetoidDesk$Row;", true)
  | 1 => ("PlanetoidDesk$Bodies", "hosts", "LPlanetoidDesk$Row;", true)
  | 2 => ("PlanetoidDesk$Bodies", "joinTimes", "LPlanetoidDesk$Row;", true)
  | 3 => ("PlanetoidDesk$Bodies", "numbers", "LPlanetoidDesk$Row;", true)
  | 4 => ("PlanetoidDesk$Bodies", "properCourses", "LPlanetoidDesk$Row;", true)
  | 5 => ("PlanetoidDesk$Bodies", "count", "I", false)
  | 6 => ("PlanetoidDesk$Bodies", "joins", "I", false)
  | _ => ("PlanetoidDesk$Bodies", "lastNumber", "I", false)
def tyX0 : Nat → FieldType := fun k => match k with
  | 0 => .object "PlanetoidDesk$Row"
  | 1 => .object "PlanetoidDesk$Row"
  | 2 => .object "PlanetoidDesk$Row"
  | 3 => .object "PlanetoidDesk$Row"
  | 4 => .object "PlanetoidDesk$Row"
  | 5 => .int
  | 6 => .int
  | _ => .int
abbrev wsX00 : List Cond := u_ws RX0 TX0 8
theorem nmX0 : ∀ a, a < 8 → ∀ b, b < 8 → a ≠ b → (TX0 a).2.1 ≠ (TX0 b).2.1 := by decide +kernel
theorem tyX0_ok : ∀ k, k < 8 → parseFieldDescriptor (TX0 k).2.2.1 = some (tyX0 k) := by decide +kernel
abbrev cX0_init : ByteArray := prog_2_method_1_code
def yX0_init : MethodName := ⟨RX0, "<init>", "()V"⟩
abbrev cX0_addBody : ByteArray := prog_2_method_2_code
def yX0_addBody : MethodName := ⟨RX0, "addBody", "(I)I"⟩
abbrev cX0_own : ByteArray := prog_2_method_3_code
def yX0_own : MethodName := ⟨RX0, "own", "(II)V"⟩
abbrev cX0_ownerOf : ByteArray := prog_2_method_4_code
def yX0_ownerOf : MethodName := ⟨RX0, "ownerOf", "(I)I"⟩
abbrev cX0_isUnlinked : ByteArray := prog_2_method_5_code
def yX0_isUnlinked : MethodName := ⟨RX0, "isUnlinked", "(I)Z"⟩
abbrev cX0_countOwnDots : ByteArray := prog_2_method_6_code
def yX0_countOwnDots : MethodName := ⟨RX0, "countOwnDots", "(I)I"⟩
abbrev cX0_isLook : ByteArray := prog_2_method_7_code
def yX0_isLook : MethodName := ⟨RX0, "isLook", "(II)Z"⟩
abbrev cX0_hostOf : ByteArray := prog_2_method_8_code
def yX0_hostOf : MethodName := ⟨RX0, "hostOf", "(I)I"⟩
abbrev cX0_isFree : ByteArray := prog_2_method_9_code
def yX0_isFree : MethodName := ⟨RX0, "isFree", "(I)Z"⟩
abbrev cX0_attach : ByteArray := prog_2_method_10_code
def yX0_attach : MethodName := ⟨RX0, "attach", "(II)V"⟩
abbrev cX0_free : ByteArray := prog_2_method_11_code
def yX0_free : MethodName := ⟨RX0, "free", "(I)V"⟩
abbrev cX0_countJoinedTo : ByteArray := prog_2_method_12_code
def yX0_countJoinedTo : MethodName := ⟨RX0, "countJoinedTo", "(I)I"⟩
abbrev cX0_latestJoinedTo : ByteArray := prog_2_method_13_code
def yX0_latestJoinedTo : MethodName := ⟨RX0, "latestJoinedTo", "(I)I"⟩
abbrev cX0_giveNumber : ByteArray := prog_2_method_14_code
def yX0_giveNumber : MethodName := ⟨RX0, "giveNumber", "(II)I"⟩
abbrev cX0_numberOf : ByteArray := prog_2_method_15_code
def yX0_numberOf : MethodName := ⟨RX0, "numberOf", "(I)I"⟩
abbrev cX0_withNumber : ByteArray := prog_2_method_16_code
def yX0_withNumber : MethodName := ⟨RX0, "withNumber", "(I)I"⟩
abbrev cX0_properCourseOf : ByteArray := prog_2_method_17_code
def yX0_properCourseOf : MethodName := ⟨RX0, "properCourseOf", "(I)I"⟩
def RX1 : String := "PlanetoidDesk$Kinship"
def TX1 : u_T := fun k => match k with
  | _ => ("PlanetoidDesk$Kinship", "lowestNumbers", "LPlanetoidDesk$Row;", true)
def tyX1 : Nat → FieldType := fun k => match k with
  | _ => .object "PlanetoidDesk$Row"
abbrev wsX10 : List Cond := u_ws RX1 TX1 1
theorem nmX1 : ∀ a, a < 1 → ∀ b, b < 1 → a ≠ b → (TX1 a).2.1 ≠ (TX1 b).2.1 := by decide +kernel
theorem tyX1_ok : ∀ k, k < 1 → parseFieldDescriptor (TX1 k).2.2.1 = some (tyX1 k) := by decide +kernel
abbrev cX1_init : ByteArray := prog_3_method_1_code
def yX1_init : MethodName := ⟨RX1, "<init>", "()V"⟩
abbrev cX1_lowestNumberWith : ByteArray := prog_3_method_2_code
def yX1_lowestNumberWith : MethodName := ⟨RX1, "lowestNumberWith", "(I)I"⟩
abbrev cX1_findFamilies : ByteArray := prog_3_method_3_code
def yX1_findFamilies : MethodName := ⟨RX1, "findFamilies", "(LPlanetoidDesk$Bodies;I)V"⟩
abbrev cX1_spreadLowest : ByteArray := prog_3_method_4_code
def yX1_spreadLowest : MethodName := ⟨RX1, "spreadLowest", "(LPlanetoidDesk$Bodies;I)V"⟩
abbrev cX1_areAkin : ByteArray := prog_3_method_5_code
def yX1_areAkin : MethodName := ⟨RX1, "areAkin", "(LPlanetoidDesk$Bodies;III)Z"⟩
def RX2 : String := "PlanetoidDesk$Looks"
def TX2 : u_T := fun k => match k with
  | 0 => ("PlanetoidDesk$Looks", "dots", "LPlanetoidDesk$Row;", true)
  | _ => ("PlanetoidDesk$Looks", "count", "I", false)
def tyX2 : Nat → FieldType := fun k => match k with
  | 0 => .object "PlanetoidDesk$Row"
  | _ => .int
abbrev wsX20 : List Cond := u_ws RX2 TX2 2
theorem nmX2 : ∀ a, a < 2 → ∀ b, b < 2 → a ≠ b → (TX2 a).2.1 ≠ (TX2 b).2.1 := by decide +kernel
theorem tyX2_ok : ∀ k, k < 2 → parseFieldDescriptor (TX2 k).2.2.1 = some (tyX2 k) := by decide +kernel
abbrev cX2_init : ByteArray := prog_4_method_1_code
def yX2_init : MethodName := ⟨RX2, "<init>", "()V"⟩
abbrev cX2_add : ByteArray := prog_4_method_2_code
def yX2_add : MethodName := ⟨RX2, "add", "(I)V"⟩
abbrev cX2_dotAt : ByteArray := prog_4_method_3_code
def yX2_dotAt : MethodName := ⟨RX2, "dotAt", "(I)I"⟩
def RX3 : String := "PlanetoidDesk$Orbits"
def TX3 : u_T := fun k => match k with
  | 0 => ("PlanetoidDesk$Orbits", "starts", "LPlanetoidDesk$Row;", true)
  | 1 => ("PlanetoidDesk$Orbits", "widths", "LPlanetoidDesk$Row;", true)
  | _ => ("PlanetoidDesk$Orbits", "tallies", "LPlanetoidDesk$Row;", true)
def tyX3 : Nat → FieldType := fun k => match k with
  | 0 => .object "PlanetoidDesk$Row"
  | 1 => .object "PlanetoidDesk$Row"
  | _ => .object "PlanetoidDesk$Row"
abbrev wsX30 : List Cond := u_ws RX3 TX3 3
theorem nmX3 : ∀ a, a < 3 → ∀ b, b < 3 → a ≠ b → (TX3 a).2.1 ≠ (TX3 b).2.1 := by decide +kernel
theorem tyX3_ok : ∀ k, k < 3 → parseFieldDescriptor (TX3 k).2.2.1 = some (tyX3 k) := by decide +kernel
abbrev cX3_init : ByteArray := prog_5_method_1_code
def yX3_init : MethodName := ⟨RX3, "<init>", "()V"⟩
abbrev cX3_takeAll : ByteArray := prog_5_method_2_code
def yX3_takeAll : MethodName := ⟨RX3, "takeAll", "()V"⟩
abbrev cX3_keepNear : ByteArray := prog_5_method_3_code
def yX3_keepNear : MethodName := ⟨RX3, "keepNear", "(III)V"⟩
abbrev cX3_hasNear : ByteArray := prog_5_method_4_code
def yX3_hasNear : MethodName := ⟨RX3, "hasNear", "(III)Z"⟩
abbrev cX3_behind : ByteArray := prog_5_method_5_code
def yX3_behind : MethodName := ⟨RX3, "behind", "(II)I"⟩
abbrev cX3_sharedWidth : ByteArray := prog_5_method_6_code
def yX3_sharedWidth : MethodName := ⟨RX3, "sharedWidth", "(III)I"⟩
abbrev cX3_startOf : ByteArray := prog_5_method_7_code
def yX3_startOf : MethodName := ⟨RX3, "startOf", "(I)I"⟩
abbrev cX3_widthOf : ByteArray := prog_5_method_8_code
def yX3_widthOf : MethodName := ⟨RX3, "widthOf", "(I)I"⟩
abbrev cX3_countOrbits : ByteArray := prog_5_method_9_code
def yX3_countOrbits : MethodName := ⟨RX3, "countOrbits", "()I"⟩
abbrev cX3_orbitAt : ByteArray := prog_5_method_10_code
def yX3_orbitAt : MethodName := ⟨RX3, "orbitAt", "(I)I"⟩
abbrev cX3_courseWith : ByteArray := prog_5_method_11_code
def yX3_courseWith : MethodName := ⟨RX3, "courseWith", "(II)I"⟩
abbrev cX3_countPlaces : ByteArray := prog_5_method_12_code
def yX3_countPlaces : MethodName := ⟨RX3, "countPlaces", "(I)I"⟩
abbrev cX3_placeAt : ByteArray := prog_5_method_13_code
def yX3_placeAt : MethodName := ⟨RX3, "placeAt", "(II)I"⟩
abbrev cX3_tallyPlaces : ByteArray := prog_5_method_14_code
def yX3_tallyPlaces : MethodName := ⟨RX3, "tallyPlaces", "(I)V"⟩
def RX4 : String := "PlanetoidDesk$Paths"
def TX4 : u_T := fun k => match k with
  | 0 => ("PlanetoidDesk$Paths", "groupHeads", "LPlanetoidDesk$Row;", true)
  | 1 => ("PlanetoidDesk$Paths", "nextInGroup", "LPlanetoidDesk$Row;", true)
  | 2 => ("PlanetoidDesk$Paths", "lastGroupAt", "LPlanetoidDesk$Row;", true)
  | 3 => ("PlanetoidDesk$Paths", "all", "I", false)
  | _ => ("PlanetoidDesk$Paths", "near", "I", false)
def tyX4 : Nat → FieldType := fun k => match k with
  | 0 => .object "PlanetoidDesk$Row"
  | 1 => .object "PlanetoidDesk$Row"
  | 2 => .object "PlanetoidDesk$Row"
  | 3 => .int
  | _ => .int
abbrev wsX40 : List Cond := u_ws RX4 TX4 5
theorem nmX4 : ∀ a, a < 5 → ∀ b, b < 5 → a ≠ b → (TX4 a).2.1 ≠ (TX4 b).2.1 := by decide +kernel
theorem tyX4_ok : ∀ k, k < 5 → parseFieldDescriptor (TX4 k).2.2.1 = some (tyX4 k) := by decide +kernel
abbrev cX4_init : ByteArray := prog_6_method_1_code
def yX4_init : MethodName := ⟨RX4, "<init>", "()V"⟩
abbrev cX4_countPaths : ByteArray := prog_6_method_2_code
def yX4_countPaths : MethodName := ⟨RX4, "countPaths", "(LPlanetoidDesk$Orbits;II)V"⟩
abbrev cX4_makeGroups : ByteArray := prog_6_method_3_code
def yX4_makeGroups : MethodName := ⟨RX4, "makeGroups", "(II)V"⟩
abbrev cX4_groupOf : ByteArray := prog_6_method_4_code
def yX4_groupOf : MethodName := ⟨RX4, "groupOf", "(III)I"⟩
abbrev cX4_countCourse : ByteArray := prog_6_method_5_code
def yX4_countCourse : MethodName := ⟨RX4, "countCourse", "(LPlanetoidDesk$Orbits;IIII)V"⟩
abbrev cX4_nearBitsOf : ByteArray := prog_6_method_6_code
def yX4_nearBitsOf : MethodName := ⟨RX4, "nearBitsOf", "(IIII)J"⟩
def RX5 : String := "PlanetoidDesk$Row"
def TX5 : u_T := fun k => match k with
  | _ => ("PlanetoidDesk$Row", "cells", "[I", true)
def tyX5 : Nat → FieldType := fun k => match k with
  | _ => .array .int
abbrev wsX50 : List Cond := u_ws RX5 TX5 1
theorem nmX5 : ∀ a, a < 1 → ∀ b, b < 1 → a ≠ b → (TX5 a).2.1 ≠ (TX5 b).2.1 := by decide +kernel
theorem tyX5_ok : ∀ k, k < 1 → parseFieldDescriptor (TX5 k).2.2.1 = some (tyX5 k) := by decide +kernel
abbrev cX5_init : ByteArray := prog_7_method_1_code
def yX5_init : MethodName := ⟨RX5, "<init>", "(I)V"⟩
abbrev cX5_at : ByteArray := prog_7_method_2_code
def yX5_at : MethodName := ⟨RX5, "at", "(I)I"⟩
abbrev cX5_put : ByteArray := prog_7_method_3_code
def yX5_put : MethodName := ⟨RX5, "put", "(II)V"⟩
abbrev cX5_fill : ByteArray := prog_7_method_4_code
def yX5_fill : MethodName := ⟨RX5, "fill", "(I)V"⟩
def RX6 : String := "PlanetoidDesk$Sky"
def TX6 : u_T := fun k => match k with
  | 0 => ("PlanetoidDesk$Sky", "errors", "LPlanetoidDesk$Row;", true)
  | 1 => ("PlanetoidDesk$Sky", "plateObservatories", "LPlanetoidDesk$Row;", true)
  | 2 => ("PlanetoidDesk$Sky", "plateNights", "LPlanetoidDesk$Row;", true)
  | 3 => ("PlanetoidDesk$Sky", "dotPlates", "LPlanetoidDesk$Row;", true)
  | 4 => ("PlanetoidDesk$Sky", "dotPlaces", "LPlanetoidDesk$Row;", true)
  | 5 => ("PlanetoidDesk$Sky", "dotLights", "LPlanetoidDesk$Row;", true)
  | 6 => ("PlanetoidDesk$Sky", "shifts", "LPlanetoidDesk$Row;", true)
  | 7 => ("PlanetoidDesk$Sky", "observatoryCount", "I", false)
  | 8 => ("PlanetoidDesk$Sky", "plateCount", "I", false)
  | _ => ("PlanetoidDesk$Sky", "dotCount", "I", false)
def tyX6 : Nat → FieldType := fun k => match k with
  | 0 => .object "PlanetoidDesk$Row"
  | 1 => .object "PlanetoidDesk$Row"
  | 2 => .object "PlanetoidDesk$Row"
  | 3 => .object "PlanetoidDesk$Row"
  | 4 => .object "PlanetoidDesk$Row"
  | 5 => .object "PlanetoidDesk$Row"
  | 6 => .object "PlanetoidDesk$Row"
  | 7 => .int
  | 8 => .int
  | _ => .int
abbrev wsX60 : List Cond := u_ws RX6 TX6 10
theorem nmX6 : ∀ a, a < 10 → ∀ b, b < 10 → a ≠ b → (TX6 a).2.1 ≠ (TX6 b).2.1 := by decide +kernel
theorem tyX6_ok : ∀ k, k < 10 → parseFieldDescriptor (TX6 k).2.2.1 = some (tyX6 k) := by decide +kernel
abbrev cX6_init : ByteArray := prog_8_method_1_code
def yX6_init : MethodName := ⟨RX6, "<init>", "()V"⟩
abbrev cX6_addObservatory : ByteArray := prog_8_method_2_code
def yX6_addObservatory : MethodName := ⟨RX6, "addObservatory", "(I)I"⟩
abbrev cX6_addPlate : ByteArray := prog_8_method_3_code
def yX6_addPlate : MethodName := ⟨RX6, "addPlate", "(II)I"⟩
abbrev cX6_addDot : ByteArray := prog_8_method_4_code
def yX6_addDot : MethodName := ⟨RX6, "addDot", "(III)I"⟩
abbrev cX6_replaceShift : ByteArray := prog_8_method_5_code
def yX6_replaceShift : MethodName := ⟨RX6, "replaceShift", "(II)I"⟩
abbrev cX6_plateOf : ByteArray := prog_8_method_6_code
def yX6_plateOf : MethodName := ⟨RX6, "plateOf", "(I)I"⟩
abbrev cX6_observatoryOf : ByteArray := prog_8_method_7_code
def yX6_observatoryOf : MethodName := ⟨RX6, "observatoryOf", "(I)I"⟩
abbrev cX6_errorOf : ByteArray := prog_8_method_8_code
def yX6_errorOf : MethodName := ⟨RX6, "errorOf", "(I)I"⟩
abbrev cX6_nightOf : ByteArray := prog_8_method_9_code
def yX6_nightOf : MethodName := ⟨RX6, "nightOf", "(I)I"⟩
abbrev cX6_lightOf : ByteArray := prog_8_method_10_code
def yX6_lightOf : MethodName := ⟨RX6, "lightOf", "(I)I"⟩
abbrev cX6_truePlaceOf : ByteArray := prog_8_method_11_code
def yX6_truePlaceOf : MethodName := ⟨RX6, "truePlaceOf", "(I)I"⟩
def RX7 : String := "PlanetoidDesk"
def TX7 : u_T := fun k => match k with
  | 0 => ("PlanetoidDesk", "sky", "LPlanetoidDesk$Sky;", true)
  | 1 => ("PlanetoidDesk", "bodies", "LPlanetoidDesk$Bodies;", true)
  | 2 => ("PlanetoidDesk", "looks", "LPlanetoidDesk$Looks;", true)
  | 3 => ("PlanetoidDesk", "fitting", "LPlanetoidDesk$Orbits;", true)
  | 4 => ("PlanetoidDesk", "paths", "LPlanetoidDesk$Paths;", true)
  | _ => ("PlanetoidDesk", "kinship", "LPlanetoidDesk$Kinship;", true)
def tyX7 : Nat → FieldType := fun k => match k with
  | 0 => .object "PlanetoidDesk$Sky"
  | 1 => .object "PlanetoidDesk$Bodies"
  | 2 => .object "PlanetoidDesk$Looks"
  | 3 => .object "PlanetoidDesk$Orbits"
  | 4 => .object "PlanetoidDesk$Paths"
  | _ => .object "PlanetoidDesk$Kinship"
abbrev wsX70 : List Cond := u_ws RX7 TX7 6
theorem nmX7 : ∀ a, a < 6 → ∀ b, b < 6 → a ≠ b → (TX7 a).2.1 ≠ (TX7 b).2.1 := by decide +kernel
theorem tyX7_ok : ∀ k, k < 6 → parseFieldDescriptor (TX7 k).2.2.1 = some (tyX7 k) := by decide +kernel
abbrev cX7_init : ByteArray := prog_1_method_1_code
def yX7_init : MethodName := ⟨RX7, "<init>", "()V"⟩
abbrev cX7_observatory : ByteArray := prog_1_method_2_code
def yX7_observatory : MethodName := ⟨RX7, "observatory", "(I)I"⟩
abbrev cX7_plate : ByteArray := prog_1_method_3_code
def yX7_plate : MethodName := ⟨RX7, "plate", "(II)I"⟩
abbrev cX7_dot : ByteArray := prog_1_method_4_code
def yX7_dot : MethodName := ⟨RX7, "dot", "(III)I"⟩
abbrev cX7_shift : ByteArray := prog_1_method_5_code
def yX7_shift : MethodName := ⟨RX7, "shift", "(II)I"⟩
abbrev cX7_ofDot : ByteArray := prog_1_method_6_code
def yX7_ofDot : MethodName := ⟨RX7, "ofDot", "(II)I"⟩
abbrev cX7_body : ByteArray := prog_1_method_7_code
def yX7_body : MethodName := ⟨RX7, "body", "(I)I"⟩
abbrev cX7_link : ByteArray := prog_1_method_8_code
def yX7_link : MethodName := ⟨RX7, "link", "(II)I"⟩
abbrev cX7_unlink : ByteArray := prog_1_method_9_code
def yX7_unlink : MethodName := ⟨RX7, "unlink", "(II)I"⟩
abbrev cX7_join : ByteArray := prog_1_method_10_code
def yX7_join : MethodName := ⟨RX7, "join", "(II)I"⟩
abbrev cX7_part : ByteArray := prog_1_method_11_code
def yX7_part : MethodName := ⟨RX7, "part", "(I)I"⟩
abbrev cX7_number : ByteArray := prog_1_method_12_code
def yX7_number : MethodName := ⟨RX7, "number", "(I)I"⟩
abbrev cX7_ofBody : ByteArray := prog_1_method_13_code
def yX7_ofBody : MethodName := ⟨RX7, "ofBody", "(II)I"⟩
abbrev cX7_orbits : ByteArray := prog_1_method_14_code
def yX7_orbits : MethodName := ⟨RX7, "orbits", "(I)I"⟩
abbrev cX7_orbitsAnew : ByteArray := prog_1_method_15_code
def yX7_orbitsAnew : MethodName := ⟨RX7, "orbitsAnew", "(I)I"⟩
abbrev cX7_orbit : ByteArray := prog_1_method_16_code
def yX7_orbit : MethodName := ⟨RX7, "orbit", "(III)I"⟩
abbrev cX7_spread : ByteArray := prog_1_method_17_code
def yX7_spread : MethodName := ⟨RX7, "spread", "(II)I"⟩
abbrev cX7_where : ByteArray := prog_1_method_18_code
def yX7_where : MethodName := ⟨RX7, "where", "(III)I"⟩
abbrev cX7_candidates : ByteArray := prog_1_method_19_code
def yX7_candidates : MethodName := ⟨RX7, "candidates", "(I)I"⟩
abbrev cX7_chance : ByteArray := prog_1_method_20_code
def yX7_chance : MethodName := ⟨RX7, "chance", "(IIIZ)I"⟩
abbrev cX7_families : ByteArray := prog_1_method_21_code
def yX7_families : MethodName := ⟨RX7, "families", "(I)I"⟩
abbrev cX7_family : ByteArray := prog_1_method_22_code
def yX7_family : MethodName := ⟨RX7, "family", "(II)I"⟩
abbrev cX7_turn : ByteArray := prog_1_method_23_code
def yX7_turn : MethodName := ⟨RX7, "turn", "(IZ)I"⟩
abbrev cX7_needOneOf : ByteArray := prog_1_method_24_code
def yX7_needOneOf : MethodName := ⟨RX7, "needOneOf", "(II)V"⟩
abbrev cX7_needWithin : ByteArray := prog_1_method_25_code
def yX7_needWithin : MethodName := ⟨RX7, "needWithin", "(III)V"⟩
abbrev cX7_gatherLooks : ByteArray := prog_1_method_26_code
def yX7_gatherLooks : MethodName := ⟨RX7, "gatherLooks", "(I)V"⟩
abbrev cX7_countLooks : ByteArray := prog_1_method_27_code
def yX7_countLooks : MethodName := ⟨RX7, "countLooks", "(I)I"⟩
abbrev cX7_firstLookOf : ByteArray := prog_1_method_28_code
def yX7_firstLookOf : MethodName := ⟨RX7, "firstLookOf", "(I)I"⟩
abbrev cX7_findOrbits : ByteArray := prog_1_method_29_code
def yX7_findOrbits : MethodName := ⟨RX7, "findOrbits", "(I)V"⟩
abbrev cX7_keepFitting : ByteArray := prog_1_method_30_code
def yX7_keepFitting : MethodName := ⟨RX7, "keepFitting", "(I)V"⟩
abbrev cX7_isSeenOn : ByteArray := prog_1_method_31_code
def yX7_isSeenOn : MethodName := ⟨RX7, "isSeenOn", "(II)Z"⟩
abbrev cX7_canTake : ByteArray := prog_1_method_32_code
def yX7_canTake : MethodName := ⟨RX7, "canTake", "(II)Z"⟩
abbrev cX7_canJoin : ByteArray := prog_1_method_33_code
def yX7_canJoin : MethodName := ⟨RX7, "canJoin", "(II)Z"⟩
abbrev cX7_shareAPlate : ByteArray := prog_1_method_34_code
def yX7_shareAPlate : MethodName := ⟨RX7, "shareAPlate", "(II)Z"⟩
abbrev cX7_isStronger : ByteArray := prog_1_method_35_code
def yX7_isStronger : MethodName := ⟨RX7, "isStronger", "(II)Z"⟩
abbrev cX7_canGetNumber : ByteArray := prog_1_method_36_code
def yX7_canGetNumber : MethodName := ⟨RX7, "canGetNumber", "(I)Z"⟩
abbrev cX7_isSeenLongEnough : ByteArray := prog_1_method_37_code
def yX7_isSeenLongEnough : MethodName := ⟨RX7, "isSeenLongEnough", "(I)Z"⟩
abbrev cX7_countPlacesLeft : ByteArray := prog_1_method_38_code
def yX7_countPlacesLeft : MethodName := ⟨RX7, "countPlacesLeft", "(I)I"⟩
abbrev cX7_leastAOf : ByteArray := prog_1_method_39_code
def yX7_leastAOf : MethodName := ⟨RX7, "leastAOf", "(II)I"⟩
abbrev cX7_faultOf : ByteArray := prog_1_method_40_code
def yX7_faultOf : MethodName := ⟨RX7, "faultOf", "(I)I"⟩
abbrev cX7_lightRange : ByteArray := prog_1_method_41_code
def yX7_lightRange : MethodName := ⟨RX7, "lightRange", "(II)I"⟩
abbrev cX7_bOf : ByteArray := prog_1_method_42_code
def yX7_bOf : MethodName := ⟨RX7, "bOf", "(I)I"⟩
abbrev cX7_cOf : ByteArray := prog_1_method_43_code
def yX7_cOf : MethodName := ⟨RX7, "cOf", "(I)I"⟩
abbrev cX7_drift : ByteArray := prog_1_method_44_code
def yX7_drift : MethodName := ⟨RX7, "drift", "(II)I"⟩
abbrev cX7_stretch : ByteArray := prog_1_method_45_code
def yX7_stretch : MethodName := ⟨RX7, "stretch", "(II)J"⟩
abbrev cX7_greatestDivisor : ByteArray := prog_1_method_46_code
def yX7_greatestDivisor : MethodName := ⟨RX7, "greatestDivisor", "(II)I"⟩
def RX8 : String := "PlanetoidDeskModel"
def TX8 : u_T := fun k => match k with
  | 0 => ("PlanetoidDeskModel", "shift", "[I", true)
  | 1 => ("PlanetoidDeskModel", "observatories", "I", false)
  | 2 => ("PlanetoidDeskModel", "error", "[I", true)
  | 3 => ("PlanetoidDeskModel", "plates", "I", false)
  | 4 => ("PlanetoidDeskModel", "seat", "[I", true)
  | 5 => ("PlanetoidDeskModel", "night", "[I", true)
  | 6 => ("PlanetoidDeskModel", "dots", "I", false)
  | 7 => ("PlanetoidDeskModel", "plateOf", "[I", true)
  | 8 => ("PlanetoidDeskModel", "measured", "[I", true)
  | 9 => ("PlanetoidDeskModel", "light", "[I", true)
  | 10 => ("PlanetoidDeskModel", "own", "[I", true)
  | 11 => ("PlanetoidDeskModel", "bodies", "I", false)
  | 12 => ("PlanetoidDeskModel", "above", "[I", true)
  | 13 => ("PlanetoidDeskModel", "joinedAt", "[I", true)
  | 14 => ("PlanetoidDeskModel", "numberOf", "[I", true)
  | 15 => ("PlanetoidDeskModel", "properB", "[I", true)
  | 16 => ("PlanetoidDeskModel", "properC", "[I", true)
  | 17 => ("PlanetoidDeskModel", "joins", "I", false)
  | 18 => ("PlanetoidDeskModel", "numbers", "I", false)
  | 19 => ("PlanetoidDeskModel", "looks", "I", false)
  | 20 => ("PlanetoidDeskModel", "look", "[I", true)
  | 21 => ("PlanetoidDeskModel", "found", "I", false)
  | 22 => ("PlanetoidDeskModel", "key", "[I", true)
  | 23 => ("PlanetoidDeskModel", "often", "[I", true)
  | 24 => ("PlanetoidDeskModel", "head", "[I", true)
  | 25 => ("PlanetoidDeskModel", "next", "[I", true)
  | 26 => ("PlanetoidDeskModel", "way", "[I", true)
  | 27 => ("PlanetoidDeskModel", "comes", "[Z", true)
  | 28 => ("PlanetoidDeskModel", "least", "[I", true)
  | 29 => ("PlanetoidDeskModel", "most", "[I", true)
  | 30 => ("PlanetoidDeskModel", "reached", "[I", true)
  | _ => ("PlanetoidDeskModel", "thrown", "I", false)
def tyX8 : Nat → FieldType := fun k => match k with
  | 0 => .array .int
  | 1 => .int
  | 2 => .array .int
  | 3 => .int
  | 4 => .array .int
  | 5 => .array .int
  | 6 => .int
  | 7 => .array .int
  | 8 => .array .int
  | 9 => .array .int
  | 10 => .array .int
  | 11 => .int
  | 12 => .array .int
  | 13 => .array .int
  | 14 => .array .int
  | 15 => .array .int
  | 16 => .array .int
  | 17 => .int
  | 18 => .int
  | 19 => .int
  | 20 => .array .int
  | 21 => .int
  | 22 => .array .int
  | 23 => .array .int
  | 24 => .array .int
  | 25 => .array .int
  | 26 => .array .int
  | 27 => .array .boolean
  | 28 => .array .int
  | 29 => .array .int
  | 30 => .array .int
  | _ => .int
abbrev wsX80 : List Cond := u_ws RX8 TX8 32
theorem nmX8 : ∀ a, a < 32 → ∀ b, b < 32 → a ≠ b → (TX8 a).2.1 ≠ (TX8 b).2.1 := by decide +kernel
theorem tyX8_ok : ∀ k, k < 32 → parseFieldDescriptor (TX8 k).2.2.1 = some (tyX8 k) := by decide +kernel
abbrev cX8_init : ByteArray := prog_10_method_1_code
def yX8_init : MethodName := ⟨RX8, "<init>", "()V"⟩
abbrev cX8_thrown : ByteArray := prog_10_method_2_code
def yX8_thrown : MethodName := ⟨RX8, "thrown", "()I"⟩
abbrev cX8_can : ByteArray := prog_10_method_3_code
def yX8_can : MethodName := ⟨RX8, "can", "(I)Z"⟩
abbrev cX8_isIn : ByteArray := prog_10_method_4_code
def yX8_isIn : MethodName := ⟨RX8, "isIn", "(III)Z"⟩
abbrev cX8_size : ByteArray := prog_10_method_5_code
def yX8_size : MethodName := ⟨RX8, "size", "(I)I"⟩
abbrev cX8_round : ByteArray := prog_10_method_6_code
def yX8_round : MethodName := ⟨RX8, "round", "(I)I"⟩
abbrev cX8_apart : ByteArray := prog_10_method_7_code
def yX8_apart : MethodName := ⟨RX8, "apart", "(II)I"⟩
abbrev cX8_isNight : ByteArray := prog_10_method_8_code
def yX8_isNight : MethodName := ⟨RX8, "isNight", "(I)Z"⟩
abbrev cX8_isDot : ByteArray := prog_10_method_9_code
def yX8_isDot : MethodName := ⟨RX8, "isDot", "(I)Z"⟩
abbrev cX8_isBody : ByteArray := prog_10_method_10_code
def yX8_isBody : MethodName := ⟨RX8, "isBody", "(I)Z"⟩
abbrev cX8_observatory : ByteArray := prog_10_method_11_code
def yX8_observatory : MethodName := ⟨RX8, "observatory", "(I)I"⟩
abbrev cX8_plate : ByteArray := prog_10_method_12_code
def yX8_plate : MethodName := ⟨RX8, "plate", "(II)I"⟩
abbrev cX8_dot : ByteArray := prog_10_method_13_code
def yX8_dot : MethodName := ⟨RX8, "dot", "(III)I"⟩
abbrev cX8_shift : ByteArray := prog_10_method_14_code
def yX8_shift : MethodName := ⟨RX8, "shift", "(II)I"⟩
abbrev cX8_trueOf : ByteArray := prog_10_method_15_code
def yX8_trueOf : MethodName := ⟨RX8, "trueOf", "(I)I"⟩
abbrev cX8_nightOf : ByteArray := prog_10_method_16_code
def yX8_nightOf : MethodName := ⟨RX8, "nightOf", "(I)I"⟩
abbrev cX8_errorOf : ByteArray := prog_10_method_17_code
def yX8_errorOf : MethodName := ⟨RX8, "errorOf", "(I)I"⟩
abbrev cX8_ofDot : ByteArray := prog_10_method_18_code
def yX8_ofDot : MethodName := ⟨RX8, "ofDot", "(II)I"⟩
abbrev cX8_isBelow : ByteArray := prog_10_method_19_code
def yX8_isBelow : MethodName := ⟨RX8, "isBelow", "(II)Z"⟩
abbrev cX8_laysAlso : ByteArray := prog_10_method_20_code
def yX8_laysAlso : MethodName := ⟨RX8, "laysAlso", "(I)V"⟩
abbrev cX8_lays : ByteArray := prog_10_method_21_code
def yX8_lays : MethodName := ⟨RX8, "lays", "(I)V"⟩
abbrev cX8_moves : ByteArray := prog_10_method_22_code
def yX8_moves : MethodName := ⟨RX8, "moves", "(III)I"⟩
abbrev cX8_fits : ByteArray := prog_10_method_23_code
def yX8_fits : MethodName := ⟨RX8, "fits", "(III)Z"⟩
abbrev cX8_finds : ByteArray := prog_10_method_24_code
def yX8_finds : MethodName := ⟨RX8, "finds", "()V"⟩
abbrev cX8_hasOrbit : ByteArray := prog_10_method_25_code
def yX8_hasOrbit : MethodName := ⟨RX8, "hasOrbit", "()Z"⟩
abbrev cX8_firstOf : ByteArray := prog_10_method_26_code
def yX8_firstOf : MethodName := ⟨RX8, "firstOf", "(I)I"⟩
abbrev cX8_body : ByteArray := prog_10_method_27_code
def yX8_body : MethodName := ⟨RX8, "body", "(I)I"⟩
abbrev cX8_isOnPlate : ByteArray := prog_10_method_28_code
def yX8_isOnPlate : MethodName := ⟨RX8, "isOnPlate", "(II)Z"⟩
abbrev cX8_canLink : ByteArray := prog_10_method_29_code
def yX8_canLink : MethodName := ⟨RX8, "canLink", "(II)Z"⟩
abbrev cX8_link : ByteArray := prog_10_method_30_code
def yX8_link : MethodName := ⟨RX8, "link", "(II)I"⟩
abbrev cX8_ownOf : ByteArray := prog_10_method_31_code
def yX8_ownOf : MethodName := ⟨RX8, "ownOf", "(I)I"⟩
abbrev cX8_unlink : ByteArray := prog_10_method_32_code
def yX8_unlink : MethodName := ⟨RX8, "unlink", "(II)I"⟩
abbrev cX8_canJoin : ByteArray := prog_10_method_33_code
def yX8_canJoin : MethodName := ⟨RX8, "canJoin", "(II)Z"⟩
abbrev cX8_stronger : ByteArray := prog_10_method_34_code
def yX8_stronger : MethodName := ⟨RX8, "stronger", "(II)I"⟩
abbrev cX8_join : ByteArray := prog_10_method_35_code
def yX8_join : MethodName := ⟨RX8, "join", "(II)I"⟩
abbrev cX8_latest : ByteArray := prog_10_method_36_code
def yX8_latest : MethodName := ⟨RX8, "latest", "(I)I"⟩
abbrev cX8_part : ByteArray := prog_10_method_37_code
def yX8_part : MethodName := ⟨RX8, "part", "(I)I"⟩
abbrev cX8_canNumber : ByteArray := prog_10_method_38_code
def yX8_canNumber : MethodName := ⟨RX8, "canNumber", "(I)Z"⟩
abbrev cX8_number : ByteArray := prog_10_method_39_code
def yX8_number : MethodName := ⟨RX8, "number", "(I)I"⟩
abbrev cX8_joinedTo : ByteArray := prog_10_method_40_code
def yX8_joinedTo : MethodName := ⟨RX8, "joinedTo", "(I)I"⟩
abbrev cX8_looksOf : ByteArray := prog_10_method_41_code
def yX8_looksOf : MethodName := ⟨RX8, "looksOf", "(I)I"⟩
abbrev cX8_ofBody : ByteArray := prog_10_method_42_code
def yX8_ofBody : MethodName := ⟨RX8, "ofBody", "(II)I"⟩
abbrev cX8_orbitsOf : ByteArray := prog_10_method_43_code
def yX8_orbitsOf : MethodName := ⟨RX8, "orbitsOf", "(I)I"⟩
abbrev cX8_orbits : ByteArray := prog_10_method_44_code
def yX8_orbits : MethodName := ⟨RX8, "orbits", "(I)I"⟩
abbrev cX8_orbitsAnew : ByteArray := prog_10_method_45_code
def yX8_orbitsAnew : MethodName := ⟨RX8, "orbitsAnew", "(I)I"⟩
abbrev cX8_keyAt : ByteArray := prog_10_method_46_code
def yX8_keyAt : MethodName := ⟨RX8, "keyAt", "(I)I"⟩
abbrev cX8_orbit : ByteArray := prog_10_method_47_code
def yX8_orbit : MethodName := ⟨RX8, "orbit", "(III)I"⟩
abbrev cX8_placeBy : ByteArray := prog_10_method_48_code
def yX8_placeBy : MethodName := ⟨RX8, "placeBy", "(II)I"⟩
abbrev cX8_spreads : ByteArray := prog_10_method_49_code
def yX8_spreads : MethodName := ⟨RX8, "spreads", "(II)V"⟩
abbrev cX8_spreadOf : ByteArray := prog_10_method_50_code
def yX8_spreadOf : MethodName := ⟨RX8, "spreadOf", "(II)I"⟩
abbrev cX8_spread : ByteArray := prog_10_method_51_code
def yX8_spread : MethodName := ⟨RX8, "spread", "(II)I"⟩
abbrev cX8_placeAt : ByteArray := prog_10_method_52_code
def yX8_placeAt : MethodName := ⟨RX8, "placeAt", "(III)I"⟩
abbrev cX8_where : ByteArray := prog_10_method_53_code
def yX8_where : MethodName := ⟨RX8, "where", "(III)I"⟩
abbrev cX8_candidatesOf : ByteArray := prog_10_method_54_code
def yX8_candidatesOf : MethodName := ⟨RX8, "candidatesOf", "(I)I"⟩
abbrev cX8_candidates : ByteArray := prog_10_method_55_code
def yX8_candidates : MethodName := ⟨RX8, "candidates", "(I)I"⟩
abbrev cX8_isNear : ByteArray := prog_10_method_56_code
def yX8_isNear : MethodName := ⟨RX8, "isNear", "(III)Z"⟩
abbrev cX8_paths : ByteArray := prog_10_method_57_code
def yX8_paths : MethodName := ⟨RX8, "paths", "(II)I"⟩
abbrev cX8_common : ByteArray := prog_10_method_58_code
def yX8_common : MethodName := ⟨RX8, "common", "(II)I"⟩
abbrev cX8_chanceOf : ByteArray := prog_10_method_59_code
def yX8_chanceOf : MethodName := ⟨RX8, "chanceOf", "(IIIZ)I"⟩
abbrev cX8_chance : ByteArray := prog_10_method_60_code
def yX8_chance : MethodName := ⟨RX8, "chance", "(IIIZ)I"⟩
abbrev cX8_areAkin : ByteArray := prog_10_method_61_code
def yX8_areAkin : MethodName := ⟨RX8, "areAkin", "(III)Z"⟩
abbrev cX8_reaches : ByteArray := prog_10_method_62_code
def yX8_reaches : MethodName := ⟨RX8, "reaches", "(I)V"⟩
abbrev cX8_families : ByteArray := prog_10_method_63_code
def yX8_families : MethodName := ⟨RX8, "families", "(I)I"⟩
abbrev cX8_familyOf : ByteArray := prog_10_method_64_code
def yX8_familyOf : MethodName := ⟨RX8, "familyOf", "(II)I"⟩
abbrev cX8_family : ByteArray := prog_10_method_65_code
def yX8_family : MethodName := ⟨RX8, "family", "(II)I"⟩
abbrev cX8_fault : ByteArray := prog_10_method_66_code
def yX8_fault : MethodName := ⟨RX8, "fault", "(I)I"⟩
abbrev cX8_turnOf : ByteArray := prog_10_method_67_code
def yX8_turnOf : MethodName := ⟨RX8, "turnOf", "(IZ)I"⟩
abbrev cX8_turn : ByteArray := prog_10_method_68_code
def yX8_turn : MethodName := ⟨RX8, "turn", "(IZ)I"⟩
def RJ13 : String := "java/lang/Long"
def TJ13 : u_T := fun k => match k with
  | _ => ("", "", "", false)
def tyJ13 : Nat → FieldType := fun k => match k with
  | _ => .int
abbrev wsJ130 : List Cond := u_ws RJ13 TJ13 0
theorem nmJ13 : ∀ a, a < 0 → ∀ b, b < 0 → a ≠ b → (TJ13 a).2.1 ≠ (TJ13 b).2.1 := by decide +kernel
theorem tyJ13_ok : ∀ k, k < 0 → parseFieldDescriptor (TJ13 k).2.2.1 = some (tyJ13 k) := by decide +kernel
abbrev cJ13_bitCount_95d88 : ByteArray := prog_15_method_50_code
def yJ13_bitCount_95d88 : MethodName := ⟨RJ13, "bitCount", "(J)I"⟩
def RJ9 : String := "java/lang/Math"
def TJ9 : u_T := fun k => match k with
  | _ => ("", "", "", false)
def tyJ9 : Nat → FieldType := fun k => match k with
  | _ => .int
abbrev wsJ90 : List Cond := u_ws RJ9 TJ9 0
theorem nmJ9 : ∀ a, a < 0 → ∀ b, b < 0 → a ≠ b → (TJ9 a).2.1 ≠ (TJ9 b).2.1 := by decide +kernel
theorem tyJ9_ok : ∀ k, k < 0 → parseFieldDescriptor (TJ9 k).2.2.1 = some (tyJ9 k) := by decide +kernel
abbrev cJ9_floorMod_7cf53 : ByteArray := prog_16_method_50_code
def yJ9_floorMod_7cf53 : MethodName := ⟨RJ9, "floorMod", "(II)I"⟩
abbrev cJ9_abs_0f7a4 : ByteArray := prog_16_method_59_code
def yJ9_abs_0f7a4 : MethodName := ⟨RJ9, "abs", "(I)I"⟩
abbrev cJ9_max_7cf53 : ByteArray := prog_16_method_65_code
def yJ9_max_7cf53 : MethodName := ⟨RJ9, "max", "(II)I"⟩
abbrev cJ9_min_7cf53 : ByteArray := prog_16_method_69_code
def yJ9_min_7cf53 : MethodName := ⟨RJ9, "min", "(II)I"⟩
def RJ0 : String := "java/lang/String"
def TJ0 : u_T := fun k => match k with
  | _ => ("", "", "", false)
def tyJ0 : Nat → FieldType := fun k => match k with
  | _ => .int
abbrev wsJ00 : List Cond := u_ws RJ0 TJ0 0
theorem nmJ0 : ∀ a, a < 0 → ∀ b, b < 0 → a ≠ b → (TJ0 a).2.1 ≠ (TJ0 b).2.1 := by decide +kernel
theorem tyJ0_ok : ∀ k, k < 0 → parseFieldDescriptor (TJ0 k).2.2.1 = some (tyJ0 k) := by decide +kernel
def RL : String := "PlanetoidDeskLaw"
abbrev cL_observatory : ByteArray := method_3_code
def yL_observatory : MethodName := ⟨RL, "observatory", "(LPlanetoidDesk;I[J)I"⟩
abbrev cL_plate : ByteArray := method_4_code
def yL_plate : MethodName := ⟨RL, "plate", "(LPlanetoidDesk;II[J)I"⟩
abbrev cL_dot : ByteArray := method_5_code
def yL_dot : MethodName := ⟨RL, "dot", "(LPlanetoidDesk;III[J)I"⟩
abbrev cL_shift : ByteArray := method_6_code
def yL_shift : MethodName := ⟨RL, "shift", "(LPlanetoidDesk;II[J)I"⟩
abbrev cL_ofDot : ByteArray := method_7_code
def yL_ofDot : MethodName := ⟨RL, "ofDot", "(LPlanetoidDesk;II[J)I"⟩
abbrev cL_body : ByteArray := method_8_code
def yL_body : MethodName := ⟨RL, "body", "(LPlanetoidDesk;I[J)I"⟩
abbrev cL_link : ByteArray := method_9_code
def yL_link : MethodName := ⟨RL, "link", "(LPlanetoidDesk;II[J)I"⟩
abbrev cL_unlink : ByteArray := method_10_code
def yL_unlink : MethodName := ⟨RL, "unlink", "(LPlanetoidDesk;II[J)I"⟩
abbrev cL_join : ByteArray := method_11_code
def yL_join : MethodName := ⟨RL, "join", "(LPlanetoidDesk;II[J)I"⟩
abbrev cL_part : ByteArray := method_12_code
def yL_part : MethodName := ⟨RL, "part", "(LPlanetoidDesk;I[J)I"⟩
abbrev cL_number : ByteArray := method_13_code
def yL_number : MethodName := ⟨RL, "number", "(LPlanetoidDesk;I[J)I"⟩
abbrev cL_ofBody : ByteArray := method_14_code
def yL_ofBody : MethodName := ⟨RL, "ofBody", "(LPlanetoidDesk;II[J)I"⟩
abbrev cL_orbits : ByteArray := method_15_code
def yL_orbits : MethodName := ⟨RL, "orbits", "(LPlanetoidDesk;I[J)I"⟩
abbrev cL_orbitsAnew : ByteArray := method_16_code
def yL_orbitsAnew : MethodName := ⟨RL, "orbitsAnew", "(LPlanetoidDesk;I[J)I"⟩
abbrev cL_orbit : ByteArray := method_17_code
def yL_orbit : MethodName := ⟨RL, "orbit", "(LPlanetoidDesk;III[J)I"⟩
abbrev cL_spread : ByteArray := method_18_code
def yL_spread : MethodName := ⟨RL, "spread", "(LPlanetoidDesk;II[J)I"⟩
abbrev cL_where : ByteArray := method_19_code
def yL_where : MethodName := ⟨RL, "where", "(LPlanetoidDesk;III[J)I"⟩
abbrev cL_candidates : ByteArray := method_20_code
def yL_candidates : MethodName := ⟨RL, "candidates", "(LPlanetoidDesk;I[J)I"⟩
abbrev cL_chance : ByteArray := method_21_code
def yL_chance : MethodName := ⟨RL, "chance", "(LPlanetoidDesk;IIIZ[J)I"⟩
abbrev cL_families : ByteArray := method_22_code
def yL_families : MethodName := ⟨RL, "families", "(LPlanetoidDesk;I[J)I"⟩
abbrev cL_family : ByteArray := method_23_code
def yL_family : MethodName := ⟨RL, "family", "(LPlanetoidDesk;II[J)I"⟩
abbrev cL_turn : ByteArray := method_24_code
def yL_turn : MethodName := ⟨RL, "turn", "(LPlanetoidDesk;IZ[J)I"⟩
abbrev cL_law : ByteArray := code
def yL_law : MethodName := ⟨RL, "law", "([I)Z"⟩
def wsX5_init : List Cond := .code yX5_init cX5_init 2 none :: ([.methodLink RX5 1 objectInit, .instanceMethod objectInit, .code objectInit ⟨#[0xb1]⟩ 1 none, .arrayClass .int, .fieldLink RX5 7 "PlanetoidDesk$Row" "cells" "[I"] ++ wsX50)
def wsX5_fill : List Cond := .code yX5_fill cX5_fill 3 none :: ([.fieldLink RX5 7 "PlanetoidDesk$Row" "cells" "[I"] ++ wsX50)
def wsX0_init : List Cond := .code yX0_init cX0_init 1 none :: ([.methodLink RX0 3 objectInit, .instanceMethod objectInit, .code objectInit ⟨#[0xb1]⟩ 1 none, .classLink RX0 9 RX5, .instantiable RX5 1, .initialized RX5, .fieldLink RX0 14 "PlanetoidDesk$Bodies" "owners" "LPlanetoidDesk$Row;", .fieldLink RX0 20 "PlanetoidDesk$Bodies" "hosts" "LPlanetoidDesk$Row;", .fieldLink RX0 23 "PlanetoidDesk$Bodies" "joinTimes" "LPlanetoidDesk$Row;", .fieldLink RX0 26 "PlanetoidDesk$Bodies" "numbers" "LPlanetoidDesk$Row;", .fieldLink RX0 29 "PlanetoidDesk$Bodies" "properCourses" "LPlanetoidDesk$Row;", .methodLink RX0 11 yX5_init, .instanceMethod yX5_init, .code yX5_init cX5_init 2 none, .methodLink RX5 1 objectInit, .arrayClass .int, .fieldLink RX5 7 "PlanetoidDesk$Row" "cells" "[I", .methodLink RX0 32 yX5_fill, .instanceMethod yX5_fill, .selects RX5 yX5_fill yX5_fill, .code yX5_fill cX5_fill 3 none] ++ wsX50 ++ wsX00)
def wsX5_put : List Cond := .code yX5_put cX5_put 3 none :: ([.fieldLink RX5 7 "PlanetoidDesk$Row" "cells" "[I"] ++ wsX50)
def wsX0_own : List Cond := .code yX0_own cX0_own 3 none :: ([.fieldLink RX0 14 "PlanetoidDesk$Bodies" "owners" "LPlanetoidDesk$Row;", .methodLink RX0 43 yX5_put, .instanceMethod yX5_put, .selects RX5 yX5_put yX5_put, .initialized RX5, .code yX5_put cX5_put 3 none, .fieldLink RX5 7 "PlanetoidDesk$Row" "cells" "[I"] ++ wsX00 ++ wsX50)
def wsX0_addBody : List Cond := .code yX0_addBody cX0_addBody 2 (some .int) :: ([.fieldLink RX0 35 "PlanetoidDesk$Bodies" "count" "I", .methodLink RX0 39 yX0_own, .instanceMethod yX0_own, .selects RX0 yX0_own yX0_own, .initialized RX0, .code yX0_own cX0_own 3 none, .fieldLink RX0 14 "PlanetoidDesk$Bodies" "owners" "LPlanetoidDesk$Row;", .methodLink RX0 43 yX5_put, .instanceMethod yX5_put, .selects RX5 yX5_put yX5_put, .initialized RX5, .code yX5_put cX5_put 3 none, .fieldLink RX5 7 "PlanetoidDesk$Row" "cells" "[I"] ++ wsX00 ++ wsX50)
def wsX5_at : List Cond := .code yX5_at cX5_at 2 (some .int) :: ([.fieldLink RX5 7 "PlanetoidDesk$Row" "cells" "[I"] ++ wsX50)
def wsX0_ownerOf : List Cond := .code yX0_ownerOf cX0_ownerOf 2 (some .int) :: ([.fieldLink RX0 14 "PlanetoidDesk$Bodies" "owners" "LPlanetoidDesk$Row;", .methodLink RX0 46 yX5_at, .instanceMethod yX5_at, .selects RX5 yX5_at yX5_at, .initialized RX5, .code yX5_at cX5_at 2 (some .int), .fieldLink RX5 7 "PlanetoidDesk$Row" "cells" "[I"] ++ wsX00 ++ wsX50)
def wsX0_isUnlinked : List Cond := .code yX0_isUnlinked cX0_isUnlinked 2 (some .boolean) :: ([.fieldLink RX0 14 "PlanetoidDesk$Bodies" "owners" "LPlanetoidDesk$Row;", .methodLink RX0 46 yX5_at, .instanceMethod yX5_at, .selects RX5 yX5_at yX5_at, .initialized RX5, .code yX5_at cX5_at 2 (some .int), .fieldLink RX5 7 "PlanetoidDesk$Row" "cells" "[I"] ++ wsX00 ++ wsX50)
def wsX0_countOwnDots : List Cond := .code yX0_countOwnDots cX0_countOwnDots 4 (some .int) :: ([.fieldLink RX0 14 "PlanetoidDesk$Bodies" "owners" "LPlanetoidDesk$Row;", .methodLink RX0 46 yX5_at, .instanceMethod yX5_at, .selects RX5 yX5_at yX5_at, .initialized RX5, .code yX5_at cX5_at 2 (some .int), .fieldLink RX5 7 "PlanetoidDesk$Row" "cells" "[I"] ++ wsX00 ++ wsX50)
def wsX0_isLook : List Cond := .code yX0_isLook cX0_isLook 5 (some .boolean) :: ([.fieldLink RX0 14 "PlanetoidDesk$Bodies" "owners" "LPlanetoidDesk$Row;", .fieldLink RX0 20 "PlanetoidDesk$Bodies" "hosts" "LPlanetoidDesk$Row;", .methodLink RX0 46 yX5_at, .instanceMethod yX5_at, .selects RX5 yX5_at yX5_at, .initialized RX5, .code yX5_at cX5_at 2 (some .int), .fieldLink RX5 7 "PlanetoidDesk$Row" "cells" "[I"] ++ wsX00 ++ wsX50)
def wsX0_hostOf : List Cond := .code yX0_hostOf cX0_hostOf 2 (some .int) :: ([.fieldLink RX0 20 "PlanetoidDesk$Bodies" "hosts" "LPlanetoidDesk$Row;", .methodLink RX0 46 yX5_at, .instanceMethod yX5_at, .selects RX5 yX5_at yX5_at, .initialized RX5, .code yX5_at cX5_at 2 (some .int), .fieldLink RX5 7 "PlanetoidDesk$Row" "cells" "[I"] ++ wsX00 ++ wsX50)
def wsX0_isFree : List Cond := .code yX0_isFree cX0_isFree 2 (some .boolean) :: ([.fieldLink RX0 20 "PlanetoidDesk$Bodies" "hosts" "LPlanetoidDesk$Row;", .methodLink RX0 46 yX5_at, .instanceMethod yX5_at, .selects RX5 yX5_at yX5_at, .initialized RX5, .code yX5_at cX5_at 2 (some .int), .fieldLink RX5 7 "PlanetoidDesk$Row" "cells" "[I"] ++ wsX00 ++ wsX50)
def wsX0_attach : List Cond := .code yX0_attach cX0_attach 3 none :: ([.fieldLink RX0 20 "PlanetoidDesk$Bodies" "hosts" "LPlanetoidDesk$Row;", .fieldLink RX0 50 "PlanetoidDesk$Bodies" "joins" "I", .fieldLink RX0 23 "PlanetoidDesk$Bodies" "joinTimes" "LPlanetoidDesk$Row;", .methodLink RX0 43 yX5_put, .instanceMethod yX5_put, .selects RX5 yX5_put yX5_put, .initialized RX5, .code yX5_put cX5_put 3 none, .fieldLink RX5 7 "PlanetoidDesk$Row" "cells" "[I"] ++ wsX00 ++ wsX50)
def wsX0_free : List Cond := .code yX0_free cX0_free 2 none :: ([.fieldLink RX0 20 "PlanetoidDesk$Bodies" "hosts" "LPlanetoidDesk$Row;", .methodLink RX0 43 yX5_put, .instanceMethod yX5_put, .selects RX5 yX5_put yX5_put, .initialized RX5, .code yX5_put cX5_put 3 none, .fieldLink RX5 7 "PlanetoidDesk$Row" "cells" "[I"] ++ wsX00 ++ wsX50)
def wsX0_countJoinedTo : List Cond := .code yX0_countJoinedTo cX0_countJoinedTo 4 (some .int) :: ([.fieldLink RX0 35 "PlanetoidDesk$Bodies" "count" "I", .fieldLink RX0 20 "PlanetoidDesk$Bodies" "hosts" "LPlanetoidDesk$Row;", .methodLink RX0 46 yX5_at, .instanceMethod yX5_at, .selects RX5 yX5_at yX5_at, .initialized RX5, .code yX5_at cX5_at 2 (some .int), .fieldLink RX5 7 "PlanetoidDesk$Row" "cells" "[I"] ++ wsX00 ++ wsX50)
def wsX0_latestJoinedTo : List Cond := .code yX0_latestJoinedTo cX0_latestJoinedTo 5 (some .int) :: ([.fieldLink RX0 35 "PlanetoidDesk$Bodies" "count" "I", .fieldLink RX0 23 "PlanetoidDesk$Bodies" "joinTimes" "LPlanetoidDesk$Row;", .fieldLink RX0 20 "PlanetoidDesk$Bodies" "hosts" "LPlanetoidDesk$Row;", .methodLink RX0 46 yX5_at, .instanceMethod yX5_at, .selects RX5 yX5_at yX5_at, .initialized RX5, .code yX5_at cX5_at 2 (some .int), .fieldLink RX5 7 "PlanetoidDesk$Row" "cells" "[I"] ++ wsX00 ++ wsX50)
def wsX0_giveNumber : List Cond := .code yX0_giveNumber cX0_giveNumber 3 (some .int) :: ([.fieldLink RX0 53 "PlanetoidDesk$Bodies" "lastNumber" "I", .fieldLink RX0 26 "PlanetoidDesk$Bodies" "numbers" "LPlanetoidDesk$Row;", .fieldLink RX0 29 "PlanetoidDesk$Bodies" "properCourses" "LPlanetoidDesk$Row;", .methodLink RX0 43 yX5_put, .instanceMethod yX5_put, .selects RX5 yX5_put yX5_put, .initialized RX5, .code yX5_put cX5_put 3 none, .fieldLink RX5 7 "PlanetoidDesk$Row" "cells" "[I"] ++ wsX00 ++ wsX50)
def wsX0_numberOf : List Cond := .code yX0_numberOf cX0_numberOf 2 (some .int) :: ([.fieldLink RX0 26 "PlanetoidDesk$Bodies" "numbers" "LPlanetoidDesk$Row;", .methodLink RX0 46 yX5_at, .instanceMethod yX5_at, .selects RX5 yX5_at yX5_at, .initialized RX5, .code yX5_at cX5_at 2 (some .int), .fieldLink RX5 7 "PlanetoidDesk$Row" "cells" "[I"] ++ wsX00 ++ wsX50)
def wsX0_withNumber : List Cond := .code yX0_withNumber cX0_withNumber 3 (some .int) :: ([.fieldLink RX0 35 "PlanetoidDesk$Bodies" "count" "I", .fieldLink RX0 26 "PlanetoidDesk$Bodies" "numbers" "LPlanetoidDesk$Row;", .methodLink RX0 46 yX5_at, .instanceMethod yX5_at, .selects RX5 yX5_at yX5_at, .initialized RX5, .code yX5_at cX5_at 2 (some .int), .fieldLink RX5 7 "PlanetoidDesk$Row" "cells" "[I"] ++ wsX00 ++ wsX50)
def wsX0_properCourseOf : List Cond := .code yX0_properCourseOf cX0_properCourseOf 2 (some .int) :: ([.fieldLink RX0 29 "PlanetoidDesk$Bodies" "properCourses" "LPlanetoidDesk$Row;", .methodLink RX0 46 yX5_at, .instanceMethod yX5_at, .selects RX5 yX5_at yX5_at, .initialized RX5, .code yX5_at cX5_at 2 (some .int), .fieldLink RX5 7 "PlanetoidDesk$Row" "cells" "[I"] ++ wsX00 ++ wsX50)
def wsX1_init : List Cond := .code yX1_init cX1_init 1 none :: ([.methodLink RX1 3 objectInit, .instanceMethod objectInit, .code objectInit ⟨#[0xb1]⟩ 1 none, .classLink RX1 9 RX5, .instantiable RX5 1, .initialized RX5, .fieldLink RX1 14 "PlanetoidDesk$Kinship" "lowestNumbers" "LPlanetoidDesk$Row;", .methodLink RX1 11 yX5_init, .instanceMethod yX5_init, .code yX5_init cX5_init 2 none, .methodLink RX5 1 objectInit, .arrayClass .int, .fieldLink RX5 7 "PlanetoidDesk$Row" "cells" "[I"] ++ wsX50 ++ wsX10)
def wsX1_lowestNumberWith : List Cond := .code yX1_lowestNumberWith cX1_lowestNumberWith 2 (some .int) :: ([.fieldLink RX1 14 "PlanetoidDesk$Kinship" "lowestNumbers" "LPlanetoidDesk$Row;", .methodLink RX1 20 yX5_at, .instanceMethod yX5_at, .selects RX5 yX5_at yX5_at, .initialized RX5, .code yX5_at cX5_at 2 (some .int), .fieldLink RX5 7 "PlanetoidDesk$Row" "cells" "[I"] ++ wsX10 ++ wsX50)
def wsX7_bOf : List Cond := .code yX7_bOf cX7_bOf 1 (some .int) :: ([])
def wsX7_cOf : List Cond := .code yX7_cOf cX7_cOf 1 (some .int) :: ([])
def wsX1_areAkin_r1 : List Cond := [Cond.methodLink RX1 57 Lib.Math.abs.name, Cond.static Lib.Math.abs.name, Cond.initialized "java/lang/Math", Cond.code Lib.Math.abs.name Lib.Math.abs.code 1 (some .int), Cond.methodLink RX1 30 yX0_numberOf, Cond.instanceMethod yX0_numberOf, Cond.selects RX0 yX0_numberOf yX0_numberOf, Cond.initialized RX0, Cond.code yX0_numberOf cX0_numberOf 2 (some .int), Cond.fieldLink RX0 26 "PlanetoidDesk$Bodies" "numbers" "LPlanetoidDesk$Row;", Cond.methodLink RX0 46 yX5_at, Cond.instanceMethod yX5_at, Cond.selects RX5 yX5_at yX5_at, Cond.initialized RX5, Cond.code yX5_at cX5_at 2 (some .int), Cond.fieldLink RX5 7 "PlanetoidDesk$Row" "cells" "[I", Cond.methodLink RX1 51 yX0_properCourseOf, Cond.instanceMethod yX0_properCourseOf, Cond.selects RX0 yX0_properCourseOf yX0_properCourseOf, Cond.code yX0_properCourseOf cX0_properCourseOf 2 (some .int), Cond.fieldLink RX0 29 "PlanetoidDesk$Bodies" "properCourses" "LPlanetoidDesk$Row;", Cond.static yX7_bOf, Cond.initialized RX7, Cond.code yX7_bOf cX7_bOf 1 (some .int)]
def wsX1_areAkin_r2 : List Cond := [Cond.static yX7_cOf, Cond.code yX7_cOf cX7_cOf 1 (some .int)]
def wsX1_areAkin : List Cond := .code yX1_areAkin cX1_areAkin 8 (some .boolean) :: ((wsX1_areAkin_r1 ++ wsX1_areAkin_r2) ++ wsX00 ++ wsX50)
def wsX1_spreadLowest_r1 : List Cond := [Cond.fieldLink RX1 14 "PlanetoidDesk$Kinship" "lowestNumbers" "LPlanetoidDesk$Row;", Cond.methodLink RX1 45 Lib.Math.min.name, Cond.static Lib.Math.min.name, Cond.initialized "java/lang/Math", Cond.code Lib.Math.min.name Lib.Math.min.code 2 (some .int), Cond.methodLink RX1 41 yX1_areAkin, Cond.static yX1_areAkin, Cond.initialized RX1, Cond.code yX1_areAkin cX1_areAkin 8 (some .boolean), Cond.methodLink RX1 57 Lib.Math.abs.name, Cond.static Lib.Math.abs.name, Cond.code Lib.Math.abs.name Lib.Math.abs.code 1 (some .int), Cond.methodLink RX1 30 yX0_numberOf, Cond.instanceMethod yX0_numberOf, Cond.selects RX0 yX0_numberOf yX0_numberOf, Cond.initialized RX0, Cond.code yX0_numberOf cX0_numberOf 2 (some .int), Cond.fieldLink RX0 26 "PlanetoidDesk$Bodies" "numbers" "LPlanetoidDesk$Row;", Cond.methodLink RX0 46 yX5_at, Cond.instanceMethod yX5_at, Cond.selects RX5 yX5_at yX5_at, Cond.initialized RX5, Cond.code yX5_at cX5_at 2 (some .int), Cond.fieldLink RX5 7 "PlanetoidDesk$Row" "cells" "[I"]
def wsX1_spreadLowest_r2 : List Cond := [Cond.methodLink RX1 51 yX0_properCourseOf, Cond.instanceMethod yX0_properCourseOf, Cond.selects RX0 yX0_properCourseOf yX0_properCourseOf, Cond.code yX0_properCourseOf cX0_properCourseOf 2 (some .int), Cond.fieldLink RX0 29 "PlanetoidDesk$Bodies" "properCourses" "LPlanetoidDesk$Row;", Cond.static yX7_bOf, Cond.initialized RX7, Cond.code yX7_bOf cX7_bOf 1 (some .int), Cond.static yX7_cOf, Cond.code yX7_cOf cX7_cOf 1 (some .int), Cond.methodLink RX1 20 yX5_at, Cond.methodLink RX1 33 yX5_put, Cond.instanceMethod yX5_put, Cond.selects RX5 yX5_put yX5_put, Cond.code yX5_put cX5_put 3 none]
def wsX1_spreadLowest : List Cond := .code yX1_spreadLowest cX1_spreadLowest 6 none :: ((wsX1_spreadLowest_r1 ++ wsX1_spreadLowest_r2) ++ wsX00 ++ wsX10 ++ wsX50)
def wsX1_findFamilies_r1 : List Cond := [Cond.fieldLink RX1 14 "PlanetoidDesk$Kinship" "lowestNumbers" "LPlanetoidDesk$Row;", Cond.methodLink RX1 30 yX0_numberOf, Cond.instanceMethod yX0_numberOf, Cond.selects RX0 yX0_numberOf yX0_numberOf, Cond.initialized RX0, Cond.code yX0_numberOf cX0_numberOf 2 (some .int), Cond.fieldLink RX0 26 "PlanetoidDesk$Bodies" "numbers" "LPlanetoidDesk$Row;", Cond.methodLink RX0 46 yX5_at, Cond.instanceMethod yX5_at, Cond.selects RX5 yX5_at yX5_at, Cond.initialized RX5, Cond.code yX5_at cX5_at 2 (some .int), Cond.fieldLink RX5 7 "PlanetoidDesk$Row" "cells" "[I", Cond.methodLink RX1 33 yX5_put, Cond.instanceMethod yX5_put, Cond.selects RX5 yX5_put yX5_put, Cond.code yX5_put cX5_put 3 none, Cond.methodLink RX1 37 yX1_spreadLowest, Cond.instanceMethod yX1_spreadLowest, Cond.selects RX1 yX1_spreadLowest yX1_spreadLowest, Cond.initialized RX1, Cond.code yX1_spreadLowest cX1_spreadLowest 6 none, Cond.methodLink RX1 45 Lib.Math.min.name, Cond.static Lib.Math.min.name]
def wsX1_findFamilies_r2 : List Cond := [Cond.initialized "java/lang/Math", Cond.code Lib.Math.min.name Lib.Math.min.code 2 (some .int), Cond.methodLink RX1 41 yX1_areAkin, Cond.static yX1_areAkin, Cond.code yX1_areAkin cX1_areAkin 8 (some .boolean), Cond.methodLink RX1 57 Lib.Math.abs.name, Cond.static Lib.Math.abs.name, Cond.code Lib.Math.abs.name Lib.Math.abs.code 1 (some .int), Cond.methodLink RX1 51 yX0_properCourseOf, Cond.instanceMethod yX0_properCourseOf, Cond.selects RX0 yX0_properCourseOf yX0_properCourseOf, Cond.code yX0_properCourseOf cX0_properCourseOf 2 (some .int), Cond.fieldLink RX0 29 "PlanetoidDesk$Bodies" "properCourses" "LPlanetoidDesk$Row;", Cond.static yX7_bOf, Cond.initialized RX7, Cond.code yX7_bOf cX7_bOf 1 (some .int), Cond.static yX7_cOf, Cond.code yX7_cOf cX7_cOf 1 (some .int), Cond.methodLink RX1 20 yX5_at]
def wsX1_findFamilies : List Cond := .code yX1_findFamilies cX1_findFamilies 4 none :: ((wsX1_findFamilies_r1 ++ wsX1_findFamilies_r2) ++ wsX00 ++ wsX10 ++ wsX50)
def wsX2_init : List Cond := .code yX2_init cX2_init 1 none :: ([.methodLink RX2 3 objectInit, .instanceMethod objectInit, .code objectInit ⟨#[0xb1]⟩ 1 none, .classLink RX2 9 RX5, .instantiable RX5 1, .initialized RX5, .fieldLink RX2 14 "PlanetoidDesk$Looks" "dots" "LPlanetoidDesk$Row;", .methodLink RX2 11 yX5_init, .instanceMethod yX5_init, .code yX5_init cX5_init 2 none, .methodLink RX5 1 objectInit, .arrayClass .int, .fieldLink RX5 7 "PlanetoidDesk$Row" "cells" "[I"] ++ wsX50 ++ wsX20)
def wsX2_add : List Cond := .code yX2_add cX2_add 2 none :: ([.fieldLink RX2 14 "PlanetoidDesk$Looks" "dots" "LPlanetoidDesk$Row;", .fieldLink RX2 20 "PlanetoidDesk$Looks" "count" "I", .methodLink RX2 24 yX5_put, .instanceMethod yX5_put, .selects RX5 yX5_put yX5_put, .initialized RX5, .code yX5_put cX5_put 3 none, .fieldLink RX5 7 "PlanetoidDesk$Row" "cells" "[I"] ++ wsX20 ++ wsX50)
def wsX2_dotAt : List Cond := .code yX2_dotAt cX2_dotAt 2 (some .int) :: ([.fieldLink RX2 14 "PlanetoidDesk$Looks" "dots" "LPlanetoidDesk$Row;", .methodLink RX2 28 yX5_at, .instanceMethod yX5_at, .selects RX5 yX5_at yX5_at, .initialized RX5, .code yX5_at cX5_at 2 (some .int), .fieldLink RX5 7 "PlanetoidDesk$Row" "cells" "[I"] ++ wsX20 ++ wsX50)
def wsX3_init : List Cond := .code yX3_init cX3_init 1 none :: ([.methodLink RX3 3 objectInit, .instanceMethod objectInit, .code objectInit ⟨#[0xb1]⟩ 1 none, .classLink RX3 9 RX5, .instantiable RX5 1, .initialized RX5, .fieldLink RX3 14 "PlanetoidDesk$Orbits" "starts" "LPlanetoidDesk$Row;", .fieldLink RX3 20 "PlanetoidDesk$Orbits" "widths" "LPlanetoidDesk$Row;", .fieldLink RX3 23 "PlanetoidDesk$Orbits" "tallies" "LPlanetoidDesk$Row;", .methodLink RX3 11 yX5_init, .instanceMethod yX5_init, .code yX5_init cX5_init 2 none, .methodLink RX5 1 objectInit, .arrayClass .int, .fieldLink RX5 7 "PlanetoidDesk$Row" "cells" "[I"] ++ wsX50 ++ wsX30)
def wsX3_takeAll : List Cond := .code yX3_takeAll cX3_takeAll 1 none :: ([.fieldLink RX3 14 "PlanetoidDesk$Orbits" "starts" "LPlanetoidDesk$Row;", .fieldLink RX3 20 "PlanetoidDesk$Orbits" "widths" "LPlanetoidDesk$Row;", .methodLink RX3 26 yX5_fill, .instanceMethod yX5_fill, .selects RX5 yX5_fill yX5_fill, .initialized RX5, .code yX5_fill cX5_fill 3 none, .fieldLink RX5 7 "PlanetoidDesk$Row" "cells" "[I"] ++ wsX30 ++ wsX50)
def wsX7_drift : List Cond := .code yX7_drift cX7_drift 2 (some .int) :: ([.methodLink RX7 197 yX7_bOf, .static yX7_bOf, .initialized RX7, .code yX7_bOf cX7_bOf 1 (some .int), .methodLink RX7 200 yX7_cOf, .static yX7_cOf, .code yX7_cOf cX7_cOf 1 (some .int)])
def wsJ9_floorMod_7cf53 : List Cond := .code yJ9_floorMod_7cf53 cJ9_floorMod_7cf53 3 (some .int) :: ([])
def wsX3_behind : List Cond := .code yX3_behind cX3_behind 3 (some .int) :: ([.fieldLink RX3 14 "PlanetoidDesk$Orbits" "starts" "LPlanetoidDesk$Row;", .methodLink RX3 38 yX5_at, .instanceMethod yX5_at, .selects RX5 yX5_at yX5_at, .initialized RX5, .code yX5_at cX5_at 2 (some .int), .fieldLink RX5 7 "PlanetoidDesk$Row" "cells" "[I", .methodLink RX3 33 yJ9_floorMod_7cf53, .static yJ9_floorMod_7cf53, .initialized RJ9, .code yJ9_floorMod_7cf53 cJ9_floorMod_7cf53 3 (some .int)] ++ wsX30 ++ wsX50)
def wsX3_sharedWidth : List Cond := .code yX3_sharedWidth cX3_sharedWidth 4 (some .int) :: ([.methodLink RX3 53 Lib.Math.min.name, .static Lib.Math.min.name, .initialized "java/lang/Math", .code Lib.Math.min.name Lib.Math.min.code 2 (some .int), .methodLink RX3 56 Lib.Math.max.name, .static Lib.Math.max.name, .code Lib.Math.max.name Lib.Math.max.code 2 (some .int)])
def wsX3_keepNear_r1 : List Cond := [Cond.fieldLink RX3 20 "PlanetoidDesk$Orbits" "widths" "LPlanetoidDesk$Row;", Cond.fieldLink RX3 14 "PlanetoidDesk$Orbits" "starts" "LPlanetoidDesk$Row;", Cond.static yX7_drift, Cond.initialized RX7, Cond.code yX7_drift cX7_drift 2 (some .int), Cond.methodLink RX7 197 yX7_bOf, Cond.static yX7_bOf, Cond.code yX7_bOf cX7_bOf 1 (some .int), Cond.methodLink RX7 200 yX7_cOf, Cond.static yX7_cOf, Cond.code yX7_cOf cX7_cOf 1 (some .int), Cond.methodLink RX3 33 yJ9_floorMod_7cf53, Cond.static yJ9_floorMod_7cf53, Cond.initialized RJ9, Cond.code yJ9_floorMod_7cf53 cJ9_floorMod_7cf53 3 (some .int), Cond.methodLink RX3 38 yX5_at, Cond.instanceMethod yX5_at, Cond.selects RX5 yX5_at yX5_at, Cond.initialized RX5, Cond.code yX5_at cX5_at 2 (some .int), Cond.fieldLink RX5 7 "PlanetoidDesk$Row" "cells" "[I", Cond.methodLink RX3 42 yX3_behind, Cond.instanceMethod yX3_behind, Cond.selects RX3 yX3_behind yX3_behind]
def wsX3_keepNear_r2 : List Cond := [Cond.initialized RX3, Cond.code yX3_behind cX3_behind 3 (some .int), Cond.methodLink RX3 45 yX3_sharedWidth, Cond.static yX3_sharedWidth, Cond.code yX3_sharedWidth cX3_sharedWidth 4 (some .int), Cond.methodLink RX3 53 Lib.Math.min.name, Cond.static Lib.Math.min.name, Cond.initialized "java/lang/Math", Cond.code Lib.Math.min.name Lib.Math.min.code 2 (some .int), Cond.methodLink RX3 56 Lib.Math.max.name, Cond.static Lib.Math.max.name, Cond.code Lib.Math.max.name Lib.Math.max.code 2 (some .int), Cond.methodLink RX3 49 yX5_put, Cond.instanceMethod yX5_put, Cond.selects RX5 yX5_put yX5_put, Cond.code yX5_put cX5_put 3 none]
def wsX3_keepNear : List Cond := .code yX3_keepNear cX3_keepNear 9 none :: ((wsX3_keepNear_r1 ++ wsX3_keepNear_r2) ++ wsX30 ++ wsX50)
def wsX3_hasNear_r1 : List Cond := [Cond.fieldLink RX3 20 "PlanetoidDesk$Orbits" "widths" "LPlanetoidDesk$Row;", Cond.static yX7_drift, Cond.initialized RX7, Cond.code yX7_drift cX7_drift 2 (some .int), Cond.methodLink RX7 197 yX7_bOf, Cond.static yX7_bOf, Cond.code yX7_bOf cX7_bOf 1 (some .int), Cond.methodLink RX7 200 yX7_cOf, Cond.static yX7_cOf, Cond.code yX7_cOf cX7_cOf 1 (some .int), Cond.methodLink RX3 33 yJ9_floorMod_7cf53, Cond.static yJ9_floorMod_7cf53, Cond.initialized RJ9, Cond.code yJ9_floorMod_7cf53 cJ9_floorMod_7cf53 3 (some .int), Cond.methodLink RX3 38 yX5_at, Cond.instanceMethod yX5_at, Cond.selects RX5 yX5_at yX5_at, Cond.initialized RX5, Cond.code yX5_at cX5_at 2 (some .int), Cond.fieldLink RX5 7 "PlanetoidDesk$Row" "cells" "[I", Cond.methodLink RX3 42 yX3_behind, Cond.instanceMethod yX3_behind, Cond.selects RX3 yX3_behind yX3_behind, Cond.initialized RX3]
def wsX3_hasNear_r2 : List Cond := [Cond.code yX3_behind cX3_behind 3 (some .int), Cond.fieldLink RX3 14 "PlanetoidDesk$Orbits" "starts" "LPlanetoidDesk$Row;", Cond.methodLink RX3 45 yX3_sharedWidth, Cond.static yX3_sharedWidth, Cond.code yX3_sharedWidth cX3_sharedWidth 4 (some .int), Cond.methodLink RX3 53 Lib.Math.min.name, Cond.static Lib.Math.min.name, Cond.initialized "java/lang/Math", Cond.code Lib.Math.min.name Lib.Math.min.code 2 (some .int), Cond.methodLink RX3 56 Lib.Math.max.name, Cond.static Lib.Math.max.name, Cond.code Lib.Math.max.name Lib.Math.max.code 2 (some .int)]
def wsX3_hasNear : List Cond := .code yX3_hasNear cX3_hasNear 7 (some .boolean) :: ((wsX3_hasNear_r1 ++ wsX3_hasNear_r2) ++ wsX30 ++ wsX50)
def wsX3_startOf : List Cond := .code yX3_startOf cX3_startOf 2 (some .int) :: ([.fieldLink RX3 14 "PlanetoidDesk$Orbits" "starts" "LPlanetoidDesk$Row;", .methodLink RX3 38 yX5_at, .instanceMethod yX5_at, .selects RX5 yX5_at yX5_at, .initialized RX5, .code yX5_at cX5_at 2 (some .int), .fieldLink RX5 7 "PlanetoidDesk$Row" "cells" "[I"] ++ wsX30 ++ wsX50)
def wsX3_widthOf : List Cond := .code yX3_widthOf cX3_widthOf 2 (some .int) :: ([.fieldLink RX3 20 "PlanetoidDesk$Orbits" "widths" "LPlanetoidDesk$Row;", .methodLink RX3 38 yX5_at, .instanceMethod yX5_at, .selects RX5 yX5_at yX5_at, .initialized RX5, .code yX5_at cX5_at 2 (some .int), .fieldLink RX5 7 "PlanetoidDesk$Row" "cells" "[I"] ++ wsX30 ++ wsX50)
def wsX3_countOrbits : List Cond := .code yX3_countOrbits cX3_countOrbits 3 (some .int) :: ([.fieldLink RX3 20 "PlanetoidDesk$Orbits" "widths" "LPlanetoidDesk$Row;", .methodLink RX3 38 yX5_at, .instanceMethod yX5_at, .selects RX5 yX5_at yX5_at, .initialized RX5, .code yX5_at cX5_at 2 (some .int), .fieldLink RX5 7 "PlanetoidDesk$Row" "cells" "[I"] ++ wsX30 ++ wsX50)
def wsX3_tallyPlaces_r1 : List Cond := [Cond.fieldLink RX3 23 "PlanetoidDesk$Orbits" "tallies" "LPlanetoidDesk$Row;", Cond.fieldLink RX3 14 "PlanetoidDesk$Orbits" "starts" "LPlanetoidDesk$Row;", Cond.fieldLink RX3 20 "PlanetoidDesk$Orbits" "widths" "LPlanetoidDesk$Row;", Cond.methodLink RX3 26 yX5_fill, Cond.instanceMethod yX5_fill, Cond.selects RX5 yX5_fill yX5_fill, Cond.initialized RX5, Cond.code yX5_fill cX5_fill 3 none, Cond.fieldLink RX5 7 "PlanetoidDesk$Row" "cells" "[I", Cond.methodLink RX3 38 yX5_at, Cond.instanceMethod yX5_at, Cond.selects RX5 yX5_at yX5_at, Cond.code yX5_at cX5_at 2 (some .int), Cond.static yX7_drift, Cond.initialized RX7, Cond.code yX7_drift cX7_drift 2 (some .int), Cond.methodLink RX7 197 yX7_bOf, Cond.static yX7_bOf, Cond.code yX7_bOf cX7_bOf 1 (some .int), Cond.methodLink RX7 200 yX7_cOf, Cond.static yX7_cOf, Cond.code yX7_cOf cX7_cOf 1 (some .int), Cond.methodLink RX3 33 yJ9_floorMod_7cf53, Cond.static yJ9_floorMod_7cf53]
def wsX3_tallyPlaces_r2 : List Cond := [Cond.initialized RJ9, Cond.code yJ9_floorMod_7cf53 cJ9_floorMod_7cf53 3 (some .int), Cond.methodLink RX3 49 yX5_put, Cond.instanceMethod yX5_put, Cond.selects RX5 yX5_put yX5_put, Cond.code yX5_put cX5_put 3 none]
def wsX3_tallyPlaces : List Cond := .code yX3_tallyPlaces cX3_tallyPlaces 6 none :: ((wsX3_tallyPlaces_r1 ++ wsX3_tallyPlaces_r2) ++ wsX30 ++ wsX50)
def wsX3_courseWith : List Cond := .code yX3_courseWith cX3_courseWith 5 (some .int) :: ([.fieldLink RX3 20 "PlanetoidDesk$Orbits" "widths" "LPlanetoidDesk$Row;", .methodLink RX3 42 yX3_behind, .instanceMethod yX3_behind, .selects RX3 yX3_behind yX3_behind, .initialized RX3, .code yX3_behind cX3_behind 3 (some .int), .fieldLink RX3 14 "PlanetoidDesk$Orbits" "starts" "LPlanetoidDesk$Row;", .methodLink RX3 38 yX5_at, .instanceMethod yX5_at, .selects RX5 yX5_at yX5_at, .initialized RX5, .code yX5_at cX5_at 2 (some .int), .fieldLink RX5 7 "PlanetoidDesk$Row" "cells" "[I", .methodLink RX3 33 yJ9_floorMod_7cf53, .static yJ9_floorMod_7cf53, .initialized RJ9, .code yJ9_floorMod_7cf53 cJ9_floorMod_7cf53 3 (some .int)] ++ wsX30 ++ wsX50)
def wsX3_orbitAt_r1 : List Cond := [Cond.fieldLink RX3 23 "PlanetoidDesk$Orbits" "tallies" "LPlanetoidDesk$Row;", Cond.methodLink RX3 59 yX3_tallyPlaces, Cond.instanceMethod yX3_tallyPlaces, Cond.selects RX3 yX3_tallyPlaces yX3_tallyPlaces, Cond.initialized RX3, Cond.code yX3_tallyPlaces cX3_tallyPlaces 6 none, Cond.fieldLink RX3 14 "PlanetoidDesk$Orbits" "starts" "LPlanetoidDesk$Row;", Cond.fieldLink RX3 20 "PlanetoidDesk$Orbits" "widths" "LPlanetoidDesk$Row;", Cond.methodLink RX3 26 yX5_fill, Cond.instanceMethod yX5_fill, Cond.selects RX5 yX5_fill yX5_fill, Cond.initialized RX5, Cond.code yX5_fill cX5_fill 3 none, Cond.fieldLink RX5 7 "PlanetoidDesk$Row" "cells" "[I", Cond.methodLink RX3 38 yX5_at, Cond.instanceMethod yX5_at, Cond.selects RX5 yX5_at yX5_at, Cond.code yX5_at cX5_at 2 (some .int), Cond.static yX7_drift, Cond.initialized RX7, Cond.code yX7_drift cX7_drift 2 (some .int), Cond.methodLink RX7 197 yX7_bOf, Cond.static yX7_bOf, Cond.code yX7_bOf cX7_bOf 1 (some .int)]
def wsX3_orbitAt_r2 : List Cond := [Cond.methodLink RX7 200 yX7_cOf, Cond.static yX7_cOf, Cond.code yX7_cOf cX7_cOf 1 (some .int), Cond.methodLink RX3 33 yJ9_floorMod_7cf53, Cond.static yJ9_floorMod_7cf53, Cond.initialized RJ9, Cond.code yJ9_floorMod_7cf53 cJ9_floorMod_7cf53 3 (some .int), Cond.methodLink RX3 49 yX5_put, Cond.instanceMethod yX5_put, Cond.selects RX5 yX5_put yX5_put, Cond.code yX5_put cX5_put 3 none, Cond.methodLink RX3 62 yX3_courseWith, Cond.instanceMethod yX3_courseWith, Cond.selects RX3 yX3_courseWith yX3_courseWith, Cond.code yX3_courseWith cX3_courseWith 5 (some .int), Cond.methodLink RX3 42 yX3_behind, Cond.instanceMethod yX3_behind, Cond.selects RX3 yX3_behind yX3_behind, Cond.code yX3_behind cX3_behind 3 (some .int)]
def wsX3_orbitAt : List Cond := .code yX3_orbitAt cX3_orbitAt 4 (some .int) :: ((wsX3_orbitAt_r1 ++ wsX3_orbitAt_r2) ++ wsX30 ++ wsX50)
def wsX3_countPlaces_r1 : List Cond := [Cond.fieldLink RX3 23 "PlanetoidDesk$Orbits" "tallies" "LPlanetoidDesk$Row;", Cond.methodLink RX3 59 yX3_tallyPlaces, Cond.instanceMethod yX3_tallyPlaces, Cond.selects RX3 yX3_tallyPlaces yX3_tallyPlaces, Cond.initialized RX3, Cond.code yX3_tallyPlaces cX3_tallyPlaces 6 none, Cond.fieldLink RX3 14 "PlanetoidDesk$Orbits" "starts" "LPlanetoidDesk$Row;", Cond.fieldLink RX3 20 "PlanetoidDesk$Orbits" "widths" "LPlanetoidDesk$Row;", Cond.methodLink RX3 26 yX5_fill, Cond.instanceMethod yX5_fill, Cond.selects RX5 yX5_fill yX5_fill, Cond.initialized RX5, Cond.code yX5_fill cX5_fill 3 none, Cond.fieldLink RX5 7 "PlanetoidDesk$Row" "cells" "[I", Cond.methodLink RX3 38 yX5_at, Cond.instanceMethod yX5_at, Cond.selects RX5 yX5_at yX5_at, Cond.code yX5_at cX5_at 2 (some .int), Cond.static yX7_drift, Cond.initialized RX7, Cond.code yX7_drift cX7_drift 2 (some .int), Cond.methodLink RX7 197 yX7_bOf, Cond.static yX7_bOf, Cond.code yX7_bOf cX7_bOf 1 (some .int)]
def wsX3_countPlaces_r2 : List Cond := [Cond.methodLink RX7 200 yX7_cOf, Cond.static yX7_cOf, Cond.code yX7_cOf cX7_cOf 1 (some .int), Cond.methodLink RX3 33 yJ9_floorMod_7cf53, Cond.static yJ9_floorMod_7cf53, Cond.initialized RJ9, Cond.code yJ9_floorMod_7cf53 cJ9_floorMod_7cf53 3 (some .int), Cond.methodLink RX3 49 yX5_put, Cond.instanceMethod yX5_put, Cond.selects RX5 yX5_put yX5_put, Cond.code yX5_put cX5_put 3 none]
def wsX3_countPlaces : List Cond := .code yX3_countPlaces cX3_countPlaces 4 (some .int) :: ((wsX3_countPlaces_r1 ++ wsX3_countPlaces_r2) ++ wsX30 ++ wsX50)
def wsX3_placeAt_r1 : List Cond := [Cond.fieldLink RX3 23 "PlanetoidDesk$Orbits" "tallies" "LPlanetoidDesk$Row;", Cond.methodLink RX3 59 yX3_tallyPlaces, Cond.instanceMethod yX3_tallyPlaces, Cond.selects RX3 yX3_tallyPlaces yX3_tallyPlaces, Cond.initialized RX3, Cond.code yX3_tallyPlaces cX3_tallyPlaces 6 none, Cond.fieldLink RX3 14 "PlanetoidDesk$Orbits" "starts" "LPlanetoidDesk$Row;", Cond.fieldLink RX3 20 "PlanetoidDesk$Orbits" "widths" "LPlanetoidDesk$Row;", Cond.methodLink RX3 26 yX5_fill, Cond.instanceMethod yX5_fill, Cond.selects RX5 yX5_fill yX5_fill, Cond.initialized RX5, Cond.code yX5_fill cX5_fill 3 none, Cond.fieldLink RX5 7 "PlanetoidDesk$Row" "cells" "[I", Cond.methodLink RX3 38 yX5_at, Cond.instanceMethod yX5_at, Cond.selects RX5 yX5_at yX5_at, Cond.code yX5_at cX5_at 2 (some .int), Cond.static yX7_drift, Cond.initialized RX7, Cond.code yX7_drift cX7_drift 2 (some .int), Cond.methodLink RX7 197 yX7_bOf, Cond.static yX7_bOf, Cond.code yX7_bOf cX7_bOf 1 (some .int)]
def wsX3_placeAt_r2 : List Cond := [Cond.methodLink RX7 200 yX7_cOf, Cond.static yX7_cOf, Cond.code yX7_cOf cX7_cOf 1 (some .int), Cond.methodLink RX3 33 yJ9_floorMod_7cf53, Cond.static yJ9_floorMod_7cf53, Cond.initialized RJ9, Cond.code yJ9_floorMod_7cf53 cJ9_floorMod_7cf53 3 (some .int), Cond.methodLink RX3 49 yX5_put, Cond.instanceMethod yX5_put, Cond.selects RX5 yX5_put yX5_put, Cond.code yX5_put cX5_put 3 none]
def wsX3_placeAt : List Cond := .code yX3_placeAt cX3_placeAt 5 (some .int) :: ((wsX3_placeAt_r1 ++ wsX3_placeAt_r2) ++ wsX30 ++ wsX50)
def wsX4_init : List Cond := .code yX4_init cX4_init 1 none :: ([.methodLink RX4 3 objectInit, .instanceMethod objectInit, .code objectInit ⟨#[0xb1]⟩ 1 none, .classLink RX4 9 RX5, .instantiable RX5 1, .initialized RX5, .fieldLink RX4 14 "PlanetoidDesk$Paths" "groupHeads" "LPlanetoidDesk$Row;", .fieldLink RX4 20 "PlanetoidDesk$Paths" "nextInGroup" "LPlanetoidDesk$Row;", .fieldLink RX4 23 "PlanetoidDesk$Paths" "lastGroupAt" "LPlanetoidDesk$Row;", .methodLink RX4 11 yX5_init, .instanceMethod yX5_init, .code yX5_init cX5_init 2 none, .methodLink RX5 1 objectInit, .arrayClass .int, .fieldLink RX5 7 "PlanetoidDesk$Row" "cells" "[I"] ++ wsX50 ++ wsX40)
def wsX4_groupOf : List Cond := .code yX4_groupOf cX4_groupOf 3 (some .int) :: ([.static yX7_drift, .initialized RX7, .code yX7_drift cX7_drift 2 (some .int), .methodLink RX7 197 yX7_bOf, .static yX7_bOf, .code yX7_bOf cX7_bOf 1 (some .int), .methodLink RX7 200 yX7_cOf, .static yX7_cOf, .code yX7_cOf cX7_cOf 1 (some .int), .methodLink RX4 64 yJ9_floorMod_7cf53, .static yJ9_floorMod_7cf53, .initialized RJ9, .code yJ9_floorMod_7cf53 cJ9_floorMod_7cf53 3 (some .int)])
def wsX4_makeGroups_r1 : List Cond := [Cond.fieldLink RX4 14 "PlanetoidDesk$Paths" "groupHeads" "LPlanetoidDesk$Row;", Cond.fieldLink RX4 20 "PlanetoidDesk$Paths" "nextInGroup" "LPlanetoidDesk$Row;", Cond.methodLink RX4 33 yX5_fill, Cond.instanceMethod yX5_fill, Cond.selects RX5 yX5_fill yX5_fill, Cond.initialized RX5, Cond.code yX5_fill cX5_fill 3 none, Cond.fieldLink RX5 7 "PlanetoidDesk$Row" "cells" "[I", Cond.methodLink RX4 53 yX4_groupOf, Cond.static yX4_groupOf, Cond.initialized RX4, Cond.code yX4_groupOf cX4_groupOf 3 (some .int), Cond.static yX7_drift, Cond.initialized RX7, Cond.code yX7_drift cX7_drift 2 (some .int), Cond.methodLink RX7 197 yX7_bOf, Cond.static yX7_bOf, Cond.code yX7_bOf cX7_bOf 1 (some .int), Cond.methodLink RX7 200 yX7_cOf, Cond.static yX7_cOf, Cond.code yX7_cOf cX7_cOf 1 (some .int), Cond.methodLink RX4 64 yJ9_floorMod_7cf53, Cond.static yJ9_floorMod_7cf53, Cond.initialized RJ9]
def wsX4_makeGroups_r2 : List Cond := [Cond.code yJ9_floorMod_7cf53 cJ9_floorMod_7cf53 3 (some .int), Cond.methodLink RX4 40 yX5_at, Cond.instanceMethod yX5_at, Cond.selects RX5 yX5_at yX5_at, Cond.code yX5_at cX5_at 2 (some .int), Cond.methodLink RX4 57 yX5_put, Cond.instanceMethod yX5_put, Cond.selects RX5 yX5_put yX5_put, Cond.code yX5_put cX5_put 3 none]
def wsX4_makeGroups : List Cond := .code yX4_makeGroups cX4_makeGroups 5 none :: ((wsX4_makeGroups_r1 ++ wsX4_makeGroups_r2) ++ wsX40 ++ wsX50)
def wsX7_stretch : List Cond := .code yX7_stretch cX7_stretch 5 (some .long) :: ([])
def wsX4_nearBitsOf : List Cond := .code yX4_nearBitsOf cX4_nearBitsOf 9 (some .long) :: ([.static yX7_drift, .initialized RX7, .code yX7_drift cX7_drift 2 (some .int), .methodLink RX7 197 yX7_bOf, .static yX7_bOf, .code yX7_bOf cX7_bOf 1 (some .int), .methodLink RX7 200 yX7_cOf, .static yX7_cOf, .code yX7_cOf cX7_cOf 1 (some .int), .methodLink RX4 64 yJ9_floorMod_7cf53, .static yJ9_floorMod_7cf53, .initialized RJ9, .code yJ9_floorMod_7cf53 cJ9_floorMod_7cf53 3 (some .int), .static yX7_stretch, .code yX7_stretch cX7_stretch 5 (some .long)])
def wsX4_countCourse_r1 : List Cond := [Cond.fieldLink RX4 23 "PlanetoidDesk$Paths" "lastGroupAt" "LPlanetoidDesk$Row;", Cond.fieldLink RX4 26 "PlanetoidDesk$Paths" "all" "I", Cond.fieldLink RX4 30 "PlanetoidDesk$Paths" "near" "I", Cond.methodLink RX4 69 yX3_startOf, Cond.instanceMethod yX3_startOf, Cond.selects RX3 yX3_startOf yX3_startOf, Cond.initialized RX3, Cond.code yX3_startOf cX3_startOf 2 (some .int), Cond.fieldLink RX3 14 "PlanetoidDesk$Orbits" "starts" "LPlanetoidDesk$Row;", Cond.methodLink RX3 38 yX5_at, Cond.instanceMethod yX5_at, Cond.selects RX5 yX5_at yX5_at, Cond.initialized RX5, Cond.code yX5_at cX5_at 2 (some .int), Cond.fieldLink RX5 7 "PlanetoidDesk$Row" "cells" "[I", Cond.methodLink RX4 72 yX4_nearBitsOf, Cond.static yX4_nearBitsOf, Cond.initialized RX4, Cond.code yX4_nearBitsOf cX4_nearBitsOf 9 (some .long), Cond.static yX7_drift, Cond.initialized RX7, Cond.code yX7_drift cX7_drift 2 (some .int), Cond.methodLink RX7 197 yX7_bOf, Cond.static yX7_bOf]
def wsX4_countCourse_r2 : List Cond := [Cond.code yX7_bOf cX7_bOf 1 (some .int), Cond.methodLink RX7 200 yX7_cOf, Cond.static yX7_cOf, Cond.code yX7_cOf cX7_cOf 1 (some .int), Cond.methodLink RX4 64 yJ9_floorMod_7cf53, Cond.static yJ9_floorMod_7cf53, Cond.initialized RJ9, Cond.code yJ9_floorMod_7cf53 cJ9_floorMod_7cf53 3 (some .int), Cond.static yX7_stretch, Cond.code yX7_stretch cX7_stretch 5 (some .long), Cond.methodLink RX4 44 yX3_widthOf, Cond.instanceMethod yX3_widthOf, Cond.selects RX3 yX3_widthOf yX3_widthOf, Cond.code yX3_widthOf cX3_widthOf 2 (some .int), Cond.fieldLink RX3 20 "PlanetoidDesk$Orbits" "widths" "LPlanetoidDesk$Row;", Cond.methodLink RX4 40 yX5_at, Cond.methodLink RX4 57 yX5_put, Cond.instanceMethod yX5_put, Cond.selects RX5 yX5_put yX5_put, Cond.code yX5_put cX5_put 3 none]
def wsX4_countCourse : List Cond := .code yX4_countCourse cX4_countCourse 11 none :: ((wsX4_countCourse_r1 ++ wsX4_countCourse_r2) ++ wsX40 ++ wsX30 ++ wsX50)
def wsX4_countPaths_r1 : List Cond := [Cond.fieldLink RX4 26 "PlanetoidDesk$Paths" "all" "I", Cond.fieldLink RX4 30 "PlanetoidDesk$Paths" "near" "I", Cond.fieldLink RX4 23 "PlanetoidDesk$Paths" "lastGroupAt" "LPlanetoidDesk$Row;", Cond.fieldLink RX4 14 "PlanetoidDesk$Paths" "groupHeads" "LPlanetoidDesk$Row;", Cond.fieldLink RX4 20 "PlanetoidDesk$Paths" "nextInGroup" "LPlanetoidDesk$Row;", Cond.methodLink RX4 33 yX5_fill, Cond.instanceMethod yX5_fill, Cond.selects RX5 yX5_fill yX5_fill, Cond.initialized RX5, Cond.code yX5_fill cX5_fill 3 none, Cond.fieldLink RX5 7 "PlanetoidDesk$Row" "cells" "[I", Cond.methodLink RX4 36 yX4_makeGroups, Cond.instanceMethod yX4_makeGroups, Cond.selects RX4 yX4_makeGroups yX4_makeGroups, Cond.initialized RX4, Cond.code yX4_makeGroups cX4_makeGroups 5 none, Cond.methodLink RX4 53 yX4_groupOf, Cond.static yX4_groupOf, Cond.code yX4_groupOf cX4_groupOf 3 (some .int), Cond.static yX7_drift, Cond.initialized RX7, Cond.code yX7_drift cX7_drift 2 (some .int), Cond.methodLink RX7 197 yX7_bOf, Cond.static yX7_bOf]
def wsX4_countPaths_r2 : List Cond := [Cond.code yX7_bOf cX7_bOf 1 (some .int), Cond.methodLink RX7 200 yX7_cOf, Cond.static yX7_cOf, Cond.code yX7_cOf cX7_cOf 1 (some .int), Cond.methodLink RX4 64 yJ9_floorMod_7cf53, Cond.static yJ9_floorMod_7cf53, Cond.initialized RJ9, Cond.code yJ9_floorMod_7cf53 cJ9_floorMod_7cf53 3 (some .int), Cond.methodLink RX4 40 yX5_at, Cond.instanceMethod yX5_at, Cond.selects RX5 yX5_at yX5_at, Cond.code yX5_at cX5_at 2 (some .int), Cond.methodLink RX4 57 yX5_put, Cond.instanceMethod yX5_put, Cond.selects RX5 yX5_put yX5_put, Cond.code yX5_put cX5_put 3 none, Cond.methodLink RX4 44 yX3_widthOf, Cond.instanceMethod yX3_widthOf, Cond.selects RX3 yX3_widthOf yX3_widthOf, Cond.initialized RX3, Cond.code yX3_widthOf cX3_widthOf 2 (some .int), Cond.fieldLink RX3 20 "PlanetoidDesk$Orbits" "widths" "LPlanetoidDesk$Row;", Cond.methodLink RX3 38 yX5_at, Cond.methodLink RX4 49 yX4_countCourse]
def wsX4_countPaths_r3 : List Cond := [Cond.instanceMethod yX4_countCourse, Cond.selects RX4 yX4_countCourse yX4_countCourse, Cond.code yX4_countCourse cX4_countCourse 11 none, Cond.methodLink RX4 69 yX3_startOf, Cond.instanceMethod yX3_startOf, Cond.selects RX3 yX3_startOf yX3_startOf, Cond.code yX3_startOf cX3_startOf 2 (some .int), Cond.fieldLink RX3 14 "PlanetoidDesk$Orbits" "starts" "LPlanetoidDesk$Row;", Cond.methodLink RX4 72 yX4_nearBitsOf, Cond.static yX4_nearBitsOf, Cond.code yX4_nearBitsOf cX4_nearBitsOf 9 (some .long), Cond.static yX7_stretch, Cond.code yX7_stretch cX7_stretch 5 (some .long)]
def wsX4_countPaths : List Cond := .code yX4_countPaths cX4_countPaths 7 none :: ((wsX4_countPaths_r1 ++ (wsX4_countPaths_r2 ++ wsX4_countPaths_r3)) ++ wsX40 ++ wsX50 ++ wsX30)
def wsX6_init : List Cond := .code yX6_init cX6_init 1 none :: ([.methodLink RX6 3 objectInit, .instanceMethod objectInit, .code objectInit ⟨#[0xb1]⟩ 1 none, .classLink RX6 9 RX5, .instantiable RX5 1, .initialized RX5, .fieldLink RX6 14 "PlanetoidDesk$Sky" "errors" "LPlanetoidDesk$Row;", .fieldLink RX6 20 "PlanetoidDesk$Sky" "plateObservatories" "LPlanetoidDesk$Row;", .fieldLink RX6 23 "PlanetoidDesk$Sky" "plateNights" "LPlanetoidDesk$Row;", .fieldLink RX6 26 "PlanetoidDesk$Sky" "dotPlates" "LPlanetoidDesk$Row;", .fieldLink RX6 29 "PlanetoidDesk$Sky" "dotPlaces" "LPlanetoidDesk$Row;", .fieldLink RX6 32 "PlanetoidDesk$Sky" "dotLights" "LPlanetoidDesk$Row;", .fieldLink RX6 35 "PlanetoidDesk$Sky" "shifts" "LPlanetoidDesk$Row;", .methodLink RX6 11 yX5_init, .instanceMethod yX5_init, .code yX5_init cX5_init 2 none, .methodLink RX5 1 objectInit, .arrayClass .int, .fieldLink RX5 7 "PlanetoidDesk$Row" "cells" "[I"] ++ wsX50 ++ wsX60)
def wsX6_addObservatory : List Cond := .code yX6_addObservatory cX6_addObservatory 2 (some .int) :: ([.fieldLink RX6 14 "PlanetoidDesk$Sky" "errors" "LPlanetoidDesk$Row;", .fieldLink RX6 38 "PlanetoidDesk$Sky" "observatoryCount" "I", .methodLink RX6 42 yX5_put, .instanceMethod yX5_put, .selects RX5 yX5_put yX5_put, .initialized RX5, .code yX5_put cX5_put 3 none, .fieldLink RX5 7 "PlanetoidDesk$Row" "cells" "[I"] ++ wsX60 ++ wsX50)
def wsX6_addPlate : List Cond := .code yX6_addPlate cX6_addPlate 3 (some .int) :: ([.fieldLink RX6 20 "PlanetoidDesk$Sky" "plateObservatories" "LPlanetoidDesk$Row;", .fieldLink RX6 46 "PlanetoidDesk$Sky" "plateCount" "I", .fieldLink RX6 23 "PlanetoidDesk$Sky" "plateNights" "LPlanetoidDesk$Row;", .methodLink RX6 42 yX5_put, .instanceMethod yX5_put, .selects RX5 yX5_put yX5_put, .initialized RX5, .code yX5_put cX5_put 3 none, .fieldLink RX5 7 "PlanetoidDesk$Row" "cells" "[I"] ++ wsX60 ++ wsX50)
def wsX6_addDot : List Cond := .code yX6_addDot cX6_addDot 4 (some .int) :: ([.fieldLink RX6 26 "PlanetoidDesk$Sky" "dotPlates" "LPlanetoidDesk$Row;", .fieldLink RX6 49 "PlanetoidDesk$Sky" "dotCount" "I", .fieldLink RX6 29 "PlanetoidDesk$Sky" "dotPlaces" "LPlanetoidDesk$Row;", .fieldLink RX6 32 "PlanetoidDesk$Sky" "dotLights" "LPlanetoidDesk$Row;", .methodLink RX6 42 yX5_put, .instanceMethod yX5_put, .selects RX5 yX5_put yX5_put, .initialized RX5, .code yX5_put cX5_put 3 none, .fieldLink RX5 7 "PlanetoidDesk$Row" "cells" "[I"] ++ wsX60 ++ wsX50)
def wsX6_replaceShift : List Cond := .code yX6_replaceShift cX6_replaceShift 4 (some .int) :: ([.fieldLink RX6 35 "PlanetoidDesk$Sky" "shifts" "LPlanetoidDesk$Row;", .methodLink RX6 52 yX5_at, .instanceMethod yX5_at, .selects RX5 yX5_at yX5_at, .initialized RX5, .code yX5_at cX5_at 2 (some .int), .fieldLink RX5 7 "PlanetoidDesk$Row" "cells" "[I", .methodLink RX6 42 yX5_put, .instanceMethod yX5_put, .selects RX5 yX5_put yX5_put, .code yX5_put cX5_put 3 none] ++ wsX60 ++ wsX50)
def wsX6_plateOf : List Cond := .code yX6_plateOf cX6_plateOf 2 (some .int) :: ([.fieldLink RX6 26 "PlanetoidDesk$Sky" "dotPlates" "LPlanetoidDesk$Row;", .methodLink RX6 52 yX5_at, .instanceMethod yX5_at, .selects RX5 yX5_at yX5_at, .initialized RX5, .code yX5_at cX5_at 2 (some .int), .fieldLink RX5 7 "PlanetoidDesk$Row" "cells" "[I"] ++ wsX60 ++ wsX50)
def wsX6_observatoryOf : List Cond := .code yX6_observatoryOf cX6_observatoryOf 2 (some .int) :: ([.fieldLink RX6 20 "PlanetoidDesk$Sky" "plateObservatories" "LPlanetoidDesk$Row;", .fieldLink RX6 26 "PlanetoidDesk$Sky" "dotPlates" "LPlanetoidDesk$Row;", .methodLink RX6 52 yX5_at, .instanceMethod yX5_at, .selects RX5 yX5_at yX5_at, .initialized RX5, .code yX5_at cX5_at 2 (some .int), .fieldLink RX5 7 "PlanetoidDesk$Row" "cells" "[I"] ++ wsX60 ++ wsX50)
def wsX6_errorOf : List Cond := .code yX6_errorOf cX6_errorOf 2 (some .int) :: ([.fieldLink RX6 14 "PlanetoidDesk$Sky" "errors" "LPlanetoidDesk$Row;", .fieldLink RX6 20 "PlanetoidDesk$Sky" "plateObservatories" "LPlanetoidDesk$Row;", .fieldLink RX6 26 "PlanetoidDesk$Sky" "dotPlates" "LPlanetoidDesk$Row;", .methodLink RX6 52 yX5_at, .instanceMethod yX5_at, .selects RX5 yX5_at yX5_at, .initialized RX5, .code yX5_at cX5_at 2 (some .int), .fieldLink RX5 7 "PlanetoidDesk$Row" "cells" "[I"] ++ wsX60 ++ wsX50)
def wsX6_nightOf : List Cond := .code yX6_nightOf cX6_nightOf 2 (some .int) :: ([.fieldLink RX6 23 "PlanetoidDesk$Sky" "plateNights" "LPlanetoidDesk$Row;", .fieldLink RX6 26 "PlanetoidDesk$Sky" "dotPlates" "LPlanetoidDesk$Row;", .methodLink RX6 52 yX5_at, .instanceMethod yX5_at, .selects RX5 yX5_at yX5_at, .initialized RX5, .code yX5_at cX5_at 2 (some .int), .fieldLink RX5 7 "PlanetoidDesk$Row" "cells" "[I"] ++ wsX60 ++ wsX50)
def wsX6_lightOf : List Cond := .code yX6_lightOf cX6_lightOf 2 (some .int) :: ([.fieldLink RX6 32 "PlanetoidDesk$Sky" "dotLights" "LPlanetoidDesk$Row;", .methodLink RX6 52 yX5_at, .instanceMethod yX5_at, .selects RX5 yX5_at yX5_at, .initialized RX5, .code yX5_at cX5_at 2 (some .int), .fieldLink RX5 7 "PlanetoidDesk$Row" "cells" "[I"] ++ wsX60 ++ wsX50)
def wsX6_truePlaceOf : List Cond := .code yX6_truePlaceOf cX6_truePlaceOf 3 (some .int) :: ([.fieldLink RX6 29 "PlanetoidDesk$Sky" "dotPlaces" "LPlanetoidDesk$Row;", .fieldLink RX6 35 "PlanetoidDesk$Sky" "shifts" "LPlanetoidDesk$Row;", .methodLink RX6 52 yX5_at, .instanceMethod yX5_at, .selects RX5 yX5_at yX5_at, .initialized RX5, .code yX5_at cX5_at 2 (some .int), .fieldLink RX5 7 "PlanetoidDesk$Row" "cells" "[I", .methodLink RX6 56 yJ9_floorMod_7cf53, .static yJ9_floorMod_7cf53, .initialized RJ9, .code yJ9_floorMod_7cf53 cJ9_floorMod_7cf53 3 (some .int)] ++ wsX60 ++ wsX50)
def wsX7_init_r1 : List Cond := [Cond.methodLink RX7 1 objectInit, Cond.instanceMethod objectInit, Cond.code objectInit ⟨#[0xb1]⟩ 1 none, Cond.classLink RX7 7 RX6, Cond.instantiable RX6 10, Cond.initialized RX6, Cond.fieldLink RX7 10 "PlanetoidDesk" "sky" "LPlanetoidDesk$Sky;", Cond.classLink RX7 16 RX0, Cond.instantiable RX0 8, Cond.initialized RX0, Cond.fieldLink RX7 19 "PlanetoidDesk" "bodies" "LPlanetoidDesk$Bodies;", Cond.classLink RX7 23 RX2, Cond.instantiable RX2 2, Cond.initialized RX2, Cond.fieldLink RX7 26 "PlanetoidDesk" "looks" "LPlanetoidDesk$Looks;", Cond.classLink RX7 30 RX3, Cond.instantiable RX3 3, Cond.initialized RX3, Cond.fieldLink RX7 33 "PlanetoidDesk" "fitting" "LPlanetoidDesk$Orbits;", Cond.classLink RX7 37 RX4, Cond.instantiable RX4 5, Cond.initialized RX4, Cond.fieldLink RX7 40 "PlanetoidDesk" "paths" "LPlanetoidDesk$Paths;", Cond.classLink RX7 44 RX1]
def wsX7_init_r2 : List Cond := [Cond.instantiable RX1 1, Cond.initialized RX1, Cond.fieldLink RX7 47 "PlanetoidDesk" "kinship" "LPlanetoidDesk$Kinship;", Cond.instanceMethod yX6_init, Cond.code yX6_init cX6_init 1 none, Cond.methodLink RX6 3 objectInit, Cond.classLink RX6 9 RX5, Cond.instantiable RX5 1, Cond.initialized RX5, Cond.fieldLink RX6 14 "PlanetoidDesk$Sky" "errors" "LPlanetoidDesk$Row;", Cond.fieldLink RX6 20 "PlanetoidDesk$Sky" "plateObservatories" "LPlanetoidDesk$Row;", Cond.fieldLink RX6 23 "PlanetoidDesk$Sky" "plateNights" "LPlanetoidDesk$Row;", Cond.fieldLink RX6 26 "PlanetoidDesk$Sky" "dotPlates" "LPlanetoidDesk$Row;", Cond.fieldLink RX6 29 "PlanetoidDesk$Sky" "dotPlaces" "LPlanetoidDesk$Row;", Cond.fieldLink RX6 32 "PlanetoidDesk$Sky" "dotLights" "LPlanetoidDesk$Row;", Cond.fieldLink RX6 35 "PlanetoidDesk$Sky" "shifts" "LPlanetoidDesk$Row;", Cond.methodLink RX6 11 yX5_init, Cond.instanceMethod yX5_init, Cond.code yX5_init cX5_init 2 none, Cond.methodLink RX5 1 objectInit, Cond.arrayClass .int, Cond.fieldLink RX5 7 "PlanetoidDesk$Row" "cells" "[I", Cond.methodLink RX7 18 yX0_init, Cond.instanceMethod yX0_init]
def wsX7_init_r3 : List Cond := [Cond.code yX0_init cX0_init 1 none, Cond.methodLink RX0 3 objectInit, Cond.classLink RX0 9 RX5, Cond.fieldLink RX0 14 "PlanetoidDesk$Bodies" "owners" "LPlanetoidDesk$Row;", Cond.fieldLink RX0 20 "PlanetoidDesk$Bodies" "hosts" "LPlanetoidDesk$Row;", Cond.fieldLink RX0 23 "PlanetoidDesk$Bodies" "joinTimes" "LPlanetoidDesk$Row;", Cond.fieldLink RX0 26 "PlanetoidDesk$Bodies" "numbers" "LPlanetoidDesk$Row;", Cond.fieldLink RX0 29 "PlanetoidDesk$Bodies" "properCourses" "LPlanetoidDesk$Row;", Cond.methodLink RX0 11 yX5_init, Cond.methodLink RX0 32 yX5_fill, Cond.instanceMethod yX5_fill, Cond.selects RX5 yX5_fill yX5_fill, Cond.code yX5_fill cX5_fill 3 none, Cond.instanceMethod yX2_init, Cond.code yX2_init cX2_init 1 none, Cond.methodLink RX2 3 objectInit, Cond.classLink RX2 9 RX5, Cond.fieldLink RX2 14 "PlanetoidDesk$Looks" "dots" "LPlanetoidDesk$Row;", Cond.methodLink RX2 11 yX5_init, Cond.instanceMethod yX3_init, Cond.code yX3_init cX3_init 1 none, Cond.methodLink RX3 3 objectInit, Cond.classLink RX3 9 RX5, Cond.fieldLink RX3 14 "PlanetoidDesk$Orbits" "starts" "LPlanetoidDesk$Row;"]
def wsX7_init_r4 : List Cond := [Cond.fieldLink RX3 20 "PlanetoidDesk$Orbits" "widths" "LPlanetoidDesk$Row;", Cond.fieldLink RX3 23 "PlanetoidDesk$Orbits" "tallies" "LPlanetoidDesk$Row;", Cond.methodLink RX3 11 yX5_init, Cond.instanceMethod yX4_init, Cond.code yX4_init cX4_init 1 none, Cond.methodLink RX4 3 objectInit, Cond.classLink RX4 9 RX5, Cond.fieldLink RX4 14 "PlanetoidDesk$Paths" "groupHeads" "LPlanetoidDesk$Row;", Cond.fieldLink RX4 20 "PlanetoidDesk$Paths" "nextInGroup" "LPlanetoidDesk$Row;", Cond.fieldLink RX4 23 "PlanetoidDesk$Paths" "lastGroupAt" "LPlanetoidDesk$Row;", Cond.methodLink RX4 11 yX5_init, Cond.instanceMethod yX1_init, Cond.code yX1_init cX1_init 1 none, Cond.methodLink RX1 3 objectInit, Cond.classLink RX1 9 RX5, Cond.fieldLink RX1 14 "PlanetoidDesk$Kinship" "lowestNumbers" "LPlanetoidDesk$Row;", Cond.methodLink RX1 11 yX5_init]
def wsX7_init : List Cond := .code yX7_init cX7_init 1 none :: ((wsX7_init_r1 ++ (wsX7_init_r2 ++ (wsX7_init_r3 ++ wsX7_init_r4))) ++ wsX60 ++ wsX70 ++ wsX00 ++ wsX20 ++ wsX30 ++ wsX40 ++ wsX10 ++ wsX50)
def wsX7_needWithin : List Cond := .code yX7_needWithin cX7_needWithin 3 none :: ([.classLink RX7 206 "java/lang/IllegalArgumentException", .initialized "java/lang/IllegalArgumentException"] ++ (vx_atS RX7 210 "java/lang/IllegalArgumentException" ["java/lang/RuntimeException", "java/lang/Exception"]).filter goodWord)
def wsX7_observatory : List Cond := .code yX7_observatory cX7_observatory 2 (some .int) :: ([.classLink RX7 59 "java/lang/IllegalStateException", .initialized "java/lang/IllegalStateException", .fieldLink RX7 10 "PlanetoidDesk" "sky" "LPlanetoidDesk$Sky;", .methodLink RX7 51 yX7_needWithin, .static yX7_needWithin, .initialized RX7, .code yX7_needWithin cX7_needWithin 3 none, .classLink RX7 206 "java/lang/IllegalArgumentException", .initialized "java/lang/IllegalArgumentException", .methodLink RX7 66 yX6_addObservatory, .instanceMethod yX6_addObservatory, .selects RX6 yX6_addObservatory yX6_addObservatory, .initialized RX6, .code yX6_addObservatory cX6_addObservatory 2 (some .int), .fieldLink RX6 14 "PlanetoidDesk$Sky" "errors" "LPlanetoidDesk$Row;", .fieldLink RX6 38 "PlanetoidDesk$Sky" "observatoryCount" "I", .methodLink RX6 42 yX5_put, .instanceMethod yX5_put, .selects RX5 yX5_put yX5_put, .initialized RX5, .code yX5_put cX5_put 3 none, .fieldLink RX5 7 "PlanetoidDesk$Row" "cells" "[I"] ++ wsX70 ++ wsX60 ++ wsX50 ++ (vx_atS RX7 63 "java/lang/IllegalStateException" ["java/lang/RuntimeException", "java/lang/Exception"]).filter goodWord ++ (vx_atS RX7 210 "java/lang/IllegalArgumentException" ["java/lang/RuntimeException", "java/lang/Exception"]).filter goodWord)
def wsX7_needOneOf : List Cond := .code yX7_needOneOf cX7_needOneOf 2 none :: ([.classLink RX7 241 "java/lang/IndexOutOfBoundsException", .initialized "java/lang/IndexOutOfBoundsException"] ++ (vx_atS RX7 245 "java/lang/IndexOutOfBoundsException" ["java/lang/RuntimeException", "java/lang/Exception"]).filter goodWord)
def wsX7_plate_r1 : List Cond := [Cond.classLink RX7 59 "java/lang/IllegalStateException", Cond.initialized "java/lang/IllegalStateException", Cond.fieldLink RX7 10 "PlanetoidDesk" "sky" "LPlanetoidDesk$Sky;", Cond.methodLink RX7 70 yX7_needOneOf, Cond.static yX7_needOneOf, Cond.initialized RX7, Cond.code yX7_needOneOf cX7_needOneOf 2 none, Cond.classLink RX7 241 "java/lang/IndexOutOfBoundsException", Cond.initialized "java/lang/IndexOutOfBoundsException", Cond.methodLink RX7 51 yX7_needWithin, Cond.static yX7_needWithin, Cond.code yX7_needWithin cX7_needWithin 3 none, Cond.classLink RX7 206 "java/lang/IllegalArgumentException", Cond.initialized "java/lang/IllegalArgumentException", Cond.methodLink RX7 79 yX6_addPlate, Cond.instanceMethod yX6_addPlate, Cond.selects RX6 yX6_addPlate yX6_addPlate, Cond.initialized RX6, Cond.code yX6_addPlate cX6_addPlate 3 (some .int), Cond.fieldLink RX6 20 "PlanetoidDesk$Sky" "plateObservatories" "LPlanetoidDesk$Row;", Cond.fieldLink RX6 46 "PlanetoidDesk$Sky" "plateCount" "I", Cond.fieldLink RX6 23 "PlanetoidDesk$Sky" "plateNights" "LPlanetoidDesk$Row;", Cond.methodLink RX6 42 yX5_put, Cond.instanceMethod yX5_put]
def wsX7_plate_r2 : List Cond := [Cond.selects RX5 yX5_put yX5_put, Cond.initialized RX5, Cond.code yX5_put cX5_put 3 none, Cond.fieldLink RX5 7 "PlanetoidDesk$Row" "cells" "[I"]
def wsX7_plate : List Cond := .code yX7_plate cX7_plate 3 (some .int) :: ((wsX7_plate_r1 ++ wsX7_plate_r2) ++ wsX70 ++ wsX60 ++ wsX50 ++ (vx_atS RX7 63 "java/lang/IllegalStateException" ["java/lang/RuntimeException", "java/lang/Exception"]).filter goodWord ++ (vx_atS RX7 245 "java/lang/IndexOutOfBoundsException" ["java/lang/RuntimeException", "java/lang/Exception"]).filter goodWord ++ (vx_atS RX7 210 "java/lang/IllegalArgumentException" ["java/lang/RuntimeException", "java/lang/Exception"]).filter goodWord)
def wsX7_dot_r1 : List Cond := [Cond.classLink RX7 59 "java/lang/IllegalStateException", Cond.initialized "java/lang/IllegalStateException", Cond.fieldLink RX7 10 "PlanetoidDesk" "sky" "LPlanetoidDesk$Sky;", Cond.methodLink RX7 70 yX7_needOneOf, Cond.static yX7_needOneOf, Cond.initialized RX7, Cond.code yX7_needOneOf cX7_needOneOf 2 none, Cond.classLink RX7 241 "java/lang/IndexOutOfBoundsException", Cond.initialized "java/lang/IndexOutOfBoundsException", Cond.methodLink RX7 51 yX7_needWithin, Cond.static yX7_needWithin, Cond.code yX7_needWithin cX7_needWithin 3 none, Cond.classLink RX7 206 "java/lang/IllegalArgumentException", Cond.initialized "java/lang/IllegalArgumentException", Cond.methodLink RX7 88 yX6_addDot, Cond.instanceMethod yX6_addDot, Cond.selects RX6 yX6_addDot yX6_addDot, Cond.initialized RX6, Cond.code yX6_addDot cX6_addDot 4 (some .int), Cond.fieldLink RX6 26 "PlanetoidDesk$Sky" "dotPlates" "LPlanetoidDesk$Row;", Cond.fieldLink RX6 49 "PlanetoidDesk$Sky" "dotCount" "I", Cond.fieldLink RX6 29 "PlanetoidDesk$Sky" "dotPlaces" "LPlanetoidDesk$Row;", Cond.fieldLink RX6 32 "PlanetoidDesk$Sky" "dotLights" "LPlanetoidDesk$Row;", Cond.methodLink RX6 42 yX5_put]
def wsX7_dot_r2 : List Cond := [Cond.instanceMethod yX5_put, Cond.selects RX5 yX5_put yX5_put, Cond.initialized RX5, Cond.code yX5_put cX5_put 3 none, Cond.fieldLink RX5 7 "PlanetoidDesk$Row" "cells" "[I"]
def wsX7_dot : List Cond := .code yX7_dot cX7_dot 4 (some .int) :: ((wsX7_dot_r1 ++ wsX7_dot_r2) ++ wsX70 ++ wsX60 ++ wsX50 ++ (vx_atS RX7 63 "java/lang/IllegalStateException" ["java/lang/RuntimeException", "java/lang/Exception"]).filter goodWord ++ (vx_atS RX7 245 "java/lang/IndexOutOfBoundsException" ["java/lang/RuntimeException", "java/lang/Exception"]).filter goodWord ++ (vx_atS RX7 210 "java/lang/IllegalArgumentException" ["java/lang/RuntimeException", "java/lang/Exception"]).filter goodWord)
def wsX7_shift_r1 : List Cond := [Cond.fieldLink RX7 10 "PlanetoidDesk" "sky" "LPlanetoidDesk$Sky;", Cond.methodLink RX7 70 yX7_needOneOf, Cond.static yX7_needOneOf, Cond.initialized RX7, Cond.code yX7_needOneOf cX7_needOneOf 2 none, Cond.classLink RX7 241 "java/lang/IndexOutOfBoundsException", Cond.initialized "java/lang/IndexOutOfBoundsException", Cond.methodLink RX7 51 yX7_needWithin, Cond.static yX7_needWithin, Cond.code yX7_needWithin cX7_needWithin 3 none, Cond.classLink RX7 206 "java/lang/IllegalArgumentException", Cond.initialized "java/lang/IllegalArgumentException", Cond.methodLink RX7 92 yX6_replaceShift, Cond.instanceMethod yX6_replaceShift, Cond.selects RX6 yX6_replaceShift yX6_replaceShift, Cond.initialized RX6, Cond.code yX6_replaceShift cX6_replaceShift 4 (some .int), Cond.fieldLink RX6 35 "PlanetoidDesk$Sky" "shifts" "LPlanetoidDesk$Row;", Cond.methodLink RX6 52 yX5_at, Cond.instanceMethod yX5_at, Cond.selects RX5 yX5_at yX5_at, Cond.initialized RX5, Cond.code yX5_at cX5_at 2 (some .int), Cond.fieldLink RX5 7 "PlanetoidDesk$Row" "cells" "[I"]
def wsX7_shift_r2 : List Cond := [Cond.methodLink RX6 42 yX5_put, Cond.instanceMethod yX5_put, Cond.selects RX5 yX5_put yX5_put, Cond.code yX5_put cX5_put 3 none]
def wsX7_shift : List Cond := .code yX7_shift cX7_shift 3 (some .int) :: ((wsX7_shift_r1 ++ wsX7_shift_r2) ++ wsX70 ++ wsX60 ++ wsX50 ++ (vx_atS RX7 245 "java/lang/IndexOutOfBoundsException" ["java/lang/RuntimeException", "java/lang/Exception"]).filter goodWord ++ (vx_atS RX7 210 "java/lang/IllegalArgumentException" ["java/lang/RuntimeException", "java/lang/Exception"]).filter goodWord)
def wsX7_ofDot_r1 : List Cond := [Cond.fieldLink RX7 10 "PlanetoidDesk" "sky" "LPlanetoidDesk$Sky;", Cond.fieldLink RX7 19 "PlanetoidDesk" "bodies" "LPlanetoidDesk$Bodies;", Cond.methodLink RX7 70 yX7_needOneOf, Cond.static yX7_needOneOf, Cond.initialized RX7, Cond.code yX7_needOneOf cX7_needOneOf 2 none, Cond.classLink RX7 241 "java/lang/IndexOutOfBoundsException", Cond.initialized "java/lang/IndexOutOfBoundsException", Cond.methodLink RX7 51 yX7_needWithin, Cond.static yX7_needWithin, Cond.code yX7_needWithin cX7_needWithin 3 none, Cond.classLink RX7 206 "java/lang/IllegalArgumentException", Cond.initialized "java/lang/IllegalArgumentException", Cond.methodLink RX7 95 yX6_nightOf, Cond.instanceMethod yX6_nightOf, Cond.selects RX6 yX6_nightOf yX6_nightOf, Cond.initialized RX6, Cond.code yX6_nightOf cX6_nightOf 2 (some .int), Cond.fieldLink RX6 23 "PlanetoidDesk$Sky" "plateNights" "LPlanetoidDesk$Row;", Cond.fieldLink RX6 26 "PlanetoidDesk$Sky" "dotPlates" "LPlanetoidDesk$Row;", Cond.methodLink RX6 52 yX5_at, Cond.instanceMethod yX5_at, Cond.selects RX5 yX5_at yX5_at, Cond.initialized RX5]
def wsX7_ofDot_r2 : List Cond := [Cond.code yX5_at cX5_at 2 (some .int), Cond.fieldLink RX5 7 "PlanetoidDesk$Row" "cells" "[I", Cond.methodLink RX7 98 yX6_truePlaceOf, Cond.instanceMethod yX6_truePlaceOf, Cond.selects RX6 yX6_truePlaceOf yX6_truePlaceOf, Cond.code yX6_truePlaceOf cX6_truePlaceOf 3 (some .int), Cond.fieldLink RX6 29 "PlanetoidDesk$Sky" "dotPlaces" "LPlanetoidDesk$Row;", Cond.fieldLink RX6 35 "PlanetoidDesk$Sky" "shifts" "LPlanetoidDesk$Row;", Cond.methodLink RX6 56 yJ9_floorMod_7cf53, Cond.static yJ9_floorMod_7cf53, Cond.initialized RJ9, Cond.code yJ9_floorMod_7cf53 cJ9_floorMod_7cf53 3 (some .int), Cond.methodLink RX7 101 yX6_lightOf, Cond.instanceMethod yX6_lightOf, Cond.selects RX6 yX6_lightOf yX6_lightOf, Cond.code yX6_lightOf cX6_lightOf 2 (some .int), Cond.fieldLink RX6 32 "PlanetoidDesk$Sky" "dotLights" "LPlanetoidDesk$Row;", Cond.methodLink RX7 104 yX0_ownerOf, Cond.instanceMethod yX0_ownerOf, Cond.selects RX0 yX0_ownerOf yX0_ownerOf, Cond.initialized RX0, Cond.code yX0_ownerOf cX0_ownerOf 2 (some .int), Cond.fieldLink RX0 14 "PlanetoidDesk$Bodies" "owners" "LPlanetoidDesk$Row;", Cond.methodLink RX0 46 yX5_at]
def wsX7_ofDot : List Cond := .code yX7_ofDot cX7_ofDot 3 (some .int) :: ((wsX7_ofDot_r1 ++ wsX7_ofDot_r2) ++ wsX70 ++ wsX60 ++ wsX50 ++ wsX00 ++ (vx_atS RX7 245 "java/lang/IndexOutOfBoundsException" ["java/lang/RuntimeException", "java/lang/Exception"]).filter goodWord ++ (vx_atS RX7 210 "java/lang/IllegalArgumentException" ["java/lang/RuntimeException", "java/lang/Exception"]).filter goodWord)
def wsX7_body_r1 : List Cond := [Cond.classLink RX7 59 "java/lang/IllegalStateException", Cond.initialized "java/lang/IllegalStateException", Cond.fieldLink RX7 10 "PlanetoidDesk" "sky" "LPlanetoidDesk$Sky;", Cond.fieldLink RX7 19 "PlanetoidDesk" "bodies" "LPlanetoidDesk$Bodies;", Cond.methodLink RX7 70 yX7_needOneOf, Cond.static yX7_needOneOf, Cond.initialized RX7, Cond.code yX7_needOneOf cX7_needOneOf 2 none, Cond.classLink RX7 241 "java/lang/IndexOutOfBoundsException", Cond.initialized "java/lang/IndexOutOfBoundsException", Cond.methodLink RX7 107 yX0_isUnlinked, Cond.instanceMethod yX0_isUnlinked, Cond.selects RX0 yX0_isUnlinked yX0_isUnlinked, Cond.initialized RX0, Cond.code yX0_isUnlinked cX0_isUnlinked 2 (some .boolean), Cond.fieldLink RX0 14 "PlanetoidDesk$Bodies" "owners" "LPlanetoidDesk$Row;", Cond.methodLink RX0 46 yX5_at, Cond.instanceMethod yX5_at, Cond.selects RX5 yX5_at yX5_at, Cond.initialized RX5, Cond.code yX5_at cX5_at 2 (some .int), Cond.fieldLink RX5 7 "PlanetoidDesk$Row" "cells" "[I", Cond.methodLink RX7 118 yX0_addBody, Cond.instanceMethod yX0_addBody]
def wsX7_body_r2 : List Cond := [Cond.selects RX0 yX0_addBody yX0_addBody, Cond.code yX0_addBody cX0_addBody 2 (some .int), Cond.fieldLink RX0 35 "PlanetoidDesk$Bodies" "count" "I", Cond.methodLink RX0 39 yX0_own, Cond.instanceMethod yX0_own, Cond.selects RX0 yX0_own yX0_own, Cond.code yX0_own cX0_own 3 none, Cond.methodLink RX0 43 yX5_put, Cond.instanceMethod yX5_put, Cond.selects RX5 yX5_put yX5_put, Cond.code yX5_put cX5_put 3 none]
def wsX7_body : List Cond := .code yX7_body cX7_body 2 (some .int) :: ((wsX7_body_r1 ++ wsX7_body_r2) ++ wsX70 ++ wsX60 ++ wsX00 ++ wsX50 ++ (vx_atS RX7 63 "java/lang/IllegalStateException" ["java/lang/RuntimeException", "java/lang/Exception"]).filter goodWord ++ (vx_atS RX7 245 "java/lang/IndexOutOfBoundsException" ["java/lang/RuntimeException", "java/lang/Exception"]).filter goodWord)
def wsX7_gatherLooks_r1 : List Cond := [Cond.fieldLink RX7 26 "PlanetoidDesk" "looks" "LPlanetoidDesk$Looks;", Cond.fieldLink RX7 10 "PlanetoidDesk" "sky" "LPlanetoidDesk$Sky;", Cond.fieldLink RX7 19 "PlanetoidDesk" "bodies" "LPlanetoidDesk$Bodies;", Cond.methodLink RX7 248 yX0_isLook, Cond.instanceMethod yX0_isLook, Cond.selects RX0 yX0_isLook yX0_isLook, Cond.initialized RX0, Cond.code yX0_isLook cX0_isLook 5 (some .boolean), Cond.fieldLink RX0 14 "PlanetoidDesk$Bodies" "owners" "LPlanetoidDesk$Row;", Cond.fieldLink RX0 20 "PlanetoidDesk$Bodies" "hosts" "LPlanetoidDesk$Row;", Cond.methodLink RX0 46 yX5_at, Cond.instanceMethod yX5_at, Cond.selects RX5 yX5_at yX5_at, Cond.initialized RX5, Cond.code yX5_at cX5_at 2 (some .int), Cond.fieldLink RX5 7 "PlanetoidDesk$Row" "cells" "[I", Cond.methodLink RX7 251 yX2_add, Cond.instanceMethod yX2_add, Cond.selects RX2 yX2_add yX2_add, Cond.initialized RX2, Cond.code yX2_add cX2_add 2 none, Cond.fieldLink RX2 14 "PlanetoidDesk$Looks" "dots" "LPlanetoidDesk$Row;", Cond.fieldLink RX2 20 "PlanetoidDesk$Looks" "count" "I", Cond.methodLink RX2 24 yX5_put]
def wsX7_gatherLooks_r2 : List Cond := [Cond.instanceMethod yX5_put, Cond.selects RX5 yX5_put yX5_put, Cond.code yX5_put cX5_put 3 none]
def wsX7_gatherLooks : List Cond := .code yX7_gatherLooks cX7_gatherLooks 3 none :: ((wsX7_gatherLooks_r1 ++ wsX7_gatherLooks_r2) ++ wsX70 ++ wsX20 ++ wsX60 ++ wsX00 ++ wsX50)
def wsX7_keepFitting_r1 : List Cond := [Cond.fieldLink RX7 26 "PlanetoidDesk" "looks" "LPlanetoidDesk$Looks;", Cond.fieldLink RX7 33 "PlanetoidDesk" "fitting" "LPlanetoidDesk$Orbits;", Cond.fieldLink RX7 10 "PlanetoidDesk" "sky" "LPlanetoidDesk$Sky;", Cond.methodLink RX7 191 yX7_gatherLooks, Cond.instanceMethod yX7_gatherLooks, Cond.selects RX7 yX7_gatherLooks yX7_gatherLooks, Cond.initialized RX7, Cond.code yX7_gatherLooks cX7_gatherLooks 3 none, Cond.fieldLink RX7 19 "PlanetoidDesk" "bodies" "LPlanetoidDesk$Bodies;", Cond.methodLink RX7 248 yX0_isLook, Cond.instanceMethod yX0_isLook, Cond.selects RX0 yX0_isLook yX0_isLook, Cond.initialized RX0, Cond.code yX0_isLook cX0_isLook 5 (some .boolean), Cond.fieldLink RX0 14 "PlanetoidDesk$Bodies" "owners" "LPlanetoidDesk$Row;", Cond.fieldLink RX0 20 "PlanetoidDesk$Bodies" "hosts" "LPlanetoidDesk$Row;", Cond.methodLink RX0 46 yX5_at, Cond.instanceMethod yX5_at, Cond.selects RX5 yX5_at yX5_at, Cond.initialized RX5, Cond.code yX5_at cX5_at 2 (some .int), Cond.fieldLink RX5 7 "PlanetoidDesk$Row" "cells" "[I", Cond.methodLink RX7 251 yX2_add, Cond.instanceMethod yX2_add]
def wsX7_keepFitting_r2 : List Cond := [Cond.selects RX2 yX2_add yX2_add, Cond.initialized RX2, Cond.code yX2_add cX2_add 2 none, Cond.fieldLink RX2 14 "PlanetoidDesk$Looks" "dots" "LPlanetoidDesk$Row;", Cond.fieldLink RX2 20 "PlanetoidDesk$Looks" "count" "I", Cond.methodLink RX2 24 yX5_put, Cond.instanceMethod yX5_put, Cond.selects RX5 yX5_put yX5_put, Cond.code yX5_put cX5_put 3 none, Cond.methodLink RX7 254 yX2_dotAt, Cond.instanceMethod yX2_dotAt, Cond.selects RX2 yX2_dotAt yX2_dotAt, Cond.code yX2_dotAt cX2_dotAt 2 (some .int), Cond.methodLink RX2 28 yX5_at, Cond.methodLink RX7 95 yX6_nightOf, Cond.instanceMethod yX6_nightOf, Cond.selects RX6 yX6_nightOf yX6_nightOf, Cond.initialized RX6, Cond.code yX6_nightOf cX6_nightOf 2 (some .int), Cond.fieldLink RX6 23 "PlanetoidDesk$Sky" "plateNights" "LPlanetoidDesk$Row;", Cond.fieldLink RX6 26 "PlanetoidDesk$Sky" "dotPlates" "LPlanetoidDesk$Row;", Cond.methodLink RX6 52 yX5_at, Cond.methodLink RX7 98 yX6_truePlaceOf, Cond.instanceMethod yX6_truePlaceOf]
def wsX7_keepFitting_r3 : List Cond := [Cond.selects RX6 yX6_truePlaceOf yX6_truePlaceOf, Cond.code yX6_truePlaceOf cX6_truePlaceOf 3 (some .int), Cond.fieldLink RX6 29 "PlanetoidDesk$Sky" "dotPlaces" "LPlanetoidDesk$Row;", Cond.fieldLink RX6 35 "PlanetoidDesk$Sky" "shifts" "LPlanetoidDesk$Row;", Cond.methodLink RX6 56 yJ9_floorMod_7cf53, Cond.static yJ9_floorMod_7cf53, Cond.initialized RJ9, Cond.code yJ9_floorMod_7cf53 cJ9_floorMod_7cf53 3 (some .int), Cond.methodLink RX7 263 yX6_errorOf, Cond.instanceMethod yX6_errorOf, Cond.selects RX6 yX6_errorOf yX6_errorOf, Cond.code yX6_errorOf cX6_errorOf 2 (some .int), Cond.fieldLink RX6 14 "PlanetoidDesk$Sky" "errors" "LPlanetoidDesk$Row;", Cond.fieldLink RX6 20 "PlanetoidDesk$Sky" "plateObservatories" "LPlanetoidDesk$Row;", Cond.methodLink RX7 266 yX3_keepNear, Cond.instanceMethod yX3_keepNear, Cond.selects RX3 yX3_keepNear yX3_keepNear, Cond.initialized RX3, Cond.code yX3_keepNear cX3_keepNear 9 none, Cond.fieldLink RX3 20 "PlanetoidDesk$Orbits" "widths" "LPlanetoidDesk$Row;", Cond.fieldLink RX3 14 "PlanetoidDesk$Orbits" "starts" "LPlanetoidDesk$Row;", Cond.static yX7_drift, Cond.code yX7_drift cX7_drift 2 (some .int), Cond.methodLink RX7 197 yX7_bOf]
def wsX7_keepFitting_r4 : List Cond := [Cond.static yX7_bOf, Cond.code yX7_bOf cX7_bOf 1 (some .int), Cond.methodLink RX7 200 yX7_cOf, Cond.static yX7_cOf, Cond.code yX7_cOf cX7_cOf 1 (some .int), Cond.methodLink RX3 33 yJ9_floorMod_7cf53, Cond.methodLink RX3 38 yX5_at, Cond.methodLink RX3 42 yX3_behind, Cond.instanceMethod yX3_behind, Cond.selects RX3 yX3_behind yX3_behind, Cond.code yX3_behind cX3_behind 3 (some .int), Cond.methodLink RX3 45 yX3_sharedWidth, Cond.static yX3_sharedWidth, Cond.code yX3_sharedWidth cX3_sharedWidth 4 (some .int), Cond.methodLink RX3 53 Lib.Math.min.name, Cond.static Lib.Math.min.name, Cond.initialized "java/lang/Math", Cond.code Lib.Math.min.name Lib.Math.min.code 2 (some .int), Cond.methodLink RX3 56 Lib.Math.max.name, Cond.static Lib.Math.max.name, Cond.code Lib.Math.max.name Lib.Math.max.code 2 (some .int), Cond.methodLink RX3 49 yX5_put]
def wsX7_keepFitting : List Cond := .code yX7_keepFitting cX7_keepFitting 4 none :: ((wsX7_keepFitting_r1 ++ (wsX7_keepFitting_r2 ++ (wsX7_keepFitting_r3 ++ wsX7_keepFitting_r4))) ++ wsX70 ++ wsX20 ++ wsX60 ++ wsX00 ++ wsX50 ++ wsX30)
def wsX7_findOrbits_r1 : List Cond := [Cond.fieldLink RX7 33 "PlanetoidDesk" "fitting" "LPlanetoidDesk$Orbits;", Cond.methodLink RX7 257 yX3_takeAll, Cond.instanceMethod yX3_takeAll, Cond.selects RX3 yX3_takeAll yX3_takeAll, Cond.initialized RX3, Cond.code yX3_takeAll cX3_takeAll 1 none, Cond.fieldLink RX3 14 "PlanetoidDesk$Orbits" "starts" "LPlanetoidDesk$Row;", Cond.fieldLink RX3 20 "PlanetoidDesk$Orbits" "widths" "LPlanetoidDesk$Row;", Cond.methodLink RX3 26 yX5_fill, Cond.instanceMethod yX5_fill, Cond.selects RX5 yX5_fill yX5_fill, Cond.initialized RX5, Cond.code yX5_fill cX5_fill 3 none, Cond.fieldLink RX5 7 "PlanetoidDesk$Row" "cells" "[I", Cond.methodLink RX7 260 yX7_keepFitting, Cond.instanceMethod yX7_keepFitting, Cond.selects RX7 yX7_keepFitting yX7_keepFitting, Cond.initialized RX7, Cond.code yX7_keepFitting cX7_keepFitting 4 none, Cond.fieldLink RX7 26 "PlanetoidDesk" "looks" "LPlanetoidDesk$Looks;", Cond.fieldLink RX7 10 "PlanetoidDesk" "sky" "LPlanetoidDesk$Sky;", Cond.methodLink RX7 191 yX7_gatherLooks, Cond.instanceMethod yX7_gatherLooks, Cond.selects RX7 yX7_gatherLooks yX7_gatherLooks]
def wsX7_findOrbits_r2 : List Cond := [Cond.code yX7_gatherLooks cX7_gatherLooks 3 none, Cond.fieldLink RX7 19 "PlanetoidDesk" "bodies" "LPlanetoidDesk$Bodies;", Cond.methodLink RX7 248 yX0_isLook, Cond.instanceMethod yX0_isLook, Cond.selects RX0 yX0_isLook yX0_isLook, Cond.initialized RX0, Cond.code yX0_isLook cX0_isLook 5 (some .boolean), Cond.fieldLink RX0 14 "PlanetoidDesk$Bodies" "owners" "LPlanetoidDesk$Row;", Cond.fieldLink RX0 20 "PlanetoidDesk$Bodies" "hosts" "LPlanetoidDesk$Row;", Cond.methodLink RX0 46 yX5_at, Cond.instanceMethod yX5_at, Cond.selects RX5 yX5_at yX5_at, Cond.code yX5_at cX5_at 2 (some .int), Cond.methodLink RX7 251 yX2_add, Cond.instanceMethod yX2_add, Cond.selects RX2 yX2_add yX2_add, Cond.initialized RX2, Cond.code yX2_add cX2_add 2 none, Cond.fieldLink RX2 14 "PlanetoidDesk$Looks" "dots" "LPlanetoidDesk$Row;", Cond.fieldLink RX2 20 "PlanetoidDesk$Looks" "count" "I", Cond.methodLink RX2 24 yX5_put, Cond.instanceMethod yX5_put, Cond.selects RX5 yX5_put yX5_put, Cond.code yX5_put cX5_put 3 none]
def wsX7_findOrbits_r3 : List Cond := [Cond.methodLink RX7 254 yX2_dotAt, Cond.instanceMethod yX2_dotAt, Cond.selects RX2 yX2_dotAt yX2_dotAt, Cond.code yX2_dotAt cX2_dotAt 2 (some .int), Cond.methodLink RX2 28 yX5_at, Cond.methodLink RX7 95 yX6_nightOf, Cond.instanceMethod yX6_nightOf, Cond.selects RX6 yX6_nightOf yX6_nightOf, Cond.initialized RX6, Cond.code yX6_nightOf cX6_nightOf 2 (some .int), Cond.fieldLink RX6 23 "PlanetoidDesk$Sky" "plateNights" "LPlanetoidDesk$Row;", Cond.fieldLink RX6 26 "PlanetoidDesk$Sky" "dotPlates" "LPlanetoidDesk$Row;", Cond.methodLink RX6 52 yX5_at, Cond.methodLink RX7 98 yX6_truePlaceOf, Cond.instanceMethod yX6_truePlaceOf, Cond.selects RX6 yX6_truePlaceOf yX6_truePlaceOf, Cond.code yX6_truePlaceOf cX6_truePlaceOf 3 (some .int), Cond.fieldLink RX6 29 "PlanetoidDesk$Sky" "dotPlaces" "LPlanetoidDesk$Row;", Cond.fieldLink RX6 35 "PlanetoidDesk$Sky" "shifts" "LPlanetoidDesk$Row;", Cond.methodLink RX6 56 yJ9_floorMod_7cf53, Cond.static yJ9_floorMod_7cf53, Cond.initialized RJ9, Cond.code yJ9_floorMod_7cf53 cJ9_floorMod_7cf53 3 (some .int), Cond.methodLink RX7 263 yX6_errorOf]
def wsX7_findOrbits_r4 : List Cond := [Cond.instanceMethod yX6_errorOf, Cond.selects RX6 yX6_errorOf yX6_errorOf, Cond.code yX6_errorOf cX6_errorOf 2 (some .int), Cond.fieldLink RX6 14 "PlanetoidDesk$Sky" "errors" "LPlanetoidDesk$Row;", Cond.fieldLink RX6 20 "PlanetoidDesk$Sky" "plateObservatories" "LPlanetoidDesk$Row;", Cond.methodLink RX7 266 yX3_keepNear, Cond.instanceMethod yX3_keepNear, Cond.selects RX3 yX3_keepNear yX3_keepNear, Cond.code yX3_keepNear cX3_keepNear 9 none, Cond.static yX7_drift, Cond.code yX7_drift cX7_drift 2 (some .int), Cond.methodLink RX7 197 yX7_bOf, Cond.static yX7_bOf, Cond.code yX7_bOf cX7_bOf 1 (some .int), Cond.methodLink RX7 200 yX7_cOf, Cond.static yX7_cOf, Cond.code yX7_cOf cX7_cOf 1 (some .int), Cond.methodLink RX3 33 yJ9_floorMod_7cf53, Cond.methodLink RX3 38 yX5_at, Cond.methodLink RX3 42 yX3_behind, Cond.instanceMethod yX3_behind, Cond.selects RX3 yX3_behind yX3_behind, Cond.code yX3_behind cX3_behind 3 (some .int), Cond.methodLink RX3 45 yX3_sharedWidth]
def wsX7_findOrbits_r5 : List Cond := [Cond.static yX3_sharedWidth, Cond.code yX3_sharedWidth cX3_sharedWidth 4 (some .int), Cond.methodLink RX3 53 Lib.Math.min.name, Cond.static Lib.Math.min.name, Cond.initialized "java/lang/Math", Cond.code Lib.Math.min.name Lib.Math.min.code 2 (some .int), Cond.methodLink RX3 56 Lib.Math.max.name, Cond.static Lib.Math.max.name, Cond.code Lib.Math.max.name Lib.Math.max.code 2 (some .int), Cond.methodLink RX3 49 yX5_put]
def wsX7_findOrbits : List Cond := .code yX7_findOrbits cX7_findOrbits 2 none :: ((wsX7_findOrbits_r1 ++ (wsX7_findOrbits_r2 ++ (wsX7_findOrbits_r3 ++ (wsX7_findOrbits_r4 ++ wsX7_findOrbits_r5)))) ++ wsX70 ++ wsX30 ++ wsX50 ++ wsX20 ++ wsX60 ++ wsX00)
def wsX7_isSeenOn : List Cond := .code yX7_isSeenOn cX7_isSeenOn 4 (some .boolean) :: ([.fieldLink RX7 10 "PlanetoidDesk" "sky" "LPlanetoidDesk$Sky;", .fieldLink RX7 19 "PlanetoidDesk" "bodies" "LPlanetoidDesk$Bodies;", .methodLink RX7 269 yX6_plateOf, .instanceMethod yX6_plateOf, .selects RX6 yX6_plateOf yX6_plateOf, .initialized RX6, .code yX6_plateOf cX6_plateOf 2 (some .int), .fieldLink RX6 26 "PlanetoidDesk$Sky" "dotPlates" "LPlanetoidDesk$Row;", .methodLink RX6 52 yX5_at, .instanceMethod yX5_at, .selects RX5 yX5_at yX5_at, .initialized RX5, .code yX5_at cX5_at 2 (some .int), .fieldLink RX5 7 "PlanetoidDesk$Row" "cells" "[I", .methodLink RX7 248 yX0_isLook, .instanceMethod yX0_isLook, .selects RX0 yX0_isLook yX0_isLook, .initialized RX0, .code yX0_isLook cX0_isLook 5 (some .boolean), .fieldLink RX0 14 "PlanetoidDesk$Bodies" "owners" "LPlanetoidDesk$Row;", .fieldLink RX0 20 "PlanetoidDesk$Bodies" "hosts" "LPlanetoidDesk$Row;", .methodLink RX0 46 yX5_at] ++ wsX70 ++ wsX60 ++ wsX50 ++ wsX00)
def wsX7_canTake_r1 : List Cond := [Cond.fieldLink RX7 19 "PlanetoidDesk" "bodies" "LPlanetoidDesk$Bodies;", Cond.fieldLink RX7 10 "PlanetoidDesk" "sky" "LPlanetoidDesk$Sky;", Cond.fieldLink RX7 33 "PlanetoidDesk" "fitting" "LPlanetoidDesk$Orbits;", Cond.methodLink RX7 107 yX0_isUnlinked, Cond.instanceMethod yX0_isUnlinked, Cond.selects RX0 yX0_isUnlinked yX0_isUnlinked, Cond.initialized RX0, Cond.code yX0_isUnlinked cX0_isUnlinked 2 (some .boolean), Cond.fieldLink RX0 14 "PlanetoidDesk$Bodies" "owners" "LPlanetoidDesk$Row;", Cond.methodLink RX0 46 yX5_at, Cond.instanceMethod yX5_at, Cond.selects RX5 yX5_at yX5_at, Cond.initialized RX5, Cond.code yX5_at cX5_at 2 (some .int), Cond.fieldLink RX5 7 "PlanetoidDesk$Row" "cells" "[I", Cond.methodLink RX7 272 yX0_isFree, Cond.instanceMethod yX0_isFree, Cond.selects RX0 yX0_isFree yX0_isFree, Cond.code yX0_isFree cX0_isFree 2 (some .boolean), Cond.fieldLink RX0 20 "PlanetoidDesk$Bodies" "hosts" "LPlanetoidDesk$Row;", Cond.methodLink RX7 269 yX6_plateOf, Cond.instanceMethod yX6_plateOf, Cond.selects RX6 yX6_plateOf yX6_plateOf, Cond.initialized RX6]
def wsX7_canTake_r2 : List Cond := [Cond.code yX6_plateOf cX6_plateOf 2 (some .int), Cond.fieldLink RX6 26 "PlanetoidDesk$Sky" "dotPlates" "LPlanetoidDesk$Row;", Cond.methodLink RX6 52 yX5_at, Cond.methodLink RX7 275 yX7_isSeenOn, Cond.instanceMethod yX7_isSeenOn, Cond.selects RX7 yX7_isSeenOn yX7_isSeenOn, Cond.initialized RX7, Cond.code yX7_isSeenOn cX7_isSeenOn 4 (some .boolean), Cond.methodLink RX7 248 yX0_isLook, Cond.instanceMethod yX0_isLook, Cond.selects RX0 yX0_isLook yX0_isLook, Cond.code yX0_isLook cX0_isLook 5 (some .boolean), Cond.methodLink RX7 95 yX6_nightOf, Cond.instanceMethod yX6_nightOf, Cond.selects RX6 yX6_nightOf yX6_nightOf, Cond.code yX6_nightOf cX6_nightOf 2 (some .int), Cond.fieldLink RX6 23 "PlanetoidDesk$Sky" "plateNights" "LPlanetoidDesk$Row;", Cond.methodLink RX7 98 yX6_truePlaceOf, Cond.instanceMethod yX6_truePlaceOf, Cond.selects RX6 yX6_truePlaceOf yX6_truePlaceOf, Cond.code yX6_truePlaceOf cX6_truePlaceOf 3 (some .int), Cond.fieldLink RX6 29 "PlanetoidDesk$Sky" "dotPlaces" "LPlanetoidDesk$Row;", Cond.fieldLink RX6 35 "PlanetoidDesk$Sky" "shifts" "LPlanetoidDesk$Row;", Cond.methodLink RX6 56 yJ9_floorMod_7cf53]
def wsX7_canTake_r3 : List Cond := [Cond.static yJ9_floorMod_7cf53, Cond.initialized RJ9, Cond.code yJ9_floorMod_7cf53 cJ9_floorMod_7cf53 3 (some .int), Cond.methodLink RX7 263 yX6_errorOf, Cond.instanceMethod yX6_errorOf, Cond.selects RX6 yX6_errorOf yX6_errorOf, Cond.code yX6_errorOf cX6_errorOf 2 (some .int), Cond.fieldLink RX6 14 "PlanetoidDesk$Sky" "errors" "LPlanetoidDesk$Row;", Cond.fieldLink RX6 20 "PlanetoidDesk$Sky" "plateObservatories" "LPlanetoidDesk$Row;", Cond.methodLink RX7 278 yX3_hasNear, Cond.instanceMethod yX3_hasNear, Cond.selects RX3 yX3_hasNear yX3_hasNear, Cond.initialized RX3, Cond.code yX3_hasNear cX3_hasNear 7 (some .boolean), Cond.fieldLink RX3 20 "PlanetoidDesk$Orbits" "widths" "LPlanetoidDesk$Row;", Cond.static yX7_drift, Cond.code yX7_drift cX7_drift 2 (some .int), Cond.methodLink RX7 197 yX7_bOf, Cond.static yX7_bOf, Cond.code yX7_bOf cX7_bOf 1 (some .int), Cond.methodLink RX7 200 yX7_cOf, Cond.static yX7_cOf, Cond.code yX7_cOf cX7_cOf 1 (some .int), Cond.methodLink RX3 33 yJ9_floorMod_7cf53]
def wsX7_canTake_r4 : List Cond := [Cond.methodLink RX3 38 yX5_at, Cond.methodLink RX3 42 yX3_behind, Cond.instanceMethod yX3_behind, Cond.selects RX3 yX3_behind yX3_behind, Cond.code yX3_behind cX3_behind 3 (some .int), Cond.fieldLink RX3 14 "PlanetoidDesk$Orbits" "starts" "LPlanetoidDesk$Row;", Cond.methodLink RX3 45 yX3_sharedWidth, Cond.static yX3_sharedWidth, Cond.code yX3_sharedWidth cX3_sharedWidth 4 (some .int), Cond.methodLink RX3 53 Lib.Math.min.name, Cond.static Lib.Math.min.name, Cond.initialized "java/lang/Math", Cond.code Lib.Math.min.name Lib.Math.min.code 2 (some .int), Cond.methodLink RX3 56 Lib.Math.max.name, Cond.static Lib.Math.max.name, Cond.code Lib.Math.max.name Lib.Math.max.code 2 (some .int)]
def wsX7_canTake : List Cond := .code yX7_canTake cX7_canTake 3 (some .boolean) :: ((wsX7_canTake_r1 ++ (wsX7_canTake_r2 ++ (wsX7_canTake_r3 ++ wsX7_canTake_r4))) ++ wsX70 ++ wsX00 ++ wsX50 ++ wsX60 ++ wsX30)
def wsX7_countLooks_r1 : List Cond := [Cond.fieldLink RX7 26 "PlanetoidDesk" "looks" "LPlanetoidDesk$Looks;", Cond.methodLink RX7 191 yX7_gatherLooks, Cond.instanceMethod yX7_gatherLooks, Cond.selects RX7 yX7_gatherLooks yX7_gatherLooks, Cond.initialized RX7, Cond.code yX7_gatherLooks cX7_gatherLooks 3 none, Cond.fieldLink RX7 10 "PlanetoidDesk" "sky" "LPlanetoidDesk$Sky;", Cond.fieldLink RX7 19 "PlanetoidDesk" "bodies" "LPlanetoidDesk$Bodies;", Cond.methodLink RX7 248 yX0_isLook, Cond.instanceMethod yX0_isLook, Cond.selects RX0 yX0_isLook yX0_isLook, Cond.initialized RX0, Cond.code yX0_isLook cX0_isLook 5 (some .boolean), Cond.fieldLink RX0 14 "PlanetoidDesk$Bodies" "owners" "LPlanetoidDesk$Row;", Cond.fieldLink RX0 20 "PlanetoidDesk$Bodies" "hosts" "LPlanetoidDesk$Row;", Cond.methodLink RX0 46 yX5_at, Cond.instanceMethod yX5_at, Cond.selects RX5 yX5_at yX5_at, Cond.initialized RX5, Cond.code yX5_at cX5_at 2 (some .int), Cond.fieldLink RX5 7 "PlanetoidDesk$Row" "cells" "[I", Cond.methodLink RX7 251 yX2_add, Cond.instanceMethod yX2_add, Cond.selects RX2 yX2_add yX2_add]
def wsX7_countLooks_r2 : List Cond := [Cond.initialized RX2, Cond.code yX2_add cX2_add 2 none, Cond.fieldLink RX2 14 "PlanetoidDesk$Looks" "dots" "LPlanetoidDesk$Row;", Cond.fieldLink RX2 20 "PlanetoidDesk$Looks" "count" "I", Cond.methodLink RX2 24 yX5_put, Cond.instanceMethod yX5_put, Cond.selects RX5 yX5_put yX5_put, Cond.code yX5_put cX5_put 3 none]
def wsX7_countLooks : List Cond := .code yX7_countLooks cX7_countLooks 2 (some .int) :: ((wsX7_countLooks_r1 ++ wsX7_countLooks_r2) ++ wsX70 ++ wsX20 ++ wsX60 ++ wsX00 ++ wsX50)
def wsX7_link_r1 : List Cond := [Cond.classLink RX7 59 "java/lang/IllegalStateException", Cond.initialized "java/lang/IllegalStateException", Cond.fieldLink RX7 19 "PlanetoidDesk" "bodies" "LPlanetoidDesk$Bodies;", Cond.fieldLink RX7 10 "PlanetoidDesk" "sky" "LPlanetoidDesk$Sky;", Cond.methodLink RX7 70 yX7_needOneOf, Cond.static yX7_needOneOf, Cond.initialized RX7, Cond.code yX7_needOneOf cX7_needOneOf 2 none, Cond.classLink RX7 241 "java/lang/IndexOutOfBoundsException", Cond.initialized "java/lang/IndexOutOfBoundsException", Cond.methodLink RX7 121 yX7_findOrbits, Cond.instanceMethod yX7_findOrbits, Cond.selects RX7 yX7_findOrbits yX7_findOrbits, Cond.code yX7_findOrbits cX7_findOrbits 2 none, Cond.fieldLink RX7 33 "PlanetoidDesk" "fitting" "LPlanetoidDesk$Orbits;", Cond.methodLink RX7 257 yX3_takeAll, Cond.instanceMethod yX3_takeAll, Cond.selects RX3 yX3_takeAll yX3_takeAll, Cond.initialized RX3, Cond.code yX3_takeAll cX3_takeAll 1 none, Cond.fieldLink RX3 14 "PlanetoidDesk$Orbits" "starts" "LPlanetoidDesk$Row;", Cond.fieldLink RX3 20 "PlanetoidDesk$Orbits" "widths" "LPlanetoidDesk$Row;", Cond.methodLink RX3 26 yX5_fill, Cond.instanceMethod yX5_fill]
def wsX7_link_r2 : List Cond := [Cond.selects RX5 yX5_fill yX5_fill, Cond.initialized RX5, Cond.code yX5_fill cX5_fill 3 none, Cond.fieldLink RX5 7 "PlanetoidDesk$Row" "cells" "[I", Cond.methodLink RX7 260 yX7_keepFitting, Cond.instanceMethod yX7_keepFitting, Cond.selects RX7 yX7_keepFitting yX7_keepFitting, Cond.code yX7_keepFitting cX7_keepFitting 4 none, Cond.fieldLink RX7 26 "PlanetoidDesk" "looks" "LPlanetoidDesk$Looks;", Cond.methodLink RX7 191 yX7_gatherLooks, Cond.instanceMethod yX7_gatherLooks, Cond.selects RX7 yX7_gatherLooks yX7_gatherLooks, Cond.code yX7_gatherLooks cX7_gatherLooks 3 none, Cond.methodLink RX7 248 yX0_isLook, Cond.instanceMethod yX0_isLook, Cond.selects RX0 yX0_isLook yX0_isLook, Cond.initialized RX0, Cond.code yX0_isLook cX0_isLook 5 (some .boolean), Cond.fieldLink RX0 14 "PlanetoidDesk$Bodies" "owners" "LPlanetoidDesk$Row;", Cond.fieldLink RX0 20 "PlanetoidDesk$Bodies" "hosts" "LPlanetoidDesk$Row;", Cond.methodLink RX0 46 yX5_at, Cond.instanceMethod yX5_at, Cond.selects RX5 yX5_at yX5_at, Cond.code yX5_at cX5_at 2 (some .int)]
def wsX7_link_r3 : List Cond := [Cond.methodLink RX7 251 yX2_add, Cond.instanceMethod yX2_add, Cond.selects RX2 yX2_add yX2_add, Cond.initialized RX2, Cond.code yX2_add cX2_add 2 none, Cond.fieldLink RX2 14 "PlanetoidDesk$Looks" "dots" "LPlanetoidDesk$Row;", Cond.fieldLink RX2 20 "PlanetoidDesk$Looks" "count" "I", Cond.methodLink RX2 24 yX5_put, Cond.instanceMethod yX5_put, Cond.selects RX5 yX5_put yX5_put, Cond.code yX5_put cX5_put 3 none, Cond.methodLink RX7 254 yX2_dotAt, Cond.instanceMethod yX2_dotAt, Cond.selects RX2 yX2_dotAt yX2_dotAt, Cond.code yX2_dotAt cX2_dotAt 2 (some .int), Cond.methodLink RX2 28 yX5_at, Cond.methodLink RX7 95 yX6_nightOf, Cond.instanceMethod yX6_nightOf, Cond.selects RX6 yX6_nightOf yX6_nightOf, Cond.initialized RX6, Cond.code yX6_nightOf cX6_nightOf 2 (some .int), Cond.fieldLink RX6 23 "PlanetoidDesk$Sky" "plateNights" "LPlanetoidDesk$Row;", Cond.fieldLink RX6 26 "PlanetoidDesk$Sky" "dotPlates" "LPlanetoidDesk$Row;", Cond.methodLink RX6 52 yX5_at]
def wsX7_link_r4 : List Cond := [Cond.methodLink RX7 98 yX6_truePlaceOf, Cond.instanceMethod yX6_truePlaceOf, Cond.selects RX6 yX6_truePlaceOf yX6_truePlaceOf, Cond.code yX6_truePlaceOf cX6_truePlaceOf 3 (some .int), Cond.fieldLink RX6 29 "PlanetoidDesk$Sky" "dotPlaces" "LPlanetoidDesk$Row;", Cond.fieldLink RX6 35 "PlanetoidDesk$Sky" "shifts" "LPlanetoidDesk$Row;", Cond.methodLink RX6 56 yJ9_floorMod_7cf53, Cond.static yJ9_floorMod_7cf53, Cond.initialized RJ9, Cond.code yJ9_floorMod_7cf53 cJ9_floorMod_7cf53 3 (some .int), Cond.methodLink RX7 263 yX6_errorOf, Cond.instanceMethod yX6_errorOf, Cond.selects RX6 yX6_errorOf yX6_errorOf, Cond.code yX6_errorOf cX6_errorOf 2 (some .int), Cond.fieldLink RX6 14 "PlanetoidDesk$Sky" "errors" "LPlanetoidDesk$Row;", Cond.fieldLink RX6 20 "PlanetoidDesk$Sky" "plateObservatories" "LPlanetoidDesk$Row;", Cond.methodLink RX7 266 yX3_keepNear, Cond.instanceMethod yX3_keepNear, Cond.selects RX3 yX3_keepNear yX3_keepNear, Cond.code yX3_keepNear cX3_keepNear 9 none, Cond.static yX7_drift, Cond.code yX7_drift cX7_drift 2 (some .int), Cond.methodLink RX7 197 yX7_bOf, Cond.static yX7_bOf]
def wsX7_link_r5 : List Cond := [Cond.code yX7_bOf cX7_bOf 1 (some .int), Cond.methodLink RX7 200 yX7_cOf, Cond.static yX7_cOf, Cond.code yX7_cOf cX7_cOf 1 (some .int), Cond.methodLink RX3 33 yJ9_floorMod_7cf53, Cond.methodLink RX3 38 yX5_at, Cond.methodLink RX3 42 yX3_behind, Cond.instanceMethod yX3_behind, Cond.selects RX3 yX3_behind yX3_behind, Cond.code yX3_behind cX3_behind 3 (some .int), Cond.methodLink RX3 45 yX3_sharedWidth, Cond.static yX3_sharedWidth, Cond.code yX3_sharedWidth cX3_sharedWidth 4 (some .int), Cond.methodLink RX3 53 Lib.Math.min.name, Cond.static Lib.Math.min.name, Cond.initialized "java/lang/Math", Cond.code Lib.Math.min.name Lib.Math.min.code 2 (some .int), Cond.methodLink RX3 56 Lib.Math.max.name, Cond.static Lib.Math.max.name, Cond.code Lib.Math.max.name Lib.Math.max.code 2 (some .int), Cond.methodLink RX3 49 yX5_put, Cond.methodLink RX7 125 yX7_canTake, Cond.instanceMethod yX7_canTake, Cond.selects RX7 yX7_canTake yX7_canTake]
def wsX7_link_r6 : List Cond := [Cond.code yX7_canTake cX7_canTake 3 (some .boolean), Cond.methodLink RX7 107 yX0_isUnlinked, Cond.instanceMethod yX0_isUnlinked, Cond.selects RX0 yX0_isUnlinked yX0_isUnlinked, Cond.code yX0_isUnlinked cX0_isUnlinked 2 (some .boolean), Cond.methodLink RX7 272 yX0_isFree, Cond.instanceMethod yX0_isFree, Cond.selects RX0 yX0_isFree yX0_isFree, Cond.code yX0_isFree cX0_isFree 2 (some .boolean), Cond.methodLink RX7 269 yX6_plateOf, Cond.instanceMethod yX6_plateOf, Cond.selects RX6 yX6_plateOf yX6_plateOf, Cond.code yX6_plateOf cX6_plateOf 2 (some .int), Cond.methodLink RX7 275 yX7_isSeenOn, Cond.instanceMethod yX7_isSeenOn, Cond.selects RX7 yX7_isSeenOn yX7_isSeenOn, Cond.code yX7_isSeenOn cX7_isSeenOn 4 (some .boolean), Cond.methodLink RX7 278 yX3_hasNear, Cond.instanceMethod yX3_hasNear, Cond.selects RX3 yX3_hasNear yX3_hasNear, Cond.code yX3_hasNear cX3_hasNear 7 (some .boolean), Cond.methodLink RX7 131 yX0_own, Cond.instanceMethod yX0_own, Cond.selects RX0 yX0_own yX0_own]
def wsX7_link_r7 : List Cond := [Cond.code yX0_own cX0_own 3 none, Cond.methodLink RX0 43 yX5_put, Cond.methodLink RX7 134 yX7_countLooks, Cond.instanceMethod yX7_countLooks, Cond.selects RX7 yX7_countLooks yX7_countLooks, Cond.code yX7_countLooks cX7_countLooks 2 (some .int)]
def wsX7_link : List Cond := .code yX7_link cX7_link 3 (some .int) :: ((wsX7_link_r1 ++ (wsX7_link_r2 ++ (wsX7_link_r3 ++ (wsX7_link_r4 ++ (wsX7_link_r5 ++ (wsX7_link_r6 ++ wsX7_link_r7)))))) ++ wsX70 ++ wsX00 ++ wsX60 ++ wsX30 ++ wsX50 ++ wsX20 ++ (vx_atS RX7 63 "java/lang/IllegalStateException" ["java/lang/RuntimeException", "java/lang/Exception"]).filter goodWord ++ (vx_atS RX7 245 "java/lang/IndexOutOfBoundsException" ["java/lang/RuntimeException", "java/lang/Exception"]).filter goodWord)
def wsX7_unlink_r1 : List Cond := [Cond.classLink RX7 59 "java/lang/IllegalStateException", Cond.initialized "java/lang/IllegalStateException", Cond.fieldLink RX7 19 "PlanetoidDesk" "bodies" "LPlanetoidDesk$Bodies;", Cond.fieldLink RX7 10 "PlanetoidDesk" "sky" "LPlanetoidDesk$Sky;", Cond.methodLink RX7 70 yX7_needOneOf, Cond.static yX7_needOneOf, Cond.initialized RX7, Cond.code yX7_needOneOf cX7_needOneOf 2 none, Cond.classLink RX7 241 "java/lang/IndexOutOfBoundsException", Cond.initialized "java/lang/IndexOutOfBoundsException", Cond.methodLink RX7 104 yX0_ownerOf, Cond.instanceMethod yX0_ownerOf, Cond.selects RX0 yX0_ownerOf yX0_ownerOf, Cond.initialized RX0, Cond.code yX0_ownerOf cX0_ownerOf 2 (some .int), Cond.fieldLink RX0 14 "PlanetoidDesk$Bodies" "owners" "LPlanetoidDesk$Row;", Cond.methodLink RX0 46 yX5_at, Cond.instanceMethod yX5_at, Cond.selects RX5 yX5_at yX5_at, Cond.initialized RX5, Cond.code yX5_at cX5_at 2 (some .int), Cond.fieldLink RX5 7 "PlanetoidDesk$Row" "cells" "[I", Cond.methodLink RX7 137 yX0_countOwnDots, Cond.instanceMethod yX0_countOwnDots]
def wsX7_unlink_r2 : List Cond := [Cond.selects RX0 yX0_countOwnDots yX0_countOwnDots, Cond.code yX0_countOwnDots cX0_countOwnDots 4 (some .int), Cond.methodLink RX7 131 yX0_own, Cond.instanceMethod yX0_own, Cond.selects RX0 yX0_own yX0_own, Cond.code yX0_own cX0_own 3 none, Cond.methodLink RX0 43 yX5_put, Cond.instanceMethod yX5_put, Cond.selects RX5 yX5_put yX5_put, Cond.code yX5_put cX5_put 3 none]
def wsX7_unlink : List Cond := .code yX7_unlink cX7_unlink 3 (some .int) :: ((wsX7_unlink_r1 ++ wsX7_unlink_r2) ++ wsX70 ++ wsX00 ++ wsX60 ++ wsX50 ++ (vx_atS RX7 63 "java/lang/IllegalStateException" ["java/lang/RuntimeException", "java/lang/Exception"]).filter goodWord ++ (vx_atS RX7 245 "java/lang/IndexOutOfBoundsException" ["java/lang/RuntimeException", "java/lang/Exception"]).filter goodWord)
def wsX7_shareAPlate_r1 : List Cond := [Cond.fieldLink RX7 10 "PlanetoidDesk" "sky" "LPlanetoidDesk$Sky;", Cond.fieldLink RX7 19 "PlanetoidDesk" "bodies" "LPlanetoidDesk$Bodies;", Cond.methodLink RX7 248 yX0_isLook, Cond.instanceMethod yX0_isLook, Cond.selects RX0 yX0_isLook yX0_isLook, Cond.initialized RX0, Cond.code yX0_isLook cX0_isLook 5 (some .boolean), Cond.fieldLink RX0 14 "PlanetoidDesk$Bodies" "owners" "LPlanetoidDesk$Row;", Cond.fieldLink RX0 20 "PlanetoidDesk$Bodies" "hosts" "LPlanetoidDesk$Row;", Cond.methodLink RX0 46 yX5_at, Cond.instanceMethod yX5_at, Cond.selects RX5 yX5_at yX5_at, Cond.initialized RX5, Cond.code yX5_at cX5_at 2 (some .int), Cond.fieldLink RX5 7 "PlanetoidDesk$Row" "cells" "[I", Cond.methodLink RX7 269 yX6_plateOf, Cond.instanceMethod yX6_plateOf, Cond.selects RX6 yX6_plateOf yX6_plateOf, Cond.initialized RX6, Cond.code yX6_plateOf cX6_plateOf 2 (some .int), Cond.fieldLink RX6 26 "PlanetoidDesk$Sky" "dotPlates" "LPlanetoidDesk$Row;", Cond.methodLink RX6 52 yX5_at, Cond.methodLink RX7 275 yX7_isSeenOn, Cond.instanceMethod yX7_isSeenOn]
def wsX7_shareAPlate_r2 : List Cond := [Cond.selects RX7 yX7_isSeenOn yX7_isSeenOn, Cond.initialized RX7, Cond.code yX7_isSeenOn cX7_isSeenOn 4 (some .boolean)]
def wsX7_shareAPlate : List Cond := .code yX7_shareAPlate cX7_shareAPlate 4 (some .boolean) :: ((wsX7_shareAPlate_r1 ++ wsX7_shareAPlate_r2) ++ wsX70 ++ wsX60 ++ wsX00 ++ wsX50)
def wsX7_canJoin_r1 : List Cond := [Cond.fieldLink RX7 19 "PlanetoidDesk" "bodies" "LPlanetoidDesk$Bodies;", Cond.fieldLink RX7 33 "PlanetoidDesk" "fitting" "LPlanetoidDesk$Orbits;", Cond.methodLink RX7 272 yX0_isFree, Cond.instanceMethod yX0_isFree, Cond.selects RX0 yX0_isFree yX0_isFree, Cond.initialized RX0, Cond.code yX0_isFree cX0_isFree 2 (some .boolean), Cond.fieldLink RX0 20 "PlanetoidDesk$Bodies" "hosts" "LPlanetoidDesk$Row;", Cond.methodLink RX0 46 yX5_at, Cond.instanceMethod yX5_at, Cond.selects RX5 yX5_at yX5_at, Cond.initialized RX5, Cond.code yX5_at cX5_at 2 (some .int), Cond.fieldLink RX5 7 "PlanetoidDesk$Row" "cells" "[I", Cond.methodLink RX7 181 yX0_numberOf, Cond.instanceMethod yX0_numberOf, Cond.selects RX0 yX0_numberOf yX0_numberOf, Cond.code yX0_numberOf cX0_numberOf 2 (some .int), Cond.fieldLink RX0 26 "PlanetoidDesk$Bodies" "numbers" "LPlanetoidDesk$Row;", Cond.methodLink RX7 282 yX7_shareAPlate, Cond.instanceMethod yX7_shareAPlate, Cond.selects RX7 yX7_shareAPlate yX7_shareAPlate, Cond.initialized RX7, Cond.code yX7_shareAPlate cX7_shareAPlate 4 (some .boolean)]
def wsX7_canJoin_r2 : List Cond := [Cond.fieldLink RX7 10 "PlanetoidDesk" "sky" "LPlanetoidDesk$Sky;", Cond.methodLink RX7 248 yX0_isLook, Cond.instanceMethod yX0_isLook, Cond.selects RX0 yX0_isLook yX0_isLook, Cond.code yX0_isLook cX0_isLook 5 (some .boolean), Cond.fieldLink RX0 14 "PlanetoidDesk$Bodies" "owners" "LPlanetoidDesk$Row;", Cond.methodLink RX7 269 yX6_plateOf, Cond.instanceMethod yX6_plateOf, Cond.selects RX6 yX6_plateOf yX6_plateOf, Cond.initialized RX6, Cond.code yX6_plateOf cX6_plateOf 2 (some .int), Cond.fieldLink RX6 26 "PlanetoidDesk$Sky" "dotPlates" "LPlanetoidDesk$Row;", Cond.methodLink RX6 52 yX5_at, Cond.methodLink RX7 275 yX7_isSeenOn, Cond.instanceMethod yX7_isSeenOn, Cond.selects RX7 yX7_isSeenOn yX7_isSeenOn, Cond.code yX7_isSeenOn cX7_isSeenOn 4 (some .boolean), Cond.methodLink RX7 121 yX7_findOrbits, Cond.instanceMethod yX7_findOrbits, Cond.selects RX7 yX7_findOrbits yX7_findOrbits, Cond.code yX7_findOrbits cX7_findOrbits 2 none, Cond.methodLink RX7 257 yX3_takeAll, Cond.instanceMethod yX3_takeAll, Cond.selects RX3 yX3_takeAll yX3_takeAll]
def wsX7_canJoin_r3 : List Cond := [Cond.initialized RX3, Cond.code yX3_takeAll cX3_takeAll 1 none, Cond.fieldLink RX3 14 "PlanetoidDesk$Orbits" "starts" "LPlanetoidDesk$Row;", Cond.fieldLink RX3 20 "PlanetoidDesk$Orbits" "widths" "LPlanetoidDesk$Row;", Cond.methodLink RX3 26 yX5_fill, Cond.instanceMethod yX5_fill, Cond.selects RX5 yX5_fill yX5_fill, Cond.code yX5_fill cX5_fill 3 none, Cond.methodLink RX7 260 yX7_keepFitting, Cond.instanceMethod yX7_keepFitting, Cond.selects RX7 yX7_keepFitting yX7_keepFitting, Cond.code yX7_keepFitting cX7_keepFitting 4 none, Cond.fieldLink RX7 26 "PlanetoidDesk" "looks" "LPlanetoidDesk$Looks;", Cond.methodLink RX7 191 yX7_gatherLooks, Cond.instanceMethod yX7_gatherLooks, Cond.selects RX7 yX7_gatherLooks yX7_gatherLooks, Cond.code yX7_gatherLooks cX7_gatherLooks 3 none, Cond.methodLink RX7 251 yX2_add, Cond.instanceMethod yX2_add, Cond.selects RX2 yX2_add yX2_add, Cond.initialized RX2, Cond.code yX2_add cX2_add 2 none, Cond.fieldLink RX2 14 "PlanetoidDesk$Looks" "dots" "LPlanetoidDesk$Row;", Cond.fieldLink RX2 20 "PlanetoidDesk$Looks" "count" "I"]
def wsX7_canJoin_r4 : List Cond := [Cond.methodLink RX2 24 yX5_put, Cond.instanceMethod yX5_put, Cond.selects RX5 yX5_put yX5_put, Cond.code yX5_put cX5_put 3 none, Cond.methodLink RX7 254 yX2_dotAt, Cond.instanceMethod yX2_dotAt, Cond.selects RX2 yX2_dotAt yX2_dotAt, Cond.code yX2_dotAt cX2_dotAt 2 (some .int), Cond.methodLink RX2 28 yX5_at, Cond.methodLink RX7 95 yX6_nightOf, Cond.instanceMethod yX6_nightOf, Cond.selects RX6 yX6_nightOf yX6_nightOf, Cond.code yX6_nightOf cX6_nightOf 2 (some .int), Cond.fieldLink RX6 23 "PlanetoidDesk$Sky" "plateNights" "LPlanetoidDesk$Row;", Cond.methodLink RX7 98 yX6_truePlaceOf, Cond.instanceMethod yX6_truePlaceOf, Cond.selects RX6 yX6_truePlaceOf yX6_truePlaceOf, Cond.code yX6_truePlaceOf cX6_truePlaceOf 3 (some .int), Cond.fieldLink RX6 29 "PlanetoidDesk$Sky" "dotPlaces" "LPlanetoidDesk$Row;", Cond.fieldLink RX6 35 "PlanetoidDesk$Sky" "shifts" "LPlanetoidDesk$Row;", Cond.methodLink RX6 56 yJ9_floorMod_7cf53, Cond.static yJ9_floorMod_7cf53, Cond.initialized RJ9, Cond.code yJ9_floorMod_7cf53 cJ9_floorMod_7cf53 3 (some .int)]
def wsX7_canJoin_r5 : List Cond := [Cond.methodLink RX7 263 yX6_errorOf, Cond.instanceMethod yX6_errorOf, Cond.selects RX6 yX6_errorOf yX6_errorOf, Cond.code yX6_errorOf cX6_errorOf 2 (some .int), Cond.fieldLink RX6 14 "PlanetoidDesk$Sky" "errors" "LPlanetoidDesk$Row;", Cond.fieldLink RX6 20 "PlanetoidDesk$Sky" "plateObservatories" "LPlanetoidDesk$Row;", Cond.methodLink RX7 266 yX3_keepNear, Cond.instanceMethod yX3_keepNear, Cond.selects RX3 yX3_keepNear yX3_keepNear, Cond.code yX3_keepNear cX3_keepNear 9 none, Cond.static yX7_drift, Cond.code yX7_drift cX7_drift 2 (some .int), Cond.methodLink RX7 197 yX7_bOf, Cond.static yX7_bOf, Cond.code yX7_bOf cX7_bOf 1 (some .int), Cond.methodLink RX7 200 yX7_cOf, Cond.static yX7_cOf, Cond.code yX7_cOf cX7_cOf 1 (some .int), Cond.methodLink RX3 33 yJ9_floorMod_7cf53, Cond.methodLink RX3 38 yX5_at, Cond.methodLink RX3 42 yX3_behind, Cond.instanceMethod yX3_behind, Cond.selects RX3 yX3_behind yX3_behind, Cond.code yX3_behind cX3_behind 3 (some .int)]
def wsX7_canJoin_r6 : List Cond := [Cond.methodLink RX3 45 yX3_sharedWidth, Cond.static yX3_sharedWidth, Cond.code yX3_sharedWidth cX3_sharedWidth 4 (some .int), Cond.methodLink RX3 53 Lib.Math.min.name, Cond.static Lib.Math.min.name, Cond.initialized "java/lang/Math", Cond.code Lib.Math.min.name Lib.Math.min.code 2 (some .int), Cond.methodLink RX3 56 Lib.Math.max.name, Cond.static Lib.Math.max.name, Cond.code Lib.Math.max.name Lib.Math.max.code 2 (some .int), Cond.methodLink RX3 49 yX5_put, Cond.methodLink RX7 187 yX3_countOrbits, Cond.instanceMethod yX3_countOrbits, Cond.selects RX3 yX3_countOrbits yX3_countOrbits, Cond.code yX3_countOrbits cX3_countOrbits 3 (some .int)]
def wsX7_canJoin : List Cond := .code yX7_canJoin cX7_canJoin 3 (some .boolean) :: ((wsX7_canJoin_r1 ++ (wsX7_canJoin_r2 ++ (wsX7_canJoin_r3 ++ (wsX7_canJoin_r4 ++ (wsX7_canJoin_r5 ++ wsX7_canJoin_r6))))) ++ wsX70 ++ wsX00 ++ wsX50 ++ wsX60 ++ wsX30 ++ wsX20)
def wsX7_firstLookOf_r1 : List Cond := [Cond.fieldLink RX7 26 "PlanetoidDesk" "looks" "LPlanetoidDesk$Looks;", Cond.fieldLink RX7 10 "PlanetoidDesk" "sky" "LPlanetoidDesk$Sky;", Cond.methodLink RX7 191 yX7_gatherLooks, Cond.instanceMethod yX7_gatherLooks, Cond.selects RX7 yX7_gatherLooks yX7_gatherLooks, Cond.initialized RX7, Cond.code yX7_gatherLooks cX7_gatherLooks 3 none, Cond.fieldLink RX7 19 "PlanetoidDesk" "bodies" "LPlanetoidDesk$Bodies;", Cond.methodLink RX7 248 yX0_isLook, Cond.instanceMethod yX0_isLook, Cond.selects RX0 yX0_isLook yX0_isLook, Cond.initialized RX0, Cond.code yX0_isLook cX0_isLook 5 (some .boolean), Cond.fieldLink RX0 14 "PlanetoidDesk$Bodies" "owners" "LPlanetoidDesk$Row;", Cond.fieldLink RX0 20 "PlanetoidDesk$Bodies" "hosts" "LPlanetoidDesk$Row;", Cond.methodLink RX0 46 yX5_at, Cond.instanceMethod yX5_at, Cond.selects RX5 yX5_at yX5_at, Cond.initialized RX5, Cond.code yX5_at cX5_at 2 (some .int), Cond.fieldLink RX5 7 "PlanetoidDesk$Row" "cells" "[I", Cond.methodLink RX7 251 yX2_add, Cond.instanceMethod yX2_add, Cond.selects RX2 yX2_add yX2_add]
def wsX7_firstLookOf_r2 : List Cond := [Cond.initialized RX2, Cond.code yX2_add cX2_add 2 none, Cond.fieldLink RX2 14 "PlanetoidDesk$Looks" "dots" "LPlanetoidDesk$Row;", Cond.fieldLink RX2 20 "PlanetoidDesk$Looks" "count" "I", Cond.methodLink RX2 24 yX5_put, Cond.instanceMethod yX5_put, Cond.selects RX5 yX5_put yX5_put, Cond.code yX5_put cX5_put 3 none, Cond.methodLink RX7 254 yX2_dotAt, Cond.instanceMethod yX2_dotAt, Cond.selects RX2 yX2_dotAt yX2_dotAt, Cond.code yX2_dotAt cX2_dotAt 2 (some .int), Cond.methodLink RX2 28 yX5_at, Cond.methodLink RX7 95 yX6_nightOf, Cond.instanceMethod yX6_nightOf, Cond.selects RX6 yX6_nightOf yX6_nightOf, Cond.initialized RX6, Cond.code yX6_nightOf cX6_nightOf 2 (some .int), Cond.fieldLink RX6 23 "PlanetoidDesk$Sky" "plateNights" "LPlanetoidDesk$Row;", Cond.fieldLink RX6 26 "PlanetoidDesk$Sky" "dotPlates" "LPlanetoidDesk$Row;", Cond.methodLink RX6 52 yX5_at]
def wsX7_firstLookOf : List Cond := .code yX7_firstLookOf cX7_firstLookOf 4 (some .int) :: ((wsX7_firstLookOf_r1 ++ wsX7_firstLookOf_r2) ++ wsX70 ++ wsX20 ++ wsX60 ++ wsX00 ++ wsX50)
def wsX7_isStronger_r1 : List Cond := [Cond.fieldLink RX7 19 "PlanetoidDesk" "bodies" "LPlanetoidDesk$Bodies;", Cond.fieldLink RX7 10 "PlanetoidDesk" "sky" "LPlanetoidDesk$Sky;", Cond.methodLink RX7 181 yX0_numberOf, Cond.instanceMethod yX0_numberOf, Cond.selects RX0 yX0_numberOf yX0_numberOf, Cond.initialized RX0, Cond.code yX0_numberOf cX0_numberOf 2 (some .int), Cond.fieldLink RX0 26 "PlanetoidDesk$Bodies" "numbers" "LPlanetoidDesk$Row;", Cond.methodLink RX0 46 yX5_at, Cond.instanceMethod yX5_at, Cond.selects RX5 yX5_at yX5_at, Cond.initialized RX5, Cond.code yX5_at cX5_at 2 (some .int), Cond.fieldLink RX5 7 "PlanetoidDesk$Row" "cells" "[I", Cond.methodLink RX7 175 yX7_firstLookOf, Cond.instanceMethod yX7_firstLookOf, Cond.selects RX7 yX7_firstLookOf yX7_firstLookOf, Cond.initialized RX7, Cond.code yX7_firstLookOf cX7_firstLookOf 4 (some .int), Cond.fieldLink RX7 26 "PlanetoidDesk" "looks" "LPlanetoidDesk$Looks;", Cond.methodLink RX7 191 yX7_gatherLooks, Cond.instanceMethod yX7_gatherLooks, Cond.selects RX7 yX7_gatherLooks yX7_gatherLooks, Cond.code yX7_gatherLooks cX7_gatherLooks 3 none]
def wsX7_isStronger_r2 : List Cond := [Cond.methodLink RX7 248 yX0_isLook, Cond.instanceMethod yX0_isLook, Cond.selects RX0 yX0_isLook yX0_isLook, Cond.code yX0_isLook cX0_isLook 5 (some .boolean), Cond.fieldLink RX0 14 "PlanetoidDesk$Bodies" "owners" "LPlanetoidDesk$Row;", Cond.fieldLink RX0 20 "PlanetoidDesk$Bodies" "hosts" "LPlanetoidDesk$Row;", Cond.methodLink RX7 251 yX2_add, Cond.instanceMethod yX2_add, Cond.selects RX2 yX2_add yX2_add, Cond.initialized RX2, Cond.code yX2_add cX2_add 2 none, Cond.fieldLink RX2 14 "PlanetoidDesk$Looks" "dots" "LPlanetoidDesk$Row;", Cond.fieldLink RX2 20 "PlanetoidDesk$Looks" "count" "I", Cond.methodLink RX2 24 yX5_put, Cond.instanceMethod yX5_put, Cond.selects RX5 yX5_put yX5_put, Cond.code yX5_put cX5_put 3 none, Cond.methodLink RX7 254 yX2_dotAt, Cond.instanceMethod yX2_dotAt, Cond.selects RX2 yX2_dotAt yX2_dotAt, Cond.code yX2_dotAt cX2_dotAt 2 (some .int), Cond.methodLink RX2 28 yX5_at, Cond.methodLink RX7 95 yX6_nightOf, Cond.instanceMethod yX6_nightOf]
def wsX7_isStronger_r3 : List Cond := [Cond.selects RX6 yX6_nightOf yX6_nightOf, Cond.initialized RX6, Cond.code yX6_nightOf cX6_nightOf 2 (some .int), Cond.fieldLink RX6 23 "PlanetoidDesk$Sky" "plateNights" "LPlanetoidDesk$Row;", Cond.fieldLink RX6 26 "PlanetoidDesk$Sky" "dotPlates" "LPlanetoidDesk$Row;", Cond.methodLink RX6 52 yX5_at]
def wsX7_isStronger : List Cond := .code yX7_isStronger cX7_isStronger 7 (some .boolean) :: ((wsX7_isStronger_r1 ++ (wsX7_isStronger_r2 ++ wsX7_isStronger_r3)) ++ wsX70 ++ wsX00 ++ wsX50 ++ wsX20 ++ wsX60)
def wsX7_join_r1 : List Cond := [Cond.classLink RX7 59 "java/lang/IllegalStateException", Cond.initialized "java/lang/IllegalStateException", Cond.fieldLink RX7 19 "PlanetoidDesk" "bodies" "LPlanetoidDesk$Bodies;", Cond.methodLink RX7 70 yX7_needOneOf, Cond.static yX7_needOneOf, Cond.initialized RX7, Cond.code yX7_needOneOf cX7_needOneOf 2 none, Cond.classLink RX7 241 "java/lang/IndexOutOfBoundsException", Cond.initialized "java/lang/IndexOutOfBoundsException", Cond.methodLink RX7 142 yX7_canJoin, Cond.instanceMethod yX7_canJoin, Cond.selects RX7 yX7_canJoin yX7_canJoin, Cond.code yX7_canJoin cX7_canJoin 3 (some .boolean), Cond.fieldLink RX7 33 "PlanetoidDesk" "fitting" "LPlanetoidDesk$Orbits;", Cond.methodLink RX7 272 yX0_isFree, Cond.instanceMethod yX0_isFree, Cond.selects RX0 yX0_isFree yX0_isFree, Cond.initialized RX0, Cond.code yX0_isFree cX0_isFree 2 (some .boolean), Cond.fieldLink RX0 20 "PlanetoidDesk$Bodies" "hosts" "LPlanetoidDesk$Row;", Cond.methodLink RX0 46 yX5_at, Cond.instanceMethod yX5_at, Cond.selects RX5 yX5_at yX5_at, Cond.initialized RX5]
def wsX7_join_r2 : List Cond := [Cond.code yX5_at cX5_at 2 (some .int), Cond.fieldLink RX5 7 "PlanetoidDesk$Row" "cells" "[I", Cond.methodLink RX7 181 yX0_numberOf, Cond.instanceMethod yX0_numberOf, Cond.selects RX0 yX0_numberOf yX0_numberOf, Cond.code yX0_numberOf cX0_numberOf 2 (some .int), Cond.fieldLink RX0 26 "PlanetoidDesk$Bodies" "numbers" "LPlanetoidDesk$Row;", Cond.methodLink RX7 282 yX7_shareAPlate, Cond.instanceMethod yX7_shareAPlate, Cond.selects RX7 yX7_shareAPlate yX7_shareAPlate, Cond.code yX7_shareAPlate cX7_shareAPlate 4 (some .boolean), Cond.fieldLink RX7 10 "PlanetoidDesk" "sky" "LPlanetoidDesk$Sky;", Cond.methodLink RX7 248 yX0_isLook, Cond.instanceMethod yX0_isLook, Cond.selects RX0 yX0_isLook yX0_isLook, Cond.code yX0_isLook cX0_isLook 5 (some .boolean), Cond.fieldLink RX0 14 "PlanetoidDesk$Bodies" "owners" "LPlanetoidDesk$Row;", Cond.methodLink RX7 269 yX6_plateOf, Cond.instanceMethod yX6_plateOf, Cond.selects RX6 yX6_plateOf yX6_plateOf, Cond.initialized RX6, Cond.code yX6_plateOf cX6_plateOf 2 (some .int), Cond.fieldLink RX6 26 "PlanetoidDesk$Sky" "dotPlates" "LPlanetoidDesk$Row;", Cond.methodLink RX6 52 yX5_at]
def wsX7_join_r3 : List Cond := [Cond.methodLink RX7 275 yX7_isSeenOn, Cond.instanceMethod yX7_isSeenOn, Cond.selects RX7 yX7_isSeenOn yX7_isSeenOn, Cond.code yX7_isSeenOn cX7_isSeenOn 4 (some .boolean), Cond.methodLink RX7 121 yX7_findOrbits, Cond.instanceMethod yX7_findOrbits, Cond.selects RX7 yX7_findOrbits yX7_findOrbits, Cond.code yX7_findOrbits cX7_findOrbits 2 none, Cond.methodLink RX7 257 yX3_takeAll, Cond.instanceMethod yX3_takeAll, Cond.selects RX3 yX3_takeAll yX3_takeAll, Cond.initialized RX3, Cond.code yX3_takeAll cX3_takeAll 1 none, Cond.fieldLink RX3 14 "PlanetoidDesk$Orbits" "starts" "LPlanetoidDesk$Row;", Cond.fieldLink RX3 20 "PlanetoidDesk$Orbits" "widths" "LPlanetoidDesk$Row;", Cond.methodLink RX3 26 yX5_fill, Cond.instanceMethod yX5_fill, Cond.selects RX5 yX5_fill yX5_fill, Cond.code yX5_fill cX5_fill 3 none, Cond.methodLink RX7 260 yX7_keepFitting, Cond.instanceMethod yX7_keepFitting, Cond.selects RX7 yX7_keepFitting yX7_keepFitting, Cond.code yX7_keepFitting cX7_keepFitting 4 none, Cond.fieldLink RX7 26 "PlanetoidDesk" "looks" "LPlanetoidDesk$Looks;"]
def wsX7_join_r4 : List Cond := [Cond.methodLink RX7 191 yX7_gatherLooks, Cond.instanceMethod yX7_gatherLooks, Cond.selects RX7 yX7_gatherLooks yX7_gatherLooks, Cond.code yX7_gatherLooks cX7_gatherLooks 3 none, Cond.methodLink RX7 251 yX2_add, Cond.instanceMethod yX2_add, Cond.selects RX2 yX2_add yX2_add, Cond.initialized RX2, Cond.code yX2_add cX2_add 2 none, Cond.fieldLink RX2 14 "PlanetoidDesk$Looks" "dots" "LPlanetoidDesk$Row;", Cond.fieldLink RX2 20 "PlanetoidDesk$Looks" "count" "I", Cond.methodLink RX2 24 yX5_put, Cond.instanceMethod yX5_put, Cond.selects RX5 yX5_put yX5_put, Cond.code yX5_put cX5_put 3 none, Cond.methodLink RX7 254 yX2_dotAt, Cond.instanceMethod yX2_dotAt, Cond.selects RX2 yX2_dotAt yX2_dotAt, Cond.code yX2_dotAt cX2_dotAt 2 (some .int), Cond.methodLink RX2 28 yX5_at, Cond.methodLink RX7 95 yX6_nightOf, Cond.instanceMethod yX6_nightOf, Cond.selects RX6 yX6_nightOf yX6_nightOf, Cond.code yX6_nightOf cX6_nightOf 2 (some .int)]
def wsX7_join_r5 : List Cond := [Cond.fieldLink RX6 23 "PlanetoidDesk$Sky" "plateNights" "LPlanetoidDesk$Row;", Cond.methodLink RX7 98 yX6_truePlaceOf, Cond.instanceMethod yX6_truePlaceOf, Cond.selects RX6 yX6_truePlaceOf yX6_truePlaceOf, Cond.code yX6_truePlaceOf cX6_truePlaceOf 3 (some .int), Cond.fieldLink RX6 29 "PlanetoidDesk$Sky" "dotPlaces" "LPlanetoidDesk$Row;", Cond.fieldLink RX6 35 "PlanetoidDesk$Sky" "shifts" "LPlanetoidDesk$Row;", Cond.methodLink RX6 56 yJ9_floorMod_7cf53, Cond.static yJ9_floorMod_7cf53, Cond.initialized RJ9, Cond.code yJ9_floorMod_7cf53 cJ9_floorMod_7cf53 3 (some .int), Cond.methodLink RX7 263 yX6_errorOf, Cond.instanceMethod yX6_errorOf, Cond.selects RX6 yX6_errorOf yX6_errorOf, Cond.code yX6_errorOf cX6_errorOf 2 (some .int), Cond.fieldLink RX6 14 "PlanetoidDesk$Sky" "errors" "LPlanetoidDesk$Row;", Cond.fieldLink RX6 20 "PlanetoidDesk$Sky" "plateObservatories" "LPlanetoidDesk$Row;", Cond.methodLink RX7 266 yX3_keepNear, Cond.instanceMethod yX3_keepNear, Cond.selects RX3 yX3_keepNear yX3_keepNear, Cond.code yX3_keepNear cX3_keepNear 9 none, Cond.static yX7_drift, Cond.code yX7_drift cX7_drift 2 (some .int), Cond.methodLink RX7 197 yX7_bOf]
def wsX7_join_r6 : List Cond := [Cond.static yX7_bOf, Cond.code yX7_bOf cX7_bOf 1 (some .int), Cond.methodLink RX7 200 yX7_cOf, Cond.static yX7_cOf, Cond.code yX7_cOf cX7_cOf 1 (some .int), Cond.methodLink RX3 33 yJ9_floorMod_7cf53, Cond.methodLink RX3 38 yX5_at, Cond.methodLink RX3 42 yX3_behind, Cond.instanceMethod yX3_behind, Cond.selects RX3 yX3_behind yX3_behind, Cond.code yX3_behind cX3_behind 3 (some .int), Cond.methodLink RX3 45 yX3_sharedWidth, Cond.static yX3_sharedWidth, Cond.code yX3_sharedWidth cX3_sharedWidth 4 (some .int), Cond.methodLink RX3 53 Lib.Math.min.name, Cond.static Lib.Math.min.name, Cond.initialized "java/lang/Math", Cond.code Lib.Math.min.name Lib.Math.min.code 2 (some .int), Cond.methodLink RX3 56 Lib.Math.max.name, Cond.static Lib.Math.max.name, Cond.code Lib.Math.max.name Lib.Math.max.code 2 (some .int), Cond.methodLink RX3 49 yX5_put, Cond.methodLink RX7 187 yX3_countOrbits, Cond.instanceMethod yX3_countOrbits]
def wsX7_join_r7 : List Cond := [Cond.selects RX3 yX3_countOrbits yX3_countOrbits, Cond.code yX3_countOrbits cX3_countOrbits 3 (some .int), Cond.methodLink RX7 147 yX7_isStronger, Cond.instanceMethod yX7_isStronger, Cond.selects RX7 yX7_isStronger yX7_isStronger, Cond.code yX7_isStronger cX7_isStronger 7 (some .boolean), Cond.methodLink RX7 175 yX7_firstLookOf, Cond.instanceMethod yX7_firstLookOf, Cond.selects RX7 yX7_firstLookOf yX7_firstLookOf, Cond.code yX7_firstLookOf cX7_firstLookOf 4 (some .int), Cond.methodLink RX7 150 yX0_attach, Cond.instanceMethod yX0_attach, Cond.selects RX0 yX0_attach yX0_attach, Cond.code yX0_attach cX0_attach 3 none, Cond.fieldLink RX0 50 "PlanetoidDesk$Bodies" "joins" "I", Cond.fieldLink RX0 23 "PlanetoidDesk$Bodies" "joinTimes" "LPlanetoidDesk$Row;", Cond.methodLink RX0 43 yX5_put]
def wsX7_join : List Cond := .code yX7_join cX7_join 5 (some .int) :: ((wsX7_join_r1 ++ (wsX7_join_r2 ++ (wsX7_join_r3 ++ (wsX7_join_r4 ++ (wsX7_join_r5 ++ (wsX7_join_r6 ++ wsX7_join_r7)))))) ++ wsX70 ++ wsX00 ++ wsX50 ++ wsX60 ++ wsX30 ++ wsX20 ++ (vx_atS RX7 63 "java/lang/IllegalStateException" ["java/lang/RuntimeException", "java/lang/Exception"]).filter goodWord ++ (vx_atS RX7 245 "java/lang/IndexOutOfBoundsException" ["java/lang/RuntimeException", "java/lang/Exception"]).filter goodWord)
def wsX7_part_r1 : List Cond := [Cond.classLink RX7 59 "java/lang/IllegalStateException", Cond.initialized "java/lang/IllegalStateException", Cond.fieldLink RX7 19 "PlanetoidDesk" "bodies" "LPlanetoidDesk$Bodies;", Cond.methodLink RX7 70 yX7_needOneOf, Cond.static yX7_needOneOf, Cond.initialized RX7, Cond.code yX7_needOneOf cX7_needOneOf 2 none, Cond.classLink RX7 241 "java/lang/IndexOutOfBoundsException", Cond.initialized "java/lang/IndexOutOfBoundsException", Cond.methodLink RX7 153 yX0_latestJoinedTo, Cond.instanceMethod yX0_latestJoinedTo, Cond.selects RX0 yX0_latestJoinedTo yX0_latestJoinedTo, Cond.initialized RX0, Cond.code yX0_latestJoinedTo cX0_latestJoinedTo 5 (some .int), Cond.fieldLink RX0 35 "PlanetoidDesk$Bodies" "count" "I", Cond.fieldLink RX0 23 "PlanetoidDesk$Bodies" "joinTimes" "LPlanetoidDesk$Row;", Cond.fieldLink RX0 20 "PlanetoidDesk$Bodies" "hosts" "LPlanetoidDesk$Row;", Cond.methodLink RX0 46 yX5_at, Cond.instanceMethod yX5_at, Cond.selects RX5 yX5_at yX5_at, Cond.initialized RX5, Cond.code yX5_at cX5_at 2 (some .int), Cond.fieldLink RX5 7 "PlanetoidDesk$Row" "cells" "[I", Cond.methodLink RX7 158 yX0_free]
def wsX7_part_r2 : List Cond := [Cond.instanceMethod yX0_free, Cond.selects RX0 yX0_free yX0_free, Cond.code yX0_free cX0_free 2 none, Cond.methodLink RX0 43 yX5_put, Cond.instanceMethod yX5_put, Cond.selects RX5 yX5_put yX5_put, Cond.code yX5_put cX5_put 3 none]
def wsX7_part : List Cond := .code yX7_part cX7_part 3 (some .int) :: ((wsX7_part_r1 ++ wsX7_part_r2) ++ wsX70 ++ wsX00 ++ wsX50 ++ (vx_atS RX7 63 "java/lang/IllegalStateException" ["java/lang/RuntimeException", "java/lang/Exception"]).filter goodWord ++ (vx_atS RX7 245 "java/lang/IndexOutOfBoundsException" ["java/lang/RuntimeException", "java/lang/Exception"]).filter goodWord)
def wsX7_isSeenLongEnough_r1 : List Cond := [Cond.fieldLink RX7 26 "PlanetoidDesk" "looks" "LPlanetoidDesk$Looks;", Cond.fieldLink RX7 10 "PlanetoidDesk" "sky" "LPlanetoidDesk$Sky;", Cond.methodLink RX7 288 Lib.Math.min.name, Cond.static Lib.Math.min.name, Cond.initialized "java/lang/Math", Cond.code Lib.Math.min.name Lib.Math.min.code 2 (some .int), Cond.methodLink RX7 293 Lib.Math.max.name, Cond.static Lib.Math.max.name, Cond.code Lib.Math.max.name Lib.Math.max.code 2 (some .int), Cond.methodLink RX7 191 yX7_gatherLooks, Cond.instanceMethod yX7_gatherLooks, Cond.selects RX7 yX7_gatherLooks yX7_gatherLooks, Cond.initialized RX7, Cond.code yX7_gatherLooks cX7_gatherLooks 3 none, Cond.fieldLink RX7 19 "PlanetoidDesk" "bodies" "LPlanetoidDesk$Bodies;", Cond.methodLink RX7 248 yX0_isLook, Cond.instanceMethod yX0_isLook, Cond.selects RX0 yX0_isLook yX0_isLook, Cond.initialized RX0, Cond.code yX0_isLook cX0_isLook 5 (some .boolean), Cond.fieldLink RX0 14 "PlanetoidDesk$Bodies" "owners" "LPlanetoidDesk$Row;", Cond.fieldLink RX0 20 "PlanetoidDesk$Bodies" "hosts" "LPlanetoidDesk$Row;", Cond.methodLink RX0 46 yX5_at, Cond.instanceMethod yX5_at]
def wsX7_isSeenLongEnough_r2 : List Cond := [Cond.selects RX5 yX5_at yX5_at, Cond.initialized RX5, Cond.code yX5_at cX5_at 2 (some .int), Cond.fieldLink RX5 7 "PlanetoidDesk$Row" "cells" "[I", Cond.methodLink RX7 251 yX2_add, Cond.instanceMethod yX2_add, Cond.selects RX2 yX2_add yX2_add, Cond.initialized RX2, Cond.code yX2_add cX2_add 2 none, Cond.fieldLink RX2 14 "PlanetoidDesk$Looks" "dots" "LPlanetoidDesk$Row;", Cond.fieldLink RX2 20 "PlanetoidDesk$Looks" "count" "I", Cond.methodLink RX2 24 yX5_put, Cond.instanceMethod yX5_put, Cond.selects RX5 yX5_put yX5_put, Cond.code yX5_put cX5_put 3 none, Cond.methodLink RX7 254 yX2_dotAt, Cond.instanceMethod yX2_dotAt, Cond.selects RX2 yX2_dotAt yX2_dotAt, Cond.code yX2_dotAt cX2_dotAt 2 (some .int), Cond.methodLink RX2 28 yX5_at, Cond.methodLink RX7 95 yX6_nightOf, Cond.instanceMethod yX6_nightOf, Cond.selects RX6 yX6_nightOf yX6_nightOf, Cond.initialized RX6]
def wsX7_isSeenLongEnough_r3 : List Cond := [Cond.code yX6_nightOf cX6_nightOf 2 (some .int), Cond.fieldLink RX6 23 "PlanetoidDesk$Sky" "plateNights" "LPlanetoidDesk$Row;", Cond.fieldLink RX6 26 "PlanetoidDesk$Sky" "dotPlates" "LPlanetoidDesk$Row;", Cond.methodLink RX6 52 yX5_at]
def wsX7_isSeenLongEnough : List Cond := .code yX7_isSeenLongEnough cX7_isSeenLongEnough 7 (some .boolean) :: ((wsX7_isSeenLongEnough_r1 ++ (wsX7_isSeenLongEnough_r2 ++ wsX7_isSeenLongEnough_r3)) ++ wsX70 ++ wsX20 ++ wsX60 ++ wsX00 ++ wsX50)
def wsX7_canGetNumber_r1 : List Cond := [Cond.fieldLink RX7 19 "PlanetoidDesk" "bodies" "LPlanetoidDesk$Bodies;", Cond.fieldLink RX7 33 "PlanetoidDesk" "fitting" "LPlanetoidDesk$Orbits;", Cond.methodLink RX7 272 yX0_isFree, Cond.instanceMethod yX0_isFree, Cond.selects RX0 yX0_isFree yX0_isFree, Cond.initialized RX0, Cond.code yX0_isFree cX0_isFree 2 (some .boolean), Cond.fieldLink RX0 20 "PlanetoidDesk$Bodies" "hosts" "LPlanetoidDesk$Row;", Cond.methodLink RX0 46 yX5_at, Cond.instanceMethod yX5_at, Cond.selects RX5 yX5_at yX5_at, Cond.initialized RX5, Cond.code yX5_at cX5_at 2 (some .int), Cond.fieldLink RX5 7 "PlanetoidDesk$Row" "cells" "[I", Cond.methodLink RX7 181 yX0_numberOf, Cond.instanceMethod yX0_numberOf, Cond.selects RX0 yX0_numberOf yX0_numberOf, Cond.code yX0_numberOf cX0_numberOf 2 (some .int), Cond.fieldLink RX0 26 "PlanetoidDesk$Bodies" "numbers" "LPlanetoidDesk$Row;", Cond.methodLink RX7 285 yX7_isSeenLongEnough, Cond.instanceMethod yX7_isSeenLongEnough, Cond.selects RX7 yX7_isSeenLongEnough yX7_isSeenLongEnough, Cond.initialized RX7, Cond.code yX7_isSeenLongEnough cX7_isSeenLongEnough 7 (some .boolean)]
def wsX7_canGetNumber_r2 : List Cond := [Cond.fieldLink RX7 26 "PlanetoidDesk" "looks" "LPlanetoidDesk$Looks;", Cond.fieldLink RX7 10 "PlanetoidDesk" "sky" "LPlanetoidDesk$Sky;", Cond.methodLink RX7 288 Lib.Math.min.name, Cond.static Lib.Math.min.name, Cond.initialized "java/lang/Math", Cond.code Lib.Math.min.name Lib.Math.min.code 2 (some .int), Cond.methodLink RX7 293 Lib.Math.max.name, Cond.static Lib.Math.max.name, Cond.code Lib.Math.max.name Lib.Math.max.code 2 (some .int), Cond.methodLink RX7 191 yX7_gatherLooks, Cond.instanceMethod yX7_gatherLooks, Cond.selects RX7 yX7_gatherLooks yX7_gatherLooks, Cond.code yX7_gatherLooks cX7_gatherLooks 3 none, Cond.methodLink RX7 248 yX0_isLook, Cond.instanceMethod yX0_isLook, Cond.selects RX0 yX0_isLook yX0_isLook, Cond.code yX0_isLook cX0_isLook 5 (some .boolean), Cond.fieldLink RX0 14 "PlanetoidDesk$Bodies" "owners" "LPlanetoidDesk$Row;", Cond.methodLink RX7 251 yX2_add, Cond.instanceMethod yX2_add, Cond.selects RX2 yX2_add yX2_add, Cond.initialized RX2, Cond.code yX2_add cX2_add 2 none, Cond.fieldLink RX2 14 "PlanetoidDesk$Looks" "dots" "LPlanetoidDesk$Row;"]
def wsX7_canGetNumber_r3 : List Cond := [Cond.fieldLink RX2 20 "PlanetoidDesk$Looks" "count" "I", Cond.methodLink RX2 24 yX5_put, Cond.instanceMethod yX5_put, Cond.selects RX5 yX5_put yX5_put, Cond.code yX5_put cX5_put 3 none, Cond.methodLink RX7 254 yX2_dotAt, Cond.instanceMethod yX2_dotAt, Cond.selects RX2 yX2_dotAt yX2_dotAt, Cond.code yX2_dotAt cX2_dotAt 2 (some .int), Cond.methodLink RX2 28 yX5_at, Cond.methodLink RX7 95 yX6_nightOf, Cond.instanceMethod yX6_nightOf, Cond.selects RX6 yX6_nightOf yX6_nightOf, Cond.initialized RX6, Cond.code yX6_nightOf cX6_nightOf 2 (some .int), Cond.fieldLink RX6 23 "PlanetoidDesk$Sky" "plateNights" "LPlanetoidDesk$Row;", Cond.fieldLink RX6 26 "PlanetoidDesk$Sky" "dotPlates" "LPlanetoidDesk$Row;", Cond.methodLink RX6 52 yX5_at, Cond.methodLink RX7 121 yX7_findOrbits, Cond.instanceMethod yX7_findOrbits, Cond.selects RX7 yX7_findOrbits yX7_findOrbits, Cond.code yX7_findOrbits cX7_findOrbits 2 none, Cond.methodLink RX7 257 yX3_takeAll, Cond.instanceMethod yX3_takeAll]
def wsX7_canGetNumber_r4 : List Cond := [Cond.selects RX3 yX3_takeAll yX3_takeAll, Cond.initialized RX3, Cond.code yX3_takeAll cX3_takeAll 1 none, Cond.fieldLink RX3 14 "PlanetoidDesk$Orbits" "starts" "LPlanetoidDesk$Row;", Cond.fieldLink RX3 20 "PlanetoidDesk$Orbits" "widths" "LPlanetoidDesk$Row;", Cond.methodLink RX3 26 yX5_fill, Cond.instanceMethod yX5_fill, Cond.selects RX5 yX5_fill yX5_fill, Cond.code yX5_fill cX5_fill 3 none, Cond.methodLink RX7 260 yX7_keepFitting, Cond.instanceMethod yX7_keepFitting, Cond.selects RX7 yX7_keepFitting yX7_keepFitting, Cond.code yX7_keepFitting cX7_keepFitting 4 none, Cond.methodLink RX7 98 yX6_truePlaceOf, Cond.instanceMethod yX6_truePlaceOf, Cond.selects RX6 yX6_truePlaceOf yX6_truePlaceOf, Cond.code yX6_truePlaceOf cX6_truePlaceOf 3 (some .int), Cond.fieldLink RX6 29 "PlanetoidDesk$Sky" "dotPlaces" "LPlanetoidDesk$Row;", Cond.fieldLink RX6 35 "PlanetoidDesk$Sky" "shifts" "LPlanetoidDesk$Row;", Cond.methodLink RX6 56 yJ9_floorMod_7cf53, Cond.static yJ9_floorMod_7cf53, Cond.initialized RJ9, Cond.code yJ9_floorMod_7cf53 cJ9_floorMod_7cf53 3 (some .int), Cond.methodLink RX7 263 yX6_errorOf]
def wsX7_canGetNumber_r5 : List Cond := [Cond.instanceMethod yX6_errorOf, Cond.selects RX6 yX6_errorOf yX6_errorOf, Cond.code yX6_errorOf cX6_errorOf 2 (some .int), Cond.fieldLink RX6 14 "PlanetoidDesk$Sky" "errors" "LPlanetoidDesk$Row;", Cond.fieldLink RX6 20 "PlanetoidDesk$Sky" "plateObservatories" "LPlanetoidDesk$Row;", Cond.methodLink RX7 266 yX3_keepNear, Cond.instanceMethod yX3_keepNear, Cond.selects RX3 yX3_keepNear yX3_keepNear, Cond.code yX3_keepNear cX3_keepNear 9 none, Cond.static yX7_drift, Cond.code yX7_drift cX7_drift 2 (some .int), Cond.methodLink RX7 197 yX7_bOf, Cond.static yX7_bOf, Cond.code yX7_bOf cX7_bOf 1 (some .int), Cond.methodLink RX7 200 yX7_cOf, Cond.static yX7_cOf, Cond.code yX7_cOf cX7_cOf 1 (some .int), Cond.methodLink RX3 33 yJ9_floorMod_7cf53, Cond.methodLink RX3 38 yX5_at, Cond.methodLink RX3 42 yX3_behind, Cond.instanceMethod yX3_behind, Cond.selects RX3 yX3_behind yX3_behind, Cond.code yX3_behind cX3_behind 3 (some .int), Cond.methodLink RX3 45 yX3_sharedWidth]
def wsX7_canGetNumber_r6 : List Cond := [Cond.static yX3_sharedWidth, Cond.code yX3_sharedWidth cX3_sharedWidth 4 (some .int), Cond.methodLink RX3 53 Lib.Math.min.name, Cond.methodLink RX3 56 Lib.Math.max.name, Cond.methodLink RX3 49 yX5_put, Cond.methodLink RX7 187 yX3_countOrbits, Cond.instanceMethod yX3_countOrbits, Cond.selects RX3 yX3_countOrbits yX3_countOrbits, Cond.code yX3_countOrbits cX3_countOrbits 3 (some .int)]
def wsX7_canGetNumber : List Cond := .code yX7_canGetNumber cX7_canGetNumber 2 (some .boolean) :: ((wsX7_canGetNumber_r1 ++ (wsX7_canGetNumber_r2 ++ (wsX7_canGetNumber_r3 ++ (wsX7_canGetNumber_r4 ++ (wsX7_canGetNumber_r5 ++ wsX7_canGetNumber_r6))))) ++ wsX70 ++ wsX00 ++ wsX50 ++ wsX20 ++ wsX60 ++ wsX30)
def wsX7_number_r1 : List Cond := [Cond.classLink RX7 59 "java/lang/IllegalStateException", Cond.initialized "java/lang/IllegalStateException", Cond.fieldLink RX7 19 "PlanetoidDesk" "bodies" "LPlanetoidDesk$Bodies;", Cond.fieldLink RX7 33 "PlanetoidDesk" "fitting" "LPlanetoidDesk$Orbits;", Cond.methodLink RX7 70 yX7_needOneOf, Cond.static yX7_needOneOf, Cond.initialized RX7, Cond.code yX7_needOneOf cX7_needOneOf 2 none, Cond.classLink RX7 241 "java/lang/IndexOutOfBoundsException", Cond.initialized "java/lang/IndexOutOfBoundsException", Cond.methodLink RX7 161 yX7_canGetNumber, Cond.instanceMethod yX7_canGetNumber, Cond.selects RX7 yX7_canGetNumber yX7_canGetNumber, Cond.code yX7_canGetNumber cX7_canGetNumber 2 (some .boolean), Cond.methodLink RX7 272 yX0_isFree, Cond.instanceMethod yX0_isFree, Cond.selects RX0 yX0_isFree yX0_isFree, Cond.initialized RX0, Cond.code yX0_isFree cX0_isFree 2 (some .boolean), Cond.fieldLink RX0 20 "PlanetoidDesk$Bodies" "hosts" "LPlanetoidDesk$Row;", Cond.methodLink RX0 46 yX5_at, Cond.instanceMethod yX5_at, Cond.selects RX5 yX5_at yX5_at, Cond.initialized RX5]
def wsX7_number_r2 : List Cond := [Cond.code yX5_at cX5_at 2 (some .int), Cond.fieldLink RX5 7 "PlanetoidDesk$Row" "cells" "[I", Cond.methodLink RX7 181 yX0_numberOf, Cond.instanceMethod yX0_numberOf, Cond.selects RX0 yX0_numberOf yX0_numberOf, Cond.code yX0_numberOf cX0_numberOf 2 (some .int), Cond.fieldLink RX0 26 "PlanetoidDesk$Bodies" "numbers" "LPlanetoidDesk$Row;", Cond.methodLink RX7 285 yX7_isSeenLongEnough, Cond.instanceMethod yX7_isSeenLongEnough, Cond.selects RX7 yX7_isSeenLongEnough yX7_isSeenLongEnough, Cond.code yX7_isSeenLongEnough cX7_isSeenLongEnough 7 (some .boolean), Cond.fieldLink RX7 26 "PlanetoidDesk" "looks" "LPlanetoidDesk$Looks;", Cond.fieldLink RX7 10 "PlanetoidDesk" "sky" "LPlanetoidDesk$Sky;", Cond.methodLink RX7 288 Lib.Math.min.name, Cond.static Lib.Math.min.name, Cond.initialized "java/lang/Math", Cond.code Lib.Math.min.name Lib.Math.min.code 2 (some .int), Cond.methodLink RX7 293 Lib.Math.max.name, Cond.static Lib.Math.max.name, Cond.code Lib.Math.max.name Lib.Math.max.code 2 (some .int), Cond.methodLink RX7 191 yX7_gatherLooks, Cond.instanceMethod yX7_gatherLooks, Cond.selects RX7 yX7_gatherLooks yX7_gatherLooks, Cond.code yX7_gatherLooks cX7_gatherLooks 3 none]
def wsX7_number_r3 : List Cond := [Cond.methodLink RX7 248 yX0_isLook, Cond.instanceMethod yX0_isLook, Cond.selects RX0 yX0_isLook yX0_isLook, Cond.code yX0_isLook cX0_isLook 5 (some .boolean), Cond.fieldLink RX0 14 "PlanetoidDesk$Bodies" "owners" "LPlanetoidDesk$Row;", Cond.methodLink RX7 251 yX2_add, Cond.instanceMethod yX2_add, Cond.selects RX2 yX2_add yX2_add, Cond.initialized RX2, Cond.code yX2_add cX2_add 2 none, Cond.fieldLink RX2 14 "PlanetoidDesk$Looks" "dots" "LPlanetoidDesk$Row;", Cond.fieldLink RX2 20 "PlanetoidDesk$Looks" "count" "I", Cond.methodLink RX2 24 yX5_put, Cond.instanceMethod yX5_put, Cond.selects RX5 yX5_put yX5_put, Cond.code yX5_put cX5_put 3 none, Cond.methodLink RX7 254 yX2_dotAt, Cond.instanceMethod yX2_dotAt, Cond.selects RX2 yX2_dotAt yX2_dotAt, Cond.code yX2_dotAt cX2_dotAt 2 (some .int), Cond.methodLink RX2 28 yX5_at, Cond.methodLink RX7 95 yX6_nightOf, Cond.instanceMethod yX6_nightOf, Cond.selects RX6 yX6_nightOf yX6_nightOf]
def wsX7_number_r4 : List Cond := [Cond.initialized RX6, Cond.code yX6_nightOf cX6_nightOf 2 (some .int), Cond.fieldLink RX6 23 "PlanetoidDesk$Sky" "plateNights" "LPlanetoidDesk$Row;", Cond.fieldLink RX6 26 "PlanetoidDesk$Sky" "dotPlates" "LPlanetoidDesk$Row;", Cond.methodLink RX6 52 yX5_at, Cond.methodLink RX7 121 yX7_findOrbits, Cond.instanceMethod yX7_findOrbits, Cond.selects RX7 yX7_findOrbits yX7_findOrbits, Cond.code yX7_findOrbits cX7_findOrbits 2 none, Cond.methodLink RX7 257 yX3_takeAll, Cond.instanceMethod yX3_takeAll, Cond.selects RX3 yX3_takeAll yX3_takeAll, Cond.initialized RX3, Cond.code yX3_takeAll cX3_takeAll 1 none, Cond.fieldLink RX3 14 "PlanetoidDesk$Orbits" "starts" "LPlanetoidDesk$Row;", Cond.fieldLink RX3 20 "PlanetoidDesk$Orbits" "widths" "LPlanetoidDesk$Row;", Cond.methodLink RX3 26 yX5_fill, Cond.instanceMethod yX5_fill, Cond.selects RX5 yX5_fill yX5_fill, Cond.code yX5_fill cX5_fill 3 none, Cond.methodLink RX7 260 yX7_keepFitting, Cond.instanceMethod yX7_keepFitting, Cond.selects RX7 yX7_keepFitting yX7_keepFitting, Cond.code yX7_keepFitting cX7_keepFitting 4 none]
def wsX7_number_r5 : List Cond := [Cond.methodLink RX7 98 yX6_truePlaceOf, Cond.instanceMethod yX6_truePlaceOf, Cond.selects RX6 yX6_truePlaceOf yX6_truePlaceOf, Cond.code yX6_truePlaceOf cX6_truePlaceOf 3 (some .int), Cond.fieldLink RX6 29 "PlanetoidDesk$Sky" "dotPlaces" "LPlanetoidDesk$Row;", Cond.fieldLink RX6 35 "PlanetoidDesk$Sky" "shifts" "LPlanetoidDesk$Row;", Cond.methodLink RX6 56 yJ9_floorMod_7cf53, Cond.static yJ9_floorMod_7cf53, Cond.initialized RJ9, Cond.code yJ9_floorMod_7cf53 cJ9_floorMod_7cf53 3 (some .int), Cond.methodLink RX7 263 yX6_errorOf, Cond.instanceMethod yX6_errorOf, Cond.selects RX6 yX6_errorOf yX6_errorOf, Cond.code yX6_errorOf cX6_errorOf 2 (some .int), Cond.fieldLink RX6 14 "PlanetoidDesk$Sky" "errors" "LPlanetoidDesk$Row;", Cond.fieldLink RX6 20 "PlanetoidDesk$Sky" "plateObservatories" "LPlanetoidDesk$Row;", Cond.methodLink RX7 266 yX3_keepNear, Cond.instanceMethod yX3_keepNear, Cond.selects RX3 yX3_keepNear yX3_keepNear, Cond.code yX3_keepNear cX3_keepNear 9 none, Cond.static yX7_drift, Cond.code yX7_drift cX7_drift 2 (some .int), Cond.methodLink RX7 197 yX7_bOf, Cond.static yX7_bOf]
def wsX7_number_r6 : List Cond := [Cond.code yX7_bOf cX7_bOf 1 (some .int), Cond.methodLink RX7 200 yX7_cOf, Cond.static yX7_cOf, Cond.code yX7_cOf cX7_cOf 1 (some .int), Cond.methodLink RX3 33 yJ9_floorMod_7cf53, Cond.methodLink RX3 38 yX5_at, Cond.methodLink RX3 42 yX3_behind, Cond.instanceMethod yX3_behind, Cond.selects RX3 yX3_behind yX3_behind, Cond.code yX3_behind cX3_behind 3 (some .int), Cond.methodLink RX3 45 yX3_sharedWidth, Cond.static yX3_sharedWidth, Cond.code yX3_sharedWidth cX3_sharedWidth 4 (some .int), Cond.methodLink RX3 53 Lib.Math.min.name, Cond.methodLink RX3 56 Lib.Math.max.name, Cond.methodLink RX3 49 yX5_put, Cond.methodLink RX7 187 yX3_countOrbits, Cond.instanceMethod yX3_countOrbits, Cond.selects RX3 yX3_countOrbits yX3_countOrbits, Cond.code yX3_countOrbits cX3_countOrbits 3 (some .int), Cond.methodLink RX7 166 yX3_orbitAt, Cond.instanceMethod yX3_orbitAt, Cond.selects RX3 yX3_orbitAt yX3_orbitAt, Cond.code yX3_orbitAt cX3_orbitAt 4 (some .int)]
def wsX7_number_r7 : List Cond := [Cond.fieldLink RX3 23 "PlanetoidDesk$Orbits" "tallies" "LPlanetoidDesk$Row;", Cond.methodLink RX3 59 yX3_tallyPlaces, Cond.instanceMethod yX3_tallyPlaces, Cond.selects RX3 yX3_tallyPlaces yX3_tallyPlaces, Cond.code yX3_tallyPlaces cX3_tallyPlaces 6 none, Cond.methodLink RX3 62 yX3_courseWith, Cond.instanceMethod yX3_courseWith, Cond.selects RX3 yX3_courseWith yX3_courseWith, Cond.code yX3_courseWith cX3_courseWith 5 (some .int), Cond.methodLink RX7 169 yX0_giveNumber, Cond.instanceMethod yX0_giveNumber, Cond.selects RX0 yX0_giveNumber yX0_giveNumber, Cond.code yX0_giveNumber cX0_giveNumber 3 (some .int), Cond.fieldLink RX0 53 "PlanetoidDesk$Bodies" "lastNumber" "I", Cond.fieldLink RX0 29 "PlanetoidDesk$Bodies" "properCourses" "LPlanetoidDesk$Row;", Cond.methodLink RX0 43 yX5_put]
def wsX7_number : List Cond := .code yX7_number cX7_number 2 (some .int) :: ((wsX7_number_r1 ++ (wsX7_number_r2 ++ (wsX7_number_r3 ++ (wsX7_number_r4 ++ (wsX7_number_r5 ++ (wsX7_number_r6 ++ wsX7_number_r7)))))) ++ wsX70 ++ wsX00 ++ wsX50 ++ wsX20 ++ wsX60 ++ wsX30 ++ (vx_atS RX7 63 "java/lang/IllegalStateException" ["java/lang/RuntimeException", "java/lang/Exception"]).filter goodWord ++ (vx_atS RX7 245 "java/lang/IndexOutOfBoundsException" ["java/lang/RuntimeException", "java/lang/Exception"]).filter goodWord)
def wsX7_ofBody_r1 : List Cond := [Cond.fieldLink RX7 19 "PlanetoidDesk" "bodies" "LPlanetoidDesk$Bodies;", Cond.fieldLink RX7 10 "PlanetoidDesk" "sky" "LPlanetoidDesk$Sky;", Cond.methodLink RX7 70 yX7_needOneOf, Cond.static yX7_needOneOf, Cond.initialized RX7, Cond.code yX7_needOneOf cX7_needOneOf 2 none, Cond.classLink RX7 241 "java/lang/IndexOutOfBoundsException", Cond.initialized "java/lang/IndexOutOfBoundsException", Cond.methodLink RX7 51 yX7_needWithin, Cond.static yX7_needWithin, Cond.code yX7_needWithin cX7_needWithin 3 none, Cond.classLink RX7 206 "java/lang/IllegalArgumentException", Cond.initialized "java/lang/IllegalArgumentException", Cond.methodLink RX7 134 yX7_countLooks, Cond.instanceMethod yX7_countLooks, Cond.selects RX7 yX7_countLooks yX7_countLooks, Cond.code yX7_countLooks cX7_countLooks 2 (some .int), Cond.fieldLink RX7 26 "PlanetoidDesk" "looks" "LPlanetoidDesk$Looks;", Cond.methodLink RX7 191 yX7_gatherLooks, Cond.instanceMethod yX7_gatherLooks, Cond.selects RX7 yX7_gatherLooks yX7_gatherLooks, Cond.code yX7_gatherLooks cX7_gatherLooks 3 none, Cond.methodLink RX7 248 yX0_isLook, Cond.instanceMethod yX0_isLook]
def wsX7_ofBody_r2 : List Cond := [Cond.selects RX0 yX0_isLook yX0_isLook, Cond.initialized RX0, Cond.code yX0_isLook cX0_isLook 5 (some .boolean), Cond.fieldLink RX0 14 "PlanetoidDesk$Bodies" "owners" "LPlanetoidDesk$Row;", Cond.fieldLink RX0 20 "PlanetoidDesk$Bodies" "hosts" "LPlanetoidDesk$Row;", Cond.methodLink RX0 46 yX5_at, Cond.instanceMethod yX5_at, Cond.selects RX5 yX5_at yX5_at, Cond.initialized RX5, Cond.code yX5_at cX5_at 2 (some .int), Cond.fieldLink RX5 7 "PlanetoidDesk$Row" "cells" "[I", Cond.methodLink RX7 251 yX2_add, Cond.instanceMethod yX2_add, Cond.selects RX2 yX2_add yX2_add, Cond.initialized RX2, Cond.code yX2_add cX2_add 2 none, Cond.fieldLink RX2 14 "PlanetoidDesk$Looks" "dots" "LPlanetoidDesk$Row;", Cond.fieldLink RX2 20 "PlanetoidDesk$Looks" "count" "I", Cond.methodLink RX2 24 yX5_put, Cond.instanceMethod yX5_put, Cond.selects RX5 yX5_put yX5_put, Cond.code yX5_put cX5_put 3 none, Cond.methodLink RX7 137 yX0_countOwnDots, Cond.instanceMethod yX0_countOwnDots]
def wsX7_ofBody_r3 : List Cond := [Cond.selects RX0 yX0_countOwnDots yX0_countOwnDots, Cond.code yX0_countOwnDots cX0_countOwnDots 4 (some .int), Cond.methodLink RX7 172 yX0_hostOf, Cond.instanceMethod yX0_hostOf, Cond.selects RX0 yX0_hostOf yX0_hostOf, Cond.code yX0_hostOf cX0_hostOf 2 (some .int), Cond.methodLink RX7 175 yX7_firstLookOf, Cond.instanceMethod yX7_firstLookOf, Cond.selects RX7 yX7_firstLookOf yX7_firstLookOf, Cond.code yX7_firstLookOf cX7_firstLookOf 4 (some .int), Cond.methodLink RX7 254 yX2_dotAt, Cond.instanceMethod yX2_dotAt, Cond.selects RX2 yX2_dotAt yX2_dotAt, Cond.code yX2_dotAt cX2_dotAt 2 (some .int), Cond.methodLink RX2 28 yX5_at, Cond.methodLink RX7 95 yX6_nightOf, Cond.instanceMethod yX6_nightOf, Cond.selects RX6 yX6_nightOf yX6_nightOf, Cond.initialized RX6, Cond.code yX6_nightOf cX6_nightOf 2 (some .int), Cond.fieldLink RX6 23 "PlanetoidDesk$Sky" "plateNights" "LPlanetoidDesk$Row;", Cond.fieldLink RX6 26 "PlanetoidDesk$Sky" "dotPlates" "LPlanetoidDesk$Row;", Cond.methodLink RX6 52 yX5_at, Cond.methodLink RX7 178 yX6_observatoryOf]
def wsX7_ofBody_r4 : List Cond := [Cond.instanceMethod yX6_observatoryOf, Cond.selects RX6 yX6_observatoryOf yX6_observatoryOf, Cond.code yX6_observatoryOf cX6_observatoryOf 2 (some .int), Cond.fieldLink RX6 20 "PlanetoidDesk$Sky" "plateObservatories" "LPlanetoidDesk$Row;", Cond.methodLink RX7 181 yX0_numberOf, Cond.instanceMethod yX0_numberOf, Cond.selects RX0 yX0_numberOf yX0_numberOf, Cond.code yX0_numberOf cX0_numberOf 2 (some .int), Cond.fieldLink RX0 26 "PlanetoidDesk$Bodies" "numbers" "LPlanetoidDesk$Row;", Cond.methodLink RX7 184 yX0_countJoinedTo, Cond.instanceMethod yX0_countJoinedTo, Cond.selects RX0 yX0_countJoinedTo yX0_countJoinedTo, Cond.code yX0_countJoinedTo cX0_countJoinedTo 4 (some .int), Cond.fieldLink RX0 35 "PlanetoidDesk$Bodies" "count" "I"]
def wsX7_ofBody : List Cond := .code yX7_ofBody cX7_ofBody 3 (some .int) :: ((wsX7_ofBody_r1 ++ (wsX7_ofBody_r2 ++ (wsX7_ofBody_r3 ++ wsX7_ofBody_r4))) ++ wsX70 ++ wsX00 ++ wsX20 ++ wsX60 ++ wsX50 ++ (vx_atS RX7 245 "java/lang/IndexOutOfBoundsException" ["java/lang/RuntimeException", "java/lang/Exception"]).filter goodWord ++ (vx_atS RX7 210 "java/lang/IllegalArgumentException" ["java/lang/RuntimeException", "java/lang/Exception"]).filter goodWord)
def wsX7_orbits_r1 : List Cond := [Cond.fieldLink RX7 19 "PlanetoidDesk" "bodies" "LPlanetoidDesk$Bodies;", Cond.fieldLink RX7 33 "PlanetoidDesk" "fitting" "LPlanetoidDesk$Orbits;", Cond.methodLink RX7 70 yX7_needOneOf, Cond.static yX7_needOneOf, Cond.initialized RX7, Cond.code yX7_needOneOf cX7_needOneOf 2 none, Cond.classLink RX7 241 "java/lang/IndexOutOfBoundsException", Cond.initialized "java/lang/IndexOutOfBoundsException", Cond.methodLink RX7 121 yX7_findOrbits, Cond.instanceMethod yX7_findOrbits, Cond.selects RX7 yX7_findOrbits yX7_findOrbits, Cond.code yX7_findOrbits cX7_findOrbits 2 none, Cond.methodLink RX7 257 yX3_takeAll, Cond.instanceMethod yX3_takeAll, Cond.selects RX3 yX3_takeAll yX3_takeAll, Cond.initialized RX3, Cond.code yX3_takeAll cX3_takeAll 1 none, Cond.fieldLink RX3 14 "PlanetoidDesk$Orbits" "starts" "LPlanetoidDesk$Row;", Cond.fieldLink RX3 20 "PlanetoidDesk$Orbits" "widths" "LPlanetoidDesk$Row;", Cond.methodLink RX3 26 yX5_fill, Cond.instanceMethod yX5_fill, Cond.selects RX5 yX5_fill yX5_fill, Cond.initialized RX5, Cond.code yX5_fill cX5_fill 3 none]
def wsX7_orbits_r2 : List Cond := [Cond.fieldLink RX5 7 "PlanetoidDesk$Row" "cells" "[I", Cond.methodLink RX7 260 yX7_keepFitting, Cond.instanceMethod yX7_keepFitting, Cond.selects RX7 yX7_keepFitting yX7_keepFitting, Cond.code yX7_keepFitting cX7_keepFitting 4 none, Cond.fieldLink RX7 26 "PlanetoidDesk" "looks" "LPlanetoidDesk$Looks;", Cond.fieldLink RX7 10 "PlanetoidDesk" "sky" "LPlanetoidDesk$Sky;", Cond.methodLink RX7 191 yX7_gatherLooks, Cond.instanceMethod yX7_gatherLooks, Cond.selects RX7 yX7_gatherLooks yX7_gatherLooks, Cond.code yX7_gatherLooks cX7_gatherLooks 3 none, Cond.methodLink RX7 248 yX0_isLook, Cond.instanceMethod yX0_isLook, Cond.selects RX0 yX0_isLook yX0_isLook, Cond.initialized RX0, Cond.code yX0_isLook cX0_isLook 5 (some .boolean), Cond.fieldLink RX0 14 "PlanetoidDesk$Bodies" "owners" "LPlanetoidDesk$Row;", Cond.fieldLink RX0 20 "PlanetoidDesk$Bodies" "hosts" "LPlanetoidDesk$Row;", Cond.methodLink RX0 46 yX5_at, Cond.instanceMethod yX5_at, Cond.selects RX5 yX5_at yX5_at, Cond.code yX5_at cX5_at 2 (some .int), Cond.methodLink RX7 251 yX2_add, Cond.instanceMethod yX2_add]
def wsX7_orbits_r3 : List Cond := [Cond.selects RX2 yX2_add yX2_add, Cond.initialized RX2, Cond.code yX2_add cX2_add 2 none, Cond.fieldLink RX2 14 "PlanetoidDesk$Looks" "dots" "LPlanetoidDesk$Row;", Cond.fieldLink RX2 20 "PlanetoidDesk$Looks" "count" "I", Cond.methodLink RX2 24 yX5_put, Cond.instanceMethod yX5_put, Cond.selects RX5 yX5_put yX5_put, Cond.code yX5_put cX5_put 3 none, Cond.methodLink RX7 254 yX2_dotAt, Cond.instanceMethod yX2_dotAt, Cond.selects RX2 yX2_dotAt yX2_dotAt, Cond.code yX2_dotAt cX2_dotAt 2 (some .int), Cond.methodLink RX2 28 yX5_at, Cond.methodLink RX7 95 yX6_nightOf, Cond.instanceMethod yX6_nightOf, Cond.selects RX6 yX6_nightOf yX6_nightOf, Cond.initialized RX6, Cond.code yX6_nightOf cX6_nightOf 2 (some .int), Cond.fieldLink RX6 23 "PlanetoidDesk$Sky" "plateNights" "LPlanetoidDesk$Row;", Cond.fieldLink RX6 26 "PlanetoidDesk$Sky" "dotPlates" "LPlanetoidDesk$Row;", Cond.methodLink RX6 52 yX5_at, Cond.methodLink RX7 98 yX6_truePlaceOf, Cond.instanceMethod yX6_truePlaceOf]
def wsX7_orbits_r4 : List Cond := [Cond.selects RX6 yX6_truePlaceOf yX6_truePlaceOf, Cond.code yX6_truePlaceOf cX6_truePlaceOf 3 (some .int), Cond.fieldLink RX6 29 "PlanetoidDesk$Sky" "dotPlaces" "LPlanetoidDesk$Row;", Cond.fieldLink RX6 35 "PlanetoidDesk$Sky" "shifts" "LPlanetoidDesk$Row;", Cond.methodLink RX6 56 yJ9_floorMod_7cf53, Cond.static yJ9_floorMod_7cf53, Cond.initialized RJ9, Cond.code yJ9_floorMod_7cf53 cJ9_floorMod_7cf53 3 (some .int), Cond.methodLink RX7 263 yX6_errorOf, Cond.instanceMethod yX6_errorOf, Cond.selects RX6 yX6_errorOf yX6_errorOf, Cond.code yX6_errorOf cX6_errorOf 2 (some .int), Cond.fieldLink RX6 14 "PlanetoidDesk$Sky" "errors" "LPlanetoidDesk$Row;", Cond.fieldLink RX6 20 "PlanetoidDesk$Sky" "plateObservatories" "LPlanetoidDesk$Row;", Cond.methodLink RX7 266 yX3_keepNear, Cond.instanceMethod yX3_keepNear, Cond.selects RX3 yX3_keepNear yX3_keepNear, Cond.code yX3_keepNear cX3_keepNear 9 none, Cond.static yX7_drift, Cond.code yX7_drift cX7_drift 2 (some .int), Cond.methodLink RX7 197 yX7_bOf, Cond.static yX7_bOf, Cond.code yX7_bOf cX7_bOf 1 (some .int), Cond.methodLink RX7 200 yX7_cOf]
def wsX7_orbits_r5 : List Cond := [Cond.static yX7_cOf, Cond.code yX7_cOf cX7_cOf 1 (some .int), Cond.methodLink RX3 33 yJ9_floorMod_7cf53, Cond.methodLink RX3 38 yX5_at, Cond.methodLink RX3 42 yX3_behind, Cond.instanceMethod yX3_behind, Cond.selects RX3 yX3_behind yX3_behind, Cond.code yX3_behind cX3_behind 3 (some .int), Cond.methodLink RX3 45 yX3_sharedWidth, Cond.static yX3_sharedWidth, Cond.code yX3_sharedWidth cX3_sharedWidth 4 (some .int), Cond.methodLink RX3 53 Lib.Math.min.name, Cond.static Lib.Math.min.name, Cond.initialized "java/lang/Math", Cond.code Lib.Math.min.name Lib.Math.min.code 2 (some .int), Cond.methodLink RX3 56 Lib.Math.max.name, Cond.static Lib.Math.max.name, Cond.code Lib.Math.max.name Lib.Math.max.code 2 (some .int), Cond.methodLink RX3 49 yX5_put, Cond.methodLink RX7 187 yX3_countOrbits, Cond.instanceMethod yX3_countOrbits, Cond.selects RX3 yX3_countOrbits yX3_countOrbits, Cond.code yX3_countOrbits cX3_countOrbits 3 (some .int)]
def wsX7_orbits : List Cond := .code yX7_orbits cX7_orbits 2 (some .int) :: ((wsX7_orbits_r1 ++ (wsX7_orbits_r2 ++ (wsX7_orbits_r3 ++ (wsX7_orbits_r4 ++ wsX7_orbits_r5)))) ++ wsX70 ++ wsX00 ++ wsX30 ++ wsX50 ++ wsX20 ++ wsX60 ++ (vx_atS RX7 245 "java/lang/IndexOutOfBoundsException" ["java/lang/RuntimeException", "java/lang/Exception"]).filter goodWord)
def wsX7_leastAOf_r1 : List Cond := [Cond.fieldLink RX7 10 "PlanetoidDesk" "sky" "LPlanetoidDesk$Sky;", Cond.methodLink RX7 98 yX6_truePlaceOf, Cond.instanceMethod yX6_truePlaceOf, Cond.selects RX6 yX6_truePlaceOf yX6_truePlaceOf, Cond.initialized RX6, Cond.code yX6_truePlaceOf cX6_truePlaceOf 3 (some .int), Cond.fieldLink RX6 29 "PlanetoidDesk$Sky" "dotPlaces" "LPlanetoidDesk$Row;", Cond.fieldLink RX6 35 "PlanetoidDesk$Sky" "shifts" "LPlanetoidDesk$Row;", Cond.methodLink RX6 52 yX5_at, Cond.instanceMethod yX5_at, Cond.selects RX5 yX5_at yX5_at, Cond.initialized RX5, Cond.code yX5_at cX5_at 2 (some .int), Cond.fieldLink RX5 7 "PlanetoidDesk$Row" "cells" "[I", Cond.methodLink RX6 56 yJ9_floorMod_7cf53, Cond.static yJ9_floorMod_7cf53, Cond.initialized RJ9, Cond.code yJ9_floorMod_7cf53 cJ9_floorMod_7cf53 3 (some .int), Cond.methodLink RX7 263 yX6_errorOf, Cond.instanceMethod yX6_errorOf, Cond.selects RX6 yX6_errorOf yX6_errorOf, Cond.code yX6_errorOf cX6_errorOf 2 (some .int), Cond.fieldLink RX6 14 "PlanetoidDesk$Sky" "errors" "LPlanetoidDesk$Row;", Cond.fieldLink RX6 20 "PlanetoidDesk$Sky" "plateObservatories" "LPlanetoidDesk$Row;"]
def wsX7_leastAOf_r2 : List Cond := [Cond.fieldLink RX6 26 "PlanetoidDesk$Sky" "dotPlates" "LPlanetoidDesk$Row;", Cond.methodLink RX7 95 yX6_nightOf, Cond.instanceMethod yX6_nightOf, Cond.selects RX6 yX6_nightOf yX6_nightOf, Cond.code yX6_nightOf cX6_nightOf 2 (some .int), Cond.fieldLink RX6 23 "PlanetoidDesk$Sky" "plateNights" "LPlanetoidDesk$Row;", Cond.methodLink RX7 314 yX7_drift, Cond.static yX7_drift, Cond.initialized RX7, Cond.code yX7_drift cX7_drift 2 (some .int), Cond.methodLink RX7 197 yX7_bOf, Cond.static yX7_bOf, Cond.code yX7_bOf cX7_bOf 1 (some .int), Cond.methodLink RX7 200 yX7_cOf, Cond.static yX7_cOf, Cond.code yX7_cOf cX7_cOf 1 (some .int), Cond.methodLink RX7 301 yJ9_floorMod_7cf53]
def wsX7_leastAOf : List Cond := .code yX7_leastAOf cX7_leastAOf 4 (some .int) :: ((wsX7_leastAOf_r1 ++ wsX7_leastAOf_r2) ++ wsX70 ++ wsX60 ++ wsX50)
def wsJ13_bitCount_95d88 : List Cond := .code yJ13_bitCount_95d88 cJ13_bitCount_95d88 2 (some .int) :: ([.constantLong RJ13 314 (6148914691236517205), .constantLong RJ13 316 (3689348814741910323), .constantLong RJ13 318 (1085102592571150095)])
def wsX7_countPlacesLeft_r1 : List Cond := [Cond.fieldLink RX7 26 "PlanetoidDesk" "looks" "LPlanetoidDesk$Looks;", Cond.constantLong RX7 299 (-1), Cond.fieldLink RX7 10 "PlanetoidDesk" "sky" "LPlanetoidDesk$Sky;", Cond.methodLink RX7 254 yX2_dotAt, Cond.instanceMethod yX2_dotAt, Cond.selects RX2 yX2_dotAt yX2_dotAt, Cond.initialized RX2, Cond.code yX2_dotAt cX2_dotAt 2 (some .int), Cond.fieldLink RX2 14 "PlanetoidDesk$Looks" "dots" "LPlanetoidDesk$Row;", Cond.methodLink RX2 28 yX5_at, Cond.instanceMethod yX5_at, Cond.selects RX5 yX5_at yX5_at, Cond.initialized RX5, Cond.code yX5_at cX5_at 2 (some .int), Cond.fieldLink RX5 7 "PlanetoidDesk$Row" "cells" "[I", Cond.methodLink RX7 296 yX7_leastAOf, Cond.instanceMethod yX7_leastAOf, Cond.selects RX7 yX7_leastAOf yX7_leastAOf, Cond.initialized RX7, Cond.code yX7_leastAOf cX7_leastAOf 4 (some .int), Cond.methodLink RX7 98 yX6_truePlaceOf, Cond.instanceMethod yX6_truePlaceOf, Cond.selects RX6 yX6_truePlaceOf yX6_truePlaceOf, Cond.initialized RX6]
def wsX7_countPlacesLeft_r2 : List Cond := [Cond.code yX6_truePlaceOf cX6_truePlaceOf 3 (some .int), Cond.fieldLink RX6 29 "PlanetoidDesk$Sky" "dotPlaces" "LPlanetoidDesk$Row;", Cond.fieldLink RX6 35 "PlanetoidDesk$Sky" "shifts" "LPlanetoidDesk$Row;", Cond.methodLink RX6 52 yX5_at, Cond.methodLink RX6 56 yJ9_floorMod_7cf53, Cond.static yJ9_floorMod_7cf53, Cond.initialized RJ9, Cond.code yJ9_floorMod_7cf53 cJ9_floorMod_7cf53 3 (some .int), Cond.methodLink RX7 263 yX6_errorOf, Cond.instanceMethod yX6_errorOf, Cond.selects RX6 yX6_errorOf yX6_errorOf, Cond.code yX6_errorOf cX6_errorOf 2 (some .int), Cond.fieldLink RX6 14 "PlanetoidDesk$Sky" "errors" "LPlanetoidDesk$Row;", Cond.fieldLink RX6 20 "PlanetoidDesk$Sky" "plateObservatories" "LPlanetoidDesk$Row;", Cond.fieldLink RX6 26 "PlanetoidDesk$Sky" "dotPlates" "LPlanetoidDesk$Row;", Cond.methodLink RX7 95 yX6_nightOf, Cond.instanceMethod yX6_nightOf, Cond.selects RX6 yX6_nightOf yX6_nightOf, Cond.code yX6_nightOf cX6_nightOf 2 (some .int), Cond.fieldLink RX6 23 "PlanetoidDesk$Sky" "plateNights" "LPlanetoidDesk$Row;", Cond.methodLink RX7 314 yX7_drift, Cond.static yX7_drift, Cond.code yX7_drift cX7_drift 2 (some .int), Cond.methodLink RX7 197 yX7_bOf]
def wsX7_countPlacesLeft_r3 : List Cond := [Cond.static yX7_bOf, Cond.code yX7_bOf cX7_bOf 1 (some .int), Cond.methodLink RX7 200 yX7_cOf, Cond.static yX7_cOf, Cond.code yX7_cOf cX7_cOf 1 (some .int), Cond.methodLink RX7 301 yJ9_floorMod_7cf53, Cond.methodLink RX7 304 yX7_stretch, Cond.static yX7_stretch, Cond.code yX7_stretch cX7_stretch 5 (some .long), Cond.methodLink RX7 308 yJ13_bitCount_95d88, Cond.static yJ13_bitCount_95d88, Cond.initialized RJ13, Cond.code yJ13_bitCount_95d88 cJ13_bitCount_95d88 2 (some .int), Cond.constantLong RJ13 314 (6148914691236517205), Cond.constantLong RJ13 316 (3689348814741910323), Cond.constantLong RJ13 318 (1085102592571150095)]
def wsX7_countPlacesLeft : List Cond := .code yX7_countPlacesLeft cX7_countPlacesLeft 8 (some .int) :: ((wsX7_countPlacesLeft_r1 ++ (wsX7_countPlacesLeft_r2 ++ wsX7_countPlacesLeft_r3)) ++ wsX70 ++ wsX20 ++ wsX50 ++ wsX60)
def wsX7_orbitsAnew_r1 : List Cond := [Cond.fieldLink RX7 19 "PlanetoidDesk" "bodies" "LPlanetoidDesk$Bodies;", Cond.methodLink RX7 70 yX7_needOneOf, Cond.static yX7_needOneOf, Cond.initialized RX7, Cond.code yX7_needOneOf cX7_needOneOf 2 none, Cond.classLink RX7 241 "java/lang/IndexOutOfBoundsException", Cond.initialized "java/lang/IndexOutOfBoundsException", Cond.methodLink RX7 191 yX7_gatherLooks, Cond.instanceMethod yX7_gatherLooks, Cond.selects RX7 yX7_gatherLooks yX7_gatherLooks, Cond.code yX7_gatherLooks cX7_gatherLooks 3 none, Cond.fieldLink RX7 26 "PlanetoidDesk" "looks" "LPlanetoidDesk$Looks;", Cond.fieldLink RX7 10 "PlanetoidDesk" "sky" "LPlanetoidDesk$Sky;", Cond.methodLink RX7 248 yX0_isLook, Cond.instanceMethod yX0_isLook, Cond.selects RX0 yX0_isLook yX0_isLook, Cond.initialized RX0, Cond.code yX0_isLook cX0_isLook 5 (some .boolean), Cond.fieldLink RX0 14 "PlanetoidDesk$Bodies" "owners" "LPlanetoidDesk$Row;", Cond.fieldLink RX0 20 "PlanetoidDesk$Bodies" "hosts" "LPlanetoidDesk$Row;", Cond.methodLink RX0 46 yX5_at, Cond.instanceMethod yX5_at, Cond.selects RX5 yX5_at yX5_at, Cond.initialized RX5]
def wsX7_orbitsAnew_r2 : List Cond := [Cond.code yX5_at cX5_at 2 (some .int), Cond.fieldLink RX5 7 "PlanetoidDesk$Row" "cells" "[I", Cond.methodLink RX7 251 yX2_add, Cond.instanceMethod yX2_add, Cond.selects RX2 yX2_add yX2_add, Cond.initialized RX2, Cond.code yX2_add cX2_add 2 none, Cond.fieldLink RX2 14 "PlanetoidDesk$Looks" "dots" "LPlanetoidDesk$Row;", Cond.fieldLink RX2 20 "PlanetoidDesk$Looks" "count" "I", Cond.methodLink RX2 24 yX5_put, Cond.instanceMethod yX5_put, Cond.selects RX5 yX5_put yX5_put, Cond.code yX5_put cX5_put 3 none, Cond.methodLink RX7 194 yX7_countPlacesLeft, Cond.instanceMethod yX7_countPlacesLeft, Cond.selects RX7 yX7_countPlacesLeft yX7_countPlacesLeft, Cond.code yX7_countPlacesLeft cX7_countPlacesLeft 8 (some .int), Cond.constantLong RX7 299 (-1), Cond.methodLink RX7 254 yX2_dotAt, Cond.instanceMethod yX2_dotAt, Cond.selects RX2 yX2_dotAt yX2_dotAt, Cond.code yX2_dotAt cX2_dotAt 2 (some .int), Cond.methodLink RX2 28 yX5_at, Cond.methodLink RX7 296 yX7_leastAOf]
def wsX7_orbitsAnew_r3 : List Cond := [Cond.instanceMethod yX7_leastAOf, Cond.selects RX7 yX7_leastAOf yX7_leastAOf, Cond.code yX7_leastAOf cX7_leastAOf 4 (some .int), Cond.methodLink RX7 98 yX6_truePlaceOf, Cond.instanceMethod yX6_truePlaceOf, Cond.selects RX6 yX6_truePlaceOf yX6_truePlaceOf, Cond.initialized RX6, Cond.code yX6_truePlaceOf cX6_truePlaceOf 3 (some .int), Cond.fieldLink RX6 29 "PlanetoidDesk$Sky" "dotPlaces" "LPlanetoidDesk$Row;", Cond.fieldLink RX6 35 "PlanetoidDesk$Sky" "shifts" "LPlanetoidDesk$Row;", Cond.methodLink RX6 52 yX5_at, Cond.methodLink RX6 56 yJ9_floorMod_7cf53, Cond.static yJ9_floorMod_7cf53, Cond.initialized RJ9, Cond.code yJ9_floorMod_7cf53 cJ9_floorMod_7cf53 3 (some .int), Cond.methodLink RX7 263 yX6_errorOf, Cond.instanceMethod yX6_errorOf, Cond.selects RX6 yX6_errorOf yX6_errorOf, Cond.code yX6_errorOf cX6_errorOf 2 (some .int), Cond.fieldLink RX6 14 "PlanetoidDesk$Sky" "errors" "LPlanetoidDesk$Row;", Cond.fieldLink RX6 20 "PlanetoidDesk$Sky" "plateObservatories" "LPlanetoidDesk$Row;", Cond.fieldLink RX6 26 "PlanetoidDesk$Sky" "dotPlates" "LPlanetoidDesk$Row;", Cond.methodLink RX7 95 yX6_nightOf, Cond.instanceMethod yX6_nightOf]
def wsX7_orbitsAnew_r4 : List Cond := [Cond.selects RX6 yX6_nightOf yX6_nightOf, Cond.code yX6_nightOf cX6_nightOf 2 (some .int), Cond.fieldLink RX6 23 "PlanetoidDesk$Sky" "plateNights" "LPlanetoidDesk$Row;", Cond.methodLink RX7 314 yX7_drift, Cond.static yX7_drift, Cond.code yX7_drift cX7_drift 2 (some .int), Cond.methodLink RX7 197 yX7_bOf, Cond.static yX7_bOf, Cond.code yX7_bOf cX7_bOf 1 (some .int), Cond.methodLink RX7 200 yX7_cOf, Cond.static yX7_cOf, Cond.code yX7_cOf cX7_cOf 1 (some .int), Cond.methodLink RX7 301 yJ9_floorMod_7cf53, Cond.methodLink RX7 304 yX7_stretch, Cond.static yX7_stretch, Cond.code yX7_stretch cX7_stretch 5 (some .long), Cond.methodLink RX7 308 yJ13_bitCount_95d88, Cond.static yJ13_bitCount_95d88, Cond.initialized RJ13, Cond.code yJ13_bitCount_95d88 cJ13_bitCount_95d88 2 (some .int), Cond.constantLong RJ13 314 (6148914691236517205), Cond.constantLong RJ13 316 (3689348814741910323), Cond.constantLong RJ13 318 (1085102592571150095)]
def wsX7_orbitsAnew : List Cond := .code yX7_orbitsAnew cX7_orbitsAnew 4 (some .int) :: ((wsX7_orbitsAnew_r1 ++ (wsX7_orbitsAnew_r2 ++ (wsX7_orbitsAnew_r3 ++ wsX7_orbitsAnew_r4))) ++ wsX70 ++ wsX00 ++ wsX20 ++ wsX60 ++ wsX50 ++ (vx_atS RX7 245 "java/lang/IndexOutOfBoundsException" ["java/lang/RuntimeException", "java/lang/Exception"]).filter goodWord)
def wsX7_orbit_r1 : List Cond := [Cond.fieldLink RX7 19 "PlanetoidDesk" "bodies" "LPlanetoidDesk$Bodies;", Cond.fieldLink RX7 33 "PlanetoidDesk" "fitting" "LPlanetoidDesk$Orbits;", Cond.methodLink RX7 70 yX7_needOneOf, Cond.static yX7_needOneOf, Cond.initialized RX7, Cond.code yX7_needOneOf cX7_needOneOf 2 none, Cond.classLink RX7 241 "java/lang/IndexOutOfBoundsException", Cond.initialized "java/lang/IndexOutOfBoundsException", Cond.methodLink RX7 121 yX7_findOrbits, Cond.instanceMethod yX7_findOrbits, Cond.selects RX7 yX7_findOrbits yX7_findOrbits, Cond.code yX7_findOrbits cX7_findOrbits 2 none, Cond.methodLink RX7 257 yX3_takeAll, Cond.instanceMethod yX3_takeAll, Cond.selects RX3 yX3_takeAll yX3_takeAll, Cond.initialized RX3, Cond.code yX3_takeAll cX3_takeAll 1 none, Cond.fieldLink RX3 14 "PlanetoidDesk$Orbits" "starts" "LPlanetoidDesk$Row;", Cond.fieldLink RX3 20 "PlanetoidDesk$Orbits" "widths" "LPlanetoidDesk$Row;", Cond.methodLink RX3 26 yX5_fill, Cond.instanceMethod yX5_fill, Cond.selects RX5 yX5_fill yX5_fill, Cond.initialized RX5, Cond.code yX5_fill cX5_fill 3 none]
def wsX7_orbit_r2 : List Cond := [Cond.fieldLink RX5 7 "PlanetoidDesk$Row" "cells" "[I", Cond.methodLink RX7 260 yX7_keepFitting, Cond.instanceMethod yX7_keepFitting, Cond.selects RX7 yX7_keepFitting yX7_keepFitting, Cond.code yX7_keepFitting cX7_keepFitting 4 none, Cond.fieldLink RX7 26 "PlanetoidDesk" "looks" "LPlanetoidDesk$Looks;", Cond.fieldLink RX7 10 "PlanetoidDesk" "sky" "LPlanetoidDesk$Sky;", Cond.methodLink RX7 191 yX7_gatherLooks, Cond.instanceMethod yX7_gatherLooks, Cond.selects RX7 yX7_gatherLooks yX7_gatherLooks, Cond.code yX7_gatherLooks cX7_gatherLooks 3 none, Cond.methodLink RX7 248 yX0_isLook, Cond.instanceMethod yX0_isLook, Cond.selects RX0 yX0_isLook yX0_isLook, Cond.initialized RX0, Cond.code yX0_isLook cX0_isLook 5 (some .boolean), Cond.fieldLink RX0 14 "PlanetoidDesk$Bodies" "owners" "LPlanetoidDesk$Row;", Cond.fieldLink RX0 20 "PlanetoidDesk$Bodies" "hosts" "LPlanetoidDesk$Row;", Cond.methodLink RX0 46 yX5_at, Cond.instanceMethod yX5_at, Cond.selects RX5 yX5_at yX5_at, Cond.code yX5_at cX5_at 2 (some .int), Cond.methodLink RX7 251 yX2_add, Cond.instanceMethod yX2_add]
def wsX7_orbit_r3 : List Cond := [Cond.selects RX2 yX2_add yX2_add, Cond.initialized RX2, Cond.code yX2_add cX2_add 2 none, Cond.fieldLink RX2 14 "PlanetoidDesk$Looks" "dots" "LPlanetoidDesk$Row;", Cond.fieldLink RX2 20 "PlanetoidDesk$Looks" "count" "I", Cond.methodLink RX2 24 yX5_put, Cond.instanceMethod yX5_put, Cond.selects RX5 yX5_put yX5_put, Cond.code yX5_put cX5_put 3 none, Cond.methodLink RX7 254 yX2_dotAt, Cond.instanceMethod yX2_dotAt, Cond.selects RX2 yX2_dotAt yX2_dotAt, Cond.code yX2_dotAt cX2_dotAt 2 (some .int), Cond.methodLink RX2 28 yX5_at, Cond.methodLink RX7 95 yX6_nightOf, Cond.instanceMethod yX6_nightOf, Cond.selects RX6 yX6_nightOf yX6_nightOf, Cond.initialized RX6, Cond.code yX6_nightOf cX6_nightOf 2 (some .int), Cond.fieldLink RX6 23 "PlanetoidDesk$Sky" "plateNights" "LPlanetoidDesk$Row;", Cond.fieldLink RX6 26 "PlanetoidDesk$Sky" "dotPlates" "LPlanetoidDesk$Row;", Cond.methodLink RX6 52 yX5_at, Cond.methodLink RX7 98 yX6_truePlaceOf, Cond.instanceMethod yX6_truePlaceOf]
def wsX7_orbit_r4 : List Cond := [Cond.selects RX6 yX6_truePlaceOf yX6_truePlaceOf, Cond.code yX6_truePlaceOf cX6_truePlaceOf 3 (some .int), Cond.fieldLink RX6 29 "PlanetoidDesk$Sky" "dotPlaces" "LPlanetoidDesk$Row;", Cond.fieldLink RX6 35 "PlanetoidDesk$Sky" "shifts" "LPlanetoidDesk$Row;", Cond.methodLink RX6 56 yJ9_floorMod_7cf53, Cond.static yJ9_floorMod_7cf53, Cond.initialized RJ9, Cond.code yJ9_floorMod_7cf53 cJ9_floorMod_7cf53 3 (some .int), Cond.methodLink RX7 263 yX6_errorOf, Cond.instanceMethod yX6_errorOf, Cond.selects RX6 yX6_errorOf yX6_errorOf, Cond.code yX6_errorOf cX6_errorOf 2 (some .int), Cond.fieldLink RX6 14 "PlanetoidDesk$Sky" "errors" "LPlanetoidDesk$Row;", Cond.fieldLink RX6 20 "PlanetoidDesk$Sky" "plateObservatories" "LPlanetoidDesk$Row;", Cond.methodLink RX7 266 yX3_keepNear, Cond.instanceMethod yX3_keepNear, Cond.selects RX3 yX3_keepNear yX3_keepNear, Cond.code yX3_keepNear cX3_keepNear 9 none, Cond.static yX7_drift, Cond.code yX7_drift cX7_drift 2 (some .int), Cond.methodLink RX7 197 yX7_bOf, Cond.static yX7_bOf, Cond.code yX7_bOf cX7_bOf 1 (some .int), Cond.methodLink RX7 200 yX7_cOf]
def wsX7_orbit_r5 : List Cond := [Cond.static yX7_cOf, Cond.code yX7_cOf cX7_cOf 1 (some .int), Cond.methodLink RX3 33 yJ9_floorMod_7cf53, Cond.methodLink RX3 38 yX5_at, Cond.methodLink RX3 42 yX3_behind, Cond.instanceMethod yX3_behind, Cond.selects RX3 yX3_behind yX3_behind, Cond.code yX3_behind cX3_behind 3 (some .int), Cond.methodLink RX3 45 yX3_sharedWidth, Cond.static yX3_sharedWidth, Cond.code yX3_sharedWidth cX3_sharedWidth 4 (some .int), Cond.methodLink RX3 53 Lib.Math.min.name, Cond.static Lib.Math.min.name, Cond.initialized "java/lang/Math", Cond.code Lib.Math.min.name Lib.Math.min.code 2 (some .int), Cond.methodLink RX3 56 Lib.Math.max.name, Cond.static Lib.Math.max.name, Cond.code Lib.Math.max.name Lib.Math.max.code 2 (some .int), Cond.methodLink RX3 49 yX5_put, Cond.methodLink RX7 187 yX3_countOrbits, Cond.instanceMethod yX3_countOrbits, Cond.selects RX3 yX3_countOrbits yX3_countOrbits, Cond.code yX3_countOrbits cX3_countOrbits 3 (some .int), Cond.methodLink RX7 51 yX7_needWithin]
def wsX7_orbit_r6 : List Cond := [Cond.static yX7_needWithin, Cond.code yX7_needWithin cX7_needWithin 3 none, Cond.classLink RX7 206 "java/lang/IllegalArgumentException", Cond.initialized "java/lang/IllegalArgumentException", Cond.methodLink RX7 166 yX3_orbitAt, Cond.instanceMethod yX3_orbitAt, Cond.selects RX3 yX3_orbitAt yX3_orbitAt, Cond.code yX3_orbitAt cX3_orbitAt 4 (some .int), Cond.fieldLink RX3 23 "PlanetoidDesk$Orbits" "tallies" "LPlanetoidDesk$Row;", Cond.methodLink RX3 59 yX3_tallyPlaces, Cond.instanceMethod yX3_tallyPlaces, Cond.selects RX3 yX3_tallyPlaces yX3_tallyPlaces, Cond.code yX3_tallyPlaces cX3_tallyPlaces 6 none, Cond.methodLink RX3 62 yX3_courseWith, Cond.instanceMethod yX3_courseWith, Cond.selects RX3 yX3_courseWith yX3_courseWith, Cond.code yX3_courseWith cX3_courseWith 5 (some .int)]
def wsX7_orbit : List Cond := .code yX7_orbit cX7_orbit 5 (some .int) :: ((wsX7_orbit_r1 ++ (wsX7_orbit_r2 ++ (wsX7_orbit_r3 ++ (wsX7_orbit_r4 ++ (wsX7_orbit_r5 ++ wsX7_orbit_r6))))) ++ wsX70 ++ wsX00 ++ wsX30 ++ wsX50 ++ wsX20 ++ wsX60 ++ (vx_atS RX7 245 "java/lang/IndexOutOfBoundsException" ["java/lang/RuntimeException", "java/lang/Exception"]).filter goodWord ++ (vx_atS RX7 210 "java/lang/IllegalArgumentException" ["java/lang/RuntimeException", "java/lang/Exception"]).filter goodWord)
def wsX7_spread_r1 : List Cond := [Cond.fieldLink RX7 19 "PlanetoidDesk" "bodies" "LPlanetoidDesk$Bodies;", Cond.fieldLink RX7 33 "PlanetoidDesk" "fitting" "LPlanetoidDesk$Orbits;", Cond.methodLink RX7 70 yX7_needOneOf, Cond.static yX7_needOneOf, Cond.initialized RX7, Cond.code yX7_needOneOf cX7_needOneOf 2 none, Cond.classLink RX7 241 "java/lang/IndexOutOfBoundsException", Cond.initialized "java/lang/IndexOutOfBoundsException", Cond.methodLink RX7 51 yX7_needWithin, Cond.static yX7_needWithin, Cond.code yX7_needWithin cX7_needWithin 3 none, Cond.classLink RX7 206 "java/lang/IllegalArgumentException", Cond.initialized "java/lang/IllegalArgumentException", Cond.methodLink RX7 121 yX7_findOrbits, Cond.instanceMethod yX7_findOrbits, Cond.selects RX7 yX7_findOrbits yX7_findOrbits, Cond.code yX7_findOrbits cX7_findOrbits 2 none, Cond.methodLink RX7 257 yX3_takeAll, Cond.instanceMethod yX3_takeAll, Cond.selects RX3 yX3_takeAll yX3_takeAll, Cond.initialized RX3, Cond.code yX3_takeAll cX3_takeAll 1 none, Cond.fieldLink RX3 14 "PlanetoidDesk$Orbits" "starts" "LPlanetoidDesk$Row;", Cond.fieldLink RX3 20 "PlanetoidDesk$Orbits" "widths" "LPlanetoidDesk$Row;"]
def wsX7_spread_r2 : List Cond := [Cond.methodLink RX3 26 yX5_fill, Cond.instanceMethod yX5_fill, Cond.selects RX5 yX5_fill yX5_fill, Cond.initialized RX5, Cond.code yX5_fill cX5_fill 3 none, Cond.fieldLink RX5 7 "PlanetoidDesk$Row" "cells" "[I", Cond.methodLink RX7 260 yX7_keepFitting, Cond.instanceMethod yX7_keepFitting, Cond.selects RX7 yX7_keepFitting yX7_keepFitting, Cond.code yX7_keepFitting cX7_keepFitting 4 none, Cond.fieldLink RX7 26 "PlanetoidDesk" "looks" "LPlanetoidDesk$Looks;", Cond.fieldLink RX7 10 "PlanetoidDesk" "sky" "LPlanetoidDesk$Sky;", Cond.methodLink RX7 191 yX7_gatherLooks, Cond.instanceMethod yX7_gatherLooks, Cond.selects RX7 yX7_gatherLooks yX7_gatherLooks, Cond.code yX7_gatherLooks cX7_gatherLooks 3 none, Cond.methodLink RX7 248 yX0_isLook, Cond.instanceMethod yX0_isLook, Cond.selects RX0 yX0_isLook yX0_isLook, Cond.initialized RX0, Cond.code yX0_isLook cX0_isLook 5 (some .boolean), Cond.fieldLink RX0 14 "PlanetoidDesk$Bodies" "owners" "LPlanetoidDesk$Row;", Cond.fieldLink RX0 20 "PlanetoidDesk$Bodies" "hosts" "LPlanetoidDesk$Row;", Cond.methodLink RX0 46 yX5_at]
def wsX7_spread_r3 : List Cond := [Cond.instanceMethod yX5_at, Cond.selects RX5 yX5_at yX5_at, Cond.code yX5_at cX5_at 2 (some .int), Cond.methodLink RX7 251 yX2_add, Cond.instanceMethod yX2_add, Cond.selects RX2 yX2_add yX2_add, Cond.initialized RX2, Cond.code yX2_add cX2_add 2 none, Cond.fieldLink RX2 14 "PlanetoidDesk$Looks" "dots" "LPlanetoidDesk$Row;", Cond.fieldLink RX2 20 "PlanetoidDesk$Looks" "count" "I", Cond.methodLink RX2 24 yX5_put, Cond.instanceMethod yX5_put, Cond.selects RX5 yX5_put yX5_put, Cond.code yX5_put cX5_put 3 none, Cond.methodLink RX7 254 yX2_dotAt, Cond.instanceMethod yX2_dotAt, Cond.selects RX2 yX2_dotAt yX2_dotAt, Cond.code yX2_dotAt cX2_dotAt 2 (some .int), Cond.methodLink RX2 28 yX5_at, Cond.methodLink RX7 95 yX6_nightOf, Cond.instanceMethod yX6_nightOf, Cond.selects RX6 yX6_nightOf yX6_nightOf, Cond.initialized RX6, Cond.code yX6_nightOf cX6_nightOf 2 (some .int)]
def wsX7_spread_r4 : List Cond := [Cond.fieldLink RX6 23 "PlanetoidDesk$Sky" "plateNights" "LPlanetoidDesk$Row;", Cond.fieldLink RX6 26 "PlanetoidDesk$Sky" "dotPlates" "LPlanetoidDesk$Row;", Cond.methodLink RX6 52 yX5_at, Cond.methodLink RX7 98 yX6_truePlaceOf, Cond.instanceMethod yX6_truePlaceOf, Cond.selects RX6 yX6_truePlaceOf yX6_truePlaceOf, Cond.code yX6_truePlaceOf cX6_truePlaceOf 3 (some .int), Cond.fieldLink RX6 29 "PlanetoidDesk$Sky" "dotPlaces" "LPlanetoidDesk$Row;", Cond.fieldLink RX6 35 "PlanetoidDesk$Sky" "shifts" "LPlanetoidDesk$Row;", Cond.methodLink RX6 56 yJ9_floorMod_7cf53, Cond.static yJ9_floorMod_7cf53, Cond.initialized RJ9, Cond.code yJ9_floorMod_7cf53 cJ9_floorMod_7cf53 3 (some .int), Cond.methodLink RX7 263 yX6_errorOf, Cond.instanceMethod yX6_errorOf, Cond.selects RX6 yX6_errorOf yX6_errorOf, Cond.code yX6_errorOf cX6_errorOf 2 (some .int), Cond.fieldLink RX6 14 "PlanetoidDesk$Sky" "errors" "LPlanetoidDesk$Row;", Cond.fieldLink RX6 20 "PlanetoidDesk$Sky" "plateObservatories" "LPlanetoidDesk$Row;", Cond.methodLink RX7 266 yX3_keepNear, Cond.instanceMethod yX3_keepNear, Cond.selects RX3 yX3_keepNear yX3_keepNear, Cond.code yX3_keepNear cX3_keepNear 9 none, Cond.static yX7_drift]
def wsX7_spread_r5 : List Cond := [Cond.code yX7_drift cX7_drift 2 (some .int), Cond.methodLink RX7 197 yX7_bOf, Cond.static yX7_bOf, Cond.code yX7_bOf cX7_bOf 1 (some .int), Cond.methodLink RX7 200 yX7_cOf, Cond.static yX7_cOf, Cond.code yX7_cOf cX7_cOf 1 (some .int), Cond.methodLink RX3 33 yJ9_floorMod_7cf53, Cond.methodLink RX3 38 yX5_at, Cond.methodLink RX3 42 yX3_behind, Cond.instanceMethod yX3_behind, Cond.selects RX3 yX3_behind yX3_behind, Cond.code yX3_behind cX3_behind 3 (some .int), Cond.methodLink RX3 45 yX3_sharedWidth, Cond.static yX3_sharedWidth, Cond.code yX3_sharedWidth cX3_sharedWidth 4 (some .int), Cond.methodLink RX3 53 Lib.Math.min.name, Cond.static Lib.Math.min.name, Cond.initialized "java/lang/Math", Cond.code Lib.Math.min.name Lib.Math.min.code 2 (some .int), Cond.methodLink RX3 56 Lib.Math.max.name, Cond.static Lib.Math.max.name, Cond.code Lib.Math.max.name Lib.Math.max.code 2 (some .int), Cond.methodLink RX3 49 yX5_put]
def wsX7_spread_r6 : List Cond := [Cond.methodLink RX7 203 yX3_countPlaces, Cond.instanceMethod yX3_countPlaces, Cond.selects RX3 yX3_countPlaces yX3_countPlaces, Cond.code yX3_countPlaces cX3_countPlaces 4 (some .int), Cond.fieldLink RX3 23 "PlanetoidDesk$Orbits" "tallies" "LPlanetoidDesk$Row;", Cond.methodLink RX3 59 yX3_tallyPlaces, Cond.instanceMethod yX3_tallyPlaces, Cond.selects RX3 yX3_tallyPlaces yX3_tallyPlaces, Cond.code yX3_tallyPlaces cX3_tallyPlaces 6 none]
def wsX7_spread : List Cond := .code yX7_spread cX7_spread 3 (some .int) :: ((wsX7_spread_r1 ++ (wsX7_spread_r2 ++ (wsX7_spread_r3 ++ (wsX7_spread_r4 ++ (wsX7_spread_r5 ++ wsX7_spread_r6))))) ++ wsX70 ++ wsX00 ++ wsX30 ++ wsX50 ++ wsX20 ++ wsX60 ++ (vx_atS RX7 245 "java/lang/IndexOutOfBoundsException" ["java/lang/RuntimeException", "java/lang/Exception"]).filter goodWord ++ (vx_atS RX7 210 "java/lang/IllegalArgumentException" ["java/lang/RuntimeException", "java/lang/Exception"]).filter goodWord)
def wsX7_where_r1 : List Cond := [Cond.classLink RX7 206 "java/lang/IllegalArgumentException", Cond.initialized "java/lang/IllegalArgumentException", Cond.fieldLink RX7 19 "PlanetoidDesk" "bodies" "LPlanetoidDesk$Bodies;", Cond.fieldLink RX7 33 "PlanetoidDesk" "fitting" "LPlanetoidDesk$Orbits;", Cond.methodLink RX7 70 yX7_needOneOf, Cond.static yX7_needOneOf, Cond.initialized RX7, Cond.code yX7_needOneOf cX7_needOneOf 2 none, Cond.classLink RX7 241 "java/lang/IndexOutOfBoundsException", Cond.initialized "java/lang/IndexOutOfBoundsException", Cond.methodLink RX7 51 yX7_needWithin, Cond.static yX7_needWithin, Cond.code yX7_needWithin cX7_needWithin 3 none, Cond.methodLink RX7 121 yX7_findOrbits, Cond.instanceMethod yX7_findOrbits, Cond.selects RX7 yX7_findOrbits yX7_findOrbits, Cond.code yX7_findOrbits cX7_findOrbits 2 none, Cond.methodLink RX7 257 yX3_takeAll, Cond.instanceMethod yX3_takeAll, Cond.selects RX3 yX3_takeAll yX3_takeAll, Cond.initialized RX3, Cond.code yX3_takeAll cX3_takeAll 1 none, Cond.fieldLink RX3 14 "PlanetoidDesk$Orbits" "starts" "LPlanetoidDesk$Row;", Cond.fieldLink RX3 20 "PlanetoidDesk$Orbits" "widths" "LPlanetoidDesk$Row;"]
def wsX7_where_r2 : List Cond := [Cond.methodLink RX3 26 yX5_fill, Cond.instanceMethod yX5_fill, Cond.selects RX5 yX5_fill yX5_fill, Cond.initialized RX5, Cond.code yX5_fill cX5_fill 3 none, Cond.fieldLink RX5 7 "PlanetoidDesk$Row" "cells" "[I", Cond.methodLink RX7 260 yX7_keepFitting, Cond.instanceMethod yX7_keepFitting, Cond.selects RX7 yX7_keepFitting yX7_keepFitting, Cond.code yX7_keepFitting cX7_keepFitting 4 none, Cond.fieldLink RX7 26 "PlanetoidDesk" "looks" "LPlanetoidDesk$Looks;", Cond.fieldLink RX7 10 "PlanetoidDesk" "sky" "LPlanetoidDesk$Sky;", Cond.methodLink RX7 191 yX7_gatherLooks, Cond.instanceMethod yX7_gatherLooks, Cond.selects RX7 yX7_gatherLooks yX7_gatherLooks, Cond.code yX7_gatherLooks cX7_gatherLooks 3 none, Cond.methodLink RX7 248 yX0_isLook, Cond.instanceMethod yX0_isLook, Cond.selects RX0 yX0_isLook yX0_isLook, Cond.initialized RX0, Cond.code yX0_isLook cX0_isLook 5 (some .boolean), Cond.fieldLink RX0 14 "PlanetoidDesk$Bodies" "owners" "LPlanetoidDesk$Row;", Cond.fieldLink RX0 20 "PlanetoidDesk$Bodies" "hosts" "LPlanetoidDesk$Row;", Cond.methodLink RX0 46 yX5_at]
def wsX7_where_r3 : List Cond := [Cond.instanceMethod yX5_at, Cond.selects RX5 yX5_at yX5_at, Cond.code yX5_at cX5_at 2 (some .int), Cond.methodLink RX7 251 yX2_add, Cond.instanceMethod yX2_add, Cond.selects RX2 yX2_add yX2_add, Cond.initialized RX2, Cond.code yX2_add cX2_add 2 none, Cond.fieldLink RX2 14 "PlanetoidDesk$Looks" "dots" "LPlanetoidDesk$Row;", Cond.fieldLink RX2 20 "PlanetoidDesk$Looks" "count" "I", Cond.methodLink RX2 24 yX5_put, Cond.instanceMethod yX5_put, Cond.selects RX5 yX5_put yX5_put, Cond.code yX5_put cX5_put 3 none, Cond.methodLink RX7 254 yX2_dotAt, Cond.instanceMethod yX2_dotAt, Cond.selects RX2 yX2_dotAt yX2_dotAt, Cond.code yX2_dotAt cX2_dotAt 2 (some .int), Cond.methodLink RX2 28 yX5_at, Cond.methodLink RX7 95 yX6_nightOf, Cond.instanceMethod yX6_nightOf, Cond.selects RX6 yX6_nightOf yX6_nightOf, Cond.initialized RX6, Cond.code yX6_nightOf cX6_nightOf 2 (some .int)]
def wsX7_where_r4 : List Cond := [Cond.fieldLink RX6 23 "PlanetoidDesk$Sky" "plateNights" "LPlanetoidDesk$Row;", Cond.fieldLink RX6 26 "PlanetoidDesk$Sky" "dotPlates" "LPlanetoidDesk$Row;", Cond.methodLink RX6 52 yX5_at, Cond.methodLink RX7 98 yX6_truePlaceOf, Cond.instanceMethod yX6_truePlaceOf, Cond.selects RX6 yX6_truePlaceOf yX6_truePlaceOf, Cond.code yX6_truePlaceOf cX6_truePlaceOf 3 (some .int), Cond.fieldLink RX6 29 "PlanetoidDesk$Sky" "dotPlaces" "LPlanetoidDesk$Row;", Cond.fieldLink RX6 35 "PlanetoidDesk$Sky" "shifts" "LPlanetoidDesk$Row;", Cond.methodLink RX6 56 yJ9_floorMod_7cf53, Cond.static yJ9_floorMod_7cf53, Cond.initialized RJ9, Cond.code yJ9_floorMod_7cf53 cJ9_floorMod_7cf53 3 (some .int), Cond.methodLink RX7 263 yX6_errorOf, Cond.instanceMethod yX6_errorOf, Cond.selects RX6 yX6_errorOf yX6_errorOf, Cond.code yX6_errorOf cX6_errorOf 2 (some .int), Cond.fieldLink RX6 14 "PlanetoidDesk$Sky" "errors" "LPlanetoidDesk$Row;", Cond.fieldLink RX6 20 "PlanetoidDesk$Sky" "plateObservatories" "LPlanetoidDesk$Row;", Cond.methodLink RX7 266 yX3_keepNear, Cond.instanceMethod yX3_keepNear, Cond.selects RX3 yX3_keepNear yX3_keepNear, Cond.code yX3_keepNear cX3_keepNear 9 none, Cond.static yX7_drift]
def wsX7_where_r5 : List Cond := [Cond.code yX7_drift cX7_drift 2 (some .int), Cond.methodLink RX7 197 yX7_bOf, Cond.static yX7_bOf, Cond.code yX7_bOf cX7_bOf 1 (some .int), Cond.methodLink RX7 200 yX7_cOf, Cond.static yX7_cOf, Cond.code yX7_cOf cX7_cOf 1 (some .int), Cond.methodLink RX3 33 yJ9_floorMod_7cf53, Cond.methodLink RX3 38 yX5_at, Cond.methodLink RX3 42 yX3_behind, Cond.instanceMethod yX3_behind, Cond.selects RX3 yX3_behind yX3_behind, Cond.code yX3_behind cX3_behind 3 (some .int), Cond.methodLink RX3 45 yX3_sharedWidth, Cond.static yX3_sharedWidth, Cond.code yX3_sharedWidth cX3_sharedWidth 4 (some .int), Cond.methodLink RX3 53 Lib.Math.min.name, Cond.static Lib.Math.min.name, Cond.initialized "java/lang/Math", Cond.code Lib.Math.min.name Lib.Math.min.code 2 (some .int), Cond.methodLink RX3 56 Lib.Math.max.name, Cond.static Lib.Math.max.name, Cond.code Lib.Math.max.name Lib.Math.max.code 2 (some .int), Cond.methodLink RX3 49 yX5_put]
def wsX7_where_r6 : List Cond := [Cond.methodLink RX7 211 yX3_placeAt, Cond.instanceMethod yX3_placeAt, Cond.selects RX3 yX3_placeAt yX3_placeAt, Cond.code yX3_placeAt cX3_placeAt 5 (some .int), Cond.fieldLink RX3 23 "PlanetoidDesk$Orbits" "tallies" "LPlanetoidDesk$Row;", Cond.methodLink RX3 59 yX3_tallyPlaces, Cond.instanceMethod yX3_tallyPlaces, Cond.selects RX3 yX3_tallyPlaces yX3_tallyPlaces, Cond.code yX3_tallyPlaces cX3_tallyPlaces 6 none]
def wsX7_where : List Cond := .code yX7_where cX7_where 4 (some .int) :: ((wsX7_where_r1 ++ (wsX7_where_r2 ++ (wsX7_where_r3 ++ (wsX7_where_r4 ++ (wsX7_where_r5 ++ wsX7_where_r6))))) ++ wsX70 ++ wsX00 ++ wsX30 ++ wsX50 ++ wsX20 ++ wsX60 ++ (vx_atS RX7 210 "java/lang/IllegalArgumentException" ["java/lang/RuntimeException", "java/lang/Exception"]).filter goodWord ++ (vx_atS RX7 245 "java/lang/IndexOutOfBoundsException" ["java/lang/RuntimeException", "java/lang/Exception"]).filter goodWord)
def wsX7_candidates_r1 : List Cond := [Cond.fieldLink RX7 19 "PlanetoidDesk" "bodies" "LPlanetoidDesk$Bodies;", Cond.fieldLink RX7 10 "PlanetoidDesk" "sky" "LPlanetoidDesk$Sky;", Cond.methodLink RX7 70 yX7_needOneOf, Cond.static yX7_needOneOf, Cond.initialized RX7, Cond.code yX7_needOneOf cX7_needOneOf 2 none, Cond.classLink RX7 241 "java/lang/IndexOutOfBoundsException", Cond.initialized "java/lang/IndexOutOfBoundsException", Cond.methodLink RX7 121 yX7_findOrbits, Cond.instanceMethod yX7_findOrbits, Cond.selects RX7 yX7_findOrbits yX7_findOrbits, Cond.code yX7_findOrbits cX7_findOrbits 2 none, Cond.fieldLink RX7 33 "PlanetoidDesk" "fitting" "LPlanetoidDesk$Orbits;", Cond.methodLink RX7 257 yX3_takeAll, Cond.instanceMethod yX3_takeAll, Cond.selects RX3 yX3_takeAll yX3_takeAll, Cond.initialized RX3, Cond.code yX3_takeAll cX3_takeAll 1 none, Cond.fieldLink RX3 14 "PlanetoidDesk$Orbits" "starts" "LPlanetoidDesk$Row;", Cond.fieldLink RX3 20 "PlanetoidDesk$Orbits" "widths" "LPlanetoidDesk$Row;", Cond.methodLink RX3 26 yX5_fill, Cond.instanceMethod yX5_fill, Cond.selects RX5 yX5_fill yX5_fill, Cond.initialized RX5]
def wsX7_candidates_r2 : List Cond := [Cond.code yX5_fill cX5_fill 3 none, Cond.fieldLink RX5 7 "PlanetoidDesk$Row" "cells" "[I", Cond.methodLink RX7 260 yX7_keepFitting, Cond.instanceMethod yX7_keepFitting, Cond.selects RX7 yX7_keepFitting yX7_keepFitting, Cond.code yX7_keepFitting cX7_keepFitting 4 none, Cond.fieldLink RX7 26 "PlanetoidDesk" "looks" "LPlanetoidDesk$Looks;", Cond.methodLink RX7 191 yX7_gatherLooks, Cond.instanceMethod yX7_gatherLooks, Cond.selects RX7 yX7_gatherLooks yX7_gatherLooks, Cond.code yX7_gatherLooks cX7_gatherLooks 3 none, Cond.methodLink RX7 248 yX0_isLook, Cond.instanceMethod yX0_isLook, Cond.selects RX0 yX0_isLook yX0_isLook, Cond.initialized RX0, Cond.code yX0_isLook cX0_isLook 5 (some .boolean), Cond.fieldLink RX0 14 "PlanetoidDesk$Bodies" "owners" "LPlanetoidDesk$Row;", Cond.fieldLink RX0 20 "PlanetoidDesk$Bodies" "hosts" "LPlanetoidDesk$Row;", Cond.methodLink RX0 46 yX5_at, Cond.instanceMethod yX5_at, Cond.selects RX5 yX5_at yX5_at, Cond.code yX5_at cX5_at 2 (some .int), Cond.methodLink RX7 251 yX2_add, Cond.instanceMethod yX2_add]
def wsX7_candidates_r3 : List Cond := [Cond.selects RX2 yX2_add yX2_add, Cond.initialized RX2, Cond.code yX2_add cX2_add 2 none, Cond.fieldLink RX2 14 "PlanetoidDesk$Looks" "dots" "LPlanetoidDesk$Row;", Cond.fieldLink RX2 20 "PlanetoidDesk$Looks" "count" "I", Cond.methodLink RX2 24 yX5_put, Cond.instanceMethod yX5_put, Cond.selects RX5 yX5_put yX5_put, Cond.code yX5_put cX5_put 3 none, Cond.methodLink RX7 254 yX2_dotAt, Cond.instanceMethod yX2_dotAt, Cond.selects RX2 yX2_dotAt yX2_dotAt, Cond.code yX2_dotAt cX2_dotAt 2 (some .int), Cond.methodLink RX2 28 yX5_at, Cond.methodLink RX7 95 yX6_nightOf, Cond.instanceMethod yX6_nightOf, Cond.selects RX6 yX6_nightOf yX6_nightOf, Cond.initialized RX6, Cond.code yX6_nightOf cX6_nightOf 2 (some .int), Cond.fieldLink RX6 23 "PlanetoidDesk$Sky" "plateNights" "LPlanetoidDesk$Row;", Cond.fieldLink RX6 26 "PlanetoidDesk$Sky" "dotPlates" "LPlanetoidDesk$Row;", Cond.methodLink RX6 52 yX5_at, Cond.methodLink RX7 98 yX6_truePlaceOf, Cond.instanceMethod yX6_truePlaceOf]
def wsX7_candidates_r4 : List Cond := [Cond.selects RX6 yX6_truePlaceOf yX6_truePlaceOf, Cond.code yX6_truePlaceOf cX6_truePlaceOf 3 (some .int), Cond.fieldLink RX6 29 "PlanetoidDesk$Sky" "dotPlaces" "LPlanetoidDesk$Row;", Cond.fieldLink RX6 35 "PlanetoidDesk$Sky" "shifts" "LPlanetoidDesk$Row;", Cond.methodLink RX6 56 yJ9_floorMod_7cf53, Cond.static yJ9_floorMod_7cf53, Cond.initialized RJ9, Cond.code yJ9_floorMod_7cf53 cJ9_floorMod_7cf53 3 (some .int), Cond.methodLink RX7 263 yX6_errorOf, Cond.instanceMethod yX6_errorOf, Cond.selects RX6 yX6_errorOf yX6_errorOf, Cond.code yX6_errorOf cX6_errorOf 2 (some .int), Cond.fieldLink RX6 14 "PlanetoidDesk$Sky" "errors" "LPlanetoidDesk$Row;", Cond.fieldLink RX6 20 "PlanetoidDesk$Sky" "plateObservatories" "LPlanetoidDesk$Row;", Cond.methodLink RX7 266 yX3_keepNear, Cond.instanceMethod yX3_keepNear, Cond.selects RX3 yX3_keepNear yX3_keepNear, Cond.code yX3_keepNear cX3_keepNear 9 none, Cond.static yX7_drift, Cond.code yX7_drift cX7_drift 2 (some .int), Cond.methodLink RX7 197 yX7_bOf, Cond.static yX7_bOf, Cond.code yX7_bOf cX7_bOf 1 (some .int), Cond.methodLink RX7 200 yX7_cOf]
def wsX7_candidates_r5 : List Cond := [Cond.static yX7_cOf, Cond.code yX7_cOf cX7_cOf 1 (some .int), Cond.methodLink RX3 33 yJ9_floorMod_7cf53, Cond.methodLink RX3 38 yX5_at, Cond.methodLink RX3 42 yX3_behind, Cond.instanceMethod yX3_behind, Cond.selects RX3 yX3_behind yX3_behind, Cond.code yX3_behind cX3_behind 3 (some .int), Cond.methodLink RX3 45 yX3_sharedWidth, Cond.static yX3_sharedWidth, Cond.code yX3_sharedWidth cX3_sharedWidth 4 (some .int), Cond.methodLink RX3 53 Lib.Math.min.name, Cond.static Lib.Math.min.name, Cond.initialized "java/lang/Math", Cond.code Lib.Math.min.name Lib.Math.min.code 2 (some .int), Cond.methodLink RX3 56 Lib.Math.max.name, Cond.static Lib.Math.max.name, Cond.code Lib.Math.max.name Lib.Math.max.code 2 (some .int), Cond.methodLink RX3 49 yX5_put, Cond.methodLink RX7 125 yX7_canTake, Cond.instanceMethod yX7_canTake, Cond.selects RX7 yX7_canTake yX7_canTake, Cond.code yX7_canTake cX7_canTake 3 (some .boolean), Cond.methodLink RX7 107 yX0_isUnlinked]
def wsX7_candidates_r6 : List Cond := [Cond.instanceMethod yX0_isUnlinked, Cond.selects RX0 yX0_isUnlinked yX0_isUnlinked, Cond.code yX0_isUnlinked cX0_isUnlinked 2 (some .boolean), Cond.methodLink RX7 272 yX0_isFree, Cond.instanceMethod yX0_isFree, Cond.selects RX0 yX0_isFree yX0_isFree, Cond.code yX0_isFree cX0_isFree 2 (some .boolean), Cond.methodLink RX7 269 yX6_plateOf, Cond.instanceMethod yX6_plateOf, Cond.selects RX6 yX6_plateOf yX6_plateOf, Cond.code yX6_plateOf cX6_plateOf 2 (some .int), Cond.methodLink RX7 275 yX7_isSeenOn, Cond.instanceMethod yX7_isSeenOn, Cond.selects RX7 yX7_isSeenOn yX7_isSeenOn, Cond.code yX7_isSeenOn cX7_isSeenOn 4 (some .boolean), Cond.methodLink RX7 278 yX3_hasNear, Cond.instanceMethod yX3_hasNear, Cond.selects RX3 yX3_hasNear yX3_hasNear, Cond.code yX3_hasNear cX3_hasNear 7 (some .boolean)]
def wsX7_candidates : List Cond := .code yX7_candidates cX7_candidates 4 (some .int) :: ((wsX7_candidates_r1 ++ (wsX7_candidates_r2 ++ (wsX7_candidates_r3 ++ (wsX7_candidates_r4 ++ (wsX7_candidates_r5 ++ wsX7_candidates_r6))))) ++ wsX70 ++ wsX00 ++ wsX60 ++ wsX30 ++ wsX50 ++ wsX20 ++ (vx_atS RX7 245 "java/lang/IndexOutOfBoundsException" ["java/lang/RuntimeException", "java/lang/Exception"]).filter goodWord)
def wsX7_greatestDivisor : List Cond := .code yX7_greatestDivisor cX7_greatestDivisor 6 (some .int) :: ([])
def wsX7_chance_r1 : List Cond := [Cond.fieldLink RX7 19 "PlanetoidDesk" "bodies" "LPlanetoidDesk$Bodies;", Cond.fieldLink RX7 40 "PlanetoidDesk" "paths" "LPlanetoidDesk$Paths;", Cond.fieldLink RX7 33 "PlanetoidDesk" "fitting" "LPlanetoidDesk$Orbits;", Cond.methodLink RX7 70 yX7_needOneOf, Cond.static yX7_needOneOf, Cond.initialized RX7, Cond.code yX7_needOneOf cX7_needOneOf 2 none, Cond.classLink RX7 241 "java/lang/IndexOutOfBoundsException", Cond.initialized "java/lang/IndexOutOfBoundsException", Cond.methodLink RX7 51 yX7_needWithin, Cond.static yX7_needWithin, Cond.code yX7_needWithin cX7_needWithin 3 none, Cond.classLink RX7 206 "java/lang/IllegalArgumentException", Cond.initialized "java/lang/IllegalArgumentException", Cond.methodLink RX7 121 yX7_findOrbits, Cond.instanceMethod yX7_findOrbits, Cond.selects RX7 yX7_findOrbits yX7_findOrbits, Cond.code yX7_findOrbits cX7_findOrbits 2 none, Cond.methodLink RX7 257 yX3_takeAll, Cond.instanceMethod yX3_takeAll, Cond.selects RX3 yX3_takeAll yX3_takeAll, Cond.initialized RX3, Cond.code yX3_takeAll cX3_takeAll 1 none, Cond.fieldLink RX3 14 "PlanetoidDesk$Orbits" "starts" "LPlanetoidDesk$Row;"]
def wsX7_chance_r2 : List Cond := [Cond.fieldLink RX3 20 "PlanetoidDesk$Orbits" "widths" "LPlanetoidDesk$Row;", Cond.methodLink RX3 26 yX5_fill, Cond.instanceMethod yX5_fill, Cond.selects RX5 yX5_fill yX5_fill, Cond.initialized RX5, Cond.code yX5_fill cX5_fill 3 none, Cond.fieldLink RX5 7 "PlanetoidDesk$Row" "cells" "[I", Cond.methodLink RX7 260 yX7_keepFitting, Cond.instanceMethod yX7_keepFitting, Cond.selects RX7 yX7_keepFitting yX7_keepFitting, Cond.code yX7_keepFitting cX7_keepFitting 4 none, Cond.fieldLink RX7 26 "PlanetoidDesk" "looks" "LPlanetoidDesk$Looks;", Cond.fieldLink RX7 10 "PlanetoidDesk" "sky" "LPlanetoidDesk$Sky;", Cond.methodLink RX7 191 yX7_gatherLooks, Cond.instanceMethod yX7_gatherLooks, Cond.selects RX7 yX7_gatherLooks yX7_gatherLooks, Cond.code yX7_gatherLooks cX7_gatherLooks 3 none, Cond.methodLink RX7 248 yX0_isLook, Cond.instanceMethod yX0_isLook, Cond.selects RX0 yX0_isLook yX0_isLook, Cond.initialized RX0, Cond.code yX0_isLook cX0_isLook 5 (some .boolean), Cond.fieldLink RX0 14 "PlanetoidDesk$Bodies" "owners" "LPlanetoidDesk$Row;", Cond.fieldLink RX0 20 "PlanetoidDesk$Bodies" "hosts" "LPlanetoidDesk$Row;"]
def wsX7_chance_r3 : List Cond := [Cond.methodLink RX0 46 yX5_at, Cond.instanceMethod yX5_at, Cond.selects RX5 yX5_at yX5_at, Cond.code yX5_at cX5_at 2 (some .int), Cond.methodLink RX7 251 yX2_add, Cond.instanceMethod yX2_add, Cond.selects RX2 yX2_add yX2_add, Cond.initialized RX2, Cond.code yX2_add cX2_add 2 none, Cond.fieldLink RX2 14 "PlanetoidDesk$Looks" "dots" "LPlanetoidDesk$Row;", Cond.fieldLink RX2 20 "PlanetoidDesk$Looks" "count" "I", Cond.methodLink RX2 24 yX5_put, Cond.instanceMethod yX5_put, Cond.selects RX5 yX5_put yX5_put, Cond.code yX5_put cX5_put 3 none, Cond.methodLink RX7 254 yX2_dotAt, Cond.instanceMethod yX2_dotAt, Cond.selects RX2 yX2_dotAt yX2_dotAt, Cond.code yX2_dotAt cX2_dotAt 2 (some .int), Cond.methodLink RX2 28 yX5_at, Cond.methodLink RX7 95 yX6_nightOf, Cond.instanceMethod yX6_nightOf, Cond.selects RX6 yX6_nightOf yX6_nightOf, Cond.initialized RX6]
def wsX7_chance_r4 : List Cond := [Cond.code yX6_nightOf cX6_nightOf 2 (some .int), Cond.fieldLink RX6 23 "PlanetoidDesk$Sky" "plateNights" "LPlanetoidDesk$Row;", Cond.fieldLink RX6 26 "PlanetoidDesk$Sky" "dotPlates" "LPlanetoidDesk$Row;", Cond.methodLink RX6 52 yX5_at, Cond.methodLink RX7 98 yX6_truePlaceOf, Cond.instanceMethod yX6_truePlaceOf, Cond.selects RX6 yX6_truePlaceOf yX6_truePlaceOf, Cond.code yX6_truePlaceOf cX6_truePlaceOf 3 (some .int), Cond.fieldLink RX6 29 "PlanetoidDesk$Sky" "dotPlaces" "LPlanetoidDesk$Row;", Cond.fieldLink RX6 35 "PlanetoidDesk$Sky" "shifts" "LPlanetoidDesk$Row;", Cond.methodLink RX6 56 yJ9_floorMod_7cf53, Cond.static yJ9_floorMod_7cf53, Cond.initialized RJ9, Cond.code yJ9_floorMod_7cf53 cJ9_floorMod_7cf53 3 (some .int), Cond.methodLink RX7 263 yX6_errorOf, Cond.instanceMethod yX6_errorOf, Cond.selects RX6 yX6_errorOf yX6_errorOf, Cond.code yX6_errorOf cX6_errorOf 2 (some .int), Cond.fieldLink RX6 14 "PlanetoidDesk$Sky" "errors" "LPlanetoidDesk$Row;", Cond.fieldLink RX6 20 "PlanetoidDesk$Sky" "plateObservatories" "LPlanetoidDesk$Row;", Cond.methodLink RX7 266 yX3_keepNear, Cond.instanceMethod yX3_keepNear, Cond.selects RX3 yX3_keepNear yX3_keepNear, Cond.code yX3_keepNear cX3_keepNear 9 none]
def wsX7_chance_r5 : List Cond := [Cond.static yX7_drift, Cond.code yX7_drift cX7_drift 2 (some .int), Cond.methodLink RX7 197 yX7_bOf, Cond.static yX7_bOf, Cond.code yX7_bOf cX7_bOf 1 (some .int), Cond.methodLink RX7 200 yX7_cOf, Cond.static yX7_cOf, Cond.code yX7_cOf cX7_cOf 1 (some .int), Cond.methodLink RX3 33 yJ9_floorMod_7cf53, Cond.methodLink RX3 38 yX5_at, Cond.methodLink RX3 42 yX3_behind, Cond.instanceMethod yX3_behind, Cond.selects RX3 yX3_behind yX3_behind, Cond.code yX3_behind cX3_behind 3 (some .int), Cond.methodLink RX3 45 yX3_sharedWidth, Cond.static yX3_sharedWidth, Cond.code yX3_sharedWidth cX3_sharedWidth 4 (some .int), Cond.methodLink RX3 53 Lib.Math.min.name, Cond.static Lib.Math.min.name, Cond.initialized "java/lang/Math", Cond.code Lib.Math.min.name Lib.Math.min.code 2 (some .int), Cond.methodLink RX3 56 Lib.Math.max.name, Cond.static Lib.Math.max.name, Cond.code Lib.Math.max.name Lib.Math.max.code 2 (some .int)]
def wsX7_chance_r6 : List Cond := [Cond.methodLink RX3 49 yX5_put, Cond.methodLink RX7 214 yX4_countPaths, Cond.instanceMethod yX4_countPaths, Cond.selects RX4 yX4_countPaths yX4_countPaths, Cond.initialized RX4, Cond.code yX4_countPaths cX4_countPaths 7 none, Cond.fieldLink RX4 26 "PlanetoidDesk$Paths" "all" "I", Cond.fieldLink RX4 30 "PlanetoidDesk$Paths" "near" "I", Cond.fieldLink RX4 23 "PlanetoidDesk$Paths" "lastGroupAt" "LPlanetoidDesk$Row;", Cond.fieldLink RX4 14 "PlanetoidDesk$Paths" "groupHeads" "LPlanetoidDesk$Row;", Cond.fieldLink RX4 20 "PlanetoidDesk$Paths" "nextInGroup" "LPlanetoidDesk$Row;", Cond.methodLink RX4 33 yX5_fill, Cond.methodLink RX4 36 yX4_makeGroups, Cond.instanceMethod yX4_makeGroups, Cond.selects RX4 yX4_makeGroups yX4_makeGroups, Cond.code yX4_makeGroups cX4_makeGroups 5 none, Cond.methodLink RX4 53 yX4_groupOf, Cond.static yX4_groupOf, Cond.code yX4_groupOf cX4_groupOf 3 (some .int), Cond.methodLink RX4 64 yJ9_floorMod_7cf53, Cond.methodLink RX4 40 yX5_at, Cond.methodLink RX4 57 yX5_put, Cond.methodLink RX4 44 yX3_widthOf, Cond.instanceMethod yX3_widthOf]
def wsX7_chance_r7 : List Cond := [Cond.selects RX3 yX3_widthOf yX3_widthOf, Cond.code yX3_widthOf cX3_widthOf 2 (some .int), Cond.methodLink RX4 49 yX4_countCourse, Cond.instanceMethod yX4_countCourse, Cond.selects RX4 yX4_countCourse yX4_countCourse, Cond.code yX4_countCourse cX4_countCourse 11 none, Cond.methodLink RX4 69 yX3_startOf, Cond.instanceMethod yX3_startOf, Cond.selects RX3 yX3_startOf yX3_startOf, Cond.code yX3_startOf cX3_startOf 2 (some .int), Cond.methodLink RX4 72 yX4_nearBitsOf, Cond.static yX4_nearBitsOf, Cond.code yX4_nearBitsOf cX4_nearBitsOf 9 (some .long), Cond.static yX7_stretch, Cond.code yX7_stretch cX7_stretch 5 (some .long), Cond.methodLink RX7 224 yX7_greatestDivisor, Cond.static yX7_greatestDivisor, Cond.code yX7_greatestDivisor cX7_greatestDivisor 6 (some .int)]
def wsX7_chance : List Cond := .code yX7_chance cX7_chance 6 (some .int) :: ((wsX7_chance_r1 ++ (wsX7_chance_r2 ++ (wsX7_chance_r3 ++ (wsX7_chance_r4 ++ (wsX7_chance_r5 ++ (wsX7_chance_r6 ++ wsX7_chance_r7)))))) ++ wsX70 ++ wsX00 ++ wsX40 ++ wsX30 ++ wsX50 ++ wsX20 ++ wsX60 ++ (vx_atS RX7 245 "java/lang/IndexOutOfBoundsException" ["java/lang/RuntimeException", "java/lang/Exception"]).filter goodWord ++ (vx_atS RX7 210 "java/lang/IllegalArgumentException" ["java/lang/RuntimeException", "java/lang/Exception"]).filter goodWord)
def wsX7_families_r1 : List Cond := [Cond.fieldLink RX7 47 "PlanetoidDesk" "kinship" "LPlanetoidDesk$Kinship;", Cond.fieldLink RX7 19 "PlanetoidDesk" "bodies" "LPlanetoidDesk$Bodies;", Cond.methodLink RX7 51 yX7_needWithin, Cond.static yX7_needWithin, Cond.initialized RX7, Cond.code yX7_needWithin cX7_needWithin 3 none, Cond.classLink RX7 206 "java/lang/IllegalArgumentException", Cond.initialized "java/lang/IllegalArgumentException", Cond.methodLink RX7 227 yX1_findFamilies, Cond.instanceMethod yX1_findFamilies, Cond.selects RX1 yX1_findFamilies yX1_findFamilies, Cond.initialized RX1, Cond.code yX1_findFamilies cX1_findFamilies 4 none, Cond.fieldLink RX1 14 "PlanetoidDesk$Kinship" "lowestNumbers" "LPlanetoidDesk$Row;", Cond.methodLink RX1 30 yX0_numberOf, Cond.instanceMethod yX0_numberOf, Cond.selects RX0 yX0_numberOf yX0_numberOf, Cond.initialized RX0, Cond.code yX0_numberOf cX0_numberOf 2 (some .int), Cond.fieldLink RX0 26 "PlanetoidDesk$Bodies" "numbers" "LPlanetoidDesk$Row;", Cond.methodLink RX0 46 yX5_at, Cond.instanceMethod yX5_at, Cond.selects RX5 yX5_at yX5_at, Cond.initialized RX5]
def wsX7_families_r2 : List Cond := [Cond.code yX5_at cX5_at 2 (some .int), Cond.fieldLink RX5 7 "PlanetoidDesk$Row" "cells" "[I", Cond.methodLink RX1 33 yX5_put, Cond.instanceMethod yX5_put, Cond.selects RX5 yX5_put yX5_put, Cond.code yX5_put cX5_put 3 none, Cond.methodLink RX1 37 yX1_spreadLowest, Cond.instanceMethod yX1_spreadLowest, Cond.selects RX1 yX1_spreadLowest yX1_spreadLowest, Cond.code yX1_spreadLowest cX1_spreadLowest 6 none, Cond.methodLink RX1 45 Lib.Math.min.name, Cond.static Lib.Math.min.name, Cond.initialized "java/lang/Math", Cond.code Lib.Math.min.name Lib.Math.min.code 2 (some .int), Cond.methodLink RX1 41 yX1_areAkin, Cond.static yX1_areAkin, Cond.code yX1_areAkin cX1_areAkin 8 (some .boolean), Cond.methodLink RX1 57 Lib.Math.abs.name, Cond.static Lib.Math.abs.name, Cond.code Lib.Math.abs.name Lib.Math.abs.code 1 (some .int), Cond.methodLink RX1 51 yX0_properCourseOf, Cond.instanceMethod yX0_properCourseOf, Cond.selects RX0 yX0_properCourseOf yX0_properCourseOf, Cond.code yX0_properCourseOf cX0_properCourseOf 2 (some .int)]
def wsX7_families_r3 : List Cond := [Cond.fieldLink RX0 29 "PlanetoidDesk$Bodies" "properCourses" "LPlanetoidDesk$Row;", Cond.static yX7_bOf, Cond.code yX7_bOf cX7_bOf 1 (some .int), Cond.static yX7_cOf, Cond.code yX7_cOf cX7_cOf 1 (some .int), Cond.methodLink RX1 20 yX5_at, Cond.methodLink RX7 181 yX0_numberOf, Cond.methodLink RX7 231 yX1_lowestNumberWith, Cond.instanceMethod yX1_lowestNumberWith, Cond.selects RX1 yX1_lowestNumberWith yX1_lowestNumberWith, Cond.code yX1_lowestNumberWith cX1_lowestNumberWith 2 (some .int)]
def wsX7_families : List Cond := .code yX7_families cX7_families 4 (some .int) :: ((wsX7_families_r1 ++ (wsX7_families_r2 ++ wsX7_families_r3)) ++ wsX70 ++ wsX00 ++ wsX10 ++ wsX50 ++ (vx_atS RX7 210 "java/lang/IllegalArgumentException" ["java/lang/RuntimeException", "java/lang/Exception"]).filter goodWord)
def wsX7_family_r1 : List Cond := [Cond.fieldLink RX7 19 "PlanetoidDesk" "bodies" "LPlanetoidDesk$Bodies;", Cond.fieldLink RX7 47 "PlanetoidDesk" "kinship" "LPlanetoidDesk$Kinship;", Cond.methodLink RX7 70 yX7_needOneOf, Cond.static yX7_needOneOf, Cond.initialized RX7, Cond.code yX7_needOneOf cX7_needOneOf 2 none, Cond.classLink RX7 241 "java/lang/IndexOutOfBoundsException", Cond.initialized "java/lang/IndexOutOfBoundsException", Cond.methodLink RX7 51 yX7_needWithin, Cond.static yX7_needWithin, Cond.code yX7_needWithin cX7_needWithin 3 none, Cond.classLink RX7 206 "java/lang/IllegalArgumentException", Cond.initialized "java/lang/IllegalArgumentException", Cond.methodLink RX7 181 yX0_numberOf, Cond.instanceMethod yX0_numberOf, Cond.selects RX0 yX0_numberOf yX0_numberOf, Cond.initialized RX0, Cond.code yX0_numberOf cX0_numberOf 2 (some .int), Cond.fieldLink RX0 26 "PlanetoidDesk$Bodies" "numbers" "LPlanetoidDesk$Row;", Cond.methodLink RX0 46 yX5_at, Cond.instanceMethod yX5_at, Cond.selects RX5 yX5_at yX5_at, Cond.initialized RX5, Cond.code yX5_at cX5_at 2 (some .int)]
def wsX7_family_r2 : List Cond := [Cond.fieldLink RX5 7 "PlanetoidDesk$Row" "cells" "[I", Cond.methodLink RX7 227 yX1_findFamilies, Cond.instanceMethod yX1_findFamilies, Cond.selects RX1 yX1_findFamilies yX1_findFamilies, Cond.initialized RX1, Cond.code yX1_findFamilies cX1_findFamilies 4 none, Cond.fieldLink RX1 14 "PlanetoidDesk$Kinship" "lowestNumbers" "LPlanetoidDesk$Row;", Cond.methodLink RX1 30 yX0_numberOf, Cond.methodLink RX1 33 yX5_put, Cond.instanceMethod yX5_put, Cond.selects RX5 yX5_put yX5_put, Cond.code yX5_put cX5_put 3 none, Cond.methodLink RX1 37 yX1_spreadLowest, Cond.instanceMethod yX1_spreadLowest, Cond.selects RX1 yX1_spreadLowest yX1_spreadLowest, Cond.code yX1_spreadLowest cX1_spreadLowest 6 none, Cond.methodLink RX1 45 Lib.Math.min.name, Cond.static Lib.Math.min.name, Cond.initialized "java/lang/Math", Cond.code Lib.Math.min.name Lib.Math.min.code 2 (some .int), Cond.methodLink RX1 41 yX1_areAkin, Cond.static yX1_areAkin, Cond.code yX1_areAkin cX1_areAkin 8 (some .boolean), Cond.methodLink RX1 57 Lib.Math.abs.name]
def wsX7_family_r3 : List Cond := [Cond.static Lib.Math.abs.name, Cond.code Lib.Math.abs.name Lib.Math.abs.code 1 (some .int), Cond.methodLink RX1 51 yX0_properCourseOf, Cond.instanceMethod yX0_properCourseOf, Cond.selects RX0 yX0_properCourseOf yX0_properCourseOf, Cond.code yX0_properCourseOf cX0_properCourseOf 2 (some .int), Cond.fieldLink RX0 29 "PlanetoidDesk$Bodies" "properCourses" "LPlanetoidDesk$Row;", Cond.static yX7_bOf, Cond.code yX7_bOf cX7_bOf 1 (some .int), Cond.static yX7_cOf, Cond.code yX7_cOf cX7_cOf 1 (some .int), Cond.methodLink RX1 20 yX5_at, Cond.methodLink RX7 231 yX1_lowestNumberWith, Cond.instanceMethod yX1_lowestNumberWith, Cond.selects RX1 yX1_lowestNumberWith yX1_lowestNumberWith, Cond.code yX1_lowestNumberWith cX1_lowestNumberWith 2 (some .int), Cond.methodLink RX7 234 yX0_withNumber, Cond.instanceMethod yX0_withNumber, Cond.selects RX0 yX0_withNumber yX0_withNumber, Cond.code yX0_withNumber cX0_withNumber 3 (some .int), Cond.fieldLink RX0 35 "PlanetoidDesk$Bodies" "count" "I"]
def wsX7_family : List Cond := .code yX7_family cX7_family 3 (some .int) :: ((wsX7_family_r1 ++ (wsX7_family_r2 ++ wsX7_family_r3)) ++ wsX70 ++ wsX00 ++ wsX50 ++ wsX10 ++ (vx_atS RX7 245 "java/lang/IndexOutOfBoundsException" ["java/lang/RuntimeException", "java/lang/Exception"]).filter goodWord ++ (vx_atS RX7 210 "java/lang/IllegalArgumentException" ["java/lang/RuntimeException", "java/lang/Exception"]).filter goodWord)
def wsX7_lightRange_r1 : List Cond := [Cond.fieldLink RX7 26 "PlanetoidDesk" "looks" "LPlanetoidDesk$Looks;", Cond.fieldLink RX7 10 "PlanetoidDesk" "sky" "LPlanetoidDesk$Sky;", Cond.methodLink RX7 288 Lib.Math.min.name, Cond.static Lib.Math.min.name, Cond.initialized "java/lang/Math", Cond.code Lib.Math.min.name Lib.Math.min.code 2 (some .int), Cond.methodLink RX7 293 Lib.Math.max.name, Cond.static Lib.Math.max.name, Cond.code Lib.Math.max.name Lib.Math.max.code 2 (some .int), Cond.methodLink RX7 254 yX2_dotAt, Cond.instanceMethod yX2_dotAt, Cond.selects RX2 yX2_dotAt yX2_dotAt, Cond.initialized RX2, Cond.code yX2_dotAt cX2_dotAt 2 (some .int), Cond.fieldLink RX2 14 "PlanetoidDesk$Looks" "dots" "LPlanetoidDesk$Row;", Cond.methodLink RX2 28 yX5_at, Cond.instanceMethod yX5_at, Cond.selects RX5 yX5_at yX5_at, Cond.initialized RX5, Cond.code yX5_at cX5_at 2 (some .int), Cond.fieldLink RX5 7 "PlanetoidDesk$Row" "cells" "[I", Cond.methodLink RX7 95 yX6_nightOf, Cond.instanceMethod yX6_nightOf, Cond.selects RX6 yX6_nightOf yX6_nightOf]
def wsX7_lightRange_r2 : List Cond := [Cond.initialized RX6, Cond.code yX6_nightOf cX6_nightOf 2 (some .int), Cond.fieldLink RX6 23 "PlanetoidDesk$Sky" "plateNights" "LPlanetoidDesk$Row;", Cond.fieldLink RX6 26 "PlanetoidDesk$Sky" "dotPlates" "LPlanetoidDesk$Row;", Cond.methodLink RX6 52 yX5_at, Cond.methodLink RX7 101 yX6_lightOf, Cond.instanceMethod yX6_lightOf, Cond.selects RX6 yX6_lightOf yX6_lightOf, Cond.code yX6_lightOf cX6_lightOf 2 (some .int), Cond.fieldLink RX6 32 "PlanetoidDesk$Sky" "dotLights" "LPlanetoidDesk$Row;"]
def wsX7_lightRange : List Cond := .code yX7_lightRange cX7_lightRange 7 (some .int) :: ((wsX7_lightRange_r1 ++ wsX7_lightRange_r2) ++ wsX70 ++ wsX20 ++ wsX50 ++ wsX60)
def wsX7_faultOf_r1 : List Cond := [Cond.methodLink RX7 317 yX7_lightRange, Cond.instanceMethod yX7_lightRange, Cond.selects RX7 yX7_lightRange yX7_lightRange, Cond.initialized RX7, Cond.code yX7_lightRange cX7_lightRange 7 (some .int), Cond.fieldLink RX7 26 "PlanetoidDesk" "looks" "LPlanetoidDesk$Looks;", Cond.fieldLink RX7 10 "PlanetoidDesk" "sky" "LPlanetoidDesk$Sky;", Cond.methodLink RX7 288 Lib.Math.min.name, Cond.static Lib.Math.min.name, Cond.initialized "java/lang/Math", Cond.code Lib.Math.min.name Lib.Math.min.code 2 (some .int), Cond.methodLink RX7 293 Lib.Math.max.name, Cond.static Lib.Math.max.name, Cond.code Lib.Math.max.name Lib.Math.max.code 2 (some .int), Cond.methodLink RX7 254 yX2_dotAt, Cond.instanceMethod yX2_dotAt, Cond.selects RX2 yX2_dotAt yX2_dotAt, Cond.initialized RX2, Cond.code yX2_dotAt cX2_dotAt 2 (some .int), Cond.fieldLink RX2 14 "PlanetoidDesk$Looks" "dots" "LPlanetoidDesk$Row;", Cond.methodLink RX2 28 yX5_at, Cond.instanceMethod yX5_at, Cond.selects RX5 yX5_at yX5_at, Cond.initialized RX5]
def wsX7_faultOf_r2 : List Cond := [Cond.code yX5_at cX5_at 2 (some .int), Cond.fieldLink RX5 7 "PlanetoidDesk$Row" "cells" "[I", Cond.methodLink RX7 95 yX6_nightOf, Cond.instanceMethod yX6_nightOf, Cond.selects RX6 yX6_nightOf yX6_nightOf, Cond.initialized RX6, Cond.code yX6_nightOf cX6_nightOf 2 (some .int), Cond.fieldLink RX6 23 "PlanetoidDesk$Sky" "plateNights" "LPlanetoidDesk$Row;", Cond.fieldLink RX6 26 "PlanetoidDesk$Sky" "dotPlates" "LPlanetoidDesk$Row;", Cond.methodLink RX6 52 yX5_at, Cond.methodLink RX7 101 yX6_lightOf, Cond.instanceMethod yX6_lightOf, Cond.selects RX6 yX6_lightOf yX6_lightOf, Cond.code yX6_lightOf cX6_lightOf 2 (some .int), Cond.fieldLink RX6 32 "PlanetoidDesk$Sky" "dotLights" "LPlanetoidDesk$Row;"]
def wsX7_faultOf : List Cond := .code yX7_faultOf cX7_faultOf 4 (some .int) :: ((wsX7_faultOf_r1 ++ wsX7_faultOf_r2) ++ wsX70 ++ wsX20 ++ wsX50 ++ wsX60)
def wsX7_turn_r1 : List Cond := [Cond.fieldLink RX7 19 "PlanetoidDesk" "bodies" "LPlanetoidDesk$Bodies;", Cond.fieldLink RX7 26 "PlanetoidDesk" "looks" "LPlanetoidDesk$Looks;", Cond.methodLink RX7 70 yX7_needOneOf, Cond.static yX7_needOneOf, Cond.initialized RX7, Cond.code yX7_needOneOf cX7_needOneOf 2 none, Cond.classLink RX7 241 "java/lang/IndexOutOfBoundsException", Cond.initialized "java/lang/IndexOutOfBoundsException", Cond.methodLink RX7 191 yX7_gatherLooks, Cond.instanceMethod yX7_gatherLooks, Cond.selects RX7 yX7_gatherLooks yX7_gatherLooks, Cond.code yX7_gatherLooks cX7_gatherLooks 3 none, Cond.fieldLink RX7 10 "PlanetoidDesk" "sky" "LPlanetoidDesk$Sky;", Cond.methodLink RX7 248 yX0_isLook, Cond.instanceMethod yX0_isLook, Cond.selects RX0 yX0_isLook yX0_isLook, Cond.initialized RX0, Cond.code yX0_isLook cX0_isLook 5 (some .boolean), Cond.fieldLink RX0 14 "PlanetoidDesk$Bodies" "owners" "LPlanetoidDesk$Row;", Cond.fieldLink RX0 20 "PlanetoidDesk$Bodies" "hosts" "LPlanetoidDesk$Row;", Cond.methodLink RX0 46 yX5_at, Cond.instanceMethod yX5_at, Cond.selects RX5 yX5_at yX5_at, Cond.initialized RX5]
def wsX7_turn_r2 : List Cond := [Cond.code yX5_at cX5_at 2 (some .int), Cond.fieldLink RX5 7 "PlanetoidDesk$Row" "cells" "[I", Cond.methodLink RX7 251 yX2_add, Cond.instanceMethod yX2_add, Cond.selects RX2 yX2_add yX2_add, Cond.initialized RX2, Cond.code yX2_add cX2_add 2 none, Cond.fieldLink RX2 14 "PlanetoidDesk$Looks" "dots" "LPlanetoidDesk$Row;", Cond.fieldLink RX2 20 "PlanetoidDesk$Looks" "count" "I", Cond.methodLink RX2 24 yX5_put, Cond.instanceMethod yX5_put, Cond.selects RX5 yX5_put yX5_put, Cond.code yX5_put cX5_put 3 none, Cond.methodLink RX7 238 yX7_faultOf, Cond.instanceMethod yX7_faultOf, Cond.selects RX7 yX7_faultOf yX7_faultOf, Cond.code yX7_faultOf cX7_faultOf 4 (some .int), Cond.methodLink RX7 317 yX7_lightRange, Cond.instanceMethod yX7_lightRange, Cond.selects RX7 yX7_lightRange yX7_lightRange, Cond.code yX7_lightRange cX7_lightRange 7 (some .int), Cond.methodLink RX7 288 Lib.Math.min.name, Cond.static Lib.Math.min.name, Cond.initialized "java/lang/Math"]
def wsX7_turn_r3 : List Cond := [Cond.code Lib.Math.min.name Lib.Math.min.code 2 (some .int), Cond.methodLink RX7 293 Lib.Math.max.name, Cond.static Lib.Math.max.name, Cond.code Lib.Math.max.name Lib.Math.max.code 2 (some .int), Cond.methodLink RX7 254 yX2_dotAt, Cond.instanceMethod yX2_dotAt, Cond.selects RX2 yX2_dotAt yX2_dotAt, Cond.code yX2_dotAt cX2_dotAt 2 (some .int), Cond.methodLink RX2 28 yX5_at, Cond.methodLink RX7 95 yX6_nightOf, Cond.instanceMethod yX6_nightOf, Cond.selects RX6 yX6_nightOf yX6_nightOf, Cond.initialized RX6, Cond.code yX6_nightOf cX6_nightOf 2 (some .int), Cond.fieldLink RX6 23 "PlanetoidDesk$Sky" "plateNights" "LPlanetoidDesk$Row;", Cond.fieldLink RX6 26 "PlanetoidDesk$Sky" "dotPlates" "LPlanetoidDesk$Row;", Cond.methodLink RX6 52 yX5_at, Cond.methodLink RX7 101 yX6_lightOf, Cond.instanceMethod yX6_lightOf, Cond.selects RX6 yX6_lightOf yX6_lightOf, Cond.code yX6_lightOf cX6_lightOf 2 (some .int), Cond.fieldLink RX6 32 "PlanetoidDesk$Sky" "dotLights" "LPlanetoidDesk$Row;"]
def wsX7_turn : List Cond := .code yX7_turn cX7_turn 7 (some .int) :: ((wsX7_turn_r1 ++ (wsX7_turn_r2 ++ wsX7_turn_r3)) ++ wsX70 ++ wsX00 ++ wsX20 ++ wsX60 ++ wsX50 ++ (vx_atS RX7 245 "java/lang/IndexOutOfBoundsException" ["java/lang/RuntimeException", "java/lang/Exception"]).filter goodWord)
def wsX8_init_r1 : List Cond := [Cond.methodLink RX8 1 objectInit, Cond.instanceMethod objectInit, Cond.code objectInit ⟨#[0xb1]⟩ 1 none, Cond.arrayClass .int, Cond.fieldLink RX8 7 "PlanetoidDeskModel" "shift" "[I", Cond.fieldLink RX8 13 "PlanetoidDeskModel" "error" "[I", Cond.fieldLink RX8 16 "PlanetoidDeskModel" "seat" "[I", Cond.fieldLink RX8 19 "PlanetoidDeskModel" "night" "[I", Cond.fieldLink RX8 22 "PlanetoidDeskModel" "plateOf" "[I", Cond.fieldLink RX8 25 "PlanetoidDeskModel" "measured" "[I", Cond.fieldLink RX8 28 "PlanetoidDeskModel" "light" "[I", Cond.fieldLink RX8 31 "PlanetoidDeskModel" "own" "[I", Cond.fieldLink RX8 34 "PlanetoidDeskModel" "above" "[I", Cond.fieldLink RX8 37 "PlanetoidDeskModel" "joinedAt" "[I", Cond.fieldLink RX8 40 "PlanetoidDeskModel" "numberOf" "[I", Cond.fieldLink RX8 43 "PlanetoidDeskModel" "properB" "[I", Cond.fieldLink RX8 46 "PlanetoidDeskModel" "properC" "[I", Cond.fieldLink RX8 49 "PlanetoidDeskModel" "look" "[I", Cond.fieldLink RX8 52 "PlanetoidDeskModel" "key" "[I", Cond.fieldLink RX8 55 "PlanetoidDeskModel" "often" "[I", Cond.fieldLink RX8 58 "PlanetoidDeskModel" "head" "[I", Cond.fieldLink RX8 61 "PlanetoidDeskModel" "next" "[I", Cond.fieldLink RX8 64 "PlanetoidDeskModel" "way" "[I", Cond.arrayClass .boolean]
def wsX8_init_r2 : List Cond := [Cond.fieldLink RX8 67 "PlanetoidDeskModel" "comes" "[Z", Cond.fieldLink RX8 71 "PlanetoidDeskModel" "least" "[I", Cond.fieldLink RX8 74 "PlanetoidDeskModel" "most" "[I", Cond.fieldLink RX8 77 "PlanetoidDeskModel" "reached" "[I"]
def wsX8_init : List Cond := .code yX8_init cX8_init 1 none :: ((wsX8_init_r1 ++ wsX8_init_r2) ++ wsX80)
def wsX8_thrown : List Cond := .code yX8_thrown cX8_thrown 1 (some .int) :: ([.fieldLink RX8 80 "PlanetoidDeskModel" "thrown" "I"] ++ wsX80)
def wsX8_can : List Cond := .code yX8_can cX8_can 2 (some .boolean) :: ([.fieldLink RX8 80 "PlanetoidDeskModel" "thrown" "I"] ++ wsX80)
def wsX8_isIn : List Cond := .code yX8_isIn cX8_isIn 3 (some .boolean) :: ([])
def wsX8_size : List Cond := .code yX8_size cX8_size 1 (some .int) :: ([])
def wsX8_round : List Cond := .code yX8_round cX8_round 2 (some .int) :: ([])
def wsX8_apart : List Cond := .code yX8_apart cX8_apart 3 (some .int) :: ([.methodLink RX8 84 yX8_size, .static yX8_size, .initialized RX8, .code yX8_size cX8_size 1 (some .int)])
def wsX8_isNight : List Cond := .code yX8_isNight cX8_isNight 1 (some .boolean) :: ([.methodLink RX8 88 yX8_isIn, .static yX8_isIn, .initialized RX8, .code yX8_isIn cX8_isIn 3 (some .boolean)])
def wsX8_isDot : List Cond := .code yX8_isDot cX8_isDot 2 (some .boolean) :: ([.fieldLink RX8 92 "PlanetoidDeskModel" "dots" "I", .methodLink RX8 88 yX8_isIn, .static yX8_isIn, .initialized RX8, .code yX8_isIn cX8_isIn 3 (some .boolean)] ++ wsX80)
def wsX8_isBody : List Cond := .code yX8_isBody cX8_isBody 2 (some .boolean) :: ([.fieldLink RX8 95 "PlanetoidDeskModel" "bodies" "I", .methodLink RX8 88 yX8_isIn, .static yX8_isIn, .initialized RX8, .code yX8_isIn cX8_isIn 3 (some .boolean)] ++ wsX80)
def wsX8_observatory : List Cond := .code yX8_observatory cX8_observatory 2 (some .int) :: ([.fieldLink RX8 98 "PlanetoidDeskModel" "observatories" "I", .fieldLink RX8 13 "PlanetoidDeskModel" "error" "[I", .methodLink RX8 88 yX8_isIn, .static yX8_isIn, .initialized RX8, .code yX8_isIn cX8_isIn 3 (some .boolean), .methodLink RX8 101 yX8_can, .instanceMethod yX8_can, .selects RX8 yX8_can yX8_can, .code yX8_can cX8_can 2 (some .boolean), .fieldLink RX8 80 "PlanetoidDeskModel" "thrown" "I"] ++ wsX80)
def wsX8_plate : List Cond := .code yX8_plate cX8_plate 4 (some .int) :: ([.fieldLink RX8 98 "PlanetoidDeskModel" "observatories" "I", .fieldLink RX8 108 "PlanetoidDeskModel" "plates" "I", .fieldLink RX8 16 "PlanetoidDeskModel" "seat" "[I", .fieldLink RX8 19 "PlanetoidDeskModel" "night" "[I", .methodLink RX8 88 yX8_isIn, .static yX8_isIn, .initialized RX8, .code yX8_isIn cX8_isIn 3 (some .boolean), .methodLink RX8 105 yX8_isNight, .static yX8_isNight, .code yX8_isNight cX8_isNight 1 (some .boolean), .methodLink RX8 101 yX8_can, .instanceMethod yX8_can, .selects RX8 yX8_can yX8_can, .code yX8_can cX8_can 2 (some .boolean), .fieldLink RX8 80 "PlanetoidDeskModel" "thrown" "I"] ++ wsX80)
def wsX8_dot : List Cond := .code yX8_dot cX8_dot 6 (some .int) :: ([.fieldLink RX8 108 "PlanetoidDeskModel" "plates" "I", .fieldLink RX8 92 "PlanetoidDeskModel" "dots" "I", .fieldLink RX8 22 "PlanetoidDeskModel" "plateOf" "[I", .fieldLink RX8 25 "PlanetoidDeskModel" "measured" "[I", .fieldLink RX8 28 "PlanetoidDeskModel" "light" "[I", .fieldLink RX8 31 "PlanetoidDeskModel" "own" "[I", .methodLink RX8 88 yX8_isIn, .static yX8_isIn, .initialized RX8, .code yX8_isIn cX8_isIn 3 (some .boolean), .methodLink RX8 101 yX8_can, .instanceMethod yX8_can, .selects RX8 yX8_can yX8_can, .code yX8_can cX8_can 2 (some .boolean), .fieldLink RX8 80 "PlanetoidDeskModel" "thrown" "I"] ++ wsX80)
def wsX8_shift : List Cond := .code yX8_shift cX8_shift 4 (some .int) :: ([.fieldLink RX8 7 "PlanetoidDeskModel" "shift" "[I", .methodLink RX8 88 yX8_isIn, .static yX8_isIn, .initialized RX8, .code yX8_isIn cX8_isIn 3 (some .boolean), .methodLink RX8 101 yX8_can, .instanceMethod yX8_can, .selects RX8 yX8_can yX8_can, .code yX8_can cX8_can 2 (some .boolean), .fieldLink RX8 80 "PlanetoidDeskModel" "thrown" "I"] ++ wsX80)
def wsX8_trueOf : List Cond := .code yX8_trueOf cX8_trueOf 2 (some .int) :: ([.fieldLink RX8 25 "PlanetoidDeskModel" "measured" "[I", .fieldLink RX8 7 "PlanetoidDeskModel" "shift" "[I", .methodLink RX8 111 yX8_round, .static yX8_round, .initialized RX8, .code yX8_round cX8_round 2 (some .int)] ++ wsX80)
def wsX8_nightOf : List Cond := .code yX8_nightOf cX8_nightOf 2 (some .int) :: ([.fieldLink RX8 19 "PlanetoidDeskModel" "night" "[I", .fieldLink RX8 22 "PlanetoidDeskModel" "plateOf" "[I"] ++ wsX80)
def wsX8_errorOf : List Cond := .code yX8_errorOf cX8_errorOf 2 (some .int) :: ([.fieldLink RX8 13 "PlanetoidDeskModel" "error" "[I", .fieldLink RX8 16 "PlanetoidDeskModel" "seat" "[I", .fieldLink RX8 22 "PlanetoidDeskModel" "plateOf" "[I"] ++ wsX80)
def wsX8_ofDot_r1 : List Cond := [Cond.fieldLink RX8 28 "PlanetoidDeskModel" "light" "[I", Cond.fieldLink RX8 31 "PlanetoidDeskModel" "own" "[I", Cond.methodLink RX8 114 yX8_isDot, Cond.instanceMethod yX8_isDot, Cond.selects RX8 yX8_isDot yX8_isDot, Cond.initialized RX8, Cond.code yX8_isDot cX8_isDot 2 (some .boolean), Cond.fieldLink RX8 92 "PlanetoidDeskModel" "dots" "I", Cond.methodLink RX8 88 yX8_isIn, Cond.static yX8_isIn, Cond.code yX8_isIn cX8_isIn 3 (some .boolean), Cond.methodLink RX8 101 yX8_can, Cond.instanceMethod yX8_can, Cond.selects RX8 yX8_can yX8_can, Cond.code yX8_can cX8_can 2 (some .boolean), Cond.fieldLink RX8 80 "PlanetoidDeskModel" "thrown" "I", Cond.methodLink RX8 117 yX8_nightOf, Cond.instanceMethod yX8_nightOf, Cond.selects RX8 yX8_nightOf yX8_nightOf, Cond.code yX8_nightOf cX8_nightOf 2 (some .int), Cond.fieldLink RX8 19 "PlanetoidDeskModel" "night" "[I", Cond.fieldLink RX8 22 "PlanetoidDeskModel" "plateOf" "[I", Cond.methodLink RX8 120 yX8_trueOf, Cond.instanceMethod yX8_trueOf]
def wsX8_ofDot_r2 : List Cond := [Cond.selects RX8 yX8_trueOf yX8_trueOf, Cond.code yX8_trueOf cX8_trueOf 2 (some .int), Cond.fieldLink RX8 25 "PlanetoidDeskModel" "measured" "[I", Cond.fieldLink RX8 7 "PlanetoidDeskModel" "shift" "[I", Cond.methodLink RX8 111 yX8_round, Cond.static yX8_round, Cond.code yX8_round cX8_round 2 (some .int)]
def wsX8_ofDot : List Cond := .code yX8_ofDot cX8_ofDot 3 (some .int) :: ((wsX8_ofDot_r1 ++ wsX8_ofDot_r2) ++ wsX80)
def wsX8_isBelow : List Cond := .code yX8_isBelow cX8_isBelow 4 (some .boolean) :: ([.fieldLink RX8 34 "PlanetoidDeskModel" "above" "[I"] ++ wsX80)
def wsX8_laysAlso : List Cond := .code yX8_laysAlso cX8_laysAlso 3 none :: ([.fieldLink RX8 92 "PlanetoidDeskModel" "dots" "I", .fieldLink RX8 31 "PlanetoidDeskModel" "own" "[I", .fieldLink RX8 49 "PlanetoidDeskModel" "look" "[I", .fieldLink RX8 127 "PlanetoidDeskModel" "looks" "I", .methodLink RX8 123 yX8_isBelow, .instanceMethod yX8_isBelow, .selects RX8 yX8_isBelow yX8_isBelow, .initialized RX8, .code yX8_isBelow cX8_isBelow 4 (some .boolean), .fieldLink RX8 34 "PlanetoidDeskModel" "above" "[I"] ++ wsX80)
def wsX8_lays : List Cond := .code yX8_lays cX8_lays 2 none :: ([.fieldLink RX8 127 "PlanetoidDeskModel" "looks" "I", .methodLink RX8 130 yX8_laysAlso, .instanceMethod yX8_laysAlso, .selects RX8 yX8_laysAlso yX8_laysAlso, .initialized RX8, .code yX8_laysAlso cX8_laysAlso 3 none, .fieldLink RX8 92 "PlanetoidDeskModel" "dots" "I", .fieldLink RX8 31 "PlanetoidDeskModel" "own" "[I", .fieldLink RX8 49 "PlanetoidDeskModel" "look" "[I", .methodLink RX8 123 yX8_isBelow, .instanceMethod yX8_isBelow, .selects RX8 yX8_isBelow yX8_isBelow, .code yX8_isBelow cX8_isBelow 4 (some .boolean), .fieldLink RX8 34 "PlanetoidDeskModel" "above" "[I"] ++ wsX80)
def wsX8_moves : List Cond := .code yX8_moves cX8_moves 3 (some .int) :: ([])
def wsX8_fits_r1 : List Cond := [Cond.fieldLink RX8 127 "PlanetoidDeskModel" "looks" "I", Cond.fieldLink RX8 49 "PlanetoidDeskModel" "look" "[I", Cond.methodLink RX8 117 yX8_nightOf, Cond.instanceMethod yX8_nightOf, Cond.selects RX8 yX8_nightOf yX8_nightOf, Cond.initialized RX8, Cond.code yX8_nightOf cX8_nightOf 2 (some .int), Cond.fieldLink RX8 19 "PlanetoidDeskModel" "night" "[I", Cond.fieldLink RX8 22 "PlanetoidDeskModel" "plateOf" "[I", Cond.methodLink RX8 134 yX8_moves, Cond.static yX8_moves, Cond.code yX8_moves cX8_moves 3 (some .int), Cond.methodLink RX8 111 yX8_round, Cond.static yX8_round, Cond.code yX8_round cX8_round 2 (some .int), Cond.methodLink RX8 120 yX8_trueOf, Cond.instanceMethod yX8_trueOf, Cond.selects RX8 yX8_trueOf yX8_trueOf, Cond.code yX8_trueOf cX8_trueOf 2 (some .int), Cond.fieldLink RX8 25 "PlanetoidDeskModel" "measured" "[I", Cond.fieldLink RX8 7 "PlanetoidDeskModel" "shift" "[I", Cond.methodLink RX8 138 yX8_apart, Cond.static yX8_apart, Cond.code yX8_apart cX8_apart 3 (some .int)]
def wsX8_fits_r2 : List Cond := [Cond.methodLink RX8 84 yX8_size, Cond.static yX8_size, Cond.code yX8_size cX8_size 1 (some .int), Cond.methodLink RX8 142 yX8_errorOf, Cond.instanceMethod yX8_errorOf, Cond.selects RX8 yX8_errorOf yX8_errorOf, Cond.code yX8_errorOf cX8_errorOf 2 (some .int), Cond.fieldLink RX8 13 "PlanetoidDeskModel" "error" "[I", Cond.fieldLink RX8 16 "PlanetoidDeskModel" "seat" "[I"]
def wsX8_fits : List Cond := .code yX8_fits cX8_fits 6 (some .boolean) :: ((wsX8_fits_r1 ++ wsX8_fits_r2) ++ wsX80)
def wsX8_finds_r1 : List Cond := [Cond.fieldLink RX8 145 "PlanetoidDeskModel" "found" "I", Cond.fieldLink RX8 49 "PlanetoidDeskModel" "look" "[I", Cond.fieldLink RX8 52 "PlanetoidDeskModel" "key" "[I", Cond.methodLink RX8 142 yX8_errorOf, Cond.instanceMethod yX8_errorOf, Cond.selects RX8 yX8_errorOf yX8_errorOf, Cond.initialized RX8, Cond.code yX8_errorOf cX8_errorOf 2 (some .int), Cond.fieldLink RX8 13 "PlanetoidDeskModel" "error" "[I", Cond.fieldLink RX8 16 "PlanetoidDeskModel" "seat" "[I", Cond.fieldLink RX8 22 "PlanetoidDeskModel" "plateOf" "[I", Cond.methodLink RX8 120 yX8_trueOf, Cond.instanceMethod yX8_trueOf, Cond.selects RX8 yX8_trueOf yX8_trueOf, Cond.code yX8_trueOf cX8_trueOf 2 (some .int), Cond.fieldLink RX8 25 "PlanetoidDeskModel" "measured" "[I", Cond.fieldLink RX8 7 "PlanetoidDeskModel" "shift" "[I", Cond.methodLink RX8 111 yX8_round, Cond.static yX8_round, Cond.code yX8_round cX8_round 2 (some .int), Cond.methodLink RX8 117 yX8_nightOf, Cond.instanceMethod yX8_nightOf, Cond.selects RX8 yX8_nightOf yX8_nightOf, Cond.code yX8_nightOf cX8_nightOf 2 (some .int)]
def wsX8_finds_r2 : List Cond := [Cond.fieldLink RX8 19 "PlanetoidDeskModel" "night" "[I", Cond.methodLink RX8 134 yX8_moves, Cond.static yX8_moves, Cond.code yX8_moves cX8_moves 3 (some .int), Cond.methodLink RX8 148 yX8_fits, Cond.instanceMethod yX8_fits, Cond.selects RX8 yX8_fits yX8_fits, Cond.code yX8_fits cX8_fits 6 (some .boolean), Cond.fieldLink RX8 127 "PlanetoidDeskModel" "looks" "I", Cond.methodLink RX8 138 yX8_apart, Cond.static yX8_apart, Cond.code yX8_apart cX8_apart 3 (some .int), Cond.methodLink RX8 84 yX8_size, Cond.static yX8_size, Cond.code yX8_size cX8_size 1 (some .int)]
def wsX8_finds : List Cond := .code yX8_finds cX8_finds 8 none :: ((wsX8_finds_r1 ++ wsX8_finds_r2) ++ wsX80)
def wsX8_hasOrbit_r1 : List Cond := [Cond.fieldLink RX8 145 "PlanetoidDeskModel" "found" "I", Cond.methodLink RX8 151 yX8_finds, Cond.instanceMethod yX8_finds, Cond.selects RX8 yX8_finds yX8_finds, Cond.initialized RX8, Cond.code yX8_finds cX8_finds 8 none, Cond.fieldLink RX8 49 "PlanetoidDeskModel" "look" "[I", Cond.fieldLink RX8 52 "PlanetoidDeskModel" "key" "[I", Cond.methodLink RX8 142 yX8_errorOf, Cond.instanceMethod yX8_errorOf, Cond.selects RX8 yX8_errorOf yX8_errorOf, Cond.code yX8_errorOf cX8_errorOf 2 (some .int), Cond.fieldLink RX8 13 "PlanetoidDeskModel" "error" "[I", Cond.fieldLink RX8 16 "PlanetoidDeskModel" "seat" "[I", Cond.fieldLink RX8 22 "PlanetoidDeskModel" "plateOf" "[I", Cond.methodLink RX8 120 yX8_trueOf, Cond.instanceMethod yX8_trueOf, Cond.selects RX8 yX8_trueOf yX8_trueOf, Cond.code yX8_trueOf cX8_trueOf 2 (some .int), Cond.fieldLink RX8 25 "PlanetoidDeskModel" "measured" "[I", Cond.fieldLink RX8 7 "PlanetoidDeskModel" "shift" "[I", Cond.methodLink RX8 111 yX8_round, Cond.static yX8_round, Cond.code yX8_round cX8_round 2 (some .int)]
def wsX8_hasOrbit_r2 : List Cond := [Cond.methodLink RX8 117 yX8_nightOf, Cond.instanceMethod yX8_nightOf, Cond.selects RX8 yX8_nightOf yX8_nightOf, Cond.code yX8_nightOf cX8_nightOf 2 (some .int), Cond.fieldLink RX8 19 "PlanetoidDeskModel" "night" "[I", Cond.methodLink RX8 134 yX8_moves, Cond.static yX8_moves, Cond.code yX8_moves cX8_moves 3 (some .int), Cond.methodLink RX8 148 yX8_fits, Cond.instanceMethod yX8_fits, Cond.selects RX8 yX8_fits yX8_fits, Cond.code yX8_fits cX8_fits 6 (some .boolean), Cond.fieldLink RX8 127 "PlanetoidDeskModel" "looks" "I", Cond.methodLink RX8 138 yX8_apart, Cond.static yX8_apart, Cond.code yX8_apart cX8_apart 3 (some .int), Cond.methodLink RX8 84 yX8_size, Cond.static yX8_size, Cond.code yX8_size cX8_size 1 (some .int)]
def wsX8_hasOrbit : List Cond := .code yX8_hasOrbit cX8_hasOrbit 1 (some .boolean) :: ((wsX8_hasOrbit_r1 ++ wsX8_hasOrbit_r2) ++ wsX80)
def wsX8_firstOf : List Cond := .code yX8_firstOf cX8_firstOf 4 (some .int) :: ([.fieldLink RX8 49 "PlanetoidDeskModel" "look" "[I", .fieldLink RX8 127 "PlanetoidDeskModel" "looks" "I", .methodLink RX8 154 yX8_lays, .instanceMethod yX8_lays, .selects RX8 yX8_lays yX8_lays, .initialized RX8, .code yX8_lays cX8_lays 2 none, .methodLink RX8 130 yX8_laysAlso, .instanceMethod yX8_laysAlso, .selects RX8 yX8_laysAlso yX8_laysAlso, .code yX8_laysAlso cX8_laysAlso 3 none, .fieldLink RX8 92 "PlanetoidDeskModel" "dots" "I", .fieldLink RX8 31 "PlanetoidDeskModel" "own" "[I", .methodLink RX8 123 yX8_isBelow, .instanceMethod yX8_isBelow, .selects RX8 yX8_isBelow yX8_isBelow, .code yX8_isBelow cX8_isBelow 4 (some .boolean), .fieldLink RX8 34 "PlanetoidDeskModel" "above" "[I", .methodLink RX8 117 yX8_nightOf, .instanceMethod yX8_nightOf, .selects RX8 yX8_nightOf yX8_nightOf, .code yX8_nightOf cX8_nightOf 2 (some .int), .fieldLink RX8 19 "PlanetoidDeskModel" "night" "[I", .fieldLink RX8 22 "PlanetoidDeskModel" "plateOf" "[I"] ++ wsX80)
def wsX8_body : List Cond := .code yX8_body cX8_body 3 (some .int) :: ([.fieldLink RX8 31 "PlanetoidDeskModel" "own" "[I", .fieldLink RX8 95 "PlanetoidDeskModel" "bodies" "I", .fieldLink RX8 34 "PlanetoidDeskModel" "above" "[I", .methodLink RX8 114 yX8_isDot, .instanceMethod yX8_isDot, .selects RX8 yX8_isDot yX8_isDot, .initialized RX8, .code yX8_isDot cX8_isDot 2 (some .boolean), .fieldLink RX8 92 "PlanetoidDeskModel" "dots" "I", .methodLink RX8 88 yX8_isIn, .static yX8_isIn, .code yX8_isIn cX8_isIn 3 (some .boolean), .methodLink RX8 101 yX8_can, .instanceMethod yX8_can, .selects RX8 yX8_can yX8_can, .code yX8_can cX8_can 2 (some .boolean), .fieldLink RX8 80 "PlanetoidDeskModel" "thrown" "I"] ++ wsX80)
def wsX8_isOnPlate : List Cond := .code yX8_isOnPlate cX8_isOnPlate 5 (some .boolean) :: ([.fieldLink RX8 22 "PlanetoidDeskModel" "plateOf" "[I", .fieldLink RX8 49 "PlanetoidDeskModel" "look" "[I"] ++ wsX80)
def wsX8_canLink_r1 : List Cond := [Cond.fieldLink RX8 31 "PlanetoidDeskModel" "own" "[I", Cond.fieldLink RX8 34 "PlanetoidDeskModel" "above" "[I", Cond.fieldLink RX8 22 "PlanetoidDeskModel" "plateOf" "[I", Cond.fieldLink RX8 127 "PlanetoidDeskModel" "looks" "I", Cond.fieldLink RX8 49 "PlanetoidDeskModel" "look" "[I", Cond.methodLink RX8 154 yX8_lays, Cond.instanceMethod yX8_lays, Cond.selects RX8 yX8_lays yX8_lays, Cond.initialized RX8, Cond.code yX8_lays cX8_lays 2 none, Cond.methodLink RX8 130 yX8_laysAlso, Cond.instanceMethod yX8_laysAlso, Cond.selects RX8 yX8_laysAlso yX8_laysAlso, Cond.code yX8_laysAlso cX8_laysAlso 3 none, Cond.fieldLink RX8 92 "PlanetoidDeskModel" "dots" "I", Cond.methodLink RX8 123 yX8_isBelow, Cond.instanceMethod yX8_isBelow, Cond.selects RX8 yX8_isBelow yX8_isBelow, Cond.code yX8_isBelow cX8_isBelow 4 (some .boolean), Cond.methodLink RX8 157 yX8_isOnPlate, Cond.instanceMethod yX8_isOnPlate, Cond.selects RX8 yX8_isOnPlate yX8_isOnPlate, Cond.code yX8_isOnPlate cX8_isOnPlate 5 (some .boolean), Cond.methodLink RX8 160 yX8_hasOrbit]
def wsX8_canLink_r2 : List Cond := [Cond.instanceMethod yX8_hasOrbit, Cond.selects RX8 yX8_hasOrbit yX8_hasOrbit, Cond.code yX8_hasOrbit cX8_hasOrbit 1 (some .boolean), Cond.fieldLink RX8 145 "PlanetoidDeskModel" "found" "I", Cond.methodLink RX8 151 yX8_finds, Cond.instanceMethod yX8_finds, Cond.selects RX8 yX8_finds yX8_finds, Cond.code yX8_finds cX8_finds 8 none, Cond.fieldLink RX8 52 "PlanetoidDeskModel" "key" "[I", Cond.methodLink RX8 142 yX8_errorOf, Cond.instanceMethod yX8_errorOf, Cond.selects RX8 yX8_errorOf yX8_errorOf, Cond.code yX8_errorOf cX8_errorOf 2 (some .int), Cond.fieldLink RX8 13 "PlanetoidDeskModel" "error" "[I", Cond.fieldLink RX8 16 "PlanetoidDeskModel" "seat" "[I", Cond.methodLink RX8 120 yX8_trueOf, Cond.instanceMethod yX8_trueOf, Cond.selects RX8 yX8_trueOf yX8_trueOf, Cond.code yX8_trueOf cX8_trueOf 2 (some .int), Cond.fieldLink RX8 25 "PlanetoidDeskModel" "measured" "[I", Cond.fieldLink RX8 7 "PlanetoidDeskModel" "shift" "[I", Cond.methodLink RX8 111 yX8_round, Cond.static yX8_round, Cond.code yX8_round cX8_round 2 (some .int)]
def wsX8_canLink_r3 : List Cond := [Cond.methodLink RX8 117 yX8_nightOf, Cond.instanceMethod yX8_nightOf, Cond.selects RX8 yX8_nightOf yX8_nightOf, Cond.code yX8_nightOf cX8_nightOf 2 (some .int), Cond.fieldLink RX8 19 "PlanetoidDeskModel" "night" "[I", Cond.methodLink RX8 134 yX8_moves, Cond.static yX8_moves, Cond.code yX8_moves cX8_moves 3 (some .int), Cond.methodLink RX8 148 yX8_fits, Cond.instanceMethod yX8_fits, Cond.selects RX8 yX8_fits yX8_fits, Cond.code yX8_fits cX8_fits 6 (some .boolean), Cond.methodLink RX8 138 yX8_apart, Cond.static yX8_apart, Cond.code yX8_apart cX8_apart 3 (some .int), Cond.methodLink RX8 84 yX8_size, Cond.static yX8_size, Cond.code yX8_size cX8_size 1 (some .int)]
def wsX8_canLink : List Cond := .code yX8_canLink cX8_canLink 3 (some .boolean) :: ((wsX8_canLink_r1 ++ (wsX8_canLink_r2 ++ wsX8_canLink_r3)) ++ wsX80)
def wsX8_link_r1 : List Cond := [Cond.fieldLink RX8 31 "PlanetoidDeskModel" "own" "[I", Cond.fieldLink RX8 127 "PlanetoidDeskModel" "looks" "I", Cond.methodLink RX8 164 yX8_isBody, Cond.instanceMethod yX8_isBody, Cond.selects RX8 yX8_isBody yX8_isBody, Cond.initialized RX8, Cond.code yX8_isBody cX8_isBody 2 (some .boolean), Cond.fieldLink RX8 95 "PlanetoidDeskModel" "bodies" "I", Cond.methodLink RX8 88 yX8_isIn, Cond.static yX8_isIn, Cond.code yX8_isIn cX8_isIn 3 (some .boolean), Cond.methodLink RX8 114 yX8_isDot, Cond.instanceMethod yX8_isDot, Cond.selects RX8 yX8_isDot yX8_isDot, Cond.code yX8_isDot cX8_isDot 2 (some .boolean), Cond.fieldLink RX8 92 "PlanetoidDeskModel" "dots" "I", Cond.methodLink RX8 167 yX8_canLink, Cond.instanceMethod yX8_canLink, Cond.selects RX8 yX8_canLink yX8_canLink, Cond.code yX8_canLink cX8_canLink 3 (some .boolean), Cond.fieldLink RX8 34 "PlanetoidDeskModel" "above" "[I", Cond.fieldLink RX8 22 "PlanetoidDeskModel" "plateOf" "[I", Cond.fieldLink RX8 49 "PlanetoidDeskModel" "look" "[I", Cond.methodLink RX8 154 yX8_lays]
def wsX8_link_r2 : List Cond := [Cond.instanceMethod yX8_lays, Cond.selects RX8 yX8_lays yX8_lays, Cond.code yX8_lays cX8_lays 2 none, Cond.methodLink RX8 130 yX8_laysAlso, Cond.instanceMethod yX8_laysAlso, Cond.selects RX8 yX8_laysAlso yX8_laysAlso, Cond.code yX8_laysAlso cX8_laysAlso 3 none, Cond.methodLink RX8 123 yX8_isBelow, Cond.instanceMethod yX8_isBelow, Cond.selects RX8 yX8_isBelow yX8_isBelow, Cond.code yX8_isBelow cX8_isBelow 4 (some .boolean), Cond.methodLink RX8 157 yX8_isOnPlate, Cond.instanceMethod yX8_isOnPlate, Cond.selects RX8 yX8_isOnPlate yX8_isOnPlate, Cond.code yX8_isOnPlate cX8_isOnPlate 5 (some .boolean), Cond.methodLink RX8 160 yX8_hasOrbit, Cond.instanceMethod yX8_hasOrbit, Cond.selects RX8 yX8_hasOrbit yX8_hasOrbit, Cond.code yX8_hasOrbit cX8_hasOrbit 1 (some .boolean), Cond.fieldLink RX8 145 "PlanetoidDeskModel" "found" "I", Cond.methodLink RX8 151 yX8_finds, Cond.instanceMethod yX8_finds, Cond.selects RX8 yX8_finds yX8_finds, Cond.code yX8_finds cX8_finds 8 none]
def wsX8_link_r3 : List Cond := [Cond.fieldLink RX8 52 "PlanetoidDeskModel" "key" "[I", Cond.methodLink RX8 142 yX8_errorOf, Cond.instanceMethod yX8_errorOf, Cond.selects RX8 yX8_errorOf yX8_errorOf, Cond.code yX8_errorOf cX8_errorOf 2 (some .int), Cond.fieldLink RX8 13 "PlanetoidDeskModel" "error" "[I", Cond.fieldLink RX8 16 "PlanetoidDeskModel" "seat" "[I", Cond.methodLink RX8 120 yX8_trueOf, Cond.instanceMethod yX8_trueOf, Cond.selects RX8 yX8_trueOf yX8_trueOf, Cond.code yX8_trueOf cX8_trueOf 2 (some .int), Cond.fieldLink RX8 25 "PlanetoidDeskModel" "measured" "[I", Cond.fieldLink RX8 7 "PlanetoidDeskModel" "shift" "[I", Cond.methodLink RX8 111 yX8_round, Cond.static yX8_round, Cond.code yX8_round cX8_round 2 (some .int), Cond.methodLink RX8 117 yX8_nightOf, Cond.instanceMethod yX8_nightOf, Cond.selects RX8 yX8_nightOf yX8_nightOf, Cond.code yX8_nightOf cX8_nightOf 2 (some .int), Cond.fieldLink RX8 19 "PlanetoidDeskModel" "night" "[I", Cond.methodLink RX8 134 yX8_moves, Cond.static yX8_moves, Cond.code yX8_moves cX8_moves 3 (some .int)]
def wsX8_link_r4 : List Cond := [Cond.methodLink RX8 148 yX8_fits, Cond.instanceMethod yX8_fits, Cond.selects RX8 yX8_fits yX8_fits, Cond.code yX8_fits cX8_fits 6 (some .boolean), Cond.methodLink RX8 138 yX8_apart, Cond.static yX8_apart, Cond.code yX8_apart cX8_apart 3 (some .int), Cond.methodLink RX8 84 yX8_size, Cond.static yX8_size, Cond.code yX8_size cX8_size 1 (some .int), Cond.methodLink RX8 101 yX8_can, Cond.instanceMethod yX8_can, Cond.selects RX8 yX8_can yX8_can, Cond.code yX8_can cX8_can 2 (some .boolean), Cond.fieldLink RX8 80 "PlanetoidDeskModel" "thrown" "I"]
def wsX8_link : List Cond := .code yX8_link cX8_link 4 (some .int) :: ((wsX8_link_r1 ++ (wsX8_link_r2 ++ (wsX8_link_r3 ++ wsX8_link_r4))) ++ wsX80)
def wsX8_ownOf : List Cond := .code yX8_ownOf cX8_ownOf 4 (some .int) :: ([.fieldLink RX8 92 "PlanetoidDeskModel" "dots" "I", .fieldLink RX8 31 "PlanetoidDeskModel" "own" "[I"] ++ wsX80)
def wsX8_unlink : List Cond := .code yX8_unlink cX8_unlink 4 (some .int) :: ([.fieldLink RX8 31 "PlanetoidDeskModel" "own" "[I", .methodLink RX8 164 yX8_isBody, .instanceMethod yX8_isBody, .selects RX8 yX8_isBody yX8_isBody, .initialized RX8, .code yX8_isBody cX8_isBody 2 (some .boolean), .fieldLink RX8 95 "PlanetoidDeskModel" "bodies" "I", .methodLink RX8 88 yX8_isIn, .static yX8_isIn, .code yX8_isIn cX8_isIn 3 (some .boolean), .methodLink RX8 114 yX8_isDot, .instanceMethod yX8_isDot, .selects RX8 yX8_isDot yX8_isDot, .code yX8_isDot cX8_isDot 2 (some .boolean), .fieldLink RX8 92 "PlanetoidDeskModel" "dots" "I", .methodLink RX8 170 yX8_ownOf, .instanceMethod yX8_ownOf, .selects RX8 yX8_ownOf yX8_ownOf, .code yX8_ownOf cX8_ownOf 4 (some .int), .methodLink RX8 101 yX8_can, .instanceMethod yX8_can, .selects RX8 yX8_can yX8_can, .code yX8_can cX8_can 2 (some .boolean), .fieldLink RX8 80 "PlanetoidDeskModel" "thrown" "I"] ++ wsX80)
def wsX8_canJoin_r1 : List Cond := [Cond.fieldLink RX8 34 "PlanetoidDeskModel" "above" "[I", Cond.fieldLink RX8 40 "PlanetoidDeskModel" "numberOf" "[I", Cond.fieldLink RX8 127 "PlanetoidDeskModel" "looks" "I", Cond.fieldLink RX8 22 "PlanetoidDeskModel" "plateOf" "[I", Cond.fieldLink RX8 49 "PlanetoidDeskModel" "look" "[I", Cond.methodLink RX8 154 yX8_lays, Cond.instanceMethod yX8_lays, Cond.selects RX8 yX8_lays yX8_lays, Cond.initialized RX8, Cond.code yX8_lays cX8_lays 2 none, Cond.methodLink RX8 130 yX8_laysAlso, Cond.instanceMethod yX8_laysAlso, Cond.selects RX8 yX8_laysAlso yX8_laysAlso, Cond.code yX8_laysAlso cX8_laysAlso 3 none, Cond.fieldLink RX8 92 "PlanetoidDeskModel" "dots" "I", Cond.fieldLink RX8 31 "PlanetoidDeskModel" "own" "[I", Cond.methodLink RX8 123 yX8_isBelow, Cond.instanceMethod yX8_isBelow, Cond.selects RX8 yX8_isBelow yX8_isBelow, Cond.code yX8_isBelow cX8_isBelow 4 (some .boolean), Cond.methodLink RX8 157 yX8_isOnPlate, Cond.instanceMethod yX8_isOnPlate, Cond.selects RX8 yX8_isOnPlate yX8_isOnPlate, Cond.code yX8_isOnPlate cX8_isOnPlate 5 (some .boolean)]
def wsX8_canJoin_r2 : List Cond := [Cond.methodLink RX8 160 yX8_hasOrbit, Cond.instanceMethod yX8_hasOrbit, Cond.selects RX8 yX8_hasOrbit yX8_hasOrbit, Cond.code yX8_hasOrbit cX8_hasOrbit 1 (some .boolean), Cond.fieldLink RX8 145 "PlanetoidDeskModel" "found" "I", Cond.methodLink RX8 151 yX8_finds, Cond.instanceMethod yX8_finds, Cond.selects RX8 yX8_finds yX8_finds, Cond.code yX8_finds cX8_finds 8 none, Cond.fieldLink RX8 52 "PlanetoidDeskModel" "key" "[I", Cond.methodLink RX8 142 yX8_errorOf, Cond.instanceMethod yX8_errorOf, Cond.selects RX8 yX8_errorOf yX8_errorOf, Cond.code yX8_errorOf cX8_errorOf 2 (some .int), Cond.fieldLink RX8 13 "PlanetoidDeskModel" "error" "[I", Cond.fieldLink RX8 16 "PlanetoidDeskModel" "seat" "[I", Cond.methodLink RX8 120 yX8_trueOf, Cond.instanceMethod yX8_trueOf, Cond.selects RX8 yX8_trueOf yX8_trueOf, Cond.code yX8_trueOf cX8_trueOf 2 (some .int), Cond.fieldLink RX8 25 "PlanetoidDeskModel" "measured" "[I", Cond.fieldLink RX8 7 "PlanetoidDeskModel" "shift" "[I", Cond.methodLink RX8 111 yX8_round, Cond.static yX8_round]
def wsX8_canJoin_r3 : List Cond := [Cond.code yX8_round cX8_round 2 (some .int), Cond.methodLink RX8 117 yX8_nightOf, Cond.instanceMethod yX8_nightOf, Cond.selects RX8 yX8_nightOf yX8_nightOf, Cond.code yX8_nightOf cX8_nightOf 2 (some .int), Cond.fieldLink RX8 19 "PlanetoidDeskModel" "night" "[I", Cond.methodLink RX8 134 yX8_moves, Cond.static yX8_moves, Cond.code yX8_moves cX8_moves 3 (some .int), Cond.methodLink RX8 148 yX8_fits, Cond.instanceMethod yX8_fits, Cond.selects RX8 yX8_fits yX8_fits, Cond.code yX8_fits cX8_fits 6 (some .boolean), Cond.methodLink RX8 138 yX8_apart, Cond.static yX8_apart, Cond.code yX8_apart cX8_apart 3 (some .int), Cond.methodLink RX8 84 yX8_size, Cond.static yX8_size, Cond.code yX8_size cX8_size 1 (some .int)]
def wsX8_canJoin : List Cond := .code yX8_canJoin cX8_canJoin 6 (some .boolean) :: ((wsX8_canJoin_r1 ++ (wsX8_canJoin_r2 ++ wsX8_canJoin_r3)) ++ wsX80)
def wsX8_stronger_r1 : List Cond := [Cond.fieldLink RX8 40 "PlanetoidDeskModel" "numberOf" "[I", Cond.methodLink RX8 173 yX8_firstOf, Cond.instanceMethod yX8_firstOf, Cond.selects RX8 yX8_firstOf yX8_firstOf, Cond.initialized RX8, Cond.code yX8_firstOf cX8_firstOf 4 (some .int), Cond.fieldLink RX8 49 "PlanetoidDeskModel" "look" "[I", Cond.fieldLink RX8 127 "PlanetoidDeskModel" "looks" "I", Cond.methodLink RX8 154 yX8_lays, Cond.instanceMethod yX8_lays, Cond.selects RX8 yX8_lays yX8_lays, Cond.code yX8_lays cX8_lays 2 none, Cond.methodLink RX8 130 yX8_laysAlso, Cond.instanceMethod yX8_laysAlso, Cond.selects RX8 yX8_laysAlso yX8_laysAlso, Cond.code yX8_laysAlso cX8_laysAlso 3 none, Cond.fieldLink RX8 92 "PlanetoidDeskModel" "dots" "I", Cond.fieldLink RX8 31 "PlanetoidDeskModel" "own" "[I", Cond.methodLink RX8 123 yX8_isBelow, Cond.instanceMethod yX8_isBelow, Cond.selects RX8 yX8_isBelow yX8_isBelow, Cond.code yX8_isBelow cX8_isBelow 4 (some .boolean), Cond.fieldLink RX8 34 "PlanetoidDeskModel" "above" "[I", Cond.methodLink RX8 117 yX8_nightOf]
def wsX8_stronger_r2 : List Cond := [Cond.instanceMethod yX8_nightOf, Cond.selects RX8 yX8_nightOf yX8_nightOf, Cond.code yX8_nightOf cX8_nightOf 2 (some .int), Cond.fieldLink RX8 19 "PlanetoidDeskModel" "night" "[I", Cond.fieldLink RX8 22 "PlanetoidDeskModel" "plateOf" "[I"]
def wsX8_stronger : List Cond := .code yX8_stronger cX8_stronger 6 (some .int) :: ((wsX8_stronger_r1 ++ wsX8_stronger_r2) ++ wsX80)
def wsX8_join_r1 : List Cond := [Cond.fieldLink RX8 34 "PlanetoidDeskModel" "above" "[I", Cond.fieldLink RX8 37 "PlanetoidDeskModel" "joinedAt" "[I", Cond.fieldLink RX8 182 "PlanetoidDeskModel" "joins" "I", Cond.methodLink RX8 164 yX8_isBody, Cond.instanceMethod yX8_isBody, Cond.selects RX8 yX8_isBody yX8_isBody, Cond.initialized RX8, Cond.code yX8_isBody cX8_isBody 2 (some .boolean), Cond.fieldLink RX8 95 "PlanetoidDeskModel" "bodies" "I", Cond.methodLink RX8 88 yX8_isIn, Cond.static yX8_isIn, Cond.code yX8_isIn cX8_isIn 3 (some .boolean), Cond.methodLink RX8 176 yX8_canJoin, Cond.instanceMethod yX8_canJoin, Cond.selects RX8 yX8_canJoin yX8_canJoin, Cond.code yX8_canJoin cX8_canJoin 6 (some .boolean), Cond.fieldLink RX8 40 "PlanetoidDeskModel" "numberOf" "[I", Cond.fieldLink RX8 127 "PlanetoidDeskModel" "looks" "I", Cond.fieldLink RX8 22 "PlanetoidDeskModel" "plateOf" "[I", Cond.fieldLink RX8 49 "PlanetoidDeskModel" "look" "[I", Cond.methodLink RX8 154 yX8_lays, Cond.instanceMethod yX8_lays, Cond.selects RX8 yX8_lays yX8_lays, Cond.code yX8_lays cX8_lays 2 none]
def wsX8_join_r2 : List Cond := [Cond.methodLink RX8 130 yX8_laysAlso, Cond.instanceMethod yX8_laysAlso, Cond.selects RX8 yX8_laysAlso yX8_laysAlso, Cond.code yX8_laysAlso cX8_laysAlso 3 none, Cond.fieldLink RX8 92 "PlanetoidDeskModel" "dots" "I", Cond.fieldLink RX8 31 "PlanetoidDeskModel" "own" "[I", Cond.methodLink RX8 123 yX8_isBelow, Cond.instanceMethod yX8_isBelow, Cond.selects RX8 yX8_isBelow yX8_isBelow, Cond.code yX8_isBelow cX8_isBelow 4 (some .boolean), Cond.methodLink RX8 157 yX8_isOnPlate, Cond.instanceMethod yX8_isOnPlate, Cond.selects RX8 yX8_isOnPlate yX8_isOnPlate, Cond.code yX8_isOnPlate cX8_isOnPlate 5 (some .boolean), Cond.methodLink RX8 160 yX8_hasOrbit, Cond.instanceMethod yX8_hasOrbit, Cond.selects RX8 yX8_hasOrbit yX8_hasOrbit, Cond.code yX8_hasOrbit cX8_hasOrbit 1 (some .boolean), Cond.fieldLink RX8 145 "PlanetoidDeskModel" "found" "I", Cond.methodLink RX8 151 yX8_finds, Cond.instanceMethod yX8_finds, Cond.selects RX8 yX8_finds yX8_finds, Cond.code yX8_finds cX8_finds 8 none, Cond.fieldLink RX8 52 "PlanetoidDeskModel" "key" "[I"]
def wsX8_join_r3 : List Cond := [Cond.methodLink RX8 142 yX8_errorOf, Cond.instanceMethod yX8_errorOf, Cond.selects RX8 yX8_errorOf yX8_errorOf, Cond.code yX8_errorOf cX8_errorOf 2 (some .int), Cond.fieldLink RX8 13 "PlanetoidDeskModel" "error" "[I", Cond.fieldLink RX8 16 "PlanetoidDeskModel" "seat" "[I", Cond.methodLink RX8 120 yX8_trueOf, Cond.instanceMethod yX8_trueOf, Cond.selects RX8 yX8_trueOf yX8_trueOf, Cond.code yX8_trueOf cX8_trueOf 2 (some .int), Cond.fieldLink RX8 25 "PlanetoidDeskModel" "measured" "[I", Cond.fieldLink RX8 7 "PlanetoidDeskModel" "shift" "[I", Cond.methodLink RX8 111 yX8_round, Cond.static yX8_round, Cond.code yX8_round cX8_round 2 (some .int), Cond.methodLink RX8 117 yX8_nightOf, Cond.instanceMethod yX8_nightOf, Cond.selects RX8 yX8_nightOf yX8_nightOf, Cond.code yX8_nightOf cX8_nightOf 2 (some .int), Cond.fieldLink RX8 19 "PlanetoidDeskModel" "night" "[I", Cond.methodLink RX8 134 yX8_moves, Cond.static yX8_moves, Cond.code yX8_moves cX8_moves 3 (some .int), Cond.methodLink RX8 148 yX8_fits]
def wsX8_join_r4 : List Cond := [Cond.instanceMethod yX8_fits, Cond.selects RX8 yX8_fits yX8_fits, Cond.code yX8_fits cX8_fits 6 (some .boolean), Cond.methodLink RX8 138 yX8_apart, Cond.static yX8_apart, Cond.code yX8_apart cX8_apart 3 (some .int), Cond.methodLink RX8 84 yX8_size, Cond.static yX8_size, Cond.code yX8_size cX8_size 1 (some .int), Cond.methodLink RX8 101 yX8_can, Cond.instanceMethod yX8_can, Cond.selects RX8 yX8_can yX8_can, Cond.code yX8_can cX8_can 2 (some .boolean), Cond.fieldLink RX8 80 "PlanetoidDeskModel" "thrown" "I", Cond.methodLink RX8 179 yX8_stronger, Cond.instanceMethod yX8_stronger, Cond.selects RX8 yX8_stronger yX8_stronger, Cond.code yX8_stronger cX8_stronger 6 (some .int), Cond.methodLink RX8 173 yX8_firstOf, Cond.instanceMethod yX8_firstOf, Cond.selects RX8 yX8_firstOf yX8_firstOf, Cond.code yX8_firstOf cX8_firstOf 4 (some .int)]
def wsX8_join : List Cond := .code yX8_join cX8_join 6 (some .int) :: ((wsX8_join_r1 ++ (wsX8_join_r2 ++ (wsX8_join_r3 ++ wsX8_join_r4))) ++ wsX80)
def wsX8_latest : List Cond := .code yX8_latest cX8_latest 4 (some .int) :: ([.fieldLink RX8 95 "PlanetoidDeskModel" "bodies" "I", .fieldLink RX8 34 "PlanetoidDeskModel" "above" "[I", .fieldLink RX8 37 "PlanetoidDeskModel" "joinedAt" "[I"] ++ wsX80)
def wsX8_part : List Cond := .code yX8_part cX8_part 4 (some .int) :: ([.fieldLink RX8 34 "PlanetoidDeskModel" "above" "[I", .methodLink RX8 164 yX8_isBody, .instanceMethod yX8_isBody, .selects RX8 yX8_isBody yX8_isBody, .initialized RX8, .code yX8_isBody cX8_isBody 2 (some .boolean), .fieldLink RX8 95 "PlanetoidDeskModel" "bodies" "I", .methodLink RX8 88 yX8_isIn, .static yX8_isIn, .code yX8_isIn cX8_isIn 3 (some .boolean), .methodLink RX8 185 yX8_latest, .instanceMethod yX8_latest, .selects RX8 yX8_latest yX8_latest, .code yX8_latest cX8_latest 4 (some .int), .fieldLink RX8 37 "PlanetoidDeskModel" "joinedAt" "[I", .methodLink RX8 101 yX8_can, .instanceMethod yX8_can, .selects RX8 yX8_can yX8_can, .code yX8_can cX8_can 2 (some .boolean), .fieldLink RX8 80 "PlanetoidDeskModel" "thrown" "I"] ++ wsX80)
def wsX8_canNumber_r1 : List Cond := [Cond.fieldLink RX8 34 "PlanetoidDeskModel" "above" "[I", Cond.fieldLink RX8 40 "PlanetoidDeskModel" "numberOf" "[I", Cond.fieldLink RX8 127 "PlanetoidDeskModel" "looks" "I", Cond.fieldLink RX8 49 "PlanetoidDeskModel" "look" "[I", Cond.fieldLink RX8 145 "PlanetoidDeskModel" "found" "I", Cond.methodLink RX8 154 yX8_lays, Cond.instanceMethod yX8_lays, Cond.selects RX8 yX8_lays yX8_lays, Cond.initialized RX8, Cond.code yX8_lays cX8_lays 2 none, Cond.methodLink RX8 130 yX8_laysAlso, Cond.instanceMethod yX8_laysAlso, Cond.selects RX8 yX8_laysAlso yX8_laysAlso, Cond.code yX8_laysAlso cX8_laysAlso 3 none, Cond.fieldLink RX8 92 "PlanetoidDeskModel" "dots" "I", Cond.fieldLink RX8 31 "PlanetoidDeskModel" "own" "[I", Cond.methodLink RX8 123 yX8_isBelow, Cond.instanceMethod yX8_isBelow, Cond.selects RX8 yX8_isBelow yX8_isBelow, Cond.code yX8_isBelow cX8_isBelow 4 (some .boolean), Cond.methodLink RX8 117 yX8_nightOf, Cond.instanceMethod yX8_nightOf, Cond.selects RX8 yX8_nightOf yX8_nightOf, Cond.code yX8_nightOf cX8_nightOf 2 (some .int)]
def wsX8_canNumber_r2 : List Cond := [Cond.fieldLink RX8 19 "PlanetoidDeskModel" "night" "[I", Cond.fieldLink RX8 22 "PlanetoidDeskModel" "plateOf" "[I", Cond.methodLink RX8 160 yX8_hasOrbit, Cond.instanceMethod yX8_hasOrbit, Cond.selects RX8 yX8_hasOrbit yX8_hasOrbit, Cond.code yX8_hasOrbit cX8_hasOrbit 1 (some .boolean), Cond.methodLink RX8 151 yX8_finds, Cond.instanceMethod yX8_finds, Cond.selects RX8 yX8_finds yX8_finds, Cond.code yX8_finds cX8_finds 8 none, Cond.fieldLink RX8 52 "PlanetoidDeskModel" "key" "[I", Cond.methodLink RX8 142 yX8_errorOf, Cond.instanceMethod yX8_errorOf, Cond.selects RX8 yX8_errorOf yX8_errorOf, Cond.code yX8_errorOf cX8_errorOf 2 (some .int), Cond.fieldLink RX8 13 "PlanetoidDeskModel" "error" "[I", Cond.fieldLink RX8 16 "PlanetoidDeskModel" "seat" "[I", Cond.methodLink RX8 120 yX8_trueOf, Cond.instanceMethod yX8_trueOf, Cond.selects RX8 yX8_trueOf yX8_trueOf, Cond.code yX8_trueOf cX8_trueOf 2 (some .int), Cond.fieldLink RX8 25 "PlanetoidDeskModel" "measured" "[I", Cond.fieldLink RX8 7 "PlanetoidDeskModel" "shift" "[I", Cond.methodLink RX8 111 yX8_round]
def wsX8_canNumber_r3 : List Cond := [Cond.static yX8_round, Cond.code yX8_round cX8_round 2 (some .int), Cond.methodLink RX8 134 yX8_moves, Cond.static yX8_moves, Cond.code yX8_moves cX8_moves 3 (some .int), Cond.methodLink RX8 148 yX8_fits, Cond.instanceMethod yX8_fits, Cond.selects RX8 yX8_fits yX8_fits, Cond.code yX8_fits cX8_fits 6 (some .boolean), Cond.methodLink RX8 138 yX8_apart, Cond.static yX8_apart, Cond.code yX8_apart cX8_apart 3 (some .int), Cond.methodLink RX8 84 yX8_size, Cond.static yX8_size, Cond.code yX8_size cX8_size 1 (some .int)]
def wsX8_canNumber : List Cond := .code yX8_canNumber cX8_canNumber 9 (some .boolean) :: ((wsX8_canNumber_r1 ++ (wsX8_canNumber_r2 ++ wsX8_canNumber_r3)) ++ wsX80)
def wsX8_number_r1 : List Cond := [Cond.fieldLink RX8 191 "PlanetoidDeskModel" "numbers" "I", Cond.fieldLink RX8 40 "PlanetoidDeskModel" "numberOf" "[I", Cond.fieldLink RX8 43 "PlanetoidDeskModel" "properB" "[I", Cond.fieldLink RX8 52 "PlanetoidDeskModel" "key" "[I", Cond.fieldLink RX8 46 "PlanetoidDeskModel" "properC" "[I", Cond.methodLink RX8 164 yX8_isBody, Cond.instanceMethod yX8_isBody, Cond.selects RX8 yX8_isBody yX8_isBody, Cond.initialized RX8, Cond.code yX8_isBody cX8_isBody 2 (some .boolean), Cond.fieldLink RX8 95 "PlanetoidDeskModel" "bodies" "I", Cond.methodLink RX8 88 yX8_isIn, Cond.static yX8_isIn, Cond.code yX8_isIn cX8_isIn 3 (some .boolean), Cond.methodLink RX8 188 yX8_canNumber, Cond.instanceMethod yX8_canNumber, Cond.selects RX8 yX8_canNumber yX8_canNumber, Cond.code yX8_canNumber cX8_canNumber 9 (some .boolean), Cond.fieldLink RX8 34 "PlanetoidDeskModel" "above" "[I", Cond.fieldLink RX8 127 "PlanetoidDeskModel" "looks" "I", Cond.fieldLink RX8 49 "PlanetoidDeskModel" "look" "[I", Cond.fieldLink RX8 145 "PlanetoidDeskModel" "found" "I", Cond.methodLink RX8 154 yX8_lays, Cond.instanceMethod yX8_lays]
def wsX8_number_r2 : List Cond := [Cond.selects RX8 yX8_lays yX8_lays, Cond.code yX8_lays cX8_lays 2 none, Cond.methodLink RX8 130 yX8_laysAlso, Cond.instanceMethod yX8_laysAlso, Cond.selects RX8 yX8_laysAlso yX8_laysAlso, Cond.code yX8_laysAlso cX8_laysAlso 3 none, Cond.fieldLink RX8 92 "PlanetoidDeskModel" "dots" "I", Cond.fieldLink RX8 31 "PlanetoidDeskModel" "own" "[I", Cond.methodLink RX8 123 yX8_isBelow, Cond.instanceMethod yX8_isBelow, Cond.selects RX8 yX8_isBelow yX8_isBelow, Cond.code yX8_isBelow cX8_isBelow 4 (some .boolean), Cond.methodLink RX8 117 yX8_nightOf, Cond.instanceMethod yX8_nightOf, Cond.selects RX8 yX8_nightOf yX8_nightOf, Cond.code yX8_nightOf cX8_nightOf 2 (some .int), Cond.fieldLink RX8 19 "PlanetoidDeskModel" "night" "[I", Cond.fieldLink RX8 22 "PlanetoidDeskModel" "plateOf" "[I", Cond.methodLink RX8 160 yX8_hasOrbit, Cond.instanceMethod yX8_hasOrbit, Cond.selects RX8 yX8_hasOrbit yX8_hasOrbit, Cond.code yX8_hasOrbit cX8_hasOrbit 1 (some .boolean), Cond.methodLink RX8 151 yX8_finds, Cond.instanceMethod yX8_finds]
def wsX8_number_r3 : List Cond := [Cond.selects RX8 yX8_finds yX8_finds, Cond.code yX8_finds cX8_finds 8 none, Cond.methodLink RX8 142 yX8_errorOf, Cond.instanceMethod yX8_errorOf, Cond.selects RX8 yX8_errorOf yX8_errorOf, Cond.code yX8_errorOf cX8_errorOf 2 (some .int), Cond.fieldLink RX8 13 "PlanetoidDeskModel" "error" "[I", Cond.fieldLink RX8 16 "PlanetoidDeskModel" "seat" "[I", Cond.methodLink RX8 120 yX8_trueOf, Cond.instanceMethod yX8_trueOf, Cond.selects RX8 yX8_trueOf yX8_trueOf, Cond.code yX8_trueOf cX8_trueOf 2 (some .int), Cond.fieldLink RX8 25 "PlanetoidDeskModel" "measured" "[I", Cond.fieldLink RX8 7 "PlanetoidDeskModel" "shift" "[I", Cond.methodLink RX8 111 yX8_round, Cond.static yX8_round, Cond.code yX8_round cX8_round 2 (some .int), Cond.methodLink RX8 134 yX8_moves, Cond.static yX8_moves, Cond.code yX8_moves cX8_moves 3 (some .int), Cond.methodLink RX8 148 yX8_fits, Cond.instanceMethod yX8_fits, Cond.selects RX8 yX8_fits yX8_fits, Cond.code yX8_fits cX8_fits 6 (some .boolean)]
def wsX8_number_r4 : List Cond := [Cond.methodLink RX8 138 yX8_apart, Cond.static yX8_apart, Cond.code yX8_apart cX8_apart 3 (some .int), Cond.methodLink RX8 84 yX8_size, Cond.static yX8_size, Cond.code yX8_size cX8_size 1 (some .int), Cond.methodLink RX8 101 yX8_can, Cond.instanceMethod yX8_can, Cond.selects RX8 yX8_can yX8_can, Cond.code yX8_can cX8_can 2 (some .boolean), Cond.fieldLink RX8 80 "PlanetoidDeskModel" "thrown" "I"]
def wsX8_number : List Cond := .code yX8_number cX8_number 3 (some .int) :: ((wsX8_number_r1 ++ (wsX8_number_r2 ++ (wsX8_number_r3 ++ wsX8_number_r4))) ++ wsX80)
def wsX8_joinedTo : List Cond := .code yX8_joinedTo cX8_joinedTo 4 (some .int) :: ([.fieldLink RX8 95 "PlanetoidDeskModel" "bodies" "I", .fieldLink RX8 34 "PlanetoidDeskModel" "above" "[I"] ++ wsX80)
def wsX8_looksOf : List Cond := .code yX8_looksOf cX8_looksOf 2 (some .int) :: ([.fieldLink RX8 127 "PlanetoidDeskModel" "looks" "I", .methodLink RX8 154 yX8_lays, .instanceMethod yX8_lays, .selects RX8 yX8_lays yX8_lays, .initialized RX8, .code yX8_lays cX8_lays 2 none, .methodLink RX8 130 yX8_laysAlso, .instanceMethod yX8_laysAlso, .selects RX8 yX8_laysAlso yX8_laysAlso, .code yX8_laysAlso cX8_laysAlso 3 none, .fieldLink RX8 92 "PlanetoidDeskModel" "dots" "I", .fieldLink RX8 31 "PlanetoidDeskModel" "own" "[I", .fieldLink RX8 49 "PlanetoidDeskModel" "look" "[I", .methodLink RX8 123 yX8_isBelow, .instanceMethod yX8_isBelow, .selects RX8 yX8_isBelow yX8_isBelow, .code yX8_isBelow cX8_isBelow 4 (some .boolean), .fieldLink RX8 34 "PlanetoidDeskModel" "above" "[I"] ++ wsX80)
def wsX8_ofBody_r1 : List Cond := [Cond.fieldLink RX8 34 "PlanetoidDeskModel" "above" "[I", Cond.fieldLink RX8 16 "PlanetoidDeskModel" "seat" "[I", Cond.fieldLink RX8 22 "PlanetoidDeskModel" "plateOf" "[I", Cond.fieldLink RX8 40 "PlanetoidDeskModel" "numberOf" "[I", Cond.methodLink RX8 164 yX8_isBody, Cond.instanceMethod yX8_isBody, Cond.selects RX8 yX8_isBody yX8_isBody, Cond.initialized RX8, Cond.code yX8_isBody cX8_isBody 2 (some .boolean), Cond.fieldLink RX8 95 "PlanetoidDeskModel" "bodies" "I", Cond.methodLink RX8 88 yX8_isIn, Cond.static yX8_isIn, Cond.code yX8_isIn cX8_isIn 3 (some .boolean), Cond.methodLink RX8 101 yX8_can, Cond.instanceMethod yX8_can, Cond.selects RX8 yX8_can yX8_can, Cond.code yX8_can cX8_can 2 (some .boolean), Cond.fieldLink RX8 80 "PlanetoidDeskModel" "thrown" "I", Cond.methodLink RX8 194 yX8_looksOf, Cond.instanceMethod yX8_looksOf, Cond.selects RX8 yX8_looksOf yX8_looksOf, Cond.code yX8_looksOf cX8_looksOf 2 (some .int), Cond.fieldLink RX8 127 "PlanetoidDeskModel" "looks" "I", Cond.methodLink RX8 154 yX8_lays]
def wsX8_ofBody_r2 : List Cond := [Cond.instanceMethod yX8_lays, Cond.selects RX8 yX8_lays yX8_lays, Cond.code yX8_lays cX8_lays 2 none, Cond.methodLink RX8 130 yX8_laysAlso, Cond.instanceMethod yX8_laysAlso, Cond.selects RX8 yX8_laysAlso yX8_laysAlso, Cond.code yX8_laysAlso cX8_laysAlso 3 none, Cond.fieldLink RX8 92 "PlanetoidDeskModel" "dots" "I", Cond.fieldLink RX8 31 "PlanetoidDeskModel" "own" "[I", Cond.fieldLink RX8 49 "PlanetoidDeskModel" "look" "[I", Cond.methodLink RX8 123 yX8_isBelow, Cond.instanceMethod yX8_isBelow, Cond.selects RX8 yX8_isBelow yX8_isBelow, Cond.code yX8_isBelow cX8_isBelow 4 (some .boolean), Cond.methodLink RX8 170 yX8_ownOf, Cond.instanceMethod yX8_ownOf, Cond.selects RX8 yX8_ownOf yX8_ownOf, Cond.code yX8_ownOf cX8_ownOf 4 (some .int), Cond.methodLink RX8 173 yX8_firstOf, Cond.instanceMethod yX8_firstOf, Cond.selects RX8 yX8_firstOf yX8_firstOf, Cond.code yX8_firstOf cX8_firstOf 4 (some .int), Cond.methodLink RX8 117 yX8_nightOf, Cond.instanceMethod yX8_nightOf]
def wsX8_ofBody_r3 : List Cond := [Cond.selects RX8 yX8_nightOf yX8_nightOf, Cond.code yX8_nightOf cX8_nightOf 2 (some .int), Cond.fieldLink RX8 19 "PlanetoidDeskModel" "night" "[I", Cond.methodLink RX8 197 yX8_joinedTo, Cond.instanceMethod yX8_joinedTo, Cond.selects RX8 yX8_joinedTo yX8_joinedTo, Cond.code yX8_joinedTo cX8_joinedTo 4 (some .int)]
def wsX8_ofBody : List Cond := .code yX8_ofBody cX8_ofBody 3 (some .int) :: ((wsX8_ofBody_r1 ++ (wsX8_ofBody_r2 ++ wsX8_ofBody_r3)) ++ wsX80)
def wsX8_orbitsOf_r1 : List Cond := [Cond.fieldLink RX8 145 "PlanetoidDeskModel" "found" "I", Cond.methodLink RX8 154 yX8_lays, Cond.instanceMethod yX8_lays, Cond.selects RX8 yX8_lays yX8_lays, Cond.initialized RX8, Cond.code yX8_lays cX8_lays 2 none, Cond.fieldLink RX8 127 "PlanetoidDeskModel" "looks" "I", Cond.methodLink RX8 130 yX8_laysAlso, Cond.instanceMethod yX8_laysAlso, Cond.selects RX8 yX8_laysAlso yX8_laysAlso, Cond.code yX8_laysAlso cX8_laysAlso 3 none, Cond.fieldLink RX8 92 "PlanetoidDeskModel" "dots" "I", Cond.fieldLink RX8 31 "PlanetoidDeskModel" "own" "[I", Cond.fieldLink RX8 49 "PlanetoidDeskModel" "look" "[I", Cond.methodLink RX8 123 yX8_isBelow, Cond.instanceMethod yX8_isBelow, Cond.selects RX8 yX8_isBelow yX8_isBelow, Cond.code yX8_isBelow cX8_isBelow 4 (some .boolean), Cond.fieldLink RX8 34 "PlanetoidDeskModel" "above" "[I", Cond.methodLink RX8 151 yX8_finds, Cond.instanceMethod yX8_finds, Cond.selects RX8 yX8_finds yX8_finds, Cond.code yX8_finds cX8_finds 8 none, Cond.fieldLink RX8 52 "PlanetoidDeskModel" "key" "[I"]
def wsX8_orbitsOf_r2 : List Cond := [Cond.methodLink RX8 142 yX8_errorOf, Cond.instanceMethod yX8_errorOf, Cond.selects RX8 yX8_errorOf yX8_errorOf, Cond.code yX8_errorOf cX8_errorOf 2 (some .int), Cond.fieldLink RX8 13 "PlanetoidDeskModel" "error" "[I", Cond.fieldLink RX8 16 "PlanetoidDeskModel" "seat" "[I", Cond.fieldLink RX8 22 "PlanetoidDeskModel" "plateOf" "[I", Cond.methodLink RX8 120 yX8_trueOf, Cond.instanceMethod yX8_trueOf, Cond.selects RX8 yX8_trueOf yX8_trueOf, Cond.code yX8_trueOf cX8_trueOf 2 (some .int), Cond.fieldLink RX8 25 "PlanetoidDeskModel" "measured" "[I", Cond.fieldLink RX8 7 "PlanetoidDeskModel" "shift" "[I", Cond.methodLink RX8 111 yX8_round, Cond.static yX8_round, Cond.code yX8_round cX8_round 2 (some .int), Cond.methodLink RX8 117 yX8_nightOf, Cond.instanceMethod yX8_nightOf, Cond.selects RX8 yX8_nightOf yX8_nightOf, Cond.code yX8_nightOf cX8_nightOf 2 (some .int), Cond.fieldLink RX8 19 "PlanetoidDeskModel" "night" "[I", Cond.methodLink RX8 134 yX8_moves, Cond.static yX8_moves, Cond.code yX8_moves cX8_moves 3 (some .int)]
def wsX8_orbitsOf_r3 : List Cond := [Cond.methodLink RX8 148 yX8_fits, Cond.instanceMethod yX8_fits, Cond.selects RX8 yX8_fits yX8_fits, Cond.code yX8_fits cX8_fits 6 (some .boolean), Cond.methodLink RX8 138 yX8_apart, Cond.static yX8_apart, Cond.code yX8_apart cX8_apart 3 (some .int), Cond.methodLink RX8 84 yX8_size, Cond.static yX8_size, Cond.code yX8_size cX8_size 1 (some .int)]
def wsX8_orbitsOf : List Cond := .code yX8_orbitsOf cX8_orbitsOf 2 (some .int) :: ((wsX8_orbitsOf_r1 ++ (wsX8_orbitsOf_r2 ++ wsX8_orbitsOf_r3)) ++ wsX80)
def wsX8_orbits_r1 : List Cond := [Cond.methodLink RX8 164 yX8_isBody, Cond.instanceMethod yX8_isBody, Cond.selects RX8 yX8_isBody yX8_isBody, Cond.initialized RX8, Cond.code yX8_isBody cX8_isBody 2 (some .boolean), Cond.fieldLink RX8 95 "PlanetoidDeskModel" "bodies" "I", Cond.methodLink RX8 88 yX8_isIn, Cond.static yX8_isIn, Cond.code yX8_isIn cX8_isIn 3 (some .boolean), Cond.methodLink RX8 101 yX8_can, Cond.instanceMethod yX8_can, Cond.selects RX8 yX8_can yX8_can, Cond.code yX8_can cX8_can 2 (some .boolean), Cond.fieldLink RX8 80 "PlanetoidDeskModel" "thrown" "I", Cond.methodLink RX8 200 yX8_orbitsOf, Cond.instanceMethod yX8_orbitsOf, Cond.selects RX8 yX8_orbitsOf yX8_orbitsOf, Cond.code yX8_orbitsOf cX8_orbitsOf 2 (some .int), Cond.fieldLink RX8 145 "PlanetoidDeskModel" "found" "I", Cond.methodLink RX8 154 yX8_lays, Cond.instanceMethod yX8_lays, Cond.selects RX8 yX8_lays yX8_lays, Cond.code yX8_lays cX8_lays 2 none, Cond.fieldLink RX8 127 "PlanetoidDeskModel" "looks" "I"]
def wsX8_orbits_r2 : List Cond := [Cond.methodLink RX8 130 yX8_laysAlso, Cond.instanceMethod yX8_laysAlso, Cond.selects RX8 yX8_laysAlso yX8_laysAlso, Cond.code yX8_laysAlso cX8_laysAlso 3 none, Cond.fieldLink RX8 92 "PlanetoidDeskModel" "dots" "I", Cond.fieldLink RX8 31 "PlanetoidDeskModel" "own" "[I", Cond.fieldLink RX8 49 "PlanetoidDeskModel" "look" "[I", Cond.methodLink RX8 123 yX8_isBelow, Cond.instanceMethod yX8_isBelow, Cond.selects RX8 yX8_isBelow yX8_isBelow, Cond.code yX8_isBelow cX8_isBelow 4 (some .boolean), Cond.fieldLink RX8 34 "PlanetoidDeskModel" "above" "[I", Cond.methodLink RX8 151 yX8_finds, Cond.instanceMethod yX8_finds, Cond.selects RX8 yX8_finds yX8_finds, Cond.code yX8_finds cX8_finds 8 none, Cond.fieldLink RX8 52 "PlanetoidDeskModel" "key" "[I", Cond.methodLink RX8 142 yX8_errorOf, Cond.instanceMethod yX8_errorOf, Cond.selects RX8 yX8_errorOf yX8_errorOf, Cond.code yX8_errorOf cX8_errorOf 2 (some .int), Cond.fieldLink RX8 13 "PlanetoidDeskModel" "error" "[I", Cond.fieldLink RX8 16 "PlanetoidDeskModel" "seat" "[I", Cond.fieldLink RX8 22 "PlanetoidDeskModel" "plateOf" "[I"]
def wsX8_orbits_r3 : List Cond := [Cond.methodLink RX8 120 yX8_trueOf, Cond.instanceMethod yX8_trueOf, Cond.selects RX8 yX8_trueOf yX8_trueOf, Cond.code yX8_trueOf cX8_trueOf 2 (some .int), Cond.fieldLink RX8 25 "PlanetoidDeskModel" "measured" "[I", Cond.fieldLink RX8 7 "PlanetoidDeskModel" "shift" "[I", Cond.methodLink RX8 111 yX8_round, Cond.static yX8_round, Cond.code yX8_round cX8_round 2 (some .int), Cond.methodLink RX8 117 yX8_nightOf, Cond.instanceMethod yX8_nightOf, Cond.selects RX8 yX8_nightOf yX8_nightOf, Cond.code yX8_nightOf cX8_nightOf 2 (some .int), Cond.fieldLink RX8 19 "PlanetoidDeskModel" "night" "[I", Cond.methodLink RX8 134 yX8_moves, Cond.static yX8_moves, Cond.code yX8_moves cX8_moves 3 (some .int), Cond.methodLink RX8 148 yX8_fits, Cond.instanceMethod yX8_fits, Cond.selects RX8 yX8_fits yX8_fits, Cond.code yX8_fits cX8_fits 6 (some .boolean), Cond.methodLink RX8 138 yX8_apart, Cond.static yX8_apart, Cond.code yX8_apart cX8_apart 3 (some .int)]
def wsX8_orbits_r4 : List Cond := [Cond.methodLink RX8 84 yX8_size, Cond.static yX8_size, Cond.code yX8_size cX8_size 1 (some .int)]
def wsX8_orbits : List Cond := .code yX8_orbits cX8_orbits 2 (some .int) :: ((wsX8_orbits_r1 ++ (wsX8_orbits_r2 ++ (wsX8_orbits_r3 ++ wsX8_orbits_r4))) ++ wsX80)
def wsX8_orbitsAnew_r1 : List Cond := [Cond.methodLink RX8 164 yX8_isBody, Cond.instanceMethod yX8_isBody, Cond.selects RX8 yX8_isBody yX8_isBody, Cond.initialized RX8, Cond.code yX8_isBody cX8_isBody 2 (some .boolean), Cond.fieldLink RX8 95 "PlanetoidDeskModel" "bodies" "I", Cond.methodLink RX8 88 yX8_isIn, Cond.static yX8_isIn, Cond.code yX8_isIn cX8_isIn 3 (some .boolean), Cond.methodLink RX8 101 yX8_can, Cond.instanceMethod yX8_can, Cond.selects RX8 yX8_can yX8_can, Cond.code yX8_can cX8_can 2 (some .boolean), Cond.fieldLink RX8 80 "PlanetoidDeskModel" "thrown" "I", Cond.methodLink RX8 200 yX8_orbitsOf, Cond.instanceMethod yX8_orbitsOf, Cond.selects RX8 yX8_orbitsOf yX8_orbitsOf, Cond.code yX8_orbitsOf cX8_orbitsOf 2 (some .int), Cond.fieldLink RX8 145 "PlanetoidDeskModel" "found" "I", Cond.methodLink RX8 154 yX8_lays, Cond.instanceMethod yX8_lays, Cond.selects RX8 yX8_lays yX8_lays, Cond.code yX8_lays cX8_lays 2 none, Cond.fieldLink RX8 127 "PlanetoidDeskModel" "looks" "I"]
def wsX8_orbitsAnew_r2 : List Cond := [Cond.methodLink RX8 130 yX8_laysAlso, Cond.instanceMethod yX8_laysAlso, Cond.selects RX8 yX8_laysAlso yX8_laysAlso, Cond.code yX8_laysAlso cX8_laysAlso 3 none, Cond.fieldLink RX8 92 "PlanetoidDeskModel" "dots" "I", Cond.fieldLink RX8 31 "PlanetoidDeskModel" "own" "[I", Cond.fieldLink RX8 49 "PlanetoidDeskModel" "look" "[I", Cond.methodLink RX8 123 yX8_isBelow, Cond.instanceMethod yX8_isBelow, Cond.selects RX8 yX8_isBelow yX8_isBelow, Cond.code yX8_isBelow cX8_isBelow 4 (some .boolean), Cond.fieldLink RX8 34 "PlanetoidDeskModel" "above" "[I", Cond.methodLink RX8 151 yX8_finds, Cond.instanceMethod yX8_finds, Cond.selects RX8 yX8_finds yX8_finds, Cond.code yX8_finds cX8_finds 8 none, Cond.fieldLink RX8 52 "PlanetoidDeskModel" "key" "[I", Cond.methodLink RX8 142 yX8_errorOf, Cond.instanceMethod yX8_errorOf, Cond.selects RX8 yX8_errorOf yX8_errorOf, Cond.code yX8_errorOf cX8_errorOf 2 (some .int), Cond.fieldLink RX8 13 "PlanetoidDeskModel" "error" "[I", Cond.fieldLink RX8 16 "PlanetoidDeskModel" "seat" "[I", Cond.fieldLink RX8 22 "PlanetoidDeskModel" "plateOf" "[I"]
def wsX8_orbitsAnew_r3 : List Cond := [Cond.methodLink RX8 120 yX8_trueOf, Cond.instanceMethod yX8_trueOf, Cond.selects RX8 yX8_trueOf yX8_trueOf, Cond.code yX8_trueOf cX8_trueOf 2 (some .int), Cond.fieldLink RX8 25 "PlanetoidDeskModel" "measured" "[I", Cond.fieldLink RX8 7 "PlanetoidDeskModel" "shift" "[I", Cond.methodLink RX8 111 yX8_round, Cond.static yX8_round, Cond.code yX8_round cX8_round 2 (some .int), Cond.methodLink RX8 117 yX8_nightOf, Cond.instanceMethod yX8_nightOf, Cond.selects RX8 yX8_nightOf yX8_nightOf, Cond.code yX8_nightOf cX8_nightOf 2 (some .int), Cond.fieldLink RX8 19 "PlanetoidDeskModel" "night" "[I", Cond.methodLink RX8 134 yX8_moves, Cond.static yX8_moves, Cond.code yX8_moves cX8_moves 3 (some .int), Cond.methodLink RX8 148 yX8_fits, Cond.instanceMethod yX8_fits, Cond.selects RX8 yX8_fits yX8_fits, Cond.code yX8_fits cX8_fits 6 (some .boolean), Cond.methodLink RX8 138 yX8_apart, Cond.static yX8_apart, Cond.code yX8_apart cX8_apart 3 (some .int)]
def wsX8_orbitsAnew_r4 : List Cond := [Cond.methodLink RX8 84 yX8_size, Cond.static yX8_size, Cond.code yX8_size cX8_size 1 (some .int)]
def wsX8_orbitsAnew : List Cond := .code yX8_orbitsAnew cX8_orbitsAnew 2 (some .int) :: ((wsX8_orbitsAnew_r1 ++ (wsX8_orbitsAnew_r2 ++ (wsX8_orbitsAnew_r3 ++ wsX8_orbitsAnew_r4))) ++ wsX80)
def wsX8_keyAt : List Cond := .code yX8_keyAt cX8_keyAt 7 (some .int) :: ([.constant RX8 203 (1457999), .fieldLink RX8 145 "PlanetoidDeskModel" "found" "I", .fieldLink RX8 52 "PlanetoidDeskModel" "key" "[I"] ++ wsX80)
def wsX8_orbit_r1 : List Cond := [Cond.methodLink RX8 164 yX8_isBody, Cond.instanceMethod yX8_isBody, Cond.selects RX8 yX8_isBody yX8_isBody, Cond.initialized RX8, Cond.code yX8_isBody cX8_isBody 2 (some .boolean), Cond.fieldLink RX8 95 "PlanetoidDeskModel" "bodies" "I", Cond.methodLink RX8 88 yX8_isIn, Cond.static yX8_isIn, Cond.code yX8_isIn cX8_isIn 3 (some .boolean), Cond.methodLink RX8 200 yX8_orbitsOf, Cond.instanceMethod yX8_orbitsOf, Cond.selects RX8 yX8_orbitsOf yX8_orbitsOf, Cond.code yX8_orbitsOf cX8_orbitsOf 2 (some .int), Cond.fieldLink RX8 145 "PlanetoidDeskModel" "found" "I", Cond.methodLink RX8 154 yX8_lays, Cond.instanceMethod yX8_lays, Cond.selects RX8 yX8_lays yX8_lays, Cond.code yX8_lays cX8_lays 2 none, Cond.fieldLink RX8 127 "PlanetoidDeskModel" "looks" "I", Cond.methodLink RX8 130 yX8_laysAlso, Cond.instanceMethod yX8_laysAlso, Cond.selects RX8 yX8_laysAlso yX8_laysAlso, Cond.code yX8_laysAlso cX8_laysAlso 3 none, Cond.fieldLink RX8 92 "PlanetoidDeskModel" "dots" "I"]
def wsX8_orbit_r2 : List Cond := [Cond.fieldLink RX8 31 "PlanetoidDeskModel" "own" "[I", Cond.fieldLink RX8 49 "PlanetoidDeskModel" "look" "[I", Cond.methodLink RX8 123 yX8_isBelow, Cond.instanceMethod yX8_isBelow, Cond.selects RX8 yX8_isBelow yX8_isBelow, Cond.code yX8_isBelow cX8_isBelow 4 (some .boolean), Cond.fieldLink RX8 34 "PlanetoidDeskModel" "above" "[I", Cond.methodLink RX8 151 yX8_finds, Cond.instanceMethod yX8_finds, Cond.selects RX8 yX8_finds yX8_finds, Cond.code yX8_finds cX8_finds 8 none, Cond.fieldLink RX8 52 "PlanetoidDeskModel" "key" "[I", Cond.methodLink RX8 142 yX8_errorOf, Cond.instanceMethod yX8_errorOf, Cond.selects RX8 yX8_errorOf yX8_errorOf, Cond.code yX8_errorOf cX8_errorOf 2 (some .int), Cond.fieldLink RX8 13 "PlanetoidDeskModel" "error" "[I", Cond.fieldLink RX8 16 "PlanetoidDeskModel" "seat" "[I", Cond.fieldLink RX8 22 "PlanetoidDeskModel" "plateOf" "[I", Cond.methodLink RX8 120 yX8_trueOf, Cond.instanceMethod yX8_trueOf, Cond.selects RX8 yX8_trueOf yX8_trueOf, Cond.code yX8_trueOf cX8_trueOf 2 (some .int), Cond.fieldLink RX8 25 "PlanetoidDeskModel" "measured" "[I"]
def wsX8_orbit_r3 : List Cond := [Cond.fieldLink RX8 7 "PlanetoidDeskModel" "shift" "[I", Cond.methodLink RX8 111 yX8_round, Cond.static yX8_round, Cond.code yX8_round cX8_round 2 (some .int), Cond.methodLink RX8 117 yX8_nightOf, Cond.instanceMethod yX8_nightOf, Cond.selects RX8 yX8_nightOf yX8_nightOf, Cond.code yX8_nightOf cX8_nightOf 2 (some .int), Cond.fieldLink RX8 19 "PlanetoidDeskModel" "night" "[I", Cond.methodLink RX8 134 yX8_moves, Cond.static yX8_moves, Cond.code yX8_moves cX8_moves 3 (some .int), Cond.methodLink RX8 148 yX8_fits, Cond.instanceMethod yX8_fits, Cond.selects RX8 yX8_fits yX8_fits, Cond.code yX8_fits cX8_fits 6 (some .boolean), Cond.methodLink RX8 138 yX8_apart, Cond.static yX8_apart, Cond.code yX8_apart cX8_apart 3 (some .int), Cond.methodLink RX8 84 yX8_size, Cond.static yX8_size, Cond.code yX8_size cX8_size 1 (some .int), Cond.methodLink RX8 101 yX8_can, Cond.instanceMethod yX8_can]
def wsX8_orbit_r4 : List Cond := [Cond.selects RX8 yX8_can yX8_can, Cond.code yX8_can cX8_can 2 (some .boolean), Cond.fieldLink RX8 80 "PlanetoidDeskModel" "thrown" "I", Cond.methodLink RX8 204 yX8_keyAt, Cond.instanceMethod yX8_keyAt, Cond.selects RX8 yX8_keyAt yX8_keyAt, Cond.code yX8_keyAt cX8_keyAt 7 (some .int), Cond.constant RX8 203 (1457999)]
def wsX8_orbit : List Cond := .code yX8_orbit cX8_orbit 6 (some .int) :: ((wsX8_orbit_r1 ++ (wsX8_orbit_r2 ++ (wsX8_orbit_r3 ++ wsX8_orbit_r4))) ++ wsX80)
def wsX8_placeBy : List Cond := .code yX8_placeBy cX8_placeBy 3 (some .int) :: ([.methodLink RX8 134 yX8_moves, .static yX8_moves, .initialized RX8, .code yX8_moves cX8_moves 3 (some .int), .methodLink RX8 111 yX8_round, .static yX8_round, .code yX8_round cX8_round 2 (some .int)])
def wsX8_spreads_r1 : List Cond := [Cond.fieldLink RX8 55 "PlanetoidDeskModel" "often" "[I", Cond.fieldLink RX8 52 "PlanetoidDeskModel" "key" "[I", Cond.methodLink RX8 200 yX8_orbitsOf, Cond.instanceMethod yX8_orbitsOf, Cond.selects RX8 yX8_orbitsOf yX8_orbitsOf, Cond.initialized RX8, Cond.code yX8_orbitsOf cX8_orbitsOf 2 (some .int), Cond.fieldLink RX8 145 "PlanetoidDeskModel" "found" "I", Cond.methodLink RX8 154 yX8_lays, Cond.instanceMethod yX8_lays, Cond.selects RX8 yX8_lays yX8_lays, Cond.code yX8_lays cX8_lays 2 none, Cond.fieldLink RX8 127 "PlanetoidDeskModel" "looks" "I", Cond.methodLink RX8 130 yX8_laysAlso, Cond.instanceMethod yX8_laysAlso, Cond.selects RX8 yX8_laysAlso yX8_laysAlso, Cond.code yX8_laysAlso cX8_laysAlso 3 none, Cond.fieldLink RX8 92 "PlanetoidDeskModel" "dots" "I", Cond.fieldLink RX8 31 "PlanetoidDeskModel" "own" "[I", Cond.fieldLink RX8 49 "PlanetoidDeskModel" "look" "[I", Cond.methodLink RX8 123 yX8_isBelow, Cond.instanceMethod yX8_isBelow, Cond.selects RX8 yX8_isBelow yX8_isBelow, Cond.code yX8_isBelow cX8_isBelow 4 (some .boolean)]
def wsX8_spreads_r2 : List Cond := [Cond.fieldLink RX8 34 "PlanetoidDeskModel" "above" "[I", Cond.methodLink RX8 151 yX8_finds, Cond.instanceMethod yX8_finds, Cond.selects RX8 yX8_finds yX8_finds, Cond.code yX8_finds cX8_finds 8 none, Cond.methodLink RX8 142 yX8_errorOf, Cond.instanceMethod yX8_errorOf, Cond.selects RX8 yX8_errorOf yX8_errorOf, Cond.code yX8_errorOf cX8_errorOf 2 (some .int), Cond.fieldLink RX8 13 "PlanetoidDeskModel" "error" "[I", Cond.fieldLink RX8 16 "PlanetoidDeskModel" "seat" "[I", Cond.fieldLink RX8 22 "PlanetoidDeskModel" "plateOf" "[I", Cond.methodLink RX8 120 yX8_trueOf, Cond.instanceMethod yX8_trueOf, Cond.selects RX8 yX8_trueOf yX8_trueOf, Cond.code yX8_trueOf cX8_trueOf 2 (some .int), Cond.fieldLink RX8 25 "PlanetoidDeskModel" "measured" "[I", Cond.fieldLink RX8 7 "PlanetoidDeskModel" "shift" "[I", Cond.methodLink RX8 111 yX8_round, Cond.static yX8_round, Cond.code yX8_round cX8_round 2 (some .int), Cond.methodLink RX8 117 yX8_nightOf, Cond.instanceMethod yX8_nightOf, Cond.selects RX8 yX8_nightOf yX8_nightOf]
def wsX8_spreads_r3 : List Cond := [Cond.code yX8_nightOf cX8_nightOf 2 (some .int), Cond.fieldLink RX8 19 "PlanetoidDeskModel" "night" "[I", Cond.methodLink RX8 134 yX8_moves, Cond.static yX8_moves, Cond.code yX8_moves cX8_moves 3 (some .int), Cond.methodLink RX8 148 yX8_fits, Cond.instanceMethod yX8_fits, Cond.selects RX8 yX8_fits yX8_fits, Cond.code yX8_fits cX8_fits 6 (some .boolean), Cond.methodLink RX8 138 yX8_apart, Cond.static yX8_apart, Cond.code yX8_apart cX8_apart 3 (some .int), Cond.methodLink RX8 84 yX8_size, Cond.static yX8_size, Cond.code yX8_size cX8_size 1 (some .int), Cond.methodLink RX8 207 yX8_placeBy, Cond.instanceMethod yX8_placeBy, Cond.selects RX8 yX8_placeBy yX8_placeBy, Cond.code yX8_placeBy cX8_placeBy 3 (some .int)]
def wsX8_spreads : List Cond := .code yX8_spreads cX8_spreads 5 none :: ((wsX8_spreads_r1 ++ (wsX8_spreads_r2 ++ wsX8_spreads_r3)) ++ wsX80)
def wsX8_spreadOf_r1 : List Cond := [Cond.fieldLink RX8 55 "PlanetoidDeskModel" "often" "[I", Cond.methodLink RX8 210 yX8_spreads, Cond.instanceMethod yX8_spreads, Cond.selects RX8 yX8_spreads yX8_spreads, Cond.initialized RX8, Cond.code yX8_spreads cX8_spreads 5 none, Cond.fieldLink RX8 52 "PlanetoidDeskModel" "key" "[I", Cond.methodLink RX8 200 yX8_orbitsOf, Cond.instanceMethod yX8_orbitsOf, Cond.selects RX8 yX8_orbitsOf yX8_orbitsOf, Cond.code yX8_orbitsOf cX8_orbitsOf 2 (some .int), Cond.fieldLink RX8 145 "PlanetoidDeskModel" "found" "I", Cond.methodLink RX8 154 yX8_lays, Cond.instanceMethod yX8_lays, Cond.selects RX8 yX8_lays yX8_lays, Cond.code yX8_lays cX8_lays 2 none, Cond.fieldLink RX8 127 "PlanetoidDeskModel" "looks" "I", Cond.methodLink RX8 130 yX8_laysAlso, Cond.instanceMethod yX8_laysAlso, Cond.selects RX8 yX8_laysAlso yX8_laysAlso, Cond.code yX8_laysAlso cX8_laysAlso 3 none, Cond.fieldLink RX8 92 "PlanetoidDeskModel" "dots" "I", Cond.fieldLink RX8 31 "PlanetoidDeskModel" "own" "[I", Cond.fieldLink RX8 49 "PlanetoidDeskModel" "look" "[I"]
def wsX8_spreadOf_r2 : List Cond := [Cond.methodLink RX8 123 yX8_isBelow, Cond.instanceMethod yX8_isBelow, Cond.selects RX8 yX8_isBelow yX8_isBelow, Cond.code yX8_isBelow cX8_isBelow 4 (some .boolean), Cond.fieldLink RX8 34 "PlanetoidDeskModel" "above" "[I", Cond.methodLink RX8 151 yX8_finds, Cond.instanceMethod yX8_finds, Cond.selects RX8 yX8_finds yX8_finds, Cond.code yX8_finds cX8_finds 8 none, Cond.methodLink RX8 142 yX8_errorOf, Cond.instanceMethod yX8_errorOf, Cond.selects RX8 yX8_errorOf yX8_errorOf, Cond.code yX8_errorOf cX8_errorOf 2 (some .int), Cond.fieldLink RX8 13 "PlanetoidDeskModel" "error" "[I", Cond.fieldLink RX8 16 "PlanetoidDeskModel" "seat" "[I", Cond.fieldLink RX8 22 "PlanetoidDeskModel" "plateOf" "[I", Cond.methodLink RX8 120 yX8_trueOf, Cond.instanceMethod yX8_trueOf, Cond.selects RX8 yX8_trueOf yX8_trueOf, Cond.code yX8_trueOf cX8_trueOf 2 (some .int), Cond.fieldLink RX8 25 "PlanetoidDeskModel" "measured" "[I", Cond.fieldLink RX8 7 "PlanetoidDeskModel" "shift" "[I", Cond.methodLink RX8 111 yX8_round, Cond.static yX8_round]
def wsX8_spreadOf_r3 : List Cond := [Cond.code yX8_round cX8_round 2 (some .int), Cond.methodLink RX8 117 yX8_nightOf, Cond.instanceMethod yX8_nightOf, Cond.selects RX8 yX8_nightOf yX8_nightOf, Cond.code yX8_nightOf cX8_nightOf 2 (some .int), Cond.fieldLink RX8 19 "PlanetoidDeskModel" "night" "[I", Cond.methodLink RX8 134 yX8_moves, Cond.static yX8_moves, Cond.code yX8_moves cX8_moves 3 (some .int), Cond.methodLink RX8 148 yX8_fits, Cond.instanceMethod yX8_fits, Cond.selects RX8 yX8_fits yX8_fits, Cond.code yX8_fits cX8_fits 6 (some .boolean), Cond.methodLink RX8 138 yX8_apart, Cond.static yX8_apart, Cond.code yX8_apart cX8_apart 3 (some .int), Cond.methodLink RX8 84 yX8_size, Cond.static yX8_size, Cond.code yX8_size cX8_size 1 (some .int), Cond.methodLink RX8 207 yX8_placeBy, Cond.instanceMethod yX8_placeBy, Cond.selects RX8 yX8_placeBy yX8_placeBy, Cond.code yX8_placeBy cX8_placeBy 3 (some .int)]
def wsX8_spreadOf : List Cond := .code yX8_spreadOf cX8_spreadOf 5 (some .int) :: ((wsX8_spreadOf_r1 ++ (wsX8_spreadOf_r2 ++ wsX8_spreadOf_r3)) ++ wsX80)
def wsX8_spread_r1 : List Cond := [Cond.methodLink RX8 164 yX8_isBody, Cond.instanceMethod yX8_isBody, Cond.selects RX8 yX8_isBody yX8_isBody, Cond.initialized RX8, Cond.code yX8_isBody cX8_isBody 2 (some .boolean), Cond.fieldLink RX8 95 "PlanetoidDeskModel" "bodies" "I", Cond.methodLink RX8 88 yX8_isIn, Cond.static yX8_isIn, Cond.code yX8_isIn cX8_isIn 3 (some .boolean), Cond.methodLink RX8 105 yX8_isNight, Cond.static yX8_isNight, Cond.code yX8_isNight cX8_isNight 1 (some .boolean), Cond.methodLink RX8 101 yX8_can, Cond.instanceMethod yX8_can, Cond.selects RX8 yX8_can yX8_can, Cond.code yX8_can cX8_can 2 (some .boolean), Cond.fieldLink RX8 80 "PlanetoidDeskModel" "thrown" "I", Cond.methodLink RX8 214 yX8_spreadOf, Cond.instanceMethod yX8_spreadOf, Cond.selects RX8 yX8_spreadOf yX8_spreadOf, Cond.code yX8_spreadOf cX8_spreadOf 5 (some .int), Cond.fieldLink RX8 55 "PlanetoidDeskModel" "often" "[I", Cond.methodLink RX8 210 yX8_spreads, Cond.instanceMethod yX8_spreads]
def wsX8_spread_r2 : List Cond := [Cond.selects RX8 yX8_spreads yX8_spreads, Cond.code yX8_spreads cX8_spreads 5 none, Cond.fieldLink RX8 52 "PlanetoidDeskModel" "key" "[I", Cond.methodLink RX8 200 yX8_orbitsOf, Cond.instanceMethod yX8_orbitsOf, Cond.selects RX8 yX8_orbitsOf yX8_orbitsOf, Cond.code yX8_orbitsOf cX8_orbitsOf 2 (some .int), Cond.fieldLink RX8 145 "PlanetoidDeskModel" "found" "I", Cond.methodLink RX8 154 yX8_lays, Cond.instanceMethod yX8_lays, Cond.selects RX8 yX8_lays yX8_lays, Cond.code yX8_lays cX8_lays 2 none, Cond.fieldLink RX8 127 "PlanetoidDeskModel" "looks" "I", Cond.methodLink RX8 130 yX8_laysAlso, Cond.instanceMethod yX8_laysAlso, Cond.selects RX8 yX8_laysAlso yX8_laysAlso, Cond.code yX8_laysAlso cX8_laysAlso 3 none, Cond.fieldLink RX8 92 "PlanetoidDeskModel" "dots" "I", Cond.fieldLink RX8 31 "PlanetoidDeskModel" "own" "[I", Cond.fieldLink RX8 49 "PlanetoidDeskModel" "look" "[I", Cond.methodLink RX8 123 yX8_isBelow, Cond.instanceMethod yX8_isBelow, Cond.selects RX8 yX8_isBelow yX8_isBelow, Cond.code yX8_isBelow cX8_isBelow 4 (some .boolean)]
def wsX8_spread_r3 : List Cond := [Cond.fieldLink RX8 34 "PlanetoidDeskModel" "above" "[I", Cond.methodLink RX8 151 yX8_finds, Cond.instanceMethod yX8_finds, Cond.selects RX8 yX8_finds yX8_finds, Cond.code yX8_finds cX8_finds 8 none, Cond.methodLink RX8 142 yX8_errorOf, Cond.instanceMethod yX8_errorOf, Cond.selects RX8 yX8_errorOf yX8_errorOf, Cond.code yX8_errorOf cX8_errorOf 2 (some .int), Cond.fieldLink RX8 13 "PlanetoidDeskModel" "error" "[I", Cond.fieldLink RX8 16 "PlanetoidDeskModel" "seat" "[I", Cond.fieldLink RX8 22 "PlanetoidDeskModel" "plateOf" "[I", Cond.methodLink RX8 120 yX8_trueOf, Cond.instanceMethod yX8_trueOf, Cond.selects RX8 yX8_trueOf yX8_trueOf, Cond.code yX8_trueOf cX8_trueOf 2 (some .int), Cond.fieldLink RX8 25 "PlanetoidDeskModel" "measured" "[I", Cond.fieldLink RX8 7 "PlanetoidDeskModel" "shift" "[I", Cond.methodLink RX8 111 yX8_round, Cond.static yX8_round, Cond.code yX8_round cX8_round 2 (some .int), Cond.methodLink RX8 117 yX8_nightOf, Cond.instanceMethod yX8_nightOf, Cond.selects RX8 yX8_nightOf yX8_nightOf]
def wsX8_spread_r4 : List Cond := [Cond.code yX8_nightOf cX8_nightOf 2 (some .int), Cond.fieldLink RX8 19 "PlanetoidDeskModel" "night" "[I", Cond.methodLink RX8 134 yX8_moves, Cond.static yX8_moves, Cond.code yX8_moves cX8_moves 3 (some .int), Cond.methodLink RX8 148 yX8_fits, Cond.instanceMethod yX8_fits, Cond.selects RX8 yX8_fits yX8_fits, Cond.code yX8_fits cX8_fits 6 (some .boolean), Cond.methodLink RX8 138 yX8_apart, Cond.static yX8_apart, Cond.code yX8_apart cX8_apart 3 (some .int), Cond.methodLink RX8 84 yX8_size, Cond.static yX8_size, Cond.code yX8_size cX8_size 1 (some .int), Cond.methodLink RX8 207 yX8_placeBy, Cond.instanceMethod yX8_placeBy, Cond.selects RX8 yX8_placeBy yX8_placeBy, Cond.code yX8_placeBy cX8_placeBy 3 (some .int)]
def wsX8_spread : List Cond := .code yX8_spread cX8_spread 3 (some .int) :: ((wsX8_spread_r1 ++ (wsX8_spread_r2 ++ (wsX8_spread_r3 ++ wsX8_spread_r4))) ++ wsX80)
def wsX8_placeAt_r1 : List Cond := [Cond.fieldLink RX8 55 "PlanetoidDeskModel" "often" "[I", Cond.methodLink RX8 210 yX8_spreads, Cond.instanceMethod yX8_spreads, Cond.selects RX8 yX8_spreads yX8_spreads, Cond.initialized RX8, Cond.code yX8_spreads cX8_spreads 5 none, Cond.fieldLink RX8 52 "PlanetoidDeskModel" "key" "[I", Cond.methodLink RX8 200 yX8_orbitsOf, Cond.instanceMethod yX8_orbitsOf, Cond.selects RX8 yX8_orbitsOf yX8_orbitsOf, Cond.code yX8_orbitsOf cX8_orbitsOf 2 (some .int), Cond.fieldLink RX8 145 "PlanetoidDeskModel" "found" "I", Cond.methodLink RX8 154 yX8_lays, Cond.instanceMethod yX8_lays, Cond.selects RX8 yX8_lays yX8_lays, Cond.code yX8_lays cX8_lays 2 none, Cond.fieldLink RX8 127 "PlanetoidDeskModel" "looks" "I", Cond.methodLink RX8 130 yX8_laysAlso, Cond.instanceMethod yX8_laysAlso, Cond.selects RX8 yX8_laysAlso yX8_laysAlso, Cond.code yX8_laysAlso cX8_laysAlso 3 none, Cond.fieldLink RX8 92 "PlanetoidDeskModel" "dots" "I", Cond.fieldLink RX8 31 "PlanetoidDeskModel" "own" "[I", Cond.fieldLink RX8 49 "PlanetoidDeskModel" "look" "[I"]
def wsX8_placeAt_r2 : List Cond := [Cond.methodLink RX8 123 yX8_isBelow, Cond.instanceMethod yX8_isBelow, Cond.selects RX8 yX8_isBelow yX8_isBelow, Cond.code yX8_isBelow cX8_isBelow 4 (some .boolean), Cond.fieldLink RX8 34 "PlanetoidDeskModel" "above" "[I", Cond.methodLink RX8 151 yX8_finds, Cond.instanceMethod yX8_finds, Cond.selects RX8 yX8_finds yX8_finds, Cond.code yX8_finds cX8_finds 8 none, Cond.methodLink RX8 142 yX8_errorOf, Cond.instanceMethod yX8_errorOf, Cond.selects RX8 yX8_errorOf yX8_errorOf, Cond.code yX8_errorOf cX8_errorOf 2 (some .int), Cond.fieldLink RX8 13 "PlanetoidDeskModel" "error" "[I", Cond.fieldLink RX8 16 "PlanetoidDeskModel" "seat" "[I", Cond.fieldLink RX8 22 "PlanetoidDeskModel" "plateOf" "[I", Cond.methodLink RX8 120 yX8_trueOf, Cond.instanceMethod yX8_trueOf, Cond.selects RX8 yX8_trueOf yX8_trueOf, Cond.code yX8_trueOf cX8_trueOf 2 (some .int), Cond.fieldLink RX8 25 "PlanetoidDeskModel" "measured" "[I", Cond.fieldLink RX8 7 "PlanetoidDeskModel" "shift" "[I", Cond.methodLink RX8 111 yX8_round, Cond.static yX8_round]
def wsX8_placeAt_r3 : List Cond := [Cond.code yX8_round cX8_round 2 (some .int), Cond.methodLink RX8 117 yX8_nightOf, Cond.instanceMethod yX8_nightOf, Cond.selects RX8 yX8_nightOf yX8_nightOf, Cond.code yX8_nightOf cX8_nightOf 2 (some .int), Cond.fieldLink RX8 19 "PlanetoidDeskModel" "night" "[I", Cond.methodLink RX8 134 yX8_moves, Cond.static yX8_moves, Cond.code yX8_moves cX8_moves 3 (some .int), Cond.methodLink RX8 148 yX8_fits, Cond.instanceMethod yX8_fits, Cond.selects RX8 yX8_fits yX8_fits, Cond.code yX8_fits cX8_fits 6 (some .boolean), Cond.methodLink RX8 138 yX8_apart, Cond.static yX8_apart, Cond.code yX8_apart cX8_apart 3 (some .int), Cond.methodLink RX8 84 yX8_size, Cond.static yX8_size, Cond.code yX8_size cX8_size 1 (some .int), Cond.methodLink RX8 207 yX8_placeBy, Cond.instanceMethod yX8_placeBy, Cond.selects RX8 yX8_placeBy yX8_placeBy, Cond.code yX8_placeBy cX8_placeBy 3 (some .int)]
def wsX8_placeAt : List Cond := .code yX8_placeAt cX8_placeAt 6 (some .int) :: ((wsX8_placeAt_r1 ++ (wsX8_placeAt_r2 ++ wsX8_placeAt_r3)) ++ wsX80)
def wsX8_where_r1 : List Cond := [Cond.methodLink RX8 105 yX8_isNight, Cond.static yX8_isNight, Cond.initialized RX8, Cond.code yX8_isNight cX8_isNight 1 (some .boolean), Cond.methodLink RX8 88 yX8_isIn, Cond.static yX8_isIn, Cond.code yX8_isIn cX8_isIn 3 (some .boolean), Cond.methodLink RX8 164 yX8_isBody, Cond.instanceMethod yX8_isBody, Cond.selects RX8 yX8_isBody yX8_isBody, Cond.code yX8_isBody cX8_isBody 2 (some .boolean), Cond.fieldLink RX8 95 "PlanetoidDeskModel" "bodies" "I", Cond.methodLink RX8 101 yX8_can, Cond.instanceMethod yX8_can, Cond.selects RX8 yX8_can yX8_can, Cond.code yX8_can cX8_can 2 (some .boolean), Cond.fieldLink RX8 80 "PlanetoidDeskModel" "thrown" "I", Cond.methodLink RX8 217 yX8_placeAt, Cond.instanceMethod yX8_placeAt, Cond.selects RX8 yX8_placeAt yX8_placeAt, Cond.code yX8_placeAt cX8_placeAt 6 (some .int), Cond.fieldLink RX8 55 "PlanetoidDeskModel" "often" "[I", Cond.methodLink RX8 210 yX8_spreads, Cond.instanceMethod yX8_spreads]
def wsX8_where_r2 : List Cond := [Cond.selects RX8 yX8_spreads yX8_spreads, Cond.code yX8_spreads cX8_spreads 5 none, Cond.fieldLink RX8 52 "PlanetoidDeskModel" "key" "[I", Cond.methodLink RX8 200 yX8_orbitsOf, Cond.instanceMethod yX8_orbitsOf, Cond.selects RX8 yX8_orbitsOf yX8_orbitsOf, Cond.code yX8_orbitsOf cX8_orbitsOf 2 (some .int), Cond.fieldLink RX8 145 "PlanetoidDeskModel" "found" "I", Cond.methodLink RX8 154 yX8_lays, Cond.instanceMethod yX8_lays, Cond.selects RX8 yX8_lays yX8_lays, Cond.code yX8_lays cX8_lays 2 none, Cond.fieldLink RX8 127 "PlanetoidDeskModel" "looks" "I", Cond.methodLink RX8 130 yX8_laysAlso, Cond.instanceMethod yX8_laysAlso, Cond.selects RX8 yX8_laysAlso yX8_laysAlso, Cond.code yX8_laysAlso cX8_laysAlso 3 none, Cond.fieldLink RX8 92 "PlanetoidDeskModel" "dots" "I", Cond.fieldLink RX8 31 "PlanetoidDeskModel" "own" "[I", Cond.fieldLink RX8 49 "PlanetoidDeskModel" "look" "[I", Cond.methodLink RX8 123 yX8_isBelow, Cond.instanceMethod yX8_isBelow, Cond.selects RX8 yX8_isBelow yX8_isBelow, Cond.code yX8_isBelow cX8_isBelow 4 (some .boolean)]
def wsX8_where_r3 : List Cond := [Cond.fieldLink RX8 34 "PlanetoidDeskModel" "above" "[I", Cond.methodLink RX8 151 yX8_finds, Cond.instanceMethod yX8_finds, Cond.selects RX8 yX8_finds yX8_finds, Cond.code yX8_finds cX8_finds 8 none, Cond.methodLink RX8 142 yX8_errorOf, Cond.instanceMethod yX8_errorOf, Cond.selects RX8 yX8_errorOf yX8_errorOf, Cond.code yX8_errorOf cX8_errorOf 2 (some .int), Cond.fieldLink RX8 13 "PlanetoidDeskModel" "error" "[I", Cond.fieldLink RX8 16 "PlanetoidDeskModel" "seat" "[I", Cond.fieldLink RX8 22 "PlanetoidDeskModel" "plateOf" "[I", Cond.methodLink RX8 120 yX8_trueOf, Cond.instanceMethod yX8_trueOf, Cond.selects RX8 yX8_trueOf yX8_trueOf, Cond.code yX8_trueOf cX8_trueOf 2 (some .int), Cond.fieldLink RX8 25 "PlanetoidDeskModel" "measured" "[I", Cond.fieldLink RX8 7 "PlanetoidDeskModel" "shift" "[I", Cond.methodLink RX8 111 yX8_round, Cond.static yX8_round, Cond.code yX8_round cX8_round 2 (some .int), Cond.methodLink RX8 117 yX8_nightOf, Cond.instanceMethod yX8_nightOf, Cond.selects RX8 yX8_nightOf yX8_nightOf]
def wsX8_where_r4 : List Cond := [Cond.code yX8_nightOf cX8_nightOf 2 (some .int), Cond.fieldLink RX8 19 "PlanetoidDeskModel" "night" "[I", Cond.methodLink RX8 134 yX8_moves, Cond.static yX8_moves, Cond.code yX8_moves cX8_moves 3 (some .int), Cond.methodLink RX8 148 yX8_fits, Cond.instanceMethod yX8_fits, Cond.selects RX8 yX8_fits yX8_fits, Cond.code yX8_fits cX8_fits 6 (some .boolean), Cond.methodLink RX8 138 yX8_apart, Cond.static yX8_apart, Cond.code yX8_apart cX8_apart 3 (some .int), Cond.methodLink RX8 84 yX8_size, Cond.static yX8_size, Cond.code yX8_size cX8_size 1 (some .int), Cond.methodLink RX8 207 yX8_placeBy, Cond.instanceMethod yX8_placeBy, Cond.selects RX8 yX8_placeBy yX8_placeBy, Cond.code yX8_placeBy cX8_placeBy 3 (some .int)]
def wsX8_where : List Cond := .code yX8_where cX8_where 5 (some .int) :: ((wsX8_where_r1 ++ (wsX8_where_r2 ++ (wsX8_where_r3 ++ wsX8_where_r4))) ++ wsX80)
def wsX8_candidatesOf_r1 : List Cond := [Cond.fieldLink RX8 92 "PlanetoidDeskModel" "dots" "I", Cond.methodLink RX8 167 yX8_canLink, Cond.instanceMethod yX8_canLink, Cond.selects RX8 yX8_canLink yX8_canLink, Cond.initialized RX8, Cond.code yX8_canLink cX8_canLink 3 (some .boolean), Cond.fieldLink RX8 31 "PlanetoidDeskModel" "own" "[I", Cond.fieldLink RX8 34 "PlanetoidDeskModel" "above" "[I", Cond.fieldLink RX8 22 "PlanetoidDeskModel" "plateOf" "[I", Cond.fieldLink RX8 127 "PlanetoidDeskModel" "looks" "I", Cond.fieldLink RX8 49 "PlanetoidDeskModel" "look" "[I", Cond.methodLink RX8 154 yX8_lays, Cond.instanceMethod yX8_lays, Cond.selects RX8 yX8_lays yX8_lays, Cond.code yX8_lays cX8_lays 2 none, Cond.methodLink RX8 130 yX8_laysAlso, Cond.instanceMethod yX8_laysAlso, Cond.selects RX8 yX8_laysAlso yX8_laysAlso, Cond.code yX8_laysAlso cX8_laysAlso 3 none, Cond.methodLink RX8 123 yX8_isBelow, Cond.instanceMethod yX8_isBelow, Cond.selects RX8 yX8_isBelow yX8_isBelow, Cond.code yX8_isBelow cX8_isBelow 4 (some .boolean), Cond.methodLink RX8 157 yX8_isOnPlate]
def wsX8_candidatesOf_r2 : List Cond := [Cond.instanceMethod yX8_isOnPlate, Cond.selects RX8 yX8_isOnPlate yX8_isOnPlate, Cond.code yX8_isOnPlate cX8_isOnPlate 5 (some .boolean), Cond.methodLink RX8 160 yX8_hasOrbit, Cond.instanceMethod yX8_hasOrbit, Cond.selects RX8 yX8_hasOrbit yX8_hasOrbit, Cond.code yX8_hasOrbit cX8_hasOrbit 1 (some .boolean), Cond.fieldLink RX8 145 "PlanetoidDeskModel" "found" "I", Cond.methodLink RX8 151 yX8_finds, Cond.instanceMethod yX8_finds, Cond.selects RX8 yX8_finds yX8_finds, Cond.code yX8_finds cX8_finds 8 none, Cond.fieldLink RX8 52 "PlanetoidDeskModel" "key" "[I", Cond.methodLink RX8 142 yX8_errorOf, Cond.instanceMethod yX8_errorOf, Cond.selects RX8 yX8_errorOf yX8_errorOf, Cond.code yX8_errorOf cX8_errorOf 2 (some .int), Cond.fieldLink RX8 13 "PlanetoidDeskModel" "error" "[I", Cond.fieldLink RX8 16 "PlanetoidDeskModel" "seat" "[I", Cond.methodLink RX8 120 yX8_trueOf, Cond.instanceMethod yX8_trueOf, Cond.selects RX8 yX8_trueOf yX8_trueOf, Cond.code yX8_trueOf cX8_trueOf 2 (some .int), Cond.fieldLink RX8 25 "PlanetoidDeskModel" "measured" "[I"]
def wsX8_candidatesOf_r3 : List Cond := [Cond.fieldLink RX8 7 "PlanetoidDeskModel" "shift" "[I", Cond.methodLink RX8 111 yX8_round, Cond.static yX8_round, Cond.code yX8_round cX8_round 2 (some .int), Cond.methodLink RX8 117 yX8_nightOf, Cond.instanceMethod yX8_nightOf, Cond.selects RX8 yX8_nightOf yX8_nightOf, Cond.code yX8_nightOf cX8_nightOf 2 (some .int), Cond.fieldLink RX8 19 "PlanetoidDeskModel" "night" "[I", Cond.methodLink RX8 134 yX8_moves, Cond.static yX8_moves, Cond.code yX8_moves cX8_moves 3 (some .int), Cond.methodLink RX8 148 yX8_fits, Cond.instanceMethod yX8_fits, Cond.selects RX8 yX8_fits yX8_fits, Cond.code yX8_fits cX8_fits 6 (some .boolean), Cond.methodLink RX8 138 yX8_apart, Cond.static yX8_apart, Cond.code yX8_apart cX8_apart 3 (some .int), Cond.methodLink RX8 84 yX8_size, Cond.static yX8_size, Cond.code yX8_size cX8_size 1 (some .int)]
def wsX8_candidatesOf : List Cond := .code yX8_candidatesOf cX8_candidatesOf 4 (some .int) :: ((wsX8_candidatesOf_r1 ++ (wsX8_candidatesOf_r2 ++ wsX8_candidatesOf_r3)) ++ wsX80)
def wsX8_candidates_r1 : List Cond := [Cond.methodLink RX8 164 yX8_isBody, Cond.instanceMethod yX8_isBody, Cond.selects RX8 yX8_isBody yX8_isBody, Cond.initialized RX8, Cond.code yX8_isBody cX8_isBody 2 (some .boolean), Cond.fieldLink RX8 95 "PlanetoidDeskModel" "bodies" "I", Cond.methodLink RX8 88 yX8_isIn, Cond.static yX8_isIn, Cond.code yX8_isIn cX8_isIn 3 (some .boolean), Cond.methodLink RX8 101 yX8_can, Cond.instanceMethod yX8_can, Cond.selects RX8 yX8_can yX8_can, Cond.code yX8_can cX8_can 2 (some .boolean), Cond.fieldLink RX8 80 "PlanetoidDeskModel" "thrown" "I", Cond.methodLink RX8 220 yX8_candidatesOf, Cond.instanceMethod yX8_candidatesOf, Cond.selects RX8 yX8_candidatesOf yX8_candidatesOf, Cond.code yX8_candidatesOf cX8_candidatesOf 4 (some .int), Cond.fieldLink RX8 92 "PlanetoidDeskModel" "dots" "I", Cond.methodLink RX8 167 yX8_canLink, Cond.instanceMethod yX8_canLink, Cond.selects RX8 yX8_canLink yX8_canLink, Cond.code yX8_canLink cX8_canLink 3 (some .boolean), Cond.fieldLink RX8 31 "PlanetoidDeskModel" "own" "[I"]
def wsX8_candidates_r2 : List Cond := [Cond.fieldLink RX8 34 "PlanetoidDeskModel" "above" "[I", Cond.fieldLink RX8 22 "PlanetoidDeskModel" "plateOf" "[I", Cond.fieldLink RX8 127 "PlanetoidDeskModel" "looks" "I", Cond.fieldLink RX8 49 "PlanetoidDeskModel" "look" "[I", Cond.methodLink RX8 154 yX8_lays, Cond.instanceMethod yX8_lays, Cond.selects RX8 yX8_lays yX8_lays, Cond.code yX8_lays cX8_lays 2 none, Cond.methodLink RX8 130 yX8_laysAlso, Cond.instanceMethod yX8_laysAlso, Cond.selects RX8 yX8_laysAlso yX8_laysAlso, Cond.code yX8_laysAlso cX8_laysAlso 3 none, Cond.methodLink RX8 123 yX8_isBelow, Cond.instanceMethod yX8_isBelow, Cond.selects RX8 yX8_isBelow yX8_isBelow, Cond.code yX8_isBelow cX8_isBelow 4 (some .boolean), Cond.methodLink RX8 157 yX8_isOnPlate, Cond.instanceMethod yX8_isOnPlate, Cond.selects RX8 yX8_isOnPlate yX8_isOnPlate, Cond.code yX8_isOnPlate cX8_isOnPlate 5 (some .boolean), Cond.methodLink RX8 160 yX8_hasOrbit, Cond.instanceMethod yX8_hasOrbit, Cond.selects RX8 yX8_hasOrbit yX8_hasOrbit, Cond.code yX8_hasOrbit cX8_hasOrbit 1 (some .boolean)]
def wsX8_candidates_r3 : List Cond := [Cond.fieldLink RX8 145 "PlanetoidDeskModel" "found" "I", Cond.methodLink RX8 151 yX8_finds, Cond.instanceMethod yX8_finds, Cond.selects RX8 yX8_finds yX8_finds, Cond.code yX8_finds cX8_finds 8 none, Cond.fieldLink RX8 52 "PlanetoidDeskModel" "key" "[I", Cond.methodLink RX8 142 yX8_errorOf, Cond.instanceMethod yX8_errorOf, Cond.selects RX8 yX8_errorOf yX8_errorOf, Cond.code yX8_errorOf cX8_errorOf 2 (some .int), Cond.fieldLink RX8 13 "PlanetoidDeskModel" "error" "[I", Cond.fieldLink RX8 16 "PlanetoidDeskModel" "seat" "[I", Cond.methodLink RX8 120 yX8_trueOf, Cond.instanceMethod yX8_trueOf, Cond.selects RX8 yX8_trueOf yX8_trueOf, Cond.code yX8_trueOf cX8_trueOf 2 (some .int), Cond.fieldLink RX8 25 "PlanetoidDeskModel" "measured" "[I", Cond.fieldLink RX8 7 "PlanetoidDeskModel" "shift" "[I", Cond.methodLink RX8 111 yX8_round, Cond.static yX8_round, Cond.code yX8_round cX8_round 2 (some .int), Cond.methodLink RX8 117 yX8_nightOf, Cond.instanceMethod yX8_nightOf, Cond.selects RX8 yX8_nightOf yX8_nightOf]
def wsX8_candidates_r4 : List Cond := [Cond.code yX8_nightOf cX8_nightOf 2 (some .int), Cond.fieldLink RX8 19 "PlanetoidDeskModel" "night" "[I", Cond.methodLink RX8 134 yX8_moves, Cond.static yX8_moves, Cond.code yX8_moves cX8_moves 3 (some .int), Cond.methodLink RX8 148 yX8_fits, Cond.instanceMethod yX8_fits, Cond.selects RX8 yX8_fits yX8_fits, Cond.code yX8_fits cX8_fits 6 (some .boolean), Cond.methodLink RX8 138 yX8_apart, Cond.static yX8_apart, Cond.code yX8_apart cX8_apart 3 (some .int), Cond.methodLink RX8 84 yX8_size, Cond.static yX8_size, Cond.code yX8_size cX8_size 1 (some .int)]
def wsX8_candidates : List Cond := .code yX8_candidates cX8_candidates 2 (some .int) :: ((wsX8_candidates_r1 ++ (wsX8_candidates_r2 ++ (wsX8_candidates_r3 ++ wsX8_candidates_r4))) ++ wsX80)
def wsX8_isNear : List Cond := .code yX8_isNear cX8_isNear 6 (some .boolean) :: ([.methodLink RX8 207 yX8_placeBy, .instanceMethod yX8_placeBy, .selects RX8 yX8_placeBy yX8_placeBy, .initialized RX8, .code yX8_placeBy cX8_placeBy 3 (some .int), .methodLink RX8 134 yX8_moves, .static yX8_moves, .code yX8_moves cX8_moves 3 (some .int), .methodLink RX8 111 yX8_round, .static yX8_round, .code yX8_round cX8_round 2 (some .int), .methodLink RX8 138 yX8_apart, .static yX8_apart, .code yX8_apart cX8_apart 3 (some .int), .methodLink RX8 84 yX8_size, .static yX8_size, .code yX8_size cX8_size 1 (some .int)])
def wsX8_paths_r1 : List Cond := [Cond.fieldLink RX8 58 "PlanetoidDeskModel" "head" "[I", Cond.fieldLink RX8 145 "PlanetoidDeskModel" "found" "I", Cond.fieldLink RX8 52 "PlanetoidDeskModel" "key" "[I", Cond.fieldLink RX8 64 "PlanetoidDeskModel" "way" "[I", Cond.fieldLink RX8 61 "PlanetoidDeskModel" "next" "[I", Cond.fieldLink RX8 67 "PlanetoidDeskModel" "comes" "[Z", Cond.methodLink RX8 207 yX8_placeBy, Cond.instanceMethod yX8_placeBy, Cond.selects RX8 yX8_placeBy yX8_placeBy, Cond.initialized RX8, Cond.code yX8_placeBy cX8_placeBy 3 (some .int), Cond.methodLink RX8 134 yX8_moves, Cond.static yX8_moves, Cond.code yX8_moves cX8_moves 3 (some .int), Cond.methodLink RX8 111 yX8_round, Cond.static yX8_round, Cond.code yX8_round cX8_round 2 (some .int), Cond.methodLink RX8 223 yX8_isNear, Cond.instanceMethod yX8_isNear, Cond.selects RX8 yX8_isNear yX8_isNear, Cond.code yX8_isNear cX8_isNear 6 (some .boolean), Cond.methodLink RX8 138 yX8_apart, Cond.static yX8_apart, Cond.code yX8_apart cX8_apart 3 (some .int)]
def wsX8_paths_r2 : List Cond := [Cond.methodLink RX8 84 yX8_size, Cond.static yX8_size, Cond.code yX8_size cX8_size 1 (some .int)]
def wsX8_paths : List Cond := .code yX8_paths cX8_paths 10 (some .int) :: ((wsX8_paths_r1 ++ wsX8_paths_r2) ++ wsX80)
def wsX8_common : List Cond := .code yX8_common cX8_common 5 (some .int) :: ([])
def wsX8_chanceOf_r1 : List Cond := [Cond.fieldLink RX8 145 "PlanetoidDeskModel" "found" "I", Cond.fieldLink RX8 67 "PlanetoidDeskModel" "comes" "[Z", Cond.methodLink RX8 200 yX8_orbitsOf, Cond.instanceMethod yX8_orbitsOf, Cond.selects RX8 yX8_orbitsOf yX8_orbitsOf, Cond.initialized RX8, Cond.code yX8_orbitsOf cX8_orbitsOf 2 (some .int), Cond.methodLink RX8 154 yX8_lays, Cond.instanceMethod yX8_lays, Cond.selects RX8 yX8_lays yX8_lays, Cond.code yX8_lays cX8_lays 2 none, Cond.fieldLink RX8 127 "PlanetoidDeskModel" "looks" "I", Cond.methodLink RX8 130 yX8_laysAlso, Cond.instanceMethod yX8_laysAlso, Cond.selects RX8 yX8_laysAlso yX8_laysAlso, Cond.code yX8_laysAlso cX8_laysAlso 3 none, Cond.fieldLink RX8 92 "PlanetoidDeskModel" "dots" "I", Cond.fieldLink RX8 31 "PlanetoidDeskModel" "own" "[I", Cond.fieldLink RX8 49 "PlanetoidDeskModel" "look" "[I", Cond.methodLink RX8 123 yX8_isBelow, Cond.instanceMethod yX8_isBelow, Cond.selects RX8 yX8_isBelow yX8_isBelow, Cond.code yX8_isBelow cX8_isBelow 4 (some .boolean), Cond.fieldLink RX8 34 "PlanetoidDeskModel" "above" "[I"]
def wsX8_chanceOf_r2 : List Cond := [Cond.methodLink RX8 151 yX8_finds, Cond.instanceMethod yX8_finds, Cond.selects RX8 yX8_finds yX8_finds, Cond.code yX8_finds cX8_finds 8 none, Cond.fieldLink RX8 52 "PlanetoidDeskModel" "key" "[I", Cond.methodLink RX8 142 yX8_errorOf, Cond.instanceMethod yX8_errorOf, Cond.selects RX8 yX8_errorOf yX8_errorOf, Cond.code yX8_errorOf cX8_errorOf 2 (some .int), Cond.fieldLink RX8 13 "PlanetoidDeskModel" "error" "[I", Cond.fieldLink RX8 16 "PlanetoidDeskModel" "seat" "[I", Cond.fieldLink RX8 22 "PlanetoidDeskModel" "plateOf" "[I", Cond.methodLink RX8 120 yX8_trueOf, Cond.instanceMethod yX8_trueOf, Cond.selects RX8 yX8_trueOf yX8_trueOf, Cond.code yX8_trueOf cX8_trueOf 2 (some .int), Cond.fieldLink RX8 25 "PlanetoidDeskModel" "measured" "[I", Cond.fieldLink RX8 7 "PlanetoidDeskModel" "shift" "[I", Cond.methodLink RX8 111 yX8_round, Cond.static yX8_round, Cond.code yX8_round cX8_round 2 (some .int), Cond.methodLink RX8 117 yX8_nightOf, Cond.instanceMethod yX8_nightOf, Cond.selects RX8 yX8_nightOf yX8_nightOf]
def wsX8_chanceOf_r3 : List Cond := [Cond.code yX8_nightOf cX8_nightOf 2 (some .int), Cond.fieldLink RX8 19 "PlanetoidDeskModel" "night" "[I", Cond.methodLink RX8 134 yX8_moves, Cond.static yX8_moves, Cond.code yX8_moves cX8_moves 3 (some .int), Cond.methodLink RX8 148 yX8_fits, Cond.instanceMethod yX8_fits, Cond.selects RX8 yX8_fits yX8_fits, Cond.code yX8_fits cX8_fits 6 (some .boolean), Cond.methodLink RX8 138 yX8_apart, Cond.static yX8_apart, Cond.code yX8_apart cX8_apart 3 (some .int), Cond.methodLink RX8 84 yX8_size, Cond.static yX8_size, Cond.code yX8_size cX8_size 1 (some .int), Cond.methodLink RX8 226 yX8_paths, Cond.instanceMethod yX8_paths, Cond.selects RX8 yX8_paths yX8_paths, Cond.code yX8_paths cX8_paths 10 (some .int), Cond.fieldLink RX8 58 "PlanetoidDeskModel" "head" "[I", Cond.fieldLink RX8 64 "PlanetoidDeskModel" "way" "[I", Cond.fieldLink RX8 61 "PlanetoidDeskModel" "next" "[I", Cond.methodLink RX8 207 yX8_placeBy, Cond.instanceMethod yX8_placeBy]
def wsX8_chanceOf_r4 : List Cond := [Cond.selects RX8 yX8_placeBy yX8_placeBy, Cond.code yX8_placeBy cX8_placeBy 3 (some .int), Cond.methodLink RX8 223 yX8_isNear, Cond.instanceMethod yX8_isNear, Cond.selects RX8 yX8_isNear yX8_isNear, Cond.code yX8_isNear cX8_isNear 6 (some .boolean), Cond.methodLink RX8 229 yX8_common, Cond.static yX8_common, Cond.code yX8_common cX8_common 5 (some .int)]
def wsX8_chanceOf : List Cond := .code yX8_chanceOf cX8_chanceOf 8 (some .int) :: ((wsX8_chanceOf_r1 ++ (wsX8_chanceOf_r2 ++ (wsX8_chanceOf_r3 ++ wsX8_chanceOf_r4))) ++ wsX80)
def wsX8_chance_r1 : List Cond := [Cond.methodLink RX8 105 yX8_isNight, Cond.static yX8_isNight, Cond.initialized RX8, Cond.code yX8_isNight cX8_isNight 1 (some .boolean), Cond.methodLink RX8 88 yX8_isIn, Cond.static yX8_isIn, Cond.code yX8_isIn cX8_isIn 3 (some .boolean), Cond.methodLink RX8 164 yX8_isBody, Cond.instanceMethod yX8_isBody, Cond.selects RX8 yX8_isBody yX8_isBody, Cond.code yX8_isBody cX8_isBody 2 (some .boolean), Cond.fieldLink RX8 95 "PlanetoidDeskModel" "bodies" "I", Cond.methodLink RX8 101 yX8_can, Cond.instanceMethod yX8_can, Cond.selects RX8 yX8_can yX8_can, Cond.code yX8_can cX8_can 2 (some .boolean), Cond.fieldLink RX8 80 "PlanetoidDeskModel" "thrown" "I", Cond.methodLink RX8 232 yX8_chanceOf, Cond.instanceMethod yX8_chanceOf, Cond.selects RX8 yX8_chanceOf yX8_chanceOf, Cond.code yX8_chanceOf cX8_chanceOf 8 (some .int), Cond.fieldLink RX8 145 "PlanetoidDeskModel" "found" "I", Cond.fieldLink RX8 67 "PlanetoidDeskModel" "comes" "[Z", Cond.methodLink RX8 200 yX8_orbitsOf]
def wsX8_chance_r2 : List Cond := [Cond.instanceMethod yX8_orbitsOf, Cond.selects RX8 yX8_orbitsOf yX8_orbitsOf, Cond.code yX8_orbitsOf cX8_orbitsOf 2 (some .int), Cond.methodLink RX8 154 yX8_lays, Cond.instanceMethod yX8_lays, Cond.selects RX8 yX8_lays yX8_lays, Cond.code yX8_lays cX8_lays 2 none, Cond.fieldLink RX8 127 "PlanetoidDeskModel" "looks" "I", Cond.methodLink RX8 130 yX8_laysAlso, Cond.instanceMethod yX8_laysAlso, Cond.selects RX8 yX8_laysAlso yX8_laysAlso, Cond.code yX8_laysAlso cX8_laysAlso 3 none, Cond.fieldLink RX8 92 "PlanetoidDeskModel" "dots" "I", Cond.fieldLink RX8 31 "PlanetoidDeskModel" "own" "[I", Cond.fieldLink RX8 49 "PlanetoidDeskModel" "look" "[I", Cond.methodLink RX8 123 yX8_isBelow, Cond.instanceMethod yX8_isBelow, Cond.selects RX8 yX8_isBelow yX8_isBelow, Cond.code yX8_isBelow cX8_isBelow 4 (some .boolean), Cond.fieldLink RX8 34 "PlanetoidDeskModel" "above" "[I", Cond.methodLink RX8 151 yX8_finds, Cond.instanceMethod yX8_finds, Cond.selects RX8 yX8_finds yX8_finds, Cond.code yX8_finds cX8_finds 8 none]
def wsX8_chance_r3 : List Cond := [Cond.fieldLink RX8 52 "PlanetoidDeskModel" "key" "[I", Cond.methodLink RX8 142 yX8_errorOf, Cond.instanceMethod yX8_errorOf, Cond.selects RX8 yX8_errorOf yX8_errorOf, Cond.code yX8_errorOf cX8_errorOf 2 (some .int), Cond.fieldLink RX8 13 "PlanetoidDeskModel" "error" "[I", Cond.fieldLink RX8 16 "PlanetoidDeskModel" "seat" "[I", Cond.fieldLink RX8 22 "PlanetoidDeskModel" "plateOf" "[I", Cond.methodLink RX8 120 yX8_trueOf, Cond.instanceMethod yX8_trueOf, Cond.selects RX8 yX8_trueOf yX8_trueOf, Cond.code yX8_trueOf cX8_trueOf 2 (some .int), Cond.fieldLink RX8 25 "PlanetoidDeskModel" "measured" "[I", Cond.fieldLink RX8 7 "PlanetoidDeskModel" "shift" "[I", Cond.methodLink RX8 111 yX8_round, Cond.static yX8_round, Cond.code yX8_round cX8_round 2 (some .int), Cond.methodLink RX8 117 yX8_nightOf, Cond.instanceMethod yX8_nightOf, Cond.selects RX8 yX8_nightOf yX8_nightOf, Cond.code yX8_nightOf cX8_nightOf 2 (some .int), Cond.fieldLink RX8 19 "PlanetoidDeskModel" "night" "[I", Cond.methodLink RX8 134 yX8_moves, Cond.static yX8_moves]
def wsX8_chance_r4 : List Cond := [Cond.code yX8_moves cX8_moves 3 (some .int), Cond.methodLink RX8 148 yX8_fits, Cond.instanceMethod yX8_fits, Cond.selects RX8 yX8_fits yX8_fits, Cond.code yX8_fits cX8_fits 6 (some .boolean), Cond.methodLink RX8 138 yX8_apart, Cond.static yX8_apart, Cond.code yX8_apart cX8_apart 3 (some .int), Cond.methodLink RX8 84 yX8_size, Cond.static yX8_size, Cond.code yX8_size cX8_size 1 (some .int), Cond.methodLink RX8 226 yX8_paths, Cond.instanceMethod yX8_paths, Cond.selects RX8 yX8_paths yX8_paths, Cond.code yX8_paths cX8_paths 10 (some .int), Cond.fieldLink RX8 58 "PlanetoidDeskModel" "head" "[I", Cond.fieldLink RX8 64 "PlanetoidDeskModel" "way" "[I", Cond.fieldLink RX8 61 "PlanetoidDeskModel" "next" "[I", Cond.methodLink RX8 207 yX8_placeBy, Cond.instanceMethod yX8_placeBy, Cond.selects RX8 yX8_placeBy yX8_placeBy, Cond.code yX8_placeBy cX8_placeBy 3 (some .int), Cond.methodLink RX8 223 yX8_isNear, Cond.instanceMethod yX8_isNear]
def wsX8_chance_r5 : List Cond := [Cond.selects RX8 yX8_isNear yX8_isNear, Cond.code yX8_isNear cX8_isNear 6 (some .boolean), Cond.methodLink RX8 229 yX8_common, Cond.static yX8_common, Cond.code yX8_common cX8_common 5 (some .int)]
def wsX8_chance : List Cond := .code yX8_chance cX8_chance 6 (some .int) :: ((wsX8_chance_r1 ++ (wsX8_chance_r2 ++ (wsX8_chance_r3 ++ (wsX8_chance_r4 ++ wsX8_chance_r5)))) ++ wsX80)
def wsX8_areAkin : List Cond := .code yX8_areAkin cX8_areAkin 4 (some .boolean) :: ([.fieldLink RX8 40 "PlanetoidDeskModel" "numberOf" "[I", .fieldLink RX8 43 "PlanetoidDeskModel" "properB" "[I", .fieldLink RX8 46 "PlanetoidDeskModel" "properC" "[I", .methodLink RX8 84 yX8_size, .static yX8_size, .initialized RX8, .code yX8_size cX8_size 1 (some .int)] ++ wsX80)
def wsX8_reaches : List Cond := .code yX8_reaches cX8_reaches 7 none :: ([.fieldLink RX8 95 "PlanetoidDeskModel" "bodies" "I", .fieldLink RX8 77 "PlanetoidDeskModel" "reached" "[I", .fieldLink RX8 40 "PlanetoidDeskModel" "numberOf" "[I", .methodLink RX8 236 yX8_areAkin, .instanceMethod yX8_areAkin, .selects RX8 yX8_areAkin yX8_areAkin, .initialized RX8, .code yX8_areAkin cX8_areAkin 4 (some .boolean), .fieldLink RX8 43 "PlanetoidDeskModel" "properB" "[I", .fieldLink RX8 46 "PlanetoidDeskModel" "properC" "[I", .methodLink RX8 84 yX8_size, .static yX8_size, .code yX8_size cX8_size 1 (some .int)] ++ wsX80)
def wsX8_families_r1 : List Cond := [Cond.fieldLink RX8 95 "PlanetoidDeskModel" "bodies" "I", Cond.fieldLink RX8 77 "PlanetoidDeskModel" "reached" "[I", Cond.methodLink RX8 88 yX8_isIn, Cond.static yX8_isIn, Cond.initialized RX8, Cond.code yX8_isIn cX8_isIn 3 (some .boolean), Cond.methodLink RX8 101 yX8_can, Cond.instanceMethod yX8_can, Cond.selects RX8 yX8_can yX8_can, Cond.code yX8_can cX8_can 2 (some .boolean), Cond.fieldLink RX8 80 "PlanetoidDeskModel" "thrown" "I", Cond.methodLink RX8 239 yX8_reaches, Cond.instanceMethod yX8_reaches, Cond.selects RX8 yX8_reaches yX8_reaches, Cond.code yX8_reaches cX8_reaches 7 none, Cond.fieldLink RX8 40 "PlanetoidDeskModel" "numberOf" "[I", Cond.methodLink RX8 236 yX8_areAkin, Cond.instanceMethod yX8_areAkin, Cond.selects RX8 yX8_areAkin yX8_areAkin, Cond.code yX8_areAkin cX8_areAkin 4 (some .boolean), Cond.fieldLink RX8 43 "PlanetoidDeskModel" "properB" "[I", Cond.fieldLink RX8 46 "PlanetoidDeskModel" "properC" "[I", Cond.methodLink RX8 84 yX8_size, Cond.static yX8_size]
def wsX8_families_r2 : List Cond := [Cond.code yX8_size cX8_size 1 (some .int)]
def wsX8_families : List Cond := .code yX8_families cX8_families 4 (some .int) :: ((wsX8_families_r1 ++ wsX8_families_r2) ++ wsX80)
def wsX8_familyOf : List Cond := .code yX8_familyOf cX8_familyOf 3 (some .int) :: ([.fieldLink RX8 77 "PlanetoidDeskModel" "reached" "[I", .methodLink RX8 239 yX8_reaches, .instanceMethod yX8_reaches, .selects RX8 yX8_reaches yX8_reaches, .initialized RX8, .code yX8_reaches cX8_reaches 7 none, .fieldLink RX8 95 "PlanetoidDeskModel" "bodies" "I", .fieldLink RX8 40 "PlanetoidDeskModel" "numberOf" "[I", .methodLink RX8 236 yX8_areAkin, .instanceMethod yX8_areAkin, .selects RX8 yX8_areAkin yX8_areAkin, .code yX8_areAkin cX8_areAkin 4 (some .boolean), .fieldLink RX8 43 "PlanetoidDeskModel" "properB" "[I", .fieldLink RX8 46 "PlanetoidDeskModel" "properC" "[I", .methodLink RX8 84 yX8_size, .static yX8_size, .code yX8_size cX8_size 1 (some .int)] ++ wsX80)
def wsX8_family_r1 : List Cond := [Cond.methodLink RX8 164 yX8_isBody, Cond.instanceMethod yX8_isBody, Cond.selects RX8 yX8_isBody yX8_isBody, Cond.initialized RX8, Cond.code yX8_isBody cX8_isBody 2 (some .boolean), Cond.fieldLink RX8 95 "PlanetoidDeskModel" "bodies" "I", Cond.methodLink RX8 88 yX8_isIn, Cond.static yX8_isIn, Cond.code yX8_isIn cX8_isIn 3 (some .boolean), Cond.methodLink RX8 101 yX8_can, Cond.instanceMethod yX8_can, Cond.selects RX8 yX8_can yX8_can, Cond.code yX8_can cX8_can 2 (some .boolean), Cond.fieldLink RX8 80 "PlanetoidDeskModel" "thrown" "I", Cond.methodLink RX8 242 yX8_familyOf, Cond.instanceMethod yX8_familyOf, Cond.selects RX8 yX8_familyOf yX8_familyOf, Cond.code yX8_familyOf cX8_familyOf 3 (some .int), Cond.fieldLink RX8 77 "PlanetoidDeskModel" "reached" "[I", Cond.methodLink RX8 239 yX8_reaches, Cond.instanceMethod yX8_reaches, Cond.selects RX8 yX8_reaches yX8_reaches, Cond.code yX8_reaches cX8_reaches 7 none, Cond.fieldLink RX8 40 "PlanetoidDeskModel" "numberOf" "[I"]
def wsX8_family_r2 : List Cond := [Cond.methodLink RX8 236 yX8_areAkin, Cond.instanceMethod yX8_areAkin, Cond.selects RX8 yX8_areAkin yX8_areAkin, Cond.code yX8_areAkin cX8_areAkin 4 (some .boolean), Cond.fieldLink RX8 43 "PlanetoidDeskModel" "properB" "[I", Cond.fieldLink RX8 46 "PlanetoidDeskModel" "properC" "[I", Cond.methodLink RX8 84 yX8_size, Cond.static yX8_size, Cond.code yX8_size cX8_size 1 (some .int)]
def wsX8_family : List Cond := .code yX8_family cX8_family 3 (some .int) :: ((wsX8_family_r1 ++ wsX8_family_r2) ++ wsX80)
def wsX8_fault : List Cond := .code yX8_fault cX8_fault 4 (some .int) :: ([.fieldLink RX8 71 "PlanetoidDeskModel" "least" "[I", .fieldLink RX8 74 "PlanetoidDeskModel" "most" "[I", .fieldLink RX8 127 "PlanetoidDeskModel" "looks" "I", .fieldLink RX8 49 "PlanetoidDeskModel" "look" "[I", .fieldLink RX8 28 "PlanetoidDeskModel" "light" "[I", .methodLink RX8 117 yX8_nightOf, .instanceMethod yX8_nightOf, .selects RX8 yX8_nightOf yX8_nightOf, .initialized RX8, .code yX8_nightOf cX8_nightOf 2 (some .int), .fieldLink RX8 19 "PlanetoidDeskModel" "night" "[I", .fieldLink RX8 22 "PlanetoidDeskModel" "plateOf" "[I"] ++ wsX80)
def wsX8_turnOf_r1 : List Cond := [Cond.fieldLink RX8 127 "PlanetoidDeskModel" "looks" "I", Cond.methodLink RX8 154 yX8_lays, Cond.instanceMethod yX8_lays, Cond.selects RX8 yX8_lays yX8_lays, Cond.initialized RX8, Cond.code yX8_lays cX8_lays 2 none, Cond.methodLink RX8 130 yX8_laysAlso, Cond.instanceMethod yX8_laysAlso, Cond.selects RX8 yX8_laysAlso yX8_laysAlso, Cond.code yX8_laysAlso cX8_laysAlso 3 none, Cond.fieldLink RX8 92 "PlanetoidDeskModel" "dots" "I", Cond.fieldLink RX8 31 "PlanetoidDeskModel" "own" "[I", Cond.fieldLink RX8 49 "PlanetoidDeskModel" "look" "[I", Cond.methodLink RX8 123 yX8_isBelow, Cond.instanceMethod yX8_isBelow, Cond.selects RX8 yX8_isBelow yX8_isBelow, Cond.code yX8_isBelow cX8_isBelow 4 (some .boolean), Cond.fieldLink RX8 34 "PlanetoidDeskModel" "above" "[I", Cond.methodLink RX8 245 yX8_fault, Cond.instanceMethod yX8_fault, Cond.selects RX8 yX8_fault yX8_fault, Cond.code yX8_fault cX8_fault 4 (some .int), Cond.fieldLink RX8 71 "PlanetoidDeskModel" "least" "[I", Cond.fieldLink RX8 74 "PlanetoidDeskModel" "most" "[I"]
def wsX8_turnOf_r2 : List Cond := [Cond.fieldLink RX8 28 "PlanetoidDeskModel" "light" "[I", Cond.methodLink RX8 117 yX8_nightOf, Cond.instanceMethod yX8_nightOf, Cond.selects RX8 yX8_nightOf yX8_nightOf, Cond.code yX8_nightOf cX8_nightOf 2 (some .int), Cond.fieldLink RX8 19 "PlanetoidDeskModel" "night" "[I", Cond.fieldLink RX8 22 "PlanetoidDeskModel" "plateOf" "[I"]
def wsX8_turnOf : List Cond := .code yX8_turnOf cX8_turnOf 5 (some .int) :: ((wsX8_turnOf_r1 ++ wsX8_turnOf_r2) ++ wsX80)
def wsX8_turn_r1 : List Cond := [Cond.methodLink RX8 164 yX8_isBody, Cond.instanceMethod yX8_isBody, Cond.selects RX8 yX8_isBody yX8_isBody, Cond.initialized RX8, Cond.code yX8_isBody cX8_isBody 2 (some .boolean), Cond.fieldLink RX8 95 "PlanetoidDeskModel" "bodies" "I", Cond.methodLink RX8 88 yX8_isIn, Cond.static yX8_isIn, Cond.code yX8_isIn cX8_isIn 3 (some .boolean), Cond.methodLink RX8 101 yX8_can, Cond.instanceMethod yX8_can, Cond.selects RX8 yX8_can yX8_can, Cond.code yX8_can cX8_can 2 (some .boolean), Cond.fieldLink RX8 80 "PlanetoidDeskModel" "thrown" "I", Cond.methodLink RX8 248 yX8_turnOf, Cond.instanceMethod yX8_turnOf, Cond.selects RX8 yX8_turnOf yX8_turnOf, Cond.code yX8_turnOf cX8_turnOf 5 (some .int), Cond.fieldLink RX8 127 "PlanetoidDeskModel" "looks" "I", Cond.methodLink RX8 154 yX8_lays, Cond.instanceMethod yX8_lays, Cond.selects RX8 yX8_lays yX8_lays, Cond.code yX8_lays cX8_lays 2 none, Cond.methodLink RX8 130 yX8_laysAlso]
def wsX8_turn_r2 : List Cond := [Cond.instanceMethod yX8_laysAlso, Cond.selects RX8 yX8_laysAlso yX8_laysAlso, Cond.code yX8_laysAlso cX8_laysAlso 3 none, Cond.fieldLink RX8 92 "PlanetoidDeskModel" "dots" "I", Cond.fieldLink RX8 31 "PlanetoidDeskModel" "own" "[I", Cond.fieldLink RX8 49 "PlanetoidDeskModel" "look" "[I", Cond.methodLink RX8 123 yX8_isBelow, Cond.instanceMethod yX8_isBelow, Cond.selects RX8 yX8_isBelow yX8_isBelow, Cond.code yX8_isBelow cX8_isBelow 4 (some .boolean), Cond.fieldLink RX8 34 "PlanetoidDeskModel" "above" "[I", Cond.methodLink RX8 245 yX8_fault, Cond.instanceMethod yX8_fault, Cond.selects RX8 yX8_fault yX8_fault, Cond.code yX8_fault cX8_fault 4 (some .int), Cond.fieldLink RX8 71 "PlanetoidDeskModel" "least" "[I", Cond.fieldLink RX8 74 "PlanetoidDeskModel" "most" "[I", Cond.fieldLink RX8 28 "PlanetoidDeskModel" "light" "[I", Cond.methodLink RX8 117 yX8_nightOf, Cond.instanceMethod yX8_nightOf, Cond.selects RX8 yX8_nightOf yX8_nightOf, Cond.code yX8_nightOf cX8_nightOf 2 (some .int), Cond.fieldLink RX8 19 "PlanetoidDeskModel" "night" "[I", Cond.fieldLink RX8 22 "PlanetoidDeskModel" "plateOf" "[I"]
def wsX8_turn : List Cond := .code yX8_turn cX8_turn 3 (some .int) :: ((wsX8_turn_r1 ++ wsX8_turn_r2) ++ wsX80)
def wsJ9_abs_0f7a4 : List Cond := .code yJ9_abs_0f7a4 cJ9_abs_0f7a4 1 (some .int) :: ([])
def wsJ9_max_7cf53 : List Cond := .code yJ9_max_7cf53 cJ9_max_7cf53 2 (some .int) :: ([])
def wsJ9_min_7cf53 : List Cond := .code yJ9_min_7cf53 cJ9_min_7cf53 2 (some .int) :: ([])
def wsL_observatory_r1 : List Cond := [Cond.classLink RL 13 "java/lang/IllegalArgumentException", Cond.classLink RL 15 "java/lang/IllegalStateException", Cond.methodLink RL 7 yX7_observatory, Cond.instanceMethod yX7_observatory, Cond.selects RX7 yX7_observatory yX7_observatory, Cond.initialized RX7, Cond.code yX7_observatory cX7_observatory 2 (some .int), Cond.classLink RX7 59 "java/lang/IllegalStateException", Cond.initialized "java/lang/IllegalStateException", Cond.fieldLink RX7 10 "PlanetoidDesk" "sky" "LPlanetoidDesk$Sky;", Cond.methodLink RX7 51 yX7_needWithin, Cond.static yX7_needWithin, Cond.code yX7_needWithin cX7_needWithin 3 none, Cond.classLink RX7 206 "java/lang/IllegalArgumentException", Cond.initialized "java/lang/IllegalArgumentException", Cond.methodLink RX7 66 yX6_addObservatory, Cond.instanceMethod yX6_addObservatory, Cond.selects RX6 yX6_addObservatory yX6_addObservatory, Cond.initialized RX6, Cond.code yX6_addObservatory cX6_addObservatory 2 (some .int), Cond.fieldLink RX6 14 "PlanetoidDesk$Sky" "errors" "LPlanetoidDesk$Row;", Cond.fieldLink RX6 38 "PlanetoidDesk$Sky" "observatoryCount" "I", Cond.methodLink RX6 42 yX5_put, Cond.instanceMethod yX5_put]
def wsL_observatory_r2 : List Cond := [Cond.selects RX5 yX5_put yX5_put, Cond.initialized RX5, Cond.code yX5_put cX5_put 3 none, Cond.fieldLink RX5 7 "PlanetoidDesk$Row" "cells" "[I"]
def wsL_observatory : List Cond := .codeWith yL_observatory cL_observatory 4 (some .int) [(0, 9, 12, 13), (0, 9, 15, 15)] :: ((wsL_observatory_r1 ++ wsL_observatory_r2) ++ wsX70 ++ wsX60 ++ wsX50 ++ (vx_atS RX7 63 "java/lang/IllegalStateException" ["java/lang/RuntimeException", "java/lang/Exception"]).filter goodWord ++ (vx_atS RX7 210 "java/lang/IllegalArgumentException" ["java/lang/RuntimeException", "java/lang/Exception"]).filter goodWord)
def wsL_plate_r1 : List Cond := [Cond.classLink RL 21 "java/lang/IndexOutOfBoundsException", Cond.classLink RL 13 "java/lang/IllegalArgumentException", Cond.classLink RL 15 "java/lang/IllegalStateException", Cond.methodLink RL 17 yX7_plate, Cond.instanceMethod yX7_plate, Cond.selects RX7 yX7_plate yX7_plate, Cond.initialized RX7, Cond.code yX7_plate cX7_plate 3 (some .int), Cond.classLink RX7 59 "java/lang/IllegalStateException", Cond.initialized "java/lang/IllegalStateException", Cond.fieldLink RX7 10 "PlanetoidDesk" "sky" "LPlanetoidDesk$Sky;", Cond.methodLink RX7 70 yX7_needOneOf, Cond.static yX7_needOneOf, Cond.code yX7_needOneOf cX7_needOneOf 2 none, Cond.classLink RX7 241 "java/lang/IndexOutOfBoundsException", Cond.initialized "java/lang/IndexOutOfBoundsException", Cond.methodLink RX7 51 yX7_needWithin, Cond.static yX7_needWithin, Cond.code yX7_needWithin cX7_needWithin 3 none, Cond.classLink RX7 206 "java/lang/IllegalArgumentException", Cond.initialized "java/lang/IllegalArgumentException", Cond.methodLink RX7 79 yX6_addPlate, Cond.instanceMethod yX6_addPlate, Cond.selects RX6 yX6_addPlate yX6_addPlate]
def wsL_plate_r2 : List Cond := [Cond.initialized RX6, Cond.code yX6_addPlate cX6_addPlate 3 (some .int), Cond.fieldLink RX6 20 "PlanetoidDesk$Sky" "plateObservatories" "LPlanetoidDesk$Row;", Cond.fieldLink RX6 46 "PlanetoidDesk$Sky" "plateCount" "I", Cond.fieldLink RX6 23 "PlanetoidDesk$Sky" "plateNights" "LPlanetoidDesk$Row;", Cond.methodLink RX6 42 yX5_put, Cond.instanceMethod yX5_put, Cond.selects RX5 yX5_put yX5_put, Cond.initialized RX5, Cond.code yX5_put cX5_put 3 none, Cond.fieldLink RX5 7 "PlanetoidDesk$Row" "cells" "[I"]
def wsL_plate : List Cond := .codeWith yL_plate cL_plate 5 (some .int) [(0, 10, 13, 21), (0, 10, 17, 13), (0, 10, 21, 15)] :: ((wsL_plate_r1 ++ wsL_plate_r2) ++ wsX70 ++ wsX60 ++ wsX50 ++ (vx_atS RX7 63 "java/lang/IllegalStateException" ["java/lang/RuntimeException", "java/lang/Exception"]).filter goodWord ++ (vx_atS RX7 245 "java/lang/IndexOutOfBoundsException" ["java/lang/RuntimeException", "java/lang/Exception"]).filter goodWord ++ (vx_atS RX7 210 "java/lang/IllegalArgumentException" ["java/lang/RuntimeException", "java/lang/Exception"]).filter goodWord)
def wsL_dot_r1 : List Cond := [Cond.classLink RL 21 "java/lang/IndexOutOfBoundsException", Cond.classLink RL 13 "java/lang/IllegalArgumentException", Cond.classLink RL 15 "java/lang/IllegalStateException", Cond.methodLink RL 23 yX7_dot, Cond.instanceMethod yX7_dot, Cond.selects RX7 yX7_dot yX7_dot, Cond.initialized RX7, Cond.code yX7_dot cX7_dot 4 (some .int), Cond.classLink RX7 59 "java/lang/IllegalStateException", Cond.initialized "java/lang/IllegalStateException", Cond.fieldLink RX7 10 "PlanetoidDesk" "sky" "LPlanetoidDesk$Sky;", Cond.methodLink RX7 70 yX7_needOneOf, Cond.static yX7_needOneOf, Cond.code yX7_needOneOf cX7_needOneOf 2 none, Cond.classLink RX7 241 "java/lang/IndexOutOfBoundsException", Cond.initialized "java/lang/IndexOutOfBoundsException", Cond.methodLink RX7 51 yX7_needWithin, Cond.static yX7_needWithin, Cond.code yX7_needWithin cX7_needWithin 3 none, Cond.classLink RX7 206 "java/lang/IllegalArgumentException", Cond.initialized "java/lang/IllegalArgumentException", Cond.methodLink RX7 88 yX6_addDot, Cond.instanceMethod yX6_addDot, Cond.selects RX6 yX6_addDot yX6_addDot]
def wsL_dot_r2 : List Cond := [Cond.initialized RX6, Cond.code yX6_addDot cX6_addDot 4 (some .int), Cond.fieldLink RX6 26 "PlanetoidDesk$Sky" "dotPlates" "LPlanetoidDesk$Row;", Cond.fieldLink RX6 49 "PlanetoidDesk$Sky" "dotCount" "I", Cond.fieldLink RX6 29 "PlanetoidDesk$Sky" "dotPlaces" "LPlanetoidDesk$Row;", Cond.fieldLink RX6 32 "PlanetoidDesk$Sky" "dotLights" "LPlanetoidDesk$Row;", Cond.methodLink RX6 42 yX5_put, Cond.instanceMethod yX5_put, Cond.selects RX5 yX5_put yX5_put, Cond.initialized RX5, Cond.code yX5_put cX5_put 3 none, Cond.fieldLink RX5 7 "PlanetoidDesk$Row" "cells" "[I"]
def wsL_dot : List Cond := .codeWith yL_dot cL_dot 6 (some .int) [(0, 12, 15, 21), (0, 12, 19, 13), (0, 12, 23, 15)] :: ((wsL_dot_r1 ++ wsL_dot_r2) ++ wsX70 ++ wsX60 ++ wsX50 ++ (vx_atS RX7 63 "java/lang/IllegalStateException" ["java/lang/RuntimeException", "java/lang/Exception"]).filter goodWord ++ (vx_atS RX7 245 "java/lang/IndexOutOfBoundsException" ["java/lang/RuntimeException", "java/lang/Exception"]).filter goodWord ++ (vx_atS RX7 210 "java/lang/IllegalArgumentException" ["java/lang/RuntimeException", "java/lang/Exception"]).filter goodWord)
def wsL_shift_r1 : List Cond := [Cond.classLink RL 21 "java/lang/IndexOutOfBoundsException", Cond.classLink RL 13 "java/lang/IllegalArgumentException", Cond.methodLink RL 27 yX7_shift, Cond.instanceMethod yX7_shift, Cond.selects RX7 yX7_shift yX7_shift, Cond.initialized RX7, Cond.code yX7_shift cX7_shift 3 (some .int), Cond.fieldLink RX7 10 "PlanetoidDesk" "sky" "LPlanetoidDesk$Sky;", Cond.methodLink RX7 70 yX7_needOneOf, Cond.static yX7_needOneOf, Cond.code yX7_needOneOf cX7_needOneOf 2 none, Cond.classLink RX7 241 "java/lang/IndexOutOfBoundsException", Cond.initialized "java/lang/IndexOutOfBoundsException", Cond.methodLink RX7 51 yX7_needWithin, Cond.static yX7_needWithin, Cond.code yX7_needWithin cX7_needWithin 3 none, Cond.classLink RX7 206 "java/lang/IllegalArgumentException", Cond.initialized "java/lang/IllegalArgumentException", Cond.methodLink RX7 92 yX6_replaceShift, Cond.instanceMethod yX6_replaceShift, Cond.selects RX6 yX6_replaceShift yX6_replaceShift, Cond.initialized RX6, Cond.code yX6_replaceShift cX6_replaceShift 4 (some .int), Cond.fieldLink RX6 35 "PlanetoidDesk$Sky" "shifts" "LPlanetoidDesk$Row;"]
def wsL_shift_r2 : List Cond := [Cond.methodLink RX6 52 yX5_at, Cond.instanceMethod yX5_at, Cond.selects RX5 yX5_at yX5_at, Cond.initialized RX5, Cond.code yX5_at cX5_at 2 (some .int), Cond.fieldLink RX5 7 "PlanetoidDesk$Row" "cells" "[I", Cond.methodLink RX6 42 yX5_put, Cond.instanceMethod yX5_put, Cond.selects RX5 yX5_put yX5_put, Cond.code yX5_put cX5_put 3 none]
def wsL_shift : List Cond := .codeWith yL_shift cL_shift 5 (some .int) [(0, 10, 13, 21), (0, 10, 17, 13)] :: ((wsL_shift_r1 ++ wsL_shift_r2) ++ wsX70 ++ wsX60 ++ wsX50 ++ (vx_atS RX7 245 "java/lang/IndexOutOfBoundsException" ["java/lang/RuntimeException", "java/lang/Exception"]).filter goodWord ++ (vx_atS RX7 210 "java/lang/IllegalArgumentException" ["java/lang/RuntimeException", "java/lang/Exception"]).filter goodWord)
def wsL_ofDot_r1 : List Cond := [Cond.classLink RL 21 "java/lang/IndexOutOfBoundsException", Cond.classLink RL 13 "java/lang/IllegalArgumentException", Cond.methodLink RL 30 yX7_ofDot, Cond.instanceMethod yX7_ofDot, Cond.selects RX7 yX7_ofDot yX7_ofDot, Cond.initialized RX7, Cond.code yX7_ofDot cX7_ofDot 3 (some .int), Cond.fieldLink RX7 10 "PlanetoidDesk" "sky" "LPlanetoidDesk$Sky;", Cond.fieldLink RX7 19 "PlanetoidDesk" "bodies" "LPlanetoidDesk$Bodies;", Cond.methodLink RX7 70 yX7_needOneOf, Cond.static yX7_needOneOf, Cond.code yX7_needOneOf cX7_needOneOf 2 none, Cond.classLink RX7 241 "java/lang/IndexOutOfBoundsException", Cond.initialized "java/lang/IndexOutOfBoundsException", Cond.methodLink RX7 51 yX7_needWithin, Cond.static yX7_needWithin, Cond.code yX7_needWithin cX7_needWithin 3 none, Cond.classLink RX7 206 "java/lang/IllegalArgumentException", Cond.initialized "java/lang/IllegalArgumentException", Cond.methodLink RX7 95 yX6_nightOf, Cond.instanceMethod yX6_nightOf, Cond.selects RX6 yX6_nightOf yX6_nightOf, Cond.initialized RX6, Cond.code yX6_nightOf cX6_nightOf 2 (some .int)]
def wsL_ofDot_r2 : List Cond := [Cond.fieldLink RX6 23 "PlanetoidDesk$Sky" "plateNights" "LPlanetoidDesk$Row;", Cond.fieldLink RX6 26 "PlanetoidDesk$Sky" "dotPlates" "LPlanetoidDesk$Row;", Cond.methodLink RX6 52 yX5_at, Cond.instanceMethod yX5_at, Cond.selects RX5 yX5_at yX5_at, Cond.initialized RX5, Cond.code yX5_at cX5_at 2 (some .int), Cond.fieldLink RX5 7 "PlanetoidDesk$Row" "cells" "[I", Cond.methodLink RX7 98 yX6_truePlaceOf, Cond.instanceMethod yX6_truePlaceOf, Cond.selects RX6 yX6_truePlaceOf yX6_truePlaceOf, Cond.code yX6_truePlaceOf cX6_truePlaceOf 3 (some .int), Cond.fieldLink RX6 29 "PlanetoidDesk$Sky" "dotPlaces" "LPlanetoidDesk$Row;", Cond.fieldLink RX6 35 "PlanetoidDesk$Sky" "shifts" "LPlanetoidDesk$Row;", Cond.methodLink RX6 56 yJ9_floorMod_7cf53, Cond.static yJ9_floorMod_7cf53, Cond.initialized RJ9, Cond.code yJ9_floorMod_7cf53 cJ9_floorMod_7cf53 3 (some .int), Cond.methodLink RX7 101 yX6_lightOf, Cond.instanceMethod yX6_lightOf, Cond.selects RX6 yX6_lightOf yX6_lightOf, Cond.code yX6_lightOf cX6_lightOf 2 (some .int), Cond.fieldLink RX6 32 "PlanetoidDesk$Sky" "dotLights" "LPlanetoidDesk$Row;", Cond.methodLink RX7 104 yX0_ownerOf]
def wsL_ofDot_r3 : List Cond := [Cond.instanceMethod yX0_ownerOf, Cond.selects RX0 yX0_ownerOf yX0_ownerOf, Cond.initialized RX0, Cond.code yX0_ownerOf cX0_ownerOf 2 (some .int), Cond.fieldLink RX0 14 "PlanetoidDesk$Bodies" "owners" "LPlanetoidDesk$Row;", Cond.methodLink RX0 46 yX5_at]
def wsL_ofDot : List Cond := .codeWith yL_ofDot cL_ofDot 5 (some .int) [(0, 10, 13, 21), (0, 10, 17, 13)] :: ((wsL_ofDot_r1 ++ (wsL_ofDot_r2 ++ wsL_ofDot_r3)) ++ wsX70 ++ wsX60 ++ wsX50 ++ wsX00 ++ (vx_atS RX7 245 "java/lang/IndexOutOfBoundsException" ["java/lang/RuntimeException", "java/lang/Exception"]).filter goodWord ++ (vx_atS RX7 210 "java/lang/IllegalArgumentException" ["java/lang/RuntimeException", "java/lang/Exception"]).filter goodWord)
def wsL_body_r1 : List Cond := [Cond.classLink RL 21 "java/lang/IndexOutOfBoundsException", Cond.classLink RL 15 "java/lang/IllegalStateException", Cond.methodLink RL 33 yX7_body, Cond.instanceMethod yX7_body, Cond.selects RX7 yX7_body yX7_body, Cond.initialized RX7, Cond.code yX7_body cX7_body 2 (some .int), Cond.classLink RX7 59 "java/lang/IllegalStateException", Cond.initialized "java/lang/IllegalStateException", Cond.fieldLink RX7 10 "PlanetoidDesk" "sky" "LPlanetoidDesk$Sky;", Cond.fieldLink RX7 19 "PlanetoidDesk" "bodies" "LPlanetoidDesk$Bodies;", Cond.methodLink RX7 70 yX7_needOneOf, Cond.static yX7_needOneOf, Cond.code yX7_needOneOf cX7_needOneOf 2 none, Cond.classLink RX7 241 "java/lang/IndexOutOfBoundsException", Cond.initialized "java/lang/IndexOutOfBoundsException", Cond.methodLink RX7 107 yX0_isUnlinked, Cond.instanceMethod yX0_isUnlinked, Cond.selects RX0 yX0_isUnlinked yX0_isUnlinked, Cond.initialized RX0, Cond.code yX0_isUnlinked cX0_isUnlinked 2 (some .boolean), Cond.fieldLink RX0 14 "PlanetoidDesk$Bodies" "owners" "LPlanetoidDesk$Row;", Cond.methodLink RX0 46 yX5_at, Cond.instanceMethod yX5_at]
def wsL_body_r2 : List Cond := [Cond.selects RX5 yX5_at yX5_at, Cond.initialized RX5, Cond.code yX5_at cX5_at 2 (some .int), Cond.fieldLink RX5 7 "PlanetoidDesk$Row" "cells" "[I", Cond.methodLink RX7 118 yX0_addBody, Cond.instanceMethod yX0_addBody, Cond.selects RX0 yX0_addBody yX0_addBody, Cond.code yX0_addBody cX0_addBody 2 (some .int), Cond.fieldLink RX0 35 "PlanetoidDesk$Bodies" "count" "I", Cond.methodLink RX0 39 yX0_own, Cond.instanceMethod yX0_own, Cond.selects RX0 yX0_own yX0_own, Cond.code yX0_own cX0_own 3 none, Cond.methodLink RX0 43 yX5_put, Cond.instanceMethod yX5_put, Cond.selects RX5 yX5_put yX5_put, Cond.code yX5_put cX5_put 3 none]
def wsL_body : List Cond := .codeWith yL_body cL_body 4 (some .int) [(0, 9, 12, 21), (0, 9, 15, 15)] :: ((wsL_body_r1 ++ wsL_body_r2) ++ wsX70 ++ wsX60 ++ wsX00 ++ wsX50 ++ (vx_atS RX7 63 "java/lang/IllegalStateException" ["java/lang/RuntimeException", "java/lang/Exception"]).filter goodWord ++ (vx_atS RX7 245 "java/lang/IndexOutOfBoundsException" ["java/lang/RuntimeException", "java/lang/Exception"]).filter goodWord)
def wsL_link_r1 : List Cond := [Cond.classLink RL 21 "java/lang/IndexOutOfBoundsException", Cond.classLink RL 15 "java/lang/IllegalStateException", Cond.methodLink RL 36 yX7_link, Cond.instanceMethod yX7_link, Cond.selects RX7 yX7_link yX7_link, Cond.initialized RX7, Cond.code yX7_link cX7_link 3 (some .int), Cond.classLink RX7 59 "java/lang/IllegalStateException", Cond.initialized "java/lang/IllegalStateException", Cond.fieldLink RX7 19 "PlanetoidDesk" "bodies" "LPlanetoidDesk$Bodies;", Cond.fieldLink RX7 10 "PlanetoidDesk" "sky" "LPlanetoidDesk$Sky;", Cond.methodLink RX7 70 yX7_needOneOf, Cond.static yX7_needOneOf, Cond.code yX7_needOneOf cX7_needOneOf 2 none, Cond.classLink RX7 241 "java/lang/IndexOutOfBoundsException", Cond.initialized "java/lang/IndexOutOfBoundsException", Cond.methodLink RX7 121 yX7_findOrbits, Cond.instanceMethod yX7_findOrbits, Cond.selects RX7 yX7_findOrbits yX7_findOrbits, Cond.code yX7_findOrbits cX7_findOrbits 2 none, Cond.fieldLink RX7 33 "PlanetoidDesk" "fitting" "LPlanetoidDesk$Orbits;", Cond.methodLink RX7 257 yX3_takeAll, Cond.instanceMethod yX3_takeAll, Cond.selects RX3 yX3_takeAll yX3_takeAll]
def wsL_link_r2 : List Cond := [Cond.initialized RX3, Cond.code yX3_takeAll cX3_takeAll 1 none, Cond.fieldLink RX3 14 "PlanetoidDesk$Orbits" "starts" "LPlanetoidDesk$Row;", Cond.fieldLink RX3 20 "PlanetoidDesk$Orbits" "widths" "LPlanetoidDesk$Row;", Cond.methodLink RX3 26 yX5_fill, Cond.instanceMethod yX5_fill, Cond.selects RX5 yX5_fill yX5_fill, Cond.initialized RX5, Cond.code yX5_fill cX5_fill 3 none, Cond.fieldLink RX5 7 "PlanetoidDesk$Row" "cells" "[I", Cond.methodLink RX7 260 yX7_keepFitting, Cond.instanceMethod yX7_keepFitting, Cond.selects RX7 yX7_keepFitting yX7_keepFitting, Cond.code yX7_keepFitting cX7_keepFitting 4 none, Cond.fieldLink RX7 26 "PlanetoidDesk" "looks" "LPlanetoidDesk$Looks;", Cond.methodLink RX7 191 yX7_gatherLooks, Cond.instanceMethod yX7_gatherLooks, Cond.selects RX7 yX7_gatherLooks yX7_gatherLooks, Cond.code yX7_gatherLooks cX7_gatherLooks 3 none, Cond.methodLink RX7 248 yX0_isLook, Cond.instanceMethod yX0_isLook, Cond.selects RX0 yX0_isLook yX0_isLook, Cond.initialized RX0, Cond.code yX0_isLook cX0_isLook 5 (some .boolean)]
def wsL_link_r3 : List Cond := [Cond.fieldLink RX0 14 "PlanetoidDesk$Bodies" "owners" "LPlanetoidDesk$Row;", Cond.fieldLink RX0 20 "PlanetoidDesk$Bodies" "hosts" "LPlanetoidDesk$Row;", Cond.methodLink RX0 46 yX5_at, Cond.instanceMethod yX5_at, Cond.selects RX5 yX5_at yX5_at, Cond.code yX5_at cX5_at 2 (some .int), Cond.methodLink RX7 251 yX2_add, Cond.instanceMethod yX2_add, Cond.selects RX2 yX2_add yX2_add, Cond.initialized RX2, Cond.code yX2_add cX2_add 2 none, Cond.fieldLink RX2 14 "PlanetoidDesk$Looks" "dots" "LPlanetoidDesk$Row;", Cond.fieldLink RX2 20 "PlanetoidDesk$Looks" "count" "I", Cond.methodLink RX2 24 yX5_put, Cond.instanceMethod yX5_put, Cond.selects RX5 yX5_put yX5_put, Cond.code yX5_put cX5_put 3 none, Cond.methodLink RX7 254 yX2_dotAt, Cond.instanceMethod yX2_dotAt, Cond.selects RX2 yX2_dotAt yX2_dotAt, Cond.code yX2_dotAt cX2_dotAt 2 (some .int), Cond.methodLink RX2 28 yX5_at, Cond.methodLink RX7 95 yX6_nightOf, Cond.instanceMethod yX6_nightOf]
def wsL_link_r4 : List Cond := [Cond.selects RX6 yX6_nightOf yX6_nightOf, Cond.initialized RX6, Cond.code yX6_nightOf cX6_nightOf 2 (some .int), Cond.fieldLink RX6 23 "PlanetoidDesk$Sky" "plateNights" "LPlanetoidDesk$Row;", Cond.fieldLink RX6 26 "PlanetoidDesk$Sky" "dotPlates" "LPlanetoidDesk$Row;", Cond.methodLink RX6 52 yX5_at, Cond.methodLink RX7 98 yX6_truePlaceOf, Cond.instanceMethod yX6_truePlaceOf, Cond.selects RX6 yX6_truePlaceOf yX6_truePlaceOf, Cond.code yX6_truePlaceOf cX6_truePlaceOf 3 (some .int), Cond.fieldLink RX6 29 "PlanetoidDesk$Sky" "dotPlaces" "LPlanetoidDesk$Row;", Cond.fieldLink RX6 35 "PlanetoidDesk$Sky" "shifts" "LPlanetoidDesk$Row;", Cond.methodLink RX6 56 yJ9_floorMod_7cf53, Cond.static yJ9_floorMod_7cf53, Cond.initialized RJ9, Cond.code yJ9_floorMod_7cf53 cJ9_floorMod_7cf53 3 (some .int), Cond.methodLink RX7 263 yX6_errorOf, Cond.instanceMethod yX6_errorOf, Cond.selects RX6 yX6_errorOf yX6_errorOf, Cond.code yX6_errorOf cX6_errorOf 2 (some .int), Cond.fieldLink RX6 14 "PlanetoidDesk$Sky" "errors" "LPlanetoidDesk$Row;", Cond.fieldLink RX6 20 "PlanetoidDesk$Sky" "plateObservatories" "LPlanetoidDesk$Row;", Cond.methodLink RX7 266 yX3_keepNear, Cond.instanceMethod yX3_keepNear]
def wsL_link_r5 : List Cond := [Cond.selects RX3 yX3_keepNear yX3_keepNear, Cond.code yX3_keepNear cX3_keepNear 9 none, Cond.static yX7_drift, Cond.code yX7_drift cX7_drift 2 (some .int), Cond.methodLink RX7 197 yX7_bOf, Cond.static yX7_bOf, Cond.code yX7_bOf cX7_bOf 1 (some .int), Cond.methodLink RX7 200 yX7_cOf, Cond.static yX7_cOf, Cond.code yX7_cOf cX7_cOf 1 (some .int), Cond.methodLink RX3 33 yJ9_floorMod_7cf53, Cond.methodLink RX3 38 yX5_at, Cond.methodLink RX3 42 yX3_behind, Cond.instanceMethod yX3_behind, Cond.selects RX3 yX3_behind yX3_behind, Cond.code yX3_behind cX3_behind 3 (some .int), Cond.methodLink RX3 45 yX3_sharedWidth, Cond.static yX3_sharedWidth, Cond.code yX3_sharedWidth cX3_sharedWidth 4 (some .int), Cond.methodLink RX3 53 Lib.Math.min.name, Cond.static Lib.Math.min.name, Cond.initialized "java/lang/Math", Cond.code Lib.Math.min.name Lib.Math.min.code 2 (some .int), Cond.methodLink RX3 56 Lib.Math.max.name]
def wsL_link_r6 : List Cond := [Cond.static Lib.Math.max.name, Cond.code Lib.Math.max.name Lib.Math.max.code 2 (some .int), Cond.methodLink RX3 49 yX5_put, Cond.methodLink RX7 125 yX7_canTake, Cond.instanceMethod yX7_canTake, Cond.selects RX7 yX7_canTake yX7_canTake, Cond.code yX7_canTake cX7_canTake 3 (some .boolean), Cond.methodLink RX7 107 yX0_isUnlinked, Cond.instanceMethod yX0_isUnlinked, Cond.selects RX0 yX0_isUnlinked yX0_isUnlinked, Cond.code yX0_isUnlinked cX0_isUnlinked 2 (some .boolean), Cond.methodLink RX7 272 yX0_isFree, Cond.instanceMethod yX0_isFree, Cond.selects RX0 yX0_isFree yX0_isFree, Cond.code yX0_isFree cX0_isFree 2 (some .boolean), Cond.methodLink RX7 269 yX6_plateOf, Cond.instanceMethod yX6_plateOf, Cond.selects RX6 yX6_plateOf yX6_plateOf, Cond.code yX6_plateOf cX6_plateOf 2 (some .int), Cond.methodLink RX7 275 yX7_isSeenOn, Cond.instanceMethod yX7_isSeenOn, Cond.selects RX7 yX7_isSeenOn yX7_isSeenOn, Cond.code yX7_isSeenOn cX7_isSeenOn 4 (some .boolean), Cond.methodLink RX7 278 yX3_hasNear]
def wsL_link_r7 : List Cond := [Cond.instanceMethod yX3_hasNear, Cond.selects RX3 yX3_hasNear yX3_hasNear, Cond.code yX3_hasNear cX3_hasNear 7 (some .boolean), Cond.methodLink RX7 131 yX0_own, Cond.instanceMethod yX0_own, Cond.selects RX0 yX0_own yX0_own, Cond.code yX0_own cX0_own 3 none, Cond.methodLink RX0 43 yX5_put, Cond.methodLink RX7 134 yX7_countLooks, Cond.instanceMethod yX7_countLooks, Cond.selects RX7 yX7_countLooks yX7_countLooks, Cond.code yX7_countLooks cX7_countLooks 2 (some .int)]
def wsL_link : List Cond := .codeWith yL_link cL_link 5 (some .int) [(0, 10, 13, 21), (0, 10, 17, 15)] :: ((wsL_link_r1 ++ (wsL_link_r2 ++ (wsL_link_r3 ++ (wsL_link_r4 ++ (wsL_link_r5 ++ (wsL_link_r6 ++ wsL_link_r7)))))) ++ wsX70 ++ wsX00 ++ wsX60 ++ wsX30 ++ wsX50 ++ wsX20 ++ (vx_atS RX7 63 "java/lang/IllegalStateException" ["java/lang/RuntimeException", "java/lang/Exception"]).filter goodWord ++ (vx_atS RX7 245 "java/lang/IndexOutOfBoundsException" ["java/lang/RuntimeException", "java/lang/Exception"]).filter goodWord)
def wsL_unlink_r1 : List Cond := [Cond.classLink RL 21 "java/lang/IndexOutOfBoundsException", Cond.classLink RL 15 "java/lang/IllegalStateException", Cond.methodLink RL 39 yX7_unlink, Cond.instanceMethod yX7_unlink, Cond.selects RX7 yX7_unlink yX7_unlink, Cond.initialized RX7, Cond.code yX7_unlink cX7_unlink 3 (some .int), Cond.classLink RX7 59 "java/lang/IllegalStateException", Cond.initialized "java/lang/IllegalStateException", Cond.fieldLink RX7 19 "PlanetoidDesk" "bodies" "LPlanetoidDesk$Bodies;", Cond.fieldLink RX7 10 "PlanetoidDesk" "sky" "LPlanetoidDesk$Sky;", Cond.methodLink RX7 70 yX7_needOneOf, Cond.static yX7_needOneOf, Cond.code yX7_needOneOf cX7_needOneOf 2 none, Cond.classLink RX7 241 "java/lang/IndexOutOfBoundsException", Cond.initialized "java/lang/IndexOutOfBoundsException", Cond.methodLink RX7 104 yX0_ownerOf, Cond.instanceMethod yX0_ownerOf, Cond.selects RX0 yX0_ownerOf yX0_ownerOf, Cond.initialized RX0, Cond.code yX0_ownerOf cX0_ownerOf 2 (some .int), Cond.fieldLink RX0 14 "PlanetoidDesk$Bodies" "owners" "LPlanetoidDesk$Row;", Cond.methodLink RX0 46 yX5_at, Cond.instanceMethod yX5_at]
def wsL_unlink_r2 : List Cond := [Cond.selects RX5 yX5_at yX5_at, Cond.initialized RX5, Cond.code yX5_at cX5_at 2 (some .int), Cond.fieldLink RX5 7 "PlanetoidDesk$Row" "cells" "[I", Cond.methodLink RX7 137 yX0_countOwnDots, Cond.instanceMethod yX0_countOwnDots, Cond.selects RX0 yX0_countOwnDots yX0_countOwnDots, Cond.code yX0_countOwnDots cX0_countOwnDots 4 (some .int), Cond.methodLink RX7 131 yX0_own, Cond.instanceMethod yX0_own, Cond.selects RX0 yX0_own yX0_own, Cond.code yX0_own cX0_own 3 none, Cond.methodLink RX0 43 yX5_put, Cond.instanceMethod yX5_put, Cond.selects RX5 yX5_put yX5_put, Cond.code yX5_put cX5_put 3 none]
def wsL_unlink : List Cond := .codeWith yL_unlink cL_unlink 5 (some .int) [(0, 10, 13, 21), (0, 10, 17, 15)] :: ((wsL_unlink_r1 ++ wsL_unlink_r2) ++ wsX70 ++ wsX00 ++ wsX60 ++ wsX50 ++ (vx_atS RX7 63 "java/lang/IllegalStateException" ["java/lang/RuntimeException", "java/lang/Exception"]).filter goodWord ++ (vx_atS RX7 245 "java/lang/IndexOutOfBoundsException" ["java/lang/RuntimeException", "java/lang/Exception"]).filter goodWord)
def wsL_join_r1 : List Cond := [Cond.classLink RL 21 "java/lang/IndexOutOfBoundsException", Cond.classLink RL 15 "java/lang/IllegalStateException", Cond.methodLink RL 42 yX7_join, Cond.instanceMethod yX7_join, Cond.selects RX7 yX7_join yX7_join, Cond.initialized RX7, Cond.code yX7_join cX7_join 5 (some .int), Cond.classLink RX7 59 "java/lang/IllegalStateException", Cond.initialized "java/lang/IllegalStateException", Cond.fieldLink RX7 19 "PlanetoidDesk" "bodies" "LPlanetoidDesk$Bodies;", Cond.methodLink RX7 70 yX7_needOneOf, Cond.static yX7_needOneOf, Cond.code yX7_needOneOf cX7_needOneOf 2 none, Cond.classLink RX7 241 "java/lang/IndexOutOfBoundsException", Cond.initialized "java/lang/IndexOutOfBoundsException", Cond.methodLink RX7 142 yX7_canJoin, Cond.instanceMethod yX7_canJoin, Cond.selects RX7 yX7_canJoin yX7_canJoin, Cond.code yX7_canJoin cX7_canJoin 3 (some .boolean), Cond.fieldLink RX7 33 "PlanetoidDesk" "fitting" "LPlanetoidDesk$Orbits;", Cond.methodLink RX7 272 yX0_isFree, Cond.instanceMethod yX0_isFree, Cond.selects RX0 yX0_isFree yX0_isFree, Cond.initialized RX0]
def wsL_join_r2 : List Cond := [Cond.code yX0_isFree cX0_isFree 2 (some .boolean), Cond.fieldLink RX0 20 "PlanetoidDesk$Bodies" "hosts" "LPlanetoidDesk$Row;", Cond.methodLink RX0 46 yX5_at, Cond.instanceMethod yX5_at, Cond.selects RX5 yX5_at yX5_at, Cond.initialized RX5, Cond.code yX5_at cX5_at 2 (some .int), Cond.fieldLink RX5 7 "PlanetoidDesk$Row" "cells" "[I", Cond.methodLink RX7 181 yX0_numberOf, Cond.instanceMethod yX0_numberOf, Cond.selects RX0 yX0_numberOf yX0_numberOf, Cond.code yX0_numberOf cX0_numberOf 2 (some .int), Cond.fieldLink RX0 26 "PlanetoidDesk$Bodies" "numbers" "LPlanetoidDesk$Row;", Cond.methodLink RX7 282 yX7_shareAPlate, Cond.instanceMethod yX7_shareAPlate, Cond.selects RX7 yX7_shareAPlate yX7_shareAPlate, Cond.code yX7_shareAPlate cX7_shareAPlate 4 (some .boolean), Cond.fieldLink RX7 10 "PlanetoidDesk" "sky" "LPlanetoidDesk$Sky;", Cond.methodLink RX7 248 yX0_isLook, Cond.instanceMethod yX0_isLook, Cond.selects RX0 yX0_isLook yX0_isLook, Cond.code yX0_isLook cX0_isLook 5 (some .boolean), Cond.fieldLink RX0 14 "PlanetoidDesk$Bodies" "owners" "LPlanetoidDesk$Row;", Cond.methodLink RX7 269 yX6_plateOf]
def wsL_join_r3 : List Cond := [Cond.instanceMethod yX6_plateOf, Cond.selects RX6 yX6_plateOf yX6_plateOf, Cond.initialized RX6, Cond.code yX6_plateOf cX6_plateOf 2 (some .int), Cond.fieldLink RX6 26 "PlanetoidDesk$Sky" "dotPlates" "LPlanetoidDesk$Row;", Cond.methodLink RX6 52 yX5_at, Cond.methodLink RX7 275 yX7_isSeenOn, Cond.instanceMethod yX7_isSeenOn, Cond.selects RX7 yX7_isSeenOn yX7_isSeenOn, Cond.code yX7_isSeenOn cX7_isSeenOn 4 (some .boolean), Cond.methodLink RX7 121 yX7_findOrbits, Cond.instanceMethod yX7_findOrbits, Cond.selects RX7 yX7_findOrbits yX7_findOrbits, Cond.code yX7_findOrbits cX7_findOrbits 2 none, Cond.methodLink RX7 257 yX3_takeAll, Cond.instanceMethod yX3_takeAll, Cond.selects RX3 yX3_takeAll yX3_takeAll, Cond.initialized RX3, Cond.code yX3_takeAll cX3_takeAll 1 none, Cond.fieldLink RX3 14 "PlanetoidDesk$Orbits" "starts" "LPlanetoidDesk$Row;", Cond.fieldLink RX3 20 "PlanetoidDesk$Orbits" "widths" "LPlanetoidDesk$Row;", Cond.methodLink RX3 26 yX5_fill, Cond.instanceMethod yX5_fill, Cond.selects RX5 yX5_fill yX5_fill]
def wsL_join_r4 : List Cond := [Cond.code yX5_fill cX5_fill 3 none, Cond.methodLink RX7 260 yX7_keepFitting, Cond.instanceMethod yX7_keepFitting, Cond.selects RX7 yX7_keepFitting yX7_keepFitting, Cond.code yX7_keepFitting cX7_keepFitting 4 none, Cond.fieldLink RX7 26 "PlanetoidDesk" "looks" "LPlanetoidDesk$Looks;", Cond.methodLink RX7 191 yX7_gatherLooks, Cond.instanceMethod yX7_gatherLooks, Cond.selects RX7 yX7_gatherLooks yX7_gatherLooks, Cond.code yX7_gatherLooks cX7_gatherLooks 3 none, Cond.methodLink RX7 251 yX2_add, Cond.instanceMethod yX2_add, Cond.selects RX2 yX2_add yX2_add, Cond.initialized RX2, Cond.code yX2_add cX2_add 2 none, Cond.fieldLink RX2 14 "PlanetoidDesk$Looks" "dots" "LPlanetoidDesk$Row;", Cond.fieldLink RX2 20 "PlanetoidDesk$Looks" "count" "I", Cond.methodLink RX2 24 yX5_put, Cond.instanceMethod yX5_put, Cond.selects RX5 yX5_put yX5_put, Cond.code yX5_put cX5_put 3 none, Cond.methodLink RX7 254 yX2_dotAt, Cond.instanceMethod yX2_dotAt, Cond.selects RX2 yX2_dotAt yX2_dotAt]
def wsL_join_r5 : List Cond := [Cond.code yX2_dotAt cX2_dotAt 2 (some .int), Cond.methodLink RX2 28 yX5_at, Cond.methodLink RX7 95 yX6_nightOf, Cond.instanceMethod yX6_nightOf, Cond.selects RX6 yX6_nightOf yX6_nightOf, Cond.code yX6_nightOf cX6_nightOf 2 (some .int), Cond.fieldLink RX6 23 "PlanetoidDesk$Sky" "plateNights" "LPlanetoidDesk$Row;", Cond.methodLink RX7 98 yX6_truePlaceOf, Cond.instanceMethod yX6_truePlaceOf, Cond.selects RX6 yX6_truePlaceOf yX6_truePlaceOf, Cond.code yX6_truePlaceOf cX6_truePlaceOf 3 (some .int), Cond.fieldLink RX6 29 "PlanetoidDesk$Sky" "dotPlaces" "LPlanetoidDesk$Row;", Cond.fieldLink RX6 35 "PlanetoidDesk$Sky" "shifts" "LPlanetoidDesk$Row;", Cond.methodLink RX6 56 yJ9_floorMod_7cf53, Cond.static yJ9_floorMod_7cf53, Cond.initialized RJ9, Cond.code yJ9_floorMod_7cf53 cJ9_floorMod_7cf53 3 (some .int), Cond.methodLink RX7 263 yX6_errorOf, Cond.instanceMethod yX6_errorOf, Cond.selects RX6 yX6_errorOf yX6_errorOf, Cond.code yX6_errorOf cX6_errorOf 2 (some .int), Cond.fieldLink RX6 14 "PlanetoidDesk$Sky" "errors" "LPlanetoidDesk$Row;", Cond.fieldLink RX6 20 "PlanetoidDesk$Sky" "plateObservatories" "LPlanetoidDesk$Row;", Cond.methodLink RX7 266 yX3_keepNear]
def wsL_join_r6 : List Cond := [Cond.instanceMethod yX3_keepNear, Cond.selects RX3 yX3_keepNear yX3_keepNear, Cond.code yX3_keepNear cX3_keepNear 9 none, Cond.static yX7_drift, Cond.code yX7_drift cX7_drift 2 (some .int), Cond.methodLink RX7 197 yX7_bOf, Cond.static yX7_bOf, Cond.code yX7_bOf cX7_bOf 1 (some .int), Cond.methodLink RX7 200 yX7_cOf, Cond.static yX7_cOf, Cond.code yX7_cOf cX7_cOf 1 (some .int), Cond.methodLink RX3 33 yJ9_floorMod_7cf53, Cond.methodLink RX3 38 yX5_at, Cond.methodLink RX3 42 yX3_behind, Cond.instanceMethod yX3_behind, Cond.selects RX3 yX3_behind yX3_behind, Cond.code yX3_behind cX3_behind 3 (some .int), Cond.methodLink RX3 45 yX3_sharedWidth, Cond.static yX3_sharedWidth, Cond.code yX3_sharedWidth cX3_sharedWidth 4 (some .int), Cond.methodLink RX3 53 Lib.Math.min.name, Cond.static Lib.Math.min.name, Cond.initialized "java/lang/Math", Cond.code Lib.Math.min.name Lib.Math.min.code 2 (some .int)]
def wsL_join_r7 : List Cond := [Cond.methodLink RX3 56 Lib.Math.max.name, Cond.static Lib.Math.max.name, Cond.code Lib.Math.max.name Lib.Math.max.code 2 (some .int), Cond.methodLink RX3 49 yX5_put, Cond.methodLink RX7 187 yX3_countOrbits, Cond.instanceMethod yX3_countOrbits, Cond.selects RX3 yX3_countOrbits yX3_countOrbits, Cond.code yX3_countOrbits cX3_countOrbits 3 (some .int), Cond.methodLink RX7 147 yX7_isStronger, Cond.instanceMethod yX7_isStronger, Cond.selects RX7 yX7_isStronger yX7_isStronger, Cond.code yX7_isStronger cX7_isStronger 7 (some .boolean), Cond.methodLink RX7 175 yX7_firstLookOf, Cond.instanceMethod yX7_firstLookOf, Cond.selects RX7 yX7_firstLookOf yX7_firstLookOf, Cond.code yX7_firstLookOf cX7_firstLookOf 4 (some .int), Cond.methodLink RX7 150 yX0_attach, Cond.instanceMethod yX0_attach, Cond.selects RX0 yX0_attach yX0_attach, Cond.code yX0_attach cX0_attach 3 none, Cond.fieldLink RX0 50 "PlanetoidDesk$Bodies" "joins" "I", Cond.fieldLink RX0 23 "PlanetoidDesk$Bodies" "joinTimes" "LPlanetoidDesk$Row;", Cond.methodLink RX0 43 yX5_put]
def wsL_join : List Cond := .codeWith yL_join cL_join 5 (some .int) [(0, 10, 13, 21), (0, 10, 17, 15)] :: ((wsL_join_r1 ++ (wsL_join_r2 ++ (wsL_join_r3 ++ (wsL_join_r4 ++ (wsL_join_r5 ++ (wsL_join_r6 ++ wsL_join_r7)))))) ++ wsX70 ++ wsX00 ++ wsX50 ++ wsX60 ++ wsX30 ++ wsX20 ++ (vx_atS RX7 63 "java/lang/IllegalStateException" ["java/lang/RuntimeException", "java/lang/Exception"]).filter goodWord ++ (vx_atS RX7 245 "java/lang/IndexOutOfBoundsException" ["java/lang/RuntimeException", "java/lang/Exception"]).filter goodWord)
def wsL_part_r1 : List Cond := [Cond.classLink RL 21 "java/lang/IndexOutOfBoundsException", Cond.classLink RL 15 "java/lang/IllegalStateException", Cond.methodLink RL 45 yX7_part, Cond.instanceMethod yX7_part, Cond.selects RX7 yX7_part yX7_part, Cond.initialized RX7, Cond.code yX7_part cX7_part 3 (some .int), Cond.classLink RX7 59 "java/lang/IllegalStateException", Cond.initialized "java/lang/IllegalStateException", Cond.fieldLink RX7 19 "PlanetoidDesk" "bodies" "LPlanetoidDesk$Bodies;", Cond.methodLink RX7 70 yX7_needOneOf, Cond.static yX7_needOneOf, Cond.code yX7_needOneOf cX7_needOneOf 2 none, Cond.classLink RX7 241 "java/lang/IndexOutOfBoundsException", Cond.initialized "java/lang/IndexOutOfBoundsException", Cond.methodLink RX7 153 yX0_latestJoinedTo, Cond.instanceMethod yX0_latestJoinedTo, Cond.selects RX0 yX0_latestJoinedTo yX0_latestJoinedTo, Cond.initialized RX0, Cond.code yX0_latestJoinedTo cX0_latestJoinedTo 5 (some .int), Cond.fieldLink RX0 35 "PlanetoidDesk$Bodies" "count" "I", Cond.fieldLink RX0 23 "PlanetoidDesk$Bodies" "joinTimes" "LPlanetoidDesk$Row;", Cond.fieldLink RX0 20 "PlanetoidDesk$Bodies" "hosts" "LPlanetoidDesk$Row;", Cond.methodLink RX0 46 yX5_at]
def wsL_part_r2 : List Cond := [Cond.instanceMethod yX5_at, Cond.selects RX5 yX5_at yX5_at, Cond.initialized RX5, Cond.code yX5_at cX5_at 2 (some .int), Cond.fieldLink RX5 7 "PlanetoidDesk$Row" "cells" "[I", Cond.methodLink RX7 158 yX0_free, Cond.instanceMethod yX0_free, Cond.selects RX0 yX0_free yX0_free, Cond.code yX0_free cX0_free 2 none, Cond.methodLink RX0 43 yX5_put, Cond.instanceMethod yX5_put, Cond.selects RX5 yX5_put yX5_put, Cond.code yX5_put cX5_put 3 none]
def wsL_part : List Cond := .codeWith yL_part cL_part 4 (some .int) [(0, 9, 12, 21), (0, 9, 15, 15)] :: ((wsL_part_r1 ++ wsL_part_r2) ++ wsX70 ++ wsX00 ++ wsX50 ++ (vx_atS RX7 63 "java/lang/IllegalStateException" ["java/lang/RuntimeException", "java/lang/Exception"]).filter goodWord ++ (vx_atS RX7 245 "java/lang/IndexOutOfBoundsException" ["java/lang/RuntimeException", "java/lang/Exception"]).filter goodWord)
def wsL_number_r1 : List Cond := [Cond.classLink RL 21 "java/lang/IndexOutOfBoundsException", Cond.classLink RL 15 "java/lang/IllegalStateException", Cond.methodLink RL 48 yX7_number, Cond.instanceMethod yX7_number, Cond.selects RX7 yX7_number yX7_number, Cond.initialized RX7, Cond.code yX7_number cX7_number 2 (some .int), Cond.classLink RX7 59 "java/lang/IllegalStateException", Cond.initialized "java/lang/IllegalStateException", Cond.fieldLink RX7 19 "PlanetoidDesk" "bodies" "LPlanetoidDesk$Bodies;", Cond.fieldLink RX7 33 "PlanetoidDesk" "fitting" "LPlanetoidDesk$Orbits;", Cond.methodLink RX7 70 yX7_needOneOf, Cond.static yX7_needOneOf, Cond.code yX7_needOneOf cX7_needOneOf 2 none, Cond.classLink RX7 241 "java/lang/IndexOutOfBoundsException", Cond.initialized "java/lang/IndexOutOfBoundsException", Cond.methodLink RX7 161 yX7_canGetNumber, Cond.instanceMethod yX7_canGetNumber, Cond.selects RX7 yX7_canGetNumber yX7_canGetNumber, Cond.code yX7_canGetNumber cX7_canGetNumber 2 (some .boolean), Cond.methodLink RX7 272 yX0_isFree, Cond.instanceMethod yX0_isFree, Cond.selects RX0 yX0_isFree yX0_isFree, Cond.initialized RX0]
def wsL_number_r2 : List Cond := [Cond.code yX0_isFree cX0_isFree 2 (some .boolean), Cond.fieldLink RX0 20 "PlanetoidDesk$Bodies" "hosts" "LPlanetoidDesk$Row;", Cond.methodLink RX0 46 yX5_at, Cond.instanceMethod yX5_at, Cond.selects RX5 yX5_at yX5_at, Cond.initialized RX5, Cond.code yX5_at cX5_at 2 (some .int), Cond.fieldLink RX5 7 "PlanetoidDesk$Row" "cells" "[I", Cond.methodLink RX7 181 yX0_numberOf, Cond.instanceMethod yX0_numberOf, Cond.selects RX0 yX0_numberOf yX0_numberOf, Cond.code yX0_numberOf cX0_numberOf 2 (some .int), Cond.fieldLink RX0 26 "PlanetoidDesk$Bodies" "numbers" "LPlanetoidDesk$Row;", Cond.methodLink RX7 285 yX7_isSeenLongEnough, Cond.instanceMethod yX7_isSeenLongEnough, Cond.selects RX7 yX7_isSeenLongEnough yX7_isSeenLongEnough, Cond.code yX7_isSeenLongEnough cX7_isSeenLongEnough 7 (some .boolean), Cond.fieldLink RX7 26 "PlanetoidDesk" "looks" "LPlanetoidDesk$Looks;", Cond.fieldLink RX7 10 "PlanetoidDesk" "sky" "LPlanetoidDesk$Sky;", Cond.methodLink RX7 288 Lib.Math.min.name, Cond.static Lib.Math.min.name, Cond.initialized "java/lang/Math", Cond.code Lib.Math.min.name Lib.Math.min.code 2 (some .int), Cond.methodLink RX7 293 Lib.Math.max.name]
def wsL_number_r3 : List Cond := [Cond.static Lib.Math.max.name, Cond.code Lib.Math.max.name Lib.Math.max.code 2 (some .int), Cond.methodLink RX7 191 yX7_gatherLooks, Cond.instanceMethod yX7_gatherLooks, Cond.selects RX7 yX7_gatherLooks yX7_gatherLooks, Cond.code yX7_gatherLooks cX7_gatherLooks 3 none, Cond.methodLink RX7 248 yX0_isLook, Cond.instanceMethod yX0_isLook, Cond.selects RX0 yX0_isLook yX0_isLook, Cond.code yX0_isLook cX0_isLook 5 (some .boolean), Cond.fieldLink RX0 14 "PlanetoidDesk$Bodies" "owners" "LPlanetoidDesk$Row;", Cond.methodLink RX7 251 yX2_add, Cond.instanceMethod yX2_add, Cond.selects RX2 yX2_add yX2_add, Cond.initialized RX2, Cond.code yX2_add cX2_add 2 none, Cond.fieldLink RX2 14 "PlanetoidDesk$Looks" "dots" "LPlanetoidDesk$Row;", Cond.fieldLink RX2 20 "PlanetoidDesk$Looks" "count" "I", Cond.methodLink RX2 24 yX5_put, Cond.instanceMethod yX5_put, Cond.selects RX5 yX5_put yX5_put, Cond.code yX5_put cX5_put 3 none, Cond.methodLink RX7 254 yX2_dotAt, Cond.instanceMethod yX2_dotAt]
def wsL_number_r4 : List Cond := [Cond.selects RX2 yX2_dotAt yX2_dotAt, Cond.code yX2_dotAt cX2_dotAt 2 (some .int), Cond.methodLink RX2 28 yX5_at, Cond.methodLink RX7 95 yX6_nightOf, Cond.instanceMethod yX6_nightOf, Cond.selects RX6 yX6_nightOf yX6_nightOf, Cond.initialized RX6, Cond.code yX6_nightOf cX6_nightOf 2 (some .int), Cond.fieldLink RX6 23 "PlanetoidDesk$Sky" "plateNights" "LPlanetoidDesk$Row;", Cond.fieldLink RX6 26 "PlanetoidDesk$Sky" "dotPlates" "LPlanetoidDesk$Row;", Cond.methodLink RX6 52 yX5_at, Cond.methodLink RX7 121 yX7_findOrbits, Cond.instanceMethod yX7_findOrbits, Cond.selects RX7 yX7_findOrbits yX7_findOrbits, Cond.code yX7_findOrbits cX7_findOrbits 2 none, Cond.methodLink RX7 257 yX3_takeAll, Cond.instanceMethod yX3_takeAll, Cond.selects RX3 yX3_takeAll yX3_takeAll, Cond.initialized RX3, Cond.code yX3_takeAll cX3_takeAll 1 none, Cond.fieldLink RX3 14 "PlanetoidDesk$Orbits" "starts" "LPlanetoidDesk$Row;", Cond.fieldLink RX3 20 "PlanetoidDesk$Orbits" "widths" "LPlanetoidDesk$Row;", Cond.methodLink RX3 26 yX5_fill, Cond.instanceMethod yX5_fill]
def wsL_number_r5 : List Cond := [Cond.selects RX5 yX5_fill yX5_fill, Cond.code yX5_fill cX5_fill 3 none, Cond.methodLink RX7 260 yX7_keepFitting, Cond.instanceMethod yX7_keepFitting, Cond.selects RX7 yX7_keepFitting yX7_keepFitting, Cond.code yX7_keepFitting cX7_keepFitting 4 none, Cond.methodLink RX7 98 yX6_truePlaceOf, Cond.instanceMethod yX6_truePlaceOf, Cond.selects RX6 yX6_truePlaceOf yX6_truePlaceOf, Cond.code yX6_truePlaceOf cX6_truePlaceOf 3 (some .int), Cond.fieldLink RX6 29 "PlanetoidDesk$Sky" "dotPlaces" "LPlanetoidDesk$Row;", Cond.fieldLink RX6 35 "PlanetoidDesk$Sky" "shifts" "LPlanetoidDesk$Row;", Cond.methodLink RX6 56 yJ9_floorMod_7cf53, Cond.static yJ9_floorMod_7cf53, Cond.initialized RJ9, Cond.code yJ9_floorMod_7cf53 cJ9_floorMod_7cf53 3 (some .int), Cond.methodLink RX7 263 yX6_errorOf, Cond.instanceMethod yX6_errorOf, Cond.selects RX6 yX6_errorOf yX6_errorOf, Cond.code yX6_errorOf cX6_errorOf 2 (some .int), Cond.fieldLink RX6 14 "PlanetoidDesk$Sky" "errors" "LPlanetoidDesk$Row;", Cond.fieldLink RX6 20 "PlanetoidDesk$Sky" "plateObservatories" "LPlanetoidDesk$Row;", Cond.methodLink RX7 266 yX3_keepNear, Cond.instanceMethod yX3_keepNear]
def wsL_number_r6 : List Cond := [Cond.selects RX3 yX3_keepNear yX3_keepNear, Cond.code yX3_keepNear cX3_keepNear 9 none, Cond.static yX7_drift, Cond.code yX7_drift cX7_drift 2 (some .int), Cond.methodLink RX7 197 yX7_bOf, Cond.static yX7_bOf, Cond.code yX7_bOf cX7_bOf 1 (some .int), Cond.methodLink RX7 200 yX7_cOf, Cond.static yX7_cOf, Cond.code yX7_cOf cX7_cOf 1 (some .int), Cond.methodLink RX3 33 yJ9_floorMod_7cf53, Cond.methodLink RX3 38 yX5_at, Cond.methodLink RX3 42 yX3_behind, Cond.instanceMethod yX3_behind, Cond.selects RX3 yX3_behind yX3_behind, Cond.code yX3_behind cX3_behind 3 (some .int), Cond.methodLink RX3 45 yX3_sharedWidth, Cond.static yX3_sharedWidth, Cond.code yX3_sharedWidth cX3_sharedWidth 4 (some .int), Cond.methodLink RX3 53 Lib.Math.min.name, Cond.methodLink RX3 56 Lib.Math.max.name, Cond.methodLink RX3 49 yX5_put, Cond.methodLink RX7 187 yX3_countOrbits, Cond.instanceMethod yX3_countOrbits]
def wsL_number_r7 : List Cond := [Cond.selects RX3 yX3_countOrbits yX3_countOrbits, Cond.code yX3_countOrbits cX3_countOrbits 3 (some .int), Cond.methodLink RX7 166 yX3_orbitAt, Cond.instanceMethod yX3_orbitAt, Cond.selects RX3 yX3_orbitAt yX3_orbitAt, Cond.code yX3_orbitAt cX3_orbitAt 4 (some .int), Cond.fieldLink RX3 23 "PlanetoidDesk$Orbits" "tallies" "LPlanetoidDesk$Row;", Cond.methodLink RX3 59 yX3_tallyPlaces, Cond.instanceMethod yX3_tallyPlaces, Cond.selects RX3 yX3_tallyPlaces yX3_tallyPlaces, Cond.code yX3_tallyPlaces cX3_tallyPlaces 6 none, Cond.methodLink RX3 62 yX3_courseWith, Cond.instanceMethod yX3_courseWith, Cond.selects RX3 yX3_courseWith yX3_courseWith, Cond.code yX3_courseWith cX3_courseWith 5 (some .int), Cond.methodLink RX7 169 yX0_giveNumber, Cond.instanceMethod yX0_giveNumber, Cond.selects RX0 yX0_giveNumber yX0_giveNumber, Cond.code yX0_giveNumber cX0_giveNumber 3 (some .int), Cond.fieldLink RX0 53 "PlanetoidDesk$Bodies" "lastNumber" "I", Cond.fieldLink RX0 29 "PlanetoidDesk$Bodies" "properCourses" "LPlanetoidDesk$Row;", Cond.methodLink RX0 43 yX5_put]
def wsL_number : List Cond := .codeWith yL_number cL_number 4 (some .int) [(0, 9, 12, 21), (0, 9, 15, 15)] :: ((wsL_number_r1 ++ (wsL_number_r2 ++ (wsL_number_r3 ++ (wsL_number_r4 ++ (wsL_number_r5 ++ (wsL_number_r6 ++ wsL_number_r7)))))) ++ wsX70 ++ wsX00 ++ wsX50 ++ wsX20 ++ wsX60 ++ wsX30 ++ (vx_atS RX7 63 "java/lang/IllegalStateException" ["java/lang/RuntimeException", "java/lang/Exception"]).filter goodWord ++ (vx_atS RX7 245 "java/lang/IndexOutOfBoundsException" ["java/lang/RuntimeException", "java/lang/Exception"]).filter goodWord)
def wsL_ofBody_r1 : List Cond := [Cond.classLink RL 21 "java/lang/IndexOutOfBoundsException", Cond.classLink RL 13 "java/lang/IllegalArgumentException", Cond.methodLink RL 51 yX7_ofBody, Cond.instanceMethod yX7_ofBody, Cond.selects RX7 yX7_ofBody yX7_ofBody, Cond.initialized RX7, Cond.code yX7_ofBody cX7_ofBody 3 (some .int), Cond.fieldLink RX7 19 "PlanetoidDesk" "bodies" "LPlanetoidDesk$Bodies;", Cond.fieldLink RX7 10 "PlanetoidDesk" "sky" "LPlanetoidDesk$Sky;", Cond.methodLink RX7 70 yX7_needOneOf, Cond.static yX7_needOneOf, Cond.code yX7_needOneOf cX7_needOneOf 2 none, Cond.classLink RX7 241 "java/lang/IndexOutOfBoundsException", Cond.initialized "java/lang/IndexOutOfBoundsException", Cond.methodLink RX7 51 yX7_needWithin, Cond.static yX7_needWithin, Cond.code yX7_needWithin cX7_needWithin 3 none, Cond.classLink RX7 206 "java/lang/IllegalArgumentException", Cond.initialized "java/lang/IllegalArgumentException", Cond.methodLink RX7 134 yX7_countLooks, Cond.instanceMethod yX7_countLooks, Cond.selects RX7 yX7_countLooks yX7_countLooks, Cond.code yX7_countLooks cX7_countLooks 2 (some .int), Cond.fieldLink RX7 26 "PlanetoidDesk" "looks" "LPlanetoidDesk$Looks;"]
def wsL_ofBody_r2 : List Cond := [Cond.methodLink RX7 191 yX7_gatherLooks, Cond.instanceMethod yX7_gatherLooks, Cond.selects RX7 yX7_gatherLooks yX7_gatherLooks, Cond.code yX7_gatherLooks cX7_gatherLooks 3 none, Cond.methodLink RX7 248 yX0_isLook, Cond.instanceMethod yX0_isLook, Cond.selects RX0 yX0_isLook yX0_isLook, Cond.initialized RX0, Cond.code yX0_isLook cX0_isLook 5 (some .boolean), Cond.fieldLink RX0 14 "PlanetoidDesk$Bodies" "owners" "LPlanetoidDesk$Row;", Cond.fieldLink RX0 20 "PlanetoidDesk$Bodies" "hosts" "LPlanetoidDesk$Row;", Cond.methodLink RX0 46 yX5_at, Cond.instanceMethod yX5_at, Cond.selects RX5 yX5_at yX5_at, Cond.initialized RX5, Cond.code yX5_at cX5_at 2 (some .int), Cond.fieldLink RX5 7 "PlanetoidDesk$Row" "cells" "[I", Cond.methodLink RX7 251 yX2_add, Cond.instanceMethod yX2_add, Cond.selects RX2 yX2_add yX2_add, Cond.initialized RX2, Cond.code yX2_add cX2_add 2 none, Cond.fieldLink RX2 14 "PlanetoidDesk$Looks" "dots" "LPlanetoidDesk$Row;", Cond.fieldLink RX2 20 "PlanetoidDesk$Looks" "count" "I"]
def wsL_ofBody_r3 : List Cond := [Cond.methodLink RX2 24 yX5_put, Cond.instanceMethod yX5_put, Cond.selects RX5 yX5_put yX5_put, Cond.code yX5_put cX5_put 3 none, Cond.methodLink RX7 137 yX0_countOwnDots, Cond.instanceMethod yX0_countOwnDots, Cond.selects RX0 yX0_countOwnDots yX0_countOwnDots, Cond.code yX0_countOwnDots cX0_countOwnDots 4 (some .int), Cond.methodLink RX7 172 yX0_hostOf, Cond.instanceMethod yX0_hostOf, Cond.selects RX0 yX0_hostOf yX0_hostOf, Cond.code yX0_hostOf cX0_hostOf 2 (some .int), Cond.methodLink RX7 175 yX7_firstLookOf, Cond.instanceMethod yX7_firstLookOf, Cond.selects RX7 yX7_firstLookOf yX7_firstLookOf, Cond.code yX7_firstLookOf cX7_firstLookOf 4 (some .int), Cond.methodLink RX7 254 yX2_dotAt, Cond.instanceMethod yX2_dotAt, Cond.selects RX2 yX2_dotAt yX2_dotAt, Cond.code yX2_dotAt cX2_dotAt 2 (some .int), Cond.methodLink RX2 28 yX5_at, Cond.methodLink RX7 95 yX6_nightOf, Cond.instanceMethod yX6_nightOf, Cond.selects RX6 yX6_nightOf yX6_nightOf]
def wsL_ofBody_r4 : List Cond := [Cond.initialized RX6, Cond.code yX6_nightOf cX6_nightOf 2 (some .int), Cond.fieldLink RX6 23 "PlanetoidDesk$Sky" "plateNights" "LPlanetoidDesk$Row;", Cond.fieldLink RX6 26 "PlanetoidDesk$Sky" "dotPlates" "LPlanetoidDesk$Row;", Cond.methodLink RX6 52 yX5_at, Cond.methodLink RX7 178 yX6_observatoryOf, Cond.instanceMethod yX6_observatoryOf, Cond.selects RX6 yX6_observatoryOf yX6_observatoryOf, Cond.code yX6_observatoryOf cX6_observatoryOf 2 (some .int), Cond.fieldLink RX6 20 "PlanetoidDesk$Sky" "plateObservatories" "LPlanetoidDesk$Row;", Cond.methodLink RX7 181 yX0_numberOf, Cond.instanceMethod yX0_numberOf, Cond.selects RX0 yX0_numberOf yX0_numberOf, Cond.code yX0_numberOf cX0_numberOf 2 (some .int), Cond.fieldLink RX0 26 "PlanetoidDesk$Bodies" "numbers" "LPlanetoidDesk$Row;", Cond.methodLink RX7 184 yX0_countJoinedTo, Cond.instanceMethod yX0_countJoinedTo, Cond.selects RX0 yX0_countJoinedTo yX0_countJoinedTo, Cond.code yX0_countJoinedTo cX0_countJoinedTo 4 (some .int), Cond.fieldLink RX0 35 "PlanetoidDesk$Bodies" "count" "I"]
def wsL_ofBody : List Cond := .codeWith yL_ofBody cL_ofBody 5 (some .int) [(0, 10, 13, 21), (0, 10, 17, 13)] :: ((wsL_ofBody_r1 ++ (wsL_ofBody_r2 ++ (wsL_ofBody_r3 ++ wsL_ofBody_r4))) ++ wsX70 ++ wsX00 ++ wsX20 ++ wsX60 ++ wsX50 ++ (vx_atS RX7 245 "java/lang/IndexOutOfBoundsException" ["java/lang/RuntimeException", "java/lang/Exception"]).filter goodWord ++ (vx_atS RX7 210 "java/lang/IllegalArgumentException" ["java/lang/RuntimeException", "java/lang/Exception"]).filter goodWord)
def wsL_orbits_r1 : List Cond := [Cond.classLink RL 21 "java/lang/IndexOutOfBoundsException", Cond.methodLink RL 54 yX7_orbits, Cond.instanceMethod yX7_orbits, Cond.selects RX7 yX7_orbits yX7_orbits, Cond.initialized RX7, Cond.code yX7_orbits cX7_orbits 2 (some .int), Cond.fieldLink RX7 19 "PlanetoidDesk" "bodies" "LPlanetoidDesk$Bodies;", Cond.fieldLink RX7 33 "PlanetoidDesk" "fitting" "LPlanetoidDesk$Orbits;", Cond.methodLink RX7 70 yX7_needOneOf, Cond.static yX7_needOneOf, Cond.code yX7_needOneOf cX7_needOneOf 2 none, Cond.classLink RX7 241 "java/lang/IndexOutOfBoundsException", Cond.initialized "java/lang/IndexOutOfBoundsException", Cond.methodLink RX7 121 yX7_findOrbits, Cond.instanceMethod yX7_findOrbits, Cond.selects RX7 yX7_findOrbits yX7_findOrbits, Cond.code yX7_findOrbits cX7_findOrbits 2 none, Cond.methodLink RX7 257 yX3_takeAll, Cond.instanceMethod yX3_takeAll, Cond.selects RX3 yX3_takeAll yX3_takeAll, Cond.initialized RX3, Cond.code yX3_takeAll cX3_takeAll 1 none, Cond.fieldLink RX3 14 "PlanetoidDesk$Orbits" "starts" "LPlanetoidDesk$Row;", Cond.fieldLink RX3 20 "PlanetoidDesk$Orbits" "widths" "LPlanetoidDesk$Row;"]
def wsL_orbits_r2 : List Cond := [Cond.methodLink RX3 26 yX5_fill, Cond.instanceMethod yX5_fill, Cond.selects RX5 yX5_fill yX5_fill, Cond.initialized RX5, Cond.code yX5_fill cX5_fill 3 none, Cond.fieldLink RX5 7 "PlanetoidDesk$Row" "cells" "[I", Cond.methodLink RX7 260 yX7_keepFitting, Cond.instanceMethod yX7_keepFitting, Cond.selects RX7 yX7_keepFitting yX7_keepFitting, Cond.code yX7_keepFitting cX7_keepFitting 4 none, Cond.fieldLink RX7 26 "PlanetoidDesk" "looks" "LPlanetoidDesk$Looks;", Cond.fieldLink RX7 10 "PlanetoidDesk" "sky" "LPlanetoidDesk$Sky;", Cond.methodLink RX7 191 yX7_gatherLooks, Cond.instanceMethod yX7_gatherLooks, Cond.selects RX7 yX7_gatherLooks yX7_gatherLooks, Cond.code yX7_gatherLooks cX7_gatherLooks 3 none, Cond.methodLink RX7 248 yX0_isLook, Cond.instanceMethod yX0_isLook, Cond.selects RX0 yX0_isLook yX0_isLook, Cond.initialized RX0, Cond.code yX0_isLook cX0_isLook 5 (some .boolean), Cond.fieldLink RX0 14 "PlanetoidDesk$Bodies" "owners" "LPlanetoidDesk$Row;", Cond.fieldLink RX0 20 "PlanetoidDesk$Bodies" "hosts" "LPlanetoidDesk$Row;", Cond.methodLink RX0 46 yX5_at]
def wsL_orbits_r3 : List Cond := [Cond.instanceMethod yX5_at, Cond.selects RX5 yX5_at yX5_at, Cond.code yX5_at cX5_at 2 (some .int), Cond.methodLink RX7 251 yX2_add, Cond.instanceMethod yX2_add, Cond.selects RX2 yX2_add yX2_add, Cond.initialized RX2, Cond.code yX2_add cX2_add 2 none, Cond.fieldLink RX2 14 "PlanetoidDesk$Looks" "dots" "LPlanetoidDesk$Row;", Cond.fieldLink RX2 20 "PlanetoidDesk$Looks" "count" "I", Cond.methodLink RX2 24 yX5_put, Cond.instanceMethod yX5_put, Cond.selects RX5 yX5_put yX5_put, Cond.code yX5_put cX5_put 3 none, Cond.methodLink RX7 254 yX2_dotAt, Cond.instanceMethod yX2_dotAt, Cond.selects RX2 yX2_dotAt yX2_dotAt, Cond.code yX2_dotAt cX2_dotAt 2 (some .int), Cond.methodLink RX2 28 yX5_at, Cond.methodLink RX7 95 yX6_nightOf, Cond.instanceMethod yX6_nightOf, Cond.selects RX6 yX6_nightOf yX6_nightOf, Cond.initialized RX6, Cond.code yX6_nightOf cX6_nightOf 2 (some .int)]
def wsL_orbits_r4 : List Cond := [Cond.fieldLink RX6 23 "PlanetoidDesk$Sky" "plateNights" "LPlanetoidDesk$Row;", Cond.fieldLink RX6 26 "PlanetoidDesk$Sky" "dotPlates" "LPlanetoidDesk$Row;", Cond.methodLink RX6 52 yX5_at, Cond.methodLink RX7 98 yX6_truePlaceOf, Cond.instanceMethod yX6_truePlaceOf, Cond.selects RX6 yX6_truePlaceOf yX6_truePlaceOf, Cond.code yX6_truePlaceOf cX6_truePlaceOf 3 (some .int), Cond.fieldLink RX6 29 "PlanetoidDesk$Sky" "dotPlaces" "LPlanetoidDesk$Row;", Cond.fieldLink RX6 35 "PlanetoidDesk$Sky" "shifts" "LPlanetoidDesk$Row;", Cond.methodLink RX6 56 yJ9_floorMod_7cf53, Cond.static yJ9_floorMod_7cf53, Cond.initialized RJ9, Cond.code yJ9_floorMod_7cf53 cJ9_floorMod_7cf53 3 (some .int), Cond.methodLink RX7 263 yX6_errorOf, Cond.instanceMethod yX6_errorOf, Cond.selects RX6 yX6_errorOf yX6_errorOf, Cond.code yX6_errorOf cX6_errorOf 2 (some .int), Cond.fieldLink RX6 14 "PlanetoidDesk$Sky" "errors" "LPlanetoidDesk$Row;", Cond.fieldLink RX6 20 "PlanetoidDesk$Sky" "plateObservatories" "LPlanetoidDesk$Row;", Cond.methodLink RX7 266 yX3_keepNear, Cond.instanceMethod yX3_keepNear, Cond.selects RX3 yX3_keepNear yX3_keepNear, Cond.code yX3_keepNear cX3_keepNear 9 none, Cond.static yX7_drift]
def wsL_orbits_r5 : List Cond := [Cond.code yX7_drift cX7_drift 2 (some .int), Cond.methodLink RX7 197 yX7_bOf, Cond.static yX7_bOf, Cond.code yX7_bOf cX7_bOf 1 (some .int), Cond.methodLink RX7 200 yX7_cOf, Cond.static yX7_cOf, Cond.code yX7_cOf cX7_cOf 1 (some .int), Cond.methodLink RX3 33 yJ9_floorMod_7cf53, Cond.methodLink RX3 38 yX5_at, Cond.methodLink RX3 42 yX3_behind, Cond.instanceMethod yX3_behind, Cond.selects RX3 yX3_behind yX3_behind, Cond.code yX3_behind cX3_behind 3 (some .int), Cond.methodLink RX3 45 yX3_sharedWidth, Cond.static yX3_sharedWidth, Cond.code yX3_sharedWidth cX3_sharedWidth 4 (some .int), Cond.methodLink RX3 53 Lib.Math.min.name, Cond.static Lib.Math.min.name, Cond.initialized "java/lang/Math", Cond.code Lib.Math.min.name Lib.Math.min.code 2 (some .int), Cond.methodLink RX3 56 Lib.Math.max.name, Cond.static Lib.Math.max.name, Cond.code Lib.Math.max.name Lib.Math.max.code 2 (some .int), Cond.methodLink RX3 49 yX5_put]
def wsL_orbits_r6 : List Cond := [Cond.methodLink RX7 187 yX3_countOrbits, Cond.instanceMethod yX3_countOrbits, Cond.selects RX3 yX3_countOrbits yX3_countOrbits, Cond.code yX3_countOrbits cX3_countOrbits 3 (some .int)]
def wsL_orbits : List Cond := .codeWith yL_orbits cL_orbits 4 (some .int) [(0, 9, 12, 21)] :: ((wsL_orbits_r1 ++ (wsL_orbits_r2 ++ (wsL_orbits_r3 ++ (wsL_orbits_r4 ++ (wsL_orbits_r5 ++ wsL_orbits_r6))))) ++ wsX70 ++ wsX00 ++ wsX30 ++ wsX50 ++ wsX20 ++ wsX60 ++ (vx_atS RX7 245 "java/lang/IndexOutOfBoundsException" ["java/lang/RuntimeException", "java/lang/Exception"]).filter goodWord)
def wsL_orbitsAnew_r1 : List Cond := [Cond.classLink RL 21 "java/lang/IndexOutOfBoundsException", Cond.methodLink RL 57 yX7_orbitsAnew, Cond.instanceMethod yX7_orbitsAnew, Cond.selects RX7 yX7_orbitsAnew yX7_orbitsAnew, Cond.initialized RX7, Cond.code yX7_orbitsAnew cX7_orbitsAnew 4 (some .int), Cond.fieldLink RX7 19 "PlanetoidDesk" "bodies" "LPlanetoidDesk$Bodies;", Cond.methodLink RX7 70 yX7_needOneOf, Cond.static yX7_needOneOf, Cond.code yX7_needOneOf cX7_needOneOf 2 none, Cond.classLink RX7 241 "java/lang/IndexOutOfBoundsException", Cond.initialized "java/lang/IndexOutOfBoundsException", Cond.methodLink RX7 191 yX7_gatherLooks, Cond.instanceMethod yX7_gatherLooks, Cond.selects RX7 yX7_gatherLooks yX7_gatherLooks, Cond.code yX7_gatherLooks cX7_gatherLooks 3 none, Cond.fieldLink RX7 26 "PlanetoidDesk" "looks" "LPlanetoidDesk$Looks;", Cond.fieldLink RX7 10 "PlanetoidDesk" "sky" "LPlanetoidDesk$Sky;", Cond.methodLink RX7 248 yX0_isLook, Cond.instanceMethod yX0_isLook, Cond.selects RX0 yX0_isLook yX0_isLook, Cond.initialized RX0, Cond.code yX0_isLook cX0_isLook 5 (some .boolean), Cond.fieldLink RX0 14 "PlanetoidDesk$Bodies" "owners" "LPlanetoidDesk$Row;"]
def wsL_orbitsAnew_r2 : List Cond := [Cond.fieldLink RX0 20 "PlanetoidDesk$Bodies" "hosts" "LPlanetoidDesk$Row;", Cond.methodLink RX0 46 yX5_at, Cond.instanceMethod yX5_at, Cond.selects RX5 yX5_at yX5_at, Cond.initialized RX5, Cond.code yX5_at cX5_at 2 (some .int), Cond.fieldLink RX5 7 "PlanetoidDesk$Row" "cells" "[I", Cond.methodLink RX7 251 yX2_add, Cond.instanceMethod yX2_add, Cond.selects RX2 yX2_add yX2_add, Cond.initialized RX2, Cond.code yX2_add cX2_add 2 none, Cond.fieldLink RX2 14 "PlanetoidDesk$Looks" "dots" "LPlanetoidDesk$Row;", Cond.fieldLink RX2 20 "PlanetoidDesk$Looks" "count" "I", Cond.methodLink RX2 24 yX5_put, Cond.instanceMethod yX5_put, Cond.selects RX5 yX5_put yX5_put, Cond.code yX5_put cX5_put 3 none, Cond.methodLink RX7 194 yX7_countPlacesLeft, Cond.instanceMethod yX7_countPlacesLeft, Cond.selects RX7 yX7_countPlacesLeft yX7_countPlacesLeft, Cond.code yX7_countPlacesLeft cX7_countPlacesLeft 8 (some .int), Cond.constantLong RX7 299 (-1), Cond.methodLink RX7 254 yX2_dotAt]
def wsL_orbitsAnew_r3 : List Cond := [Cond.instanceMethod yX2_dotAt, Cond.selects RX2 yX2_dotAt yX2_dotAt, Cond.code yX2_dotAt cX2_dotAt 2 (some .int), Cond.methodLink RX2 28 yX5_at, Cond.methodLink RX7 296 yX7_leastAOf, Cond.instanceMethod yX7_leastAOf, Cond.selects RX7 yX7_leastAOf yX7_leastAOf, Cond.code yX7_leastAOf cX7_leastAOf 4 (some .int), Cond.methodLink RX7 98 yX6_truePlaceOf, Cond.instanceMethod yX6_truePlaceOf, Cond.selects RX6 yX6_truePlaceOf yX6_truePlaceOf, Cond.initialized RX6, Cond.code yX6_truePlaceOf cX6_truePlaceOf 3 (some .int), Cond.fieldLink RX6 29 "PlanetoidDesk$Sky" "dotPlaces" "LPlanetoidDesk$Row;", Cond.fieldLink RX6 35 "PlanetoidDesk$Sky" "shifts" "LPlanetoidDesk$Row;", Cond.methodLink RX6 52 yX5_at, Cond.methodLink RX6 56 yJ9_floorMod_7cf53, Cond.static yJ9_floorMod_7cf53, Cond.initialized RJ9, Cond.code yJ9_floorMod_7cf53 cJ9_floorMod_7cf53 3 (some .int), Cond.methodLink RX7 263 yX6_errorOf, Cond.instanceMethod yX6_errorOf, Cond.selects RX6 yX6_errorOf yX6_errorOf, Cond.code yX6_errorOf cX6_errorOf 2 (some .int)]
def wsL_orbitsAnew_r4 : List Cond := [Cond.fieldLink RX6 14 "PlanetoidDesk$Sky" "errors" "LPlanetoidDesk$Row;", Cond.fieldLink RX6 20 "PlanetoidDesk$Sky" "plateObservatories" "LPlanetoidDesk$Row;", Cond.fieldLink RX6 26 "PlanetoidDesk$Sky" "dotPlates" "LPlanetoidDesk$Row;", Cond.methodLink RX7 95 yX6_nightOf, Cond.instanceMethod yX6_nightOf, Cond.selects RX6 yX6_nightOf yX6_nightOf, Cond.code yX6_nightOf cX6_nightOf 2 (some .int), Cond.fieldLink RX6 23 "PlanetoidDesk$Sky" "plateNights" "LPlanetoidDesk$Row;", Cond.methodLink RX7 314 yX7_drift, Cond.static yX7_drift, Cond.code yX7_drift cX7_drift 2 (some .int), Cond.methodLink RX7 197 yX7_bOf, Cond.static yX7_bOf, Cond.code yX7_bOf cX7_bOf 1 (some .int), Cond.methodLink RX7 200 yX7_cOf, Cond.static yX7_cOf, Cond.code yX7_cOf cX7_cOf 1 (some .int), Cond.methodLink RX7 301 yJ9_floorMod_7cf53, Cond.methodLink RX7 304 yX7_stretch, Cond.static yX7_stretch, Cond.code yX7_stretch cX7_stretch 5 (some .long), Cond.methodLink RX7 308 yJ13_bitCount_95d88, Cond.static yJ13_bitCount_95d88, Cond.initialized RJ13]
def wsL_orbitsAnew_r5 : List Cond := [Cond.code yJ13_bitCount_95d88 cJ13_bitCount_95d88 2 (some .int), Cond.constantLong RJ13 314 (6148914691236517205), Cond.constantLong RJ13 316 (3689348814741910323), Cond.constantLong RJ13 318 (1085102592571150095)]
def wsL_orbitsAnew : List Cond := .codeWith yL_orbitsAnew cL_orbitsAnew 4 (some .int) [(0, 9, 12, 21)] :: ((wsL_orbitsAnew_r1 ++ (wsL_orbitsAnew_r2 ++ (wsL_orbitsAnew_r3 ++ (wsL_orbitsAnew_r4 ++ wsL_orbitsAnew_r5)))) ++ wsX70 ++ wsX00 ++ wsX20 ++ wsX60 ++ wsX50 ++ (vx_atS RX7 245 "java/lang/IndexOutOfBoundsException" ["java/lang/RuntimeException", "java/lang/Exception"]).filter goodWord)
def wsL_orbit_r1 : List Cond := [Cond.classLink RL 21 "java/lang/IndexOutOfBoundsException", Cond.classLink RL 13 "java/lang/IllegalArgumentException", Cond.methodLink RL 60 yX7_orbit, Cond.instanceMethod yX7_orbit, Cond.selects RX7 yX7_orbit yX7_orbit, Cond.initialized RX7, Cond.code yX7_orbit cX7_orbit 5 (some .int), Cond.fieldLink RX7 19 "PlanetoidDesk" "bodies" "LPlanetoidDesk$Bodies;", Cond.fieldLink RX7 33 "PlanetoidDesk" "fitting" "LPlanetoidDesk$Orbits;", Cond.methodLink RX7 70 yX7_needOneOf, Cond.static yX7_needOneOf, Cond.code yX7_needOneOf cX7_needOneOf 2 none, Cond.classLink RX7 241 "java/lang/IndexOutOfBoundsException", Cond.initialized "java/lang/IndexOutOfBoundsException", Cond.methodLink RX7 121 yX7_findOrbits, Cond.instanceMethod yX7_findOrbits, Cond.selects RX7 yX7_findOrbits yX7_findOrbits, Cond.code yX7_findOrbits cX7_findOrbits 2 none, Cond.methodLink RX7 257 yX3_takeAll, Cond.instanceMethod yX3_takeAll, Cond.selects RX3 yX3_takeAll yX3_takeAll, Cond.initialized RX3, Cond.code yX3_takeAll cX3_takeAll 1 none, Cond.fieldLink RX3 14 "PlanetoidDesk$Orbits" "starts" "LPlanetoidDesk$Row;"]
def wsL_orbit_r2 : List Cond := [Cond.fieldLink RX3 20 "PlanetoidDesk$Orbits" "widths" "LPlanetoidDesk$Row;", Cond.methodLink RX3 26 yX5_fill, Cond.instanceMethod yX5_fill, Cond.selects RX5 yX5_fill yX5_fill, Cond.initialized RX5, Cond.code yX5_fill cX5_fill 3 none, Cond.fieldLink RX5 7 "PlanetoidDesk$Row" "cells" "[I", Cond.methodLink RX7 260 yX7_keepFitting, Cond.instanceMethod yX7_keepFitting, Cond.selects RX7 yX7_keepFitting yX7_keepFitting, Cond.code yX7_keepFitting cX7_keepFitting 4 none, Cond.fieldLink RX7 26 "PlanetoidDesk" "looks" "LPlanetoidDesk$Looks;", Cond.fieldLink RX7 10 "PlanetoidDesk" "sky" "LPlanetoidDesk$Sky;", Cond.methodLink RX7 191 yX7_gatherLooks, Cond.instanceMethod yX7_gatherLooks, Cond.selects RX7 yX7_gatherLooks yX7_gatherLooks, Cond.code yX7_gatherLooks cX7_gatherLooks 3 none, Cond.methodLink RX7 248 yX0_isLook, Cond.instanceMethod yX0_isLook, Cond.selects RX0 yX0_isLook yX0_isLook, Cond.initialized RX0, Cond.code yX0_isLook cX0_isLook 5 (some .boolean), Cond.fieldLink RX0 14 "PlanetoidDesk$Bodies" "owners" "LPlanetoidDesk$Row;", Cond.fieldLink RX0 20 "PlanetoidDesk$Bodies" "hosts" "LPlanetoidDesk$Row;"]
def wsL_orbit_r3 : List Cond := [Cond.methodLink RX0 46 yX5_at, Cond.instanceMethod yX5_at, Cond.selects RX5 yX5_at yX5_at, Cond.code yX5_at cX5_at 2 (some .int), Cond.methodLink RX7 251 yX2_add, Cond.instanceMethod yX2_add, Cond.selects RX2 yX2_add yX2_add, Cond.initialized RX2, Cond.code yX2_add cX2_add 2 none, Cond.fieldLink RX2 14 "PlanetoidDesk$Looks" "dots" "LPlanetoidDesk$Row;", Cond.fieldLink RX2 20 "PlanetoidDesk$Looks" "count" "I", Cond.methodLink RX2 24 yX5_put, Cond.instanceMethod yX5_put, Cond.selects RX5 yX5_put yX5_put, Cond.code yX5_put cX5_put 3 none, Cond.methodLink RX7 254 yX2_dotAt, Cond.instanceMethod yX2_dotAt, Cond.selects RX2 yX2_dotAt yX2_dotAt, Cond.code yX2_dotAt cX2_dotAt 2 (some .int), Cond.methodLink RX2 28 yX5_at, Cond.methodLink RX7 95 yX6_nightOf, Cond.instanceMethod yX6_nightOf, Cond.selects RX6 yX6_nightOf yX6_nightOf, Cond.initialized RX6]
def wsL_orbit_r4 : List Cond := [Cond.code yX6_nightOf cX6_nightOf 2 (some .int), Cond.fieldLink RX6 23 "PlanetoidDesk$Sky" "plateNights" "LPlanetoidDesk$Row;", Cond.fieldLink RX6 26 "PlanetoidDesk$Sky" "dotPlates" "LPlanetoidDesk$Row;", Cond.methodLink RX6 52 yX5_at, Cond.methodLink RX7 98 yX6_truePlaceOf, Cond.instanceMethod yX6_truePlaceOf, Cond.selects RX6 yX6_truePlaceOf yX6_truePlaceOf, Cond.code yX6_truePlaceOf cX6_truePlaceOf 3 (some .int), Cond.fieldLink RX6 29 "PlanetoidDesk$Sky" "dotPlaces" "LPlanetoidDesk$Row;", Cond.fieldLink RX6 35 "PlanetoidDesk$Sky" "shifts" "LPlanetoidDesk$Row;", Cond.methodLink RX6 56 yJ9_floorMod_7cf53, Cond.static yJ9_floorMod_7cf53, Cond.initialized RJ9, Cond.code yJ9_floorMod_7cf53 cJ9_floorMod_7cf53 3 (some .int), Cond.methodLink RX7 263 yX6_errorOf, Cond.instanceMethod yX6_errorOf, Cond.selects RX6 yX6_errorOf yX6_errorOf, Cond.code yX6_errorOf cX6_errorOf 2 (some .int), Cond.fieldLink RX6 14 "PlanetoidDesk$Sky" "errors" "LPlanetoidDesk$Row;", Cond.fieldLink RX6 20 "PlanetoidDesk$Sky" "plateObservatories" "LPlanetoidDesk$Row;", Cond.methodLink RX7 266 yX3_keepNear, Cond.instanceMethod yX3_keepNear, Cond.selects RX3 yX3_keepNear yX3_keepNear, Cond.code yX3_keepNear cX3_keepNear 9 none]
def wsL_orbit_r5 : List Cond := [Cond.static yX7_drift, Cond.code yX7_drift cX7_drift 2 (some .int), Cond.methodLink RX7 197 yX7_bOf, Cond.static yX7_bOf, Cond.code yX7_bOf cX7_bOf 1 (some .int), Cond.methodLink RX7 200 yX7_cOf, Cond.static yX7_cOf, Cond.code yX7_cOf cX7_cOf 1 (some .int), Cond.methodLink RX3 33 yJ9_floorMod_7cf53, Cond.methodLink RX3 38 yX5_at, Cond.methodLink RX3 42 yX3_behind, Cond.instanceMethod yX3_behind, Cond.selects RX3 yX3_behind yX3_behind, Cond.code yX3_behind cX3_behind 3 (some .int), Cond.methodLink RX3 45 yX3_sharedWidth, Cond.static yX3_sharedWidth, Cond.code yX3_sharedWidth cX3_sharedWidth 4 (some .int), Cond.methodLink RX3 53 Lib.Math.min.name, Cond.static Lib.Math.min.name, Cond.initialized "java/lang/Math", Cond.code Lib.Math.min.name Lib.Math.min.code 2 (some .int), Cond.methodLink RX3 56 Lib.Math.max.name, Cond.static Lib.Math.max.name, Cond.code Lib.Math.max.name Lib.Math.max.code 2 (some .int)]
def wsL_orbit_r6 : List Cond := [Cond.methodLink RX3 49 yX5_put, Cond.methodLink RX7 187 yX3_countOrbits, Cond.instanceMethod yX3_countOrbits, Cond.selects RX3 yX3_countOrbits yX3_countOrbits, Cond.code yX3_countOrbits cX3_countOrbits 3 (some .int), Cond.methodLink RX7 51 yX7_needWithin, Cond.static yX7_needWithin, Cond.code yX7_needWithin cX7_needWithin 3 none, Cond.classLink RX7 206 "java/lang/IllegalArgumentException", Cond.initialized "java/lang/IllegalArgumentException", Cond.methodLink RX7 166 yX3_orbitAt, Cond.instanceMethod yX3_orbitAt, Cond.selects RX3 yX3_orbitAt yX3_orbitAt, Cond.code yX3_orbitAt cX3_orbitAt 4 (some .int), Cond.fieldLink RX3 23 "PlanetoidDesk$Orbits" "tallies" "LPlanetoidDesk$Row;", Cond.methodLink RX3 59 yX3_tallyPlaces, Cond.instanceMethod yX3_tallyPlaces, Cond.selects RX3 yX3_tallyPlaces yX3_tallyPlaces, Cond.code yX3_tallyPlaces cX3_tallyPlaces 6 none, Cond.methodLink RX3 62 yX3_courseWith, Cond.instanceMethod yX3_courseWith, Cond.selects RX3 yX3_courseWith yX3_courseWith, Cond.code yX3_courseWith cX3_courseWith 5 (some .int)]
def wsL_orbit : List Cond := .codeWith yL_orbit cL_orbit 6 (some .int) [(0, 12, 15, 21), (0, 12, 19, 13)] :: ((wsL_orbit_r1 ++ (wsL_orbit_r2 ++ (wsL_orbit_r3 ++ (wsL_orbit_r4 ++ (wsL_orbit_r5 ++ wsL_orbit_r6))))) ++ wsX70 ++ wsX00 ++ wsX30 ++ wsX50 ++ wsX20 ++ wsX60 ++ (vx_atS RX7 245 "java/lang/IndexOutOfBoundsException" ["java/lang/RuntimeException", "java/lang/Exception"]).filter goodWord ++ (vx_atS RX7 210 "java/lang/IllegalArgumentException" ["java/lang/RuntimeException", "java/lang/Exception"]).filter goodWord)
def wsL_spread_r1 : List Cond := [Cond.classLink RL 21 "java/lang/IndexOutOfBoundsException", Cond.classLink RL 13 "java/lang/IllegalArgumentException", Cond.methodLink RL 63 yX7_spread, Cond.instanceMethod yX7_spread, Cond.selects RX7 yX7_spread yX7_spread, Cond.initialized RX7, Cond.code yX7_spread cX7_spread 3 (some .int), Cond.fieldLink RX7 19 "PlanetoidDesk" "bodies" "LPlanetoidDesk$Bodies;", Cond.fieldLink RX7 33 "PlanetoidDesk" "fitting" "LPlanetoidDesk$Orbits;", Cond.methodLink RX7 70 yX7_needOneOf, Cond.static yX7_needOneOf, Cond.code yX7_needOneOf cX7_needOneOf 2 none, Cond.classLink RX7 241 "java/lang/IndexOutOfBoundsException", Cond.initialized "java/lang/IndexOutOfBoundsException", Cond.methodLink RX7 51 yX7_needWithin, Cond.static yX7_needWithin, Cond.code yX7_needWithin cX7_needWithin 3 none, Cond.classLink RX7 206 "java/lang/IllegalArgumentException", Cond.initialized "java/lang/IllegalArgumentException", Cond.methodLink RX7 121 yX7_findOrbits, Cond.instanceMethod yX7_findOrbits, Cond.selects RX7 yX7_findOrbits yX7_findOrbits, Cond.code yX7_findOrbits cX7_findOrbits 2 none, Cond.methodLink RX7 257 yX3_takeAll]
def wsL_spread_r2 : List Cond := [Cond.instanceMethod yX3_takeAll, Cond.selects RX3 yX3_takeAll yX3_takeAll, Cond.initialized RX3, Cond.code yX3_takeAll cX3_takeAll 1 none, Cond.fieldLink RX3 14 "PlanetoidDesk$Orbits" "starts" "LPlanetoidDesk$Row;", Cond.fieldLink RX3 20 "PlanetoidDesk$Orbits" "widths" "LPlanetoidDesk$Row;", Cond.methodLink RX3 26 yX5_fill, Cond.instanceMethod yX5_fill, Cond.selects RX5 yX5_fill yX5_fill, Cond.initialized RX5, Cond.code yX5_fill cX5_fill 3 none, Cond.fieldLink RX5 7 "PlanetoidDesk$Row" "cells" "[I", Cond.methodLink RX7 260 yX7_keepFitting, Cond.instanceMethod yX7_keepFitting, Cond.selects RX7 yX7_keepFitting yX7_keepFitting, Cond.code yX7_keepFitting cX7_keepFitting 4 none, Cond.fieldLink RX7 26 "PlanetoidDesk" "looks" "LPlanetoidDesk$Looks;", Cond.fieldLink RX7 10 "PlanetoidDesk" "sky" "LPlanetoidDesk$Sky;", Cond.methodLink RX7 191 yX7_gatherLooks, Cond.instanceMethod yX7_gatherLooks, Cond.selects RX7 yX7_gatherLooks yX7_gatherLooks, Cond.code yX7_gatherLooks cX7_gatherLooks 3 none, Cond.methodLink RX7 248 yX0_isLook, Cond.instanceMethod yX0_isLook]
def wsL_spread_r3 : List Cond := [Cond.selects RX0 yX0_isLook yX0_isLook, Cond.initialized RX0, Cond.code yX0_isLook cX0_isLook 5 (some .boolean), Cond.fieldLink RX0 14 "PlanetoidDesk$Bodies" "owners" "LPlanetoidDesk$Row;", Cond.fieldLink RX0 20 "PlanetoidDesk$Bodies" "hosts" "LPlanetoidDesk$Row;", Cond.methodLink RX0 46 yX5_at, Cond.instanceMethod yX5_at, Cond.selects RX5 yX5_at yX5_at, Cond.code yX5_at cX5_at 2 (some .int), Cond.methodLink RX7 251 yX2_add, Cond.instanceMethod yX2_add, Cond.selects RX2 yX2_add yX2_add, Cond.initialized RX2, Cond.code yX2_add cX2_add 2 none, Cond.fieldLink RX2 14 "PlanetoidDesk$Looks" "dots" "LPlanetoidDesk$Row;", Cond.fieldLink RX2 20 "PlanetoidDesk$Looks" "count" "I", Cond.methodLink RX2 24 yX5_put, Cond.instanceMethod yX5_put, Cond.selects RX5 yX5_put yX5_put, Cond.code yX5_put cX5_put 3 none, Cond.methodLink RX7 254 yX2_dotAt, Cond.instanceMethod yX2_dotAt, Cond.selects RX2 yX2_dotAt yX2_dotAt, Cond.code yX2_dotAt cX2_dotAt 2 (some .int)]
def wsL_spread_r4 : List Cond := [Cond.methodLink RX2 28 yX5_at, Cond.methodLink RX7 95 yX6_nightOf, Cond.instanceMethod yX6_nightOf, Cond.selects RX6 yX6_nightOf yX6_nightOf, Cond.initialized RX6, Cond.code yX6_nightOf cX6_nightOf 2 (some .int), Cond.fieldLink RX6 23 "PlanetoidDesk$Sky" "plateNights" "LPlanetoidDesk$Row;", Cond.fieldLink RX6 26 "PlanetoidDesk$Sky" "dotPlates" "LPlanetoidDesk$Row;", Cond.methodLink RX6 52 yX5_at, Cond.methodLink RX7 98 yX6_truePlaceOf, Cond.instanceMethod yX6_truePlaceOf, Cond.selects RX6 yX6_truePlaceOf yX6_truePlaceOf, Cond.code yX6_truePlaceOf cX6_truePlaceOf 3 (some .int), Cond.fieldLink RX6 29 "PlanetoidDesk$Sky" "dotPlaces" "LPlanetoidDesk$Row;", Cond.fieldLink RX6 35 "PlanetoidDesk$Sky" "shifts" "LPlanetoidDesk$Row;", Cond.methodLink RX6 56 yJ9_floorMod_7cf53, Cond.static yJ9_floorMod_7cf53, Cond.initialized RJ9, Cond.code yJ9_floorMod_7cf53 cJ9_floorMod_7cf53 3 (some .int), Cond.methodLink RX7 263 yX6_errorOf, Cond.instanceMethod yX6_errorOf, Cond.selects RX6 yX6_errorOf yX6_errorOf, Cond.code yX6_errorOf cX6_errorOf 2 (some .int), Cond.fieldLink RX6 14 "PlanetoidDesk$Sky" "errors" "LPlanetoidDesk$Row;"]
def wsL_spread_r5 : List Cond := [Cond.fieldLink RX6 20 "PlanetoidDesk$Sky" "plateObservatories" "LPlanetoidDesk$Row;", Cond.methodLink RX7 266 yX3_keepNear, Cond.instanceMethod yX3_keepNear, Cond.selects RX3 yX3_keepNear yX3_keepNear, Cond.code yX3_keepNear cX3_keepNear 9 none, Cond.static yX7_drift, Cond.code yX7_drift cX7_drift 2 (some .int), Cond.methodLink RX7 197 yX7_bOf, Cond.static yX7_bOf, Cond.code yX7_bOf cX7_bOf 1 (some .int), Cond.methodLink RX7 200 yX7_cOf, Cond.static yX7_cOf, Cond.code yX7_cOf cX7_cOf 1 (some .int), Cond.methodLink RX3 33 yJ9_floorMod_7cf53, Cond.methodLink RX3 38 yX5_at, Cond.methodLink RX3 42 yX3_behind, Cond.instanceMethod yX3_behind, Cond.selects RX3 yX3_behind yX3_behind, Cond.code yX3_behind cX3_behind 3 (some .int), Cond.methodLink RX3 45 yX3_sharedWidth, Cond.static yX3_sharedWidth, Cond.code yX3_sharedWidth cX3_sharedWidth 4 (some .int), Cond.methodLink RX3 53 Lib.Math.min.name, Cond.static Lib.Math.min.name]
def wsL_spread_r6 : List Cond := [Cond.initialized "java/lang/Math", Cond.code Lib.Math.min.name Lib.Math.min.code 2 (some .int), Cond.methodLink RX3 56 Lib.Math.max.name, Cond.static Lib.Math.max.name, Cond.code Lib.Math.max.name Lib.Math.max.code 2 (some .int), Cond.methodLink RX3 49 yX5_put, Cond.methodLink RX7 203 yX3_countPlaces, Cond.instanceMethod yX3_countPlaces, Cond.selects RX3 yX3_countPlaces yX3_countPlaces, Cond.code yX3_countPlaces cX3_countPlaces 4 (some .int), Cond.fieldLink RX3 23 "PlanetoidDesk$Orbits" "tallies" "LPlanetoidDesk$Row;", Cond.methodLink RX3 59 yX3_tallyPlaces, Cond.instanceMethod yX3_tallyPlaces, Cond.selects RX3 yX3_tallyPlaces yX3_tallyPlaces, Cond.code yX3_tallyPlaces cX3_tallyPlaces 6 none]
def wsL_spread : List Cond := .codeWith yL_spread cL_spread 5 (some .int) [(0, 10, 13, 21), (0, 10, 17, 13)] :: ((wsL_spread_r1 ++ (wsL_spread_r2 ++ (wsL_spread_r3 ++ (wsL_spread_r4 ++ (wsL_spread_r5 ++ wsL_spread_r6))))) ++ wsX70 ++ wsX00 ++ wsX30 ++ wsX50 ++ wsX20 ++ wsX60 ++ (vx_atS RX7 245 "java/lang/IndexOutOfBoundsException" ["java/lang/RuntimeException", "java/lang/Exception"]).filter goodWord ++ (vx_atS RX7 210 "java/lang/IllegalArgumentException" ["java/lang/RuntimeException", "java/lang/Exception"]).filter goodWord)
def wsL_where_r1 : List Cond := [Cond.classLink RL 21 "java/lang/IndexOutOfBoundsException", Cond.classLink RL 13 "java/lang/IllegalArgumentException", Cond.methodLink RL 66 yX7_where, Cond.instanceMethod yX7_where, Cond.selects RX7 yX7_where yX7_where, Cond.initialized RX7, Cond.code yX7_where cX7_where 4 (some .int), Cond.classLink RX7 206 "java/lang/IllegalArgumentException", Cond.initialized "java/lang/IllegalArgumentException", Cond.fieldLink RX7 19 "PlanetoidDesk" "bodies" "LPlanetoidDesk$Bodies;", Cond.fieldLink RX7 33 "PlanetoidDesk" "fitting" "LPlanetoidDesk$Orbits;", Cond.methodLink RX7 70 yX7_needOneOf, Cond.static yX7_needOneOf, Cond.code yX7_needOneOf cX7_needOneOf 2 none, Cond.classLink RX7 241 "java/lang/IndexOutOfBoundsException", Cond.initialized "java/lang/IndexOutOfBoundsException", Cond.methodLink RX7 51 yX7_needWithin, Cond.static yX7_needWithin, Cond.code yX7_needWithin cX7_needWithin 3 none, Cond.methodLink RX7 121 yX7_findOrbits, Cond.instanceMethod yX7_findOrbits, Cond.selects RX7 yX7_findOrbits yX7_findOrbits, Cond.code yX7_findOrbits cX7_findOrbits 2 none, Cond.methodLink RX7 257 yX3_takeAll]
def wsL_where_r2 : List Cond := [Cond.instanceMethod yX3_takeAll, Cond.selects RX3 yX3_takeAll yX3_takeAll, Cond.initialized RX3, Cond.code yX3_takeAll cX3_takeAll 1 none, Cond.fieldLink RX3 14 "PlanetoidDesk$Orbits" "starts" "LPlanetoidDesk$Row;", Cond.fieldLink RX3 20 "PlanetoidDesk$Orbits" "widths" "LPlanetoidDesk$Row;", Cond.methodLink RX3 26 yX5_fill, Cond.instanceMethod yX5_fill, Cond.selects RX5 yX5_fill yX5_fill, Cond.initialized RX5, Cond.code yX5_fill cX5_fill 3 none, Cond.fieldLink RX5 7 "PlanetoidDesk$Row" "cells" "[I", Cond.methodLink RX7 260 yX7_keepFitting, Cond.instanceMethod yX7_keepFitting, Cond.selects RX7 yX7_keepFitting yX7_keepFitting, Cond.code yX7_keepFitting cX7_keepFitting 4 none, Cond.fieldLink RX7 26 "PlanetoidDesk" "looks" "LPlanetoidDesk$Looks;", Cond.fieldLink RX7 10 "PlanetoidDesk" "sky" "LPlanetoidDesk$Sky;", Cond.methodLink RX7 191 yX7_gatherLooks, Cond.instanceMethod yX7_gatherLooks, Cond.selects RX7 yX7_gatherLooks yX7_gatherLooks, Cond.code yX7_gatherLooks cX7_gatherLooks 3 none, Cond.methodLink RX7 248 yX0_isLook, Cond.instanceMethod yX0_isLook]
def wsL_where_r3 : List Cond := [Cond.selects RX0 yX0_isLook yX0_isLook, Cond.initialized RX0, Cond.code yX0_isLook cX0_isLook 5 (some .boolean), Cond.fieldLink RX0 14 "PlanetoidDesk$Bodies" "owners" "LPlanetoidDesk$Row;", Cond.fieldLink RX0 20 "PlanetoidDesk$Bodies" "hosts" "LPlanetoidDesk$Row;", Cond.methodLink RX0 46 yX5_at, Cond.instanceMethod yX5_at, Cond.selects RX5 yX5_at yX5_at, Cond.code yX5_at cX5_at 2 (some .int), Cond.methodLink RX7 251 yX2_add, Cond.instanceMethod yX2_add, Cond.selects RX2 yX2_add yX2_add, Cond.initialized RX2, Cond.code yX2_add cX2_add 2 none, Cond.fieldLink RX2 14 "PlanetoidDesk$Looks" "dots" "LPlanetoidDesk$Row;", Cond.fieldLink RX2 20 "PlanetoidDesk$Looks" "count" "I", Cond.methodLink RX2 24 yX5_put, Cond.instanceMethod yX5_put, Cond.selects RX5 yX5_put yX5_put, Cond.code yX5_put cX5_put 3 none, Cond.methodLink RX7 254 yX2_dotAt, Cond.instanceMethod yX2_dotAt, Cond.selects RX2 yX2_dotAt yX2_dotAt, Cond.code yX2_dotAt cX2_dotAt 2 (some .int)]
def wsL_where_r4 : List Cond := [Cond.methodLink RX2 28 yX5_at, Cond.methodLink RX7 95 yX6_nightOf, Cond.instanceMethod yX6_nightOf, Cond.selects RX6 yX6_nightOf yX6_nightOf, Cond.initialized RX6, Cond.code yX6_nightOf cX6_nightOf 2 (some .int), Cond.fieldLink RX6 23 "PlanetoidDesk$Sky" "plateNights" "LPlanetoidDesk$Row;", Cond.fieldLink RX6 26 "PlanetoidDesk$Sky" "dotPlates" "LPlanetoidDesk$Row;", Cond.methodLink RX6 52 yX5_at, Cond.methodLink RX7 98 yX6_truePlaceOf, Cond.instanceMethod yX6_truePlaceOf, Cond.selects RX6 yX6_truePlaceOf yX6_truePlaceOf, Cond.code yX6_truePlaceOf cX6_truePlaceOf 3 (some .int), Cond.fieldLink RX6 29 "PlanetoidDesk$Sky" "dotPlaces" "LPlanetoidDesk$Row;", Cond.fieldLink RX6 35 "PlanetoidDesk$Sky" "shifts" "LPlanetoidDesk$Row;", Cond.methodLink RX6 56 yJ9_floorMod_7cf53, Cond.static yJ9_floorMod_7cf53, Cond.initialized RJ9, Cond.code yJ9_floorMod_7cf53 cJ9_floorMod_7cf53 3 (some .int), Cond.methodLink RX7 263 yX6_errorOf, Cond.instanceMethod yX6_errorOf, Cond.selects RX6 yX6_errorOf yX6_errorOf, Cond.code yX6_errorOf cX6_errorOf 2 (some .int), Cond.fieldLink RX6 14 "PlanetoidDesk$Sky" "errors" "LPlanetoidDesk$Row;"]
def wsL_where_r5 : List Cond := [Cond.fieldLink RX6 20 "PlanetoidDesk$Sky" "plateObservatories" "LPlanetoidDesk$Row;", Cond.methodLink RX7 266 yX3_keepNear, Cond.instanceMethod yX3_keepNear, Cond.selects RX3 yX3_keepNear yX3_keepNear, Cond.code yX3_keepNear cX3_keepNear 9 none, Cond.static yX7_drift, Cond.code yX7_drift cX7_drift 2 (some .int), Cond.methodLink RX7 197 yX7_bOf, Cond.static yX7_bOf, Cond.code yX7_bOf cX7_bOf 1 (some .int), Cond.methodLink RX7 200 yX7_cOf, Cond.static yX7_cOf, Cond.code yX7_cOf cX7_cOf 1 (some .int), Cond.methodLink RX3 33 yJ9_floorMod_7cf53, Cond.methodLink RX3 38 yX5_at, Cond.methodLink RX3 42 yX3_behind, Cond.instanceMethod yX3_behind, Cond.selects RX3 yX3_behind yX3_behind, Cond.code yX3_behind cX3_behind 3 (some .int), Cond.methodLink RX3 45 yX3_sharedWidth, Cond.static yX3_sharedWidth, Cond.code yX3_sharedWidth cX3_sharedWidth 4 (some .int), Cond.methodLink RX3 53 Lib.Math.min.name, Cond.static Lib.Math.min.name]
def wsL_where_r6 : List Cond := [Cond.initialized "java/lang/Math", Cond.code Lib.Math.min.name Lib.Math.min.code 2 (some .int), Cond.methodLink RX3 56 Lib.Math.max.name, Cond.static Lib.Math.max.name, Cond.code Lib.Math.max.name Lib.Math.max.code 2 (some .int), Cond.methodLink RX3 49 yX5_put, Cond.methodLink RX7 211 yX3_placeAt, Cond.instanceMethod yX3_placeAt, Cond.selects RX3 yX3_placeAt yX3_placeAt, Cond.code yX3_placeAt cX3_placeAt 5 (some .int), Cond.fieldLink RX3 23 "PlanetoidDesk$Orbits" "tallies" "LPlanetoidDesk$Row;", Cond.methodLink RX3 59 yX3_tallyPlaces, Cond.instanceMethod yX3_tallyPlaces, Cond.selects RX3 yX3_tallyPlaces yX3_tallyPlaces, Cond.code yX3_tallyPlaces cX3_tallyPlaces 6 none]
def wsL_where : List Cond := .codeWith yL_where cL_where 6 (some .int) [(0, 12, 15, 21), (0, 12, 19, 13)] :: ((wsL_where_r1 ++ (wsL_where_r2 ++ (wsL_where_r3 ++ (wsL_where_r4 ++ (wsL_where_r5 ++ wsL_where_r6))))) ++ wsX70 ++ wsX00 ++ wsX30 ++ wsX50 ++ wsX20 ++ wsX60 ++ (vx_atS RX7 210 "java/lang/IllegalArgumentException" ["java/lang/RuntimeException", "java/lang/Exception"]).filter goodWord ++ (vx_atS RX7 245 "java/lang/IndexOutOfBoundsException" ["java/lang/RuntimeException", "java/lang/Exception"]).filter goodWord)
def wsL_candidates_r1 : List Cond := [Cond.classLink RL 21 "java/lang/IndexOutOfBoundsException", Cond.methodLink RL 69 yX7_candidates, Cond.instanceMethod yX7_candidates, Cond.selects RX7 yX7_candidates yX7_candidates, Cond.initialized RX7, Cond.code yX7_candidates cX7_candidates 4 (some .int), Cond.fieldLink RX7 19 "PlanetoidDesk" "bodies" "LPlanetoidDesk$Bodies;", Cond.fieldLink RX7 10 "PlanetoidDesk" "sky" "LPlanetoidDesk$Sky;", Cond.methodLink RX7 70 yX7_needOneOf, Cond.static yX7_needOneOf, Cond.code yX7_needOneOf cX7_needOneOf 2 none, Cond.classLink RX7 241 "java/lang/IndexOutOfBoundsException", Cond.initialized "java/lang/IndexOutOfBoundsException", Cond.methodLink RX7 121 yX7_findOrbits, Cond.instanceMethod yX7_findOrbits, Cond.selects RX7 yX7_findOrbits yX7_findOrbits, Cond.code yX7_findOrbits cX7_findOrbits 2 none, Cond.fieldLink RX7 33 "PlanetoidDesk" "fitting" "LPlanetoidDesk$Orbits;", Cond.methodLink RX7 257 yX3_takeAll, Cond.instanceMethod yX3_takeAll, Cond.selects RX3 yX3_takeAll yX3_takeAll, Cond.initialized RX3, Cond.code yX3_takeAll cX3_takeAll 1 none, Cond.fieldLink RX3 14 "PlanetoidDesk$Orbits" "starts" "LPlanetoidDesk$Row;"]
def wsL_candidates_r2 : List Cond := [Cond.fieldLink RX3 20 "PlanetoidDesk$Orbits" "widths" "LPlanetoidDesk$Row;", Cond.methodLink RX3 26 yX5_fill, Cond.instanceMethod yX5_fill, Cond.selects RX5 yX5_fill yX5_fill, Cond.initialized RX5, Cond.code yX5_fill cX5_fill 3 none, Cond.fieldLink RX5 7 "PlanetoidDesk$Row" "cells" "[I", Cond.methodLink RX7 260 yX7_keepFitting, Cond.instanceMethod yX7_keepFitting, Cond.selects RX7 yX7_keepFitting yX7_keepFitting, Cond.code yX7_keepFitting cX7_keepFitting 4 none, Cond.fieldLink RX7 26 "PlanetoidDesk" "looks" "LPlanetoidDesk$Looks;", Cond.methodLink RX7 191 yX7_gatherLooks, Cond.instanceMethod yX7_gatherLooks, Cond.selects RX7 yX7_gatherLooks yX7_gatherLooks, Cond.code yX7_gatherLooks cX7_gatherLooks 3 none, Cond.methodLink RX7 248 yX0_isLook, Cond.instanceMethod yX0_isLook, Cond.selects RX0 yX0_isLook yX0_isLook, Cond.initialized RX0, Cond.code yX0_isLook cX0_isLook 5 (some .boolean), Cond.fieldLink RX0 14 "PlanetoidDesk$Bodies" "owners" "LPlanetoidDesk$Row;", Cond.fieldLink RX0 20 "PlanetoidDesk$Bodies" "hosts" "LPlanetoidDesk$Row;", Cond.methodLink RX0 46 yX5_at]
def wsL_candidates_r3 : List Cond := [Cond.instanceMethod yX5_at, Cond.selects RX5 yX5_at yX5_at, Cond.code yX5_at cX5_at 2 (some .int), Cond.methodLink RX7 251 yX2_add, Cond.instanceMethod yX2_add, Cond.selects RX2 yX2_add yX2_add, Cond.initialized RX2, Cond.code yX2_add cX2_add 2 none, Cond.fieldLink RX2 14 "PlanetoidDesk$Looks" "dots" "LPlanetoidDesk$Row;", Cond.fieldLink RX2 20 "PlanetoidDesk$Looks" "count" "I", Cond.methodLink RX2 24 yX5_put, Cond.instanceMethod yX5_put, Cond.selects RX5 yX5_put yX5_put, Cond.code yX5_put cX5_put 3 none, Cond.methodLink RX7 254 yX2_dotAt, Cond.instanceMethod yX2_dotAt, Cond.selects RX2 yX2_dotAt yX2_dotAt, Cond.code yX2_dotAt cX2_dotAt 2 (some .int), Cond.methodLink RX2 28 yX5_at, Cond.methodLink RX7 95 yX6_nightOf, Cond.instanceMethod yX6_nightOf, Cond.selects RX6 yX6_nightOf yX6_nightOf, Cond.initialized RX6, Cond.code yX6_nightOf cX6_nightOf 2 (some .int)]
def wsL_candidates_r4 : List Cond := [Cond.fieldLink RX6 23 "PlanetoidDesk$Sky" "plateNights" "LPlanetoidDesk$Row;", Cond.fieldLink RX6 26 "PlanetoidDesk$Sky" "dotPlates" "LPlanetoidDesk$Row;", Cond.methodLink RX6 52 yX5_at, Cond.methodLink RX7 98 yX6_truePlaceOf, Cond.instanceMethod yX6_truePlaceOf, Cond.selects RX6 yX6_truePlaceOf yX6_truePlaceOf, Cond.code yX6_truePlaceOf cX6_truePlaceOf 3 (some .int), Cond.fieldLink RX6 29 "PlanetoidDesk$Sky" "dotPlaces" "LPlanetoidDesk$Row;", Cond.fieldLink RX6 35 "PlanetoidDesk$Sky" "shifts" "LPlanetoidDesk$Row;", Cond.methodLink RX6 56 yJ9_floorMod_7cf53, Cond.static yJ9_floorMod_7cf53, Cond.initialized RJ9, Cond.code yJ9_floorMod_7cf53 cJ9_floorMod_7cf53 3 (some .int), Cond.methodLink RX7 263 yX6_errorOf, Cond.instanceMethod yX6_errorOf, Cond.selects RX6 yX6_errorOf yX6_errorOf, Cond.code yX6_errorOf cX6_errorOf 2 (some .int), Cond.fieldLink RX6 14 "PlanetoidDesk$Sky" "errors" "LPlanetoidDesk$Row;", Cond.fieldLink RX6 20 "PlanetoidDesk$Sky" "plateObservatories" "LPlanetoidDesk$Row;", Cond.methodLink RX7 266 yX3_keepNear, Cond.instanceMethod yX3_keepNear, Cond.selects RX3 yX3_keepNear yX3_keepNear, Cond.code yX3_keepNear cX3_keepNear 9 none, Cond.static yX7_drift]
def wsL_candidates_r5 : List Cond := [Cond.code yX7_drift cX7_drift 2 (some .int), Cond.methodLink RX7 197 yX7_bOf, Cond.static yX7_bOf, Cond.code yX7_bOf cX7_bOf 1 (some .int), Cond.methodLink RX7 200 yX7_cOf, Cond.static yX7_cOf, Cond.code yX7_cOf cX7_cOf 1 (some .int), Cond.methodLink RX3 33 yJ9_floorMod_7cf53, Cond.methodLink RX3 38 yX5_at, Cond.methodLink RX3 42 yX3_behind, Cond.instanceMethod yX3_behind, Cond.selects RX3 yX3_behind yX3_behind, Cond.code yX3_behind cX3_behind 3 (some .int), Cond.methodLink RX3 45 yX3_sharedWidth, Cond.static yX3_sharedWidth, Cond.code yX3_sharedWidth cX3_sharedWidth 4 (some .int), Cond.methodLink RX3 53 Lib.Math.min.name, Cond.static Lib.Math.min.name, Cond.initialized "java/lang/Math", Cond.code Lib.Math.min.name Lib.Math.min.code 2 (some .int), Cond.methodLink RX3 56 Lib.Math.max.name, Cond.static Lib.Math.max.name, Cond.code Lib.Math.max.name Lib.Math.max.code 2 (some .int), Cond.methodLink RX3 49 yX5_put]
def wsL_candidates_r6 : List Cond := [Cond.methodLink RX7 125 yX7_canTake, Cond.instanceMethod yX7_canTake, Cond.selects RX7 yX7_canTake yX7_canTake, Cond.code yX7_canTake cX7_canTake 3 (some .boolean), Cond.methodLink RX7 107 yX0_isUnlinked, Cond.instanceMethod yX0_isUnlinked, Cond.selects RX0 yX0_isUnlinked yX0_isUnlinked, Cond.code yX0_isUnlinked cX0_isUnlinked 2 (some .boolean), Cond.methodLink RX7 272 yX0_isFree, Cond.instanceMethod yX0_isFree, Cond.selects RX0 yX0_isFree yX0_isFree, Cond.code yX0_isFree cX0_isFree 2 (some .boolean), Cond.methodLink RX7 269 yX6_plateOf, Cond.instanceMethod yX6_plateOf, Cond.selects RX6 yX6_plateOf yX6_plateOf, Cond.code yX6_plateOf cX6_plateOf 2 (some .int), Cond.methodLink RX7 275 yX7_isSeenOn, Cond.instanceMethod yX7_isSeenOn, Cond.selects RX7 yX7_isSeenOn yX7_isSeenOn, Cond.code yX7_isSeenOn cX7_isSeenOn 4 (some .boolean), Cond.methodLink RX7 278 yX3_hasNear, Cond.instanceMethod yX3_hasNear, Cond.selects RX3 yX3_hasNear yX3_hasNear, Cond.code yX3_hasNear cX3_hasNear 7 (some .boolean)]
def wsL_candidates : List Cond := .codeWith yL_candidates cL_candidates 4 (some .int) [(0, 9, 12, 21)] :: ((wsL_candidates_r1 ++ (wsL_candidates_r2 ++ (wsL_candidates_r3 ++ (wsL_candidates_r4 ++ (wsL_candidates_r5 ++ wsL_candidates_r6))))) ++ wsX70 ++ wsX00 ++ wsX60 ++ wsX30 ++ wsX50 ++ wsX20 ++ (vx_atS RX7 245 "java/lang/IndexOutOfBoundsException" ["java/lang/RuntimeException", "java/lang/Exception"]).filter goodWord)
def wsL_chance_r1 : List Cond := [Cond.classLink RL 21 "java/lang/IndexOutOfBoundsException", Cond.classLink RL 13 "java/lang/IllegalArgumentException", Cond.methodLink RL 72 yX7_chance, Cond.instanceMethod yX7_chance, Cond.selects RX7 yX7_chance yX7_chance, Cond.initialized RX7, Cond.code yX7_chance cX7_chance 6 (some .int), Cond.fieldLink RX7 19 "PlanetoidDesk" "bodies" "LPlanetoidDesk$Bodies;", Cond.fieldLink RX7 40 "PlanetoidDesk" "paths" "LPlanetoidDesk$Paths;", Cond.fieldLink RX7 33 "PlanetoidDesk" "fitting" "LPlanetoidDesk$Orbits;", Cond.methodLink RX7 70 yX7_needOneOf, Cond.static yX7_needOneOf, Cond.code yX7_needOneOf cX7_needOneOf 2 none, Cond.classLink RX7 241 "java/lang/IndexOutOfBoundsException", Cond.initialized "java/lang/IndexOutOfBoundsException", Cond.methodLink RX7 51 yX7_needWithin, Cond.static yX7_needWithin, Cond.code yX7_needWithin cX7_needWithin 3 none, Cond.classLink RX7 206 "java/lang/IllegalArgumentException", Cond.initialized "java/lang/IllegalArgumentException", Cond.methodLink RX7 121 yX7_findOrbits, Cond.instanceMethod yX7_findOrbits, Cond.selects RX7 yX7_findOrbits yX7_findOrbits, Cond.code yX7_findOrbits cX7_findOrbits 2 none]
def wsL_chance_r2 : List Cond := [Cond.methodLink RX7 257 yX3_takeAll, Cond.instanceMethod yX3_takeAll, Cond.selects RX3 yX3_takeAll yX3_takeAll, Cond.initialized RX3, Cond.code yX3_takeAll cX3_takeAll 1 none, Cond.fieldLink RX3 14 "PlanetoidDesk$Orbits" "starts" "LPlanetoidDesk$Row;", Cond.fieldLink RX3 20 "PlanetoidDesk$Orbits" "widths" "LPlanetoidDesk$Row;", Cond.methodLink RX3 26 yX5_fill, Cond.instanceMethod yX5_fill, Cond.selects RX5 yX5_fill yX5_fill, Cond.initialized RX5, Cond.code yX5_fill cX5_fill 3 none, Cond.fieldLink RX5 7 "PlanetoidDesk$Row" "cells" "[I", Cond.methodLink RX7 260 yX7_keepFitting, Cond.instanceMethod yX7_keepFitting, Cond.selects RX7 yX7_keepFitting yX7_keepFitting, Cond.code yX7_keepFitting cX7_keepFitting 4 none, Cond.fieldLink RX7 26 "PlanetoidDesk" "looks" "LPlanetoidDesk$Looks;", Cond.fieldLink RX7 10 "PlanetoidDesk" "sky" "LPlanetoidDesk$Sky;", Cond.methodLink RX7 191 yX7_gatherLooks, Cond.instanceMethod yX7_gatherLooks, Cond.selects RX7 yX7_gatherLooks yX7_gatherLooks, Cond.code yX7_gatherLooks cX7_gatherLooks 3 none, Cond.methodLink RX7 248 yX0_isLook]
def wsL_chance_r3 : List Cond := [Cond.instanceMethod yX0_isLook, Cond.selects RX0 yX0_isLook yX0_isLook, Cond.initialized RX0, Cond.code yX0_isLook cX0_isLook 5 (some .boolean), Cond.fieldLink RX0 14 "PlanetoidDesk$Bodies" "owners" "LPlanetoidDesk$Row;", Cond.fieldLink RX0 20 "PlanetoidDesk$Bodies" "hosts" "LPlanetoidDesk$Row;", Cond.methodLink RX0 46 yX5_at, Cond.instanceMethod yX5_at, Cond.selects RX5 yX5_at yX5_at, Cond.code yX5_at cX5_at 2 (some .int), Cond.methodLink RX7 251 yX2_add, Cond.instanceMethod yX2_add, Cond.selects RX2 yX2_add yX2_add, Cond.initialized RX2, Cond.code yX2_add cX2_add 2 none, Cond.fieldLink RX2 14 "PlanetoidDesk$Looks" "dots" "LPlanetoidDesk$Row;", Cond.fieldLink RX2 20 "PlanetoidDesk$Looks" "count" "I", Cond.methodLink RX2 24 yX5_put, Cond.instanceMethod yX5_put, Cond.selects RX5 yX5_put yX5_put, Cond.code yX5_put cX5_put 3 none, Cond.methodLink RX7 254 yX2_dotAt, Cond.instanceMethod yX2_dotAt, Cond.selects RX2 yX2_dotAt yX2_dotAt]
def wsL_chance_r4 : List Cond := [Cond.code yX2_dotAt cX2_dotAt 2 (some .int), Cond.methodLink RX2 28 yX5_at, Cond.methodLink RX7 95 yX6_nightOf, Cond.instanceMethod yX6_nightOf, Cond.selects RX6 yX6_nightOf yX6_nightOf, Cond.initialized RX6, Cond.code yX6_nightOf cX6_nightOf 2 (some .int), Cond.fieldLink RX6 23 "PlanetoidDesk$Sky" "plateNights" "LPlanetoidDesk$Row;", Cond.fieldLink RX6 26 "PlanetoidDesk$Sky" "dotPlates" "LPlanetoidDesk$Row;", Cond.methodLink RX6 52 yX5_at, Cond.methodLink RX7 98 yX6_truePlaceOf, Cond.instanceMethod yX6_truePlaceOf, Cond.selects RX6 yX6_truePlaceOf yX6_truePlaceOf, Cond.code yX6_truePlaceOf cX6_truePlaceOf 3 (some .int), Cond.fieldLink RX6 29 "PlanetoidDesk$Sky" "dotPlaces" "LPlanetoidDesk$Row;", Cond.fieldLink RX6 35 "PlanetoidDesk$Sky" "shifts" "LPlanetoidDesk$Row;", Cond.methodLink RX6 56 yJ9_floorMod_7cf53, Cond.static yJ9_floorMod_7cf53, Cond.initialized RJ9, Cond.code yJ9_floorMod_7cf53 cJ9_floorMod_7cf53 3 (some .int), Cond.methodLink RX7 263 yX6_errorOf, Cond.instanceMethod yX6_errorOf, Cond.selects RX6 yX6_errorOf yX6_errorOf, Cond.code yX6_errorOf cX6_errorOf 2 (some .int)]
def wsL_chance_r5 : List Cond := [Cond.fieldLink RX6 14 "PlanetoidDesk$Sky" "errors" "LPlanetoidDesk$Row;", Cond.fieldLink RX6 20 "PlanetoidDesk$Sky" "plateObservatories" "LPlanetoidDesk$Row;", Cond.methodLink RX7 266 yX3_keepNear, Cond.instanceMethod yX3_keepNear, Cond.selects RX3 yX3_keepNear yX3_keepNear, Cond.code yX3_keepNear cX3_keepNear 9 none, Cond.static yX7_drift, Cond.code yX7_drift cX7_drift 2 (some .int), Cond.methodLink RX7 197 yX7_bOf, Cond.static yX7_bOf, Cond.code yX7_bOf cX7_bOf 1 (some .int), Cond.methodLink RX7 200 yX7_cOf, Cond.static yX7_cOf, Cond.code yX7_cOf cX7_cOf 1 (some .int), Cond.methodLink RX3 33 yJ9_floorMod_7cf53, Cond.methodLink RX3 38 yX5_at, Cond.methodLink RX3 42 yX3_behind, Cond.instanceMethod yX3_behind, Cond.selects RX3 yX3_behind yX3_behind, Cond.code yX3_behind cX3_behind 3 (some .int), Cond.methodLink RX3 45 yX3_sharedWidth, Cond.static yX3_sharedWidth, Cond.code yX3_sharedWidth cX3_sharedWidth 4 (some .int), Cond.methodLink RX3 53 Lib.Math.min.name]
def wsL_chance_r6 : List Cond := [Cond.static Lib.Math.min.name, Cond.initialized "java/lang/Math", Cond.code Lib.Math.min.name Lib.Math.min.code 2 (some .int), Cond.methodLink RX3 56 Lib.Math.max.name, Cond.static Lib.Math.max.name, Cond.code Lib.Math.max.name Lib.Math.max.code 2 (some .int), Cond.methodLink RX3 49 yX5_put, Cond.methodLink RX7 214 yX4_countPaths, Cond.instanceMethod yX4_countPaths, Cond.selects RX4 yX4_countPaths yX4_countPaths, Cond.initialized RX4, Cond.code yX4_countPaths cX4_countPaths 7 none, Cond.fieldLink RX4 26 "PlanetoidDesk$Paths" "all" "I", Cond.fieldLink RX4 30 "PlanetoidDesk$Paths" "near" "I", Cond.fieldLink RX4 23 "PlanetoidDesk$Paths" "lastGroupAt" "LPlanetoidDesk$Row;", Cond.fieldLink RX4 14 "PlanetoidDesk$Paths" "groupHeads" "LPlanetoidDesk$Row;", Cond.fieldLink RX4 20 "PlanetoidDesk$Paths" "nextInGroup" "LPlanetoidDesk$Row;", Cond.methodLink RX4 33 yX5_fill, Cond.methodLink RX4 36 yX4_makeGroups, Cond.instanceMethod yX4_makeGroups, Cond.selects RX4 yX4_makeGroups yX4_makeGroups, Cond.code yX4_makeGroups cX4_makeGroups 5 none, Cond.methodLink RX4 53 yX4_groupOf, Cond.static yX4_groupOf]
def wsL_chance_r7 : List Cond := [Cond.code yX4_groupOf cX4_groupOf 3 (some .int), Cond.methodLink RX4 64 yJ9_floorMod_7cf53, Cond.methodLink RX4 40 yX5_at, Cond.methodLink RX4 57 yX5_put, Cond.methodLink RX4 44 yX3_widthOf, Cond.instanceMethod yX3_widthOf, Cond.selects RX3 yX3_widthOf yX3_widthOf, Cond.code yX3_widthOf cX3_widthOf 2 (some .int), Cond.methodLink RX4 49 yX4_countCourse, Cond.instanceMethod yX4_countCourse, Cond.selects RX4 yX4_countCourse yX4_countCourse, Cond.code yX4_countCourse cX4_countCourse 11 none, Cond.methodLink RX4 69 yX3_startOf, Cond.instanceMethod yX3_startOf, Cond.selects RX3 yX3_startOf yX3_startOf, Cond.code yX3_startOf cX3_startOf 2 (some .int), Cond.methodLink RX4 72 yX4_nearBitsOf, Cond.static yX4_nearBitsOf, Cond.code yX4_nearBitsOf cX4_nearBitsOf 9 (some .long), Cond.static yX7_stretch, Cond.code yX7_stretch cX7_stretch 5 (some .long), Cond.methodLink RX7 224 yX7_greatestDivisor, Cond.static yX7_greatestDivisor, Cond.code yX7_greatestDivisor cX7_greatestDivisor 6 (some .int)]
def wsL_chance : List Cond := .codeWith yL_chance cL_chance 7 (some .int) [(0, 14, 17, 21), (0, 14, 21, 13)] :: ((wsL_chance_r1 ++ (wsL_chance_r2 ++ (wsL_chance_r3 ++ (wsL_chance_r4 ++ (wsL_chance_r5 ++ (wsL_chance_r6 ++ wsL_chance_r7)))))) ++ wsX70 ++ wsX00 ++ wsX40 ++ wsX30 ++ wsX50 ++ wsX20 ++ wsX60 ++ (vx_atS RX7 245 "java/lang/IndexOutOfBoundsException" ["java/lang/RuntimeException", "java/lang/Exception"]).filter goodWord ++ (vx_atS RX7 210 "java/lang/IllegalArgumentException" ["java/lang/RuntimeException", "java/lang/Exception"]).filter goodWord)
def wsL_families_r1 : List Cond := [Cond.classLink RL 13 "java/lang/IllegalArgumentException", Cond.methodLink RL 76 yX7_families, Cond.instanceMethod yX7_families, Cond.selects RX7 yX7_families yX7_families, Cond.initialized RX7, Cond.code yX7_families cX7_families 4 (some .int), Cond.fieldLink RX7 47 "PlanetoidDesk" "kinship" "LPlanetoidDesk$Kinship;", Cond.fieldLink RX7 19 "PlanetoidDesk" "bodies" "LPlanetoidDesk$Bodies;", Cond.methodLink RX7 51 yX7_needWithin, Cond.static yX7_needWithin, Cond.code yX7_needWithin cX7_needWithin 3 none, Cond.classLink RX7 206 "java/lang/IllegalArgumentException", Cond.initialized "java/lang/IllegalArgumentException", Cond.methodLink RX7 227 yX1_findFamilies, Cond.instanceMethod yX1_findFamilies, Cond.selects RX1 yX1_findFamilies yX1_findFamilies, Cond.initialized RX1, Cond.code yX1_findFamilies cX1_findFamilies 4 none, Cond.fieldLink RX1 14 "PlanetoidDesk$Kinship" "lowestNumbers" "LPlanetoidDesk$Row;", Cond.methodLink RX1 30 yX0_numberOf, Cond.instanceMethod yX0_numberOf, Cond.selects RX0 yX0_numberOf yX0_numberOf, Cond.initialized RX0, Cond.code yX0_numberOf cX0_numberOf 2 (some .int)]
def wsL_families_r2 : List Cond := [Cond.fieldLink RX0 26 "PlanetoidDesk$Bodies" "numbers" "LPlanetoidDesk$Row;", Cond.methodLink RX0 46 yX5_at, Cond.instanceMethod yX5_at, Cond.selects RX5 yX5_at yX5_at, Cond.initialized RX5, Cond.code yX5_at cX5_at 2 (some .int), Cond.fieldLink RX5 7 "PlanetoidDesk$Row" "cells" "[I", Cond.methodLink RX1 33 yX5_put, Cond.instanceMethod yX5_put, Cond.selects RX5 yX5_put yX5_put, Cond.code yX5_put cX5_put 3 none, Cond.methodLink RX1 37 yX1_spreadLowest, Cond.instanceMethod yX1_spreadLowest, Cond.selects RX1 yX1_spreadLowest yX1_spreadLowest, Cond.code yX1_spreadLowest cX1_spreadLowest 6 none, Cond.methodLink RX1 45 Lib.Math.min.name, Cond.static Lib.Math.min.name, Cond.initialized "java/lang/Math", Cond.code Lib.Math.min.name Lib.Math.min.code 2 (some .int), Cond.methodLink RX1 41 yX1_areAkin, Cond.static yX1_areAkin, Cond.code yX1_areAkin cX1_areAkin 8 (some .boolean), Cond.methodLink RX1 57 Lib.Math.abs.name, Cond.static Lib.Math.abs.name]
def wsL_families_r3 : List Cond := [Cond.code Lib.Math.abs.name Lib.Math.abs.code 1 (some .int), Cond.methodLink RX1 51 yX0_properCourseOf, Cond.instanceMethod yX0_properCourseOf, Cond.selects RX0 yX0_properCourseOf yX0_properCourseOf, Cond.code yX0_properCourseOf cX0_properCourseOf 2 (some .int), Cond.fieldLink RX0 29 "PlanetoidDesk$Bodies" "properCourses" "LPlanetoidDesk$Row;", Cond.static yX7_bOf, Cond.code yX7_bOf cX7_bOf 1 (some .int), Cond.static yX7_cOf, Cond.code yX7_cOf cX7_cOf 1 (some .int), Cond.methodLink RX1 20 yX5_at, Cond.methodLink RX7 181 yX0_numberOf, Cond.methodLink RX7 231 yX1_lowestNumberWith, Cond.instanceMethod yX1_lowestNumberWith, Cond.selects RX1 yX1_lowestNumberWith yX1_lowestNumberWith, Cond.code yX1_lowestNumberWith cX1_lowestNumberWith 2 (some .int)]
def wsL_families : List Cond := .codeWith yL_families cL_families 4 (some .int) [(0, 9, 12, 13)] :: ((wsL_families_r1 ++ (wsL_families_r2 ++ wsL_families_r3)) ++ wsX70 ++ wsX00 ++ wsX10 ++ wsX50 ++ (vx_atS RX7 210 "java/lang/IllegalArgumentException" ["java/lang/RuntimeException", "java/lang/Exception"]).filter goodWord)
def wsL_family_r1 : List Cond := [Cond.classLink RL 21 "java/lang/IndexOutOfBoundsException", Cond.classLink RL 13 "java/lang/IllegalArgumentException", Cond.methodLink RL 79 yX7_family, Cond.instanceMethod yX7_family, Cond.selects RX7 yX7_family yX7_family, Cond.initialized RX7, Cond.code yX7_family cX7_family 3 (some .int), Cond.fieldLink RX7 19 "PlanetoidDesk" "bodies" "LPlanetoidDesk$Bodies;", Cond.fieldLink RX7 47 "PlanetoidDesk" "kinship" "LPlanetoidDesk$Kinship;", Cond.methodLink RX7 70 yX7_needOneOf, Cond.static yX7_needOneOf, Cond.code yX7_needOneOf cX7_needOneOf 2 none, Cond.classLink RX7 241 "java/lang/IndexOutOfBoundsException", Cond.initialized "java/lang/IndexOutOfBoundsException", Cond.methodLink RX7 51 yX7_needWithin, Cond.static yX7_needWithin, Cond.code yX7_needWithin cX7_needWithin 3 none, Cond.classLink RX7 206 "java/lang/IllegalArgumentException", Cond.initialized "java/lang/IllegalArgumentException", Cond.methodLink RX7 181 yX0_numberOf, Cond.instanceMethod yX0_numberOf, Cond.selects RX0 yX0_numberOf yX0_numberOf, Cond.initialized RX0, Cond.code yX0_numberOf cX0_numberOf 2 (some .int)]
def wsL_family_r2 : List Cond := [Cond.fieldLink RX0 26 "PlanetoidDesk$Bodies" "numbers" "LPlanetoidDesk$Row;", Cond.methodLink RX0 46 yX5_at, Cond.instanceMethod yX5_at, Cond.selects RX5 yX5_at yX5_at, Cond.initialized RX5, Cond.code yX5_at cX5_at 2 (some .int), Cond.fieldLink RX5 7 "PlanetoidDesk$Row" "cells" "[I", Cond.methodLink RX7 227 yX1_findFamilies, Cond.instanceMethod yX1_findFamilies, Cond.selects RX1 yX1_findFamilies yX1_findFamilies, Cond.initialized RX1, Cond.code yX1_findFamilies cX1_findFamilies 4 none, Cond.fieldLink RX1 14 "PlanetoidDesk$Kinship" "lowestNumbers" "LPlanetoidDesk$Row;", Cond.methodLink RX1 30 yX0_numberOf, Cond.methodLink RX1 33 yX5_put, Cond.instanceMethod yX5_put, Cond.selects RX5 yX5_put yX5_put, Cond.code yX5_put cX5_put 3 none, Cond.methodLink RX1 37 yX1_spreadLowest, Cond.instanceMethod yX1_spreadLowest, Cond.selects RX1 yX1_spreadLowest yX1_spreadLowest, Cond.code yX1_spreadLowest cX1_spreadLowest 6 none, Cond.methodLink RX1 45 Lib.Math.min.name, Cond.static Lib.Math.min.name]
def wsL_family_r3 : List Cond := [Cond.initialized "java/lang/Math", Cond.code Lib.Math.min.name Lib.Math.min.code 2 (some .int), Cond.methodLink RX1 41 yX1_areAkin, Cond.static yX1_areAkin, Cond.code yX1_areAkin cX1_areAkin 8 (some .boolean), Cond.methodLink RX1 57 Lib.Math.abs.name, Cond.static Lib.Math.abs.name, Cond.code Lib.Math.abs.name Lib.Math.abs.code 1 (some .int), Cond.methodLink RX1 51 yX0_properCourseOf, Cond.instanceMethod yX0_properCourseOf, Cond.selects RX0 yX0_properCourseOf yX0_properCourseOf, Cond.code yX0_properCourseOf cX0_properCourseOf 2 (some .int), Cond.fieldLink RX0 29 "PlanetoidDesk$Bodies" "properCourses" "LPlanetoidDesk$Row;", Cond.static yX7_bOf, Cond.code yX7_bOf cX7_bOf 1 (some .int), Cond.static yX7_cOf, Cond.code yX7_cOf cX7_cOf 1 (some .int), Cond.methodLink RX1 20 yX5_at, Cond.methodLink RX7 231 yX1_lowestNumberWith, Cond.instanceMethod yX1_lowestNumberWith, Cond.selects RX1 yX1_lowestNumberWith yX1_lowestNumberWith, Cond.code yX1_lowestNumberWith cX1_lowestNumberWith 2 (some .int), Cond.methodLink RX7 234 yX0_withNumber, Cond.instanceMethod yX0_withNumber]
def wsL_family_r4 : List Cond := [Cond.selects RX0 yX0_withNumber yX0_withNumber, Cond.code yX0_withNumber cX0_withNumber 3 (some .int), Cond.fieldLink RX0 35 "PlanetoidDesk$Bodies" "count" "I"]
def wsL_family : List Cond := .codeWith yL_family cL_family 5 (some .int) [(0, 10, 13, 21), (0, 10, 17, 13)] :: ((wsL_family_r1 ++ (wsL_family_r2 ++ (wsL_family_r3 ++ wsL_family_r4))) ++ wsX70 ++ wsX00 ++ wsX50 ++ wsX10 ++ (vx_atS RX7 245 "java/lang/IndexOutOfBoundsException" ["java/lang/RuntimeException", "java/lang/Exception"]).filter goodWord ++ (vx_atS RX7 210 "java/lang/IllegalArgumentException" ["java/lang/RuntimeException", "java/lang/Exception"]).filter goodWord)
def wsL_turn_r1 : List Cond := [Cond.classLink RL 21 "java/lang/IndexOutOfBoundsException", Cond.methodLink RL 82 yX7_turn, Cond.instanceMethod yX7_turn, Cond.selects RX7 yX7_turn yX7_turn, Cond.initialized RX7, Cond.code yX7_turn cX7_turn 7 (some .int), Cond.fieldLink RX7 19 "PlanetoidDesk" "bodies" "LPlanetoidDesk$Bodies;", Cond.fieldLink RX7 26 "PlanetoidDesk" "looks" "LPlanetoidDesk$Looks;", Cond.methodLink RX7 70 yX7_needOneOf, Cond.static yX7_needOneOf, Cond.code yX7_needOneOf cX7_needOneOf 2 none, Cond.classLink RX7 241 "java/lang/IndexOutOfBoundsException", Cond.initialized "java/lang/IndexOutOfBoundsException", Cond.methodLink RX7 191 yX7_gatherLooks, Cond.instanceMethod yX7_gatherLooks, Cond.selects RX7 yX7_gatherLooks yX7_gatherLooks, Cond.code yX7_gatherLooks cX7_gatherLooks 3 none, Cond.fieldLink RX7 10 "PlanetoidDesk" "sky" "LPlanetoidDesk$Sky;", Cond.methodLink RX7 248 yX0_isLook, Cond.instanceMethod yX0_isLook, Cond.selects RX0 yX0_isLook yX0_isLook, Cond.initialized RX0, Cond.code yX0_isLook cX0_isLook 5 (some .boolean), Cond.fieldLink RX0 14 "PlanetoidDesk$Bodies" "owners" "LPlanetoidDesk$Row;"]
def wsL_turn_r2 : List Cond := [Cond.fieldLink RX0 20 "PlanetoidDesk$Bodies" "hosts" "LPlanetoidDesk$Row;", Cond.methodLink RX0 46 yX5_at, Cond.instanceMethod yX5_at, Cond.selects RX5 yX5_at yX5_at, Cond.initialized RX5, Cond.code yX5_at cX5_at 2 (some .int), Cond.fieldLink RX5 7 "PlanetoidDesk$Row" "cells" "[I", Cond.methodLink RX7 251 yX2_add, Cond.instanceMethod yX2_add, Cond.selects RX2 yX2_add yX2_add, Cond.initialized RX2, Cond.code yX2_add cX2_add 2 none, Cond.fieldLink RX2 14 "PlanetoidDesk$Looks" "dots" "LPlanetoidDesk$Row;", Cond.fieldLink RX2 20 "PlanetoidDesk$Looks" "count" "I", Cond.methodLink RX2 24 yX5_put, Cond.instanceMethod yX5_put, Cond.selects RX5 yX5_put yX5_put, Cond.code yX5_put cX5_put 3 none, Cond.methodLink RX7 238 yX7_faultOf, Cond.instanceMethod yX7_faultOf, Cond.selects RX7 yX7_faultOf yX7_faultOf, Cond.code yX7_faultOf cX7_faultOf 4 (some .int), Cond.methodLink RX7 317 yX7_lightRange, Cond.instanceMethod yX7_lightRange]
def wsL_turn_r3 : List Cond := [Cond.selects RX7 yX7_lightRange yX7_lightRange, Cond.code yX7_lightRange cX7_lightRange 7 (some .int), Cond.methodLink RX7 288 Lib.Math.min.name, Cond.static Lib.Math.min.name, Cond.initialized "java/lang/Math", Cond.code Lib.Math.min.name Lib.Math.min.code 2 (some .int), Cond.methodLink RX7 293 Lib.Math.max.name, Cond.static Lib.Math.max.name, Cond.code Lib.Math.max.name Lib.Math.max.code 2 (some .int), Cond.methodLink RX7 254 yX2_dotAt, Cond.instanceMethod yX2_dotAt, Cond.selects RX2 yX2_dotAt yX2_dotAt, Cond.code yX2_dotAt cX2_dotAt 2 (some .int), Cond.methodLink RX2 28 yX5_at, Cond.methodLink RX7 95 yX6_nightOf, Cond.instanceMethod yX6_nightOf, Cond.selects RX6 yX6_nightOf yX6_nightOf, Cond.initialized RX6, Cond.code yX6_nightOf cX6_nightOf 2 (some .int), Cond.fieldLink RX6 23 "PlanetoidDesk$Sky" "plateNights" "LPlanetoidDesk$Row;", Cond.fieldLink RX6 26 "PlanetoidDesk$Sky" "dotPlates" "LPlanetoidDesk$Row;", Cond.methodLink RX6 52 yX5_at, Cond.methodLink RX7 101 yX6_lightOf, Cond.instanceMethod yX6_lightOf]
def wsL_turn_r4 : List Cond := [Cond.selects RX6 yX6_lightOf yX6_lightOf, Cond.code yX6_lightOf cX6_lightOf 2 (some .int), Cond.fieldLink RX6 32 "PlanetoidDesk$Sky" "dotLights" "LPlanetoidDesk$Row;"]
def wsL_turn : List Cond := .codeWith yL_turn cL_turn 5 (some .int) [(0, 10, 13, 21)] :: ((wsL_turn_r1 ++ (wsL_turn_r2 ++ (wsL_turn_r3 ++ wsL_turn_r4))) ++ wsX70 ++ wsX00 ++ wsX20 ++ wsX60 ++ wsX50 ++ (vx_atS RX7 245 "java/lang/IndexOutOfBoundsException" ["java/lang/RuntimeException", "java/lang/Exception"]).filter goodWord)
def wsL_law0_r1 : List Cond := [Cond.classLink RL 8 RX7, Cond.instantiable RX7 6, Cond.initialized RX7, Cond.classLink RL 87 RX8, Cond.instantiable RX8 32, Cond.initialized RX8, Cond.arrayClass .long, Cond.methodLink RL 86 yX7_init, Cond.instanceMethod yX7_init, Cond.code yX7_init cX7_init 1 none, Cond.methodLink RX7 1 objectInit, Cond.instanceMethod objectInit, Cond.code objectInit ⟨#[0xb1]⟩ 1 none, Cond.classLink RX7 7 RX6, Cond.instantiable RX6 10, Cond.initialized RX6, Cond.fieldLink RX7 10 "PlanetoidDesk" "sky" "LPlanetoidDesk$Sky;", Cond.classLink RX7 16 RX0, Cond.instantiable RX0 8, Cond.initialized RX0, Cond.fieldLink RX7 19 "PlanetoidDesk" "bodies" "LPlanetoidDesk$Bodies;", Cond.classLink RX7 23 RX2, Cond.instantiable RX2 2, Cond.initialized RX2]
def wsL_law0_r2 : List Cond := [Cond.fieldLink RX7 26 "PlanetoidDesk" "looks" "LPlanetoidDesk$Looks;", Cond.classLink RX7 30 RX3, Cond.instantiable RX3 3, Cond.initialized RX3, Cond.fieldLink RX7 33 "PlanetoidDesk" "fitting" "LPlanetoidDesk$Orbits;", Cond.classLink RX7 37 RX4, Cond.instantiable RX4 5, Cond.initialized RX4, Cond.fieldLink RX7 40 "PlanetoidDesk" "paths" "LPlanetoidDesk$Paths;", Cond.classLink RX7 44 RX1, Cond.instantiable RX1 1, Cond.initialized RX1, Cond.fieldLink RX7 47 "PlanetoidDesk" "kinship" "LPlanetoidDesk$Kinship;", Cond.instanceMethod yX6_init, Cond.code yX6_init cX6_init 1 none, Cond.methodLink RX6 3 objectInit, Cond.classLink RX6 9 RX5, Cond.instantiable RX5 1, Cond.initialized RX5, Cond.fieldLink RX6 14 "PlanetoidDesk$Sky" "errors" "LPlanetoidDesk$Row;", Cond.fieldLink RX6 20 "PlanetoidDesk$Sky" "plateObservatories" "LPlanetoidDesk$Row;", Cond.fieldLink RX6 23 "PlanetoidDesk$Sky" "plateNights" "LPlanetoidDesk$Row;", Cond.fieldLink RX6 26 "PlanetoidDesk$Sky" "dotPlates" "LPlanetoidDesk$Row;", Cond.fieldLink RX6 29 "PlanetoidDesk$Sky" "dotPlaces" "LPlanetoidDesk$Row;"]
def wsL_law0_r3 : List Cond := [Cond.fieldLink RX6 32 "PlanetoidDesk$Sky" "dotLights" "LPlanetoidDesk$Row;", Cond.fieldLink RX6 35 "PlanetoidDesk$Sky" "shifts" "LPlanetoidDesk$Row;", Cond.methodLink RX6 11 yX5_init, Cond.instanceMethod yX5_init, Cond.code yX5_init cX5_init 2 none, Cond.methodLink RX5 1 objectInit, Cond.arrayClass .int, Cond.fieldLink RX5 7 "PlanetoidDesk$Row" "cells" "[I", Cond.methodLink RX7 18 yX0_init, Cond.instanceMethod yX0_init, Cond.code yX0_init cX0_init 1 none, Cond.methodLink RX0 3 objectInit, Cond.classLink RX0 9 RX5, Cond.fieldLink RX0 14 "PlanetoidDesk$Bodies" "owners" "LPlanetoidDesk$Row;", Cond.fieldLink RX0 20 "PlanetoidDesk$Bodies" "hosts" "LPlanetoidDesk$Row;", Cond.fieldLink RX0 23 "PlanetoidDesk$Bodies" "joinTimes" "LPlanetoidDesk$Row;", Cond.fieldLink RX0 26 "PlanetoidDesk$Bodies" "numbers" "LPlanetoidDesk$Row;", Cond.fieldLink RX0 29 "PlanetoidDesk$Bodies" "properCourses" "LPlanetoidDesk$Row;", Cond.methodLink RX0 11 yX5_init, Cond.methodLink RX0 32 yX5_fill, Cond.instanceMethod yX5_fill, Cond.selects RX5 yX5_fill yX5_fill, Cond.code yX5_fill cX5_fill 3 none, Cond.instanceMethod yX2_init]
def wsL_law0_r4 : List Cond := [Cond.code yX2_init cX2_init 1 none, Cond.methodLink RX2 3 objectInit, Cond.classLink RX2 9 RX5, Cond.fieldLink RX2 14 "PlanetoidDesk$Looks" "dots" "LPlanetoidDesk$Row;", Cond.methodLink RX2 11 yX5_init, Cond.instanceMethod yX3_init, Cond.code yX3_init cX3_init 1 none, Cond.methodLink RX3 3 objectInit, Cond.classLink RX3 9 RX5, Cond.fieldLink RX3 14 "PlanetoidDesk$Orbits" "starts" "LPlanetoidDesk$Row;", Cond.fieldLink RX3 20 "PlanetoidDesk$Orbits" "widths" "LPlanetoidDesk$Row;", Cond.fieldLink RX3 23 "PlanetoidDesk$Orbits" "tallies" "LPlanetoidDesk$Row;", Cond.methodLink RX3 11 yX5_init, Cond.instanceMethod yX4_init, Cond.code yX4_init cX4_init 1 none, Cond.methodLink RX4 3 objectInit, Cond.classLink RX4 9 RX5, Cond.fieldLink RX4 14 "PlanetoidDesk$Paths" "groupHeads" "LPlanetoidDesk$Row;", Cond.fieldLink RX4 20 "PlanetoidDesk$Paths" "nextInGroup" "LPlanetoidDesk$Row;", Cond.fieldLink RX4 23 "PlanetoidDesk$Paths" "lastGroupAt" "LPlanetoidDesk$Row;", Cond.methodLink RX4 11 yX5_init, Cond.instanceMethod yX1_init, Cond.code yX1_init cX1_init 1 none, Cond.methodLink RX1 3 objectInit]
def wsL_law0_r5 : List Cond := [Cond.classLink RX1 9 RX5, Cond.fieldLink RX1 14 "PlanetoidDesk$Kinship" "lowestNumbers" "LPlanetoidDesk$Row;", Cond.methodLink RX1 11 yX5_init, Cond.methodLink RL 89 yX8_init, Cond.instanceMethod yX8_init, Cond.code yX8_init cX8_init 1 none, Cond.methodLink RX8 1 objectInit, Cond.fieldLink RX8 7 "PlanetoidDeskModel" "shift" "[I", Cond.fieldLink RX8 13 "PlanetoidDeskModel" "error" "[I", Cond.fieldLink RX8 16 "PlanetoidDeskModel" "seat" "[I", Cond.fieldLink RX8 19 "PlanetoidDeskModel" "night" "[I", Cond.fieldLink RX8 22 "PlanetoidDeskModel" "plateOf" "[I", Cond.fieldLink RX8 25 "PlanetoidDeskModel" "measured" "[I", Cond.fieldLink RX8 28 "PlanetoidDeskModel" "light" "[I", Cond.fieldLink RX8 31 "PlanetoidDeskModel" "own" "[I", Cond.fieldLink RX8 34 "PlanetoidDeskModel" "above" "[I", Cond.fieldLink RX8 37 "PlanetoidDeskModel" "joinedAt" "[I", Cond.fieldLink RX8 40 "PlanetoidDeskModel" "numberOf" "[I", Cond.fieldLink RX8 43 "PlanetoidDeskModel" "properB" "[I", Cond.fieldLink RX8 46 "PlanetoidDeskModel" "properC" "[I", Cond.fieldLink RX8 49 "PlanetoidDeskModel" "look" "[I", Cond.fieldLink RX8 52 "PlanetoidDeskModel" "key" "[I", Cond.fieldLink RX8 55 "PlanetoidDeskModel" "often" "[I", Cond.fieldLink RX8 58 "PlanetoidDeskModel" "head" "[I"]
def wsL_law0_r6 : List Cond := [Cond.fieldLink RX8 61 "PlanetoidDeskModel" "next" "[I", Cond.fieldLink RX8 64 "PlanetoidDeskModel" "way" "[I", Cond.arrayClass .boolean, Cond.fieldLink RX8 67 "PlanetoidDeskModel" "comes" "[Z", Cond.fieldLink RX8 71 "PlanetoidDeskModel" "least" "[I", Cond.fieldLink RX8 74 "PlanetoidDeskModel" "most" "[I", Cond.fieldLink RX8 77 "PlanetoidDeskModel" "reached" "[I", Cond.methodLink RL 90 yL_observatory, Cond.static yL_observatory, Cond.initialized RL, Cond.codeWith yL_observatory cL_observatory 4 (some .int) [(0, 9, 12, 13), (0, 9, 15, 15)], Cond.classLink RL 13 "java/lang/IllegalArgumentException", Cond.classLink RL 15 "java/lang/IllegalStateException", Cond.methodLink RL 7 yX7_observatory, Cond.instanceMethod yX7_observatory, Cond.selects RX7 yX7_observatory yX7_observatory, Cond.code yX7_observatory cX7_observatory 2 (some .int), Cond.classLink RX7 59 "java/lang/IllegalStateException", Cond.initialized "java/lang/IllegalStateException", Cond.methodLink RX7 51 yX7_needWithin, Cond.static yX7_needWithin, Cond.code yX7_needWithin cX7_needWithin 3 none, Cond.classLink RX7 206 "java/lang/IllegalArgumentException", Cond.initialized "java/lang/IllegalArgumentException"]
def wsL_law0_r7 : List Cond := [Cond.methodLink RX7 66 yX6_addObservatory, Cond.instanceMethod yX6_addObservatory, Cond.selects RX6 yX6_addObservatory yX6_addObservatory, Cond.code yX6_addObservatory cX6_addObservatory 2 (some .int), Cond.fieldLink RX6 38 "PlanetoidDesk$Sky" "observatoryCount" "I", Cond.methodLink RX6 42 yX5_put, Cond.instanceMethod yX5_put, Cond.selects RX5 yX5_put yX5_put, Cond.code yX5_put cX5_put 3 none, Cond.methodLink RL 95 yX8_observatory, Cond.instanceMethod yX8_observatory, Cond.selects RX8 yX8_observatory yX8_observatory, Cond.code yX8_observatory cX8_observatory 2 (some .int), Cond.fieldLink RX8 98 "PlanetoidDeskModel" "observatories" "I", Cond.methodLink RX8 88 yX8_isIn, Cond.static yX8_isIn, Cond.code yX8_isIn cX8_isIn 3 (some .boolean), Cond.methodLink RX8 101 yX8_can, Cond.instanceMethod yX8_can, Cond.selects RX8 yX8_can yX8_can, Cond.code yX8_can cX8_can 2 (some .boolean), Cond.fieldLink RX8 80 "PlanetoidDeskModel" "thrown" "I", Cond.methodLink RL 96 yX8_thrown, Cond.instanceMethod yX8_thrown]
def wsL_law0_r8 : List Cond := [Cond.selects RX8 yX8_thrown yX8_thrown, Cond.code yX8_thrown cX8_thrown 1 (some .int), Cond.methodLink RL 100 yL_plate, Cond.static yL_plate, Cond.codeWith yL_plate cL_plate 5 (some .int) [(0, 10, 13, 21), (0, 10, 17, 13), (0, 10, 21, 15)], Cond.classLink RL 21 "java/lang/IndexOutOfBoundsException", Cond.methodLink RL 17 yX7_plate, Cond.instanceMethod yX7_plate, Cond.selects RX7 yX7_plate yX7_plate, Cond.code yX7_plate cX7_plate 3 (some .int), Cond.methodLink RX7 70 yX7_needOneOf, Cond.static yX7_needOneOf, Cond.code yX7_needOneOf cX7_needOneOf 2 none, Cond.classLink RX7 241 "java/lang/IndexOutOfBoundsException", Cond.initialized "java/lang/IndexOutOfBoundsException", Cond.methodLink RX7 79 yX6_addPlate, Cond.instanceMethod yX6_addPlate, Cond.selects RX6 yX6_addPlate yX6_addPlate, Cond.code yX6_addPlate cX6_addPlate 3 (some .int), Cond.fieldLink RX6 46 "PlanetoidDesk$Sky" "plateCount" "I", Cond.methodLink RL 103 yX8_plate, Cond.instanceMethod yX8_plate, Cond.selects RX8 yX8_plate yX8_plate, Cond.code yX8_plate cX8_plate 4 (some .int)]
def wsL_law0_r9 : List Cond := [Cond.fieldLink RX8 108 "PlanetoidDeskModel" "plates" "I", Cond.methodLink RX8 105 yX8_isNight, Cond.static yX8_isNight, Cond.code yX8_isNight cX8_isNight 1 (some .boolean), Cond.methodLink RL 104 yL_dot, Cond.static yL_dot, Cond.codeWith yL_dot cL_dot 6 (some .int) [(0, 12, 15, 21), (0, 12, 19, 13), (0, 12, 23, 15)], Cond.methodLink RL 23 yX7_dot, Cond.instanceMethod yX7_dot, Cond.selects RX7 yX7_dot yX7_dot, Cond.code yX7_dot cX7_dot 4 (some .int), Cond.methodLink RX7 88 yX6_addDot, Cond.instanceMethod yX6_addDot, Cond.selects RX6 yX6_addDot yX6_addDot, Cond.code yX6_addDot cX6_addDot 4 (some .int), Cond.fieldLink RX6 49 "PlanetoidDesk$Sky" "dotCount" "I", Cond.methodLink RL 107 yX8_dot, Cond.instanceMethod yX8_dot, Cond.selects RX8 yX8_dot yX8_dot, Cond.code yX8_dot cX8_dot 6 (some .int), Cond.fieldLink RX8 92 "PlanetoidDeskModel" "dots" "I", Cond.methodLink RL 108 yL_shift, Cond.static yL_shift, Cond.codeWith yL_shift cL_shift 5 (some .int) [(0, 10, 13, 21), (0, 10, 17, 13)]]
def wsL_law0_r10 : List Cond := [Cond.methodLink RL 27 yX7_shift, Cond.instanceMethod yX7_shift, Cond.selects RX7 yX7_shift yX7_shift, Cond.code yX7_shift cX7_shift 3 (some .int), Cond.methodLink RX7 92 yX6_replaceShift, Cond.instanceMethod yX6_replaceShift, Cond.selects RX6 yX6_replaceShift yX6_replaceShift, Cond.code yX6_replaceShift cX6_replaceShift 4 (some .int), Cond.methodLink RX6 52 yX5_at, Cond.instanceMethod yX5_at, Cond.selects RX5 yX5_at yX5_at, Cond.code yX5_at cX5_at 2 (some .int), Cond.methodLink RL 110 yX8_shift, Cond.instanceMethod yX8_shift, Cond.selects RX8 yX8_shift yX8_shift, Cond.code yX8_shift cX8_shift 4 (some .int), Cond.methodLink RL 111 yL_ofDot, Cond.static yL_ofDot, Cond.codeWith yL_ofDot cL_ofDot 5 (some .int) [(0, 10, 13, 21), (0, 10, 17, 13)], Cond.methodLink RL 30 yX7_ofDot, Cond.instanceMethod yX7_ofDot, Cond.selects RX7 yX7_ofDot yX7_ofDot, Cond.code yX7_ofDot cX7_ofDot 3 (some .int), Cond.methodLink RX7 95 yX6_nightOf]
def wsL_law0_r11 : List Cond := [Cond.instanceMethod yX6_nightOf, Cond.selects RX6 yX6_nightOf yX6_nightOf, Cond.code yX6_nightOf cX6_nightOf 2 (some .int), Cond.methodLink RX7 98 yX6_truePlaceOf, Cond.instanceMethod yX6_truePlaceOf, Cond.selects RX6 yX6_truePlaceOf yX6_truePlaceOf, Cond.code yX6_truePlaceOf cX6_truePlaceOf 3 (some .int), Cond.methodLink RX6 56 yJ9_floorMod_7cf53, Cond.static yJ9_floorMod_7cf53, Cond.initialized RJ9, Cond.code yJ9_floorMod_7cf53 cJ9_floorMod_7cf53 3 (some .int), Cond.methodLink RX7 101 yX6_lightOf, Cond.instanceMethod yX6_lightOf, Cond.selects RX6 yX6_lightOf yX6_lightOf, Cond.code yX6_lightOf cX6_lightOf 2 (some .int), Cond.methodLink RX7 104 yX0_ownerOf, Cond.instanceMethod yX0_ownerOf, Cond.selects RX0 yX0_ownerOf yX0_ownerOf, Cond.code yX0_ownerOf cX0_ownerOf 2 (some .int), Cond.methodLink RX0 46 yX5_at, Cond.methodLink RL 113 yX8_ofDot, Cond.instanceMethod yX8_ofDot, Cond.selects RX8 yX8_ofDot yX8_ofDot, Cond.code yX8_ofDot cX8_ofDot 3 (some .int)]
def wsL_law0_r12 : List Cond := [Cond.methodLink RX8 114 yX8_isDot, Cond.instanceMethod yX8_isDot, Cond.selects RX8 yX8_isDot yX8_isDot, Cond.code yX8_isDot cX8_isDot 2 (some .boolean), Cond.methodLink RX8 117 yX8_nightOf, Cond.instanceMethod yX8_nightOf, Cond.selects RX8 yX8_nightOf yX8_nightOf, Cond.code yX8_nightOf cX8_nightOf 2 (some .int), Cond.methodLink RX8 120 yX8_trueOf, Cond.instanceMethod yX8_trueOf, Cond.selects RX8 yX8_trueOf yX8_trueOf, Cond.code yX8_trueOf cX8_trueOf 2 (some .int), Cond.methodLink RX8 111 yX8_round, Cond.static yX8_round, Cond.code yX8_round cX8_round 2 (some .int), Cond.methodLink RL 114 yL_body, Cond.static yL_body, Cond.codeWith yL_body cL_body 4 (some .int) [(0, 9, 12, 21), (0, 9, 15, 15)], Cond.methodLink RL 33 yX7_body, Cond.instanceMethod yX7_body, Cond.selects RX7 yX7_body yX7_body, Cond.code yX7_body cX7_body 2 (some .int), Cond.methodLink RX7 107 yX0_isUnlinked, Cond.instanceMethod yX0_isUnlinked]
def wsL_law0_r13 : List Cond := [Cond.selects RX0 yX0_isUnlinked yX0_isUnlinked, Cond.code yX0_isUnlinked cX0_isUnlinked 2 (some .boolean), Cond.methodLink RX7 118 yX0_addBody, Cond.instanceMethod yX0_addBody, Cond.selects RX0 yX0_addBody yX0_addBody, Cond.code yX0_addBody cX0_addBody 2 (some .int), Cond.fieldLink RX0 35 "PlanetoidDesk$Bodies" "count" "I", Cond.methodLink RX0 39 yX0_own, Cond.instanceMethod yX0_own, Cond.selects RX0 yX0_own yX0_own, Cond.code yX0_own cX0_own 3 none, Cond.methodLink RX0 43 yX5_put, Cond.methodLink RL 116 yX8_body, Cond.instanceMethod yX8_body, Cond.selects RX8 yX8_body yX8_body, Cond.code yX8_body cX8_body 3 (some .int), Cond.fieldLink RX8 95 "PlanetoidDeskModel" "bodies" "I", Cond.methodLink RL 117 yL_link, Cond.static yL_link, Cond.codeWith yL_link cL_link 5 (some .int) [(0, 10, 13, 21), (0, 10, 17, 15)], Cond.methodLink RL 36 yX7_link, Cond.instanceMethod yX7_link, Cond.selects RX7 yX7_link yX7_link, Cond.code yX7_link cX7_link 3 (some .int)]
def wsL_law0_r14 : List Cond := [Cond.methodLink RX7 121 yX7_findOrbits, Cond.instanceMethod yX7_findOrbits, Cond.selects RX7 yX7_findOrbits yX7_findOrbits, Cond.code yX7_findOrbits cX7_findOrbits 2 none, Cond.methodLink RX7 257 yX3_takeAll, Cond.instanceMethod yX3_takeAll, Cond.selects RX3 yX3_takeAll yX3_takeAll, Cond.code yX3_takeAll cX3_takeAll 1 none, Cond.methodLink RX3 26 yX5_fill, Cond.methodLink RX7 260 yX7_keepFitting, Cond.instanceMethod yX7_keepFitting, Cond.selects RX7 yX7_keepFitting yX7_keepFitting, Cond.code yX7_keepFitting cX7_keepFitting 4 none, Cond.methodLink RX7 191 yX7_gatherLooks, Cond.instanceMethod yX7_gatherLooks, Cond.selects RX7 yX7_gatherLooks yX7_gatherLooks, Cond.code yX7_gatherLooks cX7_gatherLooks 3 none, Cond.methodLink RX7 248 yX0_isLook, Cond.instanceMethod yX0_isLook, Cond.selects RX0 yX0_isLook yX0_isLook, Cond.code yX0_isLook cX0_isLook 5 (some .boolean), Cond.methodLink RX7 251 yX2_add, Cond.instanceMethod yX2_add, Cond.selects RX2 yX2_add yX2_add]
def wsL_law0_r15 : List Cond := [Cond.code yX2_add cX2_add 2 none, Cond.fieldLink RX2 20 "PlanetoidDesk$Looks" "count" "I", Cond.methodLink RX2 24 yX5_put, Cond.methodLink RX7 254 yX2_dotAt, Cond.instanceMethod yX2_dotAt, Cond.selects RX2 yX2_dotAt yX2_dotAt, Cond.code yX2_dotAt cX2_dotAt 2 (some .int), Cond.methodLink RX2 28 yX5_at, Cond.methodLink RX7 263 yX6_errorOf, Cond.instanceMethod yX6_errorOf, Cond.selects RX6 yX6_errorOf yX6_errorOf, Cond.code yX6_errorOf cX6_errorOf 2 (some .int), Cond.methodLink RX7 266 yX3_keepNear, Cond.instanceMethod yX3_keepNear, Cond.selects RX3 yX3_keepNear yX3_keepNear, Cond.code yX3_keepNear cX3_keepNear 9 none, Cond.static yX7_drift, Cond.code yX7_drift cX7_drift 2 (some .int), Cond.methodLink RX7 197 yX7_bOf, Cond.static yX7_bOf, Cond.code yX7_bOf cX7_bOf 1 (some .int), Cond.methodLink RX7 200 yX7_cOf, Cond.static yX7_cOf, Cond.code yX7_cOf cX7_cOf 1 (some .int)]
def wsL_law0_r16 : List Cond := [Cond.methodLink RX3 33 yJ9_floorMod_7cf53, Cond.methodLink RX3 38 yX5_at, Cond.methodLink RX3 42 yX3_behind, Cond.instanceMethod yX3_behind, Cond.selects RX3 yX3_behind yX3_behind, Cond.code yX3_behind cX3_behind 3 (some .int), Cond.methodLink RX3 45 yX3_sharedWidth, Cond.static yX3_sharedWidth, Cond.code yX3_sharedWidth cX3_sharedWidth 4 (some .int), Cond.methodLink RX3 53 Lib.Math.min.name, Cond.static Lib.Math.min.name, Cond.initialized "java/lang/Math", Cond.code Lib.Math.min.name Lib.Math.min.code 2 (some .int), Cond.methodLink RX3 56 Lib.Math.max.name, Cond.static Lib.Math.max.name, Cond.code Lib.Math.max.name Lib.Math.max.code 2 (some .int), Cond.methodLink RX3 49 yX5_put, Cond.methodLink RX7 125 yX7_canTake, Cond.instanceMethod yX7_canTake, Cond.selects RX7 yX7_canTake yX7_canTake, Cond.code yX7_canTake cX7_canTake 3 (some .boolean), Cond.methodLink RX7 272 yX0_isFree, Cond.instanceMethod yX0_isFree, Cond.selects RX0 yX0_isFree yX0_isFree]
def wsL_law0_r17 : List Cond := [Cond.code yX0_isFree cX0_isFree 2 (some .boolean), Cond.methodLink RX7 269 yX6_plateOf, Cond.instanceMethod yX6_plateOf, Cond.selects RX6 yX6_plateOf yX6_plateOf, Cond.code yX6_plateOf cX6_plateOf 2 (some .int), Cond.methodLink RX7 275 yX7_isSeenOn, Cond.instanceMethod yX7_isSeenOn, Cond.selects RX7 yX7_isSeenOn yX7_isSeenOn, Cond.code yX7_isSeenOn cX7_isSeenOn 4 (some .boolean), Cond.methodLink RX7 278 yX3_hasNear, Cond.instanceMethod yX3_hasNear, Cond.selects RX3 yX3_hasNear yX3_hasNear, Cond.code yX3_hasNear cX3_hasNear 7 (some .boolean), Cond.methodLink RX7 131 yX0_own, Cond.methodLink RX7 134 yX7_countLooks, Cond.instanceMethod yX7_countLooks, Cond.selects RX7 yX7_countLooks yX7_countLooks, Cond.code yX7_countLooks cX7_countLooks 2 (some .int), Cond.methodLink RL 119 yX8_link, Cond.instanceMethod yX8_link, Cond.selects RX8 yX8_link yX8_link, Cond.code yX8_link cX8_link 4 (some .int), Cond.fieldLink RX8 127 "PlanetoidDeskModel" "looks" "I", Cond.methodLink RX8 164 yX8_isBody]
def wsL_law0_r18 : List Cond := [Cond.instanceMethod yX8_isBody, Cond.selects RX8 yX8_isBody yX8_isBody, Cond.code yX8_isBody cX8_isBody 2 (some .boolean), Cond.methodLink RX8 167 yX8_canLink, Cond.instanceMethod yX8_canLink, Cond.selects RX8 yX8_canLink yX8_canLink, Cond.code yX8_canLink cX8_canLink 3 (some .boolean), Cond.methodLink RX8 154 yX8_lays, Cond.instanceMethod yX8_lays, Cond.selects RX8 yX8_lays yX8_lays, Cond.code yX8_lays cX8_lays 2 none, Cond.methodLink RX8 130 yX8_laysAlso, Cond.instanceMethod yX8_laysAlso, Cond.selects RX8 yX8_laysAlso yX8_laysAlso, Cond.code yX8_laysAlso cX8_laysAlso 3 none, Cond.methodLink RX8 123 yX8_isBelow, Cond.instanceMethod yX8_isBelow, Cond.selects RX8 yX8_isBelow yX8_isBelow, Cond.code yX8_isBelow cX8_isBelow 4 (some .boolean), Cond.methodLink RX8 157 yX8_isOnPlate, Cond.instanceMethod yX8_isOnPlate, Cond.selects RX8 yX8_isOnPlate yX8_isOnPlate, Cond.code yX8_isOnPlate cX8_isOnPlate 5 (some .boolean), Cond.methodLink RX8 160 yX8_hasOrbit]
def wsL_law0_r19 : List Cond := [Cond.instanceMethod yX8_hasOrbit, Cond.selects RX8 yX8_hasOrbit yX8_hasOrbit, Cond.code yX8_hasOrbit cX8_hasOrbit 1 (some .boolean), Cond.fieldLink RX8 145 "PlanetoidDeskModel" "found" "I", Cond.methodLink RX8 151 yX8_finds, Cond.instanceMethod yX8_finds, Cond.selects RX8 yX8_finds yX8_finds, Cond.code yX8_finds cX8_finds 8 none, Cond.methodLink RX8 142 yX8_errorOf, Cond.instanceMethod yX8_errorOf, Cond.selects RX8 yX8_errorOf yX8_errorOf, Cond.code yX8_errorOf cX8_errorOf 2 (some .int), Cond.methodLink RX8 134 yX8_moves, Cond.static yX8_moves, Cond.code yX8_moves cX8_moves 3 (some .int), Cond.methodLink RX8 148 yX8_fits, Cond.instanceMethod yX8_fits, Cond.selects RX8 yX8_fits yX8_fits, Cond.code yX8_fits cX8_fits 6 (some .boolean), Cond.methodLink RX8 138 yX8_apart, Cond.static yX8_apart, Cond.code yX8_apart cX8_apart 3 (some .int), Cond.methodLink RX8 84 yX8_size, Cond.static yX8_size]
def wsL_law0_r20 : List Cond := [Cond.code yX8_size cX8_size 1 (some .int), Cond.methodLink RL 120 yL_unlink, Cond.static yL_unlink, Cond.codeWith yL_unlink cL_unlink 5 (some .int) [(0, 10, 13, 21), (0, 10, 17, 15)], Cond.methodLink RL 39 yX7_unlink, Cond.instanceMethod yX7_unlink, Cond.selects RX7 yX7_unlink yX7_unlink, Cond.code yX7_unlink cX7_unlink 3 (some .int), Cond.methodLink RX7 137 yX0_countOwnDots, Cond.instanceMethod yX0_countOwnDots, Cond.selects RX0 yX0_countOwnDots yX0_countOwnDots, Cond.code yX0_countOwnDots cX0_countOwnDots 4 (some .int), Cond.methodLink RL 122 yX8_unlink, Cond.instanceMethod yX8_unlink, Cond.selects RX8 yX8_unlink yX8_unlink, Cond.code yX8_unlink cX8_unlink 4 (some .int), Cond.methodLink RX8 170 yX8_ownOf, Cond.instanceMethod yX8_ownOf, Cond.selects RX8 yX8_ownOf yX8_ownOf, Cond.code yX8_ownOf cX8_ownOf 4 (some .int), Cond.methodLink RL 123 yL_join, Cond.static yL_join, Cond.codeWith yL_join cL_join 5 (some .int) [(0, 10, 13, 21), (0, 10, 17, 15)], Cond.methodLink RL 42 yX7_join]
def wsL_law0_r21 : List Cond := [Cond.instanceMethod yX7_join, Cond.selects RX7 yX7_join yX7_join, Cond.code yX7_join cX7_join 5 (some .int), Cond.methodLink RX7 142 yX7_canJoin, Cond.instanceMethod yX7_canJoin, Cond.selects RX7 yX7_canJoin yX7_canJoin, Cond.code yX7_canJoin cX7_canJoin 3 (some .boolean), Cond.methodLink RX7 181 yX0_numberOf, Cond.instanceMethod yX0_numberOf, Cond.selects RX0 yX0_numberOf yX0_numberOf, Cond.code yX0_numberOf cX0_numberOf 2 (some .int), Cond.methodLink RX7 282 yX7_shareAPlate, Cond.instanceMethod yX7_shareAPlate, Cond.selects RX7 yX7_shareAPlate yX7_shareAPlate, Cond.code yX7_shareAPlate cX7_shareAPlate 4 (some .boolean), Cond.methodLink RX7 187 yX3_countOrbits, Cond.instanceMethod yX3_countOrbits, Cond.selects RX3 yX3_countOrbits yX3_countOrbits, Cond.code yX3_countOrbits cX3_countOrbits 3 (some .int), Cond.methodLink RX7 147 yX7_isStronger, Cond.instanceMethod yX7_isStronger, Cond.selects RX7 yX7_isStronger yX7_isStronger, Cond.code yX7_isStronger cX7_isStronger 7 (some .boolean), Cond.methodLink RX7 175 yX7_firstLookOf]
def wsL_law0_r22 : List Cond := [Cond.instanceMethod yX7_firstLookOf, Cond.selects RX7 yX7_firstLookOf yX7_firstLookOf, Cond.code yX7_firstLookOf cX7_firstLookOf 4 (some .int), Cond.methodLink RX7 150 yX0_attach, Cond.instanceMethod yX0_attach, Cond.selects RX0 yX0_attach yX0_attach, Cond.code yX0_attach cX0_attach 3 none, Cond.fieldLink RX0 50 "PlanetoidDesk$Bodies" "joins" "I", Cond.methodLink RL 125 yX8_join, Cond.instanceMethod yX8_join, Cond.selects RX8 yX8_join yX8_join, Cond.code yX8_join cX8_join 6 (some .int), Cond.fieldLink RX8 182 "PlanetoidDeskModel" "joins" "I", Cond.methodLink RX8 176 yX8_canJoin, Cond.instanceMethod yX8_canJoin, Cond.selects RX8 yX8_canJoin yX8_canJoin, Cond.code yX8_canJoin cX8_canJoin 6 (some .boolean), Cond.methodLink RX8 179 yX8_stronger, Cond.instanceMethod yX8_stronger, Cond.selects RX8 yX8_stronger yX8_stronger, Cond.code yX8_stronger cX8_stronger 6 (some .int), Cond.methodLink RX8 173 yX8_firstOf, Cond.instanceMethod yX8_firstOf, Cond.selects RX8 yX8_firstOf yX8_firstOf]
def wsL_law0_r23 : List Cond := [Cond.code yX8_firstOf cX8_firstOf 4 (some .int), Cond.methodLink RL 126 yL_part, Cond.static yL_part, Cond.codeWith yL_part cL_part 4 (some .int) [(0, 9, 12, 21), (0, 9, 15, 15)], Cond.methodLink RL 45 yX7_part, Cond.instanceMethod yX7_part, Cond.selects RX7 yX7_part yX7_part, Cond.code yX7_part cX7_part 3 (some .int), Cond.methodLink RX7 153 yX0_latestJoinedTo, Cond.instanceMethod yX0_latestJoinedTo, Cond.selects RX0 yX0_latestJoinedTo yX0_latestJoinedTo, Cond.code yX0_latestJoinedTo cX0_latestJoinedTo 5 (some .int), Cond.methodLink RX7 158 yX0_free, Cond.instanceMethod yX0_free, Cond.selects RX0 yX0_free yX0_free, Cond.code yX0_free cX0_free 2 none, Cond.methodLink RL 128 yX8_part, Cond.instanceMethod yX8_part, Cond.selects RX8 yX8_part yX8_part, Cond.code yX8_part cX8_part 4 (some .int), Cond.methodLink RX8 185 yX8_latest, Cond.instanceMethod yX8_latest, Cond.selects RX8 yX8_latest yX8_latest, Cond.code yX8_latest cX8_latest 4 (some .int)]
def wsL_law0_r24 : List Cond := [Cond.methodLink RL 129 yL_number, Cond.static yL_number, Cond.codeWith yL_number cL_number 4 (some .int) [(0, 9, 12, 21), (0, 9, 15, 15)], Cond.methodLink RL 48 yX7_number, Cond.instanceMethod yX7_number, Cond.selects RX7 yX7_number yX7_number, Cond.code yX7_number cX7_number 2 (some .int), Cond.methodLink RX7 161 yX7_canGetNumber, Cond.instanceMethod yX7_canGetNumber, Cond.selects RX7 yX7_canGetNumber yX7_canGetNumber, Cond.code yX7_canGetNumber cX7_canGetNumber 2 (some .boolean), Cond.methodLink RX7 285 yX7_isSeenLongEnough, Cond.instanceMethod yX7_isSeenLongEnough, Cond.selects RX7 yX7_isSeenLongEnough yX7_isSeenLongEnough, Cond.code yX7_isSeenLongEnough cX7_isSeenLongEnough 7 (some .boolean), Cond.methodLink RX7 288 Lib.Math.min.name, Cond.methodLink RX7 293 Lib.Math.max.name, Cond.methodLink RX7 166 yX3_orbitAt, Cond.instanceMethod yX3_orbitAt, Cond.selects RX3 yX3_orbitAt yX3_orbitAt, Cond.code yX3_orbitAt cX3_orbitAt 4 (some .int), Cond.methodLink RX3 59 yX3_tallyPlaces, Cond.instanceMethod yX3_tallyPlaces, Cond.selects RX3 yX3_tallyPlaces yX3_tallyPlaces]
def wsL_law0_r25 : List Cond := [Cond.code yX3_tallyPlaces cX3_tallyPlaces 6 none, Cond.methodLink RX3 62 yX3_courseWith, Cond.instanceMethod yX3_courseWith, Cond.selects RX3 yX3_courseWith yX3_courseWith, Cond.code yX3_courseWith cX3_courseWith 5 (some .int), Cond.methodLink RX7 169 yX0_giveNumber, Cond.instanceMethod yX0_giveNumber, Cond.selects RX0 yX0_giveNumber yX0_giveNumber, Cond.code yX0_giveNumber cX0_giveNumber 3 (some .int), Cond.fieldLink RX0 53 "PlanetoidDesk$Bodies" "lastNumber" "I", Cond.methodLink RL 131 yX8_number, Cond.instanceMethod yX8_number, Cond.selects RX8 yX8_number yX8_number, Cond.code yX8_number cX8_number 3 (some .int), Cond.fieldLink RX8 191 "PlanetoidDeskModel" "numbers" "I", Cond.methodLink RX8 188 yX8_canNumber, Cond.instanceMethod yX8_canNumber, Cond.selects RX8 yX8_canNumber yX8_canNumber, Cond.code yX8_canNumber cX8_canNumber 9 (some .boolean), Cond.methodLink RL 132 yL_ofBody, Cond.static yL_ofBody, Cond.codeWith yL_ofBody cL_ofBody 5 (some .int) [(0, 10, 13, 21), (0, 10, 17, 13)], Cond.methodLink RL 51 yX7_ofBody, Cond.instanceMethod yX7_ofBody]
def wsL_law0_r26 : List Cond := [Cond.selects RX7 yX7_ofBody yX7_ofBody, Cond.code yX7_ofBody cX7_ofBody 3 (some .int), Cond.methodLink RX7 172 yX0_hostOf, Cond.instanceMethod yX0_hostOf, Cond.selects RX0 yX0_hostOf yX0_hostOf, Cond.code yX0_hostOf cX0_hostOf 2 (some .int), Cond.methodLink RX7 178 yX6_observatoryOf, Cond.instanceMethod yX6_observatoryOf, Cond.selects RX6 yX6_observatoryOf yX6_observatoryOf, Cond.code yX6_observatoryOf cX6_observatoryOf 2 (some .int), Cond.methodLink RX7 184 yX0_countJoinedTo, Cond.instanceMethod yX0_countJoinedTo, Cond.selects RX0 yX0_countJoinedTo yX0_countJoinedTo, Cond.code yX0_countJoinedTo cX0_countJoinedTo 4 (some .int), Cond.methodLink RL 134 yX8_ofBody, Cond.instanceMethod yX8_ofBody, Cond.selects RX8 yX8_ofBody yX8_ofBody, Cond.code yX8_ofBody cX8_ofBody 3 (some .int), Cond.methodLink RX8 194 yX8_looksOf, Cond.instanceMethod yX8_looksOf, Cond.selects RX8 yX8_looksOf yX8_looksOf, Cond.code yX8_looksOf cX8_looksOf 2 (some .int), Cond.methodLink RX8 197 yX8_joinedTo, Cond.instanceMethod yX8_joinedTo]
def wsL_law0_r27 : List Cond := [Cond.selects RX8 yX8_joinedTo yX8_joinedTo, Cond.code yX8_joinedTo cX8_joinedTo 4 (some .int), Cond.methodLink RL 135 yL_orbits, Cond.static yL_orbits, Cond.codeWith yL_orbits cL_orbits 4 (some .int) [(0, 9, 12, 21)], Cond.methodLink RL 54 yX7_orbits, Cond.instanceMethod yX7_orbits, Cond.selects RX7 yX7_orbits yX7_orbits, Cond.code yX7_orbits cX7_orbits 2 (some .int), Cond.methodLink RL 137 yX8_orbits, Cond.instanceMethod yX8_orbits, Cond.selects RX8 yX8_orbits yX8_orbits, Cond.code yX8_orbits cX8_orbits 2 (some .int), Cond.methodLink RX8 200 yX8_orbitsOf, Cond.instanceMethod yX8_orbitsOf, Cond.selects RX8 yX8_orbitsOf yX8_orbitsOf, Cond.code yX8_orbitsOf cX8_orbitsOf 2 (some .int), Cond.methodLink RL 138 yL_orbitsAnew, Cond.static yL_orbitsAnew, Cond.codeWith yL_orbitsAnew cL_orbitsAnew 4 (some .int) [(0, 9, 12, 21)], Cond.methodLink RL 57 yX7_orbitsAnew, Cond.instanceMethod yX7_orbitsAnew, Cond.selects RX7 yX7_orbitsAnew yX7_orbitsAnew, Cond.code yX7_orbitsAnew cX7_orbitsAnew 4 (some .int)]
def wsL_law0_r28 : List Cond := [Cond.methodLink RX7 194 yX7_countPlacesLeft, Cond.instanceMethod yX7_countPlacesLeft, Cond.selects RX7 yX7_countPlacesLeft yX7_countPlacesLeft, Cond.code yX7_countPlacesLeft cX7_countPlacesLeft 8 (some .int), Cond.constantLong RX7 299 (-1), Cond.methodLink RX7 296 yX7_leastAOf, Cond.instanceMethod yX7_leastAOf, Cond.selects RX7 yX7_leastAOf yX7_leastAOf, Cond.code yX7_leastAOf cX7_leastAOf 4 (some .int), Cond.methodLink RX7 314 yX7_drift, Cond.methodLink RX7 301 yJ9_floorMod_7cf53, Cond.methodLink RX7 304 yX7_stretch, Cond.static yX7_stretch, Cond.code yX7_stretch cX7_stretch 5 (some .long), Cond.methodLink RX7 308 yJ13_bitCount_95d88, Cond.static yJ13_bitCount_95d88, Cond.initialized RJ13, Cond.code yJ13_bitCount_95d88 cJ13_bitCount_95d88 2 (some .int), Cond.constantLong RJ13 314 (6148914691236517205), Cond.constantLong RJ13 316 (3689348814741910323), Cond.constantLong RJ13 318 (1085102592571150095), Cond.methodLink RL 140 yX8_orbitsAnew, Cond.instanceMethod yX8_orbitsAnew, Cond.selects RX8 yX8_orbitsAnew yX8_orbitsAnew]
def wsL_law0_r29 : List Cond := [Cond.code yX8_orbitsAnew cX8_orbitsAnew 2 (some .int), Cond.methodLink RL 141 yL_orbit, Cond.static yL_orbit, Cond.codeWith yL_orbit cL_orbit 6 (some .int) [(0, 12, 15, 21), (0, 12, 19, 13)], Cond.methodLink RL 60 yX7_orbit, Cond.instanceMethod yX7_orbit, Cond.selects RX7 yX7_orbit yX7_orbit, Cond.code yX7_orbit cX7_orbit 5 (some .int), Cond.methodLink RL 143 yX8_orbit, Cond.instanceMethod yX8_orbit, Cond.selects RX8 yX8_orbit yX8_orbit, Cond.code yX8_orbit cX8_orbit 6 (some .int), Cond.methodLink RX8 204 yX8_keyAt, Cond.instanceMethod yX8_keyAt, Cond.selects RX8 yX8_keyAt yX8_keyAt, Cond.code yX8_keyAt cX8_keyAt 7 (some .int), Cond.constant RX8 203 (1457999), Cond.methodLink RL 144 yL_spread, Cond.static yL_spread, Cond.codeWith yL_spread cL_spread 5 (some .int) [(0, 10, 13, 21), (0, 10, 17, 13)], Cond.methodLink RL 63 yX7_spread, Cond.instanceMethod yX7_spread, Cond.selects RX7 yX7_spread yX7_spread, Cond.code yX7_spread cX7_spread 3 (some .int)]
def wsL_law0_r30 : List Cond := [Cond.methodLink RX7 203 yX3_countPlaces, Cond.instanceMethod yX3_countPlaces, Cond.selects RX3 yX3_countPlaces yX3_countPlaces, Cond.code yX3_countPlaces cX3_countPlaces 4 (some .int), Cond.methodLink RL 146 yX8_spread, Cond.instanceMethod yX8_spread, Cond.selects RX8 yX8_spread yX8_spread, Cond.code yX8_spread cX8_spread 3 (some .int), Cond.methodLink RX8 214 yX8_spreadOf, Cond.instanceMethod yX8_spreadOf, Cond.selects RX8 yX8_spreadOf yX8_spreadOf, Cond.code yX8_spreadOf cX8_spreadOf 5 (some .int), Cond.methodLink RX8 210 yX8_spreads, Cond.instanceMethod yX8_spreads, Cond.selects RX8 yX8_spreads yX8_spreads, Cond.code yX8_spreads cX8_spreads 5 none, Cond.methodLink RX8 207 yX8_placeBy, Cond.instanceMethod yX8_placeBy, Cond.selects RX8 yX8_placeBy yX8_placeBy, Cond.code yX8_placeBy cX8_placeBy 3 (some .int), Cond.methodLink RL 147 yL_where, Cond.static yL_where, Cond.codeWith yL_where cL_where 6 (some .int) [(0, 12, 15, 21), (0, 12, 19, 13)], Cond.methodLink RL 66 yX7_where]
def wsL_law0_r31 : List Cond := [Cond.instanceMethod yX7_where, Cond.selects RX7 yX7_where yX7_where, Cond.code yX7_where cX7_where 4 (some .int), Cond.methodLink RX7 211 yX3_placeAt, Cond.instanceMethod yX3_placeAt, Cond.selects RX3 yX3_placeAt yX3_placeAt, Cond.code yX3_placeAt cX3_placeAt 5 (some .int), Cond.methodLink RL 149 yX8_where, Cond.instanceMethod yX8_where, Cond.selects RX8 yX8_where yX8_where, Cond.code yX8_where cX8_where 5 (some .int), Cond.methodLink RX8 217 yX8_placeAt, Cond.instanceMethod yX8_placeAt, Cond.selects RX8 yX8_placeAt yX8_placeAt, Cond.code yX8_placeAt cX8_placeAt 6 (some .int), Cond.methodLink RL 150 yL_candidates, Cond.static yL_candidates, Cond.codeWith yL_candidates cL_candidates 4 (some .int) [(0, 9, 12, 21)], Cond.methodLink RL 69 yX7_candidates, Cond.instanceMethod yX7_candidates, Cond.selects RX7 yX7_candidates yX7_candidates, Cond.code yX7_candidates cX7_candidates 4 (some .int), Cond.methodLink RL 152 yX8_candidates, Cond.instanceMethod yX8_candidates]
def wsL_law0_r32 : List Cond := [Cond.selects RX8 yX8_candidates yX8_candidates, Cond.code yX8_candidates cX8_candidates 2 (some .int), Cond.methodLink RX8 220 yX8_candidatesOf, Cond.instanceMethod yX8_candidatesOf, Cond.selects RX8 yX8_candidatesOf yX8_candidatesOf, Cond.code yX8_candidatesOf cX8_candidatesOf 4 (some .int), Cond.methodLink RL 153 yL_chance, Cond.static yL_chance, Cond.codeWith yL_chance cL_chance 7 (some .int) [(0, 14, 17, 21), (0, 14, 21, 13)], Cond.methodLink RL 72 yX7_chance, Cond.instanceMethod yX7_chance, Cond.selects RX7 yX7_chance yX7_chance, Cond.code yX7_chance cX7_chance 6 (some .int), Cond.methodLink RX7 214 yX4_countPaths, Cond.instanceMethod yX4_countPaths, Cond.selects RX4 yX4_countPaths yX4_countPaths, Cond.code yX4_countPaths cX4_countPaths 7 none, Cond.fieldLink RX4 26 "PlanetoidDesk$Paths" "all" "I", Cond.fieldLink RX4 30 "PlanetoidDesk$Paths" "near" "I", Cond.methodLink RX4 33 yX5_fill, Cond.methodLink RX4 36 yX4_makeGroups, Cond.instanceMethod yX4_makeGroups, Cond.selects RX4 yX4_makeGroups yX4_makeGroups, Cond.code yX4_makeGroups cX4_makeGroups 5 none]
def wsL_law0_r33 : List Cond := [Cond.methodLink RX4 53 yX4_groupOf, Cond.static yX4_groupOf, Cond.code yX4_groupOf cX4_groupOf 3 (some .int), Cond.methodLink RX4 64 yJ9_floorMod_7cf53, Cond.methodLink RX4 40 yX5_at, Cond.methodLink RX4 57 yX5_put, Cond.methodLink RX4 44 yX3_widthOf, Cond.instanceMethod yX3_widthOf, Cond.selects RX3 yX3_widthOf yX3_widthOf, Cond.code yX3_widthOf cX3_widthOf 2 (some .int), Cond.methodLink RX4 49 yX4_countCourse, Cond.instanceMethod yX4_countCourse, Cond.selects RX4 yX4_countCourse yX4_countCourse, Cond.code yX4_countCourse cX4_countCourse 11 none, Cond.methodLink RX4 69 yX3_startOf, Cond.instanceMethod yX3_startOf, Cond.selects RX3 yX3_startOf yX3_startOf, Cond.code yX3_startOf cX3_startOf 2 (some .int), Cond.methodLink RX4 72 yX4_nearBitsOf, Cond.static yX4_nearBitsOf, Cond.code yX4_nearBitsOf cX4_nearBitsOf 9 (some .long), Cond.methodLink RX7 224 yX7_greatestDivisor, Cond.static yX7_greatestDivisor, Cond.code yX7_greatestDivisor cX7_greatestDivisor 6 (some .int)]
def wsL_law0_r34 : List Cond := [Cond.methodLink RL 156 yX8_chance, Cond.instanceMethod yX8_chance, Cond.selects RX8 yX8_chance yX8_chance, Cond.code yX8_chance cX8_chance 6 (some .int), Cond.methodLink RX8 232 yX8_chanceOf, Cond.instanceMethod yX8_chanceOf, Cond.selects RX8 yX8_chanceOf yX8_chanceOf, Cond.code yX8_chanceOf cX8_chanceOf 8 (some .int), Cond.methodLink RX8 226 yX8_paths, Cond.instanceMethod yX8_paths, Cond.selects RX8 yX8_paths yX8_paths, Cond.code yX8_paths cX8_paths 10 (some .int), Cond.methodLink RX8 223 yX8_isNear, Cond.instanceMethod yX8_isNear, Cond.selects RX8 yX8_isNear yX8_isNear, Cond.code yX8_isNear cX8_isNear 6 (some .boolean), Cond.methodLink RX8 229 yX8_common, Cond.static yX8_common, Cond.code yX8_common cX8_common 5 (some .int), Cond.methodLink RL 157 yL_families, Cond.static yL_families, Cond.codeWith yL_families cL_families 4 (some .int) [(0, 9, 12, 13)], Cond.methodLink RL 76 yX7_families, Cond.instanceMethod yX7_families]
def wsL_law0_r35 : List Cond := [Cond.selects RX7 yX7_families yX7_families, Cond.code yX7_families cX7_families 4 (some .int), Cond.methodLink RX7 227 yX1_findFamilies, Cond.instanceMethod yX1_findFamilies, Cond.selects RX1 yX1_findFamilies yX1_findFamilies, Cond.code yX1_findFamilies cX1_findFamilies 4 none, Cond.methodLink RX1 30 yX0_numberOf, Cond.methodLink RX1 33 yX5_put, Cond.methodLink RX1 37 yX1_spreadLowest, Cond.instanceMethod yX1_spreadLowest, Cond.selects RX1 yX1_spreadLowest yX1_spreadLowest, Cond.code yX1_spreadLowest cX1_spreadLowest 6 none, Cond.methodLink RX1 45 Lib.Math.min.name, Cond.methodLink RX1 41 yX1_areAkin, Cond.static yX1_areAkin, Cond.code yX1_areAkin cX1_areAkin 8 (some .boolean), Cond.methodLink RX1 57 Lib.Math.abs.name, Cond.static Lib.Math.abs.name, Cond.code Lib.Math.abs.name Lib.Math.abs.code 1 (some .int), Cond.methodLink RX1 51 yX0_properCourseOf, Cond.instanceMethod yX0_properCourseOf, Cond.selects RX0 yX0_properCourseOf yX0_properCourseOf, Cond.code yX0_properCourseOf cX0_properCourseOf 2 (some .int), Cond.methodLink RX1 20 yX5_at]
def wsL_law0_r36 : List Cond := [Cond.methodLink RX7 231 yX1_lowestNumberWith, Cond.instanceMethod yX1_lowestNumberWith, Cond.selects RX1 yX1_lowestNumberWith yX1_lowestNumberWith, Cond.code yX1_lowestNumberWith cX1_lowestNumberWith 2 (some .int), Cond.methodLink RL 159 yX8_families, Cond.instanceMethod yX8_families, Cond.selects RX8 yX8_families yX8_families, Cond.code yX8_families cX8_families 4 (some .int), Cond.methodLink RX8 239 yX8_reaches, Cond.instanceMethod yX8_reaches, Cond.selects RX8 yX8_reaches yX8_reaches, Cond.code yX8_reaches cX8_reaches 7 none, Cond.methodLink RX8 236 yX8_areAkin, Cond.instanceMethod yX8_areAkin, Cond.selects RX8 yX8_areAkin yX8_areAkin, Cond.code yX8_areAkin cX8_areAkin 4 (some .boolean), Cond.methodLink RL 160 yL_family, Cond.static yL_family, Cond.codeWith yL_family cL_family 5 (some .int) [(0, 10, 13, 21), (0, 10, 17, 13)], Cond.methodLink RL 79 yX7_family, Cond.instanceMethod yX7_family, Cond.selects RX7 yX7_family yX7_family, Cond.code yX7_family cX7_family 3 (some .int), Cond.methodLink RX7 234 yX0_withNumber]
def wsL_law0_r37 : List Cond := [Cond.instanceMethod yX0_withNumber, Cond.selects RX0 yX0_withNumber yX0_withNumber, Cond.code yX0_withNumber cX0_withNumber 3 (some .int), Cond.methodLink RL 162 yX8_family, Cond.instanceMethod yX8_family, Cond.selects RX8 yX8_family yX8_family, Cond.code yX8_family cX8_family 3 (some .int), Cond.methodLink RX8 242 yX8_familyOf, Cond.instanceMethod yX8_familyOf, Cond.selects RX8 yX8_familyOf yX8_familyOf, Cond.code yX8_familyOf cX8_familyOf 3 (some .int), Cond.methodLink RL 163 yL_turn, Cond.static yL_turn, Cond.codeWith yL_turn cL_turn 5 (some .int) [(0, 10, 13, 21)], Cond.methodLink RL 82 yX7_turn, Cond.instanceMethod yX7_turn, Cond.selects RX7 yX7_turn yX7_turn, Cond.code yX7_turn cX7_turn 7 (some .int), Cond.methodLink RX7 238 yX7_faultOf, Cond.instanceMethod yX7_faultOf, Cond.selects RX7 yX7_faultOf yX7_faultOf, Cond.code yX7_faultOf cX7_faultOf 4 (some .int), Cond.methodLink RX7 317 yX7_lightRange, Cond.instanceMethod yX7_lightRange]
def wsL_law0_r38 : List Cond := [Cond.selects RX7 yX7_lightRange yX7_lightRange, Cond.code yX7_lightRange cX7_lightRange 7 (some .int), Cond.methodLink RL 166 yX8_turn, Cond.instanceMethod yX8_turn, Cond.selects RX8 yX8_turn yX8_turn, Cond.code yX8_turn cX8_turn 3 (some .int), Cond.methodLink RX8 248 yX8_turnOf, Cond.instanceMethod yX8_turnOf, Cond.selects RX8 yX8_turnOf yX8_turnOf, Cond.code yX8_turnOf cX8_turnOf 5 (some .int), Cond.methodLink RX8 245 yX8_fault, Cond.instanceMethod yX8_fault, Cond.selects RX8 yX8_fault yX8_fault, Cond.code yX8_fault cX8_fault 4 (some .int)]
def wsL_law0 : List Cond := (wsL_law0_r1 ++ (wsL_law0_r2 ++ (wsL_law0_r3 ++ (wsL_law0_r4 ++ (wsL_law0_r5 ++ (wsL_law0_r6 ++ (wsL_law0_r7 ++ (wsL_law0_r8 ++ (wsL_law0_r9 ++ (wsL_law0_r10 ++ (wsL_law0_r11 ++ (wsL_law0_r12 ++ (wsL_law0_r13 ++ (wsL_law0_r14 ++ (wsL_law0_r15 ++ (wsL_law0_r16 ++ (wsL_law0_r17 ++ (wsL_law0_r18 ++ (wsL_law0_r19 ++ (wsL_law0_r20 ++ (wsL_law0_r21 ++ (wsL_law0_r22 ++ (wsL_law0_r23 ++ (wsL_law0_r24 ++ (wsL_law0_r25 ++ (wsL_law0_r26 ++ (wsL_law0_r27 ++ (wsL_law0_r28 ++ (wsL_law0_r29 ++ (wsL_law0_r30 ++ (wsL_law0_r31 ++ (wsL_law0_r32 ++ (wsL_law0_r33 ++ (wsL_law0_r34 ++ (wsL_law0_r35 ++ (wsL_law0_r36 ++ (wsL_law0_r37 ++ wsL_law0_r38))))))))))))))))))))))))))))))))))))) ++ wsX70 ++ wsX80 ++ wsX60 ++ wsX00 ++ wsX20 ++ wsX30 ++ wsX40 ++ wsX10 ++ wsX50 ++ ([] : List Cond)
def wsL_law : List Cond := wsL_law0 ++ (vx_atS RX7 63 "java/lang/IllegalStateException" ["java/lang/RuntimeException", "java/lang/Exception"]).filter goodWord ++ (vx_atS RX7 210 "java/lang/IllegalArgumentException" ["java/lang/RuntimeException", "java/lang/Exception"]).filter goodWord ++ (vx_atS RX7 245 "java/lang/IndexOutOfBoundsException" ["java/lang/RuntimeException", "java/lang/Exception"]).filter goodWord
abbrev vwCl : List vw_C := [(RX0, TX0, 8), (RX1, TX1, 1), (RX2, TX2, 2), (RX3, TX3, 3), (RX4, TX4, 5), (RX5, TX5, 1), (RX6, TX6, 10), (RX7, TX7, 6), (RX8, TX8, 32)]
end
section
set_option maxRecDepth 20000 in
theorem ggX0_init_X5_init : GoodIn wsX0_init wsX5_init := goodIn_r _ [14, 15, 2, 3, 16, 17, 22] (by decide +kernel) (by decide +kernel)
set_option maxRecDepth 20000 in
theorem gX0_init_X5_init : GoodIn wsX0_init (wsX5_init) := ggX0_init_X5_init
set_option maxRecDepth 20000 in
theorem ggX0_init_X5_fill : GoodIn wsX0_init wsX5_fill := goodIn_r _ [21, 17, 22] (by decide +kernel) (by decide +kernel)
set_option maxRecDepth 20000 in
theorem gX0_init_X5_fill : GoodIn wsX0_init (wsV RX0 32 RX5 yX5_fill wsX5_fill) := goodIn_app (goodIn_of _ (by decide +kernel)) ggX0_init_X5_fill
theorem dX0_init_0 : decode cX0_init 0 = .ok (.aload_n 0, 1) := by decide +kernel
theorem dX0_init_1 : decode cX0_init 1 = .ok (.invokespecial 3, 3) := by decide +kernel
theorem dX0_init_4 : decode cX0_init 4 = .ok (.aload_n 0, 1) := by decide +kernel
theorem dX0_init_5 : decode cX0_init 5 = .ok (.new 9, 3) := by decide +kernel
theorem dX0_init_8 : decode cX0_init 8 = .ok (.dup, 1) := by decide +kernel
theorem dX0_init_9 : decode cX0_init 9 = .ok (.bipush 60, 2) := by decide +kernel
theorem dX0_init_11 : decode cX0_init 11 = .ok (.invokespecial 11, 3) := by decide +kernel
theorem dX0_init_14 : decode cX0_init 14 = .ok (.putfield 14, 3) := by decide +kernel
theorem dX0_init_17 : decode cX0_init 17 = .ok (.aload_n 0, 1) := by decide +kernel
theorem dX0_init_18 : decode cX0_init 18 = .ok (.new 9, 3) := by decide +kernel
theorem dX0_init_21 : decode cX0_init 21 = .ok (.dup, 1) := by decide +kernel
theorem dX0_init_22 : decode cX0_init 22 = .ok (.bipush 20, 2) := by decide +kernel
theorem dX0_init_24 : decode cX0_init 24 = .ok (.invokespecial 11, 3) := by decide +kernel
theorem dX0_init_27 : decode cX0_init 27 = .ok (.putfield 20, 3) := by decide +kernel
theorem dX0_init_30 : decode cX0_init 30 = .ok (.aload_n 0, 1) := by decide +kernel
theorem dX0_init_31 : decode cX0_init 31 = .ok (.new 9, 3) := by decide +kernel
theorem dX0_init_34 : decode cX0_init 34 = .ok (.dup, 1) := by decide +kernel
theorem dX0_init_35 : decode cX0_init 35 = .ok (.bipush 20, 2) := by decide +kernel
theorem dX0_init_37 : decode cX0_init 37 = .ok (.invokespecial 11, 3) := by decide +kernel
theorem dX0_init_40 : decode cX0_init 40 = .ok (.putfield 23, 3) := by decide +kernel
theorem dX0_init_43 : decode cX0_init 43 = .ok (.aload_n 0, 1) := by decide +kernel
theorem dX0_init_44 : decode cX0_init 44 = .ok (.new 9, 3) := by decide +kernel
theorem dX0_init_47 : decode cX0_init 47 = .ok (.dup, 1) := by decide +kernel
theorem dX0_init_48 : decode cX0_init 48 = .ok (.bipush 20, 2) := by decide +kernel
theorem dX0_init_50 : decode cX0_init 50 = .ok (.invokespecial 11, 3) := by decide +kernel
theorem dX0_init_53 : decode cX0_init 53 = .ok (.putfield 26, 3) := by decide +kernel
theorem dX0_init_56 : decode cX0_init 56 = .ok (.aload_n 0, 1) := by decide +kernel
theorem dX0_init_57 : decode cX0_init 57 = .ok (.new 9, 3) := by decide +kernel
theorem dX0_init_60 : decode cX0_init 60 = .ok (.dup, 1) := by decide +kernel
theorem dX0_init_61 : decode cX0_init 61 = .ok (.bipush 20, 2) := by decide +kernel
theorem dX0_init_63 : decode cX0_init 63 = .ok (.invokespecial 11, 3) := by decide +kernel
theorem dX0_init_66 : decode cX0_init 66 = .ok (.putfield 29, 3) := by decide +kernel
theorem dX0_init_69 : decode cX0_init 69 = .ok (.aload_n 0, 1) := by decide +kernel
theorem dX0_init_70 : decode cX0_init 70 = .ok (.getfield 14, 3) := by decide +kernel
theorem dX0_init_73 : decode cX0_init 73 = .ok (.iconst (-1), 1) := by decide +kernel
theorem dX0_init_74 : decode cX0_init 74 = .ok (.invokevirtual 32, 3) := by decide +kernel
theorem dX0_init_77 : decode cX0_init 77 = .ok (.aload_n 0, 1) := by decide +kernel
theorem dX0_init_78 : decode cX0_init 78 = .ok (.getfield 20, 3) := by decide +kernel
theorem dX0_init_81 : decode cX0_init 81 = .ok (.iconst (-1), 1) := by decide +kernel
theorem dX0_init_82 : decode cX0_init 82 = .ok (.invokevirtual 32, 3) := by decide +kernel
theorem dX0_init_85 : decode cX0_init 85 = .ok (.aload_n 0, 1) := by decide +kernel
theorem dX0_init_86 : decode cX0_init 86 = .ok (.getfield 26, 3) := by decide +kernel
theorem dX0_init_89 : decode cX0_init 89 = .ok (.iconst (-1), 1) := by decide +kernel
theorem dX0_init_90 : decode cX0_init 90 = .ok (.invokevirtual 32, 3) := by decide +kernel
theorem dX0_init_93 : decode cX0_init 93 = .ok (.return_, 1) := by decide +kernel
set_option maxRecDepth 20000 in
theorem ggX0_addBody_X0_own : GoodIn wsX0_addBody wsX0_own := goodIn_r _ [6, 7, 8, 9, 10, 11, 12, 13, 14, 15, 16, 17, 18, 19, 20, 21, 22] (by decide +kernel) (by decide +kernel)
set_option maxRecDepth 20000 in
theorem gX0_addBody_X0_own : GoodIn wsX0_addBody (wsV RX0 39 RX0 yX0_own wsX0_own) := goodIn_app (goodIn_of _ (by decide +kernel)) ggX0_addBody_X0_own
theorem dX0_addBody_0 : decode cX0_addBody 0 = .ok (.aload_n 0, 1) := by decide +kernel
theorem dX0_addBody_1 : decode cX0_addBody 1 = .ok (.aload_n 0, 1) := by decide +kernel
theorem dX0_addBody_2 : decode cX0_addBody 2 = .ok (.getfield 35, 3) := by decide +kernel
theorem dX0_addBody_5 : decode cX0_addBody 5 = .ok (.iload_n 1, 1) := by decide +kernel
theorem dX0_addBody_6 : decode cX0_addBody 6 = .ok (.invokevirtual 39, 3) := by decide +kernel
theorem dX0_addBody_9 : decode cX0_addBody 9 = .ok (.aload_n 0, 1) := by decide +kernel
theorem dX0_addBody_10 : decode cX0_addBody 10 = .ok (.dup, 1) := by decide +kernel
theorem dX0_addBody_11 : decode cX0_addBody 11 = .ok (.getfield 35, 3) := by decide +kernel
theorem dX0_addBody_14 : decode cX0_addBody 14 = .ok (.iconst 1, 1) := by decide +kernel
theorem dX0_addBody_15 : decode cX0_addBody 15 = .ok (.iadd, 1) := by decide +kernel
theorem dX0_addBody_16 : decode cX0_addBody 16 = .ok (.putfield 35, 3) := by decide +kernel
theorem dX0_addBody_19 : decode cX0_addBody 19 = .ok (.aload_n 0, 1) := by decide +kernel
theorem dX0_addBody_20 : decode cX0_addBody 20 = .ok (.getfield 35, 3) := by decide +kernel
theorem dX0_addBody_23 : decode cX0_addBody 23 = .ok (.iconst 1, 1) := by decide +kernel
theorem dX0_addBody_24 : decode cX0_addBody 24 = .ok (.isub, 1) := by decide +kernel
theorem dX0_addBody_25 : decode cX0_addBody 25 = .ok (.ireturn, 1) := by decide +kernel
set_option maxRecDepth 20000 in
theorem ggX0_own_X5_put : GoodIn wsX0_own wsX5_put := goodIn_r _ [6, 7, 16] (by decide +kernel) (by decide +kernel)
set_option maxRecDepth 20000 in
theorem gX0_own_X5_put : GoodIn wsX0_own (wsV RX0 43 RX5 yX5_put wsX5_put) := goodIn_app (goodIn_of _ (by decide +kernel)) ggX0_own_X5_put
theorem dX0_own_0 : decode cX0_own 0 = .ok (.aload_n 0, 1) := by decide +kernel
theorem dX0_own_1 : decode cX0_own 1 = .ok (.getfield 14, 3) := by decide +kernel
theorem dX0_own_4 : decode cX0_own 4 = .ok (.iload_n 2, 1) := by decide +kernel
theorem dX0_own_5 : decode cX0_own 5 = .ok (.iload_n 1, 1) := by decide +kernel
theorem dX0_own_6 : decode cX0_own 6 = .ok (.invokevirtual 43, 3) := by decide +kernel
theorem dX0_own_9 : decode cX0_own 9 = .ok (.return_, 1) := by decide +kernel
set_option maxRecDepth 20000 in
theorem ggX0_ownerOf_X5_at : GoodIn wsX0_ownerOf wsX5_at := goodIn_r _ [6, 7, 16] (by decide +kernel) (by decide +kernel)
set_option maxRecDepth 20000 in
theorem gX0_ownerOf_X5_at : GoodIn wsX0_ownerOf (wsV RX0 46 RX5 yX5_at wsX5_at) := goodIn_app (goodIn_of _ (by decide +kernel)) ggX0_ownerOf_X5_at
theorem dX0_ownerOf_0 : decode cX0_ownerOf 0 = .ok (.aload_n 0, 1) := by decide +kernel
theorem dX0_ownerOf_1 : decode cX0_ownerOf 1 = .ok (.getfield 14, 3) := by decide +kernel
theorem dX0_ownerOf_4 : decode cX0_ownerOf 4 = .ok (.iload_n 1, 1) := by decide +kernel
theorem dX0_ownerOf_5 : decode cX0_ownerOf 5 = .ok (.invokevirtual 46, 3) := by decide +kernel
theorem dX0_ownerOf_8 : decode cX0_ownerOf 8 = .ok (.ireturn, 1) := by decide +kernel
set_option maxRecDepth 20000 in
theorem ggX0_isUnlinked_X5_at : GoodIn wsX0_isUnlinked wsX5_at := goodIn_r _ [6, 7, 16] (by decide +kernel) (by decide +kernel)
set_option maxRecDepth 20000 in
theorem gX0_isUnlinked_X5_at : GoodIn wsX0_isUnlinked (wsV RX0 46 RX5 yX5_at wsX5_at) := goodIn_app (goodIn_of _ (by decide +kernel)) ggX0_isUnlinked_X5_at
theorem dX0_isUnlinked_0 : decode cX0_isUnlinked 0 = .ok (.aload_n 0, 1) := by decide +kernel
theorem dX0_isUnlinked_1 : decode cX0_isUnlinked 1 = .ok (.getfield 14, 3) := by decide +kernel
theorem dX0_isUnlinked_4 : decode cX0_isUnlinked 4 = .ok (.iload_n 1, 1) := by decide +kernel
theorem dX0_isUnlinked_5 : decode cX0_isUnlinked 5 = .ok (.invokevirtual 46, 3) := by decide +kernel
theorem dX0_isUnlinked_8 : decode cX0_isUnlinked 8 = .ok (.iconst (-1), 1) := by decide +kernel
theorem dX0_isUnlinked_9 : decode cX0_isUnlinked 9 = .ok (.if_icmp .ne 7, 3) := by decide +kernel
theorem dX0_isUnlinked_12 : decode cX0_isUnlinked 12 = .ok (.iconst 1, 1) := by decide +kernel
theorem dX0_isUnlinked_13 : decode cX0_isUnlinked 13 = .ok (.goto 4, 3) := by decide +kernel
theorem dX0_isUnlinked_16 : decode cX0_isUnlinked 16 = .ok (.iconst 0, 1) := by decide +kernel
theorem dX0_isUnlinked_17 : decode cX0_isUnlinked 17 = .ok (.ireturn, 1) := by decide +kernel
set_option maxRecDepth 20000 in
theorem ggX0_countOwnDots_X5_at : GoodIn wsX0_countOwnDots wsX5_at := goodIn_r _ [6, 7, 16] (by decide +kernel) (by decide +kernel)
set_option maxRecDepth 20000 in
theorem gX0_countOwnDots_X5_at : GoodIn wsX0_countOwnDots (wsV RX0 46 RX5 yX5_at wsX5_at) := goodIn_app (goodIn_of _ (by decide +kernel)) ggX0_countOwnDots_X5_at
theorem dX0_countOwnDots_0 : decode cX0_countOwnDots 0 = .ok (.iconst 0, 1) := by decide +kernel
theorem dX0_countOwnDots_1 : decode cX0_countOwnDots 1 = .ok (.istore_n 2, 1) := by decide +kernel
theorem dX0_countOwnDots_2 : decode cX0_countOwnDots 2 = .ok (.iconst 0, 1) := by decide +kernel
theorem dX0_countOwnDots_3 : decode cX0_countOwnDots 3 = .ok (.istore_n 3, 1) := by decide +kernel
theorem dX0_countOwnDots_4 : decode cX0_countOwnDots 4 = .ok (.iload_n 3, 1) := by decide +kernel
theorem dX0_countOwnDots_5 : decode cX0_countOwnDots 5 = .ok (.bipush 60, 2) := by decide +kernel
theorem dX0_countOwnDots_7 : decode cX0_countOwnDots 7 = .ok (.if_icmp .ge 24, 3) := by decide +kernel
theorem dX0_countOwnDots_10 : decode cX0_countOwnDots 10 = .ok (.aload_n 0, 1) := by decide +kernel
theorem dX0_countOwnDots_11 : decode cX0_countOwnDots 11 = .ok (.getfield 14, 3) := by decide +kernel
theorem dX0_countOwnDots_14 : decode cX0_countOwnDots 14 = .ok (.iload_n 3, 1) := by decide +kernel
theorem dX0_countOwnDots_15 : decode cX0_countOwnDots 15 = .ok (.invokevirtual 46, 3) := by decide +kernel
theorem dX0_countOwnDots_18 : decode cX0_countOwnDots 18 = .ok (.iload_n 1, 1) := by decide +kernel
theorem dX0_countOwnDots_19 : decode cX0_countOwnDots 19 = .ok (.if_icmp .ne 6, 3) := by decide +kernel
theorem dX0_countOwnDots_22 : decode cX0_countOwnDots 22 = .ok (.iinc 2 1, 3) := by decide +kernel
theorem dX0_countOwnDots_25 : decode cX0_countOwnDots 25 = .ok (.iinc 3 1, 3) := by decide +kernel
theorem dX0_countOwnDots_28 : decode cX0_countOwnDots 28 = .ok (.goto (-24), 3) := by decide +kernel
theorem dX0_countOwnDots_31 : decode cX0_countOwnDots 31 = .ok (.iload_n 2, 1) := by decide +kernel
theorem dX0_countOwnDots_32 : decode cX0_countOwnDots 32 = .ok (.ireturn, 1) := by decide +kernel
set_option maxRecDepth 20000 in
theorem ggX0_isLook_X5_at : GoodIn wsX0_isLook wsX5_at := goodIn_r _ [7, 8, 17] (by decide +kernel) (by decide +kernel)
set_option maxRecDepth 20000 in
theorem gX0_isLook_X5_at : GoodIn wsX0_isLook (wsV RX0 46 RX5 yX5_at wsX5_at) := goodIn_app (goodIn_of _ (by decide +kernel)) ggX0_isLook_X5_at
theorem dX0_isLook_0 : decode cX0_isLook 0 = .ok (.aload_n 0, 1) := by decide +kernel
theorem dX0_isLook_1 : decode cX0_isLook 1 = .ok (.getfield 14, 3) := by decide +kernel
theorem dX0_isLook_4 : decode cX0_isLook 4 = .ok (.iload_n 1, 1) := by decide +kernel
theorem dX0_isLook_5 : decode cX0_isLook 5 = .ok (.invokevirtual 46, 3) := by decide +kernel
theorem dX0_isLook_8 : decode cX0_isLook 8 = .ok (.istore_n 3, 1) := by decide +kernel
theorem dX0_isLook_9 : decode cX0_isLook 9 = .ok (.iconst 0, 1) := by decide +kernel
theorem dX0_isLook_10 : decode cX0_isLook 10 = .ok (.istore 4, 2) := by decide +kernel
theorem dX0_isLook_12 : decode cX0_isLook 12 = .ok (.iload 4, 2) := by decide +kernel
theorem dX0_isLook_14 : decode cX0_isLook 14 = .ok (.bipush 20, 2) := by decide +kernel
theorem dX0_isLook_16 : decode cX0_isLook 16 = .ok (.if_icmp .ge 28, 3) := by decide +kernel
theorem dX0_isLook_19 : decode cX0_isLook 19 = .ok (.iload_n 3, 1) := by decide +kernel
theorem dX0_isLook_20 : decode cX0_isLook 20 = .ok (.iconst (-1), 1) := by decide +kernel
theorem dX0_isLook_21 : decode cX0_isLook 21 = .ok (.if_icmp .eq 23, 3) := by decide +kernel
theorem dX0_isLook_24 : decode cX0_isLook 24 = .ok (.iload_n 3, 1) := by decide +kernel
theorem dX0_isLook_25 : decode cX0_isLook 25 = .ok (.iload_n 2, 1) := by decide +kernel
theorem dX0_isLook_26 : decode cX0_isLook 26 = .ok (.if_icmp .eq 18, 3) := by decide +kernel
theorem dX0_isLook_29 : decode cX0_isLook 29 = .ok (.aload_n 0, 1) := by decide +kernel
theorem dX0_isLook_30 : decode cX0_isLook 30 = .ok (.getfield 20, 3) := by decide +kernel
theorem dX0_isLook_33 : decode cX0_isLook 33 = .ok (.iload_n 3, 1) := by decide +kernel
theorem dX0_isLook_34 : decode cX0_isLook 34 = .ok (.invokevirtual 46, 3) := by decide +kernel
theorem dX0_isLook_37 : decode cX0_isLook 37 = .ok (.istore_n 3, 1) := by decide +kernel
theorem dX0_isLook_38 : decode cX0_isLook 38 = .ok (.iinc 4 1, 3) := by decide +kernel
theorem dX0_isLook_41 : decode cX0_isLook 41 = .ok (.goto (-29), 3) := by decide +kernel
theorem dX0_isLook_44 : decode cX0_isLook 44 = .ok (.iload_n 3, 1) := by decide +kernel
theorem dX0_isLook_45 : decode cX0_isLook 45 = .ok (.iload_n 2, 1) := by decide +kernel
theorem dX0_isLook_46 : decode cX0_isLook 46 = .ok (.if_icmp .ne 7, 3) := by decide +kernel
theorem dX0_isLook_49 : decode cX0_isLook 49 = .ok (.iconst 1, 1) := by decide +kernel
theorem dX0_isLook_50 : decode cX0_isLook 50 = .ok (.goto 4, 3) := by decide +kernel
theorem dX0_isLook_53 : decode cX0_isLook 53 = .ok (.iconst 0, 1) := by decide +kernel
theorem dX0_isLook_54 : decode cX0_isLook 54 = .ok (.ireturn, 1) := by decide +kernel
set_option maxRecDepth 20000 in
theorem ggX0_hostOf_X5_at : GoodIn wsX0_hostOf wsX5_at := goodIn_r _ [6, 7, 16] (by decide +kernel) (by decide +kernel)
set_option maxRecDepth 20000 in
theorem gX0_hostOf_X5_at : GoodIn wsX0_hostOf (wsV RX0 46 RX5 yX5_at wsX5_at) := goodIn_app (goodIn_of _ (by decide +kernel)) ggX0_hostOf_X5_at
theorem dX0_hostOf_0 : decode cX0_hostOf 0 = .ok (.aload_n 0, 1) := by decide +kernel
theorem dX0_hostOf_1 : decode cX0_hostOf 1 = .ok (.getfield 20, 3) := by decide +kernel
theorem dX0_hostOf_4 : decode cX0_hostOf 4 = .ok (.iload_n 1, 1) := by decide +kernel
theorem dX0_hostOf_5 : decode cX0_hostOf 5 = .ok (.invokevirtual 46, 3) := by decide +kernel
theorem dX0_hostOf_8 : decode cX0_hostOf 8 = .ok (.ireturn, 1) := by decide +kernel
set_option maxRecDepth 20000 in
theorem ggX0_isFree_X5_at : GoodIn wsX0_isFree wsX5_at := goodIn_r _ [6, 7, 16] (by decide +kernel) (by decide +kernel)
set_option maxRecDepth 20000 in
theorem gX0_isFree_X5_at : GoodIn wsX0_isFree (wsV RX0 46 RX5 yX5_at wsX5_at) := goodIn_app (goodIn_of _ (by decide +kernel)) ggX0_isFree_X5_at
theorem dX0_isFree_0 : decode cX0_isFree 0 = .ok (.aload_n 0, 1) := by decide +kernel
theorem dX0_isFree_1 : decode cX0_isFree 1 = .ok (.getfield 20, 3) := by decide +kernel
theorem dX0_isFree_4 : decode cX0_isFree 4 = .ok (.iload_n 1, 1) := by decide +kernel
theorem dX0_isFree_5 : decode cX0_isFree 5 = .ok (.invokevirtual 46, 3) := by decide +kernel
theorem dX0_isFree_8 : decode cX0_isFree 8 = .ok (.iconst (-1), 1) := by decide +kernel
theorem dX0_isFree_9 : decode cX0_isFree 9 = .ok (.if_icmp .ne 7, 3) := by decide +kernel
theorem dX0_isFree_12 : decode cX0_isFree 12 = .ok (.iconst 1, 1) := by decide +kernel
theorem dX0_isFree_13 : decode cX0_isFree 13 = .ok (.goto 4, 3) := by decide +kernel
theorem dX0_isFree_16 : decode cX0_isFree 16 = .ok (.iconst 0, 1) := by decide +kernel
theorem dX0_isFree_17 : decode cX0_isFree 17 = .ok (.ireturn, 1) := by decide +kernel
set_option maxRecDepth 20000 in
theorem ggX0_attach_X5_put : GoodIn wsX0_attach wsX5_put := goodIn_r _ [8, 9, 18] (by decide +kernel) (by decide +kernel)
set_option maxRecDepth 20000 in
theorem gX0_attach_X5_put : GoodIn wsX0_attach (wsV RX0 43 RX5 yX5_put wsX5_put) := goodIn_app (goodIn_of _ (by decide +kernel)) ggX0_attach_X5_put
theorem dX0_attach_0 : decode cX0_attach 0 = .ok (.aload_n 0, 1) := by decide +kernel
theorem dX0_attach_1 : decode cX0_attach 1 = .ok (.getfield 20, 3) := by decide +kernel
theorem dX0_attach_4 : decode cX0_attach 4 = .ok (.iload_n 1, 1) := by decide +kernel
theorem dX0_attach_5 : decode cX0_attach 5 = .ok (.iload_n 2, 1) := by decide +kernel
theorem dX0_attach_6 : decode cX0_attach 6 = .ok (.invokevirtual 43, 3) := by decide +kernel
theorem dX0_attach_9 : decode cX0_attach 9 = .ok (.aload_n 0, 1) := by decide +kernel
theorem dX0_attach_10 : decode cX0_attach 10 = .ok (.dup, 1) := by decide +kernel
theorem dX0_attach_11 : decode cX0_attach 11 = .ok (.getfield 50, 3) := by decide +kernel
theorem dX0_attach_14 : decode cX0_attach 14 = .ok (.iconst 1, 1) := by decide +kernel
theorem dX0_attach_15 : decode cX0_attach 15 = .ok (.iadd, 1) := by decide +kernel
theorem dX0_attach_16 : decode cX0_attach 16 = .ok (.putfield 50, 3) := by decide +kernel
theorem dX0_attach_19 : decode cX0_attach 19 = .ok (.aload_n 0, 1) := by decide +kernel
theorem dX0_attach_20 : decode cX0_attach 20 = .ok (.getfield 23, 3) := by decide +kernel
theorem dX0_attach_23 : decode cX0_attach 23 = .ok (.iload_n 1, 1) := by decide +kernel
theorem dX0_attach_24 : decode cX0_attach 24 = .ok (.aload_n 0, 1) := by decide +kernel
theorem dX0_attach_25 : decode cX0_attach 25 = .ok (.getfield 50, 3) := by decide +kernel
theorem dX0_attach_28 : decode cX0_attach 28 = .ok (.invokevirtual 43, 3) := by decide +kernel
theorem dX0_attach_31 : decode cX0_attach 31 = .ok (.return_, 1) := by decide +kernel
set_option maxRecDepth 20000 in
theorem ggX0_free_X5_put : GoodIn wsX0_free wsX5_put := goodIn_r _ [6, 7, 16] (by decide +kernel) (by decide +kernel)
set_option maxRecDepth 20000 in
theorem gX0_free_X5_put : GoodIn wsX0_free (wsV RX0 43 RX5 yX5_put wsX5_put) := goodIn_app (goodIn_of _ (by decide +kernel)) ggX0_free_X5_put
theorem dX0_free_0 : decode cX0_free 0 = .ok (.aload_n 0, 1) := by decide +kernel
theorem dX0_free_1 : decode cX0_free 1 = .ok (.getfield 20, 3) := by decide +kernel
theorem dX0_free_4 : decode cX0_free 4 = .ok (.iload_n 1, 1) := by decide +kernel
theorem dX0_free_5 : decode cX0_free 5 = .ok (.iconst (-1), 1) := by decide +kernel
theorem dX0_free_6 : decode cX0_free 6 = .ok (.invokevirtual 43, 3) := by decide +kernel
theorem dX0_free_9 : decode cX0_free 9 = .ok (.return_, 1) := by decide +kernel
set_option maxRecDepth 20000 in
theorem ggX0_countJoinedTo_X5_at : GoodIn wsX0_countJoinedTo wsX5_at := goodIn_r _ [7, 8, 17] (by decide +kernel) (by decide +kernel)
set_option maxRecDepth 20000 in
theorem gX0_countJoinedTo_X5_at : GoodIn wsX0_countJoinedTo (wsV RX0 46 RX5 yX5_at wsX5_at) := goodIn_app (goodIn_of _ (by decide +kernel)) ggX0_countJoinedTo_X5_at
theorem dX0_countJoinedTo_0 : decode cX0_countJoinedTo 0 = .ok (.iconst 0, 1) := by decide +kernel
theorem dX0_countJoinedTo_1 : decode cX0_countJoinedTo 1 = .ok (.istore_n 2, 1) := by decide +kernel
theorem dX0_countJoinedTo_2 : decode cX0_countJoinedTo 2 = .ok (.iconst 0, 1) := by decide +kernel
theorem dX0_countJoinedTo_3 : decode cX0_countJoinedTo 3 = .ok (.istore_n 3, 1) := by decide +kernel
theorem dX0_countJoinedTo_4 : decode cX0_countJoinedTo 4 = .ok (.iload_n 3, 1) := by decide +kernel
theorem dX0_countJoinedTo_5 : decode cX0_countJoinedTo 5 = .ok (.aload_n 0, 1) := by decide +kernel
theorem dX0_countJoinedTo_6 : decode cX0_countJoinedTo 6 = .ok (.getfield 35, 3) := by decide +kernel
theorem dX0_countJoinedTo_9 : decode cX0_countJoinedTo 9 = .ok (.if_icmp .ge 24, 3) := by decide +kernel
theorem dX0_countJoinedTo_12 : decode cX0_countJoinedTo 12 = .ok (.aload_n 0, 1) := by decide +kernel
theorem dX0_countJoinedTo_13 : decode cX0_countJoinedTo 13 = .ok (.getfield 20, 3) := by decide +kernel
theorem dX0_countJoinedTo_16 : decode cX0_countJoinedTo 16 = .ok (.iload_n 3, 1) := by decide +kernel
theorem dX0_countJoinedTo_17 : decode cX0_countJoinedTo 17 = .ok (.invokevirtual 46, 3) := by decide +kernel
theorem dX0_countJoinedTo_20 : decode cX0_countJoinedTo 20 = .ok (.iload_n 1, 1) := by decide +kernel
theorem dX0_countJoinedTo_21 : decode cX0_countJoinedTo 21 = .ok (.if_icmp .ne 6, 3) := by decide +kernel
theorem dX0_countJoinedTo_24 : decode cX0_countJoinedTo 24 = .ok (.iinc 2 1, 3) := by decide +kernel
theorem dX0_countJoinedTo_27 : decode cX0_countJoinedTo 27 = .ok (.iinc 3 1, 3) := by decide +kernel
theorem dX0_countJoinedTo_30 : decode cX0_countJoinedTo 30 = .ok (.goto (-26), 3) := by decide +kernel
theorem dX0_countJoinedTo_33 : decode cX0_countJoinedTo 33 = .ok (.iload_n 2, 1) := by decide +kernel
theorem dX0_countJoinedTo_34 : decode cX0_countJoinedTo 34 = .ok (.ireturn, 1) := by decide +kernel
set_option maxRecDepth 20000 in
theorem ggX0_latestJoinedTo_X5_at : GoodIn wsX0_latestJoinedTo wsX5_at := goodIn_r _ [8, 9, 18] (by decide +kernel) (by decide +kernel)
set_option maxRecDepth 20000 in
theorem gX0_latestJoinedTo_X5_at : GoodIn wsX0_latestJoinedTo (wsV RX0 46 RX5 yX5_at wsX5_at) := goodIn_app (goodIn_of _ (by decide +kernel)) ggX0_latestJoinedTo_X5_at
theorem dX0_latestJoinedTo_0 : decode cX0_latestJoinedTo 0 = .ok (.iconst (-1), 1) := by decide +kernel
theorem dX0_latestJoinedTo_1 : decode cX0_latestJoinedTo 1 = .ok (.istore_n 2, 1) := by decide +kernel
theorem dX0_latestJoinedTo_2 : decode cX0_latestJoinedTo 2 = .ok (.iconst 0, 1) := by decide +kernel
theorem dX0_latestJoinedTo_3 : decode cX0_latestJoinedTo 3 = .ok (.istore_n 3, 1) := by decide +kernel
theorem dX0_latestJoinedTo_4 : decode cX0_latestJoinedTo 4 = .ok (.iload_n 3, 1) := by decide +kernel
theorem dX0_latestJoinedTo_5 : decode cX0_latestJoinedTo 5 = .ok (.aload_n 0, 1) := by decide +kernel
theorem dX0_latestJoinedTo_6 : decode cX0_latestJoinedTo 6 = .ok (.getfield 35, 3) := by decide +kernel
theorem dX0_latestJoinedTo_9 : decode cX0_latestJoinedTo 9 = .ok (.if_icmp .ge 59, 3) := by decide +kernel
theorem dX0_latestJoinedTo_12 : decode cX0_latestJoinedTo 12 = .ok (.iload_n 2, 1) := by decide +kernel
theorem dX0_latestJoinedTo_13 : decode cX0_latestJoinedTo 13 = .ok (.iconst (-1), 1) := by decide +kernel
theorem dX0_latestJoinedTo_14 : decode cX0_latestJoinedTo 14 = .ok (.if_icmp .eq 22, 3) := by decide +kernel
theorem dX0_latestJoinedTo_17 : decode cX0_latestJoinedTo 17 = .ok (.aload_n 0, 1) := by decide +kernel
theorem dX0_latestJoinedTo_18 : decode cX0_latestJoinedTo 18 = .ok (.getfield 23, 3) := by decide +kernel
theorem dX0_latestJoinedTo_21 : decode cX0_latestJoinedTo 21 = .ok (.iload_n 3, 1) := by decide +kernel
theorem dX0_latestJoinedTo_22 : decode cX0_latestJoinedTo 22 = .ok (.invokevirtual 46, 3) := by decide +kernel
theorem dX0_latestJoinedTo_25 : decode cX0_latestJoinedTo 25 = .ok (.aload_n 0, 1) := by decide +kernel
theorem dX0_latestJoinedTo_26 : decode cX0_latestJoinedTo 26 = .ok (.getfield 23, 3) := by decide +kernel
theorem dX0_latestJoinedTo_29 : decode cX0_latestJoinedTo 29 = .ok (.iload_n 2, 1) := by decide +kernel
theorem dX0_latestJoinedTo_30 : decode cX0_latestJoinedTo 30 = .ok (.invokevirtual 46, 3) := by decide +kernel
theorem dX0_latestJoinedTo_33 : decode cX0_latestJoinedTo 33 = .ok (.if_icmp .le 7, 3) := by decide +kernel
theorem dX0_latestJoinedTo_36 : decode cX0_latestJoinedTo 36 = .ok (.iconst 1, 1) := by decide +kernel
theorem dX0_latestJoinedTo_37 : decode cX0_latestJoinedTo 37 = .ok (.goto 4, 3) := by decide +kernel
theorem dX0_latestJoinedTo_40 : decode cX0_latestJoinedTo 40 = .ok (.iconst 0, 1) := by decide +kernel
theorem dX0_latestJoinedTo_41 : decode cX0_latestJoinedTo 41 = .ok (.istore 4, 2) := by decide +kernel
theorem dX0_latestJoinedTo_43 : decode cX0_latestJoinedTo 43 = .ok (.aload_n 0, 1) := by decide +kernel
theorem dX0_latestJoinedTo_44 : decode cX0_latestJoinedTo 44 = .ok (.getfield 20, 3) := by decide +kernel
theorem dX0_latestJoinedTo_47 : decode cX0_latestJoinedTo 47 = .ok (.iload_n 3, 1) := by decide +kernel
theorem dX0_latestJoinedTo_48 : decode cX0_latestJoinedTo 48 = .ok (.invokevirtual 46, 3) := by decide +kernel
theorem dX0_latestJoinedTo_51 : decode cX0_latestJoinedTo 51 = .ok (.iload_n 1, 1) := by decide +kernel
theorem dX0_latestJoinedTo_52 : decode cX0_latestJoinedTo 52 = .ok (.if_icmp .ne 10, 3) := by decide +kernel
theorem dX0_latestJoinedTo_55 : decode cX0_latestJoinedTo 55 = .ok (.iload 4, 2) := by decide +kernel
theorem dX0_latestJoinedTo_57 : decode cX0_latestJoinedTo 57 = .ok (.ifCond .eq 5, 3) := by decide +kernel
theorem dX0_latestJoinedTo_60 : decode cX0_latestJoinedTo 60 = .ok (.iload_n 3, 1) := by decide +kernel
theorem dX0_latestJoinedTo_61 : decode cX0_latestJoinedTo 61 = .ok (.istore_n 2, 1) := by decide +kernel
theorem dX0_latestJoinedTo_62 : decode cX0_latestJoinedTo 62 = .ok (.iinc 3 1, 3) := by decide +kernel
theorem dX0_latestJoinedTo_65 : decode cX0_latestJoinedTo 65 = .ok (.goto (-61), 3) := by decide +kernel
theorem dX0_latestJoinedTo_68 : decode cX0_latestJoinedTo 68 = .ok (.iload_n 2, 1) := by decide +kernel
theorem dX0_latestJoinedTo_69 : decode cX0_latestJoinedTo 69 = .ok (.ireturn, 1) := by decide +kernel
set_option maxRecDepth 20000 in
theorem ggX0_giveNumber_X5_put : GoodIn wsX0_giveNumber wsX5_put := goodIn_r _ [8, 9, 18] (by decide +kernel) (by decide +kernel)
set_option maxRecDepth 20000 in
theorem gX0_giveNumber_X5_put : GoodIn wsX0_giveNumber (wsV RX0 43 RX5 yX5_put wsX5_put) := goodIn_app (goodIn_of _ (by decide +kernel)) ggX0_giveNumber_X5_put
theorem dX0_giveNumber_0 : decode cX0_giveNumber 0 = .ok (.aload_n 0, 1) := by decide +kernel
theorem dX0_giveNumber_1 : decode cX0_giveNumber 1 = .ok (.dup, 1) := by decide +kernel
theorem dX0_giveNumber_2 : decode cX0_giveNumber 2 = .ok (.getfield 53, 3) := by decide +kernel
theorem dX0_giveNumber_5 : decode cX0_giveNumber 5 = .ok (.iconst 1, 1) := by decide +kernel
theorem dX0_giveNumber_6 : decode cX0_giveNumber 6 = .ok (.iadd, 1) := by decide +kernel
theorem dX0_giveNumber_7 : decode cX0_giveNumber 7 = .ok (.putfield 53, 3) := by decide +kernel
theorem dX0_giveNumber_10 : decode cX0_giveNumber 10 = .ok (.aload_n 0, 1) := by decide +kernel
theorem dX0_giveNumber_11 : decode cX0_giveNumber 11 = .ok (.getfield 26, 3) := by decide +kernel
theorem dX0_giveNumber_14 : decode cX0_giveNumber 14 = .ok (.iload_n 1, 1) := by decide +kernel
theorem dX0_giveNumber_15 : decode cX0_giveNumber 15 = .ok (.aload_n 0, 1) := by decide +kernel
theorem dX0_giveNumber_16 : decode cX0_giveNumber 16 = .ok (.getfield 53, 3) := by decide +kernel
theorem dX0_giveNumber_19 : decode cX0_giveNumber 19 = .ok (.invokevirtual 43, 3) := by decide +kernel
theorem dX0_giveNumber_22 : decode cX0_giveNumber 22 = .ok (.aload_n 0, 1) := by decide +kernel
theorem dX0_giveNumber_23 : decode cX0_giveNumber 23 = .ok (.getfield 29, 3) := by decide +kernel
theorem dX0_giveNumber_26 : decode cX0_giveNumber 26 = .ok (.iload_n 1, 1) := by decide +kernel
theorem dX0_giveNumber_27 : decode cX0_giveNumber 27 = .ok (.iload_n 2, 1) := by decide +kernel
theorem dX0_giveNumber_28 : decode cX0_giveNumber 28 = .ok (.invokevirtual 43, 3) := by decide +kernel
theorem dX0_giveNumber_31 : decode cX0_giveNumber 31 = .ok (.aload_n 0, 1) := by decide +kernel
theorem dX0_giveNumber_32 : decode cX0_giveNumber 32 = .ok (.getfield 53, 3) := by decide +kernel
theorem dX0_giveNumber_35 : decode cX0_giveNumber 35 = .ok (.ireturn, 1) := by decide +kernel
set_option maxRecDepth 20000 in
theorem ggX0_numberOf_X5_at : GoodIn wsX0_numberOf wsX5_at := goodIn_r _ [6, 7, 16] (by decide +kernel) (by decide +kernel)
set_option maxRecDepth 20000 in
theorem gX0_numberOf_X5_at : GoodIn wsX0_numberOf (wsV RX0 46 RX5 yX5_at wsX5_at) := goodIn_app (goodIn_of _ (by decide +kernel)) ggX0_numberOf_X5_at
theorem dX0_numberOf_0 : decode cX0_numberOf 0 = .ok (.aload_n 0, 1) := by decide +kernel
theorem dX0_numberOf_1 : decode cX0_numberOf 1 = .ok (.getfield 26, 3) := by decide +kernel
theorem dX0_numberOf_4 : decode cX0_numberOf 4 = .ok (.iload_n 1, 1) := by decide +kernel
theorem dX0_numberOf_5 : decode cX0_numberOf 5 = .ok (.invokevirtual 46, 3) := by decide +kernel
theorem dX0_numberOf_8 : decode cX0_numberOf 8 = .ok (.ireturn, 1) := by decide +kernel
set_option maxRecDepth 20000 in
theorem ggX0_withNumber_X5_at : GoodIn wsX0_withNumber wsX5_at := goodIn_r _ [7, 8, 17] (by decide +kernel) (by decide +kernel)
set_option maxRecDepth 20000 in
theorem gX0_withNumber_X5_at : GoodIn wsX0_withNumber (wsV RX0 46 RX5 yX5_at wsX5_at) := goodIn_app (goodIn_of _ (by decide +kernel)) ggX0_withNumber_X5_at
theorem dX0_withNumber_0 : decode cX0_withNumber 0 = .ok (.iconst 0, 1) := by decide +kernel
theorem dX0_withNumber_1 : decode cX0_withNumber 1 = .ok (.istore_n 2, 1) := by decide +kernel
theorem dX0_withNumber_2 : decode cX0_withNumber 2 = .ok (.iload_n 2, 1) := by decide +kernel
theorem dX0_withNumber_3 : decode cX0_withNumber 3 = .ok (.aload_n 0, 1) := by decide +kernel
theorem dX0_withNumber_4 : decode cX0_withNumber 4 = .ok (.getfield 35, 3) := by decide +kernel
theorem dX0_withNumber_7 : decode cX0_withNumber 7 = .ok (.if_icmp .ge 23, 3) := by decide +kernel
theorem dX0_withNumber_10 : decode cX0_withNumber 10 = .ok (.aload_n 0, 1) := by decide +kernel
theorem dX0_withNumber_11 : decode cX0_withNumber 11 = .ok (.getfield 26, 3) := by decide +kernel
theorem dX0_withNumber_14 : decode cX0_withNumber 14 = .ok (.iload_n 2, 1) := by decide +kernel
theorem dX0_withNumber_15 : decode cX0_withNumber 15 = .ok (.invokevirtual 46, 3) := by decide +kernel
theorem dX0_withNumber_18 : decode cX0_withNumber 18 = .ok (.iload_n 1, 1) := by decide +kernel
theorem dX0_withNumber_19 : decode cX0_withNumber 19 = .ok (.if_icmp .ne 5, 3) := by decide +kernel
theorem dX0_withNumber_22 : decode cX0_withNumber 22 = .ok (.iload_n 2, 1) := by decide +kernel
theorem dX0_withNumber_23 : decode cX0_withNumber 23 = .ok (.ireturn, 1) := by decide +kernel
theorem dX0_withNumber_24 : decode cX0_withNumber 24 = .ok (.iinc 2 1, 3) := by decide +kernel
theorem dX0_withNumber_27 : decode cX0_withNumber 27 = .ok (.goto (-25), 3) := by decide +kernel
theorem dX0_withNumber_30 : decode cX0_withNumber 30 = .ok (.iconst (-1), 1) := by decide +kernel
theorem dX0_withNumber_31 : decode cX0_withNumber 31 = .ok (.ireturn, 1) := by decide +kernel
set_option maxRecDepth 20000 in
theorem ggX0_properCourseOf_X5_at : GoodIn wsX0_properCourseOf wsX5_at := goodIn_r _ [6, 7, 16] (by decide +kernel) (by decide +kernel)
set_option maxRecDepth 20000 in
theorem gX0_properCourseOf_X5_at : GoodIn wsX0_properCourseOf (wsV RX0 46 RX5 yX5_at wsX5_at) := goodIn_app (goodIn_of _ (by decide +kernel)) ggX0_properCourseOf_X5_at
theorem dX0_properCourseOf_0 : decode cX0_properCourseOf 0 = .ok (.aload_n 0, 1) := by decide +kernel
theorem dX0_properCourseOf_1 : decode cX0_properCourseOf 1 = .ok (.getfield 29, 3) := by decide +kernel
theorem dX0_properCourseOf_4 : decode cX0_properCourseOf 4 = .ok (.iload_n 1, 1) := by decide +kernel
theorem dX0_properCourseOf_5 : decode cX0_properCourseOf 5 = .ok (.invokevirtual 46, 3) := by decide +kernel
theorem dX0_properCourseOf_8 : decode cX0_properCourseOf 8 = .ok (.ireturn, 1) := by decide +kernel
set_option maxRecDepth 20000 in
theorem ggX1_init_X5_init : GoodIn wsX1_init wsX5_init := goodIn_r _ [10, 11, 2, 3, 12, 13, 14] (by decide +kernel) (by decide +kernel)
set_option maxRecDepth 20000 in
theorem gX1_init_X5_init : GoodIn wsX1_init (wsX5_init) := ggX1_init_X5_init
theorem dX1_init_0 : decode cX1_init 0 = .ok (.aload_n 0, 1) := by decide +kernel
theorem dX1_init_1 : decode cX1_init 1 = .ok (.invokespecial 3, 3) := by decide +kernel
theorem dX1_init_4 : decode cX1_init 4 = .ok (.aload_n 0, 1) := by decide +kernel
theorem dX1_init_5 : decode cX1_init 5 = .ok (.new 9, 3) := by decide +kernel
theorem dX1_init_8 : decode cX1_init 8 = .ok (.dup, 1) := by decide +kernel
theorem dX1_init_9 : decode cX1_init 9 = .ok (.bipush 20, 2) := by decide +kernel
theorem dX1_init_11 : decode cX1_init 11 = .ok (.invokespecial 11, 3) := by decide +kernel
theorem dX1_init_14 : decode cX1_init 14 = .ok (.putfield 14, 3) := by decide +kernel
theorem dX1_init_17 : decode cX1_init 17 = .ok (.return_, 1) := by decide +kernel
set_option maxRecDepth 20000 in
theorem ggX1_lowestNumberWith_X5_at : GoodIn wsX1_lowestNumberWith wsX5_at := goodIn_r _ [6, 7, 9] (by decide +kernel) (by decide +kernel)
set_option maxRecDepth 20000 in
theorem gX1_lowestNumberWith_X5_at : GoodIn wsX1_lowestNumberWith (wsV RX1 20 RX5 yX5_at wsX5_at) := goodIn_app (goodIn_of _ (by decide +kernel)) ggX1_lowestNumberWith_X5_at
theorem dX1_lowestNumberWith_0 : decode cX1_lowestNumberWith 0 = .ok (.aload_n 0, 1) := by decide +kernel
theorem dX1_lowestNumberWith_1 : decode cX1_lowestNumberWith 1 = .ok (.getfield 14, 3) := by decide +kernel
theorem dX1_lowestNumberWith_4 : decode cX1_lowestNumberWith 4 = .ok (.iload_n 1, 1) := by decide +kernel
theorem dX1_lowestNumberWith_5 : decode cX1_lowestNumberWith 5 = .ok (.invokevirtual 20, 3) := by decide +kernel
theorem dX1_lowestNumberWith_8 : decode cX1_lowestNumberWith 8 = .ok (.ireturn, 1) := by decide +kernel
set_option maxRecDepth 20000 in
theorem ggX1_findFamilies_X0_numberOf : GoodIn wsX1_findFamilies wsX0_numberOf := goodIn_r _ [6, 7, 8, 9, 10, 11, 12, 13, 44, 45, 46, 47, 48, 49, 50, 51, 53] (by decide +kernel) (by decide +kernel)
set_option maxRecDepth 20000 in
theorem gX1_findFamilies_X0_numberOf : GoodIn wsX1_findFamilies (wsV RX1 30 RX0 yX0_numberOf wsX0_numberOf) := goodIn_app (goodIn_of _ (by decide +kernel)) ggX1_findFamilies_X0_numberOf
set_option maxRecDepth 20000 in
theorem ggX1_findFamilies_X5_put : GoodIn wsX1_findFamilies wsX5_put := goodIn_r _ [17, 13, 53] (by decide +kernel) (by decide +kernel)
set_option maxRecDepth 20000 in
theorem gX1_findFamilies_X5_put : GoodIn wsX1_findFamilies (wsV RX1 33 RX5 yX5_put wsX5_put) := goodIn_app (goodIn_of _ (by decide +kernel)) ggX1_findFamilies_X5_put
set_option maxRecDepth 20000 in
theorem ggX1_findFamilies_X1_spreadLowest : GoodIn wsX1_findFamilies wsX1_spreadLowest := goodIn_r _ [22, 1, 23, 24, 25, 26, 27, 28, 21, 29, 30, 31, 32, 2, 3, 4, 5, 6, 7, 8, 9, 10, 11, 12, 13, 33, 34, 35, 36, 37, 38, 39, 40, 41, 42, 43, 14, 15, 16, 17, 44, 45, 46, 47, 48, 49, 50, 51, 52, 53] (by decide +kernel) (by decide +kernel)
set_option maxRecDepth 20000 in
theorem gX1_findFamilies_X1_spreadLowest : GoodIn wsX1_findFamilies (wsV RX1 37 RX1 yX1_spreadLowest wsX1_spreadLowest) := goodIn_app (goodIn_of _ (by decide +kernel)) ggX1_findFamilies_X1_spreadLowest
theorem dX1_findFamilies_0 : decode cX1_findFamilies 0 = .ok (.iconst 0, 1) := by decide +kernel
theorem dX1_findFamilies_1 : decode cX1_findFamilies 1 = .ok (.istore_n 3, 1) := by decide +kernel
theorem dX1_findFamilies_2 : decode cX1_findFamilies 2 = .ok (.iload_n 3, 1) := by decide +kernel
theorem dX1_findFamilies_3 : decode cX1_findFamilies 3 = .ok (.aload_n 1, 1) := by decide +kernel
theorem dX1_findFamilies_4 : decode cX1_findFamilies 4 = .ok (.getfield 24, 3) := by decide +kernel
theorem dX1_findFamilies_7 : decode cX1_findFamilies 7 = .ok (.if_icmp .ge 22, 3) := by decide +kernel
theorem dX1_findFamilies_10 : decode cX1_findFamilies 10 = .ok (.aload_n 0, 1) := by decide +kernel
theorem dX1_findFamilies_11 : decode cX1_findFamilies 11 = .ok (.getfield 14, 3) := by decide +kernel
theorem dX1_findFamilies_14 : decode cX1_findFamilies 14 = .ok (.iload_n 3, 1) := by decide +kernel
theorem dX1_findFamilies_15 : decode cX1_findFamilies 15 = .ok (.aload_n 1, 1) := by decide +kernel
theorem dX1_findFamilies_16 : decode cX1_findFamilies 16 = .ok (.iload_n 3, 1) := by decide +kernel
theorem dX1_findFamilies_17 : decode cX1_findFamilies 17 = .ok (.invokevirtual 30, 3) := by decide +kernel
theorem dX1_findFamilies_20 : decode cX1_findFamilies 20 = .ok (.invokevirtual 33, 3) := by decide +kernel
theorem dX1_findFamilies_23 : decode cX1_findFamilies 23 = .ok (.iinc 3 1, 3) := by decide +kernel
theorem dX1_findFamilies_26 : decode cX1_findFamilies 26 = .ok (.goto (-24), 3) := by decide +kernel
theorem dX1_findFamilies_29 : decode cX1_findFamilies 29 = .ok (.iconst 0, 1) := by decide +kernel
theorem dX1_findFamilies_30 : decode cX1_findFamilies 30 = .ok (.istore_n 3, 1) := by decide +kernel
theorem dX1_findFamilies_31 : decode cX1_findFamilies 31 = .ok (.iload_n 3, 1) := by decide +kernel
theorem dX1_findFamilies_32 : decode cX1_findFamilies 32 = .ok (.aload_n 1, 1) := by decide +kernel
theorem dX1_findFamilies_33 : decode cX1_findFamilies 33 = .ok (.getfield 24, 3) := by decide +kernel
theorem dX1_findFamilies_36 : decode cX1_findFamilies 36 = .ok (.if_icmp .ge 15, 3) := by decide +kernel
theorem dX1_findFamilies_39 : decode cX1_findFamilies 39 = .ok (.aload_n 0, 1) := by decide +kernel
theorem dX1_findFamilies_40 : decode cX1_findFamilies 40 = .ok (.aload_n 1, 1) := by decide +kernel
theorem dX1_findFamilies_41 : decode cX1_findFamilies 41 = .ok (.iload_n 2, 1) := by decide +kernel
theorem dX1_findFamilies_42 : decode cX1_findFamilies 42 = .ok (.invokevirtual 37, 3) := by decide +kernel
theorem dX1_findFamilies_45 : decode cX1_findFamilies 45 = .ok (.iinc 3 1, 3) := by decide +kernel
theorem dX1_findFamilies_48 : decode cX1_findFamilies 48 = .ok (.goto (-17), 3) := by decide +kernel
theorem dX1_findFamilies_51 : decode cX1_findFamilies 51 = .ok (.return_, 1) := by decide +kernel
set_option maxRecDepth 20000 in
theorem ggX1_spreadLowest_X1_areAkin : GoodIn wsX1_spreadLowest wsX1_areAkin := goodIn_r _ [9, 10, 11, 4, 12, 13, 14, 15, 16, 17, 18, 19, 20, 21, 22, 23, 24, 25, 26, 27, 28, 29, 30, 31, 32, 33, 34, 40, 41, 42, 43, 44, 45, 46, 47, 49] (by decide +kernel) (by decide +kernel)
set_option maxRecDepth 20000 in
theorem gX1_spreadLowest_X1_areAkin : GoodIn wsX1_spreadLowest (va_wsS RX1 41 yX1_areAkin wsX1_areAkin) := goodIn_app (goodIn_of _ (by decide +kernel)) ggX1_spreadLowest_X1_areAkin
set_option maxRecDepth 20000 in
theorem ggX1_spreadLowest_X5_at : GoodIn wsX1_spreadLowest wsX5_at := goodIn_r _ [23, 24, 49] (by decide +kernel) (by decide +kernel)
set_option maxRecDepth 20000 in
theorem gX1_spreadLowest_X5_at : GoodIn wsX1_spreadLowest (wsV RX1 20 RX5 yX5_at wsX5_at) := goodIn_app (goodIn_of _ (by decide +kernel)) ggX1_spreadLowest_X5_at
set_option maxRecDepth 20000 in
theorem ggX1_spreadLowest_X5_put : GoodIn wsX1_spreadLowest wsX5_put := goodIn_r _ [39, 24, 49] (by decide +kernel) (by decide +kernel)
set_option maxRecDepth 20000 in
theorem gX1_spreadLowest_X5_put : GoodIn wsX1_spreadLowest (wsV RX1 33 RX5 yX5_put wsX5_put) := goodIn_app (goodIn_of _ (by decide +kernel)) ggX1_spreadLowest_X5_put
theorem dX1_spreadLowest_0 : decode cX1_spreadLowest 0 = .ok (.iconst 0, 1) := by decide +kernel
theorem dX1_spreadLowest_1 : decode cX1_spreadLowest 1 = .ok (.istore_n 3, 1) := by decide +kernel
theorem dX1_spreadLowest_2 : decode cX1_spreadLowest 2 = .ok (.iload_n 3, 1) := by decide +kernel
theorem dX1_spreadLowest_3 : decode cX1_spreadLowest 3 = .ok (.aload_n 1, 1) := by decide +kernel
theorem dX1_spreadLowest_4 : decode cX1_spreadLowest 4 = .ok (.getfield 24, 3) := by decide +kernel
theorem dX1_spreadLowest_7 : decode cX1_spreadLowest 7 = .ok (.if_icmp .ge 78, 3) := by decide +kernel
theorem dX1_spreadLowest_10 : decode cX1_spreadLowest 10 = .ok (.iconst 0, 1) := by decide +kernel
theorem dX1_spreadLowest_11 : decode cX1_spreadLowest 11 = .ok (.istore 4, 2) := by decide +kernel
theorem dX1_spreadLowest_13 : decode cX1_spreadLowest 13 = .ok (.iload 4, 2) := by decide +kernel
theorem dX1_spreadLowest_15 : decode cX1_spreadLowest 15 = .ok (.iload_n 3, 1) := by decide +kernel
theorem dX1_spreadLowest_16 : decode cX1_spreadLowest 16 = .ok (.if_icmp .ge 63, 3) := by decide +kernel
theorem dX1_spreadLowest_19 : decode cX1_spreadLowest 19 = .ok (.aload_n 1, 1) := by decide +kernel
theorem dX1_spreadLowest_20 : decode cX1_spreadLowest 20 = .ok (.iload_n 3, 1) := by decide +kernel
theorem dX1_spreadLowest_21 : decode cX1_spreadLowest 21 = .ok (.iload 4, 2) := by decide +kernel
theorem dX1_spreadLowest_23 : decode cX1_spreadLowest 23 = .ok (.iload_n 2, 1) := by decide +kernel
theorem dX1_spreadLowest_24 : decode cX1_spreadLowest 24 = .ok (.invokestatic 41, 3) := by decide +kernel
theorem dX1_spreadLowest_27 : decode cX1_spreadLowest 27 = .ok (.ifCond .eq 46, 3) := by decide +kernel
theorem dX1_spreadLowest_30 : decode cX1_spreadLowest 30 = .ok (.aload_n 0, 1) := by decide +kernel
theorem dX1_spreadLowest_31 : decode cX1_spreadLowest 31 = .ok (.getfield 14, 3) := by decide +kernel
theorem dX1_spreadLowest_34 : decode cX1_spreadLowest 34 = .ok (.iload_n 3, 1) := by decide +kernel
theorem dX1_spreadLowest_35 : decode cX1_spreadLowest 35 = .ok (.invokevirtual 20, 3) := by decide +kernel
theorem dX1_spreadLowest_38 : decode cX1_spreadLowest 38 = .ok (.aload_n 0, 1) := by decide +kernel
theorem dX1_spreadLowest_39 : decode cX1_spreadLowest 39 = .ok (.getfield 14, 3) := by decide +kernel
theorem dX1_spreadLowest_42 : decode cX1_spreadLowest 42 = .ok (.iload 4, 2) := by decide +kernel
theorem dX1_spreadLowest_44 : decode cX1_spreadLowest 44 = .ok (.invokevirtual 20, 3) := by decide +kernel
theorem dX1_spreadLowest_47 : decode cX1_spreadLowest 47 = .ok (.invokestatic 45, 3) := by decide +kernel
theorem dX1_spreadLowest_50 : decode cX1_spreadLowest 50 = .ok (.istore 5, 2) := by decide +kernel
theorem dX1_spreadLowest_52 : decode cX1_spreadLowest 52 = .ok (.aload_n 0, 1) := by decide +kernel
theorem dX1_spreadLowest_53 : decode cX1_spreadLowest 53 = .ok (.getfield 14, 3) := by decide +kernel
theorem dX1_spreadLowest_56 : decode cX1_spreadLowest 56 = .ok (.iload_n 3, 1) := by decide +kernel
theorem dX1_spreadLowest_57 : decode cX1_spreadLowest 57 = .ok (.iload 5, 2) := by decide +kernel
theorem dX1_spreadLowest_59 : decode cX1_spreadLowest 59 = .ok (.invokevirtual 33, 3) := by decide +kernel
theorem dX1_spreadLowest_62 : decode cX1_spreadLowest 62 = .ok (.aload_n 0, 1) := by decide +kernel
theorem dX1_spreadLowest_63 : decode cX1_spreadLowest 63 = .ok (.getfield 14, 3) := by decide +kernel
theorem dX1_spreadLowest_66 : decode cX1_spreadLowest 66 = .ok (.iload 4, 2) := by decide +kernel
theorem dX1_spreadLowest_68 : decode cX1_spreadLowest 68 = .ok (.iload 5, 2) := by decide +kernel
theorem dX1_spreadLowest_70 : decode cX1_spreadLowest 70 = .ok (.invokevirtual 33, 3) := by decide +kernel
theorem dX1_spreadLowest_73 : decode cX1_spreadLowest 73 = .ok (.iinc 4 1, 3) := by decide +kernel
theorem dX1_spreadLowest_76 : decode cX1_spreadLowest 76 = .ok (.goto (-63), 3) := by decide +kernel
theorem dX1_spreadLowest_79 : decode cX1_spreadLowest 79 = .ok (.iinc 3 1, 3) := by decide +kernel
theorem dX1_spreadLowest_82 : decode cX1_spreadLowest 82 = .ok (.goto (-80), 3) := by decide +kernel
theorem dX1_spreadLowest_85 : decode cX1_spreadLowest 85 = .ok (.return_, 1) := by decide +kernel
set_option maxRecDepth 20000 in
theorem ggX1_areAkin_X0_numberOf : GoodIn wsX1_areAkin wsX0_numberOf := goodIn_r _ [9, 10, 11, 12, 13, 14, 15, 16, 27, 28, 29, 30, 31, 32, 33, 34, 35] (by decide +kernel) (by decide +kernel)
set_option maxRecDepth 20000 in
theorem gX1_areAkin_X0_numberOf : GoodIn wsX1_areAkin (wsV RX1 30 RX0 yX0_numberOf wsX0_numberOf) := goodIn_app (goodIn_of _ (by decide +kernel)) ggX1_areAkin_X0_numberOf
set_option maxRecDepth 20000 in
theorem ggX1_areAkin_X0_properCourseOf : GoodIn wsX1_areAkin wsX0_properCourseOf := goodIn_r _ [20, 21, 11, 12, 13, 14, 15, 16, 27, 28, 29, 30, 31, 32, 33, 34, 35] (by decide +kernel) (by decide +kernel)
set_option maxRecDepth 20000 in
theorem gX1_areAkin_X0_properCourseOf : GoodIn wsX1_areAkin (wsV RX1 51 RX0 yX0_properCourseOf wsX0_properCourseOf) := goodIn_app (goodIn_of _ (by decide +kernel)) ggX1_areAkin_X0_properCourseOf
set_option maxRecDepth 20000 in
theorem ggX1_areAkin_X7_bOf : GoodIn wsX1_areAkin wsX7_bOf := goodIn_r _ [24] (by decide +kernel) (by decide +kernel)
set_option maxRecDepth 20000 in
theorem gX1_areAkin_X7_bOf_n54 : GoodIn wsX1_areAkin (wsX7_bOf) := ggX1_areAkin_X7_bOf
set_option maxRecDepth 20000 in
theorem ggX1_areAkin_X7_cOf : GoodIn wsX1_areAkin wsX7_cOf := goodIn_r _ [26] (by decide +kernel) (by decide +kernel)
set_option maxRecDepth 20000 in
theorem gX1_areAkin_X7_cOf_n60 : GoodIn wsX1_areAkin (wsX7_cOf) := ggX1_areAkin_X7_cOf
theorem dX1_areAkin_0 : decode cX1_areAkin 0 = .ok (.aload_n 0, 1) := by decide +kernel
theorem dX1_areAkin_1 : decode cX1_areAkin 1 = .ok (.iload_n 1, 1) := by decide +kernel
theorem dX1_areAkin_2 : decode cX1_areAkin 2 = .ok (.invokevirtual 30, 3) := by decide +kernel
theorem dX1_areAkin_5 : decode cX1_areAkin 5 = .ok (.iconst (-1), 1) := by decide +kernel
theorem dX1_areAkin_6 : decode cX1_areAkin 6 = .ok (.if_icmp .eq 12, 3) := by decide +kernel
theorem dX1_areAkin_9 : decode cX1_areAkin 9 = .ok (.aload_n 0, 1) := by decide +kernel
theorem dX1_areAkin_10 : decode cX1_areAkin 10 = .ok (.iload_n 2, 1) := by decide +kernel
theorem dX1_areAkin_11 : decode cX1_areAkin 11 = .ok (.invokevirtual 30, 3) := by decide +kernel
theorem dX1_areAkin_14 : decode cX1_areAkin 14 = .ok (.iconst (-1), 1) := by decide +kernel
theorem dX1_areAkin_15 : decode cX1_areAkin 15 = .ok (.if_icmp .ne 5, 3) := by decide +kernel
theorem dX1_areAkin_18 : decode cX1_areAkin 18 = .ok (.iconst 0, 1) := by decide +kernel
theorem dX1_areAkin_19 : decode cX1_areAkin 19 = .ok (.ireturn, 1) := by decide +kernel
theorem dX1_areAkin_20 : decode cX1_areAkin 20 = .ok (.aload_n 0, 1) := by decide +kernel
theorem dX1_areAkin_21 : decode cX1_areAkin 21 = .ok (.iload_n 1, 1) := by decide +kernel
theorem dX1_areAkin_22 : decode cX1_areAkin 22 = .ok (.invokevirtual 51, 3) := by decide +kernel
theorem dX1_areAkin_25 : decode cX1_areAkin 25 = .ok (.istore 4, 2) := by decide +kernel
theorem dX1_areAkin_27 : decode cX1_areAkin 27 = .ok (.aload_n 0, 1) := by decide +kernel
theorem dX1_areAkin_28 : decode cX1_areAkin 28 = .ok (.iload_n 2, 1) := by decide +kernel
theorem dX1_areAkin_29 : decode cX1_areAkin 29 = .ok (.invokevirtual 51, 3) := by decide +kernel
theorem dX1_areAkin_32 : decode cX1_areAkin 32 = .ok (.istore 5, 2) := by decide +kernel
theorem dX1_areAkin_34 : decode cX1_areAkin 34 = .ok (.iload 4, 2) := by decide +kernel
theorem dX1_areAkin_36 : decode cX1_areAkin 36 = .ok (.invokestatic 54, 3) := by decide +kernel
theorem dX1_areAkin_39 : decode cX1_areAkin 39 = .ok (.iload 5, 2) := by decide +kernel
theorem dX1_areAkin_41 : decode cX1_areAkin 41 = .ok (.invokestatic 54, 3) := by decide +kernel
theorem dX1_areAkin_44 : decode cX1_areAkin 44 = .ok (.isub, 1) := by decide +kernel
theorem dX1_areAkin_45 : decode cX1_areAkin 45 = .ok (.invokestatic 57, 3) := by decide +kernel
theorem dX1_areAkin_48 : decode cX1_areAkin 48 = .ok (.istore 6, 2) := by decide +kernel
theorem dX1_areAkin_50 : decode cX1_areAkin 50 = .ok (.iload 4, 2) := by decide +kernel
theorem dX1_areAkin_52 : decode cX1_areAkin 52 = .ok (.invokestatic 60, 3) := by decide +kernel
theorem dX1_areAkin_55 : decode cX1_areAkin 55 = .ok (.iload 5, 2) := by decide +kernel
theorem dX1_areAkin_57 : decode cX1_areAkin 57 = .ok (.invokestatic 60, 3) := by decide +kernel
theorem dX1_areAkin_60 : decode cX1_areAkin 60 = .ok (.isub, 1) := by decide +kernel
theorem dX1_areAkin_61 : decode cX1_areAkin 61 = .ok (.invokestatic 57, 3) := by decide +kernel
theorem dX1_areAkin_64 : decode cX1_areAkin 64 = .ok (.istore 7, 2) := by decide +kernel
theorem dX1_areAkin_66 : decode cX1_areAkin 66 = .ok (.iload 6, 2) := by decide +kernel
theorem dX1_areAkin_68 : decode cX1_areAkin 68 = .ok (.iconst 5, 1) := by decide +kernel
theorem dX1_areAkin_69 : decode cX1_areAkin 69 = .ok (.iload 7, 2) := by decide +kernel
theorem dX1_areAkin_71 : decode cX1_areAkin 71 = .ok (.imul, 1) := by decide +kernel
theorem dX1_areAkin_72 : decode cX1_areAkin 72 = .ok (.iadd, 1) := by decide +kernel
theorem dX1_areAkin_73 : decode cX1_areAkin 73 = .ok (.iload_n 3, 1) := by decide +kernel
theorem dX1_areAkin_74 : decode cX1_areAkin 74 = .ok (.if_icmp .gt 7, 3) := by decide +kernel
theorem dX1_areAkin_77 : decode cX1_areAkin 77 = .ok (.iconst 1, 1) := by decide +kernel
theorem dX1_areAkin_78 : decode cX1_areAkin 78 = .ok (.goto 4, 3) := by decide +kernel
theorem dX1_areAkin_81 : decode cX1_areAkin 81 = .ok (.iconst 0, 1) := by decide +kernel
theorem dX1_areAkin_82 : decode cX1_areAkin 82 = .ok (.ireturn, 1) := by decide +kernel
set_option maxRecDepth 20000 in
theorem ggX2_init_X5_init : GoodIn wsX2_init wsX5_init := goodIn_r _ [10, 11, 2, 3, 12, 13, 14] (by decide +kernel) (by decide +kernel)
set_option maxRecDepth 20000 in
theorem gX2_init_X5_init : GoodIn wsX2_init (wsX5_init) := ggX2_init_X5_init
theorem dX2_init_0 : decode cX2_init 0 = .ok (.aload_n 0, 1) := by decide +kernel
theorem dX2_init_1 : decode cX2_init 1 = .ok (.invokespecial 3, 3) := by decide +kernel
theorem dX2_init_4 : decode cX2_init 4 = .ok (.aload_n 0, 1) := by decide +kernel
theorem dX2_init_5 : decode cX2_init 5 = .ok (.new 9, 3) := by decide +kernel
theorem dX2_init_8 : decode cX2_init 8 = .ok (.dup, 1) := by decide +kernel
theorem dX2_init_9 : decode cX2_init 9 = .ok (.bipush 60, 2) := by decide +kernel
theorem dX2_init_11 : decode cX2_init 11 = .ok (.invokespecial 11, 3) := by decide +kernel
theorem dX2_init_14 : decode cX2_init 14 = .ok (.putfield 14, 3) := by decide +kernel
theorem dX2_init_17 : decode cX2_init 17 = .ok (.return_, 1) := by decide +kernel
set_option maxRecDepth 20000 in
theorem ggX2_add_X5_put : GoodIn wsX2_add wsX5_put := goodIn_r _ [7, 8, 11] (by decide +kernel) (by decide +kernel)
set_option maxRecDepth 20000 in
theorem gX2_add_X5_put : GoodIn wsX2_add (wsV RX2 24 RX5 yX5_put wsX5_put) := goodIn_app (goodIn_of _ (by decide +kernel)) ggX2_add_X5_put
theorem dX2_add_0 : decode cX2_add 0 = .ok (.aload_n 0, 1) := by decide +kernel
theorem dX2_add_1 : decode cX2_add 1 = .ok (.getfield 14, 3) := by decide +kernel
theorem dX2_add_4 : decode cX2_add 4 = .ok (.aload_n 0, 1) := by decide +kernel
theorem dX2_add_5 : decode cX2_add 5 = .ok (.getfield 20, 3) := by decide +kernel
theorem dX2_add_8 : decode cX2_add 8 = .ok (.iload_n 1, 1) := by decide +kernel
theorem dX2_add_9 : decode cX2_add 9 = .ok (.invokevirtual 24, 3) := by decide +kernel
theorem dX2_add_12 : decode cX2_add 12 = .ok (.aload_n 0, 1) := by decide +kernel
theorem dX2_add_13 : decode cX2_add 13 = .ok (.dup, 1) := by decide +kernel
theorem dX2_add_14 : decode cX2_add 14 = .ok (.getfield 20, 3) := by decide +kernel
theorem dX2_add_17 : decode cX2_add 17 = .ok (.iconst 1, 1) := by decide +kernel
theorem dX2_add_18 : decode cX2_add 18 = .ok (.iadd, 1) := by decide +kernel
theorem dX2_add_19 : decode cX2_add 19 = .ok (.putfield 20, 3) := by decide +kernel
theorem dX2_add_22 : decode cX2_add 22 = .ok (.return_, 1) := by decide +kernel
set_option maxRecDepth 20000 in
theorem ggX2_dotAt_X5_at : GoodIn wsX2_dotAt wsX5_at := goodIn_r _ [6, 7, 10] (by decide +kernel) (by decide +kernel)
set_option maxRecDepth 20000 in
theorem gX2_dotAt_X5_at : GoodIn wsX2_dotAt (wsV RX2 28 RX5 yX5_at wsX5_at) := goodIn_app (goodIn_of _ (by decide +kernel)) ggX2_dotAt_X5_at
theorem dX2_dotAt_0 : decode cX2_dotAt 0 = .ok (.aload_n 0, 1) := by decide +kernel
theorem dX2_dotAt_1 : decode cX2_dotAt 1 = .ok (.getfield 14, 3) := by decide +kernel
theorem dX2_dotAt_4 : decode cX2_dotAt 4 = .ok (.iload_n 1, 1) := by decide +kernel
theorem dX2_dotAt_5 : decode cX2_dotAt 5 = .ok (.invokevirtual 28, 3) := by decide +kernel
theorem dX2_dotAt_8 : decode cX2_dotAt 8 = .ok (.ireturn, 1) := by decide +kernel
set_option maxRecDepth 20000 in
theorem ggX3_init_X5_init : GoodIn wsX3_init wsX5_init := goodIn_r _ [12, 13, 2, 3, 14, 15, 16] (by decide +kernel) (by decide +kernel)
set_option maxRecDepth 20000 in
theorem gX3_init_X5_init : GoodIn wsX3_init (wsX5_init) := ggX3_init_X5_init
theorem dX3_init_0 : decode cX3_init 0 = .ok (.aload_n 0, 1) := by decide +kernel
theorem dX3_init_1 : decode cX3_init 1 = .ok (.invokespecial 3, 3) := by decide +kernel
theorem dX3_init_4 : decode cX3_init 4 = .ok (.aload_n 0, 1) := by decide +kernel
theorem dX3_init_5 : decode cX3_init 5 = .ok (.new 9, 3) := by decide +kernel
theorem dX3_init_8 : decode cX3_init 8 = .ok (.dup, 1) := by decide +kernel
theorem dX3_init_9 : decode cX3_init 9 = .ok (.sipush 405, 3) := by decide +kernel
theorem dX3_init_12 : decode cX3_init 12 = .ok (.invokespecial 11, 3) := by decide +kernel
theorem dX3_init_15 : decode cX3_init 15 = .ok (.putfield 14, 3) := by decide +kernel
theorem dX3_init_18 : decode cX3_init 18 = .ok (.aload_n 0, 1) := by decide +kernel
theorem dX3_init_19 : decode cX3_init 19 = .ok (.new 9, 3) := by decide +kernel
theorem dX3_init_22 : decode cX3_init 22 = .ok (.dup, 1) := by decide +kernel
theorem dX3_init_23 : decode cX3_init 23 = .ok (.sipush 405, 3) := by decide +kernel
theorem dX3_init_26 : decode cX3_init 26 = .ok (.invokespecial 11, 3) := by decide +kernel
theorem dX3_init_29 : decode cX3_init 29 = .ok (.putfield 20, 3) := by decide +kernel
theorem dX3_init_32 : decode cX3_init 32 = .ok (.aload_n 0, 1) := by decide +kernel
theorem dX3_init_33 : decode cX3_init 33 = .ok (.new 9, 3) := by decide +kernel
theorem dX3_init_36 : decode cX3_init 36 = .ok (.dup, 1) := by decide +kernel
theorem dX3_init_37 : decode cX3_init 37 = .ok (.sipush 3600, 3) := by decide +kernel
theorem dX3_init_40 : decode cX3_init 40 = .ok (.invokespecial 11, 3) := by decide +kernel
theorem dX3_init_43 : decode cX3_init 43 = .ok (.putfield 23, 3) := by decide +kernel
theorem dX3_init_46 : decode cX3_init 46 = .ok (.return_, 1) := by decide +kernel
set_option maxRecDepth 20000 in
theorem ggX3_takeAll_X5_fill : GoodIn wsX3_takeAll wsX5_fill := goodIn_r _ [7, 8, 12] (by decide +kernel) (by decide +kernel)
set_option maxRecDepth 20000 in
theorem gX3_takeAll_X5_fill : GoodIn wsX3_takeAll (wsV RX3 26 RX5 yX5_fill wsX5_fill) := goodIn_app (goodIn_of _ (by decide +kernel)) ggX3_takeAll_X5_fill
theorem dX3_takeAll_0 : decode cX3_takeAll 0 = .ok (.aload_n 0, 1) := by decide +kernel
theorem dX3_takeAll_1 : decode cX3_takeAll 1 = .ok (.getfield 14, 3) := by decide +kernel
theorem dX3_takeAll_4 : decode cX3_takeAll 4 = .ok (.iconst 0, 1) := by decide +kernel
theorem dX3_takeAll_5 : decode cX3_takeAll 5 = .ok (.invokevirtual 26, 3) := by decide +kernel
theorem dX3_takeAll_8 : decode cX3_takeAll 8 = .ok (.aload_n 0, 1) := by decide +kernel
theorem dX3_takeAll_9 : decode cX3_takeAll 9 = .ok (.getfield 20, 3) := by decide +kernel
theorem dX3_takeAll_12 : decode cX3_takeAll 12 = .ok (.sipush 3600, 3) := by decide +kernel
theorem dX3_takeAll_15 : decode cX3_takeAll 15 = .ok (.invokevirtual 26, 3) := by decide +kernel
theorem dX3_takeAll_18 : decode cX3_takeAll 18 = .ok (.return_, 1) := by decide +kernel
set_option maxRecDepth 20000 in
theorem ggX3_keepNear_X7_drift : GoodIn wsX3_keepNear wsX7_drift := goodIn_r _ [5, 6, 7, 4, 8, 9, 10, 11] (by decide +kernel) (by decide +kernel)
set_option maxRecDepth 20000 in
theorem gX3_keepNear_X7_drift_n29 : GoodIn wsX3_keepNear (wsX7_drift) := ggX3_keepNear_X7_drift
set_option maxRecDepth 20000 in
theorem ggX3_keepNear_J9_floorMod_7cf53 : GoodIn wsX3_keepNear wsJ9_floorMod_7cf53 := goodIn_r _ [15] (by decide +kernel) (by decide +kernel)
set_option maxRecDepth 20000 in
theorem gX3_keepNear_J9_floorMod_7cf53 : GoodIn wsX3_keepNear (va_wsS RX3 33 yJ9_floorMod_7cf53 wsJ9_floorMod_7cf53) := goodIn_app (goodIn_of _ (by decide +kernel)) ggX3_keepNear_J9_floorMod_7cf53
set_option maxRecDepth 20000 in
theorem ggX3_keepNear_X5_at : GoodIn wsX3_keepNear wsX5_at := goodIn_r _ [20, 21, 44] (by decide +kernel) (by decide +kernel)
set_option maxRecDepth 20000 in
theorem gX3_keepNear_X5_at : GoodIn wsX3_keepNear (wsV RX3 38 RX5 yX5_at wsX5_at) := goodIn_app (goodIn_of _ (by decide +kernel)) ggX3_keepNear_X5_at
set_option maxRecDepth 20000 in
theorem ggX3_keepNear_X3_behind : GoodIn wsX3_keepNear wsX3_behind := goodIn_r _ [26, 2, 16, 17, 18, 19, 20, 21, 12, 13, 14, 15, 41, 42, 43, 44] (by decide +kernel) (by decide +kernel)
set_option maxRecDepth 20000 in
theorem gX3_keepNear_X3_behind : GoodIn wsX3_keepNear (wsV RX3 42 RX3 yX3_behind wsX3_behind) := goodIn_app (goodIn_of _ (by decide +kernel)) ggX3_keepNear_X3_behind
set_option maxRecDepth 20000 in
theorem ggX3_keepNear_X3_sharedWidth : GoodIn wsX3_keepNear wsX3_sharedWidth := goodIn_r _ [29, 30, 31, 32, 33, 34, 35, 36] (by decide +kernel) (by decide +kernel)
set_option maxRecDepth 20000 in
theorem gX3_keepNear_X3_sharedWidth : GoodIn wsX3_keepNear (va_wsS RX3 45 yX3_sharedWidth wsX3_sharedWidth) := goodIn_app (goodIn_of _ (by decide +kernel)) ggX3_keepNear_X3_sharedWidth
set_option maxRecDepth 20000 in
theorem ggX3_keepNear_X5_put : GoodIn wsX3_keepNear wsX5_put := goodIn_r _ [40, 21, 44] (by decide +kernel) (by decide +kernel)
set_option maxRecDepth 20000 in
theorem gX3_keepNear_X5_put : GoodIn wsX3_keepNear (wsV RX3 49 RX5 yX5_put wsX5_put) := goodIn_app (goodIn_of _ (by decide +kernel)) ggX3_keepNear_X5_put
theorem dX3_keepNear_0 : decode cX3_keepNear 0 = .ok (.iconst 2, 1) := by decide +kernel
theorem dX3_keepNear_1 : decode cX3_keepNear 1 = .ok (.iload_n 3, 1) := by decide +kernel
theorem dX3_keepNear_2 : decode cX3_keepNear 2 = .ok (.imul, 1) := by decide +kernel
theorem dX3_keepNear_3 : decode cX3_keepNear 3 = .ok (.iconst 1, 1) := by decide +kernel
theorem dX3_keepNear_4 : decode cX3_keepNear 4 = .ok (.iadd, 1) := by decide +kernel
theorem dX3_keepNear_5 : decode cX3_keepNear 5 = .ok (.istore 4, 2) := by decide +kernel
theorem dX3_keepNear_7 : decode cX3_keepNear 7 = .ok (.iconst 0, 1) := by decide +kernel
theorem dX3_keepNear_8 : decode cX3_keepNear 8 = .ok (.istore 5, 2) := by decide +kernel
theorem dX3_keepNear_10 : decode cX3_keepNear 10 = .ok (.iload 5, 2) := by decide +kernel
theorem dX3_keepNear_12 : decode cX3_keepNear 12 = .ok (.sipush 405, 3) := by decide +kernel
theorem dX3_keepNear_15 : decode cX3_keepNear 15 = .ok (.if_icmp .ge 92, 3) := by decide +kernel
theorem dX3_keepNear_18 : decode cX3_keepNear 18 = .ok (.iload_n 2, 1) := by decide +kernel
theorem dX3_keepNear_19 : decode cX3_keepNear 19 = .ok (.iload_n 3, 1) := by decide +kernel
theorem dX3_keepNear_20 : decode cX3_keepNear 20 = .ok (.isub, 1) := by decide +kernel
theorem dX3_keepNear_21 : decode cX3_keepNear 21 = .ok (.iload 5, 2) := by decide +kernel
theorem dX3_keepNear_23 : decode cX3_keepNear 23 = .ok (.iload_n 1, 1) := by decide +kernel
theorem dX3_keepNear_24 : decode cX3_keepNear 24 = .ok (.invokestatic 29, 3) := by decide +kernel
theorem dX3_keepNear_27 : decode cX3_keepNear 27 = .ok (.isub, 1) := by decide +kernel
theorem dX3_keepNear_28 : decode cX3_keepNear 28 = .ok (.sipush 3600, 3) := by decide +kernel
theorem dX3_keepNear_31 : decode cX3_keepNear 31 = .ok (.invokestatic 33, 3) := by decide +kernel
theorem dX3_keepNear_34 : decode cX3_keepNear 34 = .ok (.istore 6, 2) := by decide +kernel
theorem dX3_keepNear_36 : decode cX3_keepNear 36 = .ok (.aload_n 0, 1) := by decide +kernel
theorem dX3_keepNear_37 : decode cX3_keepNear 37 = .ok (.getfield 20, 3) := by decide +kernel
theorem dX3_keepNear_40 : decode cX3_keepNear 40 = .ok (.iload 5, 2) := by decide +kernel
theorem dX3_keepNear_42 : decode cX3_keepNear 42 = .ok (.invokevirtual 38, 3) := by decide +kernel
theorem dX3_keepNear_45 : decode cX3_keepNear 45 = .ok (.istore 7, 2) := by decide +kernel
theorem dX3_keepNear_47 : decode cX3_keepNear 47 = .ok (.aload_n 0, 1) := by decide +kernel
theorem dX3_keepNear_48 : decode cX3_keepNear 48 = .ok (.iload 5, 2) := by decide +kernel
theorem dX3_keepNear_50 : decode cX3_keepNear 50 = .ok (.iload 6, 2) := by decide +kernel
theorem dX3_keepNear_52 : decode cX3_keepNear 52 = .ok (.invokevirtual 42, 3) := by decide +kernel
theorem dX3_keepNear_55 : decode cX3_keepNear 55 = .ok (.istore 8, 2) := by decide +kernel
theorem dX3_keepNear_57 : decode cX3_keepNear 57 = .ok (.aload_n 0, 1) := by decide +kernel
theorem dX3_keepNear_58 : decode cX3_keepNear 58 = .ok (.getfield 20, 3) := by decide +kernel
theorem dX3_keepNear_61 : decode cX3_keepNear 61 = .ok (.iload 5, 2) := by decide +kernel
theorem dX3_keepNear_63 : decode cX3_keepNear 63 = .ok (.iload 7, 2) := by decide +kernel
theorem dX3_keepNear_65 : decode cX3_keepNear 65 = .ok (.iload 8, 2) := by decide +kernel
theorem dX3_keepNear_67 : decode cX3_keepNear 67 = .ok (.iload 4, 2) := by decide +kernel
theorem dX3_keepNear_69 : decode cX3_keepNear 69 = .ok (.invokestatic 45, 3) := by decide +kernel
theorem dX3_keepNear_72 : decode cX3_keepNear 72 = .ok (.invokevirtual 49, 3) := by decide +kernel
theorem dX3_keepNear_75 : decode cX3_keepNear 75 = .ok (.iload 7, 2) := by decide +kernel
theorem dX3_keepNear_77 : decode cX3_keepNear 77 = .ok (.sipush 3600, 3) := by decide +kernel
theorem dX3_keepNear_80 : decode cX3_keepNear 80 = .ok (.if_icmp .eq 10, 3) := by decide +kernel
theorem dX3_keepNear_83 : decode cX3_keepNear 83 = .ok (.iload 8, 2) := by decide +kernel
theorem dX3_keepNear_85 : decode cX3_keepNear 85 = .ok (.iload 7, 2) := by decide +kernel
theorem dX3_keepNear_87 : decode cX3_keepNear 87 = .ok (.if_icmp .ge 14, 3) := by decide +kernel
theorem dX3_keepNear_90 : decode cX3_keepNear 90 = .ok (.aload_n 0, 1) := by decide +kernel
theorem dX3_keepNear_91 : decode cX3_keepNear 91 = .ok (.getfield 14, 3) := by decide +kernel
theorem dX3_keepNear_94 : decode cX3_keepNear 94 = .ok (.iload 5, 2) := by decide +kernel
theorem dX3_keepNear_96 : decode cX3_keepNear 96 = .ok (.iload 6, 2) := by decide +kernel
theorem dX3_keepNear_98 : decode cX3_keepNear 98 = .ok (.invokevirtual 49, 3) := by decide +kernel
theorem dX3_keepNear_101 : decode cX3_keepNear 101 = .ok (.iinc 5 1, 3) := by decide +kernel
theorem dX3_keepNear_104 : decode cX3_keepNear 104 = .ok (.goto (-94), 3) := by decide +kernel
theorem dX3_keepNear_107 : decode cX3_keepNear 107 = .ok (.return_, 1) := by decide +kernel
set_option maxRecDepth 20000 in
theorem ggX3_hasNear_X7_drift : GoodIn wsX3_hasNear wsX7_drift := goodIn_r _ [4, 5, 6, 3, 7, 8, 9, 10] (by decide +kernel) (by decide +kernel)
set_option maxRecDepth 20000 in
theorem gX3_hasNear_X7_drift_n29 : GoodIn wsX3_hasNear (wsX7_drift) := ggX3_hasNear_X7_drift
set_option maxRecDepth 20000 in
theorem ggX3_hasNear_J9_floorMod_7cf53 : GoodIn wsX3_hasNear wsJ9_floorMod_7cf53 := goodIn_r _ [14] (by decide +kernel) (by decide +kernel)
set_option maxRecDepth 20000 in
theorem gX3_hasNear_J9_floorMod_7cf53 : GoodIn wsX3_hasNear (va_wsS RX3 33 yJ9_floorMod_7cf53 wsJ9_floorMod_7cf53) := goodIn_app (goodIn_of _ (by decide +kernel)) ggX3_hasNear_J9_floorMod_7cf53
set_option maxRecDepth 20000 in
theorem ggX3_hasNear_X5_at : GoodIn wsX3_hasNear wsX5_at := goodIn_r _ [19, 20, 40] (by decide +kernel) (by decide +kernel)
set_option maxRecDepth 20000 in
theorem gX3_hasNear_X5_at : GoodIn wsX3_hasNear (wsV RX3 38 RX5 yX5_at wsX5_at) := goodIn_app (goodIn_of _ (by decide +kernel)) ggX3_hasNear_X5_at
set_option maxRecDepth 20000 in
theorem ggX3_hasNear_X3_behind : GoodIn wsX3_hasNear wsX3_behind := goodIn_r _ [25, 26, 15, 16, 17, 18, 19, 20, 11, 12, 13, 14, 37, 38, 39, 40] (by decide +kernel) (by decide +kernel)
set_option maxRecDepth 20000 in
theorem gX3_hasNear_X3_behind : GoodIn wsX3_hasNear (wsV RX3 42 RX3 yX3_behind wsX3_behind) := goodIn_app (goodIn_of _ (by decide +kernel)) ggX3_hasNear_X3_behind
set_option maxRecDepth 20000 in
theorem ggX3_hasNear_X3_sharedWidth : GoodIn wsX3_hasNear wsX3_sharedWidth := goodIn_r _ [29, 30, 31, 32, 33, 34, 35, 36] (by decide +kernel) (by decide +kernel)
set_option maxRecDepth 20000 in
theorem gX3_hasNear_X3_sharedWidth : GoodIn wsX3_hasNear (va_wsS RX3 45 yX3_sharedWidth wsX3_sharedWidth) := goodIn_app (goodIn_of _ (by decide +kernel)) ggX3_hasNear_X3_sharedWidth
theorem dX3_hasNear_0 : decode cX3_hasNear 0 = .ok (.iconst 2, 1) := by decide +kernel
theorem dX3_hasNear_1 : decode cX3_hasNear 1 = .ok (.iload_n 3, 1) := by decide +kernel
theorem dX3_hasNear_2 : decode cX3_hasNear 2 = .ok (.imul, 1) := by decide +kernel
theorem dX3_hasNear_3 : decode cX3_hasNear 3 = .ok (.iconst 1, 1) := by decide +kernel
theorem dX3_hasNear_4 : decode cX3_hasNear 4 = .ok (.iadd, 1) := by decide +kernel
theorem dX3_hasNear_5 : decode cX3_hasNear 5 = .ok (.istore 4, 2) := by decide +kernel
theorem dX3_hasNear_7 : decode cX3_hasNear 7 = .ok (.iconst 0, 1) := by decide +kernel
theorem dX3_hasNear_8 : decode cX3_hasNear 8 = .ok (.istore 5, 2) := by decide +kernel
theorem dX3_hasNear_10 : decode cX3_hasNear 10 = .ok (.iload 5, 2) := by decide +kernel
theorem dX3_hasNear_12 : decode cX3_hasNear 12 = .ok (.sipush 405, 3) := by decide +kernel
theorem dX3_hasNear_15 : decode cX3_hasNear 15 = .ok (.if_icmp .ge 54, 3) := by decide +kernel
theorem dX3_hasNear_18 : decode cX3_hasNear 18 = .ok (.iload_n 2, 1) := by decide +kernel
theorem dX3_hasNear_19 : decode cX3_hasNear 19 = .ok (.iload_n 3, 1) := by decide +kernel
theorem dX3_hasNear_20 : decode cX3_hasNear 20 = .ok (.isub, 1) := by decide +kernel
theorem dX3_hasNear_21 : decode cX3_hasNear 21 = .ok (.iload 5, 2) := by decide +kernel
theorem dX3_hasNear_23 : decode cX3_hasNear 23 = .ok (.iload_n 1, 1) := by decide +kernel
theorem dX3_hasNear_24 : decode cX3_hasNear 24 = .ok (.invokestatic 29, 3) := by decide +kernel
theorem dX3_hasNear_27 : decode cX3_hasNear 27 = .ok (.isub, 1) := by decide +kernel
theorem dX3_hasNear_28 : decode cX3_hasNear 28 = .ok (.sipush 3600, 3) := by decide +kernel
theorem dX3_hasNear_31 : decode cX3_hasNear 31 = .ok (.invokestatic 33, 3) := by decide +kernel
theorem dX3_hasNear_34 : decode cX3_hasNear 34 = .ok (.istore 6, 2) := by decide +kernel
theorem dX3_hasNear_36 : decode cX3_hasNear 36 = .ok (.aload_n 0, 1) := by decide +kernel
theorem dX3_hasNear_37 : decode cX3_hasNear 37 = .ok (.getfield 20, 3) := by decide +kernel
theorem dX3_hasNear_40 : decode cX3_hasNear 40 = .ok (.iload 5, 2) := by decide +kernel
theorem dX3_hasNear_42 : decode cX3_hasNear 42 = .ok (.invokevirtual 38, 3) := by decide +kernel
theorem dX3_hasNear_45 : decode cX3_hasNear 45 = .ok (.aload_n 0, 1) := by decide +kernel
theorem dX3_hasNear_46 : decode cX3_hasNear 46 = .ok (.iload 5, 2) := by decide +kernel
theorem dX3_hasNear_48 : decode cX3_hasNear 48 = .ok (.iload 6, 2) := by decide +kernel
theorem dX3_hasNear_50 : decode cX3_hasNear 50 = .ok (.invokevirtual 42, 3) := by decide +kernel
theorem dX3_hasNear_53 : decode cX3_hasNear 53 = .ok (.iload 4, 2) := by decide +kernel
theorem dX3_hasNear_55 : decode cX3_hasNear 55 = .ok (.invokestatic 45, 3) := by decide +kernel
theorem dX3_hasNear_58 : decode cX3_hasNear 58 = .ok (.ifCond .le 5, 3) := by decide +kernel
theorem dX3_hasNear_61 : decode cX3_hasNear 61 = .ok (.iconst 1, 1) := by decide +kernel
theorem dX3_hasNear_62 : decode cX3_hasNear 62 = .ok (.ireturn, 1) := by decide +kernel
theorem dX3_hasNear_63 : decode cX3_hasNear 63 = .ok (.iinc 5 1, 3) := by decide +kernel
theorem dX3_hasNear_66 : decode cX3_hasNear 66 = .ok (.goto (-56), 3) := by decide +kernel
theorem dX3_hasNear_69 : decode cX3_hasNear 69 = .ok (.iconst 0, 1) := by decide +kernel
theorem dX3_hasNear_70 : decode cX3_hasNear 70 = .ok (.ireturn, 1) := by decide +kernel
set_option maxRecDepth 20000 in
theorem ggX3_behind_X5_at : GoodIn wsX3_behind wsX5_at := goodIn_r _ [6, 7, 15] (by decide +kernel) (by decide +kernel)
set_option maxRecDepth 20000 in
theorem gX3_behind_X5_at : GoodIn wsX3_behind (wsV RX3 38 RX5 yX5_at wsX5_at) := goodIn_app (goodIn_of _ (by decide +kernel)) ggX3_behind_X5_at
set_option maxRecDepth 20000 in
theorem ggX3_behind_J9_floorMod_7cf53 : GoodIn wsX3_behind wsJ9_floorMod_7cf53 := goodIn_r _ [11] (by decide +kernel) (by decide +kernel)
set_option maxRecDepth 20000 in
theorem gX3_behind_J9_floorMod_7cf53 : GoodIn wsX3_behind (va_wsS RX3 33 yJ9_floorMod_7cf53 wsJ9_floorMod_7cf53) := goodIn_app (goodIn_of _ (by decide +kernel)) ggX3_behind_J9_floorMod_7cf53
theorem dX3_behind_0 : decode cX3_behind 0 = .ok (.iload_n 2, 1) := by decide +kernel
theorem dX3_behind_1 : decode cX3_behind 1 = .ok (.aload_n 0, 1) := by decide +kernel
theorem dX3_behind_2 : decode cX3_behind 2 = .ok (.getfield 14, 3) := by decide +kernel
theorem dX3_behind_5 : decode cX3_behind 5 = .ok (.iload_n 1, 1) := by decide +kernel
theorem dX3_behind_6 : decode cX3_behind 6 = .ok (.invokevirtual 38, 3) := by decide +kernel
theorem dX3_behind_9 : decode cX3_behind 9 = .ok (.isub, 1) := by decide +kernel
theorem dX3_behind_10 : decode cX3_behind 10 = .ok (.sipush 3600, 3) := by decide +kernel
theorem dX3_behind_13 : decode cX3_behind 13 = .ok (.invokestatic 33, 3) := by decide +kernel
theorem dX3_behind_16 : decode cX3_behind 16 = .ok (.ireturn, 1) := by decide +kernel
theorem dX3_sharedWidth_0 : decode cX3_sharedWidth 0 = .ok (.iload_n 0, 1) := by decide +kernel
theorem dX3_sharedWidth_1 : decode cX3_sharedWidth 1 = .ok (.sipush 3600, 3) := by decide +kernel
theorem dX3_sharedWidth_4 : decode cX3_sharedWidth 4 = .ok (.if_icmp .ne 5, 3) := by decide +kernel
theorem dX3_sharedWidth_7 : decode cX3_sharedWidth 7 = .ok (.iload_n 2, 1) := by decide +kernel
theorem dX3_sharedWidth_8 : decode cX3_sharedWidth 8 = .ok (.ireturn, 1) := by decide +kernel
theorem dX3_sharedWidth_9 : decode cX3_sharedWidth 9 = .ok (.iload_n 1, 1) := by decide +kernel
theorem dX3_sharedWidth_10 : decode cX3_sharedWidth 10 = .ok (.iload_n 0, 1) := by decide +kernel
theorem dX3_sharedWidth_11 : decode cX3_sharedWidth 11 = .ok (.if_icmp .ge 11, 3) := by decide +kernel
theorem dX3_sharedWidth_14 : decode cX3_sharedWidth 14 = .ok (.iload_n 0, 1) := by decide +kernel
theorem dX3_sharedWidth_15 : decode cX3_sharedWidth 15 = .ok (.iload_n 1, 1) := by decide +kernel
theorem dX3_sharedWidth_16 : decode cX3_sharedWidth 16 = .ok (.isub, 1) := by decide +kernel
theorem dX3_sharedWidth_17 : decode cX3_sharedWidth 17 = .ok (.iload_n 2, 1) := by decide +kernel
theorem dX3_sharedWidth_18 : decode cX3_sharedWidth 18 = .ok (.invokestatic 53, 3) := by decide +kernel
theorem dX3_sharedWidth_21 : decode cX3_sharedWidth 21 = .ok (.ireturn, 1) := by decide +kernel
theorem dX3_sharedWidth_22 : decode cX3_sharedWidth 22 = .ok (.sipush 3600, 3) := by decide +kernel
theorem dX3_sharedWidth_25 : decode cX3_sharedWidth 25 = .ok (.iload_n 1, 1) := by decide +kernel
theorem dX3_sharedWidth_26 : decode cX3_sharedWidth 26 = .ok (.isub, 1) := by decide +kernel
theorem dX3_sharedWidth_27 : decode cX3_sharedWidth 27 = .ok (.istore_n 3, 1) := by decide +kernel
theorem dX3_sharedWidth_28 : decode cX3_sharedWidth 28 = .ok (.iconst 0, 1) := by decide +kernel
theorem dX3_sharedWidth_29 : decode cX3_sharedWidth 29 = .ok (.iload_n 0, 1) := by decide +kernel
theorem dX3_sharedWidth_30 : decode cX3_sharedWidth 30 = .ok (.iload_n 2, 1) := by decide +kernel
theorem dX3_sharedWidth_31 : decode cX3_sharedWidth 31 = .ok (.iload_n 3, 1) := by decide +kernel
theorem dX3_sharedWidth_32 : decode cX3_sharedWidth 32 = .ok (.isub, 1) := by decide +kernel
theorem dX3_sharedWidth_33 : decode cX3_sharedWidth 33 = .ok (.invokestatic 53, 3) := by decide +kernel
theorem dX3_sharedWidth_36 : decode cX3_sharedWidth 36 = .ok (.invokestatic 56, 3) := by decide +kernel
theorem dX3_sharedWidth_39 : decode cX3_sharedWidth 39 = .ok (.ireturn, 1) := by decide +kernel
set_option maxRecDepth 20000 in
theorem ggX3_startOf_X5_at : GoodIn wsX3_startOf wsX5_at := goodIn_r _ [6, 7, 11] (by decide +kernel) (by decide +kernel)
set_option maxRecDepth 20000 in
theorem gX3_startOf_X5_at : GoodIn wsX3_startOf (wsV RX3 38 RX5 yX5_at wsX5_at) := goodIn_app (goodIn_of _ (by decide +kernel)) ggX3_startOf_X5_at
theorem dX3_startOf_0 : decode cX3_startOf 0 = .ok (.aload_n 0, 1) := by decide +kernel
theorem dX3_startOf_1 : decode cX3_startOf 1 = .ok (.getfield 14, 3) := by decide +kernel
theorem dX3_startOf_4 : decode cX3_startOf 4 = .ok (.iload_n 1, 1) := by decide +kernel
theorem dX3_startOf_5 : decode cX3_startOf 5 = .ok (.invokevirtual 38, 3) := by decide +kernel
theorem dX3_startOf_8 : decode cX3_startOf 8 = .ok (.ireturn, 1) := by decide +kernel
set_option maxRecDepth 20000 in
theorem ggX3_widthOf_X5_at : GoodIn wsX3_widthOf wsX5_at := goodIn_r _ [6, 7, 11] (by decide +kernel) (by decide +kernel)
set_option maxRecDepth 20000 in
theorem gX3_widthOf_X5_at : GoodIn wsX3_widthOf (wsV RX3 38 RX5 yX5_at wsX5_at) := goodIn_app (goodIn_of _ (by decide +kernel)) ggX3_widthOf_X5_at
theorem dX3_widthOf_0 : decode cX3_widthOf 0 = .ok (.aload_n 0, 1) := by decide +kernel
theorem dX3_widthOf_1 : decode cX3_widthOf 1 = .ok (.getfield 20, 3) := by decide +kernel
theorem dX3_widthOf_4 : decode cX3_widthOf 4 = .ok (.iload_n 1, 1) := by decide +kernel
theorem dX3_widthOf_5 : decode cX3_widthOf 5 = .ok (.invokevirtual 38, 3) := by decide +kernel
theorem dX3_widthOf_8 : decode cX3_widthOf 8 = .ok (.ireturn, 1) := by decide +kernel
set_option maxRecDepth 20000 in
theorem ggX3_countOrbits_X5_at : GoodIn wsX3_countOrbits wsX5_at := goodIn_r _ [6, 7, 11] (by decide +kernel) (by decide +kernel)
set_option maxRecDepth 20000 in
theorem gX3_countOrbits_X5_at : GoodIn wsX3_countOrbits (wsV RX3 38 RX5 yX5_at wsX5_at) := goodIn_app (goodIn_of _ (by decide +kernel)) ggX3_countOrbits_X5_at
theorem dX3_countOrbits_0 : decode cX3_countOrbits 0 = .ok (.iconst 0, 1) := by decide +kernel
theorem dX3_countOrbits_1 : decode cX3_countOrbits 1 = .ok (.istore_n 1, 1) := by decide +kernel
theorem dX3_countOrbits_2 : decode cX3_countOrbits 2 = .ok (.iconst 0, 1) := by decide +kernel
theorem dX3_countOrbits_3 : decode cX3_countOrbits 3 = .ok (.istore_n 2, 1) := by decide +kernel
theorem dX3_countOrbits_4 : decode cX3_countOrbits 4 = .ok (.iload_n 2, 1) := by decide +kernel
theorem dX3_countOrbits_5 : decode cX3_countOrbits 5 = .ok (.sipush 405, 3) := by decide +kernel
theorem dX3_countOrbits_8 : decode cX3_countOrbits 8 = .ok (.if_icmp .ge 20, 3) := by decide +kernel
theorem dX3_countOrbits_11 : decode cX3_countOrbits 11 = .ok (.iload_n 1, 1) := by decide +kernel
theorem dX3_countOrbits_12 : decode cX3_countOrbits 12 = .ok (.aload_n 0, 1) := by decide +kernel
theorem dX3_countOrbits_13 : decode cX3_countOrbits 13 = .ok (.getfield 20, 3) := by decide +kernel
theorem dX3_countOrbits_16 : decode cX3_countOrbits 16 = .ok (.iload_n 2, 1) := by decide +kernel
theorem dX3_countOrbits_17 : decode cX3_countOrbits 17 = .ok (.invokevirtual 38, 3) := by decide +kernel
theorem dX3_countOrbits_20 : decode cX3_countOrbits 20 = .ok (.iadd, 1) := by decide +kernel
theorem dX3_countOrbits_21 : decode cX3_countOrbits 21 = .ok (.istore_n 1, 1) := by decide +kernel
theorem dX3_countOrbits_22 : decode cX3_countOrbits 22 = .ok (.iinc 2 1, 3) := by decide +kernel
theorem dX3_countOrbits_25 : decode cX3_countOrbits 25 = .ok (.goto (-21), 3) := by decide +kernel
theorem dX3_countOrbits_28 : decode cX3_countOrbits 28 = .ok (.iload_n 1, 1) := by decide +kernel
theorem dX3_countOrbits_29 : decode cX3_countOrbits 29 = .ok (.ireturn, 1) := by decide +kernel
set_option maxRecDepth 20000 in
theorem ggX3_orbitAt_X3_tallyPlaces : GoodIn wsX3_orbitAt wsX3_tallyPlaces := goodIn_r _ [6, 1, 7, 8, 9, 10, 11, 12, 13, 14, 15, 16, 17, 18, 19, 20, 21, 22, 23, 24, 25, 26, 27, 28, 29, 30, 31, 32, 33, 34, 35, 44, 45, 46, 47] (by decide +kernel) (by decide +kernel)
set_option maxRecDepth 20000 in
theorem gX3_orbitAt_X3_tallyPlaces : GoodIn wsX3_orbitAt (wsV RX3 59 RX3 yX3_tallyPlaces wsX3_tallyPlaces) := goodIn_app (goodIn_of _ (by decide +kernel)) ggX3_orbitAt_X3_tallyPlaces
set_option maxRecDepth 20000 in
theorem ggX3_orbitAt_X5_at : GoodIn wsX3_orbitAt wsX5_at := goodIn_r _ [18, 14, 47] (by decide +kernel) (by decide +kernel)
set_option maxRecDepth 20000 in
theorem gX3_orbitAt_X5_at : GoodIn wsX3_orbitAt (wsV RX3 38 RX5 yX5_at wsX5_at) := goodIn_app (goodIn_of _ (by decide +kernel)) ggX3_orbitAt_X5_at
set_option maxRecDepth 20000 in
theorem ggX3_orbitAt_X3_courseWith : GoodIn wsX3_orbitAt wsX3_courseWith := goodIn_r _ [39, 8, 40, 41, 42, 5, 43, 7, 15, 16, 17, 12, 18, 14, 28, 29, 30, 31, 44, 45, 46, 47] (by decide +kernel) (by decide +kernel)
set_option maxRecDepth 20000 in
theorem gX3_orbitAt_X3_courseWith : GoodIn wsX3_orbitAt (wsV RX3 62 RX3 yX3_courseWith wsX3_courseWith) := goodIn_app (goodIn_of _ (by decide +kernel)) ggX3_orbitAt_X3_courseWith
theorem dX3_orbitAt_0 : decode cX3_orbitAt 0 = .ok (.aload_n 0, 1) := by decide +kernel
theorem dX3_orbitAt_1 : decode cX3_orbitAt 1 = .ok (.iconst 0, 1) := by decide +kernel
theorem dX3_orbitAt_2 : decode cX3_orbitAt 2 = .ok (.invokevirtual 59, 3) := by decide +kernel
theorem dX3_orbitAt_5 : decode cX3_orbitAt 5 = .ok (.iload_n 1, 1) := by decide +kernel
theorem dX3_orbitAt_6 : decode cX3_orbitAt 6 = .ok (.istore_n 2, 1) := by decide +kernel
theorem dX3_orbitAt_7 : decode cX3_orbitAt 7 = .ok (.iconst 0, 1) := by decide +kernel
theorem dX3_orbitAt_8 : decode cX3_orbitAt 8 = .ok (.istore_n 3, 1) := by decide +kernel
theorem dX3_orbitAt_9 : decode cX3_orbitAt 9 = .ok (.iload_n 3, 1) := by decide +kernel
theorem dX3_orbitAt_10 : decode cX3_orbitAt 10 = .ok (.sipush 3600, 3) := by decide +kernel
theorem dX3_orbitAt_13 : decode cX3_orbitAt 13 = .ok (.if_icmp .ge 45, 3) := by decide +kernel
theorem dX3_orbitAt_16 : decode cX3_orbitAt 16 = .ok (.iload_n 2, 1) := by decide +kernel
theorem dX3_orbitAt_17 : decode cX3_orbitAt 17 = .ok (.aload_n 0, 1) := by decide +kernel
theorem dX3_orbitAt_18 : decode cX3_orbitAt 18 = .ok (.getfield 23, 3) := by decide +kernel
theorem dX3_orbitAt_21 : decode cX3_orbitAt 21 = .ok (.iload_n 3, 1) := by decide +kernel
theorem dX3_orbitAt_22 : decode cX3_orbitAt 22 = .ok (.invokevirtual 38, 3) := by decide +kernel
theorem dX3_orbitAt_25 : decode cX3_orbitAt 25 = .ok (.if_icmp .ge 16, 3) := by decide +kernel
theorem dX3_orbitAt_28 : decode cX3_orbitAt 28 = .ok (.iload_n 3, 1) := by decide +kernel
theorem dX3_orbitAt_29 : decode cX3_orbitAt 29 = .ok (.sipush 405, 3) := by decide +kernel
theorem dX3_orbitAt_32 : decode cX3_orbitAt 32 = .ok (.imul, 1) := by decide +kernel
theorem dX3_orbitAt_33 : decode cX3_orbitAt 33 = .ok (.aload_n 0, 1) := by decide +kernel
theorem dX3_orbitAt_34 : decode cX3_orbitAt 34 = .ok (.iload_n 3, 1) := by decide +kernel
theorem dX3_orbitAt_35 : decode cX3_orbitAt 35 = .ok (.iload_n 2, 1) := by decide +kernel
theorem dX3_orbitAt_36 : decode cX3_orbitAt 36 = .ok (.invokevirtual 62, 3) := by decide +kernel
theorem dX3_orbitAt_39 : decode cX3_orbitAt 39 = .ok (.iadd, 1) := by decide +kernel
theorem dX3_orbitAt_40 : decode cX3_orbitAt 40 = .ok (.ireturn, 1) := by decide +kernel
theorem dX3_orbitAt_41 : decode cX3_orbitAt 41 = .ok (.iload_n 2, 1) := by decide +kernel
theorem dX3_orbitAt_42 : decode cX3_orbitAt 42 = .ok (.aload_n 0, 1) := by decide +kernel
theorem dX3_orbitAt_43 : decode cX3_orbitAt 43 = .ok (.getfield 23, 3) := by decide +kernel
theorem dX3_orbitAt_46 : decode cX3_orbitAt 46 = .ok (.iload_n 3, 1) := by decide +kernel
theorem dX3_orbitAt_47 : decode cX3_orbitAt 47 = .ok (.invokevirtual 38, 3) := by decide +kernel
theorem dX3_orbitAt_50 : decode cX3_orbitAt 50 = .ok (.isub, 1) := by decide +kernel
theorem dX3_orbitAt_51 : decode cX3_orbitAt 51 = .ok (.istore_n 2, 1) := by decide +kernel
theorem dX3_orbitAt_52 : decode cX3_orbitAt 52 = .ok (.iinc 3 1, 3) := by decide +kernel
theorem dX3_orbitAt_55 : decode cX3_orbitAt 55 = .ok (.goto (-46), 3) := by decide +kernel
theorem dX3_orbitAt_58 : decode cX3_orbitAt 58 = .ok (.iconst 0, 1) := by decide +kernel
theorem dX3_orbitAt_59 : decode cX3_orbitAt 59 = .ok (.ireturn, 1) := by decide +kernel
set_option maxRecDepth 20000 in
theorem ggX3_courseWith_X3_behind : GoodIn wsX3_courseWith wsX3_behind := goodIn_r _ [6, 7, 8, 9, 10, 11, 12, 13, 14, 15, 16, 17, 18, 19, 20, 21] (by decide +kernel) (by decide +kernel)
set_option maxRecDepth 20000 in
theorem gX3_courseWith_X3_behind : GoodIn wsX3_courseWith (wsV RX3 42 RX3 yX3_behind wsX3_behind) := goodIn_app (goodIn_of _ (by decide +kernel)) ggX3_courseWith_X3_behind
set_option maxRecDepth 20000 in
theorem ggX3_courseWith_X5_at : GoodIn wsX3_courseWith wsX5_at := goodIn_r _ [12, 13, 21] (by decide +kernel) (by decide +kernel)
set_option maxRecDepth 20000 in
theorem gX3_courseWith_X5_at : GoodIn wsX3_courseWith (wsV RX3 38 RX5 yX5_at wsX5_at) := goodIn_app (goodIn_of _ (by decide +kernel)) ggX3_courseWith_X5_at
theorem dX3_courseWith_0 : decode cX3_courseWith 0 = .ok (.iload_n 2, 1) := by decide +kernel
theorem dX3_courseWith_1 : decode cX3_courseWith 1 = .ok (.istore_n 3, 1) := by decide +kernel
theorem dX3_courseWith_2 : decode cX3_courseWith 2 = .ok (.iconst 0, 1) := by decide +kernel
theorem dX3_courseWith_3 : decode cX3_courseWith 3 = .ok (.istore 4, 2) := by decide +kernel
theorem dX3_courseWith_5 : decode cX3_courseWith 5 = .ok (.iload 4, 2) := by decide +kernel
theorem dX3_courseWith_7 : decode cX3_courseWith 7 = .ok (.sipush 405, 3) := by decide +kernel
theorem dX3_courseWith_10 : decode cX3_courseWith 10 = .ok (.if_icmp .ge 38, 3) := by decide +kernel
theorem dX3_courseWith_13 : decode cX3_courseWith 13 = .ok (.aload_n 0, 1) := by decide +kernel
theorem dX3_courseWith_14 : decode cX3_courseWith 14 = .ok (.iload 4, 2) := by decide +kernel
theorem dX3_courseWith_16 : decode cX3_courseWith 16 = .ok (.iload_n 1, 1) := by decide +kernel
theorem dX3_courseWith_17 : decode cX3_courseWith 17 = .ok (.invokevirtual 42, 3) := by decide +kernel
theorem dX3_courseWith_20 : decode cX3_courseWith 20 = .ok (.aload_n 0, 1) := by decide +kernel
theorem dX3_courseWith_21 : decode cX3_courseWith 21 = .ok (.getfield 20, 3) := by decide +kernel
theorem dX3_courseWith_24 : decode cX3_courseWith 24 = .ok (.iload 4, 2) := by decide +kernel
theorem dX3_courseWith_26 : decode cX3_courseWith 26 = .ok (.invokevirtual 38, 3) := by decide +kernel
theorem dX3_courseWith_29 : decode cX3_courseWith 29 = .ok (.if_icmp .ge 13, 3) := by decide +kernel
theorem dX3_courseWith_32 : decode cX3_courseWith 32 = .ok (.iload_n 3, 1) := by decide +kernel
theorem dX3_courseWith_33 : decode cX3_courseWith 33 = .ok (.ifCond .ne 6, 3) := by decide +kernel
theorem dX3_courseWith_36 : decode cX3_courseWith 36 = .ok (.iload 4, 2) := by decide +kernel
theorem dX3_courseWith_38 : decode cX3_courseWith 38 = .ok (.ireturn, 1) := by decide +kernel
theorem dX3_courseWith_39 : decode cX3_courseWith 39 = .ok (.iinc 3 (-1), 3) := by decide +kernel
theorem dX3_courseWith_42 : decode cX3_courseWith 42 = .ok (.iinc 4 1, 3) := by decide +kernel
theorem dX3_courseWith_45 : decode cX3_courseWith 45 = .ok (.goto (-40), 3) := by decide +kernel
theorem dX3_courseWith_48 : decode cX3_courseWith 48 = .ok (.iconst 0, 1) := by decide +kernel
theorem dX3_courseWith_49 : decode cX3_courseWith 49 = .ok (.ireturn, 1) := by decide +kernel
set_option maxRecDepth 20000 in
theorem ggX3_countPlaces_X3_tallyPlaces : GoodIn wsX3_countPlaces wsX3_tallyPlaces := goodIn_r _ [6, 1, 7, 8, 9, 10, 11, 12, 13, 14, 15, 16, 17, 18, 19, 20, 21, 22, 23, 24, 25, 26, 27, 28, 29, 30, 31, 32, 33, 34, 35, 36, 37, 38, 39] (by decide +kernel) (by decide +kernel)
set_option maxRecDepth 20000 in
theorem gX3_countPlaces_X3_tallyPlaces : GoodIn wsX3_countPlaces (wsV RX3 59 RX3 yX3_tallyPlaces wsX3_tallyPlaces) := goodIn_app (goodIn_of _ (by decide +kernel)) ggX3_countPlaces_X3_tallyPlaces
set_option maxRecDepth 20000 in
theorem ggX3_countPlaces_X5_at : GoodIn wsX3_countPlaces wsX5_at := goodIn_r _ [18, 14, 39] (by decide +kernel) (by decide +kernel)
set_option maxRecDepth 20000 in
theorem gX3_countPlaces_X5_at : GoodIn wsX3_countPlaces (wsV RX3 38 RX5 yX5_at wsX5_at) := goodIn_app (goodIn_of _ (by decide +kernel)) ggX3_countPlaces_X5_at
theorem dX3_countPlaces_0 : decode cX3_countPlaces 0 = .ok (.aload_n 0, 1) := by decide +kernel
theorem dX3_countPlaces_1 : decode cX3_countPlaces 1 = .ok (.iload_n 1, 1) := by decide +kernel
theorem dX3_countPlaces_2 : decode cX3_countPlaces 2 = .ok (.invokevirtual 59, 3) := by decide +kernel
theorem dX3_countPlaces_5 : decode cX3_countPlaces 5 = .ok (.iconst 0, 1) := by decide +kernel
theorem dX3_countPlaces_6 : decode cX3_countPlaces 6 = .ok (.istore_n 2, 1) := by decide +kernel
theorem dX3_countPlaces_7 : decode cX3_countPlaces 7 = .ok (.iconst 0, 1) := by decide +kernel
theorem dX3_countPlaces_8 : decode cX3_countPlaces 8 = .ok (.istore_n 3, 1) := by decide +kernel
theorem dX3_countPlaces_9 : decode cX3_countPlaces 9 = .ok (.iload_n 3, 1) := by decide +kernel
theorem dX3_countPlaces_10 : decode cX3_countPlaces 10 = .ok (.sipush 3600, 3) := by decide +kernel
theorem dX3_countPlaces_13 : decode cX3_countPlaces 13 = .ok (.if_icmp .ge 23, 3) := by decide +kernel
theorem dX3_countPlaces_16 : decode cX3_countPlaces 16 = .ok (.aload_n 0, 1) := by decide +kernel
theorem dX3_countPlaces_17 : decode cX3_countPlaces 17 = .ok (.getfield 23, 3) := by decide +kernel
theorem dX3_countPlaces_20 : decode cX3_countPlaces 20 = .ok (.iload_n 3, 1) := by decide +kernel
theorem dX3_countPlaces_21 : decode cX3_countPlaces 21 = .ok (.invokevirtual 38, 3) := by decide +kernel
theorem dX3_countPlaces_24 : decode cX3_countPlaces 24 = .ok (.ifCond .le 6, 3) := by decide +kernel
theorem dX3_countPlaces_27 : decode cX3_countPlaces 27 = .ok (.iinc 2 1, 3) := by decide +kernel
theorem dX3_countPlaces_30 : decode cX3_countPlaces 30 = .ok (.iinc 3 1, 3) := by decide +kernel
theorem dX3_countPlaces_33 : decode cX3_countPlaces 33 = .ok (.goto (-24), 3) := by decide +kernel
theorem dX3_countPlaces_36 : decode cX3_countPlaces 36 = .ok (.iload_n 2, 1) := by decide +kernel
theorem dX3_countPlaces_37 : decode cX3_countPlaces 37 = .ok (.ireturn, 1) := by decide +kernel
set_option maxRecDepth 20000 in
theorem ggX3_placeAt_X3_tallyPlaces : GoodIn wsX3_placeAt wsX3_tallyPlaces := goodIn_r _ [6, 1, 7, 8, 9, 10, 11, 12, 13, 14, 15, 16, 17, 18, 19, 20, 21, 22, 23, 24, 25, 26, 27, 28, 29, 30, 31, 32, 33, 34, 35, 36, 37, 38, 39] (by decide +kernel) (by decide +kernel)
set_option maxRecDepth 20000 in
theorem gX3_placeAt_X3_tallyPlaces : GoodIn wsX3_placeAt (wsV RX3 59 RX3 yX3_tallyPlaces wsX3_tallyPlaces) := goodIn_app (goodIn_of _ (by decide +kernel)) ggX3_placeAt_X3_tallyPlaces
set_option maxRecDepth 20000 in
theorem ggX3_placeAt_X5_at : GoodIn wsX3_placeAt wsX5_at := goodIn_r _ [18, 14, 39] (by decide +kernel) (by decide +kernel)
set_option maxRecDepth 20000 in
theorem gX3_placeAt_X5_at : GoodIn wsX3_placeAt (wsV RX3 38 RX5 yX5_at wsX5_at) := goodIn_app (goodIn_of _ (by decide +kernel)) ggX3_placeAt_X5_at
theorem dX3_placeAt_0 : decode cX3_placeAt 0 = .ok (.aload_n 0, 1) := by decide +kernel
theorem dX3_placeAt_1 : decode cX3_placeAt 1 = .ok (.iload_n 1, 1) := by decide +kernel
theorem dX3_placeAt_2 : decode cX3_placeAt 2 = .ok (.invokevirtual 59, 3) := by decide +kernel
theorem dX3_placeAt_5 : decode cX3_placeAt 5 = .ok (.iload_n 2, 1) := by decide +kernel
theorem dX3_placeAt_6 : decode cX3_placeAt 6 = .ok (.istore_n 3, 1) := by decide +kernel
theorem dX3_placeAt_7 : decode cX3_placeAt 7 = .ok (.iconst 0, 1) := by decide +kernel
theorem dX3_placeAt_8 : decode cX3_placeAt 8 = .ok (.istore 4, 2) := by decide +kernel
theorem dX3_placeAt_10 : decode cX3_placeAt 10 = .ok (.iload 4, 2) := by decide +kernel
theorem dX3_placeAt_12 : decode cX3_placeAt 12 = .ok (.sipush 3600, 3) := by decide +kernel
theorem dX3_placeAt_15 : decode cX3_placeAt 15 = .ok (.if_icmp .ge 31, 3) := by decide +kernel
theorem dX3_placeAt_18 : decode cX3_placeAt 18 = .ok (.aload_n 0, 1) := by decide +kernel
theorem dX3_placeAt_19 : decode cX3_placeAt 19 = .ok (.getfield 23, 3) := by decide +kernel
theorem dX3_placeAt_22 : decode cX3_placeAt 22 = .ok (.iload 4, 2) := by decide +kernel
theorem dX3_placeAt_24 : decode cX3_placeAt 24 = .ok (.invokevirtual 38, 3) := by decide +kernel
theorem dX3_placeAt_27 : decode cX3_placeAt 27 = .ok (.ifCond .le 13, 3) := by decide +kernel
theorem dX3_placeAt_30 : decode cX3_placeAt 30 = .ok (.iload_n 3, 1) := by decide +kernel
theorem dX3_placeAt_31 : decode cX3_placeAt 31 = .ok (.ifCond .ne 6, 3) := by decide +kernel
theorem dX3_placeAt_34 : decode cX3_placeAt 34 = .ok (.iload 4, 2) := by decide +kernel
theorem dX3_placeAt_36 : decode cX3_placeAt 36 = .ok (.ireturn, 1) := by decide +kernel
theorem dX3_placeAt_37 : decode cX3_placeAt 37 = .ok (.iinc 3 (-1), 3) := by decide +kernel
theorem dX3_placeAt_40 : decode cX3_placeAt 40 = .ok (.iinc 4 1, 3) := by decide +kernel
theorem dX3_placeAt_43 : decode cX3_placeAt 43 = .ok (.goto (-33), 3) := by decide +kernel
theorem dX3_placeAt_46 : decode cX3_placeAt 46 = .ok (.iconst (-1), 1) := by decide +kernel
theorem dX3_placeAt_47 : decode cX3_placeAt 47 = .ok (.ireturn, 1) := by decide +kernel
set_option maxRecDepth 20000 in
theorem ggX3_tallyPlaces_X5_fill : GoodIn wsX3_tallyPlaces wsX5_fill := goodIn_r _ [8, 9, 34] (by decide +kernel) (by decide +kernel)
set_option maxRecDepth 20000 in
theorem gX3_tallyPlaces_X5_fill : GoodIn wsX3_tallyPlaces (wsV RX3 26 RX5 yX5_fill wsX5_fill) := goodIn_app (goodIn_of _ (by decide +kernel)) ggX3_tallyPlaces_X5_fill
set_option maxRecDepth 20000 in
theorem ggX3_tallyPlaces_X5_at : GoodIn wsX3_tallyPlaces wsX5_at := goodIn_r _ [13, 9, 34] (by decide +kernel) (by decide +kernel)
set_option maxRecDepth 20000 in
theorem gX3_tallyPlaces_X5_at : GoodIn wsX3_tallyPlaces (wsV RX3 38 RX5 yX5_at wsX5_at) := goodIn_app (goodIn_of _ (by decide +kernel)) ggX3_tallyPlaces_X5_at
set_option maxRecDepth 20000 in
theorem ggX3_tallyPlaces_X7_drift : GoodIn wsX3_tallyPlaces wsX7_drift := goodIn_r _ [16, 17, 18, 15, 19, 20, 21, 22] (by decide +kernel) (by decide +kernel)
set_option maxRecDepth 20000 in
theorem gX3_tallyPlaces_X7_drift_n29 : GoodIn wsX3_tallyPlaces (wsX7_drift) := ggX3_tallyPlaces_X7_drift
set_option maxRecDepth 20000 in
theorem ggX3_tallyPlaces_J9_floorMod_7cf53 : GoodIn wsX3_tallyPlaces wsJ9_floorMod_7cf53 := goodIn_r _ [26] (by decide +kernel) (by decide +kernel)
set_option maxRecDepth 20000 in
theorem gX3_tallyPlaces_J9_floorMod_7cf53 : GoodIn wsX3_tallyPlaces (va_wsS RX3 33 yJ9_floorMod_7cf53 wsJ9_floorMod_7cf53) := goodIn_app (goodIn_of _ (by decide +kernel)) ggX3_tallyPlaces_J9_floorMod_7cf53
set_option maxRecDepth 20000 in
theorem ggX3_tallyPlaces_X5_put : GoodIn wsX3_tallyPlaces wsX5_put := goodIn_r _ [30, 9, 34] (by decide +kernel) (by decide +kernel)
set_option maxRecDepth 20000 in
theorem gX3_tallyPlaces_X5_put : GoodIn wsX3_tallyPlaces (wsV RX3 49 RX5 yX5_put wsX5_put) := goodIn_app (goodIn_of _ (by decide +kernel)) ggX3_tallyPlaces_X5_put
theorem dX3_tallyPlaces_0 : decode cX3_tallyPlaces 0 = .ok (.aload_n 0, 1) := by decide +kernel
theorem dX3_tallyPlaces_1 : decode cX3_tallyPlaces 1 = .ok (.getfield 23, 3) := by decide +kernel
theorem dX3_tallyPlaces_4 : decode cX3_tallyPlaces 4 = .ok (.iconst 0, 1) := by decide +kernel
theorem dX3_tallyPlaces_5 : decode cX3_tallyPlaces 5 = .ok (.invokevirtual 26, 3) := by decide +kernel
theorem dX3_tallyPlaces_8 : decode cX3_tallyPlaces 8 = .ok (.iconst 0, 1) := by decide +kernel
theorem dX3_tallyPlaces_9 : decode cX3_tallyPlaces 9 = .ok (.istore_n 2, 1) := by decide +kernel
theorem dX3_tallyPlaces_10 : decode cX3_tallyPlaces 10 = .ok (.iload_n 2, 1) := by decide +kernel
theorem dX3_tallyPlaces_11 : decode cX3_tallyPlaces 11 = .ok (.sipush 405, 3) := by decide +kernel
theorem dX3_tallyPlaces_14 : decode cX3_tallyPlaces 14 = .ok (.if_icmp .ge 78, 3) := by decide +kernel
theorem dX3_tallyPlaces_17 : decode cX3_tallyPlaces 17 = .ok (.aload_n 0, 1) := by decide +kernel
theorem dX3_tallyPlaces_18 : decode cX3_tallyPlaces 18 = .ok (.getfield 14, 3) := by decide +kernel
theorem dX3_tallyPlaces_21 : decode cX3_tallyPlaces 21 = .ok (.iload_n 2, 1) := by decide +kernel
theorem dX3_tallyPlaces_22 : decode cX3_tallyPlaces 22 = .ok (.invokevirtual 38, 3) := by decide +kernel
theorem dX3_tallyPlaces_25 : decode cX3_tallyPlaces 25 = .ok (.iload_n 2, 1) := by decide +kernel
theorem dX3_tallyPlaces_26 : decode cX3_tallyPlaces 26 = .ok (.iload_n 1, 1) := by decide +kernel
theorem dX3_tallyPlaces_27 : decode cX3_tallyPlaces 27 = .ok (.invokestatic 29, 3) := by decide +kernel
theorem dX3_tallyPlaces_30 : decode cX3_tallyPlaces 30 = .ok (.iadd, 1) := by decide +kernel
theorem dX3_tallyPlaces_31 : decode cX3_tallyPlaces 31 = .ok (.istore_n 3, 1) := by decide +kernel
theorem dX3_tallyPlaces_32 : decode cX3_tallyPlaces 32 = .ok (.iconst 0, 1) := by decide +kernel
theorem dX3_tallyPlaces_33 : decode cX3_tallyPlaces 33 = .ok (.istore 4, 2) := by decide +kernel
theorem dX3_tallyPlaces_35 : decode cX3_tallyPlaces 35 = .ok (.iload 4, 2) := by decide +kernel
theorem dX3_tallyPlaces_37 : decode cX3_tallyPlaces 37 = .ok (.aload_n 0, 1) := by decide +kernel
theorem dX3_tallyPlaces_38 : decode cX3_tallyPlaces 38 = .ok (.getfield 20, 3) := by decide +kernel
theorem dX3_tallyPlaces_41 : decode cX3_tallyPlaces 41 = .ok (.iload_n 2, 1) := by decide +kernel
theorem dX3_tallyPlaces_42 : decode cX3_tallyPlaces 42 = .ok (.invokevirtual 38, 3) := by decide +kernel
theorem dX3_tallyPlaces_45 : decode cX3_tallyPlaces 45 = .ok (.if_icmp .ge 41, 3) := by decide +kernel
theorem dX3_tallyPlaces_48 : decode cX3_tallyPlaces 48 = .ok (.iload_n 3, 1) := by decide +kernel
theorem dX3_tallyPlaces_49 : decode cX3_tallyPlaces 49 = .ok (.iload 4, 2) := by decide +kernel
theorem dX3_tallyPlaces_51 : decode cX3_tallyPlaces 51 = .ok (.iadd, 1) := by decide +kernel
theorem dX3_tallyPlaces_52 : decode cX3_tallyPlaces 52 = .ok (.sipush 3600, 3) := by decide +kernel
theorem dX3_tallyPlaces_55 : decode cX3_tallyPlaces 55 = .ok (.invokestatic 33, 3) := by decide +kernel
theorem dX3_tallyPlaces_58 : decode cX3_tallyPlaces 58 = .ok (.istore 5, 2) := by decide +kernel
theorem dX3_tallyPlaces_60 : decode cX3_tallyPlaces 60 = .ok (.aload_n 0, 1) := by decide +kernel
theorem dX3_tallyPlaces_61 : decode cX3_tallyPlaces 61 = .ok (.getfield 23, 3) := by decide +kernel
theorem dX3_tallyPlaces_64 : decode cX3_tallyPlaces 64 = .ok (.iload 5, 2) := by decide +kernel
theorem dX3_tallyPlaces_66 : decode cX3_tallyPlaces 66 = .ok (.aload_n 0, 1) := by decide +kernel
theorem dX3_tallyPlaces_67 : decode cX3_tallyPlaces 67 = .ok (.getfield 23, 3) := by decide +kernel
theorem dX3_tallyPlaces_70 : decode cX3_tallyPlaces 70 = .ok (.iload 5, 2) := by decide +kernel
theorem dX3_tallyPlaces_72 : decode cX3_tallyPlaces 72 = .ok (.invokevirtual 38, 3) := by decide +kernel
theorem dX3_tallyPlaces_75 : decode cX3_tallyPlaces 75 = .ok (.iconst 1, 1) := by decide +kernel
theorem dX3_tallyPlaces_76 : decode cX3_tallyPlaces 76 = .ok (.iadd, 1) := by decide +kernel
theorem dX3_tallyPlaces_77 : decode cX3_tallyPlaces 77 = .ok (.invokevirtual 49, 3) := by decide +kernel
theorem dX3_tallyPlaces_80 : decode cX3_tallyPlaces 80 = .ok (.iinc 4 1, 3) := by decide +kernel
theorem dX3_tallyPlaces_83 : decode cX3_tallyPlaces 83 = .ok (.goto (-48), 3) := by decide +kernel
theorem dX3_tallyPlaces_86 : decode cX3_tallyPlaces 86 = .ok (.iinc 2 1, 3) := by decide +kernel
theorem dX3_tallyPlaces_89 : decode cX3_tallyPlaces 89 = .ok (.goto (-79), 3) := by decide +kernel
theorem dX3_tallyPlaces_92 : decode cX3_tallyPlaces 92 = .ok (.return_, 1) := by decide +kernel
set_option maxRecDepth 20000 in
theorem ggX4_init_X5_init : GoodIn wsX4_init wsX5_init := goodIn_r _ [12, 13, 2, 3, 14, 15, 16] (by decide +kernel) (by decide +kernel)
set_option maxRecDepth 20000 in
theorem gX4_init_X5_init : GoodIn wsX4_init (wsX5_init) := ggX4_init_X5_init
theorem dX4_init_0 : decode cX4_init 0 = .ok (.aload_n 0, 1) := by decide +kernel
theorem dX4_init_1 : decode cX4_init 1 = .ok (.invokespecial 3, 3) := by decide +kernel
theorem dX4_init_4 : decode cX4_init 4 = .ok (.aload_n 0, 1) := by decide +kernel
theorem dX4_init_5 : decode cX4_init 5 = .ok (.new 9, 3) := by decide +kernel
theorem dX4_init_8 : decode cX4_init 8 = .ok (.dup, 1) := by decide +kernel
theorem dX4_init_9 : decode cX4_init 9 = .ok (.sipush 3600, 3) := by decide +kernel
theorem dX4_init_12 : decode cX4_init 12 = .ok (.invokespecial 11, 3) := by decide +kernel
theorem dX4_init_15 : decode cX4_init 15 = .ok (.putfield 14, 3) := by decide +kernel
theorem dX4_init_18 : decode cX4_init 18 = .ok (.aload_n 0, 1) := by decide +kernel
theorem dX4_init_19 : decode cX4_init 19 = .ok (.new 9, 3) := by decide +kernel
theorem dX4_init_22 : decode cX4_init 22 = .ok (.dup, 1) := by decide +kernel
theorem dX4_init_23 : decode cX4_init 23 = .ok (.sipush 405, 3) := by decide +kernel
theorem dX4_init_26 : decode cX4_init 26 = .ok (.invokespecial 11, 3) := by decide +kernel
theorem dX4_init_29 : decode cX4_init 29 = .ok (.putfield 20, 3) := by decide +kernel
theorem dX4_init_32 : decode cX4_init 32 = .ok (.aload_n 0, 1) := by decide +kernel
theorem dX4_init_33 : decode cX4_init 33 = .ok (.new 9, 3) := by decide +kernel
theorem dX4_init_36 : decode cX4_init 36 = .ok (.dup, 1) := by decide +kernel
theorem dX4_init_37 : decode cX4_init 37 = .ok (.sipush 3600, 3) := by decide +kernel
theorem dX4_init_40 : decode cX4_init 40 = .ok (.invokespecial 11, 3) := by decide +kernel
theorem dX4_init_43 : decode cX4_init 43 = .ok (.putfield 23, 3) := by decide +kernel
theorem dX4_init_46 : decode cX4_init 46 = .ok (.return_, 1) := by decide +kernel
set_option maxRecDepth 20000 in
theorem ggX4_countPaths_X5_fill : GoodIn wsX4_countPaths wsX5_fill := goodIn_r _ [10, 11, 67] (by decide +kernel) (by decide +kernel)
set_option maxRecDepth 20000 in
theorem gX4_countPaths_X5_fill : GoodIn wsX4_countPaths (wsV RX4 33 RX5 yX5_fill wsX5_fill) := goodIn_app (goodIn_of _ (by decide +kernel)) ggX4_countPaths_X5_fill
set_option maxRecDepth 20000 in
theorem ggX4_countPaths_X4_makeGroups : GoodIn wsX4_countPaths wsX4_makeGroups := goodIn_r _ [16, 4, 5, 6, 7, 8, 9, 10, 11, 17, 18, 15, 19, 20, 21, 22, 23, 24, 25, 26, 27, 28, 29, 30, 31, 32, 33, 34, 35, 36, 37, 38, 39, 40, 62, 63, 64, 65, 66, 67] (by decide +kernel) (by decide +kernel)
set_option maxRecDepth 20000 in
theorem gX4_countPaths_X4_makeGroups : GoodIn wsX4_countPaths (wsV RX4 36 RX4 yX4_makeGroups wsX4_makeGroups) := goodIn_app (goodIn_of _ (by decide +kernel)) ggX4_countPaths_X4_makeGroups
set_option maxRecDepth 20000 in
theorem ggX4_countPaths_X5_at : GoodIn wsX4_countPaths wsX5_at := goodIn_r _ [36, 11, 67] (by decide +kernel) (by decide +kernel)
set_option maxRecDepth 20000 in
theorem gX4_countPaths_X5_at : GoodIn wsX4_countPaths (wsV RX4 40 RX5 yX5_at wsX5_at) := goodIn_app (goodIn_of _ (by decide +kernel)) ggX4_countPaths_X5_at
set_option maxRecDepth 20000 in
theorem ggX4_countPaths_X3_widthOf : GoodIn wsX4_countPaths wsX3_widthOf := goodIn_r _ [45, 46, 47, 34, 35, 9, 36, 11, 68, 69, 70, 67] (by decide +kernel) (by decide +kernel)
set_option maxRecDepth 20000 in
theorem gX4_countPaths_X3_widthOf : GoodIn wsX4_countPaths (wsV RX4 44 RX3 yX3_widthOf wsX3_widthOf) := goodIn_app (goodIn_of _ (by decide +kernel)) ggX4_countPaths_X3_widthOf
set_option maxRecDepth 20000 in
theorem ggX4_countPaths_X4_countCourse : GoodIn wsX4_countPaths wsX4_countCourse := goodIn_r _ [51, 3, 1, 2, 52, 53, 54, 44, 55, 56, 47, 34, 35, 9, 36, 11, 57, 58, 15, 59, 20, 21, 22, 23, 24, 25, 26, 27, 28, 29, 30, 31, 32, 60, 61, 41, 42, 43, 45, 46, 33, 37, 38, 39, 40, 62, 63, 64, 65, 66, 68, 69, 70, 67] (by decide +kernel) (by decide +kernel)
set_option maxRecDepth 20000 in
theorem gX4_countPaths_X4_countCourse : GoodIn wsX4_countPaths (wsV RX4 49 RX4 yX4_countCourse wsX4_countCourse) := goodIn_app (goodIn_of _ (by decide +kernel)) ggX4_countPaths_X4_countCourse
theorem dX4_countPaths_0 : decode cX4_countPaths 0 = .ok (.aload_n 0, 1) := by decide +kernel
theorem dX4_countPaths_1 : decode cX4_countPaths 1 = .ok (.iconst 0, 1) := by decide +kernel
theorem dX4_countPaths_2 : decode cX4_countPaths 2 = .ok (.putfield 26, 3) := by decide +kernel
theorem dX4_countPaths_5 : decode cX4_countPaths 5 = .ok (.aload_n 0, 1) := by decide +kernel
theorem dX4_countPaths_6 : decode cX4_countPaths 6 = .ok (.iconst 0, 1) := by decide +kernel
theorem dX4_countPaths_7 : decode cX4_countPaths 7 = .ok (.putfield 30, 3) := by decide +kernel
theorem dX4_countPaths_10 : decode cX4_countPaths 10 = .ok (.aload_n 0, 1) := by decide +kernel
theorem dX4_countPaths_11 : decode cX4_countPaths 11 = .ok (.getfield 23, 3) := by decide +kernel
theorem dX4_countPaths_14 : decode cX4_countPaths 14 = .ok (.iconst (-1), 1) := by decide +kernel
theorem dX4_countPaths_15 : decode cX4_countPaths 15 = .ok (.invokevirtual 33, 3) := by decide +kernel
theorem dX4_countPaths_18 : decode cX4_countPaths 18 = .ok (.aload_n 0, 1) := by decide +kernel
theorem dX4_countPaths_19 : decode cX4_countPaths 19 = .ok (.iload_n 2, 1) := by decide +kernel
theorem dX4_countPaths_20 : decode cX4_countPaths 20 = .ok (.iload_n 3, 1) := by decide +kernel
theorem dX4_countPaths_21 : decode cX4_countPaths 21 = .ok (.invokevirtual 36, 3) := by decide +kernel
theorem dX4_countPaths_24 : decode cX4_countPaths 24 = .ok (.iconst 0, 1) := by decide +kernel
theorem dX4_countPaths_25 : decode cX4_countPaths 25 = .ok (.istore 4, 2) := by decide +kernel
theorem dX4_countPaths_27 : decode cX4_countPaths 27 = .ok (.iload 4, 2) := by decide +kernel
theorem dX4_countPaths_29 : decode cX4_countPaths 29 = .ok (.sipush 3600, 3) := by decide +kernel
theorem dX4_countPaths_32 : decode cX4_countPaths 32 = .ok (.if_icmp .ge 74, 3) := by decide +kernel
theorem dX4_countPaths_35 : decode cX4_countPaths 35 = .ok (.aload_n 0, 1) := by decide +kernel
theorem dX4_countPaths_36 : decode cX4_countPaths 36 = .ok (.getfield 14, 3) := by decide +kernel
theorem dX4_countPaths_39 : decode cX4_countPaths 39 = .ok (.iload 4, 2) := by decide +kernel
theorem dX4_countPaths_41 : decode cX4_countPaths 41 = .ok (.invokevirtual 40, 3) := by decide +kernel
theorem dX4_countPaths_44 : decode cX4_countPaths 44 = .ok (.istore 5, 2) := by decide +kernel
theorem dX4_countPaths_46 : decode cX4_countPaths 46 = .ok (.iconst 0, 1) := by decide +kernel
theorem dX4_countPaths_47 : decode cX4_countPaths 47 = .ok (.istore 6, 2) := by decide +kernel
theorem dX4_countPaths_49 : decode cX4_countPaths 49 = .ok (.iload 6, 2) := by decide +kernel
theorem dX4_countPaths_51 : decode cX4_countPaths 51 = .ok (.sipush 405, 3) := by decide +kernel
theorem dX4_countPaths_54 : decode cX4_countPaths 54 = .ok (.if_icmp .ge 46, 3) := by decide +kernel
theorem dX4_countPaths_57 : decode cX4_countPaths 57 = .ok (.iload 5, 2) := by decide +kernel
theorem dX4_countPaths_59 : decode cX4_countPaths 59 = .ok (.iconst (-1), 1) := by decide +kernel
theorem dX4_countPaths_60 : decode cX4_countPaths 60 = .ok (.if_icmp .eq 40, 3) := by decide +kernel
theorem dX4_countPaths_63 : decode cX4_countPaths 63 = .ok (.aload_n 1, 1) := by decide +kernel
theorem dX4_countPaths_64 : decode cX4_countPaths 64 = .ok (.iload 5, 2) := by decide +kernel
theorem dX4_countPaths_66 : decode cX4_countPaths 66 = .ok (.invokevirtual 44, 3) := by decide +kernel
theorem dX4_countPaths_69 : decode cX4_countPaths 69 = .ok (.ifCond .le 14, 3) := by decide +kernel
theorem dX4_countPaths_72 : decode cX4_countPaths 72 = .ok (.aload_n 0, 1) := by decide +kernel
theorem dX4_countPaths_73 : decode cX4_countPaths 73 = .ok (.aload_n 1, 1) := by decide +kernel
theorem dX4_countPaths_74 : decode cX4_countPaths 74 = .ok (.iload 5, 2) := by decide +kernel
theorem dX4_countPaths_76 : decode cX4_countPaths 76 = .ok (.iload 4, 2) := by decide +kernel
theorem dX4_countPaths_78 : decode cX4_countPaths 78 = .ok (.iload_n 2, 1) := by decide +kernel
theorem dX4_countPaths_79 : decode cX4_countPaths 79 = .ok (.iload_n 3, 1) := by decide +kernel
theorem dX4_countPaths_80 : decode cX4_countPaths 80 = .ok (.invokevirtual 49, 3) := by decide +kernel
theorem dX4_countPaths_83 : decode cX4_countPaths 83 = .ok (.aload_n 0, 1) := by decide +kernel
theorem dX4_countPaths_84 : decode cX4_countPaths 84 = .ok (.getfield 20, 3) := by decide +kernel
theorem dX4_countPaths_87 : decode cX4_countPaths 87 = .ok (.iload 5, 2) := by decide +kernel
theorem dX4_countPaths_89 : decode cX4_countPaths 89 = .ok (.invokevirtual 40, 3) := by decide +kernel
theorem dX4_countPaths_92 : decode cX4_countPaths 92 = .ok (.istore 5, 2) := by decide +kernel
theorem dX4_countPaths_94 : decode cX4_countPaths 94 = .ok (.iinc 6 1, 3) := by decide +kernel
theorem dX4_countPaths_97 : decode cX4_countPaths 97 = .ok (.goto (-48), 3) := by decide +kernel
theorem dX4_countPaths_100 : decode cX4_countPaths 100 = .ok (.iinc 4 1, 3) := by decide +kernel
theorem dX4_countPaths_103 : decode cX4_countPaths 103 = .ok (.goto (-76), 3) := by decide +kernel
theorem dX4_countPaths_106 : decode cX4_countPaths 106 = .ok (.return_, 1) := by decide +kernel
set_option maxRecDepth 20000 in
theorem ggX4_makeGroups_X5_fill : GoodIn wsX4_makeGroups wsX5_fill := goodIn_r _ [7, 8, 39] (by decide +kernel) (by decide +kernel)
set_option maxRecDepth 20000 in
theorem gX4_makeGroups_X5_fill : GoodIn wsX4_makeGroups (wsV RX4 33 RX5 yX5_fill wsX5_fill) := goodIn_app (goodIn_of _ (by decide +kernel)) ggX4_makeGroups_X5_fill
set_option maxRecDepth 20000 in
theorem ggX4_makeGroups_X4_groupOf : GoodIn wsX4_makeGroups wsX4_groupOf := goodIn_r _ [12, 13, 14, 15, 16, 17, 18, 19, 20, 21, 22, 23, 24, 25] (by decide +kernel) (by decide +kernel)
set_option maxRecDepth 20000 in
theorem gX4_makeGroups_X4_groupOf : GoodIn wsX4_makeGroups (va_wsS RX4 53 yX4_groupOf wsX4_groupOf) := goodIn_app (goodIn_of _ (by decide +kernel)) ggX4_makeGroups_X4_groupOf
set_option maxRecDepth 20000 in
theorem ggX4_makeGroups_X5_at : GoodIn wsX4_makeGroups wsX5_at := goodIn_r _ [29, 8, 39] (by decide +kernel) (by decide +kernel)
set_option maxRecDepth 20000 in
theorem gX4_makeGroups_X5_at : GoodIn wsX4_makeGroups (wsV RX4 40 RX5 yX5_at wsX5_at) := goodIn_app (goodIn_of _ (by decide +kernel)) ggX4_makeGroups_X5_at
set_option maxRecDepth 20000 in
theorem ggX4_makeGroups_X5_put : GoodIn wsX4_makeGroups wsX5_put := goodIn_r _ [33, 8, 39] (by decide +kernel) (by decide +kernel)
set_option maxRecDepth 20000 in
theorem gX4_makeGroups_X5_put : GoodIn wsX4_makeGroups (wsV RX4 57 RX5 yX5_put wsX5_put) := goodIn_app (goodIn_of _ (by decide +kernel)) ggX4_makeGroups_X5_put
theorem dX4_makeGroups_0 : decode cX4_makeGroups 0 = .ok (.aload_n 0, 1) := by decide +kernel
theorem dX4_makeGroups_1 : decode cX4_makeGroups 1 = .ok (.getfield 14, 3) := by decide +kernel
theorem dX4_makeGroups_4 : decode cX4_makeGroups 4 = .ok (.iconst (-1), 1) := by decide +kernel
theorem dX4_makeGroups_5 : decode cX4_makeGroups 5 = .ok (.invokevirtual 33, 3) := by decide +kernel
theorem dX4_makeGroups_8 : decode cX4_makeGroups 8 = .ok (.iconst 0, 1) := by decide +kernel
theorem dX4_makeGroups_9 : decode cX4_makeGroups 9 = .ok (.istore_n 3, 1) := by decide +kernel
theorem dX4_makeGroups_10 : decode cX4_makeGroups 10 = .ok (.iload_n 3, 1) := by decide +kernel
theorem dX4_makeGroups_11 : decode cX4_makeGroups 11 = .ok (.sipush 405, 3) := by decide +kernel
theorem dX4_makeGroups_14 : decode cX4_makeGroups 14 = .ok (.if_icmp .ge 44, 3) := by decide +kernel
theorem dX4_makeGroups_17 : decode cX4_makeGroups 17 = .ok (.iload_n 3, 1) := by decide +kernel
theorem dX4_makeGroups_18 : decode cX4_makeGroups 18 = .ok (.iload_n 1, 1) := by decide +kernel
theorem dX4_makeGroups_19 : decode cX4_makeGroups 19 = .ok (.iload_n 2, 1) := by decide +kernel
theorem dX4_makeGroups_20 : decode cX4_makeGroups 20 = .ok (.invokestatic 53, 3) := by decide +kernel
theorem dX4_makeGroups_23 : decode cX4_makeGroups 23 = .ok (.istore 4, 2) := by decide +kernel
theorem dX4_makeGroups_25 : decode cX4_makeGroups 25 = .ok (.aload_n 0, 1) := by decide +kernel
theorem dX4_makeGroups_26 : decode cX4_makeGroups 26 = .ok (.getfield 20, 3) := by decide +kernel
theorem dX4_makeGroups_29 : decode cX4_makeGroups 29 = .ok (.iload_n 3, 1) := by decide +kernel
theorem dX4_makeGroups_30 : decode cX4_makeGroups 30 = .ok (.aload_n 0, 1) := by decide +kernel
theorem dX4_makeGroups_31 : decode cX4_makeGroups 31 = .ok (.getfield 14, 3) := by decide +kernel
theorem dX4_makeGroups_34 : decode cX4_makeGroups 34 = .ok (.iload 4, 2) := by decide +kernel
theorem dX4_makeGroups_36 : decode cX4_makeGroups 36 = .ok (.invokevirtual 40, 3) := by decide +kernel
theorem dX4_makeGroups_39 : decode cX4_makeGroups 39 = .ok (.invokevirtual 57, 3) := by decide +kernel
theorem dX4_makeGroups_42 : decode cX4_makeGroups 42 = .ok (.aload_n 0, 1) := by decide +kernel
theorem dX4_makeGroups_43 : decode cX4_makeGroups 43 = .ok (.getfield 14, 3) := by decide +kernel
theorem dX4_makeGroups_46 : decode cX4_makeGroups 46 = .ok (.iload 4, 2) := by decide +kernel
theorem dX4_makeGroups_48 : decode cX4_makeGroups 48 = .ok (.iload_n 3, 1) := by decide +kernel
theorem dX4_makeGroups_49 : decode cX4_makeGroups 49 = .ok (.invokevirtual 57, 3) := by decide +kernel
theorem dX4_makeGroups_52 : decode cX4_makeGroups 52 = .ok (.iinc 3 1, 3) := by decide +kernel
theorem dX4_makeGroups_55 : decode cX4_makeGroups 55 = .ok (.goto (-45), 3) := by decide +kernel
theorem dX4_makeGroups_58 : decode cX4_makeGroups 58 = .ok (.return_, 1) := by decide +kernel
set_option maxRecDepth 20000 in
theorem ggX4_groupOf_X7_drift : GoodIn wsX4_groupOf wsX7_drift := goodIn_r _ [3, 4, 5, 2, 6, 7, 8, 9] (by decide +kernel) (by decide +kernel)
set_option maxRecDepth 20000 in
theorem gX4_groupOf_X7_drift_n60 : GoodIn wsX4_groupOf (wsX7_drift) := ggX4_groupOf_X7_drift
set_option maxRecDepth 20000 in
theorem ggX4_groupOf_J9_floorMod_7cf53 : GoodIn wsX4_groupOf wsJ9_floorMod_7cf53 := goodIn_r _ [13] (by decide +kernel) (by decide +kernel)
set_option maxRecDepth 20000 in
theorem gX4_groupOf_J9_floorMod_7cf53 : GoodIn wsX4_groupOf (va_wsS RX4 64 yJ9_floorMod_7cf53 wsJ9_floorMod_7cf53) := goodIn_app (goodIn_of _ (by decide +kernel)) ggX4_groupOf_J9_floorMod_7cf53
theorem dX4_groupOf_0 : decode cX4_groupOf 0 = .ok (.iload_n 2, 1) := by decide +kernel
theorem dX4_groupOf_1 : decode cX4_groupOf 1 = .ok (.iconst 2, 1) := by decide +kernel
theorem dX4_groupOf_2 : decode cX4_groupOf 2 = .ok (.if_icmp .le 5, 3) := by decide +kernel
theorem dX4_groupOf_5 : decode cX4_groupOf 5 = .ok (.iload_n 0, 1) := by decide +kernel
theorem dX4_groupOf_6 : decode cX4_groupOf 6 = .ok (.ireturn, 1) := by decide +kernel
theorem dX4_groupOf_7 : decode cX4_groupOf 7 = .ok (.iload_n 0, 1) := by decide +kernel
theorem dX4_groupOf_8 : decode cX4_groupOf 8 = .ok (.iload_n 1, 1) := by decide +kernel
theorem dX4_groupOf_9 : decode cX4_groupOf 9 = .ok (.iload_n 2, 1) := by decide +kernel
theorem dX4_groupOf_10 : decode cX4_groupOf 10 = .ok (.iadd, 1) := by decide +kernel
theorem dX4_groupOf_11 : decode cX4_groupOf 11 = .ok (.iconst 1, 1) := by decide +kernel
theorem dX4_groupOf_12 : decode cX4_groupOf 12 = .ok (.isub, 1) := by decide +kernel
theorem dX4_groupOf_13 : decode cX4_groupOf 13 = .ok (.invokestatic 60, 3) := by decide +kernel
theorem dX4_groupOf_16 : decode cX4_groupOf 16 = .ok (.iload_n 0, 1) := by decide +kernel
theorem dX4_groupOf_17 : decode cX4_groupOf 17 = .ok (.iload_n 1, 1) := by decide +kernel
theorem dX4_groupOf_18 : decode cX4_groupOf 18 = .ok (.invokestatic 60, 3) := by decide +kernel
theorem dX4_groupOf_21 : decode cX4_groupOf 21 = .ok (.isub, 1) := by decide +kernel
theorem dX4_groupOf_22 : decode cX4_groupOf 22 = .ok (.sipush 3600, 3) := by decide +kernel
theorem dX4_groupOf_25 : decode cX4_groupOf 25 = .ok (.invokestatic 64, 3) := by decide +kernel
theorem dX4_groupOf_28 : decode cX4_groupOf 28 = .ok (.ireturn, 1) := by decide +kernel
set_option maxRecDepth 20000 in
theorem ggX4_countCourse_X3_startOf : GoodIn wsX4_countCourse wsX3_startOf := goodIn_r _ [8, 9, 10, 11, 12, 13, 14, 15, 50, 51, 52, 53] (by decide +kernel) (by decide +kernel)
set_option maxRecDepth 20000 in
theorem gX4_countCourse_X3_startOf : GoodIn wsX4_countCourse (wsV RX4 69 RX3 yX3_startOf wsX3_startOf) := goodIn_app (goodIn_of _ (by decide +kernel)) ggX4_countCourse_X3_startOf
set_option maxRecDepth 20000 in
theorem ggX4_countCourse_X4_nearBitsOf : GoodIn wsX4_countCourse wsX4_nearBitsOf := goodIn_r _ [19, 20, 21, 22, 23, 24, 25, 26, 27, 28, 29, 30, 31, 32, 33, 34] (by decide +kernel) (by decide +kernel)
set_option maxRecDepth 20000 in
theorem gX4_countCourse_X4_nearBitsOf : GoodIn wsX4_countCourse (va_wsS RX4 72 yX4_nearBitsOf wsX4_nearBitsOf) := goodIn_app (goodIn_of _ (by decide +kernel)) ggX4_countCourse_X4_nearBitsOf
set_option maxRecDepth 20000 in
theorem ggX4_countCourse_X7_drift : GoodIn wsX4_countCourse wsX7_drift := goodIn_r _ [22, 23, 24, 21, 25, 26, 27, 28] (by decide +kernel) (by decide +kernel)
set_option maxRecDepth 20000 in
theorem gX4_countCourse_X7_drift_n60 : GoodIn wsX4_countCourse (wsX7_drift) := ggX4_countCourse_X7_drift
set_option maxRecDepth 20000 in
theorem ggX4_countCourse_X3_widthOf : GoodIn wsX4_countCourse wsX3_widthOf := goodIn_r _ [38, 39, 10, 11, 12, 13, 14, 15, 50, 51, 52, 53] (by decide +kernel) (by decide +kernel)
set_option maxRecDepth 20000 in
theorem gX4_countCourse_X3_widthOf : GoodIn wsX4_countCourse (wsV RX4 44 RX3 yX3_widthOf wsX3_widthOf) := goodIn_app (goodIn_of _ (by decide +kernel)) ggX4_countCourse_X3_widthOf
set_option maxRecDepth 20000 in
theorem ggX4_countCourse_J9_floorMod_7cf53 : GoodIn wsX4_countCourse wsJ9_floorMod_7cf53 := goodIn_r _ [32] (by decide +kernel) (by decide +kernel)
set_option maxRecDepth 20000 in
theorem gX4_countCourse_J9_floorMod_7cf53 : GoodIn wsX4_countCourse (va_wsS RX4 64 yJ9_floorMod_7cf53 wsJ9_floorMod_7cf53) := goodIn_app (goodIn_of _ (by decide +kernel)) ggX4_countCourse_J9_floorMod_7cf53
set_option maxRecDepth 20000 in
theorem ggX4_countCourse_X5_at : GoodIn wsX4_countCourse wsX5_at := goodIn_r _ [14, 15, 53] (by decide +kernel) (by decide +kernel)
set_option maxRecDepth 20000 in
theorem gX4_countCourse_X5_at : GoodIn wsX4_countCourse (wsV RX4 40 RX5 yX5_at wsX5_at) := goodIn_app (goodIn_of _ (by decide +kernel)) ggX4_countCourse_X5_at
set_option maxRecDepth 20000 in
theorem ggX4_countCourse_X5_put : GoodIn wsX4_countCourse wsX5_put := goodIn_r _ [44, 15, 53] (by decide +kernel) (by decide +kernel)
set_option maxRecDepth 20000 in
theorem gX4_countCourse_X5_put : GoodIn wsX4_countCourse (wsV RX4 57 RX5 yX5_put wsX5_put) := goodIn_app (goodIn_of _ (by decide +kernel)) ggX4_countCourse_X5_put
theorem dX4_countCourse_0 : decode cX4_countCourse 0 = .ok (.iload_n 2, 1) := by decide +kernel
theorem dX4_countCourse_1 : decode cX4_countCourse 1 = .ok (.aload_n 1, 1) := by decide +kernel
theorem dX4_countCourse_2 : decode cX4_countCourse 2 = .ok (.iload_n 2, 1) := by decide +kernel
theorem dX4_countCourse_3 : decode cX4_countCourse 3 = .ok (.invokevirtual 69, 3) := by decide +kernel
theorem dX4_countCourse_6 : decode cX4_countCourse 6 = .ok (.iload 4, 2) := by decide +kernel
theorem dX4_countCourse_8 : decode cX4_countCourse 8 = .ok (.iload 5, 2) := by decide +kernel
theorem dX4_countCourse_10 : decode cX4_countCourse 10 = .ok (.invokestatic 72, 3) := by decide +kernel
theorem dX4_countCourse_13 : decode cX4_countCourse 13 = .ok (.lstore 6, 2) := by decide +kernel
theorem dX4_countCourse_15 : decode cX4_countCourse 15 = .ok (.aload_n 1, 1) := by decide +kernel
theorem dX4_countCourse_16 : decode cX4_countCourse 16 = .ok (.iload_n 2, 1) := by decide +kernel
theorem dX4_countCourse_17 : decode cX4_countCourse 17 = .ok (.invokevirtual 69, 3) := by decide +kernel
theorem dX4_countCourse_20 : decode cX4_countCourse 20 = .ok (.iload_n 2, 1) := by decide +kernel
theorem dX4_countCourse_21 : decode cX4_countCourse 21 = .ok (.iload 4, 2) := by decide +kernel
theorem dX4_countCourse_23 : decode cX4_countCourse 23 = .ok (.invokestatic 60, 3) := by decide +kernel
theorem dX4_countCourse_26 : decode cX4_countCourse 26 = .ok (.iadd, 1) := by decide +kernel
theorem dX4_countCourse_27 : decode cX4_countCourse 27 = .ok (.istore 8, 2) := by decide +kernel
theorem dX4_countCourse_29 : decode cX4_countCourse 29 = .ok (.iconst 0, 1) := by decide +kernel
theorem dX4_countCourse_30 : decode cX4_countCourse 30 = .ok (.istore 9, 2) := by decide +kernel
theorem dX4_countCourse_32 : decode cX4_countCourse 32 = .ok (.iload 9, 2) := by decide +kernel
theorem dX4_countCourse_34 : decode cX4_countCourse 34 = .ok (.aload_n 1, 1) := by decide +kernel
theorem dX4_countCourse_35 : decode cX4_countCourse 35 = .ok (.iload_n 2, 1) := by decide +kernel
theorem dX4_countCourse_36 : decode cX4_countCourse 36 = .ok (.invokevirtual 44, 3) := by decide +kernel
theorem dX4_countCourse_39 : decode cX4_countCourse 39 = .ok (.if_icmp .ge 72, 3) := by decide +kernel
theorem dX4_countCourse_42 : decode cX4_countCourse 42 = .ok (.iload 8, 2) := by decide +kernel
theorem dX4_countCourse_44 : decode cX4_countCourse 44 = .ok (.iload 9, 2) := by decide +kernel
theorem dX4_countCourse_46 : decode cX4_countCourse 46 = .ok (.iadd, 1) := by decide +kernel
theorem dX4_countCourse_47 : decode cX4_countCourse 47 = .ok (.sipush 3600, 3) := by decide +kernel
theorem dX4_countCourse_50 : decode cX4_countCourse 50 = .ok (.invokestatic 64, 3) := by decide +kernel
theorem dX4_countCourse_53 : decode cX4_countCourse 53 = .ok (.istore 10, 2) := by decide +kernel
theorem dX4_countCourse_55 : decode cX4_countCourse 55 = .ok (.aload_n 0, 1) := by decide +kernel
theorem dX4_countCourse_56 : decode cX4_countCourse 56 = .ok (.getfield 23, 3) := by decide +kernel
theorem dX4_countCourse_59 : decode cX4_countCourse 59 = .ok (.iload 10, 2) := by decide +kernel
theorem dX4_countCourse_61 : decode cX4_countCourse 61 = .ok (.invokevirtual 40, 3) := by decide +kernel
theorem dX4_countCourse_64 : decode cX4_countCourse 64 = .ok (.iload_n 3, 1) := by decide +kernel
theorem dX4_countCourse_65 : decode cX4_countCourse 65 = .ok (.if_icmp .eq 40, 3) := by decide +kernel
theorem dX4_countCourse_68 : decode cX4_countCourse 68 = .ok (.aload_n 0, 1) := by decide +kernel
theorem dX4_countCourse_69 : decode cX4_countCourse 69 = .ok (.getfield 23, 3) := by decide +kernel
theorem dX4_countCourse_72 : decode cX4_countCourse 72 = .ok (.iload 10, 2) := by decide +kernel
theorem dX4_countCourse_74 : decode cX4_countCourse 74 = .ok (.iload_n 3, 1) := by decide +kernel
theorem dX4_countCourse_75 : decode cX4_countCourse 75 = .ok (.invokevirtual 57, 3) := by decide +kernel
theorem dX4_countCourse_78 : decode cX4_countCourse 78 = .ok (.aload_n 0, 1) := by decide +kernel
theorem dX4_countCourse_79 : decode cX4_countCourse 79 = .ok (.dup, 1) := by decide +kernel
theorem dX4_countCourse_80 : decode cX4_countCourse 80 = .ok (.getfield 26, 3) := by decide +kernel
theorem dX4_countCourse_83 : decode cX4_countCourse 83 = .ok (.iconst 1, 1) := by decide +kernel
theorem dX4_countCourse_84 : decode cX4_countCourse 84 = .ok (.iadd, 1) := by decide +kernel
theorem dX4_countCourse_85 : decode cX4_countCourse 85 = .ok (.putfield 26, 3) := by decide +kernel
theorem dX4_countCourse_88 : decode cX4_countCourse 88 = .ok (.aload_n 0, 1) := by decide +kernel
theorem dX4_countCourse_89 : decode cX4_countCourse 89 = .ok (.dup, 1) := by decide +kernel
theorem dX4_countCourse_90 : decode cX4_countCourse 90 = .ok (.getfield 30, 3) := by decide +kernel
theorem dX4_countCourse_93 : decode cX4_countCourse 93 = .ok (.lload 6, 2) := by decide +kernel
theorem dX4_countCourse_95 : decode cX4_countCourse 95 = .ok (.iload 9, 2) := by decide +kernel
theorem dX4_countCourse_97 : decode cX4_countCourse 97 = .ok (.lshr, 1) := by decide +kernel
theorem dX4_countCourse_98 : decode cX4_countCourse 98 = .ok (.lconst 1, 1) := by decide +kernel
theorem dX4_countCourse_99 : decode cX4_countCourse 99 = .ok (.land, 1) := by decide +kernel
theorem dX4_countCourse_100 : decode cX4_countCourse 100 = .ok (.l2i, 1) := by decide +kernel
theorem dX4_countCourse_101 : decode cX4_countCourse 101 = .ok (.iadd, 1) := by decide +kernel
theorem dX4_countCourse_102 : decode cX4_countCourse 102 = .ok (.putfield 30, 3) := by decide +kernel
theorem dX4_countCourse_105 : decode cX4_countCourse 105 = .ok (.iinc 9 1, 3) := by decide +kernel
theorem dX4_countCourse_108 : decode cX4_countCourse 108 = .ok (.goto (-76), 3) := by decide +kernel
theorem dX4_countCourse_111 : decode cX4_countCourse 111 = .ok (.return_, 1) := by decide +kernel
set_option maxRecDepth 20000 in
theorem ggX4_nearBitsOf_X7_drift : GoodIn wsX4_nearBitsOf wsX7_drift := goodIn_r _ [3, 4, 5, 2, 6, 7, 8, 9] (by decide +kernel) (by decide +kernel)
set_option maxRecDepth 20000 in
theorem gX4_nearBitsOf_X7_drift_n60 : GoodIn wsX4_nearBitsOf (wsX7_drift) := ggX4_nearBitsOf_X7_drift
set_option maxRecDepth 20000 in
theorem ggX4_nearBitsOf_J9_floorMod_7cf53 : GoodIn wsX4_nearBitsOf wsJ9_floorMod_7cf53 := goodIn_r _ [13] (by decide +kernel) (by decide +kernel)
set_option maxRecDepth 20000 in
theorem gX4_nearBitsOf_J9_floorMod_7cf53 : GoodIn wsX4_nearBitsOf (va_wsS RX4 64 yJ9_floorMod_7cf53 wsJ9_floorMod_7cf53) := goodIn_app (goodIn_of _ (by decide +kernel)) ggX4_nearBitsOf_J9_floorMod_7cf53
set_option maxRecDepth 20000 in
theorem ggX4_nearBitsOf_X7_stretch : GoodIn wsX4_nearBitsOf wsX7_stretch := goodIn_r _ [15] (by decide +kernel) (by decide +kernel)
set_option maxRecDepth 20000 in
theorem gX4_nearBitsOf_X7_stretch_n76 : GoodIn wsX4_nearBitsOf (wsX7_stretch) := ggX4_nearBitsOf_X7_stretch
theorem dX4_nearBitsOf_0 : decode cX4_nearBitsOf 0 = .ok (.lconst 0, 1) := by decide +kernel
theorem dX4_nearBitsOf_1 : decode cX4_nearBitsOf 1 = .ok (.lstore 4, 2) := by decide +kernel
theorem dX4_nearBitsOf_3 : decode cX4_nearBitsOf 3 = .ok (.iload_n 2, 1) := by decide +kernel
theorem dX4_nearBitsOf_4 : decode cX4_nearBitsOf 4 = .ok (.istore 6, 2) := by decide +kernel
theorem dX4_nearBitsOf_6 : decode cX4_nearBitsOf 6 = .ok (.iload 6, 2) := by decide +kernel
theorem dX4_nearBitsOf_8 : decode cX4_nearBitsOf 8 = .ok (.iload_n 2, 1) := by decide +kernel
theorem dX4_nearBitsOf_9 : decode cX4_nearBitsOf 9 = .ok (.iload_n 3, 1) := by decide +kernel
theorem dX4_nearBitsOf_10 : decode cX4_nearBitsOf 10 = .ok (.iadd, 1) := by decide +kernel
theorem dX4_nearBitsOf_11 : decode cX4_nearBitsOf 11 = .ok (.if_icmp .ge 48, 3) := by decide +kernel
theorem dX4_nearBitsOf_14 : decode cX4_nearBitsOf 14 = .ok (.bipush 10, 2) := by decide +kernel
theorem dX4_nearBitsOf_16 : decode cX4_nearBitsOf 16 = .ok (.iload 6, 2) := by decide +kernel
theorem dX4_nearBitsOf_18 : decode cX4_nearBitsOf 18 = .ok (.imul, 1) := by decide +kernel
theorem dX4_nearBitsOf_19 : decode cX4_nearBitsOf 19 = .ok (.iconst 2, 1) := by decide +kernel
theorem dX4_nearBitsOf_20 : decode cX4_nearBitsOf 20 = .ok (.isub, 1) := by decide +kernel
theorem dX4_nearBitsOf_21 : decode cX4_nearBitsOf 21 = .ok (.iload_n 0, 1) := by decide +kernel
theorem dX4_nearBitsOf_22 : decode cX4_nearBitsOf 22 = .ok (.iload 6, 2) := by decide +kernel
theorem dX4_nearBitsOf_24 : decode cX4_nearBitsOf 24 = .ok (.invokestatic 60, 3) := by decide +kernel
theorem dX4_nearBitsOf_27 : decode cX4_nearBitsOf 27 = .ok (.isub, 1) := by decide +kernel
theorem dX4_nearBitsOf_28 : decode cX4_nearBitsOf 28 = .ok (.istore 7, 2) := by decide +kernel
theorem dX4_nearBitsOf_30 : decode cX4_nearBitsOf 30 = .ok (.iload 7, 2) := by decide +kernel
theorem dX4_nearBitsOf_32 : decode cX4_nearBitsOf 32 = .ok (.iload_n 1, 1) := by decide +kernel
theorem dX4_nearBitsOf_33 : decode cX4_nearBitsOf 33 = .ok (.isub, 1) := by decide +kernel
theorem dX4_nearBitsOf_34 : decode cX4_nearBitsOf 34 = .ok (.sipush 3600, 3) := by decide +kernel
theorem dX4_nearBitsOf_37 : decode cX4_nearBitsOf 37 = .ok (.invokestatic 64, 3) := by decide +kernel
theorem dX4_nearBitsOf_40 : decode cX4_nearBitsOf 40 = .ok (.istore 8, 2) := by decide +kernel
theorem dX4_nearBitsOf_42 : decode cX4_nearBitsOf 42 = .ok (.lload 4, 2) := by decide +kernel
theorem dX4_nearBitsOf_44 : decode cX4_nearBitsOf 44 = .ok (.iload 8, 2) := by decide +kernel
theorem dX4_nearBitsOf_46 : decode cX4_nearBitsOf 46 = .ok (.iconst 5, 1) := by decide +kernel
theorem dX4_nearBitsOf_47 : decode cX4_nearBitsOf 47 = .ok (.invokestatic 76, 3) := by decide +kernel
theorem dX4_nearBitsOf_50 : decode cX4_nearBitsOf 50 = .ok (.lor, 1) := by decide +kernel
theorem dX4_nearBitsOf_51 : decode cX4_nearBitsOf 51 = .ok (.lstore 4, 2) := by decide +kernel
theorem dX4_nearBitsOf_53 : decode cX4_nearBitsOf 53 = .ok (.iinc 6 1, 3) := by decide +kernel
theorem dX4_nearBitsOf_56 : decode cX4_nearBitsOf 56 = .ok (.goto (-50), 3) := by decide +kernel
theorem dX4_nearBitsOf_59 : decode cX4_nearBitsOf 59 = .ok (.lload 4, 2) := by decide +kernel
theorem dX4_nearBitsOf_61 : decode cX4_nearBitsOf 61 = .ok (.lreturn, 1) := by decide +kernel
theorem dX5_init_0 : decode cX5_init 0 = .ok (.aload_n 0, 1) := by decide +kernel
theorem dX5_init_1 : decode cX5_init 1 = .ok (.invokespecial 1, 3) := by decide +kernel
theorem dX5_init_4 : decode cX5_init 4 = .ok (.aload_n 0, 1) := by decide +kernel
theorem dX5_init_5 : decode cX5_init 5 = .ok (.iload_n 1, 1) := by decide +kernel
theorem dX5_init_6 : decode cX5_init 6 = .ok (.ifCond .le 7, 3) := by decide +kernel
theorem dX5_init_9 : decode cX5_init 9 = .ok (.iload_n 1, 1) := by decide +kernel
theorem dX5_init_10 : decode cX5_init 10 = .ok (.goto 4, 3) := by decide +kernel
theorem dX5_init_13 : decode cX5_init 13 = .ok (.iconst 0, 1) := by decide +kernel
theorem dX5_init_14 : decode cX5_init 14 = .ok (.newarray .int, 2) := by decide +kernel
theorem dX5_init_16 : decode cX5_init 16 = .ok (.putfield 7, 3) := by decide +kernel
theorem dX5_init_19 : decode cX5_init 19 = .ok (.return_, 1) := by decide +kernel
theorem dX5_at_0 : decode cX5_at 0 = .ok (.iload_n 1, 1) := by decide +kernel
theorem dX5_at_1 : decode cX5_at 1 = .ok (.ifCond .lt 21, 3) := by decide +kernel
theorem dX5_at_4 : decode cX5_at 4 = .ok (.iload_n 1, 1) := by decide +kernel
theorem dX5_at_5 : decode cX5_at 5 = .ok (.aload_n 0, 1) := by decide +kernel
theorem dX5_at_6 : decode cX5_at 6 = .ok (.getfield 7, 3) := by decide +kernel
theorem dX5_at_9 : decode cX5_at 9 = .ok (.arraylength, 1) := by decide +kernel
theorem dX5_at_10 : decode cX5_at 10 = .ok (.if_icmp .ge 12, 3) := by decide +kernel
theorem dX5_at_13 : decode cX5_at 13 = .ok (.aload_n 0, 1) := by decide +kernel
theorem dX5_at_14 : decode cX5_at 14 = .ok (.getfield 7, 3) := by decide +kernel
theorem dX5_at_17 : decode cX5_at 17 = .ok (.iload_n 1, 1) := by decide +kernel
theorem dX5_at_18 : decode cX5_at 18 = .ok (.iaload, 1) := by decide +kernel
theorem dX5_at_19 : decode cX5_at 19 = .ok (.goto 4, 3) := by decide +kernel
theorem dX5_at_22 : decode cX5_at 22 = .ok (.iconst 0, 1) := by decide +kernel
theorem dX5_at_23 : decode cX5_at 23 = .ok (.ireturn, 1) := by decide +kernel
theorem dX5_put_0 : decode cX5_put 0 = .ok (.iload_n 1, 1) := by decide +kernel
theorem dX5_put_1 : decode cX5_put 1 = .ok (.ifCond .lt 19, 3) := by decide +kernel
theorem dX5_put_4 : decode cX5_put 4 = .ok (.iload_n 1, 1) := by decide +kernel
theorem dX5_put_5 : decode cX5_put 5 = .ok (.aload_n 0, 1) := by decide +kernel
theorem dX5_put_6 : decode cX5_put 6 = .ok (.getfield 7, 3) := by decide +kernel
theorem dX5_put_9 : decode cX5_put 9 = .ok (.arraylength, 1) := by decide +kernel
theorem dX5_put_10 : decode cX5_put 10 = .ok (.if_icmp .ge 10, 3) := by decide +kernel
theorem dX5_put_13 : decode cX5_put 13 = .ok (.aload_n 0, 1) := by decide +kernel
theorem dX5_put_14 : decode cX5_put 14 = .ok (.getfield 7, 3) := by decide +kernel
theorem dX5_put_17 : decode cX5_put 17 = .ok (.iload_n 1, 1) := by decide +kernel
theorem dX5_put_18 : decode cX5_put 18 = .ok (.iload_n 2, 1) := by decide +kernel
theorem dX5_put_19 : decode cX5_put 19 = .ok (.iastore, 1) := by decide +kernel
theorem dX5_put_20 : decode cX5_put 20 = .ok (.return_, 1) := by decide +kernel
theorem dX5_fill_0 : decode cX5_fill 0 = .ok (.iconst 0, 1) := by decide +kernel
theorem dX5_fill_1 : decode cX5_fill 1 = .ok (.istore_n 2, 1) := by decide +kernel
theorem dX5_fill_2 : decode cX5_fill 2 = .ok (.iload_n 2, 1) := by decide +kernel
theorem dX5_fill_3 : decode cX5_fill 3 = .ok (.aload_n 0, 1) := by decide +kernel
theorem dX5_fill_4 : decode cX5_fill 4 = .ok (.getfield 7, 3) := by decide +kernel
theorem dX5_fill_7 : decode cX5_fill 7 = .ok (.arraylength, 1) := by decide +kernel
theorem dX5_fill_8 : decode cX5_fill 8 = .ok (.if_icmp .ge 16, 3) := by decide +kernel
theorem dX5_fill_11 : decode cX5_fill 11 = .ok (.aload_n 0, 1) := by decide +kernel
theorem dX5_fill_12 : decode cX5_fill 12 = .ok (.getfield 7, 3) := by decide +kernel
theorem dX5_fill_15 : decode cX5_fill 15 = .ok (.iload_n 2, 1) := by decide +kernel
theorem dX5_fill_16 : decode cX5_fill 16 = .ok (.iload_n 1, 1) := by decide +kernel
theorem dX5_fill_17 : decode cX5_fill 17 = .ok (.iastore, 1) := by decide +kernel
theorem dX5_fill_18 : decode cX5_fill 18 = .ok (.iinc 2 1, 3) := by decide +kernel
theorem dX5_fill_21 : decode cX5_fill 21 = .ok (.goto (-19), 3) := by decide +kernel
theorem dX5_fill_24 : decode cX5_fill 24 = .ok (.return_, 1) := by decide +kernel
set_option maxRecDepth 20000 in
theorem ggX6_init_X5_init : GoodIn wsX6_init wsX5_init := goodIn_r _ [16, 17, 2, 3, 18, 19, 20] (by decide +kernel) (by decide +kernel)
set_option maxRecDepth 20000 in
theorem gX6_init_X5_init : GoodIn wsX6_init (wsX5_init) := ggX6_init_X5_init
theorem dX6_init_0 : decode cX6_init 0 = .ok (.aload_n 0, 1) := by decide +kernel
theorem dX6_init_1 : decode cX6_init 1 = .ok (.invokespecial 3, 3) := by decide +kernel
theorem dX6_init_4 : decode cX6_init 4 = .ok (.aload_n 0, 1) := by decide +kernel
theorem dX6_init_5 : decode cX6_init 5 = .ok (.new 9, 3) := by decide +kernel
theorem dX6_init_8 : decode cX6_init 8 = .ok (.dup, 1) := by decide +kernel
theorem dX6_init_9 : decode cX6_init 9 = .ok (.bipush 6, 2) := by decide +kernel
theorem dX6_init_11 : decode cX6_init 11 = .ok (.invokespecial 11, 3) := by decide +kernel
theorem dX6_init_14 : decode cX6_init 14 = .ok (.putfield 14, 3) := by decide +kernel
theorem dX6_init_17 : decode cX6_init 17 = .ok (.aload_n 0, 1) := by decide +kernel
theorem dX6_init_18 : decode cX6_init 18 = .ok (.new 9, 3) := by decide +kernel
theorem dX6_init_21 : decode cX6_init 21 = .ok (.dup, 1) := by decide +kernel
theorem dX6_init_22 : decode cX6_init 22 = .ok (.bipush 30, 2) := by decide +kernel
theorem dX6_init_24 : decode cX6_init 24 = .ok (.invokespecial 11, 3) := by decide +kernel
theorem dX6_init_27 : decode cX6_init 27 = .ok (.putfield 20, 3) := by decide +kernel
theorem dX6_init_30 : decode cX6_init 30 = .ok (.aload_n 0, 1) := by decide +kernel
theorem dX6_init_31 : decode cX6_init 31 = .ok (.new 9, 3) := by decide +kernel
theorem dX6_init_34 : decode cX6_init 34 = .ok (.dup, 1) := by decide +kernel
theorem dX6_init_35 : decode cX6_init 35 = .ok (.bipush 30, 2) := by decide +kernel
theorem dX6_init_37 : decode cX6_init 37 = .ok (.invokespecial 11, 3) := by decide +kernel
theorem dX6_init_40 : decode cX6_init 40 = .ok (.putfield 23, 3) := by decide +kernel
theorem dX6_init_43 : decode cX6_init 43 = .ok (.aload_n 0, 1) := by decide +kernel
theorem dX6_init_44 : decode cX6_init 44 = .ok (.new 9, 3) := by decide +kernel
theorem dX6_init_47 : decode cX6_init 47 = .ok (.dup, 1) := by decide +kernel
theorem dX6_init_48 : decode cX6_init 48 = .ok (.bipush 60, 2) := by decide +kernel
theorem dX6_init_50 : decode cX6_init 50 = .ok (.invokespecial 11, 3) := by decide +kernel
theorem dX6_init_53 : decode cX6_init 53 = .ok (.putfield 26, 3) := by decide +kernel
theorem dX6_init_56 : decode cX6_init 56 = .ok (.aload_n 0, 1) := by decide +kernel
theorem dX6_init_57 : decode cX6_init 57 = .ok (.new 9, 3) := by decide +kernel
theorem dX6_init_60 : decode cX6_init 60 = .ok (.dup, 1) := by decide +kernel
theorem dX6_init_61 : decode cX6_init 61 = .ok (.bipush 60, 2) := by decide +kernel
theorem dX6_init_63 : decode cX6_init 63 = .ok (.invokespecial 11, 3) := by decide +kernel
theorem dX6_init_66 : decode cX6_init 66 = .ok (.putfield 29, 3) := by decide +kernel
theorem dX6_init_69 : decode cX6_init 69 = .ok (.aload_n 0, 1) := by decide +kernel
theorem dX6_init_70 : decode cX6_init 70 = .ok (.new 9, 3) := by decide +kernel
theorem dX6_init_73 : decode cX6_init 73 = .ok (.dup, 1) := by decide +kernel
theorem dX6_init_74 : decode cX6_init 74 = .ok (.bipush 60, 2) := by decide +kernel
theorem dX6_init_76 : decode cX6_init 76 = .ok (.invokespecial 11, 3) := by decide +kernel
theorem dX6_init_79 : decode cX6_init 79 = .ok (.putfield 32, 3) := by decide +kernel
theorem dX6_init_82 : decode cX6_init 82 = .ok (.aload_n 0, 1) := by decide +kernel
theorem dX6_init_83 : decode cX6_init 83 = .ok (.new 9, 3) := by decide +kernel
theorem dX6_init_86 : decode cX6_init 86 = .ok (.dup, 1) := by decide +kernel
theorem dX6_init_87 : decode cX6_init 87 = .ok (.bipush 9, 2) := by decide +kernel
theorem dX6_init_89 : decode cX6_init 89 = .ok (.invokespecial 11, 3) := by decide +kernel
theorem dX6_init_92 : decode cX6_init 92 = .ok (.putfield 35, 3) := by decide +kernel
theorem dX6_init_95 : decode cX6_init 95 = .ok (.return_, 1) := by decide +kernel
set_option maxRecDepth 20000 in
theorem ggX6_addObservatory_X5_put : GoodIn wsX6_addObservatory wsX5_put := goodIn_r _ [7, 8, 19] (by decide +kernel) (by decide +kernel)
set_option maxRecDepth 20000 in
theorem gX6_addObservatory_X5_put : GoodIn wsX6_addObservatory (wsV RX6 42 RX5 yX5_put wsX5_put) := goodIn_app (goodIn_of _ (by decide +kernel)) ggX6_addObservatory_X5_put
theorem dX6_addObservatory_0 : decode cX6_addObservatory 0 = .ok (.aload_n 0, 1) := by decide +kernel
theorem dX6_addObservatory_1 : decode cX6_addObservatory 1 = .ok (.getfield 14, 3) := by decide +kernel
theorem dX6_addObservatory_4 : decode cX6_addObservatory 4 = .ok (.aload_n 0, 1) := by decide +kernel
theorem dX6_addObservatory_5 : decode cX6_addObservatory 5 = .ok (.getfield 38, 3) := by decide +kernel
theorem dX6_addObservatory_8 : decode cX6_addObservatory 8 = .ok (.iload_n 1, 1) := by decide +kernel
theorem dX6_addObservatory_9 : decode cX6_addObservatory 9 = .ok (.invokevirtual 42, 3) := by decide +kernel
theorem dX6_addObservatory_12 : decode cX6_addObservatory 12 = .ok (.aload_n 0, 1) := by decide +kernel
theorem dX6_addObservatory_13 : decode cX6_addObservatory 13 = .ok (.dup, 1) := by decide +kernel
theorem dX6_addObservatory_14 : decode cX6_addObservatory 14 = .ok (.getfield 38, 3) := by decide +kernel
theorem dX6_addObservatory_17 : decode cX6_addObservatory 17 = .ok (.iconst 1, 1) := by decide +kernel
theorem dX6_addObservatory_18 : decode cX6_addObservatory 18 = .ok (.iadd, 1) := by decide +kernel
theorem dX6_addObservatory_19 : decode cX6_addObservatory 19 = .ok (.putfield 38, 3) := by decide +kernel
theorem dX6_addObservatory_22 : decode cX6_addObservatory 22 = .ok (.aload_n 0, 1) := by decide +kernel
theorem dX6_addObservatory_23 : decode cX6_addObservatory 23 = .ok (.getfield 38, 3) := by decide +kernel
theorem dX6_addObservatory_26 : decode cX6_addObservatory 26 = .ok (.iconst 1, 1) := by decide +kernel
theorem dX6_addObservatory_27 : decode cX6_addObservatory 27 = .ok (.isub, 1) := by decide +kernel
theorem dX6_addObservatory_28 : decode cX6_addObservatory 28 = .ok (.ireturn, 1) := by decide +kernel
set_option maxRecDepth 20000 in
theorem ggX6_addPlate_X5_put : GoodIn wsX6_addPlate wsX5_put := goodIn_r _ [8, 9, 20] (by decide +kernel) (by decide +kernel)
set_option maxRecDepth 20000 in
theorem gX6_addPlate_X5_put : GoodIn wsX6_addPlate (wsV RX6 42 RX5 yX5_put wsX5_put) := goodIn_app (goodIn_of _ (by decide +kernel)) ggX6_addPlate_X5_put
theorem dX6_addPlate_0 : decode cX6_addPlate 0 = .ok (.aload_n 0, 1) := by decide +kernel
theorem dX6_addPlate_1 : decode cX6_addPlate 1 = .ok (.getfield 20, 3) := by decide +kernel
theorem dX6_addPlate_4 : decode cX6_addPlate 4 = .ok (.aload_n 0, 1) := by decide +kernel
theorem dX6_addPlate_5 : decode cX6_addPlate 5 = .ok (.getfield 46, 3) := by decide +kernel
theorem dX6_addPlate_8 : decode cX6_addPlate 8 = .ok (.iload_n 1, 1) := by decide +kernel
theorem dX6_addPlate_9 : decode cX6_addPlate 9 = .ok (.invokevirtual 42, 3) := by decide +kernel
theorem dX6_addPlate_12 : decode cX6_addPlate 12 = .ok (.aload_n 0, 1) := by decide +kernel
theorem dX6_addPlate_13 : decode cX6_addPlate 13 = .ok (.getfield 23, 3) := by decide +kernel
theorem dX6_addPlate_16 : decode cX6_addPlate 16 = .ok (.aload_n 0, 1) := by decide +kernel
theorem dX6_addPlate_17 : decode cX6_addPlate 17 = .ok (.getfield 46, 3) := by decide +kernel
theorem dX6_addPlate_20 : decode cX6_addPlate 20 = .ok (.iload_n 2, 1) := by decide +kernel
theorem dX6_addPlate_21 : decode cX6_addPlate 21 = .ok (.invokevirtual 42, 3) := by decide +kernel
theorem dX6_addPlate_24 : decode cX6_addPlate 24 = .ok (.aload_n 0, 1) := by decide +kernel
theorem dX6_addPlate_25 : decode cX6_addPlate 25 = .ok (.dup, 1) := by decide +kernel
theorem dX6_addPlate_26 : decode cX6_addPlate 26 = .ok (.getfield 46, 3) := by decide +kernel
theorem dX6_addPlate_29 : decode cX6_addPlate 29 = .ok (.iconst 1, 1) := by decide +kernel
theorem dX6_addPlate_30 : decode cX6_addPlate 30 = .ok (.iadd, 1) := by decide +kernel
theorem dX6_addPlate_31 : decode cX6_addPlate 31 = .ok (.putfield 46, 3) := by decide +kernel
theorem dX6_addPlate_34 : decode cX6_addPlate 34 = .ok (.aload_n 0, 1) := by decide +kernel
theorem dX6_addPlate_35 : decode cX6_addPlate 35 = .ok (.getfield 46, 3) := by decide +kernel
theorem dX6_addPlate_38 : decode cX6_addPlate 38 = .ok (.iconst 1, 1) := by decide +kernel
theorem dX6_addPlate_39 : decode cX6_addPlate 39 = .ok (.isub, 1) := by decide +kernel
theorem dX6_addPlate_40 : decode cX6_addPlate 40 = .ok (.ireturn, 1) := by decide +kernel
set_option maxRecDepth 20000 in
theorem ggX6_addDot_X5_put : GoodIn wsX6_addDot wsX5_put := goodIn_r _ [9, 10, 21] (by decide +kernel) (by decide +kernel)
set_option maxRecDepth 20000 in
theorem gX6_addDot_X5_put : GoodIn wsX6_addDot (wsV RX6 42 RX5 yX5_put wsX5_put) := goodIn_app (goodIn_of _ (by decide +kernel)) ggX6_addDot_X5_put
theorem dX6_addDot_0 : decode cX6_addDot 0 = .ok (.aload_n 0, 1) := by decide +kernel
theorem dX6_addDot_1 : decode cX6_addDot 1 = .ok (.getfield 26, 3) := by decide +kernel
theorem dX6_addDot_4 : decode cX6_addDot 4 = .ok (.aload_n 0, 1) := by decide +kernel
theorem dX6_addDot_5 : decode cX6_addDot 5 = .ok (.getfield 49, 3) := by decide +kernel
theorem dX6_addDot_8 : decode cX6_addDot 8 = .ok (.iload_n 1, 1) := by decide +kernel
theorem dX6_addDot_9 : decode cX6_addDot 9 = .ok (.invokevirtual 42, 3) := by decide +kernel
theorem dX6_addDot_12 : decode cX6_addDot 12 = .ok (.aload_n 0, 1) := by decide +kernel
theorem dX6_addDot_13 : decode cX6_addDot 13 = .ok (.getfield 29, 3) := by decide +kernel
theorem dX6_addDot_16 : decode cX6_addDot 16 = .ok (.aload_n 0, 1) := by decide +kernel
theorem dX6_addDot_17 : decode cX6_addDot 17 = .ok (.getfield 49, 3) := by decide +kernel
theorem dX6_addDot_20 : decode cX6_addDot 20 = .ok (.iload_n 2, 1) := by decide +kernel
theorem dX6_addDot_21 : decode cX6_addDot 21 = .ok (.invokevirtual 42, 3) := by decide +kernel
theorem dX6_addDot_24 : decode cX6_addDot 24 = .ok (.aload_n 0, 1) := by decide +kernel
theorem dX6_addDot_25 : decode cX6_addDot 25 = .ok (.getfield 32, 3) := by decide +kernel
theorem dX6_addDot_28 : decode cX6_addDot 28 = .ok (.aload_n 0, 1) := by decide +kernel
theorem dX6_addDot_29 : decode cX6_addDot 29 = .ok (.getfield 49, 3) := by decide +kernel
theorem dX6_addDot_32 : decode cX6_addDot 32 = .ok (.iload_n 3, 1) := by decide +kernel
theorem dX6_addDot_33 : decode cX6_addDot 33 = .ok (.invokevirtual 42, 3) := by decide +kernel
theorem dX6_addDot_36 : decode cX6_addDot 36 = .ok (.aload_n 0, 1) := by decide +kernel
theorem dX6_addDot_37 : decode cX6_addDot 37 = .ok (.dup, 1) := by decide +kernel
theorem dX6_addDot_38 : decode cX6_addDot 38 = .ok (.getfield 49, 3) := by decide +kernel
theorem dX6_addDot_41 : decode cX6_addDot 41 = .ok (.iconst 1, 1) := by decide +kernel
theorem dX6_addDot_42 : decode cX6_addDot 42 = .ok (.iadd, 1) := by decide +kernel
theorem dX6_addDot_43 : decode cX6_addDot 43 = .ok (.putfield 49, 3) := by decide +kernel
theorem dX6_addDot_46 : decode cX6_addDot 46 = .ok (.aload_n 0, 1) := by decide +kernel
theorem dX6_addDot_47 : decode cX6_addDot 47 = .ok (.getfield 49, 3) := by decide +kernel
theorem dX6_addDot_50 : decode cX6_addDot 50 = .ok (.iconst 1, 1) := by decide +kernel
theorem dX6_addDot_51 : decode cX6_addDot 51 = .ok (.isub, 1) := by decide +kernel
theorem dX6_addDot_52 : decode cX6_addDot 52 = .ok (.ireturn, 1) := by decide +kernel
set_option maxRecDepth 20000 in
theorem ggX6_replaceShift_X5_at : GoodIn wsX6_replaceShift wsX5_at := goodIn_r _ [6, 7, 22] (by decide +kernel) (by decide +kernel)
set_option maxRecDepth 20000 in
theorem gX6_replaceShift_X5_at : GoodIn wsX6_replaceShift (wsV RX6 52 RX5 yX5_at wsX5_at) := goodIn_app (goodIn_of _ (by decide +kernel)) ggX6_replaceShift_X5_at
set_option maxRecDepth 20000 in
theorem ggX6_replaceShift_X5_put : GoodIn wsX6_replaceShift wsX5_put := goodIn_r _ [11, 7, 22] (by decide +kernel) (by decide +kernel)
set_option maxRecDepth 20000 in
theorem gX6_replaceShift_X5_put : GoodIn wsX6_replaceShift (wsV RX6 42 RX5 yX5_put wsX5_put) := goodIn_app (goodIn_of _ (by decide +kernel)) ggX6_replaceShift_X5_put
theorem dX6_replaceShift_0 : decode cX6_replaceShift 0 = .ok (.aload_n 0, 1) := by decide +kernel
theorem dX6_replaceShift_1 : decode cX6_replaceShift 1 = .ok (.getfield 35, 3) := by decide +kernel
theorem dX6_replaceShift_4 : decode cX6_replaceShift 4 = .ok (.iload_n 1, 1) := by decide +kernel
theorem dX6_replaceShift_5 : decode cX6_replaceShift 5 = .ok (.invokevirtual 52, 3) := by decide +kernel
theorem dX6_replaceShift_8 : decode cX6_replaceShift 8 = .ok (.istore_n 3, 1) := by decide +kernel
theorem dX6_replaceShift_9 : decode cX6_replaceShift 9 = .ok (.aload_n 0, 1) := by decide +kernel
theorem dX6_replaceShift_10 : decode cX6_replaceShift 10 = .ok (.getfield 35, 3) := by decide +kernel
theorem dX6_replaceShift_13 : decode cX6_replaceShift 13 = .ok (.iload_n 1, 1) := by decide +kernel
theorem dX6_replaceShift_14 : decode cX6_replaceShift 14 = .ok (.iload_n 2, 1) := by decide +kernel
theorem dX6_replaceShift_15 : decode cX6_replaceShift 15 = .ok (.invokevirtual 42, 3) := by decide +kernel
theorem dX6_replaceShift_18 : decode cX6_replaceShift 18 = .ok (.iload_n 3, 1) := by decide +kernel
theorem dX6_replaceShift_19 : decode cX6_replaceShift 19 = .ok (.ireturn, 1) := by decide +kernel
set_option maxRecDepth 20000 in
theorem ggX6_plateOf_X5_at : GoodIn wsX6_plateOf wsX5_at := goodIn_r _ [6, 7, 18] (by decide +kernel) (by decide +kernel)
set_option maxRecDepth 20000 in
theorem gX6_plateOf_X5_at : GoodIn wsX6_plateOf (wsV RX6 52 RX5 yX5_at wsX5_at) := goodIn_app (goodIn_of _ (by decide +kernel)) ggX6_plateOf_X5_at
theorem dX6_plateOf_0 : decode cX6_plateOf 0 = .ok (.aload_n 0, 1) := by decide +kernel
theorem dX6_plateOf_1 : decode cX6_plateOf 1 = .ok (.getfield 26, 3) := by decide +kernel
theorem dX6_plateOf_4 : decode cX6_plateOf 4 = .ok (.iload_n 1, 1) := by decide +kernel
theorem dX6_plateOf_5 : decode cX6_plateOf 5 = .ok (.invokevirtual 52, 3) := by decide +kernel
theorem dX6_plateOf_8 : decode cX6_plateOf 8 = .ok (.ireturn, 1) := by decide +kernel
set_option maxRecDepth 20000 in
theorem ggX6_observatoryOf_X5_at : GoodIn wsX6_observatoryOf wsX5_at := goodIn_r _ [7, 8, 19] (by decide +kernel) (by decide +kernel)
set_option maxRecDepth 20000 in
theorem gX6_observatoryOf_X5_at : GoodIn wsX6_observatoryOf (wsV RX6 52 RX5 yX5_at wsX5_at) := goodIn_app (goodIn_of _ (by decide +kernel)) ggX6_observatoryOf_X5_at
theorem dX6_observatoryOf_0 : decode cX6_observatoryOf 0 = .ok (.aload_n 0, 1) := by decide +kernel
theorem dX6_observatoryOf_1 : decode cX6_observatoryOf 1 = .ok (.getfield 20, 3) := by decide +kernel
theorem dX6_observatoryOf_4 : decode cX6_observatoryOf 4 = .ok (.aload_n 0, 1) := by decide +kernel
theorem dX6_observatoryOf_5 : decode cX6_observatoryOf 5 = .ok (.getfield 26, 3) := by decide +kernel
theorem dX6_observatoryOf_8 : decode cX6_observatoryOf 8 = .ok (.iload_n 1, 1) := by decide +kernel
theorem dX6_observatoryOf_9 : decode cX6_observatoryOf 9 = .ok (.invokevirtual 52, 3) := by decide +kernel
theorem dX6_observatoryOf_12 : decode cX6_observatoryOf 12 = .ok (.invokevirtual 52, 3) := by decide +kernel
theorem dX6_observatoryOf_15 : decode cX6_observatoryOf 15 = .ok (.ireturn, 1) := by decide +kernel
set_option maxRecDepth 20000 in
theorem ggX6_errorOf_X5_at : GoodIn wsX6_errorOf wsX5_at := goodIn_r _ [8, 9, 20] (by decide +kernel) (by decide +kernel)
set_option maxRecDepth 20000 in
theorem gX6_errorOf_X5_at : GoodIn wsX6_errorOf (wsV RX6 52 RX5 yX5_at wsX5_at) := goodIn_app (goodIn_of _ (by decide +kernel)) ggX6_errorOf_X5_at
theorem dX6_errorOf_0 : decode cX6_errorOf 0 = .ok (.aload_n 0, 1) := by decide +kernel
theorem dX6_errorOf_1 : decode cX6_errorOf 1 = .ok (.getfield 14, 3) := by decide +kernel
theorem dX6_errorOf_4 : decode cX6_errorOf 4 = .ok (.aload_n 0, 1) := by decide +kernel
theorem dX6_errorOf_5 : decode cX6_errorOf 5 = .ok (.getfield 20, 3) := by decide +kernel
theorem dX6_errorOf_8 : decode cX6_errorOf 8 = .ok (.aload_n 0, 1) := by decide +kernel
theorem dX6_errorOf_9 : decode cX6_errorOf 9 = .ok (.getfield 26, 3) := by decide +kernel
theorem dX6_errorOf_12 : decode cX6_errorOf 12 = .ok (.iload_n 1, 1) := by decide +kernel
theorem dX6_errorOf_13 : decode cX6_errorOf 13 = .ok (.invokevirtual 52, 3) := by decide +kernel
theorem dX6_errorOf_16 : decode cX6_errorOf 16 = .ok (.invokevirtual 52, 3) := by decide +kernel
theorem dX6_errorOf_19 : decode cX6_errorOf 19 = .ok (.invokevirtual 52, 3) := by decide +kernel
theorem dX6_errorOf_22 : decode cX6_errorOf 22 = .ok (.ireturn, 1) := by decide +kernel
set_option maxRecDepth 20000 in
theorem ggX6_nightOf_X5_at : GoodIn wsX6_nightOf wsX5_at := goodIn_r _ [7, 8, 19] (by decide +kernel) (by decide +kernel)
set_option maxRecDepth 20000 in
theorem gX6_nightOf_X5_at : GoodIn wsX6_nightOf (wsV RX6 52 RX5 yX5_at wsX5_at) := goodIn_app (goodIn_of _ (by decide +kernel)) ggX6_nightOf_X5_at
theorem dX6_nightOf_0 : decode cX6_nightOf 0 = .ok (.aload_n 0, 1) := by decide +kernel
theorem dX6_nightOf_1 : decode cX6_nightOf 1 = .ok (.getfield 23, 3) := by decide +kernel
theorem dX6_nightOf_4 : decode cX6_nightOf 4 = .ok (.aload_n 0, 1) := by decide +kernel
theorem dX6_nightOf_5 : decode cX6_nightOf 5 = .ok (.getfield 26, 3) := by decide +kernel
theorem dX6_nightOf_8 : decode cX6_nightOf 8 = .ok (.iload_n 1, 1) := by decide +kernel
theorem dX6_nightOf_9 : decode cX6_nightOf 9 = .ok (.invokevirtual 52, 3) := by decide +kernel
theorem dX6_nightOf_12 : decode cX6_nightOf 12 = .ok (.invokevirtual 52, 3) := by decide +kernel
theorem dX6_nightOf_15 : decode cX6_nightOf 15 = .ok (.ireturn, 1) := by decide +kernel
set_option maxRecDepth 20000 in
theorem ggX6_lightOf_X5_at : GoodIn wsX6_lightOf wsX5_at := goodIn_r _ [6, 7, 18] (by decide +kernel) (by decide +kernel)
set_option maxRecDepth 20000 in
theorem gX6_lightOf_X5_at : GoodIn wsX6_lightOf (wsV RX6 52 RX5 yX5_at wsX5_at) := goodIn_app (goodIn_of _ (by decide +kernel)) ggX6_lightOf_X5_at
theorem dX6_lightOf_0 : decode cX6_lightOf 0 = .ok (.aload_n 0, 1) := by decide +kernel
theorem dX6_lightOf_1 : decode cX6_lightOf 1 = .ok (.getfield 32, 3) := by decide +kernel
theorem dX6_lightOf_4 : decode cX6_lightOf 4 = .ok (.iload_n 1, 1) := by decide +kernel
theorem dX6_lightOf_5 : decode cX6_lightOf 5 = .ok (.invokevirtual 52, 3) := by decide +kernel
theorem dX6_lightOf_8 : decode cX6_lightOf 8 = .ok (.ireturn, 1) := by decide +kernel
set_option maxRecDepth 20000 in
theorem ggX6_truePlaceOf_X5_at : GoodIn wsX6_truePlaceOf wsX5_at := goodIn_r _ [7, 8, 23] (by decide +kernel) (by decide +kernel)
set_option maxRecDepth 20000 in
theorem gX6_truePlaceOf_X5_at : GoodIn wsX6_truePlaceOf (wsV RX6 52 RX5 yX5_at wsX5_at) := goodIn_app (goodIn_of _ (by decide +kernel)) ggX6_truePlaceOf_X5_at
set_option maxRecDepth 20000 in
theorem ggX6_truePlaceOf_J9_floorMod_7cf53 : GoodIn wsX6_truePlaceOf wsJ9_floorMod_7cf53 := goodIn_r _ [12] (by decide +kernel) (by decide +kernel)
set_option maxRecDepth 20000 in
theorem gX6_truePlaceOf_J9_floorMod_7cf53 : GoodIn wsX6_truePlaceOf (va_wsS RX6 56 yJ9_floorMod_7cf53 wsJ9_floorMod_7cf53) := goodIn_app (goodIn_of _ (by decide +kernel)) ggX6_truePlaceOf_J9_floorMod_7cf53
theorem dX6_truePlaceOf_0 : decode cX6_truePlaceOf 0 = .ok (.aload_n 0, 1) := by decide +kernel
theorem dX6_truePlaceOf_1 : decode cX6_truePlaceOf 1 = .ok (.getfield 29, 3) := by decide +kernel
theorem dX6_truePlaceOf_4 : decode cX6_truePlaceOf 4 = .ok (.iload_n 1, 1) := by decide +kernel
theorem dX6_truePlaceOf_5 : decode cX6_truePlaceOf 5 = .ok (.invokevirtual 52, 3) := by decide +kernel
theorem dX6_truePlaceOf_8 : decode cX6_truePlaceOf 8 = .ok (.istore_n 2, 1) := by decide +kernel
theorem dX6_truePlaceOf_9 : decode cX6_truePlaceOf 9 = .ok (.iload_n 2, 1) := by decide +kernel
theorem dX6_truePlaceOf_10 : decode cX6_truePlaceOf 10 = .ok (.aload_n 0, 1) := by decide +kernel
theorem dX6_truePlaceOf_11 : decode cX6_truePlaceOf 11 = .ok (.getfield 35, 3) := by decide +kernel
theorem dX6_truePlaceOf_14 : decode cX6_truePlaceOf 14 = .ok (.iload_n 2, 1) := by decide +kernel
theorem dX6_truePlaceOf_15 : decode cX6_truePlaceOf 15 = .ok (.sipush 400, 3) := by decide +kernel
theorem dX6_truePlaceOf_18 : decode cX6_truePlaceOf 18 = .ok (.idiv, 1) := by decide +kernel
theorem dX6_truePlaceOf_19 : decode cX6_truePlaceOf 19 = .ok (.invokevirtual 52, 3) := by decide +kernel
theorem dX6_truePlaceOf_22 : decode cX6_truePlaceOf 22 = .ok (.iadd, 1) := by decide +kernel
theorem dX6_truePlaceOf_23 : decode cX6_truePlaceOf 23 = .ok (.sipush 3600, 3) := by decide +kernel
theorem dX6_truePlaceOf_26 : decode cX6_truePlaceOf 26 = .ok (.invokestatic 56, 3) := by decide +kernel
theorem dX6_truePlaceOf_29 : decode cX6_truePlaceOf 29 = .ok (.ireturn, 1) := by decide +kernel
theorem dJ13_bitCount_95d88_0 : decode cJ13_bitCount_95d88 0 = .ok (.lload_n 0, 1) := by decide +kernel
theorem dJ13_bitCount_95d88_1 : decode cJ13_bitCount_95d88 1 = .ok (.lload_n 0, 1) := by decide +kernel
theorem dJ13_bitCount_95d88_2 : decode cJ13_bitCount_95d88 2 = .ok (.iconst 1, 1) := by decide +kernel
theorem dJ13_bitCount_95d88_3 : decode cJ13_bitCount_95d88 3 = .ok (.lushr, 1) := by decide +kernel
theorem dJ13_bitCount_95d88_4 : decode cJ13_bitCount_95d88 4 = .ok (.ldc2_w 314, 3) := by decide +kernel
theorem dJ13_bitCount_95d88_7 : decode cJ13_bitCount_95d88 7 = .ok (.land, 1) := by decide +kernel
theorem dJ13_bitCount_95d88_8 : decode cJ13_bitCount_95d88 8 = .ok (.lsub, 1) := by decide +kernel
theorem dJ13_bitCount_95d88_9 : decode cJ13_bitCount_95d88 9 = .ok (.lstore_n 0, 1) := by decide +kernel
theorem dJ13_bitCount_95d88_10 : decode cJ13_bitCount_95d88 10 = .ok (.lload_n 0, 1) := by decide +kernel
theorem dJ13_bitCount_95d88_11 : decode cJ13_bitCount_95d88 11 = .ok (.ldc2_w 316, 3) := by decide +kernel
theorem dJ13_bitCount_95d88_14 : decode cJ13_bitCount_95d88 14 = .ok (.land, 1) := by decide +kernel
theorem dJ13_bitCount_95d88_15 : decode cJ13_bitCount_95d88 15 = .ok (.lload_n 0, 1) := by decide +kernel
theorem dJ13_bitCount_95d88_16 : decode cJ13_bitCount_95d88 16 = .ok (.iconst 2, 1) := by decide +kernel
theorem dJ13_bitCount_95d88_17 : decode cJ13_bitCount_95d88 17 = .ok (.lushr, 1) := by decide +kernel
theorem dJ13_bitCount_95d88_18 : decode cJ13_bitCount_95d88 18 = .ok (.ldc2_w 316, 3) := by decide +kernel
theorem dJ13_bitCount_95d88_21 : decode cJ13_bitCount_95d88 21 = .ok (.land, 1) := by decide +kernel
theorem dJ13_bitCount_95d88_22 : decode cJ13_bitCount_95d88 22 = .ok (.ladd, 1) := by decide +kernel
theorem dJ13_bitCount_95d88_23 : decode cJ13_bitCount_95d88 23 = .ok (.lstore_n 0, 1) := by decide +kernel
theorem dJ13_bitCount_95d88_24 : decode cJ13_bitCount_95d88 24 = .ok (.lload_n 0, 1) := by decide +kernel
theorem dJ13_bitCount_95d88_25 : decode cJ13_bitCount_95d88 25 = .ok (.lload_n 0, 1) := by decide +kernel
theorem dJ13_bitCount_95d88_26 : decode cJ13_bitCount_95d88 26 = .ok (.iconst 4, 1) := by decide +kernel
theorem dJ13_bitCount_95d88_27 : decode cJ13_bitCount_95d88 27 = .ok (.lushr, 1) := by decide +kernel
theorem dJ13_bitCount_95d88_28 : decode cJ13_bitCount_95d88 28 = .ok (.ladd, 1) := by decide +kernel
theorem dJ13_bitCount_95d88_29 : decode cJ13_bitCount_95d88 29 = .ok (.ldc2_w 318, 3) := by decide +kernel
theorem dJ13_bitCount_95d88_32 : decode cJ13_bitCount_95d88 32 = .ok (.land, 1) := by decide +kernel
theorem dJ13_bitCount_95d88_33 : decode cJ13_bitCount_95d88 33 = .ok (.lstore_n 0, 1) := by decide +kernel
theorem dJ13_bitCount_95d88_34 : decode cJ13_bitCount_95d88 34 = .ok (.lload_n 0, 1) := by decide +kernel
theorem dJ13_bitCount_95d88_35 : decode cJ13_bitCount_95d88 35 = .ok (.lload_n 0, 1) := by decide +kernel
theorem dJ13_bitCount_95d88_36 : decode cJ13_bitCount_95d88 36 = .ok (.bipush 8, 2) := by decide +kernel
theorem dJ13_bitCount_95d88_38 : decode cJ13_bitCount_95d88 38 = .ok (.lushr, 1) := by decide +kernel
theorem dJ13_bitCount_95d88_39 : decode cJ13_bitCount_95d88 39 = .ok (.ladd, 1) := by decide +kernel
theorem dJ13_bitCount_95d88_40 : decode cJ13_bitCount_95d88 40 = .ok (.lstore_n 0, 1) := by decide +kernel
theorem dJ13_bitCount_95d88_41 : decode cJ13_bitCount_95d88 41 = .ok (.lload_n 0, 1) := by decide +kernel
theorem dJ13_bitCount_95d88_42 : decode cJ13_bitCount_95d88 42 = .ok (.lload_n 0, 1) := by decide +kernel
theorem dJ13_bitCount_95d88_43 : decode cJ13_bitCount_95d88 43 = .ok (.bipush 16, 2) := by decide +kernel
theorem dJ13_bitCount_95d88_45 : decode cJ13_bitCount_95d88 45 = .ok (.lushr, 1) := by decide +kernel
theorem dJ13_bitCount_95d88_46 : decode cJ13_bitCount_95d88 46 = .ok (.ladd, 1) := by decide +kernel
theorem dJ13_bitCount_95d88_47 : decode cJ13_bitCount_95d88 47 = .ok (.lstore_n 0, 1) := by decide +kernel
theorem dJ13_bitCount_95d88_48 : decode cJ13_bitCount_95d88 48 = .ok (.lload_n 0, 1) := by decide +kernel
theorem dJ13_bitCount_95d88_49 : decode cJ13_bitCount_95d88 49 = .ok (.lload_n 0, 1) := by decide +kernel
theorem dJ13_bitCount_95d88_50 : decode cJ13_bitCount_95d88 50 = .ok (.bipush 32, 2) := by decide +kernel
theorem dJ13_bitCount_95d88_52 : decode cJ13_bitCount_95d88 52 = .ok (.lushr, 1) := by decide +kernel
theorem dJ13_bitCount_95d88_53 : decode cJ13_bitCount_95d88 53 = .ok (.ladd, 1) := by decide +kernel
theorem dJ13_bitCount_95d88_54 : decode cJ13_bitCount_95d88 54 = .ok (.lstore_n 0, 1) := by decide +kernel
theorem dJ13_bitCount_95d88_55 : decode cJ13_bitCount_95d88 55 = .ok (.lload_n 0, 1) := by decide +kernel
theorem dJ13_bitCount_95d88_56 : decode cJ13_bitCount_95d88 56 = .ok (.l2i, 1) := by decide +kernel
theorem dJ13_bitCount_95d88_57 : decode cJ13_bitCount_95d88 57 = .ok (.bipush 127, 2) := by decide +kernel
theorem dJ13_bitCount_95d88_59 : decode cJ13_bitCount_95d88 59 = .ok (.iand, 1) := by decide +kernel
theorem dJ13_bitCount_95d88_60 : decode cJ13_bitCount_95d88 60 = .ok (.ireturn, 1) := by decide +kernel
theorem dJ9_floorMod_7cf53_0 : decode cJ9_floorMod_7cf53 0 = .ok (.iload_n 0, 1) := by decide +kernel
theorem dJ9_floorMod_7cf53_1 : decode cJ9_floorMod_7cf53 1 = .ok (.iload_n 1, 1) := by decide +kernel
theorem dJ9_floorMod_7cf53_2 : decode cJ9_floorMod_7cf53 2 = .ok (.irem, 1) := by decide +kernel
theorem dJ9_floorMod_7cf53_3 : decode cJ9_floorMod_7cf53 3 = .ok (.istore_n 2, 1) := by decide +kernel
theorem dJ9_floorMod_7cf53_4 : decode cJ9_floorMod_7cf53 4 = .ok (.iload_n 0, 1) := by decide +kernel
theorem dJ9_floorMod_7cf53_5 : decode cJ9_floorMod_7cf53 5 = .ok (.iload_n 1, 1) := by decide +kernel
theorem dJ9_floorMod_7cf53_6 : decode cJ9_floorMod_7cf53 6 = .ok (.ixor, 1) := by decide +kernel
theorem dJ9_floorMod_7cf53_7 : decode cJ9_floorMod_7cf53 7 = .ok (.ifCond .ge 11, 3) := by decide +kernel
theorem dJ9_floorMod_7cf53_10 : decode cJ9_floorMod_7cf53 10 = .ok (.iload_n 2, 1) := by decide +kernel
theorem dJ9_floorMod_7cf53_11 : decode cJ9_floorMod_7cf53 11 = .ok (.ifCond .eq 7, 3) := by decide +kernel
theorem dJ9_floorMod_7cf53_14 : decode cJ9_floorMod_7cf53 14 = .ok (.iload_n 2, 1) := by decide +kernel
theorem dJ9_floorMod_7cf53_15 : decode cJ9_floorMod_7cf53 15 = .ok (.iload_n 1, 1) := by decide +kernel
theorem dJ9_floorMod_7cf53_16 : decode cJ9_floorMod_7cf53 16 = .ok (.iadd, 1) := by decide +kernel
theorem dJ9_floorMod_7cf53_17 : decode cJ9_floorMod_7cf53 17 = .ok (.ireturn, 1) := by decide +kernel
theorem dJ9_floorMod_7cf53_18 : decode cJ9_floorMod_7cf53 18 = .ok (.iload_n 2, 1) := by decide +kernel
theorem dJ9_floorMod_7cf53_19 : decode cJ9_floorMod_7cf53 19 = .ok (.ireturn, 1) := by decide +kernel
theorem dJ9_abs_0f7a4_0 : decode cJ9_abs_0f7a4 0 = .ok (.iload_n 0, 1) := by decide +kernel
theorem dJ9_abs_0f7a4_1 : decode cJ9_abs_0f7a4 1 = .ok (.ifCond .ge 8, 3) := by decide +kernel
theorem dJ9_abs_0f7a4_4 : decode cJ9_abs_0f7a4 4 = .ok (.iload_n 0, 1) := by decide +kernel
theorem dJ9_abs_0f7a4_5 : decode cJ9_abs_0f7a4 5 = .ok (.ineg, 1) := by decide +kernel
theorem dJ9_abs_0f7a4_6 : decode cJ9_abs_0f7a4 6 = .ok (.goto 4, 3) := by decide +kernel
theorem dJ9_abs_0f7a4_9 : decode cJ9_abs_0f7a4 9 = .ok (.iload_n 0, 1) := by decide +kernel
theorem dJ9_abs_0f7a4_10 : decode cJ9_abs_0f7a4 10 = .ok (.ireturn, 1) := by decide +kernel
theorem dJ9_max_7cf53_0 : decode cJ9_max_7cf53 0 = .ok (.iload_n 0, 1) := by decide +kernel
theorem dJ9_max_7cf53_1 : decode cJ9_max_7cf53 1 = .ok (.iload_n 1, 1) := by decide +kernel
theorem dJ9_max_7cf53_2 : decode cJ9_max_7cf53 2 = .ok (.if_icmp .lt 7, 3) := by decide +kernel
theorem dJ9_max_7cf53_5 : decode cJ9_max_7cf53 5 = .ok (.iload_n 0, 1) := by decide +kernel
theorem dJ9_max_7cf53_6 : decode cJ9_max_7cf53 6 = .ok (.goto 4, 3) := by decide +kernel
theorem dJ9_max_7cf53_9 : decode cJ9_max_7cf53 9 = .ok (.iload_n 1, 1) := by decide +kernel
theorem dJ9_max_7cf53_10 : decode cJ9_max_7cf53 10 = .ok (.ireturn, 1) := by decide +kernel
theorem dJ9_min_7cf53_0 : decode cJ9_min_7cf53 0 = .ok (.iload_n 0, 1) := by decide +kernel
theorem dJ9_min_7cf53_1 : decode cJ9_min_7cf53 1 = .ok (.iload_n 1, 1) := by decide +kernel
theorem dJ9_min_7cf53_2 : decode cJ9_min_7cf53 2 = .ok (.if_icmp .gt 7, 3) := by decide +kernel
theorem dJ9_min_7cf53_5 : decode cJ9_min_7cf53 5 = .ok (.iload_n 0, 1) := by decide +kernel
theorem dJ9_min_7cf53_6 : decode cJ9_min_7cf53 6 = .ok (.goto 4, 3) := by decide +kernel
theorem dJ9_min_7cf53_9 : decode cJ9_min_7cf53 9 = .ok (.iload_n 1, 1) := by decide +kernel
theorem dJ9_min_7cf53_10 : decode cJ9_min_7cf53 10 = .ok (.ireturn, 1) := by decide +kernel
end
section
/-! Int for machine ints: zi; the worlds of the class (dW) and of the reference (mW); rows over them. -/
def zi (x : Int) : Int32 := Int32.ofInt x
def zf (g : Int → Int) : Nat → Int32 := fun j => zi (g j)
def up (g : Int → Int) (x v : Int) : Int → Int := fun j => if j = x then v else g j
abbrev ZS : Type := Nat → Int → Int
def su (S : ZS) (k : Nat) (g : Int → Int) : ZS := fun j => if j = k then g else S j
/-- in a machine int's range -/
abbrev ir (x : Int) : Prop := -2147483648 ≤ x ∧ x < 2147483648
theorem zi_add (x y : Int) : zi x + zi y = zi (x + y) := (Int32.ofInt_add x y).symm
theorem zi_sub (x y : Int) : zi x - zi y = zi (x - y) := (Int32.ofInt_sub x y).symm
theorem zi_mul (x y : Int) : zi x * zi y = zi (x * y) := (Int32.ofInt_mul x y).symm
theorem zi_neg (x : Int) : -zi x = zi (-x) := (Int32.ofInt_neg x).symm
theorem zi_toInt {x : Int} (h : ir x) : (zi x).toInt = x := Int32.toInt_ofInt_of_le (by have := h.1; omega) (by have := h.2; omega)
theorem zi_of (v : Int32) : v = zi v.toInt := (Int32.ofInt_toInt v).symm
theorem ir_of (v : Int32) : ir v.toInt := ⟨by have := v.le_toInt; omega, by have := v.toInt_lt; omega⟩
theorem zi_lt {x y : Int} (hx : ir x) (hy : ir y) : zi x < zi y ↔ x < y := by rw [Int32.lt_iff_toInt_lt, zi_toInt hx, zi_toInt hy]
theorem zi_le {x y : Int} (hx : ir x) (hy : ir y) : zi x ≤ zi y ↔ x ≤ y := by rw [Int32.le_iff_toInt_le, zi_toInt hx, zi_toInt hy]
theorem zi_eq {x y : Int} (hx : ir x) (hy : ir y) : zi x = zi y ↔ x = y := by rw [← Int32.toInt_inj, zi_toInt hx, zi_toInt hy]
theorem zi_cl {x : Int} (h : ir x) : (zi x).toNatClampNeg = x.toNat := Int32.toNatClampNeg_ofInt_of_le (by have := h.1; omega) (by have := h.2; omega)
theorem zi_0 : zi 0 = 0 := rfl
theorem ir_0 : ir 0 := ⟨by decide, by decide⟩
theorem zi_tdiv {x y : Int} (hx : ir x) (hy : ir y) (h : y ≠ -1) (h0 : y ≠ 0) : zi x / zi y = zi (x.tdiv y) := by
  have h1 : ir (x.tdiv y) := by
    have hn : y.natAbs ≠ 0 := by omega
    have h2 : (x.tdiv y).natAbs ≤ x.natAbs := by rw [Int.natAbs_tdiv]; exact Nat.div_le_self _ _
    obtain ⟨h3, h4⟩ := hx
    by_cases hq : x = -2147483648
    · subst hq
      have h5 : ((-2147483648 : Int).tdiv y).natAbs ≤ 1073741824 ∨ y = 1 := by
        rcases (show y = 1 ∨ 2 ≤ y.natAbs by omega) with h6 | h6
        · exact Or.inr h6
        · refine Or.inl ?_
          rw [Int.natAbs_tdiv]
          exact Nat.le_trans (Nat.div_le_div_left h6 (by decide)) (by decide)
      rcases h5 with h5 | h5
      · constructor <;> omega
      · subst h5; exact ⟨by decide, by decide⟩
    · constructor <;> omega
  rw [← Int32.toInt_inj, Int32.toInt_div_of_ne_right _ _ (by
    intro hq
    exact h (by have := congrArg Int32.toInt hq; rw [zi_toInt hy] at this; exact this)), zi_toInt hx, zi_toInt hy, zi_toInt h1]
theorem zi_tmod {x y : Int} (hx : ir x) (hy : ir y) (h : y ≠ -1) (h0 : y ≠ 0) : zi x - zi x / zi y * zi y = zi (x.tmod y) := by
  rw [zi_tdiv hx hy h h0, zi_mul, zi_sub, Int.tmod_def, Int.mul_comm]
theorem zf_up (g : Int → Int) {x : Int} (v : Int) (h0 : 0 ≤ x) : zf (up g x v) = upd (zf g) x.toNat (zi v) := by
  funext j
  by_cases h : (j : Int) = x
  · subst h; simp [zf, up, upd]
  · simp only [zf, up, upd, if_neg h]
    rw [if_neg (by omega)]
theorem up_s (g : Int → Int) (x v : Int) : up g x v x = v := if_pos rfl
theorem up_n (g : Int → Int) {x j : Int} (v : Int) (h : j ≠ x) : up g x v j = g j := if_neg h
theorem su_s (S : ZS) (k : Nat) (g : Int → Int) : su S k g k = g := if_pos rfl
theorem su_n (S : ZS) {k j : Nat} (g : Int → Int) (h : j ≠ k) : su S k g j = S j := if_neg h
def b2 (P : Prop) [Decidable P] : Int := if P then 1 else 0
theorem b2_t {P : Prop} [Decidable P] (h : P) : b2 P = 1 := if_pos h
theorem b2_f {P : Prop} [Decidable P] (h : ¬ P) : b2 P = 0 := if_neg h
/-- a Row's cell, whatever the index -/
def rAt (n : Int) (g : Int → Int) (x : Int) : Int := if 0 ≤ x ∧ x < n then g x else 0
def rPut (n : Int) (g : Int → Int) (x v : Int) : Int → Int := if 0 ≤ x ∧ x < n then up g x v else g
theorem rAt_in {n : Int} {g : Int → Int} {x : Int} (h0 : 0 ≤ x) (h1 : x < n) : rAt n g x = g x := if_pos ⟨h0, h1⟩
theorem rPut_in {n : Int} {g : Int → Int} {x v : Int} (h0 : 0 ≤ x) (h1 : x < n) : rPut n g x v = up g x v := if_pos ⟨h0, h1⟩
section ZROWS
variable {p : Program} {l : Launch} {e : Env} {R : Room} {s : State} {m : MethodId} {args : Array Value} {below : List Frame} {meth : Method} {c : Code} {H : Heap} {locs : List Loc} {cells slots : Nat} {Q : State → Prop} {cc : ByteArray} {pc : Nat} {ls : Array Slot} {rest : List Value}
theorem zi_iadd (hexec : p.tables.exec = Jvm.exec) (hb : c.code = cc) {x y : Int} (hdg : decode cc pc = .ok (.iadd, 1)) (k : W p l e R s m args below meth c H locs cells slots Q (F0 m (pc + 1) ls (.int (zi (x + y)) :: rest))) : W p l e R s m args below meth c H locs cells slots Q (F0 m pc ls (.int (zi y) :: .int (zi x) :: rest)) := lv_iadd hexec hb hdg (by rw [zi_add]; exact k)
theorem zi_isub (hexec : p.tables.exec = Jvm.exec) (hb : c.code = cc) {x y : Int} (hdg : decode cc pc = .ok (.isub, 1)) (k : W p l e R s m args below meth c H locs cells slots Q (F0 m (pc + 1) ls (.int (zi (x - y)) :: rest))) : W p l e R s m args below meth c H locs cells slots Q (F0 m pc ls (.int (zi y) :: .int (zi x) :: rest)) := lv_isub hexec hb hdg (by rw [zi_sub]; exact k)
theorem zi_imul (hexec : p.tables.exec = Jvm.exec) (hb : c.code = cc) {x y : Int} (hdg : decode cc pc = .ok (.imul, 1)) (k : W p l e R s m args below meth c H locs cells slots Q (F0 m (pc + 1) ls (.int (zi (x * y)) :: rest))) : W p l e R s m args below meth c H locs cells slots Q (F0 m pc ls (.int (zi y) :: .int (zi x) :: rest)) := lv_imul hexec hb hdg (by rw [zi_mul]; exact k)
theorem zi_ineg (hexec : p.tables.exec = Jvm.exec) (hb : c.code = cc) {x : Int} (hdg : decode cc pc = .ok (.ineg, 1)) (k : W p l e R s m args below meth c H locs cells slots Q (F0 m (pc + 1) ls (.int (zi (-x)) :: rest))) : W p l e R s m args below meth c H locs cells slots Q (F0 m pc ls (.int (zi x) :: rest)) := lv_ineg hexec hb hdg (by rw [zi_neg]; exact k)
theorem zi_iconst (hexec : p.tables.exec = Jvm.exec) (hb : c.code = cc) {n : Int} (hdg : decode cc pc = .ok (.iconst n, 1)) (k : W p l e R s m args below meth c H locs cells slots Q (F0 m (pc + 1) ls (.int (zi n) :: rest))) : W p l e R s m args below meth c H locs cells slots Q (F0 m pc ls rest) := lv_iconst (v := zi n) hexec hb hdg rfl k
theorem zi_bipush (hexec : p.tables.exec = Jvm.exec) (hb : c.code = cc) {n : Int} (hdg : decode cc pc = .ok (.bipush n, 2)) (hn : (Int8.ofInt n).toInt32 = zi n) (k : W p l e R s m args below meth c H locs cells slots Q (F0 m (pc + 2) ls (.int (zi n) :: rest))) : W p l e R s m args below meth c H locs cells slots Q (F0 m pc ls rest) := lv_bipush (v := zi n) hexec hb hdg hn k
theorem zi_sipush (hexec : p.tables.exec = Jvm.exec) (hb : c.code = cc) {n : Int} (hdg : decode cc pc = .ok (.sipush n, 3)) (hn : (Int16.ofInt n).toInt32 = zi n) (k : W p l e R s m args below meth c H locs cells slots Q (F0 m (pc + 3) ls (.int (zi n) :: rest))) : W p l e R s m args below meth c H locs cells slots Q (F0 m pc ls rest) := lv_sipush (v := zi n) hexec hb hdg hn k
theorem zi_iinc (hexec : p.tables.exec = Jvm.exec) (hb : c.code = cc) {i nL k : Nat} {n x : Int} {lv lv' : List (Nat × Value)} (hdg : decode cc pc = .ok (.iinc i n, 3)) (h : lv_has ls nL lv) (hk : lv[k]? = some (i, .int (zi x))) (hn : i < nL) (hl : (i, Value.int (zi (x + n))) :: lv.filter (fun q => !(q.1 == i) && !(q.1 + 1 == i && q.2.category == 2)) = lv')
    (kk : ∀ ls' : Array Slot, lv_has ls' nL lv' → W p l e R s m args below meth c H locs cells slots Q (F0 m (pc + 3) ls' rest)) : W p l e R s m args below meth c H locs cells slots Q (F0 m pc ls rest) := lv_iinc hexec hb hdg h hk (zi_add x n) hn hl kk
theorem zi_top {x : Int} (k : ∀ y : Int, y = x → W p l e R s m args below meth c H locs cells slots Q (F0 m pc ls (.int (zi y) :: rest))) : W p l e R s m args below meth c H locs cells slots Q (F0 m pc ls (.int (zi x) :: rest)) := k x rfl
theorem zi_is {x : Int} (y : Int) (h : x = y) (k : W p l e R s m args below meth c H locs cells slots Q (F0 m pc ls (.int (zi y) :: rest))) : W p l e R s m args below meth c H locs cells slots Q (F0 m pc ls (.int (zi x) :: rest)) := by rw [h]; exact k
theorem zi_idiv (hexec : p.tables.exec = Jvm.exec) (hb : c.code = cc) {x y : Int} (hx : ir x) (hy : ir y) (h0 : 0 ≤ x) (h1 : 0 < y) (hdg : decode cc pc = .ok (.idiv, 1)) (k : W p l e R s m args below meth c H locs cells slots Q (F0 m (pc + 1) ls (.int (zi (x / y)) :: rest))) : W p l e R s m args below meth c H locs cells slots Q (F0 m pc ls (.int (zi y) :: .int (zi x) :: rest)) := lv_idiv hexec hb hdg (fun h => by have h2 : y = 0 := (zi_eq hy ir_0).mp h; omega) (by rw [zi_tdiv hx hy (by omega) (by omega), Int.tdiv_eq_ediv_of_nonneg h0]; exact k)
theorem zi_irem (hexec : p.tables.exec = Jvm.exec) (hb : c.code = cc) {x y : Int} (hx : ir x) (hy : ir y) (h0 : 0 ≤ x) (h1 : 0 < y) (hdg : decode cc pc = .ok (.irem, 1)) (k : W p l e R s m args below meth c H locs cells slots Q (F0 m (pc + 1) ls (.int (zi (x % y)) :: rest))) : W p l e R s m args below meth c H locs cells slots Q (F0 m pc ls (.int (zi y) :: .int (zi x) :: rest)) := lv_irem hexec hb hdg (fun h => by have h2 : y = 0 := (zi_eq hy ir_0).mp h; omega) (by rw [zi_tmod hx hy (by omega) (by omega), Int.tmod_eq_emod_of_nonneg h0]; exact k)
theorem zi_iremT (hexec : p.tables.exec = Jvm.exec) (hb : c.code = cc) {x y : Int} (hx : ir x) (hy : ir y) (h1 : 0 < y) (hdg : decode cc pc = .ok (.irem, 1)) (k : W p l e R s m args below meth c H locs cells slots Q (F0 m (pc + 1) ls (.int (zi (x.tmod y)) :: rest))) : W p l e R s m args below meth c H locs cells slots Q (F0 m pc ls (.int (zi y) :: .int (zi x) :: rest)) := lv_irem hexec hb hdg (fun h => by have h2 : y = 0 := (zi_eq hy ir_0).mp h; omega) (by rw [zi_tmod hx hy (by omega) (by omega)]; exact k)
theorem zi_icmp_lt (hexec : p.tables.exec = Jvm.exec) (hb : c.code = cc) {x y : Int} {off : Int} {tgt : Nat} (hx : ir x) (hy : ir y) (hdg : decode cc pc = .ok (.if_icmp .lt off, 3)) (ht : (pc : Int) + off = (tgt : Int)) (kt : x < y → W p l e R s m args below meth c H locs cells slots Q (F0 m tgt ls rest)) (kf : ¬ x < y → W p l e R s m args below meth c H locs cells slots Q (F0 m (pc + 3) ls rest)) : W p l e R s m args below meth c H locs cells slots Q (F0 m pc ls (.int (zi y) :: .int (zi x) :: rest)) := lv_icmp_lt hexec hb hdg ht (fun h => kt ((zi_lt hx hy).mp h)) (fun h => kf (fun h9 => h ((zi_lt hx hy).mpr h9)))
theorem zi_if_lt (hexec : p.tables.exec = Jvm.exec) (hb : c.code = cc) {x : Int} {off : Int} {tgt : Nat} (hx : ir x) (hdg : decode cc pc = .ok (.ifCond .lt off, 3)) (ht : (pc : Int) + off = (tgt : Int)) (kt : x < 0 → W p l e R s m args below meth c H locs cells slots Q (F0 m tgt ls rest)) (kf : ¬ x < 0 → W p l e R s m args below meth c H locs cells slots Q (F0 m (pc + 3) ls rest)) : W p l e R s m args below meth c H locs cells slots Q (F0 m pc ls (.int (zi x) :: rest)) := lv_if_lt hexec hb hdg ht (fun h => kt ((zi_lt hx ir_0).mp h)) (fun h => kf (fun h9 => h ((zi_lt hx ir_0).mpr h9)))
theorem zi_icmp_gt (hexec : p.tables.exec = Jvm.exec) (hb : c.code = cc) {x y : Int} {off : Int} {tgt : Nat} (hx : ir x) (hy : ir y) (hdg : decode cc pc = .ok (.if_icmp .gt off, 3)) (ht : (pc : Int) + off = (tgt : Int)) (kt : y < x → W p l e R s m args below meth c H locs cells slots Q (F0 m tgt ls rest)) (kf : ¬ y < x → W p l e R s m args below meth c H locs cells slots Q (F0 m (pc + 3) ls rest)) : W p l e R s m args below meth c H locs cells slots Q (F0 m pc ls (.int (zi y) :: .int (zi x) :: rest)) := lv_icmp_gt hexec hb hdg ht (fun h => kt ((zi_lt hy hx).mp h)) (fun h => kf (fun h9 => h ((zi_lt hy hx).mpr h9)))
theorem zi_if_gt (hexec : p.tables.exec = Jvm.exec) (hb : c.code = cc) {x : Int} {off : Int} {tgt : Nat} (hx : ir x) (hdg : decode cc pc = .ok (.ifCond .gt off, 3)) (ht : (pc : Int) + off = (tgt : Int)) (kt : 0 < x → W p l e R s m args below meth c H locs cells slots Q (F0 m tgt ls rest)) (kf : ¬ 0 < x → W p l e R s m args below meth c H locs cells slots Q (F0 m (pc + 3) ls rest)) : W p l e R s m args below meth c H locs cells slots Q (F0 m pc ls (.int (zi x) :: rest)) := lv_if_gt hexec hb hdg ht (fun h => kt ((zi_lt ir_0 hx).mp h)) (fun h => kf (fun h9 => h ((zi_lt ir_0 hx).mpr h9)))
theorem zi_icmp_le (hexec : p.tables.exec = Jvm.exec) (hb : c.code = cc) {x y : Int} {off : Int} {tgt : Nat} (hx : ir x) (hy : ir y) (hdg : decode cc pc = .ok (.if_icmp .le off, 3)) (ht : (pc : Int) + off = (tgt : Int)) (kt : x ≤ y → W p l e R s m args below meth c H locs cells slots Q (F0 m tgt ls rest)) (kf : ¬ x ≤ y → W p l e R s m args below meth c H locs cells slots Q (F0 m (pc + 3) ls rest)) : W p l e R s m args below meth c H locs cells slots Q (F0 m pc ls (.int (zi y) :: .int (zi x) :: rest)) := lv_icmp_le hexec hb hdg ht (fun h => kt ((zi_le hx hy).mp h)) (fun h => kf (fun h9 => h ((zi_le hx hy).mpr h9)))
theorem zi_if_le (hexec : p.tables.exec = Jvm.exec) (hb : c.code = cc) {x : Int} {off : Int} {tgt : Nat} (hx : ir x) (hdg : decode cc pc = .ok (.ifCond .le off, 3)) (ht : (pc : Int) + off = (tgt : Int)) (kt : x ≤ 0 → W p l e R s m args below meth c H locs cells slots Q (F0 m tgt ls rest)) (kf : ¬ x ≤ 0 → W p l e R s m args below meth c H locs cells slots Q (F0 m (pc + 3) ls rest)) : W p l e R s m args below meth c H locs cells slots Q (F0 m pc ls (.int (zi x) :: rest)) := lv_if_le hexec hb hdg ht (fun h => kt ((zi_le hx ir_0).mp h)) (fun h => kf (fun h9 => h ((zi_le hx ir_0).mpr h9)))
theorem zi_icmp_ge (hexec : p.tables.exec = Jvm.exec) (hb : c.code = cc) {x y : Int} {off : Int} {tgt : Nat} (hx : ir x) (hy : ir y) (hdg : decode cc pc = .ok (.if_icmp .ge off, 3)) (ht : (pc : Int) + off = (tgt : Int)) (kt : y ≤ x → W p l e R s m args below meth c H locs cells slots Q (F0 m tgt ls rest)) (kf : ¬ y ≤ x → W p l e R s m args below meth c H locs cells slots Q (F0 m (pc + 3) ls rest)) : W p l e R s m args below meth c H locs cells slots Q (F0 m pc ls (.int (zi y) :: .int (zi x) :: rest)) := lv_icmp_ge hexec hb hdg ht (fun h => kt ((zi_le hy hx).mp h)) (fun h => kf (fun h9 => h ((zi_le hy hx).mpr h9)))
theorem zi_if_ge (hexec : p.tables.exec = Jvm.exec) (hb : c.code = cc) {x : Int} {off : Int} {tgt : Nat} (hx : ir x) (hdg : decode cc pc = .ok (.ifCond .ge off, 3)) (ht : (pc : Int) + off = (tgt : Int)) (kt : 0 ≤ x → W p l e R s m args below meth c H locs cells slots Q (F0 m tgt ls rest)) (kf : ¬ 0 ≤ x → W p l e R s m args below meth c H locs cells slots Q (F0 m (pc + 3) ls rest)) : W p l e R s m args below meth c H locs cells slots Q (F0 m pc ls (.int (zi x) :: rest)) := lv_if_ge hexec hb hdg ht (fun h => kt ((zi_le ir_0 hx).mp h)) (fun h => kf (fun h9 => h ((zi_le ir_0 hx).mpr h9)))
theorem zi_icmp_eq (hexec : p.tables.exec = Jvm.exec) (hb : c.code = cc) {x y : Int} {off : Int} {tgt : Nat} (hx : ir x) (hy : ir y) (hdg : decode cc pc = .ok (.if_icmp .eq off, 3)) (ht : (pc : Int) + off = (tgt : Int)) (kt : x = y → W p l e R s m args below meth c H locs cells slots Q (F0 m tgt ls rest)) (kf : ¬ x = y → W p l e R s m args below meth c H locs cells slots Q (F0 m (pc + 3) ls rest)) : W p l e R s m args below meth c H locs cells slots Q (F0 m pc ls (.int (zi y) :: .int (zi x) :: rest)) := lv_icmp_eq hexec hb hdg ht (fun h => kt ((zi_eq hx hy).mp h)) (fun h => kf (fun h9 => h ((zi_eq hx hy).mpr h9)))
theorem zi_if_eq (hexec : p.tables.exec = Jvm.exec) (hb : c.code = cc) {x : Int} {off : Int} {tgt : Nat} (hx : ir x) (hdg : decode cc pc = .ok (.ifCond .eq off, 3)) (ht : (pc : Int) + off = (tgt : Int)) (kt : x = 0 → W p l e R s m args below meth c H locs cells slots Q (F0 m tgt ls rest)) (kf : ¬ x = 0 → W p l e R s m args below meth c H locs cells slots Q (F0 m (pc + 3) ls rest)) : W p l e R s m args below meth c H locs cells slots Q (F0 m pc ls (.int (zi x) :: rest)) := lv_if_eq hexec hb hdg ht (fun h => kt ((zi_eq hx ir_0).mp h)) (fun h => kf (fun h9 => h ((zi_eq hx ir_0).mpr h9)))
theorem zi_icmp_ne (hexec : p.tables.exec = Jvm.exec) (hb : c.code = cc) {x y : Int} {off : Int} {tgt : Nat} (hx : ir x) (hy : ir y) (hdg : decode cc pc = .ok (.if_icmp .ne off, 3)) (ht : (pc : Int) + off = (tgt : Int)) (kt : ¬ x = y → W p l e R s m args below meth c H locs cells slots Q (F0 m tgt ls rest)) (kf : x = y → W p l e R s m args below meth c H locs cells slots Q (F0 m (pc + 3) ls rest)) : W p l e R s m args below meth c H locs cells slots Q (F0 m pc ls (.int (zi y) :: .int (zi x) :: rest)) := lv_icmp_ne hexec hb hdg ht (fun h => kt (fun h9 => h ((zi_eq hx hy).mpr h9))) (fun h => kf ((zi_eq hx hy).mp h))
theorem zi_if_ne (hexec : p.tables.exec = Jvm.exec) (hb : c.code = cc) {x : Int} {off : Int} {tgt : Nat} (hx : ir x) (hdg : decode cc pc = .ok (.ifCond .ne off, 3)) (ht : (pc : Int) + off = (tgt : Int)) (kt : ¬ x = 0 → W p l e R s m args below meth c H locs cells slots Q (F0 m tgt ls rest)) (kf : x = 0 → W p l e R s m args below meth c H locs cells slots Q (F0 m (pc + 3) ls rest)) : W p l e R s m args below meth c H locs cells slots Q (F0 m pc ls (.int (zi x) :: rest)) := lv_if_ne hexec hb hdg ht (fun h => kt (fun h9 => h ((zi_eq hx ir_0).mpr h9))) (fun h => kf ((zi_eq hx ir_0).mp h))
theorem zi_iald {D : va_G} {cl : List vw_C} {ws : va_W} {tys : List (ClassId × FieldType)} {a : Nat} (hexec : p.tables.exec = Jvm.exec) (hb : c.code = cc) (hK : va_K D cl tys s) (hP : va_P D cl ws H) (q0 t0 : Nat) {cA : ClassId} {n : Nat} {g : Int → Int} (ha : ws[q0]? = some (a, .inl (cA, n, .inl (zf g)))) (ht : tys[t0]? = some (cA, .int)) {x : Int} (h0 : 0 ≤ x) (h1 : x < n) (hn : n < 2147483648) (hdg : decode cc pc = .ok (.iaload, 1)) (kk : W p l e R s m args below meth c H locs cells slots Q (F0 m (pc + 1) ls (.int (zi (g x)) :: rest))) : W p l e R s m args below meth c H locs cells slots Q (F0 m pc ls (.int (zi x) :: .ref a :: rest)) := by
  have hr : ir x := ⟨by omega, by omega⟩
  refine va_iald hexec hb hK hP q0 t0 ha ht (vp_in_iff.mpr (by rw [zi_toInt hr]; exact ⟨h0, h1⟩)) hdg ?_
  rw [zi_cl hr]
  show W p l e R s m args below meth c H locs cells slots Q (F0 m (pc + 1) ls (.int (zi (g (x.toNat : Int))) :: rest))
  rw [Int.toNat_of_nonneg h0]
  exact kk
theorem zi_iast {D : va_G} {cl : List vw_C} {ws : va_W} {tys : List (ClassId × FieldType)} {a : Nat} {A : Nat → Prop} {H0 : Heap} (hexec : p.tables.exec = Jvm.exec) (hb : c.code = cc) (hK : va_K D cl tys s) (hP : va_P D cl ws H) (hD : va_D A ws) (hS : va_S A H0 H locs) (q0 t0 : Nat) {cA : ClassId} {n : Nat} {g : Int → Int} (ha : ws[q0]? = some (a, .inl (cA, n, .inl (zf g)))) (ht : tys[t0]? = some (cA, .int)) {x v : Int} (h0 : 0 ≤ x) (h1 : x < n) (hn : n < 2147483648) (hdg : decode cc pc = .ok (.iastore, 1)) (kk : ∀ (H1 : Heap) (locs1 : List Loc), va_P D cl (ws.set q0 (a, .inl (cA, n, .inl (zf (up g x v))))) H1 → va_S A H0 H1 locs1 → W p l e R s m args below meth c H1 locs1 cells slots Q (F0 m (pc + 1) ls rest)) : W p l e R s m args below meth c H locs cells slots Q (F0 m pc ls (.int (zi v) :: .int (zi x) :: .ref a :: rest)) := by
  have hr : ir x := ⟨by omega, by omega⟩
  refine va_iast hexec hb hK hP hD hS q0 t0 ha ht (vp_in_iff.mpr (by rw [zi_toInt hr]; exact ⟨h0, h1⟩)) hdg (fun H1 locs1 k1 _ k3 => kk H1 locs1 ?_ k3)
  rw [zf_up g v h0, ← zi_cl hr]
  exact k1
end ZROWS
end
section
def dW (cI : ClassId) (a : Nat → Nat) (S : ZS) : va_W := [(a 0, .inr (7, [.ref (a 1), .ref (a 2), .ref (a 3), .ref (a 4), .ref (a 5), .ref (a 6)])), (a 1, .inr (6, [.ref (a 7), .ref (a 8), .ref (a 9), .ref (a 10), .ref (a 11), .ref (a 12), .ref (a 13), .int (zi (S 20 0)), .int (zi (S 21 0)), .int (zi (S 22 0))])), (a 2, .inr (0, [.ref (a 14), .ref (a 15), .ref (a 16), .ref (a 17), .ref (a 18), .int (zi (S 23 0)), .int (zi (S 24 0)), .int (zi (S 25 0))])), (a 3, .inr (2, [.ref (a 19), .int (zi (S 26 0))])), (a 4, .inr (3, [.ref (a 20), .ref (a 21), .ref (a 22)])), (a 5, .inr (4, [.ref (a 23), .ref (a 24), .ref (a 25), .int (zi (S 27 0)), .int (zi (S 28 0))])), (a 6, .inr (1, [.ref (a 26)])), (a 7, .inr (5, [.ref (a 27)])), (a 8, .inr (5, [.ref (a 28)])), (a 9, .inr (5, [.ref (a 29)])), (a 10, .inr (5, [.ref (a 30)])), (a 11, .inr (5, [.ref (a 31)])), (a 12, .inr (5, [.ref (a 32)])), (a 13, .inr (5, [.ref (a 33)])), (a 14, .inr (5, [.ref (a 34)])), (a 15, .inr (5, [.ref (a 35)])), (a 16, .inr (5, [.ref (a 36)])), (a 17, .inr (5, [.ref (a 37)])), (a 18, .inr (5, [.ref (a 38)])), (a 19, .inr (5, [.ref (a 39)])), (a 20, .inr (5, [.ref (a 40)])), (a 21, .inr (5, [.ref (a 41)])), (a 22, .inr (5, [.ref (a 42)])), (a 23, .inr (5, [.ref (a 43)])), (a 24, .inr (5, [.ref (a 44)])), (a 25, .inr (5, [.ref (a 45)])), (a 26, .inr (5, [.ref (a 46)])), (a 27, .inl (cI, 6, .inl (zf (S 0)))), (a 28, .inl (cI, 30, .inl (zf (S 1)))), (a 29, .inl (cI, 30, .inl (zf (S 2)))), (a 30, .inl (cI, 60, .inl (zf (S 3)))), (a 31, .inl (cI, 60, .inl (zf (S 4)))), (a 32, .inl (cI, 60, .inl (zf (S 5)))), (a 33, .inl (cI, 9, .inl (zf (S 6)))), (a 34, .inl (cI, 60, .inl (zf (S 7)))), (a 35, .inl (cI, 20, .inl (zf (S 8)))), (a 36, .inl (cI, 20, .inl (zf (S 9)))), (a 37, .inl (cI, 20, .inl (zf (S 10)))), (a 38, .inl (cI, 20, .inl (zf (S 11)))), (a 39, .inl (cI, 60, .inl (zf (S 12)))), (a 40, .inl (cI, 405, .inl (zf (S 13)))), (a 41, .inl (cI, 405, .inl (zf (S 14)))), (a 42, .inl (cI, 3600, .inl (zf (S 15)))), (a 43, .inl (cI, 3600, .inl (zf (S 16)))), (a 44, .inl (cI, 405, .inl (zf (S 17)))), (a 45, .inl (cI, 3600, .inl (zf (S 18)))), (a 46, .inl (cI, 20, .inl (zf (S 19))))]
def dLen : Nat → Nat := fun k => match k with | 0 => 6 | 1 => 30 | 2 => 30 | 3 => 60 | 4 => 60 | 5 => 60 | 6 => 9 | 7 => 60 | 8 => 20 | 9 => 20 | 10 => 20 | 11 => 20 | 12 => 60 | 13 => 405 | 14 => 405 | 15 => 3600 | 16 => 3600 | 17 => 405 | 18 => 3600 | 19 => 20 | _ => 0
def dA (a : Nat → Nat) : Nat → Prop := fun q => ∃ k : Nat, k < 47 ∧ q = a k
def dDis (a : Nat → Nat) : Prop := ∀ i j : Nat, i < 47 → j < 47 → a i = a j → i = j
def mW (cI cZ : ClassId) (b : Nat → Nat) (M : ZS) : va_W := [(b 0, .inr (8, [.ref (b 1), .int (zi (M 1 0)), .ref (b 3), .int (zi (M 3 0)), .ref (b 5), .ref (b 6), .int (zi (M 6 0)), .ref (b 8), .ref (b 9), .ref (b 10), .ref (b 11), .int (zi (M 11 0)), .ref (b 13), .ref (b 14), .ref (b 15), .ref (b 16), .ref (b 17), .int (zi (M 17 0)), .int (zi (M 18 0)), .int (zi (M 19 0)), .ref (b 21), .int (zi (M 21 0)), .ref (b 23), .ref (b 24), .ref (b 25), .ref (b 26), .ref (b 27), .ref (b 28), .ref (b 29), .ref (b 30), .ref (b 31), .int (zi (M 31 0))])), (b 1, .inl (cI, 9, .inl (zf (M 0)))), (b 3, .inl (cI, 6, .inl (zf (M 2)))), (b 5, .inl (cI, 30, .inl (zf (M 4)))), (b 6, .inl (cI, 30, .inl (zf (M 5)))), (b 8, .inl (cI, 60, .inl (zf (M 7)))), (b 9, .inl (cI, 60, .inl (zf (M 8)))), (b 10, .inl (cI, 60, .inl (zf (M 9)))), (b 11, .inl (cI, 60, .inl (zf (M 10)))), (b 13, .inl (cI, 20, .inl (zf (M 12)))), (b 14, .inl (cI, 20, .inl (zf (M 13)))), (b 15, .inl (cI, 20, .inl (zf (M 14)))), (b 16, .inl (cI, 20, .inl (zf (M 15)))), (b 17, .inl (cI, 20, .inl (zf (M 16)))), (b 21, .inl (cI, 60, .inl (zf (M 20)))), (b 23, .inl (cI, 7695, .inl (zf (M 22)))), (b 24, .inl (cI, 3600, .inl (zf (M 23)))), (b 25, .inl (cI, 3600, .inl (zf (M 24)))), (b 26, .inl (cI, 7695, .inl (zf (M 25)))), (b 27, .inl (cI, 7695, .inl (zf (M 26)))), (b 28, .inl (cZ, 7695, .inl (zf (M 27)))), (b 29, .inl (cI, 20, .inl (zf (M 28)))), (b 30, .inl (cI, 20, .inl (zf (M 29)))), (b 31, .inl (cI, 20, .inl (zf (M 30))))]
/-- the addresses of mW, in its order -/
def mAd : List Nat := [0, 1, 3, 5, 6, 8, 9, 10, 11, 13, 14, 15, 16, 17, 21, 23, 24, 25, 26, 27, 28, 29, 30, 31]
def mA (b : Nat → Nat) : Nat → Prop := fun q => ∃ k : Nat, k < 33 ∧ q = b k
def mDis (b : Nat → Nat) : Prop := ∀ i j : Nat, i < 33 → j < 33 → b i = b j → i = j
def tyL (cI cZ cJ : ClassId) : List (ClassId × FieldType) := [(cI, .int), (cZ, .boolean), (cJ, .long)]
/-- the words of the nest, which are no good words: they ride in the contracts -/
def nWs : List Cond := [.fieldLinkNest RX7 113 "PlanetoidDesk$Bodies" "count" "I" "PlanetoidDesk", .fieldLinkNest RX7 218 "PlanetoidDesk$Paths" "near" "I" "PlanetoidDesk", .fieldLinkNest RX7 221 "PlanetoidDesk$Paths" "all" "I" "PlanetoidDesk", .fieldLinkNest RX7 237 "PlanetoidDesk$Looks" "count" "I" "PlanetoidDesk", .fieldLinkNest RX7 55 "PlanetoidDesk$Sky" "observatoryCount" "I" "PlanetoidDesk", .fieldLinkNest RX7 74 "PlanetoidDesk$Sky" "plateCount" "I" "PlanetoidDesk", .fieldLinkNest RX7 83 "PlanetoidDesk$Sky" "dotCount" "I" "PlanetoidDesk", .fieldLinkNest RX1 24 "PlanetoidDesk$Bodies" "count" "I" "PlanetoidDesk", .methodLinkNest RX7 9 yX6_init "PlanetoidDesk", .methodLinkNest RX7 25 yX2_init "PlanetoidDesk", .methodLinkNest RX7 32 yX3_init "PlanetoidDesk", .methodLinkNest RX7 39 yX4_init "PlanetoidDesk", .methodLinkNest RX7 46 yX1_init "PlanetoidDesk", .methodLinkNest RX3 29 yX7_drift "PlanetoidDesk", .methodLinkNest RX4 60 yX7_drift "PlanetoidDesk", .methodLinkNest RX4 76 yX7_stretch "PlanetoidDesk", .methodLinkNest RX1 54 yX7_bOf "PlanetoidDesk", .methodLinkNest RX1 60 yX7_cOf "PlanetoidDesk"]
theorem nWs_in : ∀ w ∈ nWs, w ∈ lw_tbl := by decide +kernel
theorem nWs_on : ∀ w ∈ nWs, w.onTables = true := by decide +kernel
def NN (U : State) : Prop := ∀ w ∈ nWs, va_Nw w U
theorem NN.warm {s U : State} (hW : s.WarmedH U.vm) (h : NN s) : NN U := List.forall_mem_cons.mpr ⟨va_Nw.warmF hW (h _ (List.mem_of_getElem? (i := 0) rfl)), List.forall_mem_cons.mpr ⟨va_Nw.warmF hW (h _ (List.mem_of_getElem? (i := 1) rfl)), List.forall_mem_cons.mpr ⟨va_Nw.warmF hW (h _ (List.mem_of_getElem? (i := 2) rfl)), List.forall_mem_cons.mpr ⟨va_Nw.warmF hW (h _ (List.mem_of_getElem? (i := 3) rfl)), List.forall_mem_cons.mpr ⟨va_Nw.warmF hW (h _ (List.mem_of_getElem? (i := 4) rfl)), List.forall_mem_cons.mpr ⟨va_Nw.warmF hW (h _ (List.mem_of_getElem? (i := 5) rfl)), List.forall_mem_cons.mpr ⟨va_Nw.warmF hW (h _ (List.mem_of_getElem? (i := 6) rfl)), List.forall_mem_cons.mpr ⟨va_Nw.warmF hW (h _ (List.mem_of_getElem? (i := 7) rfl)), List.forall_mem_cons.mpr ⟨va_Nw.warmM hW (h _ (List.mem_of_getElem? (i := 8) rfl)), List.forall_mem_cons.mpr ⟨va_Nw.warmM hW (h _ (List.mem_of_getElem? (i := 9) rfl)), List.forall_mem_cons.mpr ⟨va_Nw.warmM hW (h _ (List.mem_of_getElem? (i := 10) rfl)), List.forall_mem_cons.mpr ⟨va_Nw.warmM hW (h _ (List.mem_of_getElem? (i := 11) rfl)), List.forall_mem_cons.mpr ⟨va_Nw.warmM hW (h _ (List.mem_of_getElem? (i := 12) rfl)), List.forall_mem_cons.mpr ⟨va_Nw.warmM hW (h _ (List.mem_of_getElem? (i := 13) rfl)), List.forall_mem_cons.mpr ⟨va_Nw.warmM hW (h _ (List.mem_of_getElem? (i := 14) rfl)), List.forall_mem_cons.mpr ⟨va_Nw.warmM hW (h _ (List.mem_of_getElem? (i := 15) rfl)), List.forall_mem_cons.mpr ⟨va_Nw.warmM hW (h _ (List.mem_of_getElem? (i := 16) rfl)), List.forall_mem_cons.mpr ⟨va_Nw.warmM hW (h _ (List.mem_of_getElem? (i := 17) rfl)), (fun _ h => absurd h List.not_mem_nil)⟩⟩⟩⟩⟩⟩⟩⟩⟩⟩⟩⟩⟩⟩⟩⟩⟩⟩
theorem NN.same {u U : State} (hv : u.vm = U.vm) (h : NN u) : NN U := fun w hw => va_Nw.same (nWs_on w hw) hv (h w hw)
def KK (D : va_G) (cI cZ cJ : ClassId) (U : State) : Prop := va_K D vwCl (tyL cI cZ cJ) U ∧ NN U
theorem KK.warm {D : va_G} {cI cZ cJ : ClassId} {s U : State} (hW : s.WarmedH U.vm) (h : KK D cI cZ cJ s) : KK D cI cZ cJ U := ⟨va_K.moved hW.alike h.1, NN.warm hW h.2⟩
theorem KK.same {D : va_G} {cI cZ cJ : ClassId} {u U : State} (hv : u.vm = U.vm) (h : KK D cI cZ cJ u) : KK D cI cZ cJ U := ⟨va_K.moved (by rw [hv]; exact Vm.Alike.refl U.vm) h.1, NN.same hv h.2⟩
/-- a contract's start: the arguments, the world, the tables -/
def zP (D : va_G) (cI cZ cJ : ClassId) (B : va_W) (av : List Value) : Array Value → State → Prop := va_Pc av (fun U => va_P D vwCl B U.heap ∧ KK D cI cZ cJ U)
theorem zP_blind {D : va_G} {cI cZ cJ : ClassId} {B : va_W} {av : List Value} : FrameBlind (zP D cI cZ cJ B av) := fun a U g mk h => ⟨h.1, h.2.1, KK.same (u := U) (U := U.calling g mk a) rfl h.2.2⟩
/-- a contract's end over worlds of one kind: an int (or nothing) and the new numbers -/
def zWi (D : va_G) (B : ZS → va_W) (A : Nat → Prop) (post : Int → ZS → Prop) : Array Value → State → Outcome → State → Prop := va_Qi (S := Int × ZS) (fun r u => r = zi u.1 ∧ post u.1 u.2) (fun u t => va_P D vwCl (B u.2) t.heap) A
def zWv (D : va_G) (B : ZS → va_W) (A : Nat → Prop) (post : ZS → Prop) : Array Value → State → Outcome → State → Prop := va_Qv (S := ZS) post (fun u t => va_P D vwCl (B u) t.heap) A
section ZCALL
variable {p : Program} {l : Launch} {e : Env} {R : Room} {s : State} {m : MethodId} {args : Array Value} {below : List Frame} {meth : Method} {c : Code} {H H0 : Heap} {locs : List Loc} {cells slots : Nat} {Q : State → Prop} {cc : ByteArray} {pc : Nat} {ls : Array Slot} {rest st0 : List Value}
variable {D : va_G} {cI cZ cJ : ClassId} {B : va_W} {As : List Value} {Qc : Array Value → State → Outcome → State → Prop} {y : MethodName} {ws Ts : List Cond} {rm : Room} {free A : Addr → Prop} {bytes : ByteArray} {maxL nL n index : Nat} {ret : Option FieldType} {own C host : String} {b : Addr} {v : Value} {a : Array Value} {mc ms : Nat}
theorem zc_V (S : CallFix p m c cc nL s args Ts own) (hM : Met l y ws rm (zP D cI cZ cJ B (.ref b :: As)) Qc mc ms free) (cw : CallW R s args own C index y bytes maxL ret ws rm mc ms n) (hK : KK D cI cZ cJ s) (hP : va_P D vwCl B H) {q0 ci : Nat} {q : vw_C} {fs : List Value} (hc : vwCl[ci]? = some q) (he : B[q0]? = some (b, .inr (ci, fs))) (hq : q.1 = C) (hn : As.length = n) (hsize : ls.size = nL) (hst : st0 = As.reverse ++ .ref b :: rest) (hW : (rest.map fun v => v.category).sum ≤ 8) (hdg : decode cc pc = .ok (.invokevirtual index, 3)) (hf : cells + mc ≤ R.cells ∧ slots + ms ≤ R.slots) : va_Run p l e R s m args below meth c H locs cells slots mc ms (F0 m pc ls st0) rest (Qc (Value.ref b :: As).toArray) free := by
  obtain ⟨cell, h1, h2, h3⟩ := va_recv hK.1 hP hc he
  exact va_runV (As := As) (rest := rest) S hM cw ⟨zP_blind, ⟨cell, h1, h2, by rw [← hq]; exact h3⟩, fun U hU hW => ⟨rfl, by rw [hU]; exact hP, hK.warm hW⟩⟩ rfl hn hsize hst (lv_room hW) hdg hf
theorem zc_S (S : CallFix p m c cc nL s args Ts own) (hM : Met l y ws rm (zP D cI cZ cJ B As) Qc mc ms free) (cw : CallB R s args own index y bytes maxL ret ws rm mc ms n ∧ (Cond.static y).before args s = true) (hK : KK D cI cZ cJ s) (hP : va_P D vwCl B H) (hn : As.length = n) (hsize : ls.size = nL) (hst : st0 = As.reverse ++ rest) (hW : (rest.map fun v => v.category).sum ≤ 8) (hdg : decode cc pc = .ok (.invokestatic index, 3)) (hf : cells + mc ≤ R.cells ∧ slots + ms ≤ R.slots) : va_Run p l e R s m args below meth c H locs cells slots mc ms (F0 m pc ls st0) rest (Qc As.toArray) free :=
  va_runS (As := As) (rest := rest) S hM cw ⟨zP_blind, fun U hU hW => ⟨rfl, by rw [hU]; exact hP, hK.warm hW⟩⟩ rfl hn hsize hst (lv_room hW) hdg hf
theorem zc_N (S : CallFix p m c cc nL s args Ts own) (hM : Met l y ws rm (zP D cI cZ cJ B As) Qc mc ms free) (cw : va_CN R s args own index y host bytes maxL ret ws rm mc ms n ∧ (Cond.static y).before args s = true ∧ True) (hK : KK D cI cZ cJ s) (hP : va_P D vwCl B H) (hn : As.length = n) (hsize : ls.size = nL) (hst : st0 = As.reverse ++ rest) (hW : (rest.map fun v => v.category).sum ≤ 8) (hdg : decode cc pc = .ok (.invokestatic index, 3)) (hf : cells + mc ≤ R.cells ∧ slots + ms ≤ R.slots) : va_Run p l e R s m args below meth c H locs cells slots mc ms (F0 m pc ls st0) rest (Qc As.toArray) free :=
  va_runSN (As := As) (rest := rest) S hM cw ⟨zP_blind, fun U hU hW => ⟨rfl, by rw [hU]; exact hP, hK.warm hW⟩⟩ rfl hn hsize hst (lv_room hW) hdg hf
/-- behind a call that only reads -/
theorem zk_r (hr : va_Run p l e R s m args below meth c H locs cells slots 0 0 (F0 m pc ls st0) rest (k2_QcV v a) (fun _ => False)) (kk : W p l e R s m args below meth c H locs cells slots Q (F0 m (pc + 3) ls (v :: rest))) : W p l e R s m args below meth c H locs cells slots Q (F0 m pc ls st0) :=
  W.callV (fun T hT X => by obtain ⟨v, s0, t, T', L, a1, a2, a3, a4, -, a5, a6⟩ := hr T hT X; exact ⟨v, s0, t, T', L, a1, a2, a3, a4, a5, a6⟩) kk
theorem zk_wi {Bf : ZS → va_W} {post : Int → ZS → Prop} (hr : va_Run p l e R s m args below meth c H locs cells slots 0 0 (F0 m pc ls st0) rest (zWi D Bf A post a) A) (hS : va_S A H0 H locs) (kk : ∀ (r : Int) (T : ZS) (H1 : Heap) (locs1 : List Loc), post r T → va_P D vwCl (Bf T) H1 → va_S A H0 H1 locs1 → W p l e R s m args below meth c H1 locs1 cells slots Q (F0 m (pc + 3) ls (.int (zi r) :: rest))) : W p l e R s m args below meth c H locs cells slots Q (F0 m pc ls st0) :=
  va_calli hr hS (fun _ _ h => h) (fun _ h => h) (fun r u t H1 locs1 ht _ hp hB _ _ hS1 => by rw [hp.1]; exact kk u.1 u.2 H1 locs1 hp.2 (by rw [← ht]; exact hB) hS1)
theorem zk_wv {Bf : ZS → va_W} {post : ZS → Prop} (hr : va_Run p l e R s m args below meth c H locs cells slots 0 0 (F0 m pc ls st0) rest (zWv D Bf A post a) A) (hS : va_S A H0 H locs) (kk : ∀ (T : ZS) (H1 : Heap) (locs1 : List Loc), post T → va_P D vwCl (Bf T) H1 → va_S A H0 H1 locs1 → W p l e R s m args below meth c H1 locs1 cells slots Q (F0 m (pc + 3) ls rest)) : W p l e R s m args below meth c H locs cells slots Q (F0 m pc ls st0) :=
  va_callv hr hS (fun _ _ h => h) (fun _ h => h) (fun u t H1 locs1 ht _ hp hB _ _ hS1 => kk u H1 locs1 hp (by rw [← ht]; exact hB) hS1)
/-- ends -/
theorem zr_i {x w : Int} (hx : p.tables.exec = Jvm.exec) (hb : c.code = cc) (hr : meth.sig.returnType = some .int) (hlocks : meth.locks = false) (hdg : decode cc pc = .ok (.ireturn, 1)) (hw : x = w) : W p l e R s m args below meth c s.heap [] cells slots (MQ below (k2_QcV (.int (zi w))) args s cells slots (fun _ => False)) (F0 m pc ls [.int (zi x)]) := by
  subst hw
  exact W.iret hx hb hr (fun t ht _ => ⟨rfl, ht⟩) (fun q h => absurd h List.not_mem_nil) hdg hlocks
theorem zr_z {x w : Int} (hx : p.tables.exec = Jvm.exec) (hb : c.code = cc) (hr : meth.sig.returnType = some .boolean) (hlocks : meth.locks = false) (hdg : decode cc pc = .ok (.ireturn, 1)) (h01 : x = 0 ∨ x = 1) (hw : x = w) : W p l e R s m args below meth c s.heap [] cells slots (MQ below (k2_QcV (.int (zi w))) args s cells slots (fun _ => False)) (F0 m pc ls [.int (zi x)]) := by
  subst hw
  exact W.zret hx hb hr (by rcases h01 with rfl | rfl <;> decide) (fun t ht _ => ⟨rfl, ht⟩) (fun q h => absurd h List.not_mem_nil) hdg hlocks
theorem zr_wi {x : Int} {Bf : ZS → va_W} {post : Int → ZS → Prop} {T : ZS} (hx : p.tables.exec = Jvm.exec) (hb : c.code = cc) (hr : meth.sig.returnType = some .int) (hlocks : meth.locks = false) (hdg : decode cc pc = .ok (.ireturn, 1)) (hP : va_P D vwCl (Bf T) H) (hS : va_S A s.heap H locs) (hp : post x T) : W p l e R s m args below meth c H locs cells slots (MQ below (zWi D Bf A post) args s cells slots A) (F0 m pc ls [.int (zi x)]) :=
  W.iret hx hb hr (fun t ht _ => ⟨⟨zi x, (x, T), rfl, ⟨rfl, hp⟩, by show va_P D vwCl (Bf T) t.heap; rw [ht]; exact hP⟩, hS.F ht⟩) hS.2.2 hdg hlocks
theorem zr_wz {x : Int} {Bf : ZS → va_W} {post : Int → ZS → Prop} {T : ZS} (hx : p.tables.exec = Jvm.exec) (hb : c.code = cc) (hr : meth.sig.returnType = some .boolean) (hlocks : meth.locks = false) (hdg : decode cc pc = .ok (.ireturn, 1)) (h01 : x = 0 ∨ x = 1) (hP : va_P D vwCl (Bf T) H) (hS : va_S A s.heap H locs) (hp : post x T) : W p l e R s m args below meth c H locs cells slots (MQ below (zWi D Bf A post) args s cells slots A) (F0 m pc ls [.int (zi x)]) :=
  W.zret hx hb hr (by rcases h01 with rfl | rfl <;> decide) (fun t ht _ => ⟨⟨zi x, (x, T), rfl, ⟨rfl, hp⟩, by show va_P D vwCl (Bf T) t.heap; rw [ht]; exact hP⟩, hS.F ht⟩) hS.2.2 hdg hlocks
theorem zr_wv {Bf : ZS → va_W} {post : ZS → Prop} {T : ZS} (hx : p.tables.exec = Jvm.exec) (hb : c.code = cc) (hr : meth.sig.returnType = none) (hlocks : meth.locks = false) (hdg : decode cc pc = .ok (.return_, 1)) (hP : va_P D vwCl (Bf T) H) (hS : va_S A s.heap H locs) (hp : post T) : W p l e R s m args below meth c H locs cells slots (MQ below (zWv D Bf A post) args s cells slots A) (F0 m pc ls []) :=
  W.vret hx hb hr (fun t ht _ => ⟨⟨T, rfl, hp, by show va_P D vwCl (Bf T) t.heap; rw [ht]; exact hP⟩, hS.F ht⟩) hS.2.2 hdg hlocks
end ZCALL
theorem va_D_of {A : Nat → Prop} {B : va_W} {ad : List Nat} {f : Nat → Nat} (hm : B.map (fun q => q.1) = ad.map f) (hnd : ∀ i j x : Nat, ad[i]? = some x → ad[j]? = some x → i = j) (hinj : ∀ x y : Nat, x ∈ ad → y ∈ ad → f x = f y → x = y) (hA : ∀ x : Nat, x ∈ ad → A (f x)) : va_D A B := by
  have key : ∀ (k : Nat) (q : Nat × va_E), B[k]? = some q → ∃ x, ad[k]? = some x ∧ q.1 = f x := by
    intro k q hk
    have h1 : (B.map (fun q => q.1))[k]? = some q.1 := by rw [List.getElem?_map, hk]; rfl
    rw [hm, List.getElem?_map] at h1
    cases hx : ad[k]? with
    | none => rw [hx] at h1; cases h1
    | some x => rw [hx] at h1; exact ⟨x, rfl, (Option.some.inj h1).symm⟩
  refine ⟨fun i j p q hi hj hpq => ?_, fun k q hk => ?_⟩
  · obtain ⟨x, h1, h2⟩ := key i p hi
    obtain ⟨y, h3, h4⟩ := key j q hj
    have h5 : x = y := hinj x y (List.mem_of_getElem? h1) (List.mem_of_getElem? h3) (by rw [← h2, ← h4]; exact hpq)
    subst h5
    exact hnd i j x h1 h3
  · obtain ⟨x, h1, h2⟩ := key k q hk
    rw [h2]
    exact hA x (List.mem_of_getElem? h1)
theorem dAd_nd : ∀ i j x : Nat, (List.range 47)[i]? = some x → (List.range 47)[j]? = some x → i = j := by
  intro i j x hi hj
  obtain ⟨h1, h2⟩ := List.getElem?_eq_some_iff.mp hi
  obtain ⟨h3, h4⟩ := List.getElem?_eq_some_iff.mp hj
  rw [List.getElem_range] at h2 h4
  omega
theorem dW_D {cI : ClassId} {a : Nat → Nat} (ha : dDis a) (S : ZS) : va_D (dA a) (dW cI a S) := va_D_of (ad := List.range 47) (f := a) rfl dAd_nd (fun x y hx hy h => ha x y (List.mem_range.mp hx) (List.mem_range.mp hy) h) (fun x hx => ⟨x, List.mem_range.mp hx, rfl⟩)
theorem mAd_nd : ∀ i j x : Nat, mAd[i]? = some x → mAd[j]? = some x → i = j := by
  intro i j x hi hj
  have h : mAd.Nodup := by decide +kernel
  obtain ⟨h1, h2⟩ := List.getElem?_eq_some_iff.mp hi
  obtain ⟨h3, h4⟩ := List.getElem?_eq_some_iff.mp hj
  exact (List.getElem_inj h).mp (h2.trans h4.symm)
theorem mAd_lt : ∀ x ∈ mAd, x < 33 := by decide +kernel
theorem mW_D {cI cZ : ClassId} {b : Nat → Nat} (hb : mDis b) (M : ZS) : va_D (mA b) (mW cI cZ b M) := va_D_of (ad := mAd) (f := b) rfl mAd_nd (fun x y hx hy h => hb x y (mAd_lt x hx) (mAd_lt y hy) h) (fun x hx => ⟨x, mAd_lt x hx, rfl⟩)
end
section
def cLo : Nat → Int := fun k => match k with | 0 => 0 | 1 => 0 | 2 => 0 | 3 => 0 | 4 => 0 | 5 => 0 | 6 => -9 | 7 => -1 | 8 => -1 | 9 => 0 | 10 => -1 | 11 => 0 | 12 => 0 | 13 => 0 | 14 => 0 | 15 => 0 | 16 => -1 | 17 => -1 | 18 => -1 | 19 => -1 | 20 => 0 | 21 => 0 | 22 => 0 | 23 => 0 | 24 => 0 | 25 => 0 | 26 => 0 | 27 => 0 | 28 => 0 | _ => 0
def cHi : Nat → Int := fun k => match k with | 0 => 9 | 1 => 5 | 2 => 999 | 3 => 29 | 4 => 3599 | 5 => 99 | 6 => 9 | 7 => 19 | 8 => 19 | 9 => 100000 | 10 => 20 | 11 => 404 | 12 => 59 | 13 => 3599 | 14 => 3600 | 15 => 1458000 | 16 => 404 | 17 => 404 | 18 => 3599 | 19 => 20 | 20 => 6 | 21 => 30 | 22 => 60 | 23 => 20 | 24 => 100000 | 25 => 20 | 26 => 60 | 27 => 1458000 | 28 => 1458000 | _ => 0
def mLo : Nat → Int := fun k => match k with | 0 => -9 | 1 => 0 | 2 => 0 | 3 => 0 | 4 => 0 | 5 => 0 | 6 => 0 | 7 => 0 | 8 => 0 | 9 => 0 | 10 => -1 | 11 => 0 | 12 => -1 | 13 => 0 | 14 => 0 | 15 => -40 | 16 => -2 | 17 => 0 | 18 => 0 | 19 => 0 | 20 => 0 | 21 => 0 | 22 => 0 | 23 => 0 | 24 => -1 | 25 => -1 | 26 => 0 | 27 => 0 | 28 => 0 | 29 => 0 | 30 => -1 | 31 => 0 | _ => 0
def mHi : Nat → Int := fun k => match k with | 0 => 9 | 1 => 6 | 2 => 9 | 3 => 30 | 4 => 5 | 5 => 999 | 6 => 60 | 7 => 29 | 8 => 3599 | 9 => 99 | 10 => 19 | 11 => 20 | 12 => 19 | 13 => 100000 | 14 => 20 | 15 => 40 | 16 => 2 | 17 => 100000 | 18 => 20 | 19 => 60 | 20 => 59 | 21 => 7695 | 22 => 1457999 | 23 => 7695 | 24 => 7694 | 25 => 7694 | 26 => 12963599 | 27 => 1 | 28 => 100 | 29 => 99 | 30 => 19 | 31 => 3 | _ => 0
/-- every cell of each row is within the row's bounds -/
def CI (S : ZS) : Prop := ∀ (k : Nat) (j : Int), cLo k ≤ S k j ∧ S k j ≤ cHi k
theorem CI.put {S : ZS} (h : CI S) (k : Nat) {g : Int → Int} (hg : ∀ j, cLo k ≤ g j ∧ g j ≤ cHi k) : CI (su S k g) := by
  intro q j
  by_cases hq : q = k
  · subst hq; rw [su_s]; exact hg j
  · rw [su_n _ _ hq]; exact h q j
theorem CI.up {S : ZS} (h : CI S) (k : Nat) (x v : Int) (hv : cLo k ≤ v ∧ v ≤ cHi k) : CI (su S k (up (S k) x v)) := h.put k (fun j => by
  by_cases hj : j = x
  · subst hj; rw [up_s]; exact hv
  · rw [up_n _ _ hj]; exact h k j)
theorem CI.upc {S : ZS} (h : CI S) (k : Nat) (v : Int) (hv : cLo k ≤ v ∧ v ≤ cHi k) : CI (su S k (fun _ => v)) := h.put k (fun _ => hv)
/-- every cell of each row is within the row's bounds -/
def MI (S : ZS) : Prop := ∀ (k : Nat) (j : Int), mLo k ≤ S k j ∧ S k j ≤ mHi k
theorem MI.put {S : ZS} (h : MI S) (k : Nat) {g : Int → Int} (hg : ∀ j, mLo k ≤ g j ∧ g j ≤ mHi k) : MI (su S k g) := by
  intro q j
  by_cases hq : q = k
  · subst hq; rw [su_s]; exact hg j
  · rw [su_n _ _ hq]; exact h q j
theorem MI.up {S : ZS} (h : MI S) (k : Nat) (x v : Int) (hv : mLo k ≤ v ∧ v ≤ mHi k) : MI (su S k (up (S k) x v)) := h.put k (fun j => by
  by_cases hj : j = x
  · subst hj; rw [up_s]; exact hv
  · rw [up_n _ _ hj]; exact h k j)
theorem MI.upc {S : ZS} (h : MI S) (k : Nat) (v : Int) (hv : mLo k ≤ v ∧ v ≤ mHi k) : MI (su S k (fun _ => v)) := h.put k (fun _ => hv)
theorem CI.at {S : ZS} (h : CI S) (k : Nat) (n x : Int) (h0 : cLo k ≤ 0 ∧ 0 ≤ cHi k) : cLo k ≤ rAt n (S k) x ∧ rAt n (S k) x ≤ cHi k := by
  unfold rAt; split
  · exact h k x
  · exact h0
theorem CI.rput {S : ZS} (h : CI S) (k : Nat) (n x v : Int) (hv : cLo k ≤ v ∧ v ≤ cHi k) : CI (su S k (rPut n (S k) x v)) := by
  unfold rPut; split
  · exact h.up k x v hv
  · exact h.put k (h k)
def rFill (n : Int) (g : Int → Int) (v : Int) : Int → Int := fun j => if 0 ≤ j ∧ j < n then v else g j
theorem CI.rfill {S : ZS} (h : CI S) (k : Nat) (n v : Int) (hv : cLo k ≤ v ∧ v ≤ cHi k) : CI (su S k (rFill n (S k) v)) := h.put k (fun j => by
  unfold rFill; split
  · exact hv
  · exact h k j)
theorem zi_nat (n : Nat) : Int32.ofNat n = zi (n : Int) := by
  unfold zi; exact (Int32.ofInt_eq_ofNat).symm
theorem su_su (S : ZS) (k : Nat) (g g' : Int → Int) : su (su S k g) k g' = su S k g' := by
  funext j
  by_cases h : j = k
  · subst h; rw [su_s, su_s]
  · rw [su_n _ _ h, su_n _ _ h, su_n _ _ h]
/-- a world with the cells of one array named -/
def rW (ws : va_W) (j b : Nat) (cI : ClassId) (n : Nat) (g : Int → Int) : va_W := ws.set j (b, .inl (cI, n, .inl (zf g)))
theorem rW_o {ws : va_W} {i j b n : Nat} {cI : ClassId} {g : Int → Int} {q : Nat × va_E} (hi : ws[i]? = some q) (h : i ≠ j) : (rW ws j b cI n g)[i]? = some q := by
  rw [rW, List.getElem?_set_ne (Ne.symm h)]; exact hi
theorem rW_a {ws : va_W} {j b n : Nat} {cI : ClassId} {g : Int → Int} (h : j < ws.length) : (rW ws j b cI n g)[j]? = some (b, .inl (cI, n, .inl (zf g))) := by
  rw [rW, List.getElem?_set_self h]
theorem rW_s {ws : va_W} {j b n : Nat} {cI : ClassId} {g g' : Int → Int} : (rW ws j b cI n g).set j (b, .inl (cI, n, .inl (zf g'))) = rW ws j b cI n g' := by
  rw [rW, rW, List.set_set]
/-- a loop over j, n times: the state s by f -/
def itr {σ : Type} (f : Int → σ → σ) : Nat → Int → σ → σ
  | 0, _, s => s
  | n + 1, j, s => itr f n (j + 1) (f j s)
theorem itr_s {σ : Type} (f : Int → σ → σ) (n : Nat) (j : Int) (s : σ) : itr f (n + 1) j s = itr f n (j + 1) (f j s) := rfl
theorem itr_0 {σ : Type} (f : Int → σ → σ) (j : Int) (s : σ) : itr f 0 j s = s := rfl
theorem itr_inv {σ : Type} {f : Int → σ → σ} (P : Int → σ → Prop) (hs : ∀ (j : Int) (s : σ), P j s → P (j + 1) (f j s)) : ∀ (n : Nat) (j : Int) (s : σ), P j s → P (j + n) (itr f n j s) := by
  intro n
  induction n with
  | zero =>
    intro j s h
    rw [itr_0, show j + ((0 : Nat) : Int) = j by omega]
    exact h
  | succ n ih =>
    intro j s h
    have h1 := ih (j + 1) (f j s) (hs j s h)
    rw [itr_s]
    have e : j + ((n + 1 : Nat) : Int) = j + 1 + (n : Int) := by omega
    rw [e]; exact h1
end
section
theorem in_X5_at_5 : ∀ w ∈ wsX50, w ∈ wsX5_at := by decide +kernel
theorem lk_X5_at_7 : Cond.fieldLink RX5 7 "PlanetoidDesk$Row" "cells" "[I" ∈ wsX5_at := by decide +kernel
abbrev rmct_X5_at : Room := { frames := 0, cells := 0, slots := 0, locals := 0 }
set_option maxHeartbeats 4000000 in
set_option maxRecDepth 100000 in
theorem ct_X5_at (l : Launch) (D : va_G) (cI cZ cJ : ClassId) (ws : va_W) (h b i j n : Nat) (g : Int → Int) (x : Int) (hi : ws[i]? = some (h, .inr (5, [.ref b]))) (hj : ws[j]? = some (b, .inl (cI, n, .inl (zf g)))) (hn : n < 2147483648) (hx0 : ir x) : Met l yX5_at wsX5_at rmct_X5_at (zP D cI cZ cJ ws [.ref h, .int (zi x)]) (k2_QcV (.int (zi (rAt n g x)))) 0 0 (fun _ => False) := by
  refine Met.ofW (cc := cX5_at) (maxL := 2) (ret := (some .int)) (by decide) rfl ?_
  intro p e s m args below meth c s₁ B hml hv
  obtain ⟨rfl, hP, hK⟩ := hv
  have hx := B.exec
  have hb := B.bytes
  have hr := B.returns
  have hts := atoms_spec (ws := wsX5_at) B.pre
  have hown : s.vm.findClass RX5 = some m.cls := findClass_of_methodNamed B.named
  have hlocks := B.notSynchronized
  have hl := lv_entry ([.ref h, .int (zi x)]) (n := 2) (Nat.le_of_ble_eq_true rfl)
  rw [lg_entry_eq]
  generalize (lg_sl ([.ref h, .int (zi x)]) ++ List.replicate (2 - (lg_sl ([.ref h, .int (zi x)])).length) Slot.unset).toArray = ls at hl ⊢
  have hl : lv_has ls 2 [(0, .ref h), (1, .int (zi x))] := hl
  show W p l e rmct_X5_at s m ([.ref h, .int (zi x)] : List Value).toArray below meth c s.heap [] 0 0 (MQ below (k2_QcV (.int (zi (rAt n g x)))) ([.ref h, .int (zi x)] : List Value).toArray s 0 0 (fun _ => False)) (F0 m 0 ls [])
  refine lv_iload_n hx hb dX5_at_0 rfl (lv_at hl 1 rfl) ?_
  refine zi_if_lt (tgt := 22) hx hb ⟨by omega, by omega⟩ dX5_at_1 (by decide) (fun c_1 => ?_) (fun c_1 => ?_)
  · refine zi_iconst hx hb dX5_at_22 ?_
    exact zr_i hx hb hr hlocks dX5_at_23 (by first | exact (rAt_in (by omega) (by omega)).symm | exact (if_neg (by omega)).symm)
  · refine lv_iload_n hx hb dX5_at_4 rfl (lv_at hl 1 rfl) ?_
    refine lv_aload_n hx hb dX5_at_5 rfl (lv_at hl 0 rfl) ?_
    refine va_get (D := D) (ci := 5) (v := .ref b) (C := RX5) (T := TX5) (N := 1) hx hb hts in_X5_at_5 hown hK.1 hP i hi rfl 0 (by decide) (hts _ lk_X5_at_7) (fun _ h9 => h9) rfl dX5_at_6 ?_
    refine va_alen hx hb hK.1 hP j 0 hj rfl (v := zi n) (zi_nat n) dX5_at_9 ?_
    refine zi_icmp_ge (tgt := 22) hx hb ⟨by omega, by omega⟩ ⟨by omega, by omega⟩ dX5_at_10 (by decide) (fun c_10 => ?_) (fun c_10 => ?_)
    · refine zi_iconst hx hb dX5_at_22 ?_
      exact zr_i hx hb hr hlocks dX5_at_23 (by first | exact (rAt_in (by omega) (by omega)).symm | exact (if_neg (by omega)).symm)
    · refine lv_aload_n hx hb dX5_at_13 rfl (lv_at hl 0 rfl) ?_
      refine va_get (D := D) (ci := 5) (v := .ref b) (C := RX5) (T := TX5) (N := 1) hx hb hts in_X5_at_5 hown hK.1 hP i hi rfl 0 (by decide) (hts _ lk_X5_at_7) (fun _ h9 => h9) rfl dX5_at_14 ?_
      refine lv_iload_n hx hb dX5_at_17 rfl (lv_at hl 1 rfl) ?_
      refine zi_iald hx hb hK.1 hP j 0 hj rfl (by omega) (by omega) hn dX5_at_18 ?_
      refine lv_goto (tgt := 23) hx hb dX5_at_19 (by decide) ?_
      exact zr_i hx hb hr hlocks dX5_at_23 (by first | exact (rAt_in (by omega) (by omega)).symm | exact (if_neg (by omega)).symm)

theorem in_X5_put_5 : ∀ w ∈ wsX50, w ∈ wsX5_put := by decide +kernel
theorem lk_X5_put_7 : Cond.fieldLink RX5 7 "PlanetoidDesk$Row" "cells" "[I" ∈ wsX5_put := by decide +kernel
abbrev rmct_X5_put : Room := { frames := 0, cells := 0, slots := 0, locals := 0 }
set_option maxHeartbeats 4000000 in
set_option maxRecDepth 100000 in
theorem ct_X5_put (l : Launch) (D : va_G) (cI cZ cJ : ClassId) (ws : va_W) (A : Nat → Prop) (h b i j n : Nat) (g : Int → Int) (x v : Int) (hi : ws[i]? = some (h, .inr (5, [.ref b]))) (hj : j < ws.length) (hij : i ≠ j) (hD : ∀ g, va_D A (rW ws j b cI n g)) (hn : n < 2147483648) (hx0 : ir x) : Met l yX5_put wsX5_put rmct_X5_put (zP D cI cZ cJ (rW ws j b cI n g) [.ref h, .int (zi x), .int (zi v)]) (va_Qv (S := Int → Int) (fun g9 => g9 = rPut n g x v) (fun g9 t => va_P D vwCl (rW ws j b cI n g9) t.heap) A) 0 0 A := by
  refine Met.ofW (cc := cX5_put) (maxL := 3) (ret := none) (by decide) rfl ?_
  intro p e s m args below meth c s₁ B hml hv
  obtain ⟨rfl, hP, hK⟩ := hv
  have hx := B.exec
  have hb := B.bytes
  have hr := B.returns
  have hts := atoms_spec (ws := wsX5_put) B.pre
  have hown : s.vm.findClass RX5 = some m.cls := findClass_of_methodNamed B.named
  have hlocks := B.notSynchronized
  have hl := lv_entry ([.ref h, .int (zi x), .int (zi v)]) (n := 3) (Nat.le_of_ble_eq_true rfl)
  rw [lg_entry_eq]
  generalize (lg_sl ([.ref h, .int (zi x), .int (zi v)]) ++ List.replicate (3 - (lg_sl ([.ref h, .int (zi x), .int (zi v)])).length) Slot.unset).toArray = ls at hl ⊢
  have hl : lv_has ls 3 [(0, .ref h), (1, .int (zi x)), (2, .int (zi v))] := hl
  have hS : va_S A s.heap s.heap [] := va_S.rf
  show W p l e rmct_X5_put s m ([.ref h, .int (zi x), .int (zi v)] : List Value).toArray below meth c s.heap [] 0 0 (MQ below (va_Qv (S := Int → Int) (fun g9 => g9 = rPut n g x v) (fun g9 t => va_P D vwCl (rW ws j b cI n g9) t.heap) A) ([.ref h, .int (zi x), .int (zi v)] : List Value).toArray s 0 0 A) (F0 m 0 ls [])
  refine lv_iload_n hx hb dX5_put_0 rfl (lv_at hl 1 rfl) ?_
  refine zi_if_lt (tgt := 20) hx hb ⟨by omega, by omega⟩ dX5_put_1 (by decide) (fun c_1 => ?_) (fun c_1 => ?_)
  · exact W.vret hx hb hr (fun t ht _ => ⟨⟨_, rfl, rfl, by show va_P D vwCl (rW ws j b cI n (rPut n g x v)) t.heap; rw [ht]; first | (rw [rPut_in (by omega) (by omega)]; exact hP) | (rw [rPut, if_neg (by omega)]; exact hP)⟩, hS.F ht⟩) hS.2.2 dX5_put_20 hlocks
  · refine lv_iload_n hx hb dX5_put_4 rfl (lv_at hl 1 rfl) ?_
    refine lv_aload_n hx hb dX5_put_5 rfl (lv_at hl 0 rfl) ?_
    refine va_get (D := D) (ci := 5) (v := .ref b) (C := RX5) (T := TX5) (N := 1) hx hb hts in_X5_put_5 hown hK.1 hP i (rW_o hi hij) rfl 0 (by decide) (hts _ lk_X5_put_7) (fun _ h9 => h9) rfl dX5_put_6 ?_
    refine va_alen hx hb hK.1 hP j 0 (rW_a hj) rfl (v := zi n) (zi_nat n) dX5_put_9 ?_
    refine zi_icmp_ge (tgt := 20) hx hb ⟨by omega, by omega⟩ ⟨by omega, by omega⟩ dX5_put_10 (by decide) (fun c_10 => ?_) (fun c_10 => ?_)
    · exact W.vret hx hb hr (fun t ht _ => ⟨⟨_, rfl, rfl, by show va_P D vwCl (rW ws j b cI n (rPut n g x v)) t.heap; rw [ht]; first | (rw [rPut_in (by omega) (by omega)]; exact hP) | (rw [rPut, if_neg (by omega)]; exact hP)⟩, hS.F ht⟩) hS.2.2 dX5_put_20 hlocks
    · refine lv_aload_n hx hb dX5_put_13 rfl (lv_at hl 0 rfl) ?_
      refine va_get (D := D) (ci := 5) (v := .ref b) (C := RX5) (T := TX5) (N := 1) hx hb hts in_X5_put_5 hown hK.1 hP i (rW_o hi hij) rfl 0 (by decide) (hts _ lk_X5_put_7) (fun _ h9 => h9) rfl dX5_put_14 ?_
      refine lv_iload_n hx hb dX5_put_17 rfl (lv_at hl 1 rfl) ?_
      refine lv_iload_n hx hb dX5_put_18 rfl (lv_at hl 2 rfl) ?_
      refine zi_iast hx hb hK.1 hP (hD g) hS j 0 (rW_a hj) rfl (by omega) (by omega) hn dX5_put_19 (fun H locs hP hS => ?_)
      rw [rW_s] at hP
      exact W.vret hx hb hr (fun t ht _ => ⟨⟨_, rfl, rfl, by show va_P D vwCl (rW ws j b cI n (rPut n g x v)) t.heap; rw [ht]; first | (rw [rPut_in (by omega) (by omega)]; exact hP) | (rw [rPut, if_neg (by omega)]; exact hP)⟩, hS.F ht⟩) hS.2.2 dX5_put_20 hlocks

theorem in_X5_fill_5 : ∀ w ∈ wsX50, w ∈ wsX5_fill := by decide +kernel
theorem lk_X5_fill_7 : Cond.fieldLink RX5 7 "PlanetoidDesk$Row" "cells" "[I" ∈ wsX5_fill := by decide +kernel
abbrev rmct_X5_fill : Room := { frames := 0, cells := 0, slots := 0, locals := 0 }
set_option maxHeartbeats 4000000 in
set_option maxRecDepth 100000 in
theorem ct_X5_fill (l : Launch) (D : va_G) (cI cZ cJ : ClassId) (ws : va_W) (A : Nat → Prop) (h b i j n : Nat) (g : Int → Int) (v : Int) (hi : ws[i]? = some (h, .inr (5, [.ref b]))) (hj : j < ws.length) (hij : i ≠ j) (hD : ∀ g, va_D A (rW ws j b cI n g)) (hn : n < 2147483648) : Met l yX5_fill wsX5_fill rmct_X5_fill (zP D cI cZ cJ (rW ws j b cI n g) [.ref h, .int (zi v)]) (va_Qv (S := Int → Int) (fun g9 => g9 = rFill n g v) (fun g9 t => va_P D vwCl (rW ws j b cI n g9) t.heap) A) 0 0 A := by
  refine Met.ofW (cc := cX5_fill) (maxL := 3) (ret := none) (by decide) rfl ?_
  intro p e s m args below meth c s₁ B hml hv
  obtain ⟨rfl, hP, hK⟩ := hv
  have hx := B.exec
  have hb := B.bytes
  have hr := B.returns
  have hts := atoms_spec (ws := wsX5_fill) B.pre
  have hown : s.vm.findClass RX5 = some m.cls := findClass_of_methodNamed B.named
  have hlocks := B.notSynchronized
  have hl := lv_entry ([.ref h, .int (zi v)]) (n := 3) (Nat.le_of_ble_eq_true rfl)
  rw [lg_entry_eq]
  generalize (lg_sl ([.ref h, .int (zi v)]) ++ List.replicate (3 - (lg_sl ([.ref h, .int (zi v)])).length) Slot.unset).toArray = ls at hl ⊢
  have hl : lv_has ls 3 [(0, .ref h), (1, .int (zi v))] := hl
  have hS : va_S A s.heap s.heap [] := va_S.rf
  have K : ∀ (k : Nat) (i2 : Int) (g9 : Int → Int), 0 ≤ i2 → i2 ≤ (n : Int) → (g9 = fun q => if 0 ≤ q ∧ q < i2 then v else g q) → ((n : Int) - i2 < (k : Int)) → ∀ (H : Heap) (locs : List Loc), va_P D vwCl (rW ws j b cI n g9) H → va_S A s.heap H locs → ∀ (ls : Array Slot), lv_has ls 3 [(0, .ref h), (1, .int (zi v)), (2, .int (zi i2))] → W p l e rmct_X5_fill s m ([.ref h, .int (zi v)] : List Value).toArray below meth c H locs 0 0 (MQ below (va_Qv (S := Int → Int) (fun g9 => g9 = rFill n g v) (fun g9 t => va_P D vwCl (rW ws j b cI n g9) t.heap) A) ([.ref h, .int (zi v)] : List Value).toArray s 0 0 A) (F0 m 2 ls []) := by
    intro k
    induction k with
    | zero => intro i2 g9 h0 h1 hg hk; exact absurd hk (by omega)
    | succ k ih =>
      intro i2 g9 h0 h1 hg hk H locs hP hS ls hl
      refine lv_iload_n hx hb dX5_fill_2 rfl (lv_at hl 2 rfl) ?_
      refine lv_aload_n hx hb dX5_fill_3 rfl (lv_at hl 0 rfl) ?_
      refine va_get (D := D) (ci := 5) (v := .ref b) (C := RX5) (T := TX5) (N := 1) hx hb hts in_X5_fill_5 hown hK.1 hP i (rW_o hi hij) rfl 0 (by decide) (hts _ lk_X5_fill_7) (fun _ h9 => h9) rfl dX5_fill_4 ?_
      refine va_alen hx hb hK.1 hP j 0 (rW_a hj) rfl (v := zi n) (zi_nat n) dX5_fill_7 ?_
      refine zi_icmp_ge (tgt := 24) hx hb ⟨by omega, by omega⟩ ⟨by omega, by omega⟩ dX5_fill_8 (by decide) (fun c_8 => ?_) (fun c_8 => ?_)
      · have e2 : g9 = rFill n g v := by
          have e3 : i2 = (n : Int) := by omega
          rw [hg, e3]; rfl
        exact W.vret hx hb hr (fun t ht _ => ⟨⟨_, rfl, rfl, by show va_P D vwCl (rW ws j b cI n (rFill n g v)) t.heap; rw [ht, ← e2]; exact hP⟩, hS.F ht⟩) hS.2.2 dX5_fill_24 hlocks
      · refine lv_aload_n hx hb dX5_fill_11 rfl (lv_at hl 0 rfl) ?_
        refine va_get (D := D) (ci := 5) (v := .ref b) (C := RX5) (T := TX5) (N := 1) hx hb hts in_X5_fill_5 hown hK.1 hP i (rW_o hi hij) rfl 0 (by decide) (hts _ lk_X5_fill_7) (fun _ h9 => h9) rfl dX5_fill_12 ?_
        refine lv_iload_n hx hb dX5_fill_15 rfl (lv_at hl 2 rfl) ?_
        refine lv_iload_n hx hb dX5_fill_16 rfl (lv_at hl 1 rfl) ?_
        refine zi_iast hx hb hK.1 hP (hD g9) hS j 0 (rW_a hj) rfl (by omega) (by omega) hn dX5_fill_17 (fun H locs hP hS => ?_)
        rw [rW_s] at hP
        refine zi_iinc (k := 2) (lv' := [(2, .int (zi (i2 + 1))), (0, .ref h), (1, .int (zi v))]) hx hb dX5_fill_18 hl rfl (by decide) rfl (fun ls hl => ?_)
        refine lv_goto (tgt := 2) hx hb dX5_fill_21 (by decide) ?_
        exact ih (i2 + 1) (up g9 i2 v) (by omega) (by omega) (by
          funext q
          rw [hg]
          by_cases hq : q = i2
          · subst hq; rw [up_s, if_pos ⟨h0, by omega⟩]
          · rw [up_n _ _ hq]
            by_cases h3 : 0 ≤ q ∧ q < i2
            · rw [if_pos h3, if_pos ⟨h3.1, by omega⟩]
            · rw [if_neg h3, if_neg (by omega)]) (by omega) H locs hP hS ls (lv_sub hl [1, 2, 0] rfl)
  show W p l e rmct_X5_fill s m ([.ref h, .int (zi v)] : List Value).toArray below meth c s.heap [] 0 0 (MQ below (va_Qv (S := Int → Int) (fun g9 => g9 = rFill n g v) (fun g9 t => va_P D vwCl (rW ws j b cI n g9) t.heap) A) ([.ref h, .int (zi v)] : List Value).toArray s 0 0 A) (F0 m 0 ls [])
  refine zi_iconst hx hb dX5_fill_0 ?_
  refine lv_istore_n (lv' := [(2, .int (zi 0)), (0, .ref h), (1, .int (zi v))]) hx hb dX5_fill_1 rfl hl (by decide) rfl (fun ls hl => ?_)
  exact K (n + 1) 0 g (by omega) (by omega) (by funext q; rw [if_neg (by omega)]) (by omega) _ _ hP hS ls (lv_sub hl [1, 2, 0] rfl)
end
