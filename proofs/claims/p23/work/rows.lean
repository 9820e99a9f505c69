section
/-- a private method of a class that the tables say can be made, by its rows of tables_1 -/
def lw_okq (q : MethodName × Nat) : Prop := (q.1.cls ≠ "java/lang/invoke/MethodHandle" ∧ q.1.cls ≠ "java/lang/invoke/VarHandle") ∧ Cond.instantiable q.1.cls q.2 ∈ tables_1 ∧ Cond.privateMethod q.1 ∈ tables_1 ∧ Cond.instanceMethod q.1 ∈ tables_1
theorem lw_p0 : lw_okq (⟨"java/lang/Throwable", "fillInStackTrace", "(I)Ljava/lang/Throwable;"⟩, 6) := ⟨⟨by decide +kernel, by decide +kernel⟩, List.mem_of_getElem? (i := 258) (by decide +kernel), List.mem_of_getElem? (i := 256) (by decide +kernel), List.mem_of_getElem? (i := 257) (by decide +kernel)⟩
theorem lw_p1 : lw_okq (⟨"PlanetoidDesk", "findOrbits", "(I)V"⟩, 6) := ⟨⟨by decide +kernel, by decide +kernel⟩, List.mem_of_getElem? (i := 19) (by decide +kernel), List.mem_of_getElem? (i := 427) (by decide +kernel), List.mem_of_getElem? (i := 428) (by decide +kernel)⟩
theorem lw_p2 : lw_okq (⟨"PlanetoidDesk", "keepFitting", "(I)V"⟩, 6) := ⟨⟨by decide +kernel, by decide +kernel⟩, List.mem_of_getElem? (i := 19) (by decide +kernel), List.mem_of_getElem? (i := 436) (by decide +kernel), List.mem_of_getElem? (i := 437) (by decide +kernel)⟩
theorem lw_p3 : lw_okq (⟨"PlanetoidDesk", "gatherLooks", "(I)V"⟩, 6) := ⟨⟨by decide +kernel, by decide +kernel⟩, List.mem_of_getElem? (i := 19) (by decide +kernel), List.mem_of_getElem? (i := 440) (by decide +kernel), List.mem_of_getElem? (i := 441) (by decide +kernel)⟩
theorem lw_p4 : lw_okq (⟨"PlanetoidDesk$Orbits", "behind", "(II)I"⟩, 3) := ⟨⟨by decide +kernel, by decide +kernel⟩, List.mem_of_getElem? (i := 133) (by decide +kernel), List.mem_of_getElem? (i := 477) (by decide +kernel), List.mem_of_getElem? (i := 478) (by decide +kernel)⟩
theorem lw_p5 : lw_okq (⟨"PlanetoidDesk", "canTake", "(II)Z"⟩, 6) := ⟨⟨by decide +kernel, by decide +kernel⟩, List.mem_of_getElem? (i := 19) (by decide +kernel), List.mem_of_getElem? (i := 491) (by decide +kernel), List.mem_of_getElem? (i := 492) (by decide +kernel)⟩
theorem lw_p6 : lw_okq (⟨"PlanetoidDesk", "isSeenOn", "(II)Z"⟩, 6) := ⟨⟨by decide +kernel, by decide +kernel⟩, List.mem_of_getElem? (i := 19) (by decide +kernel), List.mem_of_getElem? (i := 503) (by decide +kernel), List.mem_of_getElem? (i := 504) (by decide +kernel)⟩
theorem lw_p7 : lw_okq (⟨"PlanetoidDesk", "countLooks", "(I)I"⟩, 6) := ⟨⟨by decide +kernel, by decide +kernel⟩, List.mem_of_getElem? (i := 19) (by decide +kernel), List.mem_of_getElem? (i := 513) (by decide +kernel), List.mem_of_getElem? (i := 514) (by decide +kernel)⟩
theorem lw_p8 : lw_okq (⟨"PlanetoidDesk", "canJoin", "(II)Z"⟩, 6) := ⟨⟨by decide +kernel, by decide +kernel⟩, List.mem_of_getElem? (i := 19) (by decide +kernel), List.mem_of_getElem? (i := 536) (by decide +kernel), List.mem_of_getElem? (i := 537) (by decide +kernel)⟩
theorem lw_p9 : lw_okq (⟨"PlanetoidDesk", "shareAPlate", "(II)Z"⟩, 6) := ⟨⟨by decide +kernel, by decide +kernel⟩, List.mem_of_getElem? (i := 19) (by decide +kernel), List.mem_of_getElem? (i := 544) (by decide +kernel), List.mem_of_getElem? (i := 545) (by decide +kernel)⟩
theorem lw_p10 : lw_okq (⟨"PlanetoidDesk", "isStronger", "(II)Z"⟩, 6) := ⟨⟨by decide +kernel, by decide +kernel⟩, List.mem_of_getElem? (i := 19) (by decide +kernel), List.mem_of_getElem? (i := 553) (by decide +kernel), List.mem_of_getElem? (i := 554) (by decide +kernel)⟩
theorem lw_p11 : lw_okq (⟨"PlanetoidDesk", "firstLookOf", "(I)I"⟩, 6) := ⟨⟨by decide +kernel, by decide +kernel⟩, List.mem_of_getElem? (i := 19) (by decide +kernel), List.mem_of_getElem? (i := 557) (by decide +kernel), List.mem_of_getElem? (i := 558) (by decide +kernel)⟩
theorem lw_p12 : lw_okq (⟨"PlanetoidDesk", "canGetNumber", "(I)Z"⟩, 6) := ⟨⟨by decide +kernel, by decide +kernel⟩, List.mem_of_getElem? (i := 19) (by decide +kernel), List.mem_of_getElem? (i := 588) (by decide +kernel), List.mem_of_getElem? (i := 589) (by decide +kernel)⟩
theorem lw_p13 : lw_okq (⟨"PlanetoidDesk", "isSeenLongEnough", "(I)Z"⟩, 6) := ⟨⟨by decide +kernel, by decide +kernel⟩, List.mem_of_getElem? (i := 19) (by decide +kernel), List.mem_of_getElem? (i := 592) (by decide +kernel), List.mem_of_getElem? (i := 593) (by decide +kernel)⟩
theorem lw_p14 : lw_okq (⟨"PlanetoidDesk$Orbits", "tallyPlaces", "(I)V"⟩, 3) := ⟨⟨by decide +kernel, by decide +kernel⟩, List.mem_of_getElem? (i := 133) (by decide +kernel), List.mem_of_getElem? (i := 603) (by decide +kernel), List.mem_of_getElem? (i := 604) (by decide +kernel)⟩
theorem lw_p15 : lw_okq (⟨"PlanetoidDesk$Orbits", "courseWith", "(II)I"⟩, 3) := ⟨⟨by decide +kernel, by decide +kernel⟩, List.mem_of_getElem? (i := 133) (by decide +kernel), List.mem_of_getElem? (i := 607) (by decide +kernel), List.mem_of_getElem? (i := 608) (by decide +kernel)⟩
def lw_privs_1 : List (MethodName × Nat) := [(⟨"java/lang/Throwable", "fillInStackTrace", "(I)Ljava/lang/Throwable;"⟩, 6), (⟨"PlanetoidDesk", "findOrbits", "(I)V"⟩, 6), (⟨"PlanetoidDesk", "keepFitting", "(I)V"⟩, 6), (⟨"PlanetoidDesk", "gatherLooks", "(I)V"⟩, 6), (⟨"PlanetoidDesk$Orbits", "behind", "(II)I"⟩, 3), (⟨"PlanetoidDesk", "canTake", "(II)Z"⟩, 6), (⟨"PlanetoidDesk", "isSeenOn", "(II)Z"⟩, 6), (⟨"PlanetoidDesk", "countLooks", "(I)I"⟩, 6), (⟨"PlanetoidDesk", "canJoin", "(II)Z"⟩, 6), (⟨"PlanetoidDesk", "shareAPlate", "(II)Z"⟩, 6), (⟨"PlanetoidDesk", "isStronger", "(II)Z"⟩, 6), (⟨"PlanetoidDesk", "firstLookOf", "(I)I"⟩, 6), (⟨"PlanetoidDesk", "canGetNumber", "(I)Z"⟩, 6), (⟨"PlanetoidDesk", "isSeenLongEnough", "(I)Z"⟩, 6), (⟨"PlanetoidDesk$Orbits", "tallyPlaces", "(I)V"⟩, 3), (⟨"PlanetoidDesk$Orbits", "courseWith", "(II)I"⟩, 3)]
theorem lw_r1 : ∀ q ∈ lw_privs_1, lw_okq q := List.forall_mem_cons.mpr ⟨lw_p0, List.forall_mem_cons.mpr ⟨lw_p1, List.forall_mem_cons.mpr ⟨lw_p2, List.forall_mem_cons.mpr ⟨lw_p3, List.forall_mem_cons.mpr ⟨lw_p4, List.forall_mem_cons.mpr ⟨lw_p5, List.forall_mem_cons.mpr ⟨lw_p6, List.forall_mem_cons.mpr ⟨lw_p7, List.forall_mem_cons.mpr ⟨lw_p8, List.forall_mem_cons.mpr ⟨lw_p9, List.forall_mem_cons.mpr ⟨lw_p10, List.forall_mem_cons.mpr ⟨lw_p11, List.forall_mem_cons.mpr ⟨lw_p12, List.forall_mem_cons.mpr ⟨lw_p13, List.forall_mem_cons.mpr ⟨lw_p14, List.forall_mem_cons.mpr ⟨lw_p15, fun _ h => absurd h List.not_mem_nil⟩⟩⟩⟩⟩⟩⟩⟩⟩⟩⟩⟩⟩⟩⟩⟩
theorem lw_p16 : lw_okq (⟨"PlanetoidDesk", "countPlacesLeft", "(I)I"⟩, 6) := ⟨⟨by decide +kernel, by decide +kernel⟩, List.mem_of_getElem? (i := 19) (by decide +kernel), List.mem_of_getElem? (i := 648) (by decide +kernel), List.mem_of_getElem? (i := 649) (by decide +kernel)⟩
theorem lw_p17 : lw_okq (⟨"PlanetoidDesk", "leastAOf", "(II)I"⟩, 6) := ⟨⟨by decide +kernel, by decide +kernel⟩, List.mem_of_getElem? (i := 19) (by decide +kernel), List.mem_of_getElem? (i := 652) (by decide +kernel), List.mem_of_getElem? (i := 653) (by decide +kernel)⟩
theorem lw_p18 : lw_okq (⟨"PlanetoidDesk$Paths", "makeGroups", "(II)V"⟩, 5) := ⟨⟨by decide +kernel, by decide +kernel⟩, List.mem_of_getElem? (i := 151) (by decide +kernel), List.mem_of_getElem? (i := 717) (by decide +kernel), List.mem_of_getElem? (i := 718) (by decide +kernel)⟩
theorem lw_p19 : lw_okq (⟨"PlanetoidDesk$Paths", "countCourse", "(LPlanetoidDesk$Orbits;IIII)V"⟩, 5) := ⟨⟨by decide +kernel, by decide +kernel⟩, List.mem_of_getElem? (i := 151) (by decide +kernel), List.mem_of_getElem? (i := 732) (by decide +kernel), List.mem_of_getElem? (i := 733) (by decide +kernel)⟩
theorem lw_p20 : lw_okq (⟨"PlanetoidDesk$Kinship", "spreadLowest", "(LPlanetoidDesk$Bodies;I)V"⟩, 1) := ⟨⟨by decide +kernel, by decide +kernel⟩, List.mem_of_getElem? (i := 177) (by decide +kernel), List.mem_of_getElem? (i := 760) (by decide +kernel), List.mem_of_getElem? (i := 761) (by decide +kernel)⟩
theorem lw_p21 : lw_okq (⟨"PlanetoidDesk", "faultOf", "(I)I"⟩, 6) := ⟨⟨by decide +kernel, by decide +kernel⟩, List.mem_of_getElem? (i := 19) (by decide +kernel), List.mem_of_getElem? (i := 800) (by decide +kernel), List.mem_of_getElem? (i := 801) (by decide +kernel)⟩
theorem lw_p22 : lw_okq (⟨"PlanetoidDesk", "lightRange", "(II)I"⟩, 6) := ⟨⟨by decide +kernel, by decide +kernel⟩, List.mem_of_getElem? (i := 19) (by decide +kernel), List.mem_of_getElem? (i := 804) (by decide +kernel), List.mem_of_getElem? (i := 805) (by decide +kernel)⟩
theorem lw_p23 : lw_okq (⟨"PlanetoidDeskModel", "can", "(I)Z"⟩, 32) := ⟨⟨by decide +kernel, by decide +kernel⟩, List.mem_of_getElem? (i := 808) (by decide +kernel), List.mem_of_getElem? (i := 923) (by decide +kernel), List.mem_of_getElem? (i := 924) (by decide +kernel)⟩
theorem lw_p24 : lw_okq (⟨"PlanetoidDeskModel", "isDot", "(I)Z"⟩, 32) := ⟨⟨by decide +kernel, by decide +kernel⟩, List.mem_of_getElem? (i := 808) (by decide +kernel), List.mem_of_getElem? (i := 946) (by decide +kernel), List.mem_of_getElem? (i := 947) (by decide +kernel)⟩
theorem lw_p25 : lw_okq (⟨"PlanetoidDeskModel", "nightOf", "(I)I"⟩, 32) := ⟨⟨by decide +kernel, by decide +kernel⟩, List.mem_of_getElem? (i := 808) (by decide +kernel), List.mem_of_getElem? (i := 950) (by decide +kernel), List.mem_of_getElem? (i := 951) (by decide +kernel)⟩
theorem lw_p26 : lw_okq (⟨"PlanetoidDeskModel", "trueOf", "(I)I"⟩, 32) := ⟨⟨by decide +kernel, by decide +kernel⟩, List.mem_of_getElem? (i := 808) (by decide +kernel), List.mem_of_getElem? (i := 954) (by decide +kernel), List.mem_of_getElem? (i := 955) (by decide +kernel)⟩
theorem lw_p27 : lw_okq (⟨"PlanetoidDeskModel", "isBody", "(I)Z"⟩, 32) := ⟨⟨by decide +kernel, by decide +kernel⟩, List.mem_of_getElem? (i := 808) (by decide +kernel), List.mem_of_getElem? (i := 969) (by decide +kernel), List.mem_of_getElem? (i := 970) (by decide +kernel)⟩
theorem lw_p28 : lw_okq (⟨"PlanetoidDeskModel", "canLink", "(II)Z"⟩, 32) := ⟨⟨by decide +kernel, by decide +kernel⟩, List.mem_of_getElem? (i := 808) (by decide +kernel), List.mem_of_getElem? (i := 973) (by decide +kernel), List.mem_of_getElem? (i := 974) (by decide +kernel)⟩
theorem lw_p29 : lw_okq (⟨"PlanetoidDeskModel", "lays", "(I)V"⟩, 32) := ⟨⟨by decide +kernel, by decide +kernel⟩, List.mem_of_getElem? (i := 808) (by decide +kernel), List.mem_of_getElem? (i := 977) (by decide +kernel), List.mem_of_getElem? (i := 978) (by decide +kernel)⟩
theorem lw_p30 : lw_okq (⟨"PlanetoidDeskModel", "laysAlso", "(I)V"⟩, 32) := ⟨⟨by decide +kernel, by decide +kernel⟩, List.mem_of_getElem? (i := 808) (by decide +kernel), List.mem_of_getElem? (i := 981) (by decide +kernel), List.mem_of_getElem? (i := 982) (by decide +kernel)⟩
theorem lw_p31 : lw_okq (⟨"PlanetoidDeskModel", "isBelow", "(II)Z"⟩, 32) := ⟨⟨by decide +kernel, by decide +kernel⟩, List.mem_of_getElem? (i := 808) (by decide +kernel), List.mem_of_getElem? (i := 985) (by decide +kernel), List.mem_of_getElem? (i := 986) (by decide +kernel)⟩
def lw_privs_2 : List (MethodName × Nat) := [(⟨"PlanetoidDesk", "countPlacesLeft", "(I)I"⟩, 6), (⟨"PlanetoidDesk", "leastAOf", "(II)I"⟩, 6), (⟨"PlanetoidDesk$Paths", "makeGroups", "(II)V"⟩, 5), (⟨"PlanetoidDesk$Paths", "countCourse", "(LPlanetoidDesk$Orbits;IIII)V"⟩, 5), (⟨"PlanetoidDesk$Kinship", "spreadLowest", "(LPlanetoidDesk$Bodies;I)V"⟩, 1), (⟨"PlanetoidDesk", "faultOf", "(I)I"⟩, 6), (⟨"PlanetoidDesk", "lightRange", "(II)I"⟩, 6), (⟨"PlanetoidDeskModel", "can", "(I)Z"⟩, 32), (⟨"PlanetoidDeskModel", "isDot", "(I)Z"⟩, 32), (⟨"PlanetoidDeskModel", "nightOf", "(I)I"⟩, 32), (⟨"PlanetoidDeskModel", "trueOf", "(I)I"⟩, 32), (⟨"PlanetoidDeskModel", "isBody", "(I)Z"⟩, 32), (⟨"PlanetoidDeskModel", "canLink", "(II)Z"⟩, 32), (⟨"PlanetoidDeskModel", "lays", "(I)V"⟩, 32), (⟨"PlanetoidDeskModel", "laysAlso", "(I)V"⟩, 32), (⟨"PlanetoidDeskModel", "isBelow", "(II)Z"⟩, 32)]
theorem lw_r2 : ∀ q ∈ lw_privs_2, lw_okq q := List.forall_mem_cons.mpr ⟨lw_p16, List.forall_mem_cons.mpr ⟨lw_p17, List.forall_mem_cons.mpr ⟨lw_p18, List.forall_mem_cons.mpr ⟨lw_p19, List.forall_mem_cons.mpr ⟨lw_p20, List.forall_mem_cons.mpr ⟨lw_p21, List.forall_mem_cons.mpr ⟨lw_p22, List.forall_mem_cons.mpr ⟨lw_p23, List.forall_mem_cons.mpr ⟨lw_p24, List.forall_mem_cons.mpr ⟨lw_p25, List.forall_mem_cons.mpr ⟨lw_p26, List.forall_mem_cons.mpr ⟨lw_p27, List.forall_mem_cons.mpr ⟨lw_p28, List.forall_mem_cons.mpr ⟨lw_p29, List.forall_mem_cons.mpr ⟨lw_p30, List.forall_mem_cons.mpr ⟨lw_p31, fun _ h => absurd h List.not_mem_nil⟩⟩⟩⟩⟩⟩⟩⟩⟩⟩⟩⟩⟩⟩⟩⟩
theorem lw_p32 : lw_okq (⟨"PlanetoidDeskModel", "isOnPlate", "(II)Z"⟩, 32) := ⟨⟨by decide +kernel, by decide +kernel⟩, List.mem_of_getElem? (i := 808) (by decide +kernel), List.mem_of_getElem? (i := 989) (by decide +kernel), List.mem_of_getElem? (i := 990) (by decide +kernel)⟩
theorem lw_p33 : lw_okq (⟨"PlanetoidDeskModel", "hasOrbit", "()Z"⟩, 32) := ⟨⟨by decide +kernel, by decide +kernel⟩, List.mem_of_getElem? (i := 808) (by decide +kernel), List.mem_of_getElem? (i := 993) (by decide +kernel), List.mem_of_getElem? (i := 994) (by decide +kernel)⟩
theorem lw_p34 : lw_okq (⟨"PlanetoidDeskModel", "finds", "()V"⟩, 32) := ⟨⟨by decide +kernel, by decide +kernel⟩, List.mem_of_getElem? (i := 808) (by decide +kernel), List.mem_of_getElem? (i := 997) (by decide +kernel), List.mem_of_getElem? (i := 998) (by decide +kernel)⟩
theorem lw_p35 : lw_okq (⟨"PlanetoidDeskModel", "errorOf", "(I)I"⟩, 32) := ⟨⟨by decide +kernel, by decide +kernel⟩, List.mem_of_getElem? (i := 808) (by decide +kernel), List.mem_of_getElem? (i := 1001) (by decide +kernel), List.mem_of_getElem? (i := 1002) (by decide +kernel)⟩
theorem lw_p36 : lw_okq (⟨"PlanetoidDeskModel", "fits", "(III)Z"⟩, 32) := ⟨⟨by decide +kernel, by decide +kernel⟩, List.mem_of_getElem? (i := 808) (by decide +kernel), List.mem_of_getElem? (i := 1008) (by decide +kernel), List.mem_of_getElem? (i := 1009) (by decide +kernel)⟩
theorem lw_p37 : lw_okq (⟨"PlanetoidDeskModel", "ownOf", "(I)I"⟩, 32) := ⟨⟨by decide +kernel, by decide +kernel⟩, List.mem_of_getElem? (i := 808) (by decide +kernel), List.mem_of_getElem? (i := 1022) (by decide +kernel), List.mem_of_getElem? (i := 1023) (by decide +kernel)⟩
theorem lw_p38 : lw_okq (⟨"PlanetoidDeskModel", "canJoin", "(II)Z"⟩, 32) := ⟨⟨by decide +kernel, by decide +kernel⟩, List.mem_of_getElem? (i := 808) (by decide +kernel), List.mem_of_getElem? (i := 1030) (by decide +kernel), List.mem_of_getElem? (i := 1031) (by decide +kernel)⟩
theorem lw_p39 : lw_okq (⟨"PlanetoidDeskModel", "stronger", "(II)I"⟩, 32) := ⟨⟨by decide +kernel, by decide +kernel⟩, List.mem_of_getElem? (i := 808) (by decide +kernel), List.mem_of_getElem? (i := 1034) (by decide +kernel), List.mem_of_getElem? (i := 1035) (by decide +kernel)⟩
theorem lw_p40 : lw_okq (⟨"PlanetoidDeskModel", "firstOf", "(I)I"⟩, 32) := ⟨⟨by decide +kernel, by decide +kernel⟩, List.mem_of_getElem? (i := 808) (by decide +kernel), List.mem_of_getElem? (i := 1038) (by decide +kernel), List.mem_of_getElem? (i := 1039) (by decide +kernel)⟩
theorem lw_p41 : lw_okq (⟨"PlanetoidDeskModel", "latest", "(I)I"⟩, 32) := ⟨⟨by decide +kernel, by decide +kernel⟩, List.mem_of_getElem? (i := 808) (by decide +kernel), List.mem_of_getElem? (i := 1046) (by decide +kernel), List.mem_of_getElem? (i := 1047) (by decide +kernel)⟩
theorem lw_p42 : lw_okq (⟨"PlanetoidDeskModel", "canNumber", "(I)Z"⟩, 32) := ⟨⟨by decide +kernel, by decide +kernel⟩, List.mem_of_getElem? (i := 808) (by decide +kernel), List.mem_of_getElem? (i := 1054) (by decide +kernel), List.mem_of_getElem? (i := 1055) (by decide +kernel)⟩
theorem lw_p43 : lw_okq (⟨"PlanetoidDeskModel", "looksOf", "(I)I"⟩, 32) := ⟨⟨by decide +kernel, by decide +kernel⟩, List.mem_of_getElem? (i := 808) (by decide +kernel), List.mem_of_getElem? (i := 1062) (by decide +kernel), List.mem_of_getElem? (i := 1063) (by decide +kernel)⟩
theorem lw_p44 : lw_okq (⟨"PlanetoidDeskModel", "joinedTo", "(I)I"⟩, 32) := ⟨⟨by decide +kernel, by decide +kernel⟩, List.mem_of_getElem? (i := 808) (by decide +kernel), List.mem_of_getElem? (i := 1066) (by decide +kernel), List.mem_of_getElem? (i := 1067) (by decide +kernel)⟩
theorem lw_p45 : lw_okq (⟨"PlanetoidDeskModel", "orbitsOf", "(I)I"⟩, 32) := ⟨⟨by decide +kernel, by decide +kernel⟩, List.mem_of_getElem? (i := 808) (by decide +kernel), List.mem_of_getElem? (i := 1074) (by decide +kernel), List.mem_of_getElem? (i := 1075) (by decide +kernel)⟩
theorem lw_p46 : lw_okq (⟨"PlanetoidDeskModel", "keyAt", "(I)I"⟩, 32) := ⟨⟨by decide +kernel, by decide +kernel⟩, List.mem_of_getElem? (i := 808) (by decide +kernel), List.mem_of_getElem? (i := 1086) (by decide +kernel), List.mem_of_getElem? (i := 1087) (by decide +kernel)⟩
theorem lw_p47 : lw_okq (⟨"PlanetoidDeskModel", "spreadOf", "(II)I"⟩, 32) := ⟨⟨by decide +kernel, by decide +kernel⟩, List.mem_of_getElem? (i := 808) (by decide +kernel), List.mem_of_getElem? (i := 1095) (by decide +kernel), List.mem_of_getElem? (i := 1096) (by decide +kernel)⟩
def lw_privs_3 : List (MethodName × Nat) := [(⟨"PlanetoidDeskModel", "isOnPlate", "(II)Z"⟩, 32), (⟨"PlanetoidDeskModel", "hasOrbit", "()Z"⟩, 32), (⟨"PlanetoidDeskModel", "finds", "()V"⟩, 32), (⟨"PlanetoidDeskModel", "errorOf", "(I)I"⟩, 32), (⟨"PlanetoidDeskModel", "fits", "(III)Z"⟩, 32), (⟨"PlanetoidDeskModel", "ownOf", "(I)I"⟩, 32), (⟨"PlanetoidDeskModel", "canJoin", "(II)Z"⟩, 32), (⟨"PlanetoidDeskModel", "stronger", "(II)I"⟩, 32), (⟨"PlanetoidDeskModel", "firstOf", "(I)I"⟩, 32), (⟨"PlanetoidDeskModel", "latest", "(I)I"⟩, 32), (⟨"PlanetoidDeskModel", "canNumber", "(I)Z"⟩, 32), (⟨"PlanetoidDeskModel", "looksOf", "(I)I"⟩, 32), (⟨"PlanetoidDeskModel", "joinedTo", "(I)I"⟩, 32), (⟨"PlanetoidDeskModel", "orbitsOf", "(I)I"⟩, 32), (⟨"PlanetoidDeskModel", "keyAt", "(I)I"⟩, 32), (⟨"PlanetoidDeskModel", "spreadOf", "(II)I"⟩, 32)]
theorem lw_r3 : ∀ q ∈ lw_privs_3, lw_okq q := List.forall_mem_cons.mpr ⟨lw_p32, List.forall_mem_cons.mpr ⟨lw_p33, List.forall_mem_cons.mpr ⟨lw_p34, List.forall_mem_cons.mpr ⟨lw_p35, List.forall_mem_cons.mpr ⟨lw_p36, List.forall_mem_cons.mpr ⟨lw_p37, List.forall_mem_cons.mpr ⟨lw_p38, List.forall_mem_cons.mpr ⟨lw_p39, List.forall_mem_cons.mpr ⟨lw_p40, List.forall_mem_cons.mpr ⟨lw_p41, List.forall_mem_cons.mpr ⟨lw_p42, List.forall_mem_cons.mpr ⟨lw_p43, List.forall_mem_cons.mpr ⟨lw_p44, List.forall_mem_cons.mpr ⟨lw_p45, List.forall_mem_cons.mpr ⟨lw_p46, List.forall_mem_cons.mpr ⟨lw_p47, fun _ h => absurd h List.not_mem_nil⟩⟩⟩⟩⟩⟩⟩⟩⟩⟩⟩⟩⟩⟩⟩⟩
theorem lw_p48 : lw_okq (⟨"PlanetoidDeskModel", "spreads", "(II)V"⟩, 32) := ⟨⟨by decide +kernel, by decide +kernel⟩, List.mem_of_getElem? (i := 808) (by decide +kernel), List.mem_of_getElem? (i := 1099) (by decide +kernel), List.mem_of_getElem? (i := 1100) (by decide +kernel)⟩
theorem lw_p49 : lw_okq (⟨"PlanetoidDeskModel", "placeBy", "(II)I"⟩, 32) := ⟨⟨by decide +kernel, by decide +kernel⟩, List.mem_of_getElem? (i := 808) (by decide +kernel), List.mem_of_getElem? (i := 1103) (by decide +kernel), List.mem_of_getElem? (i := 1104) (by decide +kernel)⟩
theorem lw_p50 : lw_okq (⟨"PlanetoidDeskModel", "placeAt", "(III)I"⟩, 32) := ⟨⟨by decide +kernel, by decide +kernel⟩, List.mem_of_getElem? (i := 808) (by decide +kernel), List.mem_of_getElem? (i := 1111) (by decide +kernel), List.mem_of_getElem? (i := 1112) (by decide +kernel)⟩
theorem lw_p51 : lw_okq (⟨"PlanetoidDeskModel", "candidatesOf", "(I)I"⟩, 32) := ⟨⟨by decide +kernel, by decide +kernel⟩, List.mem_of_getElem? (i := 808) (by decide +kernel), List.mem_of_getElem? (i := 1119) (by decide +kernel), List.mem_of_getElem? (i := 1120) (by decide +kernel)⟩
theorem lw_p52 : lw_okq (⟨"PlanetoidDeskModel", "chanceOf", "(IIIZ)I"⟩, 32) := ⟨⟨by decide +kernel, by decide +kernel⟩, List.mem_of_getElem? (i := 808) (by decide +kernel), List.mem_of_getElem? (i := 1127) (by decide +kernel), List.mem_of_getElem? (i := 1128) (by decide +kernel)⟩
theorem lw_p53 : lw_okq (⟨"PlanetoidDeskModel", "paths", "(II)I"⟩, 32) := ⟨⟨by decide +kernel, by decide +kernel⟩, List.mem_of_getElem? (i := 808) (by decide +kernel), List.mem_of_getElem? (i := 1131) (by decide +kernel), List.mem_of_getElem? (i := 1132) (by decide +kernel)⟩
theorem lw_p54 : lw_okq (⟨"PlanetoidDeskModel", "isNear", "(III)Z"⟩, 32) := ⟨⟨by decide +kernel, by decide +kernel⟩, List.mem_of_getElem? (i := 808) (by decide +kernel), List.mem_of_getElem? (i := 1135) (by decide +kernel), List.mem_of_getElem? (i := 1136) (by decide +kernel)⟩
theorem lw_p55 : lw_okq (⟨"PlanetoidDeskModel", "reaches", "(I)V"⟩, 32) := ⟨⟨by decide +kernel, by decide +kernel⟩, List.mem_of_getElem? (i := 808) (by decide +kernel), List.mem_of_getElem? (i := 1146) (by decide +kernel), List.mem_of_getElem? (i := 1147) (by decide +kernel)⟩
theorem lw_p56 : lw_okq (⟨"PlanetoidDeskModel", "areAkin", "(III)Z"⟩, 32) := ⟨⟨by decide +kernel, by decide +kernel⟩, List.mem_of_getElem? (i := 808) (by decide +kernel), List.mem_of_getElem? (i := 1150) (by decide +kernel), List.mem_of_getElem? (i := 1151) (by decide +kernel)⟩
theorem lw_p57 : lw_okq (⟨"PlanetoidDeskModel", "familyOf", "(II)I"⟩, 32) := ⟨⟨by decide +kernel, by decide +kernel⟩, List.mem_of_getElem? (i := 808) (by decide +kernel), List.mem_of_getElem? (i := 1158) (by decide +kernel), List.mem_of_getElem? (i := 1159) (by decide +kernel)⟩
theorem lw_p58 : lw_okq (⟨"PlanetoidDeskModel", "turnOf", "(IZ)I"⟩, 32) := ⟨⟨by decide +kernel, by decide +kernel⟩, List.mem_of_getElem? (i := 808) (by decide +kernel), List.mem_of_getElem? (i := 1166) (by decide +kernel), List.mem_of_getElem? (i := 1167) (by decide +kernel)⟩
theorem lw_p59 : lw_okq (⟨"PlanetoidDeskModel", "fault", "(I)I"⟩, 32) := ⟨⟨by decide +kernel, by decide +kernel⟩, List.mem_of_getElem? (i := 808) (by decide +kernel), List.mem_of_getElem? (i := 1170) (by decide +kernel), List.mem_of_getElem? (i := 1171) (by decide +kernel)⟩
def lw_privs_4 : List (MethodName × Nat) := [(⟨"PlanetoidDeskModel", "spreads", "(II)V"⟩, 32), (⟨"PlanetoidDeskModel", "placeBy", "(II)I"⟩, 32), (⟨"PlanetoidDeskModel", "placeAt", "(III)I"⟩, 32), (⟨"PlanetoidDeskModel", "candidatesOf", "(I)I"⟩, 32), (⟨"PlanetoidDeskModel", "chanceOf", "(IIIZ)I"⟩, 32), (⟨"PlanetoidDeskModel", "paths", "(II)I"⟩, 32), (⟨"PlanetoidDeskModel", "isNear", "(III)Z"⟩, 32), (⟨"PlanetoidDeskModel", "reaches", "(I)V"⟩, 32), (⟨"PlanetoidDeskModel", "areAkin", "(III)Z"⟩, 32), (⟨"PlanetoidDeskModel", "familyOf", "(II)I"⟩, 32), (⟨"PlanetoidDeskModel", "turnOf", "(IZ)I"⟩, 32), (⟨"PlanetoidDeskModel", "fault", "(I)I"⟩, 32)]
theorem lw_r4 : ∀ q ∈ lw_privs_4, lw_okq q := List.forall_mem_cons.mpr ⟨lw_p48, List.forall_mem_cons.mpr ⟨lw_p49, List.forall_mem_cons.mpr ⟨lw_p50, List.forall_mem_cons.mpr ⟨lw_p51, List.forall_mem_cons.mpr ⟨lw_p52, List.forall_mem_cons.mpr ⟨lw_p53, List.forall_mem_cons.mpr ⟨lw_p54, List.forall_mem_cons.mpr ⟨lw_p55, List.forall_mem_cons.mpr ⟨lw_p56, List.forall_mem_cons.mpr ⟨lw_p57, List.forall_mem_cons.mpr ⟨lw_p58, List.forall_mem_cons.mpr ⟨lw_p59, fun _ h => absurd h List.not_mem_nil⟩⟩⟩⟩⟩⟩⟩⟩⟩⟩⟩⟩
def lw_privs : List (MethodName × Nat) := lw_privs_1 ++ (lw_privs_2 ++ (lw_privs_3 ++ (lw_privs_4)))
def lw_tbl : List Cond := k2_sels lw_privs ++ tables_1
theorem lw_privs_ok : ∀ q ∈ lw_privs, lw_okq q := by
  show ∀ q ∈ lw_privs_1 ++ (lw_privs_2 ++ (lw_privs_3 ++ (lw_privs_4))), lw_okq q
  exact List.forall_mem_append.mpr ⟨lw_r1, List.forall_mem_append.mpr ⟨lw_r2, List.forall_mem_append.mpr ⟨lw_r3, lw_r4⟩⟩⟩
end
section
/-! ===== BEGIN words of one list among another's, by their places ===== -/
theorem goodIn_r {big : List Cond} (ws : List Cond) (ps : List Nat) (hp : ws = ps.filterMap (fun i => big[i]?)) (h : ws.all goodWord = true) : GoodIn big ws := by
  intro w hw
  have h1 := List.all_eq_true.mp h w hw
  rw [hp] at hw
  obtain ⟨i, -, hi⟩ := List.mem_filterMap.mp hw
  have hm : w ∈ big := by first | exact List.mem_of_getElem? hi | exact List.getElem?_mem hi
  exact ⟨hm, good_of_word h1⟩
theorem goodIn_app {big a b : List Cond} (ha : GoodIn big a) (hb : GoodIn big b) : GoodIn big (a ++ b) := fun w h => (List.mem_append.mp h).elim (ha w) (hb w)
/-! ===== END ===== -/
/-! ===== BEGIN exceptions that leave a method, and their catching by the caller (launches without stack traces) ===== -/
section VXA
/-! The laws vx_back, vx_callV, vx_callS, vx_callSW, vx_throw0, vx_throwS follow proofs of the library, with one case more: JvmDerived/Free/Laws.lean (Back.of_free), Shelf42/LK1.lean (callV, callS), Shelf/KitTraced.lean (throwNew0V, throwNewS). -/
section Payer
variable {l : Launch} {R : Room} {p : Program} {e : Env} {below : List Frame} {s : State} {sargs : Array Value} {y : MethodName} {len W9 : Nat}
end Payer
section Calls
variable {p : Program} {l : Launch} {e : Env} {R : Room} {s : State} {m : MethodId} {args : Array Value} {below : List Frame} {meth : Method} {c : Code} {T : State} {locs : List Loc} {cells slots : Nat}
end Calls
section Runs
variable {p : Program} {l : Launch} {e : Env} {R : Room} {s : State} {m : MethodId} {args : Array Value} {below : List Frame} {meth : Method} {c : Code} {H : Heap} {locs : List Loc} {cells slots : Nat}
variable {y : MethodName} {bytes cc : ByteArray} {maxL nL mc ms n index : Nat} {ret : Option FieldType} {ws : List Cond} {rm : Room} {Pc : Array Value → State → Prop} {Qc : Array Value → State → Outcome → State → Prop} {XC : String → State → State → Prop} {free : Addr → Prop} {Ts : List Cond} {own C : String} {b : Addr} {As rest : List Value} {g : JFrame}
end Runs
section Rows
variable {p : Program} {l : Launch} {e : Env} {R : Room} {s : State} {m : MethodId} {args : Array Value} {below : List Frame} {meth : Method} {c : Code} {H : Heap} {locs : List Loc} {cells slots : Nat} {Q : State → Prop}
variable {mc ms : Nat} {free : Addr → Prop} {A0 A1 : Nat → Prop} {H0 : Heap} {a : Array Value} {pc : Nat} {ls : Array Slot} {st0 rest : List Value}
end Rows
section Ends
variable {p : Program} {l : Launch} {e : Env} {R : Room} {s : State} {m : MethodId} {args : Array Value} {below : List Frame} {meth : Method} {c : Code} {H : Heap} {locs : List Loc} {cells slots : Nat} {Q : State → Prop}
variable {mc ms : Nat} {free : Addr → Prop} {A0 A1 : Nat → Prop} {H0 : Heap} {a : Array Value} {ls : Array Slot} {st0 rest : List Value}
variable {Qc : Array Value → State → Outcome → State → Prop} {XC : String → State → State → Prop}
/-- the words of a throw but the four that speak of the heap -/
def vx_no (w : Cond) : Bool := decide (w ≠ .isRef (.static Bundle.tN "UNASSIGNED_STACK" Bundle.steD)) && decide (w ≠ .isRef (.static Bundle.tN "SUPPRESSED_SENTINEL" Bundle.listD)) && decide (w ≠ .laysStatic Bundle.tN "UNASSIGNED_STACK" Bundle.steD) && decide (w ≠ .laysStatic Bundle.tN "SUPPRESSED_SENTINEL" Bundle.listD)
def vx_atS (own : String) (ic : Nat) (X : String) (names : List String) : List Cond := (Bundle.ownAtoms own ic X names).filter vx_no
/-- where a static field lies, its class's statics cell in H -/
def vx_L (C n d : String) (A : Nat → Prop) (U : State) (H : Heap) : Prop := ∃ (c : ClassId) (k : Class) (i : Nat) (f : Field) (a : Nat) (cell : Cell), U.vm.findClass C = some c ∧ U.fieldFound? C n d = some (c, k, i, f) ∧ f.isStatic = true ∧ k.statics = some a ∧ H[a]? = some cell ∧ cell.vm.isStatics = true ∧ cell.cls = c ∧ f.slot < cell.slots.size ∧ k.staticTypes[f.slot]? = some f.type ∧ ¬ A a
theorem vx_L.moved {C n d : String} {A : Nat → Prop} {u U : State} {H : Heap} (hvm : u.vm.Alike U.vm) (h : vx_L C n d A u H) : vx_L C n d A U H := by
  obtain ⟨c, k, i, f, a, cell, h1, h2, h3, h4, h5, h6, h7, h8, h9, h10⟩ := h
  obtain ⟨k', hi', he⟩ := State.fieldFound?_setVm hvm h2
  exact ⟨c, k', i, f, a, cell, by rw [hvm.findClass]; exact h1, hi', h3, by rw [he]; exact h4, h5, h6, h7, h8, by rw [he]; exact h9, h10⟩
theorem vx_L.kept {C n d : String} {A : Nat → Prop} {U : State} {H H1 : Heap} (h : vx_L C n d A U H) (hq : ∀ a : Nat, a < H.size → ¬ A a → H1[a]? = H[a]?) : vx_L C n d A U H1 := by
  obtain ⟨c, k, i, f, a, cell, h1, h2, h3, h4, h5, h6, h7, h8, h9, h10⟩ := h
  exact ⟨c, k, i, f, a, cell, h1, h2, h3, h4, by rw [hq a (Array.getElem?_eq_some_iff.mp h5).1 h10]; exact h5, h6, h7, h8, h9, h10⟩
/-- .. and what it holds: null or some reference -/
def vx_Zq (C n d : String) (A : Nat → Prop) (U : State) (H : Heap) : Prop := va_Zq C n d A U H ∧ vx_L C n d A U H
theorem vx_Zq.moved {C n d : String} {A : Nat → Prop} {u U : State} {H : Heap} (hvm : u.vm.Alike U.vm) (h : vx_Zq C n d A u H) : vx_Zq C n d A U H := ⟨va_Zq.moved hvm h.1, vx_L.moved hvm h.2⟩
theorem vx_Zq.kept {C n d : String} {A : Nat → Prop} {U : State} {H H1 : Heap} (h : vx_Zq C n d A U H) (hq : ∀ a : Nat, a < H.size → ¬ A a → H1[a]? = H[a]?) : vx_Zq C n d A U H1 := ⟨va_Zq.kept h.1 hq, vx_L.kept h.2 hq⟩
end Ends
section Bodies
variable {l : Launch}
end Bodies
end VXA
/-! ===== END ===== -/
/-! ===== BEGIN a static call of a method with an exception table ===== -/
section VXS
variable {p : Program} {l : Launch} {e : Env} {R : Room} {s : State} {m : MethodId} {args : Array Value} {below : List Frame} {meth : Method} {c : Code} {T : State} {H : Heap} {locs : List Loc} {cells slots : Nat}
end VXS
/-! ===== END ===== -/
/-! ===== BEGIN methods with a table of their own: called by a name, returning or throwing ===== -/
section VXH
/-! vx_backW, vx_callVX, vx_callSX, vx_callVW, vx_runVW, vx_runVX, vx_runSX, vx_ofWH follow the same proofs as their sisters above (Free/Laws.lean, Shelf42/LK1.lean); vx_outP calls Shelf42/NT130.lean (outThrough). -/
section
variable {l : Launch} {R : Room} {p : Program} {e : Env} {below : List Frame} {s : State} {sargs : Array Value} {y : MethodName} {len W9 : Nat}
end
variable {p : Program} {l : Launch} {e : Env} {R : Room} {s : State} {m : MethodId} {args : Array Value} {below : List Frame} {meth : Method} {c : Code} {T : State} {H : Heap} {locs : List Loc} {cells slots : Nat}
section
variable {y : MethodName} {bytes cc : ByteArray} {maxL nL mc ms n index : Nat} {ret : Option FieldType} {ws : List Cond} {rm : Room} {Pc : Array Value → State → Prop} {Qc : Array Value → State → Outcome → State → Prop} {XC : String → State → State → Prop} {free : Addr → Prop} {Ts : List Cond} {own C : String} {b : Addr} {As rest : List Value} {g : JFrame}
end
end VXH
/-! ===== END ===== -/
end
section
/-! ===== BEGIN printed: names, fields, word lists, decode rows ===== -/
def RX0 : String := "PlanetoidDesk$Bodies"
def TX0 : u_T := fun k => match k with
  | 0 => ("PlanetoidDesk$Bodies", "owners", "LPlanetoidDesk$Row;", true)
  | 1 => ("PlanetoidDesk$Bodies", "hosts", "LPlanetoidDesk$Row;", true)
  | 2 => ("PlanetoidDesk$Bodies", "joinTimes", "LPlanetoidDesk$Row;", true)
  | 3 => ("PlanetoidDesk$Bodies", "numbers", "LPlanetoidDesk$Row;", true)
  | 4 => ("PlanetoidDesk$Bodies", "properCourses", "LPlanetoidDesk$Row;", true)
  | 5 => ("PlanetoidDesk$Bodies", "count", "I", false)
  | 6 => ("PlanetoidDesk$Bodies", "joins", "I", false)
  | _ => ("PlanetoidDesk$Bodies", "lastNumber", "I", false)
def tyX0 : Nat → FieldType := fun k => match k with
  | 0 => .object "PlanetoidDesk$Row"
  | 1 => .object "PlanetoidDesk$Row"
  | 2 => .object "PlanetoidDesk$Row"
  | 3 => .object "PlanetoidDesk$Row"
  | 4 => .object "PlanetoidDesk$Row"
  | 5 => .int
  | 6 => .int
  | _ => .int
abbrev wsX00 : List Cond := u_ws RX0 TX0 8
theorem nmX0 : ∀ a, a < 8 → ∀ b, b < 8 → a ≠ b → (TX0 a).2.1 ≠ (TX0 b).2.1 := by decide +kernel
theorem tyX0_ok : ∀ k, k < 8 → parseFieldDescriptor (TX0 k).2.2.1 = some (tyX0 k) := by decide +kernel
abbrev cX0_init : ByteArray := prog_2_method_1_code
def yX0_init : MethodName := ⟨RX0, "<init>", "()V"⟩
def RX1 : String := "PlanetoidDesk$Kinship"
def TX1 : u_T := fun k => match k with
  | _ => ("PlanetoidDesk$Kinship", "lowestNumbers", "LPlanetoidDesk$Row;", true)
def tyX1 : Nat → FieldType := fun k => match k with
  | _ => .object "PlanetoidDesk$Row"
abbrev wsX10 : List Cond := u_ws RX1 TX1 1
theorem nmX1 : ∀ a, a < 1 → ∀ b, b < 1 → a ≠ b → (TX1 a).2.1 ≠ (TX1 b).2.1 := by decide +kernel
theorem tyX1_ok : ∀ k, k < 1 → parseFieldDescriptor (TX1 k).2.2.1 = some (tyX1 k) := by decide +kernel
abbrev cX1_init : ByteArray := prog_3_method_1_code
def yX1_init : MethodName := ⟨RX1, "<init>", "()V"⟩
def RX2 : String := "PlanetoidDesk$Looks"
def TX2 : u_T := fun k => match k with
  | 0 => ("PlanetoidDesk$Looks", "dots", "LPlanetoidDesk$Row;", true)
  | _ => ("PlanetoidDesk$Looks", "count", "I", false)
def tyX2 : Nat → FieldType := fun k => match k with
  | 0 => .object "PlanetoidDesk$Row"
  | _ => .int
abbrev wsX20 : List Cond := u_ws RX2 TX2 2
theorem nmX2 : ∀ a, a < 2 → ∀ b, b < 2 → a ≠ b → (TX2 a).2.1 ≠ (TX2 b).2.1 := by decide +kernel
theorem tyX2_ok : ∀ k, k < 2 → parseFieldDescriptor (TX2 k).2.2.1 = some (tyX2 k) := by decide +kernel
abbrev cX2_init : ByteArray := prog_4_method_1_code
def yX2_init : MethodName := ⟨RX2, "<init>", "()V"⟩
def RX3 : String := "PlanetoidDesk$Orbits"
def TX3 : u_T := fun k => match k with
  | 0 => ("PlanetoidDesk$Orbits", "starts", "LPlanetoidDesk$Row;", true)
  | 1 => ("PlanetoidDesk$Orbits", "widths", "LPlanetoidDesk$Row;", true)
  | _ => ("PlanetoidDesk$Orbits", "tallies", "LPlanetoidDesk$Row;", true)
def tyX3 : Nat → FieldType := fun k => match k with
  | 0 => .object "PlanetoidDesk$Row"
  | 1 => .object "PlanetoidDesk$Row"
  | _ => .object "PlanetoidDesk$Row"
abbrev wsX30 : List Cond := u_ws RX3 TX3 3
theorem nmX3 : ∀ a, a < 3 → ∀ b, b < 3 → a ≠ b → (TX3 a).2.1 ≠ (TX3 b).2.1 := by decide +kernel
theorem tyX3_ok : ∀ k, k < 3 → parseFieldDescriptor (TX3 k).2.2.1 = some (tyX3 k) := by decide +kernel
abbrev cX3_init : ByteArray := prog_5_method_1_code
def yX3_init : MethodName := ⟨RX3, "<init>", "()V"⟩
def RX4 : String := "PlanetoidDesk$Paths"
def TX4 : u_T := fun k => match k with
  | 0 => ("PlanetoidDesk$Paths", "groupHeads", "LPlanetoidDesk$Row;", true)
  | 1 => ("PlanetoidDesk$Paths", "nextInGroup", "LPlanetoidDesk$Row;", true)
  | 2 => ("PlanetoidDesk$Paths", "lastGroupAt", "LPlanetoidDesk$Row;", true)
  | 3 => ("PlanetoidDesk$Paths", "all", "I", false)
  | _ => ("PlanetoidDesk$Paths", "near", "I", false)
def tyX4 : Nat → FieldType := fun k => match k with
  | 0 => .object "PlanetoidDesk$Row"
  | 1 => .object "PlanetoidDesk$Row"
  | 2 => .object "PlanetoidDesk$Row"
  | 3 => .int
  | _ => .int
abbrev wsX40 : List Cond := u_ws RX4 TX4 5
theorem nmX4 : ∀ a, a < 5 → ∀ b, b < 5 → a ≠ b → (TX4 a).2.1 ≠ (TX4 b).2.1 := by decide +kernel
theorem tyX4_ok : ∀ k, k < 5 → parseFieldDescriptor (TX4 k).2.2.1 = some (tyX4 k) := by decide +kernel
abbrev cX4_init : ByteArray := prog_6_method_1_code
def yX4_init : MethodName := ⟨RX4, "<init>", "()V"⟩
def RX5 : String := "PlanetoidDesk$Row"
def TX5 : u_T := fun k => match k with
  | _ => ("PlanetoidDesk$Row", "cells", "[I", true)
def tyX5 : Nat → FieldType := fun k => match k with
  | _ => .array .int
abbrev wsX50 : List Cond := u_ws RX5 TX5 1
theorem nmX5 : ∀ a, a < 1 → ∀ b, b < 1 → a ≠ b → (TX5 a).2.1 ≠ (TX5 b).2.1 := by decide +kernel
theorem tyX5_ok : ∀ k, k < 1 → parseFieldDescriptor (TX5 k).2.2.1 = some (tyX5 k) := by decide +kernel
abbrev cX5_init : ByteArray := prog_7_method_1_code
def yX5_init : MethodName := ⟨RX5, "<init>", "(I)V"⟩
abbrev cX5_fill : ByteArray := prog_7_method_4_code
def yX5_fill : MethodName := ⟨RX5, "fill", "(I)V"⟩
def RX6 : String := "PlanetoidDesk$Sky"
def TX6 : u_T := fun k => match k with
  | 0 => ("PlanetoidDesk$Sky", "errors", "LPlanetoidDesk$Row;", true)
  | 1 => ("PlanetoidDesk$Sky", "plateObservatories", "LPlanetoidDesk$Row;", true)
  | 2 => ("PlanetoidDesk$Sky", "plateNights", "LPlanetoidDesk$Row;", true)
  | 3 => ("PlanetoidDesk$Sky", "dotPlates", "LPlanetoidDesk$Row;", true)
  | 4 => ("PlanetoidDesk$Sky", "dotPlaces", "LPlanetoidDesk$Row;", true)
  | 5 => ("PlanetoidDesk$Sky", "dotLights", "LPlanetoidDesk$Row;", true)
  | 6 => ("PlanetoidDesk$Sky", "shifts", "LPlanetoidDesk$Row;", true)
  | 7 => ("PlanetoidDesk$Sky", "observatoryCount", "I", false)
  | 8 => ("PlanetoidDesk$Sky", "plateCount", "I", false)
  | _ => ("PlanetoidDesk$Sky", "dotCount", "I", false)
def tyX6 : Nat → FieldType := fun k => match k with
  | 0 => .object "PlanetoidDesk$Row"
  | 1 => .object "PlanetoidDesk$Row"
  | 2 => .object "PlanetoidDesk$Row"
  | 3 => .object "PlanetoidDesk$Row"
  | 4 => .object "PlanetoidDesk$Row"
  | 5 => .object "PlanetoidDesk$Row"
  | 6 => .object "PlanetoidDesk$Row"
  | 7 => .int
  | 8 => .int
  | _ => .int
abbrev wsX60 : List Cond := u_ws RX6 TX6 10
theorem nmX6 : ∀ a, a < 10 → ∀ b, b < 10 → a ≠ b → (TX6 a).2.1 ≠ (TX6 b).2.1 := by decide +kernel
theorem tyX6_ok : ∀ k, k < 10 → parseFieldDescriptor (TX6 k).2.2.1 = some (tyX6 k) := by decide +kernel
abbrev cX6_init : ByteArray := prog_8_method_1_code
def yX6_init : MethodName := ⟨RX6, "<init>", "()V"⟩
def RX7 : String := "PlanetoidDesk"
def TX7 : u_T := fun k => match k with
  | 0 => ("PlanetoidDesk", "sky", "LPlanetoidDesk$Sky;", true)
  | 1 => ("PlanetoidDesk", "bodies", "LPlanetoidDesk$Bodies;", true)
  | 2 => ("PlanetoidDesk", "looks", "LPlanetoidDesk$Looks;", true)
  | 3 => ("PlanetoidDesk", "fitting", "LPlanetoidDesk$Orbits;", true)
  | 4 => ("PlanetoidDesk", "paths", "LPlanetoidDesk$Paths;", true)
  | _ => ("PlanetoidDesk", "kinship", "LPlanetoidDesk$Kinship;", true)
def tyX7 : Nat → FieldType := fun k => match k with
  | 0 => .object "PlanetoidDesk$Sky"
  | 1 => .object "PlanetoidDesk$Bodies"
  | 2 => .object "PlanetoidDesk$Looks"
  | 3 => .object "PlanetoidDesk$Orbits"
  | 4 => .object "PlanetoidDesk$Paths"
  | _ => .object "PlanetoidDesk$Kinship"
abbrev wsX70 : List Cond := u_ws RX7 TX7 6
theorem nmX7 : ∀ a, a < 6 → ∀ b, b < 6 → a ≠ b → (TX7 a).2.1 ≠ (TX7 b).2.1 := by decide +kernel
theorem tyX7_ok : ∀ k, k < 6 → parseFieldDescriptor (TX7 k).2.2.1 = some (tyX7 k) := by decide +kernel
abbrev cX7_init : ByteArray := prog_1_method_1_code
def yX7_init : MethodName := ⟨RX7, "<init>", "()V"⟩
def yX7_bOf : MethodName := ⟨RX7, "bOf", "(I)I"⟩
def yX7_cOf : MethodName := ⟨RX7, "cOf", "(I)I"⟩
def yX7_drift : MethodName := ⟨RX7, "drift", "(II)I"⟩
def yX7_stretch : MethodName := ⟨RX7, "stretch", "(II)J"⟩
def RX8 : String := "PlanetoidDeskModel"
def TX8 : u_T := fun k => match k with
  | 0 => ("PlanetoidDeskModel", "shift", "[I", true)
  | 1 => ("PlanetoidDeskModel", "observatories", "I", false)
  | 2 => ("PlanetoidDeskModel", "error", "[I", true)
  | 3 => ("PlanetoidDeskModel", "plates", "I", false)
  | 4 => ("PlanetoidDeskModel", "seat", "[I", true)
  | 5 => ("PlanetoidDeskModel", "night", "[I", true)
  | 6 => ("PlanetoidDeskModel", "dots", "I", false)
  | 7 => ("PlanetoidDeskModel", "plateOf", "[I", true)
  | 8 => ("PlanetoidDeskModel", "measured", "[I", true)
  | 9 => ("PlanetoidDeskModel", "light", "[I", true)
  | 10 => ("PlanetoidDeskModel", "own", "[I", true)
  | 11 => ("PlanetoidDeskModel", "bodies", "I", false)
  | 12 => ("PlanetoidDeskModel", "above", "[I", true)
  | 13 => ("PlanetoidDeskModel", "joinedAt", "[I", true)
  | 14 => ("PlanetoidDeskModel", "numberOf", "[I", true)
  | 15 => ("PlanetoidDeskModel", "properB", "[I", true)
  | 16 => ("PlanetoidDeskModel", "properC", "[I", true)
  | 17 => ("PlanetoidDeskModel", "joins", "I", false)
  | 18 => ("PlanetoidDeskModel", "numbers", "I", false)
  | 19 => ("PlanetoidDeskModel", "looks", "I", false)
  | 20 => ("PlanetoidDeskModel", "look", "[I", true)
  | 21 => ("PlanetoidDeskModel", "found", "I", false)
  | 22 => ("PlanetoidDeskModel", "key", "[I", true)
  | 23 => ("PlanetoidDeskModel", "often", "[I", true)
  | 24 => ("PlanetoidDeskModel", "head", "[I", true)
  | 25 => ("PlanetoidDeskModel", "next", "[I", true)
  | 26 => ("PlanetoidDeskModel", "way", "[I", true)
  | 27 => ("PlanetoidDeskModel", "comes", "[Z", true)
  | 28 => ("PlanetoidDeskModel", "least", "[I", true)
  | 29 => ("PlanetoidDeskModel", "most", "[I", true)
  | 30 => ("PlanetoidDeskModel", "reached", "[I", true)
  | _ => ("PlanetoidDeskModel", "thrown", "I", false)
def tyX8 : Nat → FieldType := fun k => match k with
  | 0 => .array .int
  | 1 => .int
  | 2 => .array .int
  | 3 => .int
  | 4 => .array .int
  | 5 => .array .int
  | 6 => .int
  | 7 => .array .int
  | 8 => .array .int
  | 9 => .array .int
  | 10 => .array .int
  | 11 => .int
  | 12 => .array .int
  | 13 => .array .int
  | 14 => .array .int
  | 15 => .array .int
  | 16 => .array .int
  | 17 => .int
  | 18 => .int
  | 19 => .int
  | 20 => .array .int
  | 21 => .int
  | 22 => .array .int
  | 23 => .array .int
  | 24 => .array .int
  | 25 => .array .int
  | 26 => .array .int
  | 27 => .array .boolean
  | 28 => .array .int
  | 29 => .array .int
  | 30 => .array .int
  | _ => .int
abbrev wsX80 : List Cond := u_ws RX8 TX8 32
theorem nmX8 : ∀ a, a < 32 → ∀ b, b < 32 → a ≠ b → (TX8 a).2.1 ≠ (TX8 b).2.1 := by decide +kernel
theorem tyX8_ok : ∀ k, k < 32 → parseFieldDescriptor (TX8 k).2.2.1 = some (tyX8 k) := by decide +kernel
abbrev cX8_init : ByteArray := prog_10_method_1_code
def yX8_init : MethodName := ⟨RX8, "<init>", "()V"⟩
def RL : String := "PlanetoidDeskLaw"
def wsX5_init : List Cond := .code yX5_init cX5_init 2 none :: ([.methodLink RX5 1 objectInit, .instanceMethod objectInit, .code objectInit ⟨#[0xb1]⟩ 1 none, .arrayClass .int, .fieldLink RX5 7 "PlanetoidDesk$Row" "cells" "[I"] ++ wsX50)
def wsX5_fill : List Cond := .code yX5_fill cX5_fill 3 none :: ([.fieldLink RX5 7 "PlanetoidDesk$Row" "cells" "[I"] ++ wsX50)
def wsX0_init : List Cond := .code yX0_init cX0_init 1 none :: ([.methodLink RX0 3 objectInit, .instanceMethod objectInit, .code objectInit ⟨#[0xb1]⟩ 1 none, .classLink RX0 9 RX5, .instantiable RX5 1, .initialized RX5, .fieldLink RX0 14 "PlanetoidDesk$Bodies" "owners" "LPlanetoidDesk$Row;", .fieldLink RX0 20 "PlanetoidDesk$Bodies" "hosts" "LPlanetoidDesk$Row;", .fieldLink RX0 23 "PlanetoidDesk$Bodies" "joinTimes" "LPlanetoidDesk$Row;", .fieldLink RX0 26 "PlanetoidDesk$Bodies" "numbers" "LPlanetoidDesk$Row;", .fieldLink RX0 29 "PlanetoidDesk$Bodies" "properCourses" "LPlanetoidDesk$Row;", .methodLink RX0 11 yX5_init, .instanceMethod yX5_init, .code yX5_init cX5_init 2 none, .methodLink RX5 1 objectInit, .arrayClass .int, .fieldLink RX5 7 "PlanetoidDesk$Row" "cells" "[I", .methodLink RX0 32 yX5_fill, .instanceMethod yX5_fill, .selects RX5 yX5_fill yX5_fill, .code yX5_fill cX5_fill 3 none] ++ wsX50 ++ wsX00)
def wsX1_init : List Cond := .code yX1_init cX1_init 1 none :: ([.methodLink RX1 3 objectInit, .instanceMethod objectInit, .code objectInit ⟨#[0xb1]⟩ 1 none, .classLink RX1 9 RX5, .instantiable RX5 1, .initialized RX5, .fieldLink RX1 14 "PlanetoidDesk$Kinship" "lowestNumbers" "LPlanetoidDesk$Row;", .methodLink RX1 11 yX5_init, .instanceMethod yX5_init, .code yX5_init cX5_init 2 none, .methodLink RX5 1 objectInit, .arrayClass .int, .fieldLink RX5 7 "PlanetoidDesk$Row" "cells" "[I"] ++ wsX50 ++ wsX10)
def wsX2_init : List Cond := .code yX2_init cX2_init 1 none :: ([.methodLink RX2 3 objectInit, .instanceMethod objectInit, .code objectInit ⟨#[0xb1]⟩ 1 none, .classLink RX2 9 RX5, .instantiable RX5 1, .initialized RX5, .fieldLink RX2 14 "PlanetoidDesk$Looks" "dots" "LPlanetoidDesk$Row;", .methodLink RX2 11 yX5_init, .instanceMethod yX5_init, .code yX5_init cX5_init 2 none, .methodLink RX5 1 objectInit, .arrayClass .int, .fieldLink RX5 7 "PlanetoidDesk$Row" "cells" "[I"] ++ wsX50 ++ wsX20)
def wsX3_init : List Cond := .code yX3_init cX3_init 1 none :: ([.methodLink RX3 3 objectInit, .instanceMethod objectInit, .code objectInit ⟨#[0xb1]⟩ 1 none, .classLink RX3 9 RX5, .instantiable RX5 1, .initialized RX5, .fieldLink RX3 14 "PlanetoidDesk$Orbits" "starts" "LPlanetoidDesk$Row;", .fieldLink RX3 20 "PlanetoidDesk$Orbits" "widths" "LPlanetoidDesk$Row;", .fieldLink RX3 23 "PlanetoidDesk$Orbits" "tallies" "LPlanetoidDesk$Row;", .methodLink RX3 11 yX5_init, .instanceMethod yX5_init, .code yX5_init cX5_init 2 none, .methodLink RX5 1 objectInit, .arrayClass .int, .fieldLink RX5 7 "PlanetoidDesk$Row" "cells" "[I"] ++ wsX50 ++ wsX30)
def wsX4_init : List Cond := .code yX4_init cX4_init 1 none :: ([.methodLink RX4 3 objectInit, .instanceMethod objectInit, .code objectInit ⟨#[0xb1]⟩ 1 none, .classLink RX4 9 RX5, .instantiable RX5 1, .initialized RX5, .fieldLink RX4 14 "PlanetoidDesk$Paths" "groupHeads" "LPlanetoidDesk$Row;", .fieldLink RX4 20 "PlanetoidDesk$Paths" "nextInGroup" "LPlanetoidDesk$Row;", .fieldLink RX4 23 "PlanetoidDesk$Paths" "lastGroupAt" "LPlanetoidDesk$Row;", .methodLink RX4 11 yX5_init, .instanceMethod yX5_init, .code yX5_init cX5_init 2 none, .methodLink RX5 1 objectInit, .arrayClass .int, .fieldLink RX5 7 "PlanetoidDesk$Row" "cells" "[I"] ++ wsX50 ++ wsX40)
def wsX6_init : List Cond := .code yX6_init cX6_init 1 none :: ([.methodLink RX6 3 objectInit, .instanceMethod objectInit, .code objectInit ⟨#[0xb1]⟩ 1 none, .classLink RX6 9 RX5, .instantiable RX5 1, .initialized RX5, .fieldLink RX6 14 "PlanetoidDesk$Sky" "errors" "LPlanetoidDesk$Row;", .fieldLink RX6 20 "PlanetoidDesk$Sky" "plateObservatories" "LPlanetoidDesk$Row;", .fieldLink RX6 23 "PlanetoidDesk$Sky" "plateNights" "LPlanetoidDesk$Row;", .fieldLink RX6 26 "PlanetoidDesk$Sky" "dotPlates" "LPlanetoidDesk$Row;", .fieldLink RX6 29 "PlanetoidDesk$Sky" "dotPlaces" "LPlanetoidDesk$Row;", .fieldLink RX6 32 "PlanetoidDesk$Sky" "dotLights" "LPlanetoidDesk$Row;", .fieldLink RX6 35 "PlanetoidDesk$Sky" "shifts" "LPlanetoidDesk$Row;", .methodLink RX6 11 yX5_init, .instanceMethod yX5_init, .code yX5_init cX5_init 2 none, .methodLink RX5 1 objectInit, .arrayClass .int, .fieldLink RX5 7 "PlanetoidDesk$Row" "cells" "[I"] ++ wsX50 ++ wsX60)
def wsX7_init_r1 : List Cond := [Cond.methodLink RX7 1 objectInit, Cond.instanceMethod objectInit, Cond.code objectInit ⟨#[0xb1]⟩ 1 none, Cond.classLink RX7 7 RX6, Cond.instantiable RX6 10, Cond.initialized RX6, Cond.fieldLink RX7 10 "PlanetoidDesk" "sky" "LPlanetoidDesk$Sky;", Cond.classLink RX7 16 RX0, Cond.instantiable RX0 8, Cond.initialized RX0, Cond.fieldLink RX7 19 "PlanetoidDesk" "bodies" "LPlanetoidDesk$Bodies;", Cond.classLink RX7 23 RX2, Cond.instantiable RX2 2, Cond.initialized RX2, Cond.fieldLink RX7 26 "PlanetoidDesk" "looks" "LPlanetoidDesk$Looks;", Cond.classLink RX7 30 RX3, Cond.instantiable RX3 3, Cond.initialized RX3, Cond.fieldLink RX7 33 "PlanetoidDesk" "fitting" "LPlanetoidDesk$Orbits;", Cond.classLink RX7 37 RX4, Cond.instantiable RX4 5, Cond.initialized RX4, Cond.fieldLink RX7 40 "PlanetoidDesk" "paths" "LPlanetoidDesk$Paths;", Cond.classLink RX7 44 RX1]
def wsX7_init_r2 : List Cond := [Cond.instantiable RX1 1, Cond.initialized RX1, Cond.fieldLink RX7 47 "PlanetoidDesk" "kinship" "LPlanetoidDesk$Kinship;", Cond.instanceMethod yX6_init, Cond.code yX6_init cX6_init 1 none, Cond.methodLink RX6 3 objectInit, Cond.classLink RX6 9 RX5, Cond.instantiable RX5 1, Cond.initialized RX5, Cond.fieldLink RX6 14 "PlanetoidDesk$Sky" "errors" "LPlanetoidDesk$Row;", Cond.fieldLink RX6 20 "PlanetoidDesk$Sky" "plateObservatories" "LPlanetoidDesk$Row;", Cond.fieldLink RX6 23 "PlanetoidDesk$Sky" "plateNights" "LPlanetoidDesk$Row;", Cond.fieldLink RX6 26 "PlanetoidDesk$Sky" "dotPlates" "LPlanetoidDesk$Row;", Cond.fieldLink RX6 29 "PlanetoidDesk$Sky" "dotPlaces" "LPlanetoidDesk$Row;", Cond.fieldLink RX6 32 "PlanetoidDesk$Sky" "dotLights" "LPlanetoidDesk$Row;", Cond.fieldLink RX6 35 "PlanetoidDesk$Sky" "shifts" "LPlanetoidDesk$Row;", Cond.methodLink RX6 11 yX5_init, Cond.instanceMethod yX5_init, Cond.code yX5_init cX5_init 2 none, Cond.methodLink RX5 1 objectInit, Cond.arrayClass .int, Cond.fieldLink RX5 7 "PlanetoidDesk$Row" "cells" "[I", Cond.methodLink RX7 18 yX0_init, Cond.instanceMethod yX0_init]
def wsX7_init_r3 : List Cond := [Cond.code yX0_init cX0_init 1 none, Cond.methodLink RX0 3 objectInit, Cond.classLink RX0 9 RX5, Cond.fieldLink RX0 14 "PlanetoidDesk$Bodies" "owners" "LPlanetoidDesk$Row;", Cond.fieldLink RX0 20 "PlanetoidDesk$Bodies" "hosts" "LPlanetoidDesk$Row;", Cond.fieldLink RX0 23 "PlanetoidDesk$Bodies" "joinTimes" "LPlanetoidDesk$Row;", Cond.fieldLink RX0 26 "PlanetoidDesk$Bodies" "numbers" "LPlanetoidDesk$Row;", Cond.fieldLink RX0 29 "PlanetoidDesk$Bodies" "properCourses" "LPlanetoidDesk$Row;", Cond.methodLink RX0 11 yX5_init, Cond.methodLink RX0 32 yX5_fill, Cond.instanceMethod yX5_fill, Cond.selects RX5 yX5_fill yX5_fill, Cond.code yX5_fill cX5_fill 3 none, Cond.instanceMethod yX2_init, Cond.code yX2_init cX2_init 1 none, Cond.methodLink RX2 3 objectInit, Cond.classLink RX2 9 RX5, Cond.fieldLink RX2 14 "PlanetoidDesk$Looks" "dots" "LPlanetoidDesk$Row;", Cond.methodLink RX2 11 yX5_init, Cond.instanceMethod yX3_init, Cond.code yX3_init cX3_init 1 none, Cond.methodLink RX3 3 objectInit, Cond.classLink RX3 9 RX5, Cond.fieldLink RX3 14 "PlanetoidDesk$Orbits" "starts" "LPlanetoidDesk$Row;"]
def wsX7_init_r4 : List Cond := [Cond.fieldLink RX3 20 "PlanetoidDesk$Orbits" "widths" "LPlanetoidDesk$Row;", Cond.fieldLink RX3 23 "PlanetoidDesk$Orbits" "tallies" "LPlanetoidDesk$Row;", Cond.methodLink RX3 11 yX5_init, Cond.instanceMethod yX4_init, Cond.code yX4_init cX4_init 1 none, Cond.methodLink RX4 3 objectInit, Cond.classLink RX4 9 RX5, Cond.fieldLink RX4 14 "PlanetoidDesk$Paths" "groupHeads" "LPlanetoidDesk$Row;", Cond.fieldLink RX4 20 "PlanetoidDesk$Paths" "nextInGroup" "LPlanetoidDesk$Row;", Cond.fieldLink RX4 23 "PlanetoidDesk$Paths" "lastGroupAt" "LPlanetoidDesk$Row;", Cond.methodLink RX4 11 yX5_init, Cond.instanceMethod yX1_init, Cond.code yX1_init cX1_init 1 none, Cond.methodLink RX1 3 objectInit, Cond.classLink RX1 9 RX5, Cond.fieldLink RX1 14 "PlanetoidDesk$Kinship" "lowestNumbers" "LPlanetoidDesk$Row;", Cond.methodLink RX1 11 yX5_init]
def wsX7_init : List Cond := .code yX7_init cX7_init 1 none :: ((wsX7_init_r1 ++ (wsX7_init_r2 ++ (wsX7_init_r3 ++ wsX7_init_r4))) ++ wsX60 ++ wsX70 ++ wsX00 ++ wsX20 ++ wsX30 ++ wsX40 ++ wsX10 ++ wsX50)
def wsX8_init_r1 : List Cond := [Cond.methodLink RX8 1 objectInit, Cond.instanceMethod objectInit, Cond.code objectInit ⟨#[0xb1]⟩ 1 none, Cond.arrayClass .int, Cond.fieldLink RX8 7 "PlanetoidDeskModel" "shift" "[I", Cond.fieldLink RX8 13 "PlanetoidDeskModel" "error" "[I", Cond.fieldLink RX8 16 "PlanetoidDeskModel" "seat" "[I", Cond.fieldLink RX8 19 "PlanetoidDeskModel" "night" "[I", Cond.fieldLink RX8 22 "PlanetoidDeskModel" "plateOf" "[I", Cond.fieldLink RX8 25 "PlanetoidDeskModel" "measured" "[I", Cond.fieldLink RX8 28 "PlanetoidDeskModel" "light" "[I", Cond.fieldLink RX8 31 "PlanetoidDeskModel" "own" "[I", Cond.fieldLink RX8 34 "PlanetoidDeskModel" "above" "[I", Cond.fieldLink RX8 37 "PlanetoidDeskModel" "joinedAt" "[I", Cond.fieldLink RX8 40 "PlanetoidDeskModel" "numberOf" "[I", Cond.fieldLink RX8 43 "PlanetoidDeskModel" "properB" "[I", Cond.fieldLink RX8 46 "PlanetoidDeskModel" "properC" "[I", Cond.fieldLink RX8 49 "PlanetoidDeskModel" "look" "[I", Cond.fieldLink RX8 52 "PlanetoidDeskModel" "key" "[I", Cond.fieldLink RX8 55 "PlanetoidDeskModel" "often" "[I", Cond.fieldLink RX8 58 "PlanetoidDeskModel" "head" "[I", Cond.fieldLink RX8 61 "PlanetoidDeskModel" "next" "[I", Cond.fieldLink RX8 64 "PlanetoidDeskModel" "way" "[I", Cond.arrayClass .boolean]
def wsX8_init_r2 : List Cond := [Cond.fieldLink RX8 67 "PlanetoidDeskModel" "comes" "[Z", Cond.fieldLink RX8 71 "PlanetoidDeskModel" "least" "[I", Cond.fieldLink RX8 74 "PlanetoidDeskModel" "most" "[I", Cond.fieldLink RX8 77 "PlanetoidDeskModel" "reached" "[I"]
def wsX8_init : List Cond := .code yX8_init cX8_init 1 none :: ((wsX8_init_r1 ++ wsX8_init_r2) ++ wsX80)
set_option maxRecDepth 20000 in
theorem ggX0_init_X5_init : GoodIn wsX0_init wsX5_init := goodIn_r _ [14, 15, 2, 3, 16, 17, 22] (by decide +kernel) (by decide +kernel)
set_option maxRecDepth 20000 in
theorem gX0_init_X5_init : GoodIn wsX0_init (wsX5_init) := ggX0_init_X5_init
set_option maxRecDepth 20000 in
theorem ggX0_init_X5_fill : GoodIn wsX0_init wsX5_fill := goodIn_r _ [21, 17, 22] (by decide +kernel) (by decide +kernel)
set_option maxRecDepth 20000 in
theorem gX0_init_X5_fill : GoodIn wsX0_init (wsV RX0 32 RX5 yX5_fill wsX5_fill) := goodIn_app (goodIn_of _ (by decide +kernel)) ggX0_init_X5_fill
theorem dX0_init_0 : decode cX0_init 0 = .ok (.aload_n 0, 1) := by decide +kernel
theorem dX0_init_1 : decode cX0_init 1 = .ok (.invokespecial 3, 3) := by decide +kernel
theorem dX0_init_4 : decode cX0_init 4 = .ok (.aload_n 0, 1) := by decide +kernel
theorem dX0_init_5 : decode cX0_init 5 = .ok (.new 9, 3) := by decide +kernel
theorem dX0_init_8 : decode cX0_init 8 = .ok (.dup, 1) := by decide +kernel
theorem dX0_init_9 : decode cX0_init 9 = .ok (.bipush 60, 2) := by decide +kernel
theorem dX0_init_11 : decode cX0_init 11 = .ok (.invokespecial 11, 3) := by decide +kernel
theorem dX0_init_14 : decode cX0_init 14 = .ok (.putfield 14, 3) := by decide +kernel
theorem dX0_init_17 : decode cX0_init 17 = .ok (.aload_n 0, 1) := by decide +kernel
theorem dX0_init_18 : decode cX0_init 18 = .ok (.new 9, 3) := by decide +kernel
theorem dX0_init_21 : decode cX0_init 21 = .ok (.dup, 1) := by decide +kernel
theorem dX0_init_22 : decode cX0_init 22 = .ok (.bipush 20, 2) := by decide +kernel
theorem dX0_init_24 : decode cX0_init 24 = .ok (.invokespecial 11, 3) := by decide +kernel
theorem dX0_init_27 : decode cX0_init 27 = .ok (.putfield 20, 3) := by decide +kernel
theorem dX0_init_30 : decode cX0_init 30 = .ok (.aload_n 0, 1) := by decide +kernel
theorem dX0_init_31 : decode cX0_init 31 = .ok (.new 9, 3) := by decide +kernel
theorem dX0_init_34 : decode cX0_init 34 = .ok (.dup, 1) := by decide +kernel
theorem dX0_init_35 : decode cX0_init 35 = .ok (.bipush 20, 2) := by decide +kernel
theorem dX0_init_37 : decode cX0_init 37 = .ok (.invokespecial 11, 3) := by decide +kernel
theorem dX0_init_40 : decode cX0_init 40 = .ok (.putfield 23, 3) := by decide +kernel
theorem dX0_init_43 : decode cX0_init 43 = .ok (.aload_n 0, 1) := by decide +kernel
theorem dX0_init_44 : decode cX0_init 44 = .ok (.new 9, 3) := by decide +kernel
theorem dX0_init_47 : decode cX0_init 47 = .ok (.dup, 1) := by decide +kernel
theorem dX0_init_48 : decode cX0_init 48 = .ok (.bipush 20, 2) := by decide +kernel
theorem dX0_init_50 : decode cX0_init 50 = .ok (.invokespecial 11, 3) := by decide +kernel
theorem dX0_init_53 : decode cX0_init 53 = .ok (.putfield 26, 3) := by decide +kernel
theorem dX0_init_56 : decode cX0_init 56 = .ok (.aload_n 0, 1) := by decide +kernel
theorem dX0_init_57 : decode cX0_init 57 = .ok (.new 9, 3) := by decide +kernel
theorem dX0_init_60 : decode cX0_init 60 = .ok (.dup, 1) := by decide +kernel
theorem dX0_init_61 : decode cX0_init 61 = .ok (.bipush 20, 2) := by decide +kernel
theorem dX0_init_63 : decode cX0_init 63 = .ok (.invokespecial 11, 3) := by decide +kernel
theorem dX0_init_66 : decode cX0_init 66 = .ok (.putfield 29, 3) := by decide +kernel
theorem dX0_init_69 : decode cX0_init 69 = .ok (.aload_n 0, 1) := by decide +kernel
theorem dX0_init_70 : decode cX0_init 70 = .ok (.getfield 14, 3) := by decide +kernel
theorem dX0_init_73 : decode cX0_init 73 = .ok (.iconst (-1), 1) := by decide +kernel
theorem dX0_init_74 : decode cX0_init 74 = .ok (.invokevirtual 32, 3) := by decide +kernel
theorem dX0_init_77 : decode cX0_init 77 = .ok (.aload_n 0, 1) := by decide +kernel
theorem dX0_init_78 : decode cX0_init 78 = .ok (.getfield 20, 3) := by decide +kernel
theorem dX0_init_81 : decode cX0_init 81 = .ok (.iconst (-1), 1) := by decide +kernel
theorem dX0_init_82 : decode cX0_init 82 = .ok (.invokevirtual 32, 3) := by decide +kernel
theorem dX0_init_85 : decode cX0_init 85 = .ok (.aload_n 0, 1) := by decide +kernel
theorem dX0_init_86 : decode cX0_init 86 = .ok (.getfield 26, 3) := by decide +kernel
theorem dX0_init_89 : decode cX0_init 89 = .ok (.iconst (-1), 1) := by decide +kernel
theorem dX0_init_90 : decode cX0_init 90 = .ok (.invokevirtual 32, 3) := by decide +kernel
theorem dX0_init_93 : decode cX0_init 93 = .ok (.return_, 1) := by decide +kernel
set_option maxRecDepth 20000 in
theorem ggX1_init_X5_init : GoodIn wsX1_init wsX5_init := goodIn_r _ [10, 11, 2, 3, 12, 13, 14] (by decide +kernel) (by decide +kernel)
set_option maxRecDepth 20000 in
theorem gX1_init_X5_init : GoodIn wsX1_init (wsX5_init) := ggX1_init_X5_init
theorem dX1_init_0 : decode cX1_init 0 = .ok (.aload_n 0, 1) := by decide +kernel
theorem dX1_init_1 : decode cX1_init 1 = .ok (.invokespecial 3, 3) := by decide +kernel
theorem dX1_init_4 : decode cX1_init 4 = .ok (.aload_n 0, 1) := by decide +kernel
theorem dX1_init_5 : decode cX1_init 5 = .ok (.new 9, 3) := by decide +kernel
theorem dX1_init_8 : decode cX1_init 8 = .ok (.dup, 1) := by decide +kernel
theorem dX1_init_9 : decode cX1_init 9 = .ok (.bipush 20, 2) := by decide +kernel
theorem dX1_init_11 : decode cX1_init 11 = .ok (.invokespecial 11, 3) := by decide +kernel
theorem dX1_init_14 : decode cX1_init 14 = .ok (.putfield 14, 3) := by decide +kernel
theorem dX1_init_17 : decode cX1_init 17 = .ok (.return_, 1) := by decide +kernel
set_option maxRecDepth 20000 in
theorem ggX2_init_X5_init : GoodIn wsX2_init wsX5_init := goodIn_r _ [10, 11, 2, 3, 12, 13, 14] (by decide +kernel) (by decide +kernel)
set_option maxRecDepth 20000 in
theorem gX2_init_X5_init : GoodIn wsX2_init (wsX5_init) := ggX2_init_X5_init
theorem dX2_init_0 : decode cX2_init 0 = .ok (.aload_n 0, 1) := by decide +kernel
theorem dX2_init_1 : decode cX2_init 1 = .ok (.invokespecial 3, 3) := by decide +kernel
theorem dX2_init_4 : decode cX2_init 4 = .ok (.aload_n 0, 1) := by decide +kernel
theorem dX2_init_5 : decode cX2_init 5 = .ok (.new 9, 3) := by decide +kernel
theorem dX2_init_8 : decode cX2_init 8 = .ok (.dup, 1) := by decide +kernel
theorem dX2_init_9 : decode cX2_init 9 = .ok (.bipush 60, 2) := by decide +kernel
theorem dX2_init_11 : decode cX2_init 11 = .ok (.invokespecial 11, 3) := by decide +kernel
theorem dX2_init_14 : decode cX2_init 14 = .ok (.putfield 14, 3) := by decide +kernel
theorem dX2_init_17 : decode cX2_init 17 = .ok (.return_, 1) := by decide +kernel
set_option maxRecDepth 20000 in
theorem ggX3_init_X5_init : GoodIn wsX3_init wsX5_init := goodIn_r _ [12, 13, 2, 3, 14, 15, 16] (by decide +kernel) (by decide +kernel)
set_option maxRecDepth 20000 in
theorem gX3_init_X5_init : GoodIn wsX3_init (wsX5_init) := ggX3_init_X5_init
theorem dX3_init_0 : decode cX3_init 0 = .ok (.aload_n 0, 1) := by decide +kernel
theorem dX3_init_1 : decode cX3_init 1 = .ok (.invokespecial 3, 3) := by decide +kernel
theorem dX3_init_4 : decode cX3_init 4 = .ok (.aload_n 0, 1) := by decide +kernel
theorem dX3_init_5 : decode cX3_init 5 = .ok (.new 9, 3) := by decide +kernel
theorem dX3_init_8 : decode cX3_init 8 = .ok (.dup, 1) := by decide +kernel
theorem dX3_init_9 : decode cX3_init 9 = .ok (.sipush 405, 3) := by decide +kernel
theorem dX3_init_12 : decode cX3_init 12 = .ok (.invokespecial 11, 3) := by decide +kernel
theorem dX3_init_15 : decode cX3_init 15 = .ok (.putfield 14, 3) := by decide +kernel
theorem dX3_init_18 : decode cX3_init 18 = .ok (.aload_n 0, 1) := by decide +kernel
theorem dX3_init_19 : decode cX3_init 19 = .ok (.new 9, 3) := by decide +kernel
theorem dX3_init_22 : decode cX3_init 22 = .ok (.dup, 1) := by decide +kernel
theorem dX3_init_23 : decode cX3_init 23 = .ok (.sipush 405, 3) := by decide +kernel
theorem dX3_init_26 : decode cX3_init 26 = .ok (.invokespecial 11, 3) := by decide +kernel
theorem dX3_init_29 : decode cX3_init 29 = .ok (.putfield 20, 3) := by decide +kernel
theorem dX3_init_32 : decode cX3_init 32 = .ok (.aload_n 0, 1) := by decide +kernel
theorem dX3_init_33 : decode cX3_init 33 = .ok (.new 9, 3) := by decide +kernel
theorem dX3_init_36 : decode cX3_init 36 = .ok (.dup, 1) := by decide +kernel
theorem dX3_init_37 : decode cX3_init 37 = .ok (.sipush 3600, 3) := by decide +kernel
theorem dX3_init_40 : decode cX3_init 40 = .ok (.invokespecial 11, 3) := by decide +kernel
theorem dX3_init_43 : decode cX3_init 43 = .ok (.putfield 23, 3) := by decide +kernel
theorem dX3_init_46 : decode cX3_init 46 = .ok (.return_, 1) := by decide +kernel
set_option maxRecDepth 20000 in
theorem ggX4_init_X5_init : GoodIn wsX4_init wsX5_init := goodIn_r _ [12, 13, 2, 3, 14, 15, 16] (by decide +kernel) (by decide +kernel)
set_option maxRecDepth 20000 in
theorem gX4_init_X5_init : GoodIn wsX4_init (wsX5_init) := ggX4_init_X5_init
theorem dX4_init_0 : decode cX4_init 0 = .ok (.aload_n 0, 1) := by decide +kernel
theorem dX4_init_1 : decode cX4_init 1 = .ok (.invokespecial 3, 3) := by decide +kernel
theorem dX4_init_4 : decode cX4_init 4 = .ok (.aload_n 0, 1) := by decide +kernel
theorem dX4_init_5 : decode cX4_init 5 = .ok (.new 9, 3) := by decide +kernel
theorem dX4_init_8 : decode cX4_init 8 = .ok (.dup, 1) := by decide +kernel
theorem dX4_init_9 : decode cX4_init 9 = .ok (.sipush 3600, 3) := by decide +kernel
theorem dX4_init_12 : decode cX4_init 12 = .ok (.invokespecial 11, 3) := by decide +kernel
theorem dX4_init_15 : decode cX4_init 15 = .ok (.putfield 14, 3) := by decide +kernel
theorem dX4_init_18 : decode cX4_init 18 = .ok (.aload_n 0, 1) := by decide +kernel
theorem dX4_init_19 : decode cX4_init 19 = .ok (.new 9, 3) := by decide +kernel
theorem dX4_init_22 : decode cX4_init 22 = .ok (.dup, 1) := by decide +kernel
theorem dX4_init_23 : decode cX4_init 23 = .ok (.sipush 405, 3) := by decide +kernel
theorem dX4_init_26 : decode cX4_init 26 = .ok (.invokespecial 11, 3) := by decide +kernel
theorem dX4_init_29 : decode cX4_init 29 = .ok (.putfield 20, 3) := by decide +kernel
theorem dX4_init_32 : decode cX4_init 32 = .ok (.aload_n 0, 1) := by decide +kernel
theorem dX4_init_33 : decode cX4_init 33 = .ok (.new 9, 3) := by decide +kernel
theorem dX4_init_36 : decode cX4_init 36 = .ok (.dup, 1) := by decide +kernel
theorem dX4_init_37 : decode cX4_init 37 = .ok (.sipush 3600, 3) := by decide +kernel
theorem dX4_init_40 : decode cX4_init 40 = .ok (.invokespecial 11, 3) := by decide +kernel
theorem dX4_init_43 : decode cX4_init 43 = .ok (.putfield 23, 3) := by decide +kernel
theorem dX4_init_46 : decode cX4_init 46 = .ok (.return_, 1) := by decide +kernel
theorem dX5_init_0 : decode cX5_init 0 = .ok (.aload_n 0, 1) := by decide +kernel
theorem dX5_init_1 : decode cX5_init 1 = .ok (.invokespecial 1, 3) := by decide +kernel
theorem dX5_init_4 : decode cX5_init 4 = .ok (.aload_n 0, 1) := by decide +kernel
theorem dX5_init_5 : decode cX5_init 5 = .ok (.iload_n 1, 1) := by decide +kernel
theorem dX5_init_6 : decode cX5_init 6 = .ok (.ifCond .le 7, 3) := by decide +kernel
theorem dX5_init_9 : decode cX5_init 9 = .ok (.iload_n 1, 1) := by decide +kernel
theorem dX5_init_10 : decode cX5_init 10 = .ok (.goto 4, 3) := by decide +kernel
theorem dX5_init_14 : decode cX5_init 14 = .ok (.newarray .int, 2) := by decide +kernel
theorem dX5_init_16 : decode cX5_init 16 = .ok (.putfield 7, 3) := by decide +kernel
theorem dX5_init_19 : decode cX5_init 19 = .ok (.return_, 1) := by decide +kernel
theorem dX5_fill_0 : decode cX5_fill 0 = .ok (.iconst 0, 1) := by decide +kernel
theorem dX5_fill_1 : decode cX5_fill 1 = .ok (.istore_n 2, 1) := by decide +kernel
theorem dX5_fill_2 : decode cX5_fill 2 = .ok (.iload_n 2, 1) := by decide +kernel
theorem dX5_fill_3 : decode cX5_fill 3 = .ok (.aload_n 0, 1) := by decide +kernel
theorem dX5_fill_4 : decode cX5_fill 4 = .ok (.getfield 7, 3) := by decide +kernel
theorem dX5_fill_7 : decode cX5_fill 7 = .ok (.arraylength, 1) := by decide +kernel
theorem dX5_fill_8 : decode cX5_fill 8 = .ok (.if_icmp .ge 16, 3) := by decide +kernel
theorem dX5_fill_11 : decode cX5_fill 11 = .ok (.aload_n 0, 1) := by decide +kernel
theorem dX5_fill_12 : decode cX5_fill 12 = .ok (.getfield 7, 3) := by decide +kernel
theorem dX5_fill_15 : decode cX5_fill 15 = .ok (.iload_n 2, 1) := by decide +kernel
theorem dX5_fill_16 : decode cX5_fill 16 = .ok (.iload_n 1, 1) := by decide +kernel
theorem dX5_fill_17 : decode cX5_fill 17 = .ok (.iastore, 1) := by decide +kernel
theorem dX5_fill_18 : decode cX5_fill 18 = .ok (.iinc 2 1, 3) := by decide +kernel
theorem dX5_fill_21 : decode cX5_fill 21 = .ok (.goto (-19), 3) := by decide +kernel
theorem dX5_fill_24 : decode cX5_fill 24 = .ok (.return_, 1) := by decide +kernel
set_option maxRecDepth 20000 in
theorem ggX6_init_X5_init : GoodIn wsX6_init wsX5_init := goodIn_r _ [16, 17, 2, 3, 18, 19, 20] (by decide +kernel) (by decide +kernel)
set_option maxRecDepth 20000 in
theorem gX6_init_X5_init : GoodIn wsX6_init (wsX5_init) := ggX6_init_X5_init
theorem dX6_init_0 : decode cX6_init 0 = .ok (.aload_n 0, 1) := by decide +kernel
theorem dX6_init_1 : decode cX6_init 1 = .ok (.invokespecial 3, 3) := by decide +kernel
theorem dX6_init_4 : decode cX6_init 4 = .ok (.aload_n 0, 1) := by decide +kernel
theorem dX6_init_5 : decode cX6_init 5 = .ok (.new 9, 3) := by decide +kernel
theorem dX6_init_8 : decode cX6_init 8 = .ok (.dup, 1) := by decide +kernel
theorem dX6_init_9 : decode cX6_init 9 = .ok (.bipush 6, 2) := by decide +kernel
theorem dX6_init_11 : decode cX6_init 11 = .ok (.invokespecial 11, 3) := by decide +kernel
theorem dX6_init_14 : decode cX6_init 14 = .ok (.putfield 14, 3) := by decide +kernel
theorem dX6_init_17 : decode cX6_init 17 = .ok (.aload_n 0, 1) := by decide +kernel
theorem dX6_init_18 : decode cX6_init 18 = .ok (.new 9, 3) := by decide +kernel
theorem dX6_init_21 : decode cX6_init 21 = .ok (.dup, 1) := by decide +kernel
theorem dX6_init_22 : decode cX6_init 22 = .ok (.bipush 30, 2) := by decide +kernel
theorem dX6_init_24 : decode cX6_init 24 = .ok (.invokespecial 11, 3) := by decide +kernel
theorem dX6_init_27 : decode cX6_init 27 = .ok (.putfield 20, 3) := by decide +kernel
theorem dX6_init_30 : decode cX6_init 30 = .ok (.aload_n 0, 1) := by decide +kernel
theorem dX6_init_31 : decode cX6_init 31 = .ok (.new 9, 3) := by decide +kernel
theorem dX6_init_34 : decode cX6_init 34 = .ok (.dup, 1) := by decide +kernel
theorem dX6_init_35 : decode cX6_init 35 = .ok (.bipush 30, 2) := by decide +kernel
theorem dX6_init_37 : decode cX6_init 37 = .ok (.invokespecial 11, 3) := by decide +kernel
theorem dX6_init_40 : decode cX6_init 40 = .ok (.putfield 23, 3) := by decide +kernel
theorem dX6_init_43 : decode cX6_init 43 = .ok (.aload_n 0, 1) := by decide +kernel
theorem dX6_init_44 : decode cX6_init 44 = .ok (.new 9, 3) := by decide +kernel
theorem dX6_init_47 : decode cX6_init 47 = .ok (.dup, 1) := by decide +kernel
theorem dX6_init_48 : decode cX6_init 48 = .ok (.bipush 60, 2) := by decide +kernel
theorem dX6_init_50 : decode cX6_init 50 = .ok (.invokespecial 11, 3) := by decide +kernel
theorem dX6_init_53 : decode cX6_init 53 = .ok (.putfield 26, 3) := by decide +kernel
theorem dX6_init_56 : decode cX6_init 56 = .ok (.aload_n 0, 1) := by decide +kernel
theorem dX6_init_57 : decode cX6_init 57 = .ok (.new 9, 3) := by decide +kernel
theorem dX6_init_60 : decode cX6_init 60 = .ok (.dup, 1) := by decide +kernel
theorem dX6_init_61 : decode cX6_init 61 = .ok (.bipush 60, 2) := by decide +kernel
theorem dX6_init_63 : decode cX6_init 63 = .ok (.invokespecial 11, 3) := by decide +kernel
theorem dX6_init_66 : decode cX6_init 66 = .ok (.putfield 29, 3) := by decide +kernel
theorem dX6_init_69 : decode cX6_init 69 = .ok (.aload_n 0, 1) := by decide +kernel
theorem dX6_init_70 : decode cX6_init 70 = .ok (.new 9, 3) := by decide +kernel
theorem dX6_init_73 : decode cX6_init 73 = .ok (.dup, 1) := by decide +kernel
theorem dX6_init_74 : decode cX6_init 74 = .ok (.bipush 60, 2) := by decide +kernel
theorem dX6_init_76 : decode cX6_init 76 = .ok (.invokespecial 11, 3) := by decide +kernel
theorem dX6_init_79 : decode cX6_init 79 = .ok (.putfield 32, 3) := by decide +kernel
theorem dX6_init_82 : decode cX6_init 82 = .ok (.aload_n 0, 1) := by decide +kernel
theorem dX6_init_83 : decode cX6_init 83 = .ok (.new 9, 3) := by decide +kernel
theorem dX6_init_86 : decode cX6_init 86 = .ok (.dup, 1) := by decide +kernel
theorem dX6_init_87 : decode cX6_init 87 = .ok (.bipush 9, 2) := by decide +kernel
theorem dX6_init_89 : decode cX6_init 89 = .ok (.invokespecial 11, 3) := by decide +kernel
theorem dX6_init_92 : decode cX6_init 92 = .ok (.putfield 35, 3) := by decide +kernel
theorem dX6_init_95 : decode cX6_init 95 = .ok (.return_, 1) := by decide +kernel
set_option maxRecDepth 20000 in
theorem ggX7_init_X6_init : GoodIn wsX7_init wsX6_init := goodIn_r _ [29, 30, 2, 3, 31, 32, 33, 34, 35, 36, 37, 38, 39, 40, 41, 42, 43, 44, 45, 46, 125, 90, 91, 92, 93, 94, 95, 96, 97, 98, 99] (by decide +kernel) (by decide +kernel)
set_option maxRecDepth 20000 in
theorem gX7_init_X6_init_n9 : GoodIn wsX7_init (wsX6_init) := ggX7_init_X6_init
set_option maxRecDepth 20000 in
theorem ggX7_init_X0_init : GoodIn wsX7_init wsX0_init := goodIn_r _ [49, 50, 2, 3, 51, 32, 33, 52, 53, 54, 55, 56, 57, 42, 43, 44, 45, 46, 58, 59, 60, 61, 125, 106, 107, 108, 109, 110, 111, 112, 113] (by decide +kernel) (by decide +kernel)
set_option maxRecDepth 20000 in
theorem gX7_init_X0_init : GoodIn wsX7_init (wsX0_init) := ggX7_init_X0_init
set_option maxRecDepth 20000 in
theorem ggX7_init_X2_init : GoodIn wsX7_init wsX2_init := goodIn_r _ [63, 64, 2, 3, 65, 32, 33, 66, 67, 42, 43, 44, 45, 46, 125, 114, 115] (by decide +kernel) (by decide +kernel)
set_option maxRecDepth 20000 in
theorem gX7_init_X2_init_n25 : GoodIn wsX7_init (wsX2_init) := ggX7_init_X2_init
set_option maxRecDepth 20000 in
theorem ggX7_init_X3_init : GoodIn wsX7_init wsX3_init := goodIn_r _ [69, 70, 2, 3, 71, 32, 33, 72, 73, 74, 75, 42, 43, 44, 45, 46, 125, 116, 117, 118] (by decide +kernel) (by decide +kernel)
set_option maxRecDepth 20000 in
theorem gX7_init_X3_init_n32 : GoodIn wsX7_init (wsX3_init) := ggX7_init_X3_init
set_option maxRecDepth 20000 in
theorem ggX7_init_X4_init : GoodIn wsX7_init wsX4_init := goodIn_r _ [77, 78, 2, 3, 79, 32, 33, 80, 81, 82, 83, 42, 43, 44, 45, 46, 125, 119, 120, 121, 122, 123] (by decide +kernel) (by decide +kernel)
set_option maxRecDepth 20000 in
theorem gX7_init_X4_init_n39 : GoodIn wsX7_init (wsX4_init) := ggX7_init_X4_init
set_option maxRecDepth 20000 in
theorem ggX7_init_X1_init : GoodIn wsX7_init wsX1_init := goodIn_r _ [85, 86, 2, 3, 87, 32, 33, 88, 89, 42, 43, 44, 45, 46, 125, 124] (by decide +kernel) (by decide +kernel)
set_option maxRecDepth 20000 in
theorem gX7_init_X1_init_n46 : GoodIn wsX7_init (wsX1_init) := ggX7_init_X1_init
theorem dX7_init_0 : decode cX7_init 0 = .ok (.aload_n 0, 1) := by decide +kernel
theorem dX7_init_1 : decode cX7_init 1 = .ok (.invokespecial 1, 3) := by decide +kernel
theorem dX7_init_4 : decode cX7_init 4 = .ok (.aload_n 0, 1) := by decide +kernel
theorem dX7_init_5 : decode cX7_init 5 = .ok (.new 7, 3) := by decide +kernel
theorem dX7_init_8 : decode cX7_init 8 = .ok (.dup, 1) := by decide +kernel
theorem dX7_init_9 : decode cX7_init 9 = .ok (.invokespecial 9, 3) := by decide +kernel
theorem dX7_init_12 : decode cX7_init 12 = .ok (.putfield 10, 3) := by decide +kernel
theorem dX7_init_15 : decode cX7_init 15 = .ok (.aload_n 0, 1) := by decide +kernel
theorem dX7_init_16 : decode cX7_init 16 = .ok (.new 16, 3) := by decide +kernel
theorem dX7_init_19 : decode cX7_init 19 = .ok (.dup, 1) := by decide +kernel
theorem dX7_init_20 : decode cX7_init 20 = .ok (.invokespecial 18, 3) := by decide +kernel
theorem dX7_init_23 : decode cX7_init 23 = .ok (.putfield 19, 3) := by decide +kernel
theorem dX7_init_26 : decode cX7_init 26 = .ok (.aload_n 0, 1) := by decide +kernel
theorem dX7_init_27 : decode cX7_init 27 = .ok (.new 23, 3) := by decide +kernel
theorem dX7_init_30 : decode cX7_init 30 = .ok (.dup, 1) := by decide +kernel
theorem dX7_init_31 : decode cX7_init 31 = .ok (.invokespecial 25, 3) := by decide +kernel
theorem dX7_init_34 : decode cX7_init 34 = .ok (.putfield 26, 3) := by decide +kernel
theorem dX7_init_37 : decode cX7_init 37 = .ok (.aload_n 0, 1) := by decide +kernel
theorem dX7_init_38 : decode cX7_init 38 = .ok (.new 30, 3) := by decide +kernel
theorem dX7_init_41 : decode cX7_init 41 = .ok (.dup, 1) := by decide +kernel
theorem dX7_init_42 : decode cX7_init 42 = .ok (.invokespecial 32, 3) := by decide +kernel
theorem dX7_init_45 : decode cX7_init 45 = .ok (.putfield 33, 3) := by decide +kernel
theorem dX7_init_48 : decode cX7_init 48 = .ok (.aload_n 0, 1) := by decide +kernel
theorem dX7_init_49 : decode cX7_init 49 = .ok (.new 37, 3) := by decide +kernel
theorem dX7_init_52 : decode cX7_init 52 = .ok (.dup, 1) := by decide +kernel
theorem dX7_init_53 : decode cX7_init 53 = .ok (.invokespecial 39, 3) := by decide +kernel
theorem dX7_init_56 : decode cX7_init 56 = .ok (.putfield 40, 3) := by decide +kernel
theorem dX7_init_59 : decode cX7_init 59 = .ok (.aload_n 0, 1) := by decide +kernel
theorem dX7_init_60 : decode cX7_init 60 = .ok (.new 44, 3) := by decide +kernel
theorem dX7_init_63 : decode cX7_init 63 = .ok (.dup, 1) := by decide +kernel
theorem dX7_init_64 : decode cX7_init 64 = .ok (.invokespecial 46, 3) := by decide +kernel
theorem dX7_init_67 : decode cX7_init 67 = .ok (.putfield 47, 3) := by decide +kernel
theorem dX7_init_70 : decode cX7_init 70 = .ok (.return_, 1) := by decide +kernel
theorem dX8_init_0 : decode cX8_init 0 = .ok (.aload_n 0, 1) := by decide +kernel
theorem dX8_init_1 : decode cX8_init 1 = .ok (.invokespecial 1, 3) := by decide +kernel
theorem dX8_init_4 : decode cX8_init 4 = .ok (.aload_n 0, 1) := by decide +kernel
theorem dX8_init_5 : decode cX8_init 5 = .ok (.bipush 9, 2) := by decide +kernel
theorem dX8_init_7 : decode cX8_init 7 = .ok (.newarray .int, 2) := by decide +kernel
theorem dX8_init_9 : decode cX8_init 9 = .ok (.putfield 7, 3) := by decide +kernel
theorem dX8_init_12 : decode cX8_init 12 = .ok (.aload_n 0, 1) := by decide +kernel
theorem dX8_init_13 : decode cX8_init 13 = .ok (.bipush 6, 2) := by decide +kernel
theorem dX8_init_15 : decode cX8_init 15 = .ok (.newarray .int, 2) := by decide +kernel
theorem dX8_init_17 : decode cX8_init 17 = .ok (.putfield 13, 3) := by decide +kernel
theorem dX8_init_20 : decode cX8_init 20 = .ok (.aload_n 0, 1) := by decide +kernel
theorem dX8_init_21 : decode cX8_init 21 = .ok (.bipush 30, 2) := by decide +kernel
theorem dX8_init_23 : decode cX8_init 23 = .ok (.newarray .int, 2) := by decide +kernel
theorem dX8_init_25 : decode cX8_init 25 = .ok (.putfield 16, 3) := by decide +kernel
theorem dX8_init_28 : decode cX8_init 28 = .ok (.aload_n 0, 1) := by decide +kernel
theorem dX8_init_29 : decode cX8_init 29 = .ok (.bipush 30, 2) := by decide +kernel
theorem dX8_init_31 : decode cX8_init 31 = .ok (.newarray .int, 2) := by decide +kernel
theorem dX8_init_33 : decode cX8_init 33 = .ok (.putfield 19, 3) := by decide +kernel
theorem dX8_init_36 : decode cX8_init 36 = .ok (.aload_n 0, 1) := by decide +kernel
theorem dX8_init_37 : decode cX8_init 37 = .ok (.bipush 60, 2) := by decide +kernel
theorem dX8_init_39 : decode cX8_init 39 = .ok (.newarray .int, 2) := by decide +kernel
theorem dX8_init_41 : decode cX8_init 41 = .ok (.putfield 22, 3) := by decide +kernel
theorem dX8_init_44 : decode cX8_init 44 = .ok (.aload_n 0, 1) := by decide +kernel
theorem dX8_init_45 : decode cX8_init 45 = .ok (.bipush 60, 2) := by decide +kernel
theorem dX8_init_47 : decode cX8_init 47 = .ok (.newarray .int, 2) := by decide +kernel
theorem dX8_init_49 : decode cX8_init 49 = .ok (.putfield 25, 3) := by decide +kernel
theorem dX8_init_52 : decode cX8_init 52 = .ok (.aload_n 0, 1) := by decide +kernel
theorem dX8_init_53 : decode cX8_init 53 = .ok (.bipush 60, 2) := by decide +kernel
theorem dX8_init_55 : decode cX8_init 55 = .ok (.newarray .int, 2) := by decide +kernel
theorem dX8_init_57 : decode cX8_init 57 = .ok (.putfield 28, 3) := by decide +kernel
theorem dX8_init_60 : decode cX8_init 60 = .ok (.aload_n 0, 1) := by decide +kernel
theorem dX8_init_61 : decode cX8_init 61 = .ok (.bipush 60, 2) := by decide +kernel
theorem dX8_init_63 : decode cX8_init 63 = .ok (.newarray .int, 2) := by decide +kernel
theorem dX8_init_65 : decode cX8_init 65 = .ok (.putfield 31, 3) := by decide +kernel
theorem dX8_init_68 : decode cX8_init 68 = .ok (.aload_n 0, 1) := by decide +kernel
theorem dX8_init_69 : decode cX8_init 69 = .ok (.bipush 20, 2) := by decide +kernel
theorem dX8_init_71 : decode cX8_init 71 = .ok (.newarray .int, 2) := by decide +kernel
theorem dX8_init_73 : decode cX8_init 73 = .ok (.putfield 34, 3) := by decide +kernel
theorem dX8_init_76 : decode cX8_init 76 = .ok (.aload_n 0, 1) := by decide +kernel
theorem dX8_init_77 : decode cX8_init 77 = .ok (.bipush 20, 2) := by decide +kernel
theorem dX8_init_79 : decode cX8_init 79 = .ok (.newarray .int, 2) := by decide +kernel
theorem dX8_init_81 : decode cX8_init 81 = .ok (.putfield 37, 3) := by decide +kernel
theorem dX8_init_84 : decode cX8_init 84 = .ok (.aload_n 0, 1) := by decide +kernel
theorem dX8_init_85 : decode cX8_init 85 = .ok (.bipush 20, 2) := by decide +kernel
theorem dX8_init_87 : decode cX8_init 87 = .ok (.newarray .int, 2) := by decide +kernel
theorem dX8_init_89 : decode cX8_init 89 = .ok (.putfield 40, 3) := by decide +kernel
theorem dX8_init_92 : decode cX8_init 92 = .ok (.aload_n 0, 1) := by decide +kernel
theorem dX8_init_93 : decode cX8_init 93 = .ok (.bipush 20, 2) := by decide +kernel
theorem dX8_init_95 : decode cX8_init 95 = .ok (.newarray .int, 2) := by decide +kernel
theorem dX8_init_97 : decode cX8_init 97 = .ok (.putfield 43, 3) := by decide +kernel
theorem dX8_init_100 : decode cX8_init 100 = .ok (.aload_n 0, 1) := by decide +kernel
theorem dX8_init_101 : decode cX8_init 101 = .ok (.bipush 20, 2) := by decide +kernel
theorem dX8_init_103 : decode cX8_init 103 = .ok (.newarray .int, 2) := by decide +kernel
theorem dX8_init_105 : decode cX8_init 105 = .ok (.putfield 46, 3) := by decide +kernel
theorem dX8_init_108 : decode cX8_init 108 = .ok (.aload_n 0, 1) := by decide +kernel
theorem dX8_init_109 : decode cX8_init 109 = .ok (.bipush 60, 2) := by decide +kernel
theorem dX8_init_111 : decode cX8_init 111 = .ok (.newarray .int, 2) := by decide +kernel
theorem dX8_init_113 : decode cX8_init 113 = .ok (.putfield 49, 3) := by decide +kernel
theorem dX8_init_116 : decode cX8_init 116 = .ok (.aload_n 0, 1) := by decide +kernel
theorem dX8_init_117 : decode cX8_init 117 = .ok (.sipush 7695, 3) := by decide +kernel
theorem dX8_init_120 : decode cX8_init 120 = .ok (.newarray .int, 2) := by decide +kernel
theorem dX8_init_122 : decode cX8_init 122 = .ok (.putfield 52, 3) := by decide +kernel
theorem dX8_init_125 : decode cX8_init 125 = .ok (.aload_n 0, 1) := by decide +kernel
theorem dX8_init_126 : decode cX8_init 126 = .ok (.sipush 3600, 3) := by decide +kernel
theorem dX8_init_129 : decode cX8_init 129 = .ok (.newarray .int, 2) := by decide +kernel
theorem dX8_init_131 : decode cX8_init 131 = .ok (.putfield 55, 3) := by decide +kernel
theorem dX8_init_134 : decode cX8_init 134 = .ok (.aload_n 0, 1) := by decide +kernel
theorem dX8_init_135 : decode cX8_init 135 = .ok (.sipush 3600, 3) := by decide +kernel
theorem dX8_init_138 : decode cX8_init 138 = .ok (.newarray .int, 2) := by decide +kernel
theorem dX8_init_140 : decode cX8_init 140 = .ok (.putfield 58, 3) := by decide +kernel
theorem dX8_init_143 : decode cX8_init 143 = .ok (.aload_n 0, 1) := by decide +kernel
theorem dX8_init_144 : decode cX8_init 144 = .ok (.sipush 7695, 3) := by decide +kernel
theorem dX8_init_147 : decode cX8_init 147 = .ok (.newarray .int, 2) := by decide +kernel
theorem dX8_init_149 : decode cX8_init 149 = .ok (.putfield 61, 3) := by decide +kernel
theorem dX8_init_152 : decode cX8_init 152 = .ok (.aload_n 0, 1) := by decide +kernel
theorem dX8_init_153 : decode cX8_init 153 = .ok (.sipush 7695, 3) := by decide +kernel
theorem dX8_init_156 : decode cX8_init 156 = .ok (.newarray .int, 2) := by decide +kernel
theorem dX8_init_158 : decode cX8_init 158 = .ok (.putfield 64, 3) := by decide +kernel
theorem dX8_init_161 : decode cX8_init 161 = .ok (.aload_n 0, 1) := by decide +kernel
theorem dX8_init_162 : decode cX8_init 162 = .ok (.sipush 7695, 3) := by decide +kernel
theorem dX8_init_165 : decode cX8_init 165 = .ok (.newarray .boolean, 2) := by decide +kernel
theorem dX8_init_167 : decode cX8_init 167 = .ok (.putfield 67, 3) := by decide +kernel
theorem dX8_init_170 : decode cX8_init 170 = .ok (.aload_n 0, 1) := by decide +kernel
theorem dX8_init_171 : decode cX8_init 171 = .ok (.bipush 20, 2) := by decide +kernel
theorem dX8_init_173 : decode cX8_init 173 = .ok (.newarray .int, 2) := by decide +kernel
theorem dX8_init_175 : decode cX8_init 175 = .ok (.putfield 71, 3) := by decide +kernel
theorem dX8_init_178 : decode cX8_init 178 = .ok (.aload_n 0, 1) := by decide +kernel
theorem dX8_init_179 : decode cX8_init 179 = .ok (.bipush 20, 2) := by decide +kernel
theorem dX8_init_181 : decode cX8_init 181 = .ok (.newarray .int, 2) := by decide +kernel
theorem dX8_init_183 : decode cX8_init 183 = .ok (.putfield 74, 3) := by decide +kernel
theorem dX8_init_186 : decode cX8_init 186 = .ok (.aload_n 0, 1) := by decide +kernel
theorem dX8_init_187 : decode cX8_init 187 = .ok (.bipush 20, 2) := by decide +kernel
theorem dX8_init_189 : decode cX8_init 189 = .ok (.newarray .int, 2) := by decide +kernel
theorem dX8_init_191 : decode cX8_init 191 = .ok (.putfield 77, 3) := by decide +kernel
theorem dX8_init_194 : decode cX8_init 194 = .ok (.return_, 1) := by decide +kernel
abbrev vwCl : List vw_C := [(RX0, TX0, 8), (RX1, TX1, 1), (RX2, TX2, 2), (RX3, TX3, 3), (RX4, TX4, 5), (RX5, TX5, 1), (RX6, TX6, 10), (RX7, TX7, 6), (RX8, TX8, 32)]
end
section
/-! Int for machine ints: zi; the worlds of the class (dW) and of the reference (mW); rows over them. -/
def zi (x : Int) : Int32 := Int32.ofInt x
def zf (g : Int → Int) : Nat → Int32 := fun j => zi (g j)
def up (g : Int → Int) (x v : Int) : Int → Int := fun j => if j = x then v else g j
abbrev ZS : Type := Nat → Int → Int
/-- in a machine int's range -/
abbrev ir (x : Int) : Prop := -2147483648 ≤ x ∧ x < 2147483648
theorem zi_add (x y : Int) : zi x + zi y = zi (x + y) := (Int32.ofInt_add x y).symm
theorem zi_sub (x y : Int) : zi x - zi y = zi (x - y) := (Int32.ofInt_sub x y).symm
theorem zi_toInt {x : Int} (h : ir x) : (zi x).toInt = x := Int32.toInt_ofInt_of_le (by have := h.1; omega) (by have := h.2; omega)
theorem zi_lt {x y : Int} (hx : ir x) (hy : ir y) : zi x < zi y ↔ x < y := by rw [Int32.lt_iff_toInt_lt, zi_toInt hx, zi_toInt hy]
theorem zi_le {x y : Int} (hx : ir x) (hy : ir y) : zi x ≤ zi y ↔ x ≤ y := by rw [Int32.le_iff_toInt_le, zi_toInt hx, zi_toInt hy]
theorem zi_cl {x : Int} (h : ir x) : (zi x).toNatClampNeg = x.toNat := Int32.toNatClampNeg_ofInt_of_le (by have := h.1; omega) (by have := h.2; omega)
theorem ir_0 : ir 0 := ⟨by decide, by decide⟩
theorem zf_up (g : Int → Int) {x : Int} (v : Int) (h0 : 0 ≤ x) : zf (up g x v) = upd (zf g) x.toNat (zi v) := by
  funext j
  by_cases h : (j : Int) = x
  · subst h; simp [zf, up, upd]
  · simp only [zf, up, upd, if_neg h]
    rw [if_neg (by omega)]
theorem up_s (g : Int → Int) (x v : Int) : up g x v x = v := if_pos rfl
theorem up_n (g : Int → Int) {x j : Int} (v : Int) (h : j ≠ x) : up g x v j = g j := if_neg h
noncomputable def cif {α : Type} (P : Prop) (a b : α) : α := @ite α P (Classical.propDecidable P) a b
noncomputable def b2 (P : Prop) : Int := cif P 1 0
section ZROWS
variable {p : Program} {l : Launch} {e : Env} {R : Room} {s : State} {m : MethodId} {args : Array Value} {below : List Frame} {meth : Method} {c : Code} {H : Heap} {locs : List Loc} {cells slots : Nat} {Q : State → Prop} {cc : ByteArray} {pc : Nat} {ls : Array Slot} {rest : List Value}
theorem zi_isub (hexec : p.tables.exec = Jvm.exec) (hb : c.code = cc) {x y : Int} (hdg : decode cc pc = .ok (.isub, 1)) (k : W p l e R s m args below meth c H locs cells slots Q (F0 m (pc + 1) ls (.int (zi (x - y)) :: rest))) : W p l e R s m args below meth c H locs cells slots Q (F0 m pc ls (.int (zi y) :: .int (zi x) :: rest)) := lv_isub hexec hb hdg (by rw [zi_sub]; exact k)
theorem zi_iconst (hexec : p.tables.exec = Jvm.exec) (hb : c.code = cc) {n : Int} (hdg : decode cc pc = .ok (.iconst n, 1)) (k : W p l e R s m args below meth c H locs cells slots Q (F0 m (pc + 1) ls (.int (zi n) :: rest))) : W p l e R s m args below meth c H locs cells slots Q (F0 m pc ls rest) := lv_iconst (v := zi n) hexec hb hdg rfl k
theorem zi_bipush (hexec : p.tables.exec = Jvm.exec) (hb : c.code = cc) {n : Int} (hdg : decode cc pc = .ok (.bipush n, 2)) (hn : (Int8.ofInt n).toInt32 = zi n) (k : W p l e R s m args below meth c H locs cells slots Q (F0 m (pc + 2) ls (.int (zi n) :: rest))) : W p l e R s m args below meth c H locs cells slots Q (F0 m pc ls rest) := lv_bipush (v := zi n) hexec hb hdg hn k
theorem zi_sipush (hexec : p.tables.exec = Jvm.exec) (hb : c.code = cc) {n : Int} (hdg : decode cc pc = .ok (.sipush n, 3)) (hn : (Int16.ofInt n).toInt32 = zi n) (k : W p l e R s m args below meth c H locs cells slots Q (F0 m (pc + 3) ls (.int (zi n) :: rest))) : W p l e R s m args below meth c H locs cells slots Q (F0 m pc ls rest) := lv_sipush (v := zi n) hexec hb hdg hn k
theorem zi_iinc (hexec : p.tables.exec = Jvm.exec) (hb : c.code = cc) {i nL k : Nat} {n x : Int} {lv lv' : List (Nat × Value)} (hdg : decode cc pc = .ok (.iinc i n, 3)) (h : lv_has ls nL lv) (hk : lv[k]? = some (i, .int (zi x))) (hn : i < nL) (hl : (i, Value.int (zi (x + n))) :: lv.filter (fun q => !(q.1 == i) && !(q.1 + 1 == i && q.2.category == 2)) = lv')
    (kk : ∀ ls' : Array Slot, lv_has ls' nL lv' → W p l e R s m args below meth c H locs cells slots Q (F0 m (pc + 3) ls' rest)) : W p l e R s m args below meth c H locs cells slots Q (F0 m pc ls rest) := lv_iinc hexec hb hdg h hk (zi_add x n) hn hl kk
theorem zi_is {x : Int} (y : Int) (h : x = y) (k : W p l e R s m args below meth c H locs cells slots Q (F0 m pc ls (.int (zi y) :: rest))) : W p l e R s m args below meth c H locs cells slots Q (F0 m pc ls (.int (zi x) :: rest)) := by rw [h]; exact k
theorem zi_icmp_gt (hexec : p.tables.exec = Jvm.exec) (hb : c.code = cc) {x y : Int} {off : Int} {tgt : Nat} (hx : ir x) (hy : ir y) (hdg : decode cc pc = .ok (.if_icmp .gt off, 3)) (ht : (pc : Int) + off = (tgt : Int)) (kt : y < x → W p l e R s m args below meth c H locs cells slots Q (F0 m tgt ls rest)) (kf : ¬ y < x → W p l e R s m args below meth c H locs cells slots Q (F0 m (pc + 3) ls rest)) : W p l e R s m args below meth c H locs cells slots Q (F0 m pc ls (.int (zi y) :: .int (zi x) :: rest)) := lv_icmp_gt hexec hb hdg ht (fun h => kt ((zi_lt hy hx).mp h)) (fun h => kf (fun h9 => h ((zi_lt hy hx).mpr h9)))
theorem zi_if_le (hexec : p.tables.exec = Jvm.exec) (hb : c.code = cc) {x : Int} {off : Int} {tgt : Nat} (hx : ir x) (hdg : decode cc pc = .ok (.ifCond .le off, 3)) (ht : (pc : Int) + off = (tgt : Int)) (kt : x ≤ 0 → W p l e R s m args below meth c H locs cells slots Q (F0 m tgt ls rest)) (kf : ¬ x ≤ 0 → W p l e R s m args below meth c H locs cells slots Q (F0 m (pc + 3) ls rest)) : W p l e R s m args below meth c H locs cells slots Q (F0 m pc ls (.int (zi x) :: rest)) := lv_if_le hexec hb hdg ht (fun h => kt ((zi_le hx ir_0).mp h)) (fun h => kf (fun h9 => h ((zi_le hx ir_0).mpr h9)))
theorem zi_icmp_ge (hexec : p.tables.exec = Jvm.exec) (hb : c.code = cc) {x y : Int} {off : Int} {tgt : Nat} (hx : ir x) (hy : ir y) (hdg : decode cc pc = .ok (.if_icmp .ge off, 3)) (ht : (pc : Int) + off = (tgt : Int)) (kt : y ≤ x → W p l e R s m args below meth c H locs cells slots Q (F0 m tgt ls rest)) (kf : ¬ y ≤ x → W p l e R s m args below meth c H locs cells slots Q (F0 m (pc + 3) ls rest)) : W p l e R s m args below meth c H locs cells slots Q (F0 m pc ls (.int (zi y) :: .int (zi x) :: rest)) := lv_icmp_ge hexec hb hdg ht (fun h => kt ((zi_le hy hx).mp h)) (fun h => kf (fun h9 => h ((zi_le hy hx).mpr h9)))
theorem zi_iast {D : va_G} {cl : List vw_C} {ws : va_W} {tys : List (ClassId × FieldType)} {a : Nat} {A : Nat → Prop} {H0 : Heap} (hexec : p.tables.exec = Jvm.exec) (hb : c.code = cc) (hK : va_K D cl tys s) (hP : va_P D cl ws H) (hD : va_D A ws) (hS : va_S A H0 H locs) (q0 t0 : Nat) {cA : ClassId} {n : Nat} {g : Int → Int} (ha : ws[q0]? = some (a, .inl (cA, n, .inl (zf g)))) (ht : tys[t0]? = some (cA, .int)) {x v : Int} (h0 : 0 ≤ x) (h1 : x < n) (hn : n < 2147483648) (hdg : decode cc pc = .ok (.iastore, 1)) (kk : ∀ (H1 : Heap) (locs1 : List Loc), va_P D cl (ws.set q0 (a, .inl (cA, n, .inl (zf (up g x v))))) H1 → va_S A H0 H1 locs1 → W p l e R s m args below meth c H1 locs1 cells slots Q (F0 m (pc + 1) ls rest)) : W p l e R s m args below meth c H locs cells slots Q (F0 m pc ls (.int (zi v) :: .int (zi x) :: .ref a :: rest)) := by
  have hr : ir x := ⟨by omega, by omega⟩
  refine va_iast hexec hb hK hP hD hS q0 t0 ha ht (vp_in_iff.mpr (by rw [zi_toInt hr]; exact ⟨h0, h1⟩)) hdg (fun H1 locs1 k1 _ k3 => kk H1 locs1 ?_ k3)
  rw [zf_up g v h0, ← zi_cl hr]
  exact k1
end ZROWS
end
section
def tyL (cI cZ cJ : ClassId) : List (ClassId × FieldType) := [(cI, .int), (cZ, .boolean), (cJ, .long)]
/-- the words of the nest, which are no good words: they ride in the contracts -/
def nWs : List Cond := [.fieldLinkNest RX7 113 "PlanetoidDesk$Bodies" "count" "I" "PlanetoidDesk", .fieldLinkNest RX7 218 "PlanetoidDesk$Paths" "near" "I" "PlanetoidDesk", .fieldLinkNest RX7 221 "PlanetoidDesk$Paths" "all" "I" "PlanetoidDesk", .fieldLinkNest RX7 237 "PlanetoidDesk$Looks" "count" "I" "PlanetoidDesk", .fieldLinkNest RX7 55 "PlanetoidDesk$Sky" "observatoryCount" "I" "PlanetoidDesk", .fieldLinkNest RX7 74 "PlanetoidDesk$Sky" "plateCount" "I" "PlanetoidDesk", .fieldLinkNest RX7 83 "PlanetoidDesk$Sky" "dotCount" "I" "PlanetoidDesk", .fieldLinkNest RX1 24 "PlanetoidDesk$Bodies" "count" "I" "PlanetoidDesk", .methodLinkNest RX7 9 yX6_init "PlanetoidDesk", .methodLinkNest RX7 25 yX2_init "PlanetoidDesk", .methodLinkNest RX7 32 yX3_init "PlanetoidDesk", .methodLinkNest RX7 39 yX4_init "PlanetoidDesk", .methodLinkNest RX7 46 yX1_init "PlanetoidDesk", .methodLinkNest RX3 29 yX7_drift "PlanetoidDesk", .methodLinkNest RX4 60 yX7_drift "PlanetoidDesk", .methodLinkNest RX4 76 yX7_stretch "PlanetoidDesk", .methodLinkNest RX1 54 yX7_bOf "PlanetoidDesk", .methodLinkNest RX1 60 yX7_cOf "PlanetoidDesk"]
theorem nWs_in : ∀ w ∈ nWs, w ∈ lw_tbl := by decide +kernel
theorem nWs_on : ∀ w ∈ nWs, w.onTables = true := by decide +kernel
def NN (U : State) : Prop := ∀ w ∈ nWs, va_Nw w U
theorem NN.warm {s U : State} (hW : s.WarmedH U.vm) (h : NN s) : NN U := List.forall_mem_cons.mpr ⟨va_Nw.warmF hW (h _ (List.mem_of_getElem? (i := 0) rfl)), List.forall_mem_cons.mpr ⟨va_Nw.warmF hW (h _ (List.mem_of_getElem? (i := 1) rfl)), List.forall_mem_cons.mpr ⟨va_Nw.warmF hW (h _ (List.mem_of_getElem? (i := 2) rfl)), List.forall_mem_cons.mpr ⟨va_Nw.warmF hW (h _ (List.mem_of_getElem? (i := 3) rfl)), List.forall_mem_cons.mpr ⟨va_Nw.warmF hW (h _ (List.mem_of_getElem? (i := 4) rfl)), List.forall_mem_cons.mpr ⟨va_Nw.warmF hW (h _ (List.mem_of_getElem? (i := 5) rfl)), List.forall_mem_cons.mpr ⟨va_Nw.warmF hW (h _ (List.mem_of_getElem? (i := 6) rfl)), List.forall_mem_cons.mpr ⟨va_Nw.warmF hW (h _ (List.mem_of_getElem? (i := 7) rfl)), List.forall_mem_cons.mpr ⟨va_Nw.warmM hW (h _ (List.mem_of_getElem? (i := 8) rfl)), List.forall_mem_cons.mpr ⟨va_Nw.warmM hW (h _ (List.mem_of_getElem? (i := 9) rfl)), List.forall_mem_cons.mpr ⟨va_Nw.warmM hW (h _ (List.mem_of_getElem? (i := 10) rfl)), List.forall_mem_cons.mpr ⟨va_Nw.warmM hW (h _ (List.mem_of_getElem? (i := 11) rfl)), List.forall_mem_cons.mpr ⟨va_Nw.warmM hW (h _ (List.mem_of_getElem? (i := 12) rfl)), List.forall_mem_cons.mpr ⟨va_Nw.warmM hW (h _ (List.mem_of_getElem? (i := 13) rfl)), List.forall_mem_cons.mpr ⟨va_Nw.warmM hW (h _ (List.mem_of_getElem? (i := 14) rfl)), List.forall_mem_cons.mpr ⟨va_Nw.warmM hW (h _ (List.mem_of_getElem? (i := 15) rfl)), List.forall_mem_cons.mpr ⟨va_Nw.warmM hW (h _ (List.mem_of_getElem? (i := 16) rfl)), List.forall_mem_cons.mpr ⟨va_Nw.warmM hW (h _ (List.mem_of_getElem? (i := 17) rfl)), (fun _ h => absurd h List.not_mem_nil)⟩⟩⟩⟩⟩⟩⟩⟩⟩⟩⟩⟩⟩⟩⟩⟩⟩⟩
theorem NN.same {u U : State} (hv : u.vm = U.vm) (h : NN u) : NN U := fun w hw => va_Nw.same (nWs_on w hw) hv (h w hw)
def KK (D : va_G) (cI cZ cJ : ClassId) (U : State) : Prop := va_K D vwCl (tyL cI cZ cJ) U ∧ NN U
theorem KK.warm {D : va_G} {cI cZ cJ : ClassId} {s U : State} (hW : s.WarmedH U.vm) (h : KK D cI cZ cJ s) : KK D cI cZ cJ U := ⟨va_K.moved hW.alike h.1, NN.warm hW h.2⟩
theorem KK.same {D : va_G} {cI cZ cJ : ClassId} {u U : State} (hv : u.vm = U.vm) (h : KK D cI cZ cJ u) : KK D cI cZ cJ U := ⟨va_K.moved (by rw [hv]; exact Vm.Alike.refl U.vm) h.1, NN.same hv h.2⟩
/-- a contract's start: the arguments, the world, the tables -/
def zP (D : va_G) (cI cZ cJ : ClassId) (B : va_W) (av : List Value) : Array Value → State → Prop := va_Pc av (fun U => va_P D vwCl B U.heap ∧ KK D cI cZ cJ U)
theorem zP_blind {D : va_G} {cI cZ cJ : ClassId} {B : va_W} {av : List Value} : FrameBlind (zP D cI cZ cJ B av) := fun a U g mk h => ⟨h.1, h.2.1, KK.same (u := U) (U := U.calling g mk a) rfl h.2.2⟩
section ZCALL
variable {p : Program} {l : Launch} {e : Env} {R : Room} {s : State} {m : MethodId} {args : Array Value} {below : List Frame} {meth : Method} {c : Code} {H H0 : Heap} {locs : List Loc} {cells slots : Nat} {Q : State → Prop} {cc : ByteArray} {pc : Nat} {ls : Array Slot} {rest st0 : List Value}
variable {D : va_G} {cI cZ cJ : ClassId} {B : va_W} {As : List Value} {Qc : Array Value → State → Outcome → State → Prop} {y : MethodName} {ws Ts : List Cond} {rm : Room} {free A : Addr → Prop} {bytes : ByteArray} {maxL nL n index : Nat} {ret : Option FieldType} {own C host : String} {b : Addr} {v : Value} {a : Array Value} {mc ms : Nat}
end ZCALL
end
section
def mLo : Nat → Int := fun k => match k with | 0 => -9 | 1 => 0 | 2 => 0 | 3 => 0 | 4 => 0 | 5 => 0 | 6 => 0 | 7 => 0 | 8 => 0 | 9 => 0 | 10 => -1 | 11 => 0 | 12 => -1 | 13 => 0 | 14 => 0 | 15 => -40 | 16 => -2 | 17 => 0 | 18 => 0 | 19 => 0 | 20 => 0 | 21 => 0 | 22 => 0 | 23 => 0 | 24 => -1 | 25 => -1 | 26 => 0 | 27 => 0 | 28 => 0 | 29 => 0 | 30 => -1 | 31 => 0 | _ => 0
def mHi : Nat → Int := fun k => match k with | 0 => 9 | 1 => 6 | 2 => 9 | 3 => 30 | 4 => 5 | 5 => 999 | 6 => 60 | 7 => 29 | 8 => 3599 | 9 => 99 | 10 => 19 | 11 => 20 | 12 => 19 | 13 => 100000 | 14 => 20 | 15 => 40 | 16 => 2 | 17 => 100000 | 18 => 20 | 19 => 60 | 20 => 59 | 21 => 7695 | 22 => 1457999 | 23 => 7695 | 24 => 7694 | 25 => 7694 | 26 => 12963599 | 27 => 1 | 28 => 100 | 29 => 99 | 30 => 19 | 31 => 3 | _ => 0
/-- every cell of each row is within the row's bounds -/
def MI (S : ZS) : Prop := ∀ (k : Nat) (j : Int), mLo k ≤ S k j ∧ S k j ≤ mHi k
def rFill (n : Int) (g : Int → Int) (v : Int) : Int → Int := fun j => if 0 ≤ j ∧ j < n then v else g j
theorem zi_nat (n : Nat) : Int32.ofNat n = zi (n : Int) := by
  unfold zi; exact (Int32.ofInt_eq_ofNat).symm
/-- a world with the cells of one array named -/
def rW (ws : va_W) (j b : Nat) (cI : ClassId) (n : Nat) (g : Int → Int) : va_W := ws.set j (b, .inl (cI, n, .inl (zf g)))
theorem rW_o {ws : va_W} {i j b n : Nat} {cI : ClassId} {g : Int → Int} {q : Nat × va_E} (hi : ws[i]? = some q) (h : i ≠ j) : (rW ws j b cI n g)[i]? = some q := by
  rw [rW, List.getElem?_set_ne (Ne.symm h)]; exact hi
theorem rW_a {ws : va_W} {j b n : Nat} {cI : ClassId} {g : Int → Int} (h : j < ws.length) : (rW ws j b cI n g)[j]? = some (b, .inl (cI, n, .inl (zf g))) := by
  rw [rW, List.getElem?_set_self h]
theorem rW_s {ws : va_W} {j b n : Nat} {cI : ClassId} {g g' : Int → Int} : (rW ws j b cI n g).set j (b, .inl (cI, n, .inl (zf g'))) = rW ws j b cI n g' := by
  rw [rW, rW, List.set_set]
end
section
theorem in_X5_fill_5 : ∀ w ∈ wsX50, w ∈ wsX5_fill := by decide +kernel
theorem lk_X5_fill_7 : Cond.fieldLink RX5 7 "PlanetoidDesk$Row" "cells" "[I" ∈ wsX5_fill := by decide +kernel
abbrev rmct_X5_fill : Room := { frames := 0, cells := 0, slots := 0, locals := 0 }
set_option maxHeartbeats 4000000 in
set_option maxRecDepth 100000 in
theorem ct_X5_fill (l : Launch) (D : va_G) (cI cZ cJ : ClassId) (ws : va_W) (A : Nat → Prop) (h b i j n : Nat) (g : Int → Int) (v : Int) (hi : ws[i]? = some (h, .inr (5, [.ref b]))) (hj : j < ws.length) (hij : i ≠ j) (hD : ∀ g, va_D A (rW ws j b cI n g)) (hn : n < 2147483648) : Met l yX5_fill wsX5_fill rmct_X5_fill (zP D cI cZ cJ (rW ws j b cI n g) [.ref h, .int (zi v)]) (va_Qv (S := Int → Int) (fun g9 => g9 = rFill n g v) (fun g9 t => va_P D vwCl (rW ws j b cI n g9) t.heap) A) 0 0 A := by
  refine Met.ofW (cc := cX5_fill) (maxL := 3) (ret := none) (by decide) rfl ?_
  intro p e s m args below meth c s₁ B hml hv
  obtain ⟨rfl, hP, hK⟩ := hv
  have hx := B.exec
  have hb := B.bytes
  have hr := B.returns
  have hts := atoms_spec (ws := wsX5_fill) B.pre
  have hown : s.vm.findClass RX5 = some m.cls := findClass_of_methodNamed B.named
  have hlocks := B.notSynchronized
  have hl := lv_entry ([.ref h, .int (zi v)]) (n := 3) (Nat.le_of_ble_eq_true rfl)
  rw [lg_entry_eq]
  generalize (lg_sl ([.ref h, .int (zi v)]) ++ List.replicate (3 - (lg_sl ([.ref h, .int (zi v)])).length) Slot.unset).toArray = ls at hl ⊢
  have hl : lv_has ls 3 [(0, .ref h), (1, .int (zi v))] := hl
  have hS : va_S A s.heap s.heap [] := va_S.rf
  have K : ∀ (k : Nat) (i2 : Int) (g9 : Int → Int), 0 ≤ i2 → i2 ≤ (n : Int) → (g9 = fun q => if 0 ≤ q ∧ q < i2 then v else g q) → ((n : Int) - i2 < (k : Int)) → ∀ (H : Heap) (locs : List Loc), va_P D vwCl (rW ws j b cI n g9) H → va_S A s.heap H locs → ∀ (ls : Array Slot), lv_has ls 3 [(0, .ref h), (1, .int (zi v)), (2, .int (zi i2))] → W p l e rmct_X5_fill s m ([.ref h, .int (zi v)] : List Value).toArray below meth c H locs 0 0 (MQ below (va_Qv (S := Int → Int) (fun g9 => g9 = rFill n g v) (fun g9 t => va_P D vwCl (rW ws j b cI n g9) t.heap) A) ([.ref h, .int (zi v)] : List Value).toArray s 0 0 A) (F0 m 2 ls []) := by
    intro k
    induction k with
    | zero => intro i2 g9 h0 h1 hg hk; exact absurd hk (by omega)
    | succ k ih =>
      intro i2 g9 h0 h1 hg hk H locs hP hS ls hl
      refine lv_iload_n hx hb dX5_fill_2 rfl (lv_at hl 2 rfl) ?_
      refine lv_aload_n hx hb dX5_fill_3 rfl (lv_at hl 0 rfl) ?_
      refine va_get (D := D) (ci := 5) (v := .ref b) (C := RX5) (T := TX5) (N := 1) hx hb hts in_X5_fill_5 hown hK.1 hP i (rW_o hi hij) rfl 0 (by decide) (hts _ lk_X5_fill_7) (fun _ h9 => h9) rfl dX5_fill_4 ?_
      refine va_alen hx hb hK.1 hP j 0 (rW_a hj) rfl (v := zi n) (zi_nat n) dX5_fill_7 ?_
      refine zi_icmp_ge (tgt := 24) hx hb ⟨by omega, by omega⟩ ⟨by omega, by omega⟩ dX5_fill_8 (by decide) (fun c_8 => ?_) (fun c_8 => ?_)
      · have e2 : g9 = rFill n g v := by
          have e3 : i2 = (n : Int) := by omega
          rw [hg, e3]; rfl
        exact W.vret hx hb hr (fun t ht _ => ⟨⟨_, rfl, rfl, by show va_P D vwCl (rW ws j b cI n (rFill n g v)) t.heap; rw [ht, ← e2]; exact hP⟩, hS.F ht⟩) hS.2.2 dX5_fill_24 hlocks
      · refine lv_aload_n hx hb dX5_fill_11 rfl (lv_at hl 0 rfl) ?_
        refine va_get (D := D) (ci := 5) (v := .ref b) (C := RX5) (T := TX5) (N := 1) hx hb hts in_X5_fill_5 hown hK.1 hP i (rW_o hi hij) rfl 0 (by decide) (hts _ lk_X5_fill_7) (fun _ h9 => h9) rfl dX5_fill_12 ?_
        refine lv_iload_n hx hb dX5_fill_15 rfl (lv_at hl 2 rfl) ?_
        refine lv_iload_n hx hb dX5_fill_16 rfl (lv_at hl 1 rfl) ?_
        refine zi_iast hx hb hK.1 hP (hD g9) hS j 0 (rW_a hj) rfl (by omega) (by omega) hn dX5_fill_17 (fun H locs hP hS => ?_)
        rw [rW_s] at hP
        refine zi_iinc (k := 2) (lv' := [(2, .int (zi (i2 + 1))), (0, .ref h), (1, .int (zi v))]) hx hb dX5_fill_18 hl rfl (by decide) rfl (fun ls hl => ?_)
        refine lv_goto (tgt := 2) hx hb dX5_fill_21 (by decide) ?_
        exact ih (i2 + 1) (up g9 i2 v) (by omega) (by omega) (by
          funext q
          rw [hg]
          by_cases hq : q = i2
          · subst hq; rw [up_s, if_pos ⟨h0, by omega⟩]
          · rw [up_n _ _ hq]
            by_cases h3 : 0 ≤ q ∧ q < i2
            · rw [if_pos h3, if_pos ⟨h3.1, by omega⟩]
            · rw [if_neg h3, if_neg (by omega)]) (by omega) H locs hP hS ls (lv_sub hl [1, 2, 0] rfl)
  show W p l e rmct_X5_fill s m ([.ref h, .int (zi v)] : List Value).toArray below meth c s.heap [] 0 0 (MQ below (va_Qv (S := Int → Int) (fun g9 => g9 = rFill n g v) (fun g9 t => va_P D vwCl (rW ws j b cI n g9) t.heap) A) ([.ref h, .int (zi v)] : List Value).toArray s 0 0 A) (F0 m 0 ls [])
  refine zi_iconst hx hb dX5_fill_0 ?_
  refine lv_istore_n (lv' := [(2, .int (zi 0)), (0, .ref h), (1, .int (zi v))]) hx hb dX5_fill_1 rfl hl (by decide) rfl (fun ls hl => ?_)
  exact K (n + 1) 0 g (by omega) (by omega) (by funext q; rw [if_neg (by omega)]) (by omega) _ _ hP hS ls (lv_sub hl [1, 2, 0] rfl)
end
section
/-! the desk's own steps, as programs over the numbers -/
/-- the rows that no call's answer rests on: scratch -/
def scr (k : Nat) : Bool := (12 ≤ k && k ≤ 19) || (26 ≤ k && k ≤ 28)
/-- alike but for scratch -/
def SC (S T : ZS) : Prop := ∀ k : Nat, scr k = false → T k = S k
theorem SC.rf {S : ZS} : SC S S := fun _ _ => rfl
end
section
/-! the reference: as programs over its numbers (field k is row k) -/
def mvM (b c t : Int) : Int := b * t + c * (t * (t - 1) / 2)
/-- the reference's scratch -/
def scm (k : Nat) : Bool := (19 ≤ k && k ≤ 30)
def SM (S T : ZS) : Prop := ∀ k : Nat, scm k = false → T k = S k
theorem SM.rf {S : ZS} : SM S S := fun _ _ => rfl
end
section
/-! the reference, third part -/
def plM (i t : Int) : Int := (i / 405 + mvM (i % 405 / 5 - 40) (i % 5 - 2) t) % 3600
end
section
def xIOB : String := "java/lang/IndexOutOfBoundsException"
def xIAE : String := "java/lang/IllegalArgumentException"
def xISE : String := "java/lang/IllegalStateException"
def xNS : List String := ["java/lang/RuntimeException", "java/lang/Exception"]
def xTx : List (Nat × String) := [(243, "there is no such one"), (246, "an argument is out of its range"), (61, "there are 6 observatories"), (77, "there are 30 plates"), (86, "there are 60 dots"), (111, "the dot is not unlinked"), (116, "there are 20 bodies"), (129, "the dot cannot be linked to the body"), (140, "the dot is no own dot of the body, or the only one"), (145, "the bodies cannot be joined"), (156, "no body is joined to it"), (164, "the body cannot get a number"), (208, "there is no rank below 0")]
def xB : List Cond := (vx_atS RX7 245 xIOB xNS ++ (vx_atS RX7 210 xIAE xNS ++ vx_atS RX7 63 xISE xNS)).filter (fun w => !goodWord w)
/-- what a throw of the desk needs of the state: the statics of Throwable, the texts, the words -/
def xP (sa : Nat → Nat) (A : Nat → Prop) (U : State) (H : Heap) : Prop := vx_Zq Bundle.tN "UNASSIGNED_STACK" Bundle.steD A U H ∧ vx_Zq Bundle.tN "SUPPRESSED_SENTINEL" Bundle.listD A U H ∧ (∀ (k : Nat) (q : Nat × String), xTx[k]? = some q → vk_R RX7 q.1 q.2 (sa k) U) ∧ ∀ w ∈ xB, w.before #[] U = true
end
section
theorem xB_w : ∀ w ∈ xB, w.warmB w.codeNames = true := by decide +kernel
theorem xB_o : ∀ w ∈ xB, w.onTables = true := by decide +kernel
theorem xP.warm {sa : Nat → Nat} {A : Nat → Prop} {s U : State} {H : Heap} {locs : List Loc} (hW : s.WarmedH U.vm) (hS : va_S A s.heap H locs) (hU : U.heap = H) (h : xP sa A s s.heap) : xP sa A U U.heap := by
  rw [hU]
  exact ⟨(h.1.kept hS.2.1).moved hW.alike, (h.2.1.kept hS.2.1).moved hW.alike, fun k q hk => vk_R.warm hW (h.2.2.1 k q hk), fun w hw => va_tabs (u := s.setVm U.vm) (xB_o w hw) rfl (Cond.pre_warmed hW (xB_w w hw) (h.2.2.2 w hw))⟩
section XPUB
variable {p : Program} {l : Launch} {e : Env} {R : Room} {s : State} {m : MethodId} {args : Array Value} {below : List Frame} {meth : Method} {c : Code} {H : Heap} {locs : List Loc} {cells slots : Nat} {cc : ByteArray} {pc : Nat} {ls : Array Slot} {rest st0 : List Value}
variable {D : va_G} {cI : ClassId} {ad : Nat → Nat} {B : va_W} {As : List Value} {y : MethodName} {ws Ts : List Cond} {rm : Room} {A : Addr → Prop} {bytes : ByteArray} {maxL nL n index : Nat} {ret : Option FieldType} {own : String} {P : Prop} {E0 : String} {sa : Nat → Nat} {mc ms : Nat}
end XPUB
end
section
def E9 (M : ZS) : Prop := ∀ x : Int, 0 ≤ M 2 x ∧ M 2 x ≤ 9
/-- the rows of the reference that are not its scratch are within their bounds -/
def MB (M : ZS) : Prop := ∀ (k : Fin 19) (j : Int), mLo k.val ≤ M k.val j ∧ M k.val j ≤ mHi k.val
theorem MB.of {M : ZS} (h : MI M) : MB M := fun k j => h k.val j
theorem SM.le {T M : ZS} (e : SM M T) : ∀ q : Nat, q ≤ 18 → T q = M q := fun q hq => e q (by
  unfold scm
  rw [decide_eq_false (show ¬ 19 ≤ q by omega)]; rfl)
theorem E9.of {M : ZS} (h : MB M) : E9 M := fun x => h 2 x
/-! a row that is filled from its front: its number stands in c -/
/-! the keys of the orbits, in the order of courses, then along the arcs -/
end
section
/-! what is found: the same keys -/
/-- how many of the keys are at a place -/
def often (l : List Int) (n p : Int) : Int := l.countP (fun x => decide (plM x n = p))
end
section
/-! the orbit at a rank: by halves, or by the tallies -/
def below (l : List Int) (y : Int) : Int := l.countP (fun x => decide (x < y))
/-! how often a key stands in the list: once, or not -/
end
section
theorem va_D.set_arr {A : Nat → Prop} {ws : va_W} (h : va_D A ws) (j : Nat) {b : Nat} {cI : ClassId} {n : Nat} {g g' : Int → Int} (hj : ws[j]? = some (b, .inl (cI, n, .inl (zf g)))) : va_D A (rW ws j b cI n g') := by
  have hlt : j < ws.length := (List.getElem?_eq_some_iff.mp hj).1
  have key : ∀ (i : Nat) (q : Nat × va_E), (rW ws j b cI n g')[i]? = some q → ∃ q', ws[i]? = some q' ∧ q'.1 = q.1 := fun i q hq => by
    by_cases e : i = j
    · subst e
      rw [rW_a hlt] at hq
      cases hq
      exact ⟨_, hj, rfl⟩
    · rw [rW, List.getElem?_set_ne (Ne.symm e)] at hq
      exact ⟨q, hq, rfl⟩
  refine ⟨fun i k p q hp hq e => ?_, fun i q hq => ?_⟩
  · obtain ⟨p', hp', e1⟩ := key i p hp
    obtain ⟨q', hq', e2⟩ := key k q hq
    exact h.1 i k p' q' hp' hq' (by rw [e1, e2, e])
  · obtain ⟨q', hq', e2⟩ := key i q hq
    rw [← e2]; exact h.2 i q' hq'
theorem oml_X5_init : Cond.methodLink RX5 1 objectInit ∈ wsX5_init := by decide +kernel
theorem oin_X5_init : Cond.instanceMethod objectInit ∈ wsX5_init := by decide +kernel
theorem oco_X5_init : Cond.code objectInit ⟨#[0xb1]⟩ 1 none ∈ wsX5_init := by decide +kernel
theorem arr_X5_init : Cond.arrayClass .int ∈ wsX5_init := by decide +kernel
theorem lk_X5_init : Cond.fieldLink RX5 7 "PlanetoidDesk$Row" "cells" "[I" ∈ wsX5_init := by decide +kernel
theorem ic_X5_init : ∀ w ∈ wsX50, w ∈ wsX5_init := by decide +kernel
set_option maxHeartbeats 4000000 in
set_option maxRecDepth 100000 in
/-- Row(n): its cells, all 0 -/
theorem ct_X5_init (l : Launch) (D : va_G) (cI cZ cJ : ClassId) (h0 sz : Nat) (n : Int) (N : Nat) (hnN : n = N) (hn0 : 0 < N) (hn1 : N ≤ 3600) : Met l yX5_init wsX5_init { frames := 1, cells := 1, slots := N, locals := 12 } (va_Pc [.ref h0, .int (zi n)] (fun U => U.heap.size = sz ∧ va_P D vwCl [(h0, .inr (5, [.null]))] U.heap ∧ KK D cI cZ cJ U ∧ va_D (fun _ => True) [(h0, .inr (5, [.null]))])) (va_Qv (S := Nat) (fun _ => True) (fun u t => va_P D vwCl [(h0, .inr (5, [.ref u])), (u, .inl (cI, N, .inl (zf (fun _ => 0))))] t.heap ∧ va_D (va_A [(h0, .inr (5, [.null]))] sz) [(h0, .inr (5, [.ref u])), (u, .inl (cI, N, .inl (zf (fun _ => 0))))]) (va_A [(h0, .inr (5, [.null]))] sz)) 1 N (va_A [(h0, .inr (5, [.null]))] sz) := by
  refine Met.ofW (cc := cX5_init) (maxL := 2) (ret := none) (by decide) rfl ?_
  intro p e s m args below meth c s₁ B hml hv
  obtain ⟨rfl, hsz, hP, hK, hD0⟩ := hv
  have hx := B.exec
  have hb := B.bytes
  have hr := B.returns
  have hts := atoms_spec (ws := wsX5_init) B.pre
  have hown : s.vm.findClass RX5 = some m.cls := findClass_of_methodNamed B.named
  have hlocks := B.notSynchronized
  have hin : meth.name = "<init>" := (name_of_methodNamed B.named B.method).1
  subst hsz
  have hD := hD0.self (sz := s.heap.size)
  generalize hAe : va_A [(h0, .inr (5, [.null]))] s.heap.size = A at hD ⊢
  have hA : ∀ q : Nat, s.heap.size ≤ q → A q := fun q h => by rw [← hAe]; exact Or.inr h
  have hS : va_S A s.heap s.heap [] := va_S.rf
  have hP : va_P D vwCl [(h0, .inr (5, [.null]))] s.heap := hP
  have hl := lv_entry ([.ref h0, .int (zi n)]) (n := 2) (Nat.le_of_ble_eq_true rfl)
  rw [lg_entry_eq]
  generalize (lg_sl ([.ref h0, .int (zi n)]) ++ List.replicate (2 - (lg_sl ([.ref h0, .int (zi n)])).length) Slot.unset).toArray = ls at hl ⊢
  have hl : lv_has ls 2 [(0, .ref h0), (1, .int (zi n))] := hl
  refine lv_aload_n hx hb dX5_init_0 rfl (lv_at hl 0 rfl) ?_
  refine W.objInit hx hb hown (hts _ oml_X5_init) (hts _ oin_X5_init) (hts _ oco_X5_init) rfl (by rw [hml]; exact hl.1) rfl dX5_init_1 (Nat.le_of_ble_eq_true rfl) (Nat.le_of_ble_eq_true rfl) ?_
  refine W.eq (g2 := F0 m 4 ls []) rfl ?_
  refine lv_aload_n hx hb dX5_init_4 rfl (lv_at hl 0 rfl) ?_
  refine lv_iload_n hx hb dX5_init_5 rfl (lv_at hl 1 rfl) ?_
  refine zi_if_le (tgt := 13) hx hb ⟨by omega, by omega⟩ dX5_init_6 (by decide) (fun c_6 => ?_) (fun c_6 => ?_)
  · exact absurd c_6 (by omega)
  refine lv_iload_n hx hb dX5_init_9 rfl (lv_at hl 1 rfl) ?_
  refine lv_goto (tgt := 14) hx hb dX5_init_10 (by decide) ?_
  refine va_newa (atype := .int) (a0 := (N, .inl (zf (fun _ => 0)))) (N' := N) hx hb (hts _ arr_X5_init) (ty := .int) rfl hK.1 hP hD hS hA (fun _ => rfl) ?_ ?_ ?_ (by show 0 + 1 ≤ 1; omega) (by show 0 + N ≤ N; omega) dX5_init_14 (fun b14 cA H hKa hP hD hS => ?_)
  · rw [Int32.lt_iff_toInt_lt, zi_toInt ⟨by omega, by omega⟩]
    show ¬ n < 0
    omega
  · rw [Int32.toNatClampNeg, zi_toInt ⟨by omega, by omega⟩]; omega
  · show N * 4 ≤ 536870912
    omega
  have ecA : cA = cI := Option.some.inj ((va_nm_int (hKa.2 3 _ rfl).2).symm.trans (va_nm_int (hK.1.2 0 _ rfl).2))
  rw [ecA] at hP hD
  clear hKa ecA
  have hP : va_P D vwCl [(h0, .inr (5, [.null])), (b14, .inl (cI, N, .inl (zf (fun _ => 0))))] H := hP
  have hD : va_D A [(h0, .inr (5, [.null])), (b14, .inl (cI, N, .inl (zf (fun _ => 0))))] := hD
  refine va_putF (D := D) (ci := 5) (v := .ref b14) (ty := (.array .int)) (C := RX5) (T := TX5) (N := 1) hx hb hts ic_X5_init tyX5 tyX5_ok nmX5 hown hK.1 hP hD hS 0 rfl rfl 0 (by decide) (hts _ lk_X5_init) (fun _ h9 => h9) rfl hin rfl (by decide +kernel) rfl rfl (Nat.le_of_ble_eq_true rfl) dX5_init_16 (fun H locs hP hD hS => ?_)
  refine W.widen (k := 1) (n := N) (by omega) (by omega) ?_
  exact W.vret hx hb hr (fun t ht hW => ⟨⟨b14, rfl, trivial, by rw [ht]; exact hP, hD⟩, hS.F ht⟩) hS.2.2 dX5_init_19
theorem oml_X6_init : Cond.methodLink RX6 3 objectInit ∈ wsX6_init := by decide +kernel
theorem oin_X6_init : Cond.instanceMethod objectInit ∈ wsX6_init := by decide +kernel
theorem oco_X6_init : Cond.code objectInit ⟨#[0xb1]⟩ 1 none ∈ wsX6_init := by decide +kernel
theorem ic_X6_init_5 : ∀ w ∈ wsX50, w ∈ wsX6_init := by decide +kernel
theorem cl5_X6_init : Cond.classLink RX6 9 RX5 ∈ wsX6_init := by decide +kernel
theorem ins5_X6_init : Cond.instantiable RX5 1 ∈ wsX6_init := by decide +kernel
theorem ini5_X6_init : Cond.initialized RX5 ∈ wsX6_init := by decide +kernel
theorem iniX5_init_X6_init : Cond.initialized RX5 ∈ wsX6_init := by decide +kernel
theorem inmX5_init_X6_init : Cond.instanceMethod yX5_init ∈ wsX6_init := by decide +kernel
theorem mlX5_init_X6_init : Cond.methodLink RX6 11 yX5_init ∈ wsX6_init := by decide +kernel
theorem ic_X6_init_6 : ∀ w ∈ wsX60, w ∈ wsX6_init := by decide +kernel
theorem lk0_X6_init : Cond.fieldLink RX6 14 "PlanetoidDesk$Sky" "errors" "LPlanetoidDesk$Row;" ∈ wsX6_init := by decide +kernel
theorem lk1_X6_init : Cond.fieldLink RX6 20 "PlanetoidDesk$Sky" "plateObservatories" "LPlanetoidDesk$Row;" ∈ wsX6_init := by decide +kernel
theorem lk2_X6_init : Cond.fieldLink RX6 23 "PlanetoidDesk$Sky" "plateNights" "LPlanetoidDesk$Row;" ∈ wsX6_init := by decide +kernel
theorem lk3_X6_init : Cond.fieldLink RX6 26 "PlanetoidDesk$Sky" "dotPlates" "LPlanetoidDesk$Row;" ∈ wsX6_init := by decide +kernel
theorem lk4_X6_init : Cond.fieldLink RX6 29 "PlanetoidDesk$Sky" "dotPlaces" "LPlanetoidDesk$Row;" ∈ wsX6_init := by decide +kernel
theorem lk5_X6_init : Cond.fieldLink RX6 32 "PlanetoidDesk$Sky" "dotLights" "LPlanetoidDesk$Row;" ∈ wsX6_init := by decide +kernel
theorem lk6_X6_init : Cond.fieldLink RX6 35 "PlanetoidDesk$Sky" "shifts" "LPlanetoidDesk$Row;" ∈ wsX6_init := by decide +kernel
set_option maxHeartbeats 4000000 in
set_option maxRecDepth 100000 in
theorem ct_X6_init (l : Launch) (D : va_G) (cI cZ cJ : ClassId) (h0 sz : Nat) : Met l yX6_init wsX6_init { frames := 2, cells := 14, slots := 262, locals := 33 } (va_Pc [.ref h0] (fun U => U.heap.size = sz ∧ va_P D vwCl [(h0, .inr (6, [.null, .null, .null, .null, .null, .null, .null, .int (zi 0), .int (zi 0), .int (zi 0)]))] U.heap ∧ KK D cI cZ cJ U ∧ va_D (fun _ => True) [(h0, .inr (6, [.null, .null, .null, .null, .null, .null, .null, .int (zi 0), .int (zi 0), .int (zi 0)]))])) (va_Qv (S := Nat → Nat) (fun _ => True) (fun u t => va_P D vwCl [(h0, .inr (6, [.ref (u 0), .ref (u 2), .ref (u 4), .ref (u 6), .ref (u 8), .ref (u 10), .ref (u 12), .int (zi 0), .int (zi 0), .int (zi 0)])), ((u 0), .inr (5, [.ref (u 1)])), ((u 1), .inl (cI, 6, .inl (zf (fun _ => 0)))), ((u 2), .inr (5, [.ref (u 3)])), ((u 3), .inl (cI, 30, .inl (zf (fun _ => 0)))), ((u 4), .inr (5, [.ref (u 5)])), ((u 5), .inl (cI, 30, .inl (zf (fun _ => 0)))), ((u 6), .inr (5, [.ref (u 7)])), ((u 7), .inl (cI, 60, .inl (zf (fun _ => 0)))), ((u 8), .inr (5, [.ref (u 9)])), ((u 9), .inl (cI, 60, .inl (zf (fun _ => 0)))), ((u 10), .inr (5, [.ref (u 11)])), ((u 11), .inl (cI, 60, .inl (zf (fun _ => 0)))), ((u 12), .inr (5, [.ref (u 13)])), ((u 13), .inl (cI, 9, .inl (zf (fun _ => 0))))] t.heap ∧ va_D (va_A [(h0, .inr (6, [.null, .null, .null, .null, .null, .null, .null, .int (zi 0), .int (zi 0), .int (zi 0)]))] sz) [(h0, .inr (6, [.ref (u 0), .ref (u 2), .ref (u 4), .ref (u 6), .ref (u 8), .ref (u 10), .ref (u 12), .int (zi 0), .int (zi 0), .int (zi 0)])), ((u 0), .inr (5, [.ref (u 1)])), ((u 1), .inl (cI, 6, .inl (zf (fun _ => 0)))), ((u 2), .inr (5, [.ref (u 3)])), ((u 3), .inl (cI, 30, .inl (zf (fun _ => 0)))), ((u 4), .inr (5, [.ref (u 5)])), ((u 5), .inl (cI, 30, .inl (zf (fun _ => 0)))), ((u 6), .inr (5, [.ref (u 7)])), ((u 7), .inl (cI, 60, .inl (zf (fun _ => 0)))), ((u 8), .inr (5, [.ref (u 9)])), ((u 9), .inl (cI, 60, .inl (zf (fun _ => 0)))), ((u 10), .inr (5, [.ref (u 11)])), ((u 11), .inl (cI, 60, .inl (zf (fun _ => 0)))), ((u 12), .inr (5, [.ref (u 13)])), ((u 13), .inl (cI, 9, .inl (zf (fun _ => 0))))]) (va_A [(h0, .inr (6, [.null, .null, .null, .null, .null, .null, .null, .int (zi 0), .int (zi 0), .int (zi 0)]))] sz)) 14 262 (va_A [(h0, .inr (6, [.null, .null, .null, .null, .null, .null, .null, .int (zi 0), .int (zi 0), .int (zi 0)]))] sz) := by
  refine Met.ofW (cc := cX6_init) (maxL := 1) (ret := none) (by decide) rfl ?_
  intro p e s m args below meth c s₁ B hml hv
  obtain ⟨rfl, hsz, hP, hK, hD0⟩ := hv
  have hx := B.exec
  have hb := B.bytes
  have hr := B.returns
  have hts := atoms_spec (ws := wsX6_init) B.pre
  have hown : s.vm.findClass RX6 = some m.cls := findClass_of_methodNamed B.named
  have hlocks := B.notSynchronized
  have hin : meth.name = "<init>" := (name_of_methodNamed B.named B.method).1
  subst hsz
  have hD := hD0.self (sz := s.heap.size)
  generalize hAe : va_A [(h0, .inr (6, [.null, .null, .null, .null, .null, .null, .null, .int (zi 0), .int (zi 0), .int (zi 0)]))] s.heap.size = A at hD ⊢
  have hA : ∀ q : Nat, s.heap.size ≤ q → A q := fun q h => by rw [← hAe]; exact Or.inr h
  have hS : va_S A s.heap s.heap [] := va_S.rf
  have hP : va_P D vwCl [(h0, .inr (6, [.null, .null, .null, .null, .null, .null, .null, .int (zi 0), .int (zi 0), .int (zi 0)]))] s.heap := hP
  have hl := lv_entry ([.ref h0]) (n := 1) (Nat.le_of_ble_eq_true rfl)
  rw [lg_entry_eq]
  generalize (lg_sl ([.ref h0]) ++ List.replicate (1 - (lg_sl ([.ref h0])).length) Slot.unset).toArray = ls at hl ⊢
  have hl : lv_has ls 1 [(0, .ref h0)] := hl
  refine lv_aload_n hx hb dX6_init_0 rfl (lv_at hl 0 rfl) ?_
  refine W.objInit hx hb hown (hts _ oml_X6_init) (hts _ oin_X6_init) (hts _ oco_X6_init) rfl (by rw [hml]; exact hl.1) rfl dX6_init_1 (Nat.le_of_ble_eq_true rfl) (Nat.le_of_ble_eq_true rfl) ?_
  refine W.eq (g2 := F0 m 4 ls []) rfl ?_
  refine lv_aload_n hx hb dX6_init_4 rfl (lv_at hl 0 rfl) ?_
  refine va_new (ci := 5) (fs := [.null]) (C := RX5) (T := TX5) (N := 1) hx hb hts ic_X6_init_5 tyX5 tyX5_ok hown (hts _ cl5_X6_init) (hts _ ins5_X6_init) (hts _ ini5_X6_init) hK.1 hP hD hS hA rfl (fun j hj => by rcases (show j = 0 by omega) with rfl <;> rfl) (Nat.le_of_ble_eq_true rfl) (Nat.le_of_ble_eq_true rfl) dX6_init_5 (fun q5 H hP hD hS => ?_)
  have hP : va_P D vwCl [(h0, .inr (6, [.null, .null, .null, .null, .null, .null, .null, .int (zi 0), .int (zi 0), .int (zi 0)])), (q5, .inr (5, [.null]))] H := hP
  have hD : va_D A [(h0, .inr (6, [.null, .null, .null, .null, .null, .null, .null, .int (zi 0), .int (zi 0), .int (zi 0)])), (q5, .inr (5, [.null]))] := hD
  refine lv_dup hx hb dX6_init_8 rfl ?_
  refine zi_bipush hx hb dX6_init_9 (by decide) ?_
  have hPc := hP.sub (ws' := [(q5, .inr (5, [.null]))]) [1] rfl
  have hDc := hD.sub (ws' := [(q5, .inr (5, [.null]))]) [1] (by decide) rfl
  have hFc := va_free (wc := [(q5, .inr (5, [.null]))]) hD hS hA [1] rfl
  refine va_callv (va_runI (As := [.int (zi 6)]) (rest := [.ref q5, .ref h0]) ⟨hx, hb, hml, hown, hts⟩ (ct_X5_init l D cI cZ cJ q5 H.size 6 6 rfl (by decide) (by decide)) (cwI 1 hts gX6_init_X5_init rfl rfl rfl (hts _ iniX5_init_X6_init) (hts _ mlX5_init_X6_init) (hts _ inmX5_init_X6_init) rfl (by decide +kernel) ⟨Nat.le_of_ble_eq_true rfl, Nat.le_of_ble_eq_true rfl⟩) ⟨fun a U g mk q => by obtain ⟨q0, q1, qP, qK, qD⟩ := q; exact ⟨q0, q1, qP, KK.same (u := U) (U := U.calling g mk a) rfl qK, qD⟩, fun U hU hW => ⟨rfl, by rw [hU], by rw [hU]; exact hPc, KK.warm hW hK, hDc.weaken (fun _ _ _ _ => trivial)⟩⟩ rfl rfl hl.1 rfl (lv_room (Nat.le_of_ble_eq_true rfl)) dX6_init_11 ⟨Nat.le_of_ble_eq_true rfl, Nat.le_of_ble_eq_true rfl⟩) hS (fun q _ h => hFc q h) hFc (fun u11 t H1 locs ht hvm hw hB hz1 hk1 hS => ?_)
  obtain ⟨hP1, hD1⟩ := hB
  rw [ht] at hP1
  obtain ⟨hP, hD⟩ := va_join (wr := [(h0, .inr (6, [.null, .null, .null, .null, .null, .null, .null, .int (zi 0), .int (zi 0), .int (zi 0)]))]) (w1 := [(q5, .inr (5, [.ref u11])), (u11, .inl (cI, 6, .inl (zf (fun _ => 0))))]) hP hD [1] [0] rfl rfl (by decide) (by decide) hk1 hFc hP1 hD1
  clear hPc hDc hFc hP1 hD1 hz1 hk1 ht hvm hw
  generalize H1 = H at hP hS ⊢
  have hP : va_P D vwCl [(h0, .inr (6, [.null, .null, .null, .null, .null, .null, .null, .int (zi 0), .int (zi 0), .int (zi 0)])), (q5, .inr (5, [.ref u11])), (u11, .inl (cI, 6, .inl (zf (fun _ => 0))))] H := hP
  have hD : va_D A [(h0, .inr (6, [.null, .null, .null, .null, .null, .null, .null, .int (zi 0), .int (zi 0), .int (zi 0)])), (q5, .inr (5, [.ref u11])), (u11, .inl (cI, 6, .inl (zf (fun _ => 0))))] := hD
  refine va_putF (D := D) (ci := 6) (v := .ref q5) (ty := (.object "PlanetoidDesk$Row")) (C := RX6) (T := TX6) (N := 10) hx hb hts ic_X6_init_6 tyX6 tyX6_ok nmX6 hown hK.1 hP hD hS 0 rfl rfl 0 (by decide) (hts _ lk0_X6_init) (fun _ h9 => h9) rfl hin rfl (by decide +kernel) rfl rfl (Nat.le_of_ble_eq_true rfl) dX6_init_14 (fun H locs hP hD hS => ?_)
  have hP : va_P D vwCl [(h0, .inr (6, [.ref q5, .null, .null, .null, .null, .null, .null, .int (zi 0), .int (zi 0), .int (zi 0)])), (q5, .inr (5, [.ref u11])), (u11, .inl (cI, 6, .inl (zf (fun _ => 0))))] H := hP
  have hD : va_D A [(h0, .inr (6, [.ref q5, .null, .null, .null, .null, .null, .null, .int (zi 0), .int (zi 0), .int (zi 0)])), (q5, .inr (5, [.ref u11])), (u11, .inl (cI, 6, .inl (zf (fun _ => 0))))] := hD
  refine lv_aload_n hx hb dX6_init_17 rfl (lv_at hl 0 rfl) ?_
  refine va_new (ci := 5) (fs := [.null]) (C := RX5) (T := TX5) (N := 1) hx hb hts ic_X6_init_5 tyX5 tyX5_ok hown (hts _ cl5_X6_init) (hts _ ins5_X6_init) (hts _ ini5_X6_init) hK.1 hP hD hS hA rfl (fun j hj => by rcases (show j = 0 by omega) with rfl <;> rfl) (Nat.le_of_ble_eq_true rfl) (Nat.le_of_ble_eq_true rfl) dX6_init_18 (fun q18 H hP hD hS => ?_)
  have hP : va_P D vwCl [(h0, .inr (6, [.ref q5, .null, .null, .null, .null, .null, .null, .int (zi 0), .int (zi 0), .int (zi 0)])), (q5, .inr (5, [.ref u11])), (u11, .inl (cI, 6, .inl (zf (fun _ => 0)))), (q18, .inr (5, [.null]))] H := hP
  have hD : va_D A [(h0, .inr (6, [.ref q5, .null, .null, .null, .null, .null, .null, .int (zi 0), .int (zi 0), .int (zi 0)])), (q5, .inr (5, [.ref u11])), (u11, .inl (cI, 6, .inl (zf (fun _ => 0)))), (q18, .inr (5, [.null]))] := hD
  refine lv_dup hx hb dX6_init_21 rfl ?_
  refine zi_bipush hx hb dX6_init_22 (by decide) ?_
  have hPc := hP.sub (ws' := [(q18, .inr (5, [.null]))]) [3] rfl
  have hDc := hD.sub (ws' := [(q18, .inr (5, [.null]))]) [3] (by decide) rfl
  have hFc := va_free (wc := [(q18, .inr (5, [.null]))]) hD hS hA [3] rfl
  refine va_callv (va_runI (As := [.int (zi 30)]) (rest := [.ref q18, .ref h0]) ⟨hx, hb, hml, hown, hts⟩ (ct_X5_init l D cI cZ cJ q18 H.size 30 30 rfl (by decide) (by decide)) (cwI 1 hts gX6_init_X5_init rfl rfl rfl (hts _ iniX5_init_X6_init) (hts _ mlX5_init_X6_init) (hts _ inmX5_init_X6_init) rfl (by decide +kernel) ⟨Nat.le_of_ble_eq_true rfl, Nat.le_of_ble_eq_true rfl⟩) ⟨fun a U g mk q => by obtain ⟨q0, q1, qP, qK, qD⟩ := q; exact ⟨q0, q1, qP, KK.same (u := U) (U := U.calling g mk a) rfl qK, qD⟩, fun U hU hW => ⟨rfl, by rw [hU], by rw [hU]; exact hPc, KK.warm hW hK, hDc.weaken (fun _ _ _ _ => trivial)⟩⟩ rfl rfl hl.1 rfl (lv_room (Nat.le_of_ble_eq_true rfl)) dX6_init_24 ⟨Nat.le_of_ble_eq_true rfl, Nat.le_of_ble_eq_true rfl⟩) hS (fun q _ h => hFc q h) hFc (fun u24 t H1 locs ht hvm hw hB hz1 hk1 hS => ?_)
  obtain ⟨hP1, hD1⟩ := hB
  rw [ht] at hP1
  obtain ⟨hP, hD⟩ := va_join (wr := [(h0, .inr (6, [.ref q5, .null, .null, .null, .null, .null, .null, .int (zi 0), .int (zi 0), .int (zi 0)])), (q5, .inr (5, [.ref u11])), (u11, .inl (cI, 6, .inl (zf (fun _ => 0))))]) (w1 := [(q18, .inr (5, [.ref u24])), (u24, .inl (cI, 30, .inl (zf (fun _ => 0))))]) hP hD [3] [0, 1, 2] rfl rfl (by decide) (by decide) hk1 hFc hP1 hD1
  clear hPc hDc hFc hP1 hD1 hz1 hk1 ht hvm hw
  generalize H1 = H at hP hS ⊢
  have hP : va_P D vwCl [(h0, .inr (6, [.ref q5, .null, .null, .null, .null, .null, .null, .int (zi 0), .int (zi 0), .int (zi 0)])), (q5, .inr (5, [.ref u11])), (u11, .inl (cI, 6, .inl (zf (fun _ => 0)))), (q18, .inr (5, [.ref u24])), (u24, .inl (cI, 30, .inl (zf (fun _ => 0))))] H := hP
  have hD : va_D A [(h0, .inr (6, [.ref q5, .null, .null, .null, .null, .null, .null, .int (zi 0), .int (zi 0), .int (zi 0)])), (q5, .inr (5, [.ref u11])), (u11, .inl (cI, 6, .inl (zf (fun _ => 0)))), (q18, .inr (5, [.ref u24])), (u24, .inl (cI, 30, .inl (zf (fun _ => 0))))] := hD
  refine va_putF (D := D) (ci := 6) (v := .ref q18) (ty := (.object "PlanetoidDesk$Row")) (C := RX6) (T := TX6) (N := 10) hx hb hts ic_X6_init_6 tyX6 tyX6_ok nmX6 hown hK.1 hP hD hS 0 rfl rfl 1 (by decide) (hts _ lk1_X6_init) (fun _ h9 => h9) rfl hin rfl (by decide +kernel) rfl rfl (Nat.le_of_ble_eq_true rfl) dX6_init_27 (fun H locs hP hD hS => ?_)
  have hP : va_P D vwCl [(h0, .inr (6, [.ref q5, .ref q18, .null, .null, .null, .null, .null, .int (zi 0), .int (zi 0), .int (zi 0)])), (q5, .inr (5, [.ref u11])), (u11, .inl (cI, 6, .inl (zf (fun _ => 0)))), (q18, .inr (5, [.ref u24])), (u24, .inl (cI, 30, .inl (zf (fun _ => 0))))] H := hP
  have hD : va_D A [(h0, .inr (6, [.ref q5, .ref q18, .null, .null, .null, .null, .null, .int (zi 0), .int (zi 0), .int (zi 0)])), (q5, .inr (5, [.ref u11])), (u11, .inl (cI, 6, .inl (zf (fun _ => 0)))), (q18, .inr (5, [.ref u24])), (u24, .inl (cI, 30, .inl (zf (fun _ => 0))))] := hD
  refine lv_aload_n hx hb dX6_init_30 rfl (lv_at hl 0 rfl) ?_
  refine va_new (ci := 5) (fs := [.null]) (C := RX5) (T := TX5) (N := 1) hx hb hts ic_X6_init_5 tyX5 tyX5_ok hown (hts _ cl5_X6_init) (hts _ ins5_X6_init) (hts _ ini5_X6_init) hK.1 hP hD hS hA rfl (fun j hj => by rcases (show j = 0 by omega) with rfl <;> rfl) (Nat.le_of_ble_eq_true rfl) (Nat.le_of_ble_eq_true rfl) dX6_init_31 (fun q31 H hP hD hS => ?_)
  have hP : va_P D vwCl [(h0, .inr (6, [.ref q5, .ref q18, .null, .null, .null, .null, .null, .int (zi 0), .int (zi 0), .int (zi 0)])), (q5, .inr (5, [.ref u11])), (u11, .inl (cI, 6, .inl (zf (fun _ => 0)))), (q18, .inr (5, [.ref u24])), (u24, .inl (cI, 30, .inl (zf (fun _ => 0)))), (q31, .inr (5, [.null]))] H := hP
  have hD : va_D A [(h0, .inr (6, [.ref q5, .ref q18, .null, .null, .null, .null, .null, .int (zi 0), .int (zi 0), .int (zi 0)])), (q5, .inr (5, [.ref u11])), (u11, .inl (cI, 6, .inl (zf (fun _ => 0)))), (q18, .inr (5, [.ref u24])), (u24, .inl (cI, 30, .inl (zf (fun _ => 0)))), (q31, .inr (5, [.null]))] := hD
  refine lv_dup hx hb dX6_init_34 rfl ?_
  refine zi_bipush hx hb dX6_init_35 (by decide) ?_
  have hPc := hP.sub (ws' := [(q31, .inr (5, [.null]))]) [5] rfl
  have hDc := hD.sub (ws' := [(q31, .inr (5, [.null]))]) [5] (by decide) rfl
  have hFc := va_free (wc := [(q31, .inr (5, [.null]))]) hD hS hA [5] rfl
  refine va_callv (va_runI (As := [.int (zi 30)]) (rest := [.ref q31, .ref h0]) ⟨hx, hb, hml, hown, hts⟩ (ct_X5_init l D cI cZ cJ q31 H.size 30 30 rfl (by decide) (by decide)) (cwI 1 hts gX6_init_X5_init rfl rfl rfl (hts _ iniX5_init_X6_init) (hts _ mlX5_init_X6_init) (hts _ inmX5_init_X6_init) rfl (by decide +kernel) ⟨Nat.le_of_ble_eq_true rfl, Nat.le_of_ble_eq_true rfl⟩) ⟨fun a U g mk q => by obtain ⟨q0, q1, qP, qK, qD⟩ := q; exact ⟨q0, q1, qP, KK.same (u := U) (U := U.calling g mk a) rfl qK, qD⟩, fun U hU hW => ⟨rfl, by rw [hU], by rw [hU]; exact hPc, KK.warm hW hK, hDc.weaken (fun _ _ _ _ => trivial)⟩⟩ rfl rfl hl.1 rfl (lv_room (Nat.le_of_ble_eq_true rfl)) dX6_init_37 ⟨Nat.le_of_ble_eq_true rfl, Nat.le_of_ble_eq_true rfl⟩) hS (fun q _ h => hFc q h) hFc (fun u37 t H1 locs ht hvm hw hB hz1 hk1 hS => ?_)
  obtain ⟨hP1, hD1⟩ := hB
  rw [ht] at hP1
  obtain ⟨hP, hD⟩ := va_join (wr := [(h0, .inr (6, [.ref q5, .ref q18, .null, .null, .null, .null, .null, .int (zi 0), .int (zi 0), .int (zi 0)])), (q5, .inr (5, [.ref u11])), (u11, .inl (cI, 6, .inl (zf (fun _ => 0)))), (q18, .inr (5, [.ref u24])), (u24, .inl (cI, 30, .inl (zf (fun _ => 0))))]) (w1 := [(q31, .inr (5, [.ref u37])), (u37, .inl (cI, 30, .inl (zf (fun _ => 0))))]) hP hD [5] [0, 1, 2, 3, 4] rfl rfl (by decide) (by decide) hk1 hFc hP1 hD1
  clear hPc hDc hFc hP1 hD1 hz1 hk1 ht hvm hw
  generalize H1 = H at hP hS ⊢
  have hP : va_P D vwCl [(h0, .inr (6, [.ref q5, .ref q18, .null, .null, .null, .null, .null, .int (zi 0), .int (zi 0), .int (zi 0)])), (q5, .inr (5, [.ref u11])), (u11, .inl (cI, 6, .inl (zf (fun _ => 0)))), (q18, .inr (5, [.ref u24])), (u24, .inl (cI, 30, .inl (zf (fun _ => 0)))), (q31, .inr (5, [.ref u37])), (u37, .inl (cI, 30, .inl (zf (fun _ => 0))))] H := hP
  have hD : va_D A [(h0, .inr (6, [.ref q5, .ref q18, .null, .null, .null, .null, .null, .int (zi 0), .int (zi 0), .int (zi 0)])), (q5, .inr (5, [.ref u11])), (u11, .inl (cI, 6, .inl (zf (fun _ => 0)))), (q18, .inr (5, [.ref u24])), (u24, .inl (cI, 30, .inl (zf (fun _ => 0)))), (q31, .inr (5, [.ref u37])), (u37, .inl (cI, 30, .inl (zf (fun _ => 0))))] := hD
  refine va_putF (D := D) (ci := 6) (v := .ref q31) (ty := (.object "PlanetoidDesk$Row")) (C := RX6) (T := TX6) (N := 10) hx hb hts ic_X6_init_6 tyX6 tyX6_ok nmX6 hown hK.1 hP hD hS 0 rfl rfl 2 (by decide) (hts _ lk2_X6_init) (fun _ h9 => h9) rfl hin rfl (by decide +kernel) rfl rfl (Nat.le_of_ble_eq_true rfl) dX6_init_40 (fun H locs hP hD hS => ?_)
  have hP : va_P D vwCl [(h0, .inr (6, [.ref q5, .ref q18, .ref q31, .null, .null, .null, .null, .int (zi 0), .int (zi 0), .int (zi 0)])), (q5, .inr (5, [.ref u11])), (u11, .inl (cI, 6, .inl (zf (fun _ => 0)))), (q18, .inr (5, [.ref u24])), (u24, .inl (cI, 30, .inl (zf (fun _ => 0)))), (q31, .inr (5, [.ref u37])), (u37, .inl (cI, 30, .inl (zf (fun _ => 0))))] H := hP
  have hD : va_D A [(h0, .inr (6, [.ref q5, .ref q18, .ref q31, .null, .null, .null, .null, .int (zi 0), .int (zi 0), .int (zi 0)])), (q5, .inr (5, [.ref u11])), (u11, .inl (cI, 6, .inl (zf (fun _ => 0)))), (q18, .inr (5, [.ref u24])), (u24, .inl (cI, 30, .inl (zf (fun _ => 0)))), (q31, .inr (5, [.ref u37])), (u37, .inl (cI, 30, .inl (zf (fun _ => 0))))] := hD
  refine lv_aload_n hx hb dX6_init_43 rfl (lv_at hl 0 rfl) ?_
  refine va_new (ci := 5) (fs := [.null]) (C := RX5) (T := TX5) (N := 1) hx hb hts ic_X6_init_5 tyX5 tyX5_ok hown (hts _ cl5_X6_init) (hts _ ins5_X6_init) (hts _ ini5_X6_init) hK.1 hP hD hS hA rfl (fun j hj => by rcases (show j = 0 by omega) with rfl <;> rfl) (Nat.le_of_ble_eq_true rfl) (Nat.le_of_ble_eq_true rfl) dX6_init_44 (fun q44 H hP hD hS => ?_)
  have hP : va_P D vwCl [(h0, .inr (6, [.ref q5, .ref q18, .ref q31, .null, .null, .null, .null, .int (zi 0), .int (zi 0), .int (zi 0)])), (q5, .inr (5, [.ref u11])), (u11, .inl (cI, 6, .inl (zf (fun _ => 0)))), (q18, .inr (5, [.ref u24])), (u24, .inl (cI, 30, .inl (zf (fun _ => 0)))), (q31, .inr (5, [.ref u37])), (u37, .inl (cI, 30, .inl (zf (fun _ => 0)))), (q44, .inr (5, [.null]))] H := hP
  have hD : va_D A [(h0, .inr (6, [.ref q5, .ref q18, .ref q31, .null, .null, .null, .null, .int (zi 0), .int (zi 0), .int (zi 0)])), (q5, .inr (5, [.ref u11])), (u11, .inl (cI, 6, .inl (zf (fun _ => 0)))), (q18, .inr (5, [.ref u24])), (u24, .inl (cI, 30, .inl (zf (fun _ => 0)))), (q31, .inr (5, [.ref u37])), (u37, .inl (cI, 30, .inl (zf (fun _ => 0)))), (q44, .inr (5, [.null]))] := hD
  refine lv_dup hx hb dX6_init_47 rfl ?_
  refine zi_bipush hx hb dX6_init_48 (by decide) ?_
  have hPc := hP.sub (ws' := [(q44, .inr (5, [.null]))]) [7] rfl
  have hDc := hD.sub (ws' := [(q44, .inr (5, [.null]))]) [7] (by decide) rfl
  have hFc := va_free (wc := [(q44, .inr (5, [.null]))]) hD hS hA [7] rfl
  refine va_callv (va_runI (As := [.int (zi 60)]) (rest := [.ref q44, .ref h0]) ⟨hx, hb, hml, hown, hts⟩ (ct_X5_init l D cI cZ cJ q44 H.size 60 60 rfl (by decide) (by decide)) (cwI 1 hts gX6_init_X5_init rfl rfl rfl (hts _ iniX5_init_X6_init) (hts _ mlX5_init_X6_init) (hts _ inmX5_init_X6_init) rfl (by decide +kernel) ⟨Nat.le_of_ble_eq_true rfl, Nat.le_of_ble_eq_true rfl⟩) ⟨fun a U g mk q => by obtain ⟨q0, q1, qP, qK, qD⟩ := q; exact ⟨q0, q1, qP, KK.same (u := U) (U := U.calling g mk a) rfl qK, qD⟩, fun U hU hW => ⟨rfl, by rw [hU], by rw [hU]; exact hPc, KK.warm hW hK, hDc.weaken (fun _ _ _ _ => trivial)⟩⟩ rfl rfl hl.1 rfl (lv_room (Nat.le_of_ble_eq_true rfl)) dX6_init_50 ⟨Nat.le_of_ble_eq_true rfl, Nat.le_of_ble_eq_true rfl⟩) hS (fun q _ h => hFc q h) hFc (fun u50 t H1 locs ht hvm hw hB hz1 hk1 hS => ?_)
  obtain ⟨hP1, hD1⟩ := hB
  rw [ht] at hP1
  obtain ⟨hP, hD⟩ := va_join (wr := [(h0, .inr (6, [.ref q5, .ref q18, .ref q31, .null, .null, .null, .null, .int (zi 0), .int (zi 0), .int (zi 0)])), (q5, .inr (5, [.ref u11])), (u11, .inl (cI, 6, .inl (zf (fun _ => 0)))), (q18, .inr (5, [.ref u24])), (u24, .inl (cI, 30, .inl (zf (fun _ => 0)))), (q31, .inr (5, [.ref u37])), (u37, .inl (cI, 30, .inl (zf (fun _ => 0))))]) (w1 := [(q44, .inr (5, [.ref u50])), (u50, .inl (cI, 60, .inl (zf (fun _ => 0))))]) hP hD [7] [0, 1, 2, 3, 4, 5, 6] rfl rfl (by decide) (by decide) hk1 hFc hP1 hD1
  clear hPc hDc hFc hP1 hD1 hz1 hk1 ht hvm hw
  generalize H1 = H at hP hS ⊢
  have hP : va_P D vwCl [(h0, .inr (6, [.ref q5, .ref q18, .ref q31, .null, .null, .null, .null, .int (zi 0), .int (zi 0), .int (zi 0)])), (q5, .inr (5, [.ref u11])), (u11, .inl (cI, 6, .inl (zf (fun _ => 0)))), (q18, .inr (5, [.ref u24])), (u24, .inl (cI, 30, .inl (zf (fun _ => 0)))), (q31, .inr (5, [.ref u37])), (u37, .inl (cI, 30, .inl (zf (fun _ => 0)))), (q44, .inr (5, [.ref u50])), (u50, .inl (cI, 60, .inl (zf (fun _ => 0))))] H := hP
  have hD : va_D A [(h0, .inr (6, [.ref q5, .ref q18, .ref q31, .null, .null, .null, .null, .int (zi 0), .int (zi 0), .int (zi 0)])), (q5, .inr (5, [.ref u11])), (u11, .inl (cI, 6, .inl (zf (fun _ => 0)))), (q18, .inr (5, [.ref u24])), (u24, .inl (cI, 30, .inl (zf (fun _ => 0)))), (q31, .inr (5, [.ref u37])), (u37, .inl (cI, 30, .inl (zf (fun _ => 0)))), (q44, .inr (5, [.ref u50])), (u50, .inl (cI, 60, .inl (zf (fun _ => 0))))] := hD
  refine va_putF (D := D) (ci := 6) (v := .ref q44) (ty := (.object "PlanetoidDesk$Row")) (C := RX6) (T := TX6) (N := 10) hx hb hts ic_X6_init_6 tyX6 tyX6_ok nmX6 hown hK.1 hP hD hS 0 rfl rfl 3 (by decide) (hts _ lk3_X6_init) (fun _ h9 => h9) rfl hin rfl (by decide +kernel) rfl rfl (Nat.le_of_ble_eq_true rfl) dX6_init_53 (fun H locs hP hD hS => ?_)
  have hP : va_P D vwCl [(h0, .inr (6, [.ref q5, .ref q18, .ref q31, .ref q44, .null, .null, .null, .int (zi 0), .int (zi 0), .int (zi 0)])), (q5, .inr (5, [.ref u11])), (u11, .inl (cI, 6, .inl (zf (fun _ => 0)))), (q18, .inr (5, [.ref u24])), (u24, .inl (cI, 30, .inl (zf (fun _ => 0)))), (q31, .inr (5, [.ref u37])), (u37, .inl (cI, 30, .inl (zf (fun _ => 0)))), (q44, .inr (5, [.ref u50])), (u50, .inl (cI, 60, .inl (zf (fun _ => 0))))] H := hP
  have hD : va_D A [(h0, .inr (6, [.ref q5, .ref q18, .ref q31, .ref q44, .null, .null, .null, .int (zi 0), .int (zi 0), .int (zi 0)])), (q5, .inr (5, [.ref u11])), (u11, .inl (cI, 6, .inl (zf (fun _ => 0)))), (q18, .inr (5, [.ref u24])), (u24, .inl (cI, 30, .inl (zf (fun _ => 0)))), (q31, .inr (5, [.ref u37])), (u37, .inl (cI, 30, .inl (zf (fun _ => 0)))), (q44, .inr (5, [.ref u50])), (u50, .inl (cI, 60, .inl (zf (fun _ => 0))))] := hD
  refine lv_aload_n hx hb dX6_init_56 rfl (lv_at hl 0 rfl) ?_
  refine va_new (ci := 5) (fs := [.null]) (C := RX5) (T := TX5) (N := 1) hx hb hts ic_X6_init_5 tyX5 tyX5_ok hown (hts _ cl5_X6_init) (hts _ ins5_X6_init) (hts _ ini5_X6_init) hK.1 hP hD hS hA rfl (fun j hj => by rcases (show j = 0 by omega) with rfl <;> rfl) (Nat.le_of_ble_eq_true rfl) (Nat.le_of_ble_eq_true rfl) dX6_init_57 (fun q57 H hP hD hS => ?_)
  have hP : va_P D vwCl [(h0, .inr (6, [.ref q5, .ref q18, .ref q31, .ref q44, .null, .null, .null, .int (zi 0), .int (zi 0), .int (zi 0)])), (q5, .inr (5, [.ref u11])), (u11, .inl (cI, 6, .inl (zf (fun _ => 0)))), (q18, .inr (5, [.ref u24])), (u24, .inl (cI, 30, .inl (zf (fun _ => 0)))), (q31, .inr (5, [.ref u37])), (u37, .inl (cI, 30, .inl (zf (fun _ => 0)))), (q44, .inr (5, [.ref u50])), (u50, .inl (cI, 60, .inl (zf (fun _ => 0)))), (q57, .inr (5, [.null]))] H := hP
  have hD : va_D A [(h0, .inr (6, [.ref q5, .ref q18, .ref q31, .ref q44, .null, .null, .null, .int (zi 0), .int (zi 0), .int (zi 0)])), (q5, .inr (5, [.ref u11])), (u11, .inl (cI, 6, .inl (zf (fun _ => 0)))), (q18, .inr (5, [.ref u24])), (u24, .inl (cI, 30, .inl (zf (fun _ => 0)))), (q31, .inr (5, [.ref u37])), (u37, .inl (cI, 30, .inl (zf (fun _ => 0)))), (q44, .inr (5, [.ref u50])), (u50, .inl (cI, 60, .inl (zf (fun _ => 0)))), (q57, .inr (5, [.null]))] := hD
  refine lv_dup hx hb dX6_init_60 rfl ?_
  refine zi_bipush hx hb dX6_init_61 (by decide) ?_
  have hPc := hP.sub (ws' := [(q57, .inr (5, [.null]))]) [9] rfl
  have hDc := hD.sub (ws' := [(q57, .inr (5, [.null]))]) [9] (by decide) rfl
  have hFc := va_free (wc := [(q57, .inr (5, [.null]))]) hD hS hA [9] rfl
  refine va_callv (va_runI (As := [.int (zi 60)]) (rest := [.ref q57, .ref h0]) ⟨hx, hb, hml, hown, hts⟩ (ct_X5_init l D cI cZ cJ q57 H.size 60 60 rfl (by decide) (by decide)) (cwI 1 hts gX6_init_X5_init rfl rfl rfl (hts _ iniX5_init_X6_init) (hts _ mlX5_init_X6_init) (hts _ inmX5_init_X6_init) rfl (by decide +kernel) ⟨Nat.le_of_ble_eq_true rfl, Nat.le_of_ble_eq_true rfl⟩) ⟨fun a U g mk q => by obtain ⟨q0, q1, qP, qK, qD⟩ := q; exact ⟨q0, q1, qP, KK.same (u := U) (U := U.calling g mk a) rfl qK, qD⟩, fun U hU hW => ⟨rfl, by rw [hU], by rw [hU]; exact hPc, KK.warm hW hK, hDc.weaken (fun _ _ _ _ => trivial)⟩⟩ rfl rfl hl.1 rfl (lv_room (Nat.le_of_ble_eq_true rfl)) dX6_init_63 ⟨Nat.le_of_ble_eq_true rfl, Nat.le_of_ble_eq_true rfl⟩) hS (fun q _ h => hFc q h) hFc (fun u63 t H1 locs ht hvm hw hB hz1 hk1 hS => ?_)
  obtain ⟨hP1, hD1⟩ := hB
  rw [ht] at hP1
  obtain ⟨hP, hD⟩ := va_join (wr := [(h0, .inr (6, [.ref q5, .ref q18, .ref q31, .ref q44, .null, .null, .null, .int (zi 0), .int (zi 0), .int (zi 0)])), (q5, .inr (5, [.ref u11])), (u11, .inl (cI, 6, .inl (zf (fun _ => 0)))), (q18, .inr (5, [.ref u24])), (u24, .inl (cI, 30, .inl (zf (fun _ => 0)))), (q31, .inr (5, [.ref u37])), (u37, .inl (cI, 30, .inl (zf (fun _ => 0)))), (q44, .inr (5, [.ref u50])), (u50, .inl (cI, 60, .inl (zf (fun _ => 0))))]) (w1 := [(q57, .inr (5, [.ref u63])), (u63, .inl (cI, 60, .inl (zf (fun _ => 0))))]) hP hD [9] [0, 1, 2, 3, 4, 5, 6, 7, 8] rfl rfl (by decide) (by decide) hk1 hFc hP1 hD1
  clear hPc hDc hFc hP1 hD1 hz1 hk1 ht hvm hw
  generalize H1 = H at hP hS ⊢
  have hP : va_P D vwCl [(h0, .inr (6, [.ref q5, .ref q18, .ref q31, .ref q44, .null, .null, .null, .int (zi 0), .int (zi 0), .int (zi 0)])), (q5, .inr (5, [.ref u11])), (u11, .inl (cI, 6, .inl (zf (fun _ => 0)))), (q18, .inr (5, [.ref u24])), (u24, .inl (cI, 30, .inl (zf (fun _ => 0)))), (q31, .inr (5, [.ref u37])), (u37, .inl (cI, 30, .inl (zf (fun _ => 0)))), (q44, .inr (5, [.ref u50])), (u50, .inl (cI, 60, .inl (zf (fun _ => 0)))), (q57, .inr (5, [.ref u63])), (u63, .inl (cI, 60, .inl (zf (fun _ => 0))))] H := hP
  have hD : va_D A [(h0, .inr (6, [.ref q5, .ref q18, .ref q31, .ref q44, .null, .null, .null, .int (zi 0), .int (zi 0), .int (zi 0)])), (q5, .inr (5, [.ref u11])), (u11, .inl (cI, 6, .inl (zf (fun _ => 0)))), (q18, .inr (5, [.ref u24])), (u24, .inl (cI, 30, .inl (zf (fun _ => 0)))), (q31, .inr (5, [.ref u37])), (u37, .inl (cI, 30, .inl (zf (fun _ => 0)))), (q44, .inr (5, [.ref u50])), (u50, .inl (cI, 60, .inl (zf (fun _ => 0)))), (q57, .inr (5, [.ref u63])), (u63, .inl (cI, 60, .inl (zf (fun _ => 0))))] := hD
  refine va_putF (D := D) (ci := 6) (v := .ref q57) (ty := (.object "PlanetoidDesk$Row")) (C := RX6) (T := TX6) (N := 10) hx hb hts ic_X6_init_6 tyX6 tyX6_ok nmX6 hown hK.1 hP hD hS 0 rfl rfl 4 (by decide) (hts _ lk4_X6_init) (fun _ h9 => h9) rfl hin rfl (by decide +kernel) rfl rfl (Nat.le_of_ble_eq_true rfl) dX6_init_66 (fun H locs hP hD hS => ?_)
  have hP : va_P D vwCl [(h0, .inr (6, [.ref q5, .ref q18, .ref q31, .ref q44, .ref q57, .null, .null, .int (zi 0), .int (zi 0), .int (zi 0)])), (q5, .inr (5, [.ref u11])), (u11, .inl (cI, 6, .inl (zf (fun _ => 0)))), (q18, .inr (5, [.ref u24])), (u24, .inl (cI, 30, .inl (zf (fun _ => 0)))), (q31, .inr (5, [.ref u37])), (u37, .inl (cI, 30, .inl (zf (fun _ => 0)))), (q44, .inr (5, [.ref u50])), (u50, .inl (cI, 60, .inl (zf (fun _ => 0)))), (q57, .inr (5, [.ref u63])), (u63, .inl (cI, 60, .inl (zf (fun _ => 0))))] H := hP
  have hD : va_D A [(h0, .inr (6, [.ref q5, .ref q18, .ref q31, .ref q44, .ref q57, .null, .null, .int (zi 0), .int (zi 0), .int (zi 0)])), (q5, .inr (5, [.ref u11])), (u11, .inl (cI, 6, .inl (zf (fun _ => 0)))), (q18, .inr (5, [.ref u24])), (u24, .inl (cI, 30, .inl (zf (fun _ => 0)))), (q31, .inr (5, [.ref u37])), (u37, .inl (cI, 30, .inl (zf (fun _ => 0)))), (q44, .inr (5, [.ref u50])), (u50, .inl (cI, 60, .inl (zf (fun _ => 0)))), (q57, .inr (5, [.ref u63])), (u63, .inl (cI, 60, .inl (zf (fun _ => 0))))] := hD
  refine lv_aload_n hx hb dX6_init_69 rfl (lv_at hl 0 rfl) ?_
  refine va_new (ci := 5) (fs := [.null]) (C := RX5) (T := TX5) (N := 1) hx hb hts ic_X6_init_5 tyX5 tyX5_ok hown (hts _ cl5_X6_init) (hts _ ins5_X6_init) (hts _ ini5_X6_init) hK.1 hP hD hS hA rfl (fun j hj => by rcases (show j = 0 by omega) with rfl <;> rfl) (Nat.le_of_ble_eq_true rfl) (Nat.le_of_ble_eq_true rfl) dX6_init_70 (fun q70 H hP hD hS => ?_)
  have hP : va_P D vwCl [(h0, .inr (6, [.ref q5, .ref q18, .ref q31, .ref q44, .ref q57, .null, .null, .int (zi 0), .int (zi 0), .int (zi 0)])), (q5, .inr (5, [.ref u11])), (u11, .inl (cI, 6, .inl (zf (fun _ => 0)))), (q18, .inr (5, [.ref u24])), (u24, .inl (cI, 30, .inl (zf (fun _ => 0)))), (q31, .inr (5, [.ref u37])), (u37, .inl (cI, 30, .inl (zf (fun _ => 0)))), (q44, .inr (5, [.ref u50])), (u50, .inl (cI, 60, .inl (zf (fun _ => 0)))), (q57, .inr (5, [.ref u63])), (u63, .inl (cI, 60, .inl (zf (fun _ => 0)))), (q70, .inr (5, [.null]))] H := hP
  have hD : va_D A [(h0, .inr (6, [.ref q5, .ref q18, .ref q31, .ref q44, .ref q57, .null, .null, .int (zi 0), .int (zi 0), .int (zi 0)])), (q5, .inr (5, [.ref u11])), (u11, .inl (cI, 6, .inl (zf (fun _ => 0)))), (q18, .inr (5, [.ref u24])), (u24, .inl (cI, 30, .inl (zf (fun _ => 0)))), (q31, .inr (5, [.ref u37])), (u37, .inl (cI, 30, .inl (zf (fun _ => 0)))), (q44, .inr (5, [.ref u50])), (u50, .inl (cI, 60, .inl (zf (fun _ => 0)))), (q57, .inr (5, [.ref u63])), (u63, .inl (cI, 60, .inl (zf (fun _ => 0)))), (q70, .inr (5, [.null]))] := hD
  refine lv_dup hx hb dX6_init_73 rfl ?_
  refine zi_bipush hx hb dX6_init_74 (by decide) ?_
  have hPc := hP.sub (ws' := [(q70, .inr (5, [.null]))]) [11] rfl
  have hDc := hD.sub (ws' := [(q70, .inr (5, [.null]))]) [11] (by decide) rfl
  have hFc := va_free (wc := [(q70, .inr (5, [.null]))]) hD hS hA [11] rfl
  refine va_callv (va_runI (As := [.int (zi 60)]) (rest := [.ref q70, .ref h0]) ⟨hx, hb, hml, hown, hts⟩ (ct_X5_init l D cI cZ cJ q70 H.size 60 60 rfl (by decide) (by decide)) (cwI 1 hts gX6_init_X5_init rfl rfl rfl (hts _ iniX5_init_X6_init) (hts _ mlX5_init_X6_init) (hts _ inmX5_init_X6_init) rfl (by decide +kernel) ⟨Nat.le_of_ble_eq_true rfl, Nat.le_of_ble_eq_true rfl⟩) ⟨fun a U g mk q => by obtain ⟨q0, q1, qP, qK, qD⟩ := q; exact ⟨q0, q1, qP, KK.same (u := U) (U := U.calling g mk a) rfl qK, qD⟩, fun U hU hW => ⟨rfl, by rw [hU], by rw [hU]; exact hPc, KK.warm hW hK, hDc.weaken (fun _ _ _ _ => trivial)⟩⟩ rfl rfl hl.1 rfl (lv_room (Nat.le_of_ble_eq_true rfl)) dX6_init_76 ⟨Nat.le_of_ble_eq_true rfl, Nat.le_of_ble_eq_true rfl⟩) hS (fun q _ h => hFc q h) hFc (fun u76 t H1 locs ht hvm hw hB hz1 hk1 hS => ?_)
  obtain ⟨hP1, hD1⟩ := hB
  rw [ht] at hP1
  obtain ⟨hP, hD⟩ := va_join (wr := [(h0, .inr (6, [.ref q5, .ref q18, .ref q31, .ref q44, .ref q57, .null, .null, .int (zi 0), .int (zi 0), .int (zi 0)])), (q5, .inr (5, [.ref u11])), (u11, .inl (cI, 6, .inl (zf (fun _ => 0)))), (q18, .inr (5, [.ref u24])), (u24, .inl (cI, 30, .inl (zf (fun _ => 0)))), (q31, .inr (5, [.ref u37])), (u37, .inl (cI, 30, .inl (zf (fun _ => 0)))), (q44, .inr (5, [.ref u50])), (u50, .inl (cI, 60, .inl (zf (fun _ => 0)))), (q57, .inr (5, [.ref u63])), (u63, .inl (cI, 60, .inl (zf (fun _ => 0))))]) (w1 := [(q70, .inr (5, [.ref u76])), (u76, .inl (cI, 60, .inl (zf (fun _ => 0))))]) hP hD [11] [0, 1, 2, 3, 4, 5, 6, 7, 8, 9, 10] rfl rfl (by decide) (by decide) hk1 hFc hP1 hD1
  clear hPc hDc hFc hP1 hD1 hz1 hk1 ht hvm hw
  generalize H1 = H at hP hS ⊢
  have hP : va_P D vwCl [(h0, .inr (6, [.ref q5, .ref q18, .ref q31, .ref q44, .ref q57, .null, .null, .int (zi 0), .int (zi 0), .int (zi 0)])), (q5, .inr (5, [.ref u11])), (u11, .inl (cI, 6, .inl (zf (fun _ => 0)))), (q18, .inr (5, [.ref u24])), (u24, .inl (cI, 30, .inl (zf (fun _ => 0)))), (q31, .inr (5, [.ref u37])), (u37, .inl (cI, 30, .inl (zf (fun _ => 0)))), (q44, .inr (5, [.ref u50])), (u50, .inl (cI, 60, .inl (zf (fun _ => 0)))), (q57, .inr (5, [.ref u63])), (u63, .inl (cI, 60, .inl (zf (fun _ => 0)))), (q70, .inr (5, [.ref u76])), (u76, .inl (cI, 60, .inl (zf (fun _ => 0))))] H := hP
  have hD : va_D A [(h0, .inr (6, [.ref q5, .ref q18, .ref q31, .ref q44, .ref q57, .null, .null, .int (zi 0), .int (zi 0), .int (zi 0)])), (q5, .inr (5, [.ref u11])), (u11, .inl (cI, 6, .inl (zf (fun _ => 0)))), (q18, .inr (5, [.ref u24])), (u24, .inl (cI, 30, .inl (zf (fun _ => 0)))), (q31, .inr (5, [.ref u37])), (u37, .inl (cI, 30, .inl (zf (fun _ => 0)))), (q44, .inr (5, [.ref u50])), (u50, .inl (cI, 60, .inl (zf (fun _ => 0)))), (q57, .inr (5, [.ref u63])), (u63, .inl (cI, 60, .inl (zf (fun _ => 0)))), (q70, .inr (5, [.ref u76])), (u76, .inl (cI, 60, .inl (zf (fun _ => 0))))] := hD
  refine va_putF (D := D) (ci := 6) (v := .ref q70) (ty := (.object "PlanetoidDesk$Row")) (C := RX6) (T := TX6) (N := 10) hx hb hts ic_X6_init_6 tyX6 tyX6_ok nmX6 hown hK.1 hP hD hS 0 rfl rfl 5 (by decide) (hts _ lk5_X6_init) (fun _ h9 => h9) rfl hin rfl (by decide +kernel) rfl rfl (Nat.le_of_ble_eq_true rfl) dX6_init_79 (fun H locs hP hD hS => ?_)
  have hP : va_P D vwCl [(h0, .inr (6, [.ref q5, .ref q18, .ref q31, .ref q44, .ref q57, .ref q70, .null, .int (zi 0), .int (zi 0), .int (zi 0)])), (q5, .inr (5, [.ref u11])), (u11, .inl (cI, 6, .inl (zf (fun _ => 0)))), (q18, .inr (5, [.ref u24])), (u24, .inl (cI, 30, .inl (zf (fun _ => 0)))), (q31, .inr (5, [.ref u37])), (u37, .inl (cI, 30, .inl (zf (fun _ => 0)))), (q44, .inr (5, [.ref u50])), (u50, .inl (cI, 60, .inl (zf (fun _ => 0)))), (q57, .inr (5, [.ref u63])), (u63, .inl (cI, 60, .inl (zf (fun _ => 0)))), (q70, .inr (5, [.ref u76])), (u76, .inl (cI, 60, .inl (zf (fun _ => 0))))] H := hP
  have hD : va_D A [(h0, .inr (6, [.ref q5, .ref q18, .ref q31, .ref q44, .ref q57, .ref q70, .null, .int (zi 0), .int (zi 0), .int (zi 0)])), (q5, .inr (5, [.ref u11])), (u11, .inl (cI, 6, .inl (zf (fun _ => 0)))), (q18, .inr (5, [.ref u24])), (u24, .inl (cI, 30, .inl (zf (fun _ => 0)))), (q31, .inr (5, [.ref u37])), (u37, .inl (cI, 30, .inl (zf (fun _ => 0)))), (q44, .inr (5, [.ref u50])), (u50, .inl (cI, 60, .inl (zf (fun _ => 0)))), (q57, .inr (5, [.ref u63])), (u63, .inl (cI, 60, .inl (zf (fun _ => 0)))), (q70, .inr (5, [.ref u76])), (u76, .inl (cI, 60, .inl (zf (fun _ => 0))))] := hD
  refine lv_aload_n hx hb dX6_init_82 rfl (lv_at hl 0 rfl) ?_
  refine va_new (ci := 5) (fs := [.null]) (C := RX5) (T := TX5) (N := 1) hx hb hts ic_X6_init_5 tyX5 tyX5_ok hown (hts _ cl5_X6_init) (hts _ ins5_X6_init) (hts _ ini5_X6_init) hK.1 hP hD hS hA rfl (fun j hj => by rcases (show j = 0 by omega) with rfl <;> rfl) (Nat.le_of_ble_eq_true rfl) (Nat.le_of_ble_eq_true rfl) dX6_init_83 (fun q83 H hP hD hS => ?_)
  have hP : va_P D vwCl [(h0, .inr (6, [.ref q5, .ref q18, .ref q31, .ref q44, .ref q57, .ref q70, .null, .int (zi 0), .int (zi 0), .int (zi 0)])), (q5, .inr (5, [.ref u11])), (u11, .inl (cI, 6, .inl (zf (fun _ => 0)))), (q18, .inr (5, [.ref u24])), (u24, .inl (cI, 30, .inl (zf (fun _ => 0)))), (q31, .inr (5, [.ref u37])), (u37, .inl (cI, 30, .inl (zf (fun _ => 0)))), (q44, .inr (5, [.ref u50])), (u50, .inl (cI, 60, .inl (zf (fun _ => 0)))), (q57, .inr (5, [.ref u63])), (u63, .inl (cI, 60, .inl (zf (fun _ => 0)))), (q70, .inr (5, [.ref u76])), (u76, .inl (cI, 60, .inl (zf (fun _ => 0)))), (q83, .inr (5, [.null]))] H := hP
  have hD : va_D A [(h0, .inr (6, [.ref q5, .ref q18, .ref q31, .ref q44, .ref q57, .ref q70, .null, .int (zi 0), .int (zi 0), .int (zi 0)])), (q5, .inr (5, [.ref u11])), (u11, .inl (cI, 6, .inl (zf (fun _ => 0)))), (q18, .inr (5, [.ref u24])), (u24, .inl (cI, 30, .inl (zf (fun _ => 0)))), (q31, .inr (5, [.ref u37])), (u37, .inl (cI, 30, .inl (zf (fun _ => 0)))), (q44, .inr (5, [.ref u50])), (u50, .inl (cI, 60, .inl (zf (fun _ => 0)))), (q57, .inr (5, [.ref u63])), (u63, .inl (cI, 60, .inl (zf (fun _ => 0)))), (q70, .inr (5, [.ref u76])), (u76, .inl (cI, 60, .inl (zf (fun _ => 0)))), (q83, .inr (5, [.null]))] := hD
  refine lv_dup hx hb dX6_init_86 rfl ?_
  refine zi_bipush hx hb dX6_init_87 (by decide) ?_
  have hPc := hP.sub (ws' := [(q83, .inr (5, [.null]))]) [13] rfl
  have hDc := hD.sub (ws' := [(q83, .inr (5, [.null]))]) [13] (by decide) rfl
  have hFc := va_free (wc := [(q83, .inr (5, [.null]))]) hD hS hA [13] rfl
  refine va_callv (va_runI (As := [.int (zi 9)]) (rest := [.ref q83, .ref h0]) ⟨hx, hb, hml, hown, hts⟩ (ct_X5_init l D cI cZ cJ q83 H.size 9 9 rfl (by decide) (by decide)) (cwI 1 hts gX6_init_X5_init rfl rfl rfl (hts _ iniX5_init_X6_init) (hts _ mlX5_init_X6_init) (hts _ inmX5_init_X6_init) rfl (by decide +kernel) ⟨Nat.le_of_ble_eq_true rfl, Nat.le_of_ble_eq_true rfl⟩) ⟨fun a U g mk q => by obtain ⟨q0, q1, qP, qK, qD⟩ := q; exact ⟨q0, q1, qP, KK.same (u := U) (U := U.calling g mk a) rfl qK, qD⟩, fun U hU hW => ⟨rfl, by rw [hU], by rw [hU]; exact hPc, KK.warm hW hK, hDc.weaken (fun _ _ _ _ => trivial)⟩⟩ rfl rfl hl.1 rfl (lv_room (Nat.le_of_ble_eq_true rfl)) dX6_init_89 ⟨Nat.le_of_ble_eq_true rfl, Nat.le_of_ble_eq_true rfl⟩) hS (fun q _ h => hFc q h) hFc (fun u89 t H1 locs ht hvm hw hB hz1 hk1 hS => ?_)
  obtain ⟨hP1, hD1⟩ := hB
  rw [ht] at hP1
  obtain ⟨hP, hD⟩ := va_join (wr := [(h0, .inr (6, [.ref q5, .ref q18, .ref q31, .ref q44, .ref q57, .ref q70, .null, .int (zi 0), .int (zi 0), .int (zi 0)])), (q5, .inr (5, [.ref u11])), (u11, .inl (cI, 6, .inl (zf (fun _ => 0)))), (q18, .inr (5, [.ref u24])), (u24, .inl (cI, 30, .inl (zf (fun _ => 0)))), (q31, .inr (5, [.ref u37])), (u37, .inl (cI, 30, .inl (zf (fun _ => 0)))), (q44, .inr (5, [.ref u50])), (u50, .inl (cI, 60, .inl (zf (fun _ => 0)))), (q57, .inr (5, [.ref u63])), (u63, .inl (cI, 60, .inl (zf (fun _ => 0)))), (q70, .inr (5, [.ref u76])), (u76, .inl (cI, 60, .inl (zf (fun _ => 0))))]) (w1 := [(q83, .inr (5, [.ref u89])), (u89, .inl (cI, 9, .inl (zf (fun _ => 0))))]) hP hD [13] [0, 1, 2, 3, 4, 5, 6, 7, 8, 9, 10, 11, 12] rfl rfl (by decide) (by decide) hk1 hFc hP1 hD1
  clear hPc hDc hFc hP1 hD1 hz1 hk1 ht hvm hw
  generalize H1 = H at hP hS ⊢
  have hP : va_P D vwCl [(h0, .inr (6, [.ref q5, .ref q18, .ref q31, .ref q44, .ref q57, .ref q70, .null, .int (zi 0), .int (zi 0), .int (zi 0)])), (q5, .inr (5, [.ref u11])), (u11, .inl (cI, 6, .inl (zf (fun _ => 0)))), (q18, .inr (5, [.ref u24])), (u24, .inl (cI, 30, .inl (zf (fun _ => 0)))), (q31, .inr (5, [.ref u37])), (u37, .inl (cI, 30, .inl (zf (fun _ => 0)))), (q44, .inr (5, [.ref u50])), (u50, .inl (cI, 60, .inl (zf (fun _ => 0)))), (q57, .inr (5, [.ref u63])), (u63, .inl (cI, 60, .inl (zf (fun _ => 0)))), (q70, .inr (5, [.ref u76])), (u76, .inl (cI, 60, .inl (zf (fun _ => 0)))), (q83, .inr (5, [.ref u89])), (u89, .inl (cI, 9, .inl (zf (fun _ => 0))))] H := hP
  have hD : va_D A [(h0, .inr (6, [.ref q5, .ref q18, .ref q31, .ref q44, .ref q57, .ref q70, .null, .int (zi 0), .int (zi 0), .int (zi 0)])), (q5, .inr (5, [.ref u11])), (u11, .inl (cI, 6, .inl (zf (fun _ => 0)))), (q18, .inr (5, [.ref u24])), (u24, .inl (cI, 30, .inl (zf (fun _ => 0)))), (q31, .inr (5, [.ref u37])), (u37, .inl (cI, 30, .inl (zf (fun _ => 0)))), (q44, .inr (5, [.ref u50])), (u50, .inl (cI, 60, .inl (zf (fun _ => 0)))), (q57, .inr (5, [.ref u63])), (u63, .inl (cI, 60, .inl (zf (fun _ => 0)))), (q70, .inr (5, [.ref u76])), (u76, .inl (cI, 60, .inl (zf (fun _ => 0)))), (q83, .inr (5, [.ref u89])), (u89, .inl (cI, 9, .inl (zf (fun _ => 0))))] := hD
  refine va_putF (D := D) (ci := 6) (v := .ref q83) (ty := (.object "PlanetoidDesk$Row")) (C := RX6) (T := TX6) (N := 10) hx hb hts ic_X6_init_6 tyX6 tyX6_ok nmX6 hown hK.1 hP hD hS 0 rfl rfl 6 (by decide) (hts _ lk6_X6_init) (fun _ h9 => h9) rfl hin rfl (by decide +kernel) rfl rfl (Nat.le_of_ble_eq_true rfl) dX6_init_92 (fun H locs hP hD hS => ?_)
  have hP : va_P D vwCl [(h0, .inr (6, [.ref q5, .ref q18, .ref q31, .ref q44, .ref q57, .ref q70, .ref q83, .int (zi 0), .int (zi 0), .int (zi 0)])), (q5, .inr (5, [.ref u11])), (u11, .inl (cI, 6, .inl (zf (fun _ => 0)))), (q18, .inr (5, [.ref u24])), (u24, .inl (cI, 30, .inl (zf (fun _ => 0)))), (q31, .inr (5, [.ref u37])), (u37, .inl (cI, 30, .inl (zf (fun _ => 0)))), (q44, .inr (5, [.ref u50])), (u50, .inl (cI, 60, .inl (zf (fun _ => 0)))), (q57, .inr (5, [.ref u63])), (u63, .inl (cI, 60, .inl (zf (fun _ => 0)))), (q70, .inr (5, [.ref u76])), (u76, .inl (cI, 60, .inl (zf (fun _ => 0)))), (q83, .inr (5, [.ref u89])), (u89, .inl (cI, 9, .inl (zf (fun _ => 0))))] H := hP
  have hD : va_D A [(h0, .inr (6, [.ref q5, .ref q18, .ref q31, .ref q44, .ref q57, .ref q70, .ref q83, .int (zi 0), .int (zi 0), .int (zi 0)])), (q5, .inr (5, [.ref u11])), (u11, .inl (cI, 6, .inl (zf (fun _ => 0)))), (q18, .inr (5, [.ref u24])), (u24, .inl (cI, 30, .inl (zf (fun _ => 0)))), (q31, .inr (5, [.ref u37])), (u37, .inl (cI, 30, .inl (zf (fun _ => 0)))), (q44, .inr (5, [.ref u50])), (u50, .inl (cI, 60, .inl (zf (fun _ => 0)))), (q57, .inr (5, [.ref u63])), (u63, .inl (cI, 60, .inl (zf (fun _ => 0)))), (q70, .inr (5, [.ref u76])), (u76, .inl (cI, 60, .inl (zf (fun _ => 0)))), (q83, .inr (5, [.ref u89])), (u89, .inl (cI, 9, .inl (zf (fun _ => 0))))] := hD
  refine W.widen (k := 14) (n := 262) (Nat.le_of_ble_eq_true rfl) (Nat.le_of_ble_eq_true rfl) ?_
  exact W.vret hx hb hr (fun t ht hW => ⟨⟨(fun i => [q5, u11, q18, u24, q31, u37, q44, u50, q57, u63, q70, u76, q83, u89].getD i 0), rfl, trivial, by rw [ht]; exact hP, hD⟩, hS.F ht⟩) hS.2.2 dX6_init_95
theorem oml_X0_init : Cond.methodLink RX0 3 objectInit ∈ wsX0_init := by decide +kernel
theorem oin_X0_init : Cond.instanceMethod objectInit ∈ wsX0_init := by decide +kernel
theorem oco_X0_init : Cond.code objectInit ⟨#[0xb1]⟩ 1 none ∈ wsX0_init := by decide +kernel
theorem ic_X0_init_5 : ∀ w ∈ wsX50, w ∈ wsX0_init := by decide +kernel
theorem cl5_X0_init : Cond.classLink RX0 9 RX5 ∈ wsX0_init := by decide +kernel
theorem ins5_X0_init : Cond.instantiable RX5 1 ∈ wsX0_init := by decide +kernel
theorem ini5_X0_init : Cond.initialized RX5 ∈ wsX0_init := by decide +kernel
theorem iniX5_init_X0_init : Cond.initialized RX5 ∈ wsX0_init := by decide +kernel
theorem inmX5_init_X0_init : Cond.instanceMethod yX5_init ∈ wsX0_init := by decide +kernel
theorem mlX5_init_X0_init : Cond.methodLink RX0 11 yX5_init ∈ wsX0_init := by decide +kernel
theorem ic_X0_init_0 : ∀ w ∈ wsX00, w ∈ wsX0_init := by decide +kernel
theorem lk0_X0_init : Cond.fieldLink RX0 14 "PlanetoidDesk$Bodies" "owners" "LPlanetoidDesk$Row;" ∈ wsX0_init := by decide +kernel
theorem lk1_X0_init : Cond.fieldLink RX0 20 "PlanetoidDesk$Bodies" "hosts" "LPlanetoidDesk$Row;" ∈ wsX0_init := by decide +kernel
theorem lk2_X0_init : Cond.fieldLink RX0 23 "PlanetoidDesk$Bodies" "joinTimes" "LPlanetoidDesk$Row;" ∈ wsX0_init := by decide +kernel
theorem lk3_X0_init : Cond.fieldLink RX0 26 "PlanetoidDesk$Bodies" "numbers" "LPlanetoidDesk$Row;" ∈ wsX0_init := by decide +kernel
theorem lk4_X0_init : Cond.fieldLink RX0 29 "PlanetoidDesk$Bodies" "properCourses" "LPlanetoidDesk$Row;" ∈ wsX0_init := by decide +kernel
set_option maxHeartbeats 4000000 in
set_option maxRecDepth 100000 in
theorem ct_X0_init (l : Launch) (D : va_G) (cI cZ cJ : ClassId) (h0 sz : Nat) : Met l yX0_init wsX0_init { frames := 2, cells := 10, slots := 145, locals := 33 } (va_Pc [.ref h0] (fun U => U.heap.size = sz ∧ va_P D vwCl [(h0, .inr (0, [.null, .null, .null, .null, .null, .int (zi 0), .int (zi 0), .int (zi 0)]))] U.heap ∧ KK D cI cZ cJ U ∧ va_D (fun _ => True) [(h0, .inr (0, [.null, .null, .null, .null, .null, .int (zi 0), .int (zi 0), .int (zi 0)]))])) (va_Qv (S := Nat → Nat) (fun _ => True) (fun u t => va_P D vwCl [(h0, .inr (0, [.ref (u 0), .ref (u 2), .ref (u 4), .ref (u 6), .ref (u 8), .int (zi 0), .int (zi 0), .int (zi 0)])), ((u 0), .inr (5, [.ref (u 1)])), ((u 1), .inl (cI, 60, .inl (zf (rFill 60 (fun _ => 0) (-1))))), ((u 2), .inr (5, [.ref (u 3)])), ((u 3), .inl (cI, 20, .inl (zf (rFill 20 (fun _ => 0) (-1))))), ((u 4), .inr (5, [.ref (u 5)])), ((u 5), .inl (cI, 20, .inl (zf (fun _ => 0)))), ((u 6), .inr (5, [.ref (u 7)])), ((u 7), .inl (cI, 20, .inl (zf (rFill 20 (fun _ => 0) (-1))))), ((u 8), .inr (5, [.ref (u 9)])), ((u 9), .inl (cI, 20, .inl (zf (fun _ => 0))))] t.heap ∧ va_D (va_A [(h0, .inr (0, [.null, .null, .null, .null, .null, .int (zi 0), .int (zi 0), .int (zi 0)]))] sz) [(h0, .inr (0, [.ref (u 0), .ref (u 2), .ref (u 4), .ref (u 6), .ref (u 8), .int (zi 0), .int (zi 0), .int (zi 0)])), ((u 0), .inr (5, [.ref (u 1)])), ((u 1), .inl (cI, 60, .inl (zf (rFill 60 (fun _ => 0) (-1))))), ((u 2), .inr (5, [.ref (u 3)])), ((u 3), .inl (cI, 20, .inl (zf (rFill 20 (fun _ => 0) (-1))))), ((u 4), .inr (5, [.ref (u 5)])), ((u 5), .inl (cI, 20, .inl (zf (fun _ => 0)))), ((u 6), .inr (5, [.ref (u 7)])), ((u 7), .inl (cI, 20, .inl (zf (rFill 20 (fun _ => 0) (-1))))), ((u 8), .inr (5, [.ref (u 9)])), ((u 9), .inl (cI, 20, .inl (zf (fun _ => 0))))]) (va_A [(h0, .inr (0, [.null, .null, .null, .null, .null, .int (zi 0), .int (zi 0), .int (zi 0)]))] sz)) 10 145 (va_A [(h0, .inr (0, [.null, .null, .null, .null, .null, .int (zi 0), .int (zi 0), .int (zi 0)]))] sz) := by
  refine Met.ofW (cc := cX0_init) (maxL := 1) (ret := none) (by decide) rfl ?_
  intro p e s m args below meth c s₁ B hml hv
  obtain ⟨rfl, hsz, hP, hK, hD0⟩ := hv
  have hx := B.exec
  have hb := B.bytes
  have hr := B.returns
  have hts := atoms_spec (ws := wsX0_init) B.pre
  have hown : s.vm.findClass RX0 = some m.cls := findClass_of_methodNamed B.named
  have hlocks := B.notSynchronized
  have hin : meth.name = "<init>" := (name_of_methodNamed B.named B.method).1
  subst hsz
  have hD := hD0.self (sz := s.heap.size)
  generalize hAe : va_A [(h0, .inr (0, [.null, .null, .null, .null, .null, .int (zi 0), .int (zi 0), .int (zi 0)]))] s.heap.size = A at hD ⊢
  have hA : ∀ q : Nat, s.heap.size ≤ q → A q := fun q h => by rw [← hAe]; exact Or.inr h
  have hS : va_S A s.heap s.heap [] := va_S.rf
  have hP : va_P D vwCl [(h0, .inr (0, [.null, .null, .null, .null, .null, .int (zi 0), .int (zi 0), .int (zi 0)]))] s.heap := hP
  have hl := lv_entry ([.ref h0]) (n := 1) (Nat.le_of_ble_eq_true rfl)
  rw [lg_entry_eq]
  generalize (lg_sl ([.ref h0]) ++ List.replicate (1 - (lg_sl ([.ref h0])).length) Slot.unset).toArray = ls at hl ⊢
  have hl : lv_has ls 1 [(0, .ref h0)] := hl
  refine lv_aload_n hx hb dX0_init_0 rfl (lv_at hl 0 rfl) ?_
  refine W.objInit hx hb hown (hts _ oml_X0_init) (hts _ oin_X0_init) (hts _ oco_X0_init) rfl (by rw [hml]; exact hl.1) rfl dX0_init_1 (Nat.le_of_ble_eq_true rfl) (Nat.le_of_ble_eq_true rfl) ?_
  refine W.eq (g2 := F0 m 4 ls []) rfl ?_
  refine lv_aload_n hx hb dX0_init_4 rfl (lv_at hl 0 rfl) ?_
  refine va_new (ci := 5) (fs := [.null]) (C := RX5) (T := TX5) (N := 1) hx hb hts ic_X0_init_5 tyX5 tyX5_ok hown (hts _ cl5_X0_init) (hts _ ins5_X0_init) (hts _ ini5_X0_init) hK.1 hP hD hS hA rfl (fun j hj => by rcases (show j = 0 by omega) with rfl <;> rfl) (Nat.le_of_ble_eq_true rfl) (Nat.le_of_ble_eq_true rfl) dX0_init_5 (fun q5 H hP hD hS => ?_)
  have hP : va_P D vwCl [(h0, .inr (0, [.null, .null, .null, .null, .null, .int (zi 0), .int (zi 0), .int (zi 0)])), (q5, .inr (5, [.null]))] H := hP
  have hD : va_D A [(h0, .inr (0, [.null, .null, .null, .null, .null, .int (zi 0), .int (zi 0), .int (zi 0)])), (q5, .inr (5, [.null]))] := hD
  refine lv_dup hx hb dX0_init_8 rfl ?_
  refine zi_bipush hx hb dX0_init_9 (by decide) ?_
  have hPc := hP.sub (ws' := [(q5, .inr (5, [.null]))]) [1] rfl
  have hDc := hD.sub (ws' := [(q5, .inr (5, [.null]))]) [1] (by decide) rfl
  have hFc := va_free (wc := [(q5, .inr (5, [.null]))]) hD hS hA [1] rfl
  refine va_callv (va_runI (As := [.int (zi 60)]) (rest := [.ref q5, .ref h0]) ⟨hx, hb, hml, hown, hts⟩ (ct_X5_init l D cI cZ cJ q5 H.size 60 60 rfl (by decide) (by decide)) (cwI 1 hts gX0_init_X5_init rfl rfl rfl (hts _ iniX5_init_X0_init) (hts _ mlX5_init_X0_init) (hts _ inmX5_init_X0_init) rfl (by decide +kernel) ⟨Nat.le_of_ble_eq_true rfl, Nat.le_of_ble_eq_true rfl⟩) ⟨fun a U g mk q => by obtain ⟨q0, q1, qP, qK, qD⟩ := q; exact ⟨q0, q1, qP, KK.same (u := U) (U := U.calling g mk a) rfl qK, qD⟩, fun U hU hW => ⟨rfl, by rw [hU], by rw [hU]; exact hPc, KK.warm hW hK, hDc.weaken (fun _ _ _ _ => trivial)⟩⟩ rfl rfl hl.1 rfl (lv_room (Nat.le_of_ble_eq_true rfl)) dX0_init_11 ⟨Nat.le_of_ble_eq_true rfl, Nat.le_of_ble_eq_true rfl⟩) hS (fun q _ h => hFc q h) hFc (fun u11 t H1 locs ht hvm hw hB hz1 hk1 hS => ?_)
  obtain ⟨hP1, hD1⟩ := hB
  rw [ht] at hP1
  obtain ⟨hP, hD⟩ := va_join (wr := [(h0, .inr (0, [.null, .null, .null, .null, .null, .int (zi 0), .int (zi 0), .int (zi 0)]))]) (w1 := [(q5, .inr (5, [.ref u11])), (u11, .inl (cI, 60, .inl (zf (fun _ => 0))))]) hP hD [1] [0] rfl rfl (by decide) (by decide) hk1 hFc hP1 hD1
  clear hPc hDc hFc hP1 hD1 hz1 hk1 ht hvm hw
  generalize H1 = H at hP hS ⊢
  have hP : va_P D vwCl [(h0, .inr (0, [.null, .null, .null, .null, .null, .int (zi 0), .int (zi 0), .int (zi 0)])), (q5, .inr (5, [.ref u11])), (u11, .inl (cI, 60, .inl (zf (fun _ => 0))))] H := hP
  have hD : va_D A [(h0, .inr (0, [.null, .null, .null, .null, .null, .int (zi 0), .int (zi 0), .int (zi 0)])), (q5, .inr (5, [.ref u11])), (u11, .inl (cI, 60, .inl (zf (fun _ => 0))))] := hD
  refine va_putF (D := D) (ci := 0) (v := .ref q5) (ty := (.object "PlanetoidDesk$Row")) (C := RX0) (T := TX0) (N := 8) hx hb hts ic_X0_init_0 tyX0 tyX0_ok nmX0 hown hK.1 hP hD hS 0 rfl rfl 0 (by decide) (hts _ lk0_X0_init) (fun _ h9 => h9) rfl hin rfl (by decide +kernel) rfl rfl (Nat.le_of_ble_eq_true rfl) dX0_init_14 (fun H locs hP hD hS => ?_)
  have hP : va_P D vwCl [(h0, .inr (0, [.ref q5, .null, .null, .null, .null, .int (zi 0), .int (zi 0), .int (zi 0)])), (q5, .inr (5, [.ref u11])), (u11, .inl (cI, 60, .inl (zf (fun _ => 0))))] H := hP
  have hD : va_D A [(h0, .inr (0, [.ref q5, .null, .null, .null, .null, .int (zi 0), .int (zi 0), .int (zi 0)])), (q5, .inr (5, [.ref u11])), (u11, .inl (cI, 60, .inl (zf (fun _ => 0))))] := hD
  refine lv_aload_n hx hb dX0_init_17 rfl (lv_at hl 0 rfl) ?_
  refine va_new (ci := 5) (fs := [.null]) (C := RX5) (T := TX5) (N := 1) hx hb hts ic_X0_init_5 tyX5 tyX5_ok hown (hts _ cl5_X0_init) (hts _ ins5_X0_init) (hts _ ini5_X0_init) hK.1 hP hD hS hA rfl (fun j hj => by rcases (show j = 0 by omega) with rfl <;> rfl) (Nat.le_of_ble_eq_true rfl) (Nat.le_of_ble_eq_true rfl) dX0_init_18 (fun q18 H hP hD hS => ?_)
  have hP : va_P D vwCl [(h0, .inr (0, [.ref q5, .null, .null, .null, .null, .int (zi 0), .int (zi 0), .int (zi 0)])), (q5, .inr (5, [.ref u11])), (u11, .inl (cI, 60, .inl (zf (fun _ => 0)))), (q18, .inr (5, [.null]))] H := hP
  have hD : va_D A [(h0, .inr (0, [.ref q5, .null, .null, .null, .null, .int (zi 0), .int (zi 0), .int (zi 0)])), (q5, .inr (5, [.ref u11])), (u11, .inl (cI, 60, .inl (zf (fun _ => 0)))), (q18, .inr (5, [.null]))] := hD
  refine lv_dup hx hb dX0_init_21 rfl ?_
  refine zi_bipush hx hb dX0_init_22 (by decide) ?_
  have hPc := hP.sub (ws' := [(q18, .inr (5, [.null]))]) [3] rfl
  have hDc := hD.sub (ws' := [(q18, .inr (5, [.null]))]) [3] (by decide) rfl
  have hFc := va_free (wc := [(q18, .inr (5, [.null]))]) hD hS hA [3] rfl
  refine va_callv (va_runI (As := [.int (zi 20)]) (rest := [.ref q18, .ref h0]) ⟨hx, hb, hml, hown, hts⟩ (ct_X5_init l D cI cZ cJ q18 H.size 20 20 rfl (by decide) (by decide)) (cwI 1 hts gX0_init_X5_init rfl rfl rfl (hts _ iniX5_init_X0_init) (hts _ mlX5_init_X0_init) (hts _ inmX5_init_X0_init) rfl (by decide +kernel) ⟨Nat.le_of_ble_eq_true rfl, Nat.le_of_ble_eq_true rfl⟩) ⟨fun a U g mk q => by obtain ⟨q0, q1, qP, qK, qD⟩ := q; exact ⟨q0, q1, qP, KK.same (u := U) (U := U.calling g mk a) rfl qK, qD⟩, fun U hU hW => ⟨rfl, by rw [hU], by rw [hU]; exact hPc, KK.warm hW hK, hDc.weaken (fun _ _ _ _ => trivial)⟩⟩ rfl rfl hl.1 rfl (lv_room (Nat.le_of_ble_eq_true rfl)) dX0_init_24 ⟨Nat.le_of_ble_eq_true rfl, Nat.le_of_ble_eq_true rfl⟩) hS (fun q _ h => hFc q h) hFc (fun u24 t H1 locs ht hvm hw hB hz1 hk1 hS => ?_)
  obtain ⟨hP1, hD1⟩ := hB
  rw [ht] at hP1
  obtain ⟨hP, hD⟩ := va_join (wr := [(h0, .inr (0, [.ref q5, .null, .null, .null, .null, .int (zi 0), .int (zi 0), .int (zi 0)])), (q5, .inr (5, [.ref u11])), (u11, .inl (cI, 60, .inl (zf (fun _ => 0))))]) (w1 := [(q18, .inr (5, [.ref u24])), (u24, .inl (cI, 20, .inl (zf (fun _ => 0))))]) hP hD [3] [0, 1, 2] rfl rfl (by decide) (by decide) hk1 hFc hP1 hD1
  clear hPc hDc hFc hP1 hD1 hz1 hk1 ht hvm hw
  generalize H1 = H at hP hS ⊢
  have hP : va_P D vwCl [(h0, .inr (0, [.ref q5, .null, .null, .null, .null, .int (zi 0), .int (zi 0), .int (zi 0)])), (q5, .inr (5, [.ref u11])), (u11, .inl (cI, 60, .inl (zf (fun _ => 0)))), (q18, .inr (5, [.ref u24])), (u24, .inl (cI, 20, .inl (zf (fun _ => 0))))] H := hP
  have hD : va_D A [(h0, .inr (0, [.ref q5, .null, .null, .null, .null, .int (zi 0), .int (zi 0), .int (zi 0)])), (q5, .inr (5, [.ref u11])), (u11, .inl (cI, 60, .inl (zf (fun _ => 0)))), (q18, .inr (5, [.ref u24])), (u24, .inl (cI, 20, .inl (zf (fun _ => 0))))] := hD
  refine va_putF (D := D) (ci := 0) (v := .ref q18) (ty := (.object "PlanetoidDesk$Row")) (C := RX0) (T := TX0) (N := 8) hx hb hts ic_X0_init_0 tyX0 tyX0_ok nmX0 hown hK.1 hP hD hS 0 rfl rfl 1 (by decide) (hts _ lk1_X0_init) (fun _ h9 => h9) rfl hin rfl (by decide +kernel) rfl rfl (Nat.le_of_ble_eq_true rfl) dX0_init_27 (fun H locs hP hD hS => ?_)
  have hP : va_P D vwCl [(h0, .inr (0, [.ref q5, .ref q18, .null, .null, .null, .int (zi 0), .int (zi 0), .int (zi 0)])), (q5, .inr (5, [.ref u11])), (u11, .inl (cI, 60, .inl (zf (fun _ => 0)))), (q18, .inr (5, [.ref u24])), (u24, .inl (cI, 20, .inl (zf (fun _ => 0))))] H := hP
  have hD : va_D A [(h0, .inr (0, [.ref q5, .ref q18, .null, .null, .null, .int (zi 0), .int (zi 0), .int (zi 0)])), (q5, .inr (5, [.ref u11])), (u11, .inl (cI, 60, .inl (zf (fun _ => 0)))), (q18, .inr (5, [.ref u24])), (u24, .inl (cI, 20, .inl (zf (fun _ => 0))))] := hD
  refine lv_aload_n hx hb dX0_init_30 rfl (lv_at hl 0 rfl) ?_
  refine va_new (ci := 5) (fs := [.null]) (C := RX5) (T := TX5) (N := 1) hx hb hts ic_X0_init_5 tyX5 tyX5_ok hown (hts _ cl5_X0_init) (hts _ ins5_X0_init) (hts _ ini5_X0_init) hK.1 hP hD hS hA rfl (fun j hj => by rcases (show j = 0 by omega) with rfl <;> rfl) (Nat.le_of_ble_eq_true rfl) (Nat.le_of_ble_eq_true rfl) dX0_init_31 (fun q31 H hP hD hS => ?_)
  have hP : va_P D vwCl [(h0, .inr (0, [.ref q5, .ref q18, .null, .null, .null, .int (zi 0), .int (zi 0), .int (zi 0)])), (q5, .inr (5, [.ref u11])), (u11, .inl (cI, 60, .inl (zf (fun _ => 0)))), (q18, .inr (5, [.ref u24])), (u24, .inl (cI, 20, .inl (zf (fun _ => 0)))), (q31, .inr (5, [.null]))] H := hP
  have hD : va_D A [(h0, .inr (0, [.ref q5, .ref q18, .null, .null, .null, .int (zi 0), .int (zi 0), .int (zi 0)])), (q5, .inr (5, [.ref u11])), (u11, .inl (cI, 60, .inl (zf (fun _ => 0)))), (q18, .inr (5, [.ref u24])), (u24, .inl (cI, 20, .inl (zf (fun _ => 0)))), (q31, .inr (5, [.null]))] := hD
  refine lv_dup hx hb dX0_init_34 rfl ?_
  refine zi_bipush hx hb dX0_init_35 (by decide) ?_
  have hPc := hP.sub (ws' := [(q31, .inr (5, [.null]))]) [5] rfl
  have hDc := hD.sub (ws' := [(q31, .inr (5, [.null]))]) [5] (by decide) rfl
  have hFc := va_free (wc := [(q31, .inr (5, [.null]))]) hD hS hA [5] rfl
  refine va_callv (va_runI (As := [.int (zi 20)]) (rest := [.ref q31, .ref h0]) ⟨hx, hb, hml, hown, hts⟩ (ct_X5_init l D cI cZ cJ q31 H.size 20 20 rfl (by decide) (by decide)) (cwI 1 hts gX0_init_X5_init rfl rfl rfl (hts _ iniX5_init_X0_init) (hts _ mlX5_init_X0_init) (hts _ inmX5_init_X0_init) rfl (by decide +kernel) ⟨Nat.le_of_ble_eq_true rfl, Nat.le_of_ble_eq_true rfl⟩) ⟨fun a U g mk q => by obtain ⟨q0, q1, qP, qK, qD⟩ := q; exact ⟨q0, q1, qP, KK.same (u := U) (U := U.calling g mk a) rfl qK, qD⟩, fun U hU hW => ⟨rfl, by rw [hU], by rw [hU]; exact hPc, KK.warm hW hK, hDc.weaken (fun _ _ _ _ => trivial)⟩⟩ rfl rfl hl.1 rfl (lv_room (Nat.le_of_ble_eq_true rfl)) dX0_init_37 ⟨Nat.le_of_ble_eq_true rfl, Nat.le_of_ble_eq_true rfl⟩) hS (fun q _ h => hFc q h) hFc (fun u37 t H1 locs ht hvm hw hB hz1 hk1 hS => ?_)
  obtain ⟨hP1, hD1⟩ := hB
  rw [ht] at hP1
  obtain ⟨hP, hD⟩ := va_join (wr := [(h0, .inr (0, [.ref q5, .ref q18, .null, .null, .null, .int (zi 0), .int (zi 0), .int (zi 0)])), (q5, .inr (5, [.ref u11])), (u11, .inl (cI, 60, .inl (zf (fun _ => 0)))), (q18, .inr (5, [.ref u24])), (u24, .inl (cI, 20, .inl (zf (fun _ => 0))))]) (w1 := [(q31, .inr (5, [.ref u37])), (u37, .inl (cI, 20, .inl (zf (fun _ => 0))))]) hP hD [5] [0, 1, 2, 3, 4] rfl rfl (by decide) (by decide) hk1 hFc hP1 hD1
  clear hPc hDc hFc hP1 hD1 hz1 hk1 ht hvm hw
  generalize H1 = H at hP hS ⊢
  have hP : va_P D vwCl [(h0, .inr (0, [.ref q5, .ref q18, .null, .null, .null, .int (zi 0), .int (zi 0), .int (zi 0)])), (q5, .inr (5, [.ref u11])), (u11, .inl (cI, 60, .inl (zf (fun _ => 0)))), (q18, .inr (5, [.ref u24])), (u24, .inl (cI, 20, .inl (zf (fun _ => 0)))), (q31, .inr (5, [.ref u37])), (u37, .inl (cI, 20, .inl (zf (fun _ => 0))))] H := hP
  have hD : va_D A [(h0, .inr (0, [.ref q5, .ref q18, .null, .null, .null, .int (zi 0), .int (zi 0), .int (zi 0)])), (q5, .inr (5, [.ref u11])), (u11, .inl (cI, 60, .inl (zf (fun _ => 0)))), (q18, .inr (5, [.ref u24])), (u24, .inl (cI, 20, .inl (zf (fun _ => 0)))), (q31, .inr (5, [.ref u37])), (u37, .inl (cI, 20, .inl (zf (fun _ => 0))))] := hD
  refine va_putF (D := D) (ci := 0) (v := .ref q31) (ty := (.object "PlanetoidDesk$Row")) (C := RX0) (T := TX0) (N := 8) hx hb hts ic_X0_init_0 tyX0 tyX0_ok nmX0 hown hK.1 hP hD hS 0 rfl rfl 2 (by decide) (hts _ lk2_X0_init) (fun _ h9 => h9) rfl hin rfl (by decide +kernel) rfl rfl (Nat.le_of_ble_eq_true rfl) dX0_init_40 (fun H locs hP hD hS => ?_)
  have hP : va_P D vwCl [(h0, .inr (0, [.ref q5, .ref q18, .ref q31, .null, .null, .int (zi 0), .int (zi 0), .int (zi 0)])), (q5, .inr (5, [.ref u11])), (u11, .inl (cI, 60, .inl (zf (fun _ => 0)))), (q18, .inr (5, [.ref u24])), (u24, .inl (cI, 20, .inl (zf (fun _ => 0)))), (q31, .inr (5, [.ref u37])), (u37, .inl (cI, 20, .inl (zf (fun _ => 0))))] H := hP
  have hD : va_D A [(h0, .inr (0, [.ref q5, .ref q18, .ref q31, .null, .null, .int (zi 0), .int (zi 0), .int (zi 0)])), (q5, .inr (5, [.ref u11])), (u11, .inl (cI, 60, .inl (zf (fun _ => 0)))), (q18, .inr (5, [.ref u24])), (u24, .inl (cI, 20, .inl (zf (fun _ => 0)))), (q31, .inr (5, [.ref u37])), (u37, .inl (cI, 20, .inl (zf (fun _ => 0))))] := hD
  refine lv_aload_n hx hb dX0_init_43 rfl (lv_at hl 0 rfl) ?_
  refine va_new (ci := 5) (fs := [.null]) (C := RX5) (T := TX5) (N := 1) hx hb hts ic_X0_init_5 tyX5 tyX5_ok hown (hts _ cl5_X0_init) (hts _ ins5_X0_init) (hts _ ini5_X0_init) hK.1 hP hD hS hA rfl (fun j hj => by rcases (show j = 0 by omega) with rfl <;> rfl) (Nat.le_of_ble_eq_true rfl) (Nat.le_of_ble_eq_true rfl) dX0_init_44 (fun q44 H hP hD hS => ?_)
  have hP : va_P D vwCl [(h0, .inr (0, [.ref q5, .ref q18, .ref q31, .null, .null, .int (zi 0), .int (zi 0), .int (zi 0)])), (q5, .inr (5, [.ref u11])), (u11, .inl (cI, 60, .inl (zf (fun _ => 0)))), (q18, .inr (5, [.ref u24])), (u24, .inl (cI, 20, .inl (zf (fun _ => 0)))), (q31, .inr (5, [.ref u37])), (u37, .inl (cI, 20, .inl (zf (fun _ => 0)))), (q44, .inr (5, [.null]))] H := hP
  have hD : va_D A [(h0, .inr (0, [.ref q5, .ref q18, .ref q31, .null, .null, .int (zi 0), .int (zi 0), .int (zi 0)])), (q5, .inr (5, [.ref u11])), (u11, .inl (cI, 60, .inl (zf (fun _ => 0)))), (q18, .inr (5, [.ref u24])), (u24, .inl (cI, 20, .inl (zf (fun _ => 0)))), (q31, .inr (5, [.ref u37])), (u37, .inl (cI, 20, .inl (zf (fun _ => 0)))), (q44, .inr (5, [.null]))] := hD
  refine lv_dup hx hb dX0_init_47 rfl ?_
  refine zi_bipush hx hb dX0_init_48 (by decide) ?_
  have hPc := hP.sub (ws' := [(q44, .inr (5, [.null]))]) [7] rfl
  have hDc := hD.sub (ws' := [(q44, .inr (5, [.null]))]) [7] (by decide) rfl
  have hFc := va_free (wc := [(q44, .inr (5, [.null]))]) hD hS hA [7] rfl
  refine va_callv (va_runI (As := [.int (zi 20)]) (rest := [.ref q44, .ref h0]) ⟨hx, hb, hml, hown, hts⟩ (ct_X5_init l D cI cZ cJ q44 H.size 20 20 rfl (by decide) (by decide)) (cwI 1 hts gX0_init_X5_init rfl rfl rfl (hts _ iniX5_init_X0_init) (hts _ mlX5_init_X0_init) (hts _ inmX5_init_X0_init) rfl (by decide +kernel) ⟨Nat.le_of_ble_eq_true rfl, Nat.le_of_ble_eq_true rfl⟩) ⟨fun a U g mk q => by obtain ⟨q0, q1, qP, qK, qD⟩ := q; exact ⟨q0, q1, qP, KK.same (u := U) (U := U.calling g mk a) rfl qK, qD⟩, fun U hU hW => ⟨rfl, by rw [hU], by rw [hU]; exact hPc, KK.warm hW hK, hDc.weaken (fun _ _ _ _ => trivial)⟩⟩ rfl rfl hl.1 rfl (lv_room (Nat.le_of_ble_eq_true rfl)) dX0_init_50 ⟨Nat.le_of_ble_eq_true rfl, Nat.le_of_ble_eq_true rfl⟩) hS (fun q _ h => hFc q h) hFc (fun u50 t H1 locs ht hvm hw hB hz1 hk1 hS => ?_)
  obtain ⟨hP1, hD1⟩ := hB
  rw [ht] at hP1
  obtain ⟨hP, hD⟩ := va_join (wr := [(h0, .inr (0, [.ref q5, .ref q18, .ref q31, .null, .null, .int (zi 0), .int (zi 0), .int (zi 0)])), (q5, .inr (5, [.ref u11])), (u11, .inl (cI, 60, .inl (zf (fun _ => 0)))), (q18, .inr (5, [.ref u24])), (u24, .inl (cI, 20, .inl (zf (fun _ => 0)))), (q31, .inr (5, [.ref u37])), (u37, .inl (cI, 20, .inl (zf (fun _ => 0))))]) (w1 := [(q44, .inr (5, [.ref u50])), (u50, .inl (cI, 20, .inl (zf (fun _ => 0))))]) hP hD [7] [0, 1, 2, 3, 4, 5, 6] rfl rfl (by decide) (by decide) hk1 hFc hP1 hD1
  clear hPc hDc hFc hP1 hD1 hz1 hk1 ht hvm hw
  generalize H1 = H at hP hS ⊢
  have hP : va_P D vwCl [(h0, .inr (0, [.ref q5, .ref q18, .ref q31, .null, .null, .int (zi 0), .int (zi 0), .int (zi 0)])), (q5, .inr (5, [.ref u11])), (u11, .inl (cI, 60, .inl (zf (fun _ => 0)))), (q18, .inr (5, [.ref u24])), (u24, .inl (cI, 20, .inl (zf (fun _ => 0)))), (q31, .inr (5, [.ref u37])), (u37, .inl (cI, 20, .inl (zf (fun _ => 0)))), (q44, .inr (5, [.ref u50])), (u50, .inl (cI, 20, .inl (zf (fun _ => 0))))] H := hP
  have hD : va_D A [(h0, .inr (0, [.ref q5, .ref q18, .ref q31, .null, .null, .int (zi 0), .int (zi 0), .int (zi 0)])), (q5, .inr (5, [.ref u11])), (u11, .inl (cI, 60, .inl (zf (fun _ => 0)))), (q18, .inr (5, [.ref u24])), (u24, .inl (cI, 20, .inl (zf (fun _ => 0)))), (q31, .inr (5, [.ref u37])), (u37, .inl (cI, 20, .inl (zf (fun _ => 0)))), (q44, .inr (5, [.ref u50])), (u50, .inl (cI, 20, .inl (zf (fun _ => 0))))] := hD
  refine va_putF (D := D) (ci := 0) (v := .ref q44) (ty := (.object "PlanetoidDesk$Row")) (C := RX0) (T := TX0) (N := 8) hx hb hts ic_X0_init_0 tyX0 tyX0_ok nmX0 hown hK.1 hP hD hS 0 rfl rfl 3 (by decide) (hts _ lk3_X0_init) (fun _ h9 => h9) rfl hin rfl (by decide +kernel) rfl rfl (Nat.le_of_ble_eq_true rfl) dX0_init_53 (fun H locs hP hD hS => ?_)
  have hP : va_P D vwCl [(h0, .inr (0, [.ref q5, .ref q18, .ref q31, .ref q44, .null, .int (zi 0), .int (zi 0), .int (zi 0)])), (q5, .inr (5, [.ref u11])), (u11, .inl (cI, 60, .inl (zf (fun _ => 0)))), (q18, .inr (5, [.ref u24])), (u24, .inl (cI, 20, .inl (zf (fun _ => 0)))), (q31, .inr (5, [.ref u37])), (u37, .inl (cI, 20, .inl (zf (fun _ => 0)))), (q44, .inr (5, [.ref u50])), (u50, .inl (cI, 20, .inl (zf (fun _ => 0))))] H := hP
  have hD : va_D A [(h0, .inr (0, [.ref q5, .ref q18, .ref q31, .ref q44, .null, .int (zi 0), .int (zi 0), .int (zi 0)])), (q5, .inr (5, [.ref u11])), (u11, .inl (cI, 60, .inl (zf (fun _ => 0)))), (q18, .inr (5, [.ref u24])), (u24, .inl (cI, 20, .inl (zf (fun _ => 0)))), (q31, .inr (5, [.ref u37])), (u37, .inl (cI, 20, .inl (zf (fun _ => 0)))), (q44, .inr (5, [.ref u50])), (u50, .inl (cI, 20, .inl (zf (fun _ => 0))))] := hD
  refine lv_aload_n hx hb dX0_init_56 rfl (lv_at hl 0 rfl) ?_
  refine va_new (ci := 5) (fs := [.null]) (C := RX5) (T := TX5) (N := 1) hx hb hts ic_X0_init_5 tyX5 tyX5_ok hown (hts _ cl5_X0_init) (hts _ ins5_X0_init) (hts _ ini5_X0_init) hK.1 hP hD hS hA rfl (fun j hj => by rcases (show j = 0 by omega) with rfl <;> rfl) (Nat.le_of_ble_eq_true rfl) (Nat.le_of_ble_eq_true rfl) dX0_init_57 (fun q57 H hP hD hS => ?_)
  have hP : va_P D vwCl [(h0, .inr (0, [.ref q5, .ref q18, .ref q31, .ref q44, .null, .int (zi 0), .int (zi 0), .int (zi 0)])), (q5, .inr (5, [.ref u11])), (u11, .inl (cI, 60, .inl (zf (fun _ => 0)))), (q18, .inr (5, [.ref u24])), (u24, .inl (cI, 20, .inl (zf (fun _ => 0)))), (q31, .inr (5, [.ref u37])), (u37, .inl (cI, 20, .inl (zf (fun _ => 0)))), (q44, .inr (5, [.ref u50])), (u50, .inl (cI, 20, .inl (zf (fun _ => 0)))), (q57, .inr (5, [.null]))] H := hP
  have hD : va_D A [(h0, .inr (0, [.ref q5, .ref q18, .ref q31, .ref q44, .null, .int (zi 0), .int (zi 0), .int (zi 0)])), (q5, .inr (5, [.ref u11])), (u11, .inl (cI, 60, .inl (zf (fun _ => 0)))), (q18, .inr (5, [.ref u24])), (u24, .inl (cI, 20, .inl (zf (fun _ => 0)))), (q31, .inr (5, [.ref u37])), (u37, .inl (cI, 20, .inl (zf (fun _ => 0)))), (q44, .inr (5, [.ref u50])), (u50, .inl (cI, 20, .inl (zf (fun _ => 0)))), (q57, .inr (5, [.null]))] := hD
  refine lv_dup hx hb dX0_init_60 rfl ?_
  refine zi_bipush hx hb dX0_init_61 (by decide) ?_
  have hPc := hP.sub (ws' := [(q57, .inr (5, [.null]))]) [9] rfl
  have hDc := hD.sub (ws' := [(q57, .inr (5, [.null]))]) [9] (by decide) rfl
  have hFc := va_free (wc := [(q57, .inr (5, [.null]))]) hD hS hA [9] rfl
  refine va_callv (va_runI (As := [.int (zi 20)]) (rest := [.ref q57, .ref h0]) ⟨hx, hb, hml, hown, hts⟩ (ct_X5_init l D cI cZ cJ q57 H.size 20 20 rfl (by decide) (by decide)) (cwI 1 hts gX0_init_X5_init rfl rfl rfl (hts _ iniX5_init_X0_init) (hts _ mlX5_init_X0_init) (hts _ inmX5_init_X0_init) rfl (by decide +kernel) ⟨Nat.le_of_ble_eq_true rfl, Nat.le_of_ble_eq_true rfl⟩) ⟨fun a U g mk q => by obtain ⟨q0, q1, qP, qK, qD⟩ := q; exact ⟨q0, q1, qP, KK.same (u := U) (U := U.calling g mk a) rfl qK, qD⟩, fun U hU hW => ⟨rfl, by rw [hU], by rw [hU]; exact hPc, KK.warm hW hK, hDc.weaken (fun _ _ _ _ => trivial)⟩⟩ rfl rfl hl.1 rfl (lv_room (Nat.le_of_ble_eq_true rfl)) dX0_init_63 ⟨Nat.le_of_ble_eq_true rfl, Nat.le_of_ble_eq_true rfl⟩) hS (fun q _ h => hFc q h) hFc (fun u63 t H1 locs ht hvm hw hB hz1 hk1 hS => ?_)
  obtain ⟨hP1, hD1⟩ := hB
  rw [ht] at hP1
  obtain ⟨hP, hD⟩ := va_join (wr := [(h0, .inr (0, [.ref q5, .ref q18, .ref q31, .ref q44, .null, .int (zi 0), .int (zi 0), .int (zi 0)])), (q5, .inr (5, [.ref u11])), (u11, .inl (cI, 60, .inl (zf (fun _ => 0)))), (q18, .inr (5, [.ref u24])), (u24, .inl (cI, 20, .inl (zf (fun _ => 0)))), (q31, .inr (5, [.ref u37])), (u37, .inl (cI, 20, .inl (zf (fun _ => 0)))), (q44, .inr (5, [.ref u50])), (u50, .inl (cI, 20, .inl (zf (fun _ => 0))))]) (w1 := [(q57, .inr (5, [.ref u63])), (u63, .inl (cI, 20, .inl (zf (fun _ => 0))))]) hP hD [9] [0, 1, 2, 3, 4, 5, 6, 7, 8] rfl rfl (by decide) (by decide) hk1 hFc hP1 hD1
  clear hPc hDc hFc hP1 hD1 hz1 hk1 ht hvm hw
  generalize H1 = H at hP hS ⊢
  have hP : va_P D vwCl [(h0, .inr (0, [.ref q5, .ref q18, .ref q31, .ref q44, .null, .int (zi 0), .int (zi 0), .int (zi 0)])), (q5, .inr (5, [.ref u11])), (u11, .inl (cI, 60, .inl (zf (fun _ => 0)))), (q18, .inr (5, [.ref u24])), (u24, .inl (cI, 20, .inl (zf (fun _ => 0)))), (q31, .inr (5, [.ref u37])), (u37, .inl (cI, 20, .inl (zf (fun _ => 0)))), (q44, .inr (5, [.ref u50])), (u50, .inl (cI, 20, .inl (zf (fun _ => 0)))), (q57, .inr (5, [.ref u63])), (u63, .inl (cI, 20, .inl (zf (fun _ => 0))))] H := hP
  have hD : va_D A [(h0, .inr (0, [.ref q5, .ref q18, .ref q31, .ref q44, .null, .int (zi 0), .int (zi 0), .int (zi 0)])), (q5, .inr (5, [.ref u11])), (u11, .inl (cI, 60, .inl (zf (fun _ => 0)))), (q18, .inr (5, [.ref u24])), (u24, .inl (cI, 20, .inl (zf (fun _ => 0)))), (q31, .inr (5, [.ref u37])), (u37, .inl (cI, 20, .inl (zf (fun _ => 0)))), (q44, .inr (5, [.ref u50])), (u50, .inl (cI, 20, .inl (zf (fun _ => 0)))), (q57, .inr (5, [.ref u63])), (u63, .inl (cI, 20, .inl (zf (fun _ => 0))))] := hD
  refine va_putF (D := D) (ci := 0) (v := .ref q57) (ty := (.object "PlanetoidDesk$Row")) (C := RX0) (T := TX0) (N := 8) hx hb hts ic_X0_init_0 tyX0 tyX0_ok nmX0 hown hK.1 hP hD hS 0 rfl rfl 4 (by decide) (hts _ lk4_X0_init) (fun _ h9 => h9) rfl hin rfl (by decide +kernel) rfl rfl (Nat.le_of_ble_eq_true rfl) dX0_init_66 (fun H locs hP hD hS => ?_)
  have hP : va_P D vwCl [(h0, .inr (0, [.ref q5, .ref q18, .ref q31, .ref q44, .ref q57, .int (zi 0), .int (zi 0), .int (zi 0)])), (q5, .inr (5, [.ref u11])), (u11, .inl (cI, 60, .inl (zf (fun _ => 0)))), (q18, .inr (5, [.ref u24])), (u24, .inl (cI, 20, .inl (zf (fun _ => 0)))), (q31, .inr (5, [.ref u37])), (u37, .inl (cI, 20, .inl (zf (fun _ => 0)))), (q44, .inr (5, [.ref u50])), (u50, .inl (cI, 20, .inl (zf (fun _ => 0)))), (q57, .inr (5, [.ref u63])), (u63, .inl (cI, 20, .inl (zf (fun _ => 0))))] H := hP
  have hD : va_D A [(h0, .inr (0, [.ref q5, .ref q18, .ref q31, .ref q44, .ref q57, .int (zi 0), .int (zi 0), .int (zi 0)])), (q5, .inr (5, [.ref u11])), (u11, .inl (cI, 60, .inl (zf (fun _ => 0)))), (q18, .inr (5, [.ref u24])), (u24, .inl (cI, 20, .inl (zf (fun _ => 0)))), (q31, .inr (5, [.ref u37])), (u37, .inl (cI, 20, .inl (zf (fun _ => 0)))), (q44, .inr (5, [.ref u50])), (u50, .inl (cI, 20, .inl (zf (fun _ => 0)))), (q57, .inr (5, [.ref u63])), (u63, .inl (cI, 20, .inl (zf (fun _ => 0))))] := hD
  refine lv_aload_n hx hb dX0_init_69 rfl (lv_at hl 0 rfl) ?_
  refine va_get (D := D) (ci := 0) (v := .ref q5) (C := RX0) (T := TX0) (N := 8) hx hb hts ic_X0_init_0 hown hK.1 hP 0 rfl rfl 0 (by decide) (hts _ lk0_X0_init) (fun _ h9 => h9) rfl dX0_init_70 ?_
  refine zi_iconst hx hb dX0_init_73 ?_
  have hDr : ∀ g, va_D A (rW [(h0, .inr (0, [.ref q5, .ref q18, .ref q31, .ref q44, .ref q57, .int (zi 0), .int (zi 0), .int (zi 0)])), (q5, .inr (5, [.ref u11])), (u11, .inl (cI, 60, .inl (zf (fun _ => 0)))), (q18, .inr (5, [.ref u24])), (u24, .inl (cI, 20, .inl (zf (fun _ => 0)))), (q31, .inr (5, [.ref u37])), (u37, .inl (cI, 20, .inl (zf (fun _ => 0)))), (q44, .inr (5, [.ref u50])), (u50, .inl (cI, 20, .inl (zf (fun _ => 0)))), (q57, .inr (5, [.ref u63])), (u63, .inl (cI, 20, .inl (zf (fun _ => 0))))] 2 u11 cI 60 g) := fun g => hD.set_arr 2 rfl
  refine va_callv (va_runV (As := [.int (zi (-1))]) (rest := []) ⟨hx, hb, hml, hown, hts⟩ (ct_X5_fill l D cI cZ cJ [(h0, .inr (0, [.ref q5, .ref q18, .ref q31, .ref q44, .ref q57, .int (zi 0), .int (zi 0), .int (zi 0)])), (q5, .inr (5, [.ref u11])), (u11, .inl (cI, 60, .inl (zf (fun _ => 0)))), (q18, .inr (5, [.ref u24])), (u24, .inl (cI, 20, .inl (zf (fun _ => 0)))), (q31, .inr (5, [.ref u37])), (u37, .inl (cI, 20, .inl (zf (fun _ => 0)))), (q44, .inr (5, [.ref u50])), (u50, .inl (cI, 20, .inl (zf (fun _ => 0)))), (q57, .inr (5, [.ref u63])), (u63, .inl (cI, 20, .inl (zf (fun _ => 0))))] A q5 u11 1 2 60 (fun _ => 0) (-1) rfl (Nat.le_of_ble_eq_true rfl) (by decide) hDr (by decide)) (cwV 1 hts gX0_init_X5_fill rfl rfl rfl (by decide +kernel) ⟨Nat.le_of_ble_eq_true rfl, Nat.le_of_ble_eq_true rfl⟩) ⟨zP_blind, va_recv hK.1 hP (ci := 5) (q0 := 1) rfl rfl, fun U hU hW => ⟨rfl, by rw [hU]; exact hP, KK.warm hW hK⟩⟩ rfl rfl hl.1 rfl (lv_room (Nat.le_of_ble_eq_true rfl)) dX0_init_74 ⟨Nat.le_of_ble_eq_true rfl, Nat.le_of_ble_eq_true rfl⟩) hS (fun _ _ h => h) (fun _ h => h) (fun u74 t H1 locs ht hvm hw hB hz1 hk1 hS => ?_)
  have hw : u74 = rFill 60 (fun _ => 0) (-1) := hw
  subst hw
  rw [ht] at hB
  have hP := hB
  have hD := hDr (rFill 60 (fun _ => 0) (-1))
  clear hB hDr hz1 hk1 ht hvm
  generalize H1 = H at hP hS ⊢
  have hP : va_P D vwCl [(h0, .inr (0, [.ref q5, .ref q18, .ref q31, .ref q44, .ref q57, .int (zi 0), .int (zi 0), .int (zi 0)])), (q5, .inr (5, [.ref u11])), (u11, .inl (cI, 60, .inl (zf (rFill 60 (fun _ => 0) (-1))))), (q18, .inr (5, [.ref u24])), (u24, .inl (cI, 20, .inl (zf (fun _ => 0)))), (q31, .inr (5, [.ref u37])), (u37, .inl (cI, 20, .inl (zf (fun _ => 0)))), (q44, .inr (5, [.ref u50])), (u50, .inl (cI, 20, .inl (zf (fun _ => 0)))), (q57, .inr (5, [.ref u63])), (u63, .inl (cI, 20, .inl (zf (fun _ => 0))))] H := hP
  have hD : va_D A [(h0, .inr (0, [.ref q5, .ref q18, .ref q31, .ref q44, .ref q57, .int (zi 0), .int (zi 0), .int (zi 0)])), (q5, .inr (5, [.ref u11])), (u11, .inl (cI, 60, .inl (zf (rFill 60 (fun _ => 0) (-1))))), (q18, .inr (5, [.ref u24])), (u24, .inl (cI, 20, .inl (zf (fun _ => 0)))), (q31, .inr (5, [.ref u37])), (u37, .inl (cI, 20, .inl (zf (fun _ => 0)))), (q44, .inr (5, [.ref u50])), (u50, .inl (cI, 20, .inl (zf (fun _ => 0)))), (q57, .inr (5, [.ref u63])), (u63, .inl (cI, 20, .inl (zf (fun _ => 0))))] := hD
  refine lv_aload_n hx hb dX0_init_77 rfl (lv_at hl 0 rfl) ?_
  refine va_get (D := D) (ci := 0) (v := .ref q18) (C := RX0) (T := TX0) (N := 8) hx hb hts ic_X0_init_0 hown hK.1 hP 0 rfl rfl 1 (by decide) (hts _ lk1_X0_init) (fun _ h9 => h9) rfl dX0_init_78 ?_
  refine zi_iconst hx hb dX0_init_81 ?_
  have hDr : ∀ g, va_D A (rW [(h0, .inr (0, [.ref q5, .ref q18, .ref q31, .ref q44, .ref q57, .int (zi 0), .int (zi 0), .int (zi 0)])), (q5, .inr (5, [.ref u11])), (u11, .inl (cI, 60, .inl (zf (rFill 60 (fun _ => 0) (-1))))), (q18, .inr (5, [.ref u24])), (u24, .inl (cI, 20, .inl (zf (fun _ => 0)))), (q31, .inr (5, [.ref u37])), (u37, .inl (cI, 20, .inl (zf (fun _ => 0)))), (q44, .inr (5, [.ref u50])), (u50, .inl (cI, 20, .inl (zf (fun _ => 0)))), (q57, .inr (5, [.ref u63])), (u63, .inl (cI, 20, .inl (zf (fun _ => 0))))] 4 u24 cI 20 g) := fun g => hD.set_arr 4 rfl
  refine va_callv (va_runV (As := [.int (zi (-1))]) (rest := []) ⟨hx, hb, hml, hown, hts⟩ (ct_X5_fill l D cI cZ cJ [(h0, .inr (0, [.ref q5, .ref q18, .ref q31, .ref q44, .ref q57, .int (zi 0), .int (zi 0), .int (zi 0)])), (q5, .inr (5, [.ref u11])), (u11, .inl (cI, 60, .inl (zf (rFill 60 (fun _ => 0) (-1))))), (q18, .inr (5, [.ref u24])), (u24, .inl (cI, 20, .inl (zf (fun _ => 0)))), (q31, .inr (5, [.ref u37])), (u37, .inl (cI, 20, .inl (zf (fun _ => 0)))), (q44, .inr (5, [.ref u50])), (u50, .inl (cI, 20, .inl (zf (fun _ => 0)))), (q57, .inr (5, [.ref u63])), (u63, .inl (cI, 20, .inl (zf (fun _ => 0))))] A q18 u24 3 4 20 (fun _ => 0) (-1) rfl (Nat.le_of_ble_eq_true rfl) (by decide) hDr (by decide)) (cwV 1 hts gX0_init_X5_fill rfl rfl rfl (by decide +kernel) ⟨Nat.le_of_ble_eq_true rfl, Nat.le_of_ble_eq_true rfl⟩) ⟨zP_blind, va_recv hK.1 hP (ci := 5) (q0 := 3) rfl rfl, fun U hU hW => ⟨rfl, by rw [hU]; exact hP, KK.warm hW hK⟩⟩ rfl rfl hl.1 rfl (lv_room (Nat.le_of_ble_eq_true rfl)) dX0_init_82 ⟨Nat.le_of_ble_eq_true rfl, Nat.le_of_ble_eq_true rfl⟩) hS (fun _ _ h => h) (fun _ h => h) (fun u82 t H1 locs ht hvm hw hB hz1 hk1 hS => ?_)
  have hw : u82 = rFill 20 (fun _ => 0) (-1) := hw
  subst hw
  rw [ht] at hB
  have hP := hB
  have hD := hDr (rFill 20 (fun _ => 0) (-1))
  clear hB hDr hz1 hk1 ht hvm
  generalize H1 = H at hP hS ⊢
  have hP : va_P D vwCl [(h0, .inr (0, [.ref q5, .ref q18, .ref q31, .ref q44, .ref q57, .int (zi 0), .int (zi 0), .int (zi 0)])), (q5, .inr (5, [.ref u11])), (u11, .inl (cI, 60, .inl (zf (rFill 60 (fun _ => 0) (-1))))), (q18, .inr (5, [.ref u24])), (u24, .inl (cI, 20, .inl (zf (rFill 20 (fun _ => 0) (-1))))), (q31, .inr (5, [.ref u37])), (u37, .inl (cI, 20, .inl (zf (fun _ => 0)))), (q44, .inr (5, [.ref u50])), (u50, .inl (cI, 20, .inl (zf (fun _ => 0)))), (q57, .inr (5, [.ref u63])), (u63, .inl (cI, 20, .inl (zf (fun _ => 0))))] H := hP
  have hD : va_D A [(h0, .inr (0, [.ref q5, .ref q18, .ref q31, .ref q44, .ref q57, .int (zi 0), .int (zi 0), .int (zi 0)])), (q5, .inr (5, [.ref u11])), (u11, .inl (cI, 60, .inl (zf (rFill 60 (fun _ => 0) (-1))))), (q18, .inr (5, [.ref u24])), (u24, .inl (cI, 20, .inl (zf (rFill 20 (fun _ => 0) (-1))))), (q31, .inr (5, [.ref u37])), (u37, .inl (cI, 20, .inl (zf (fun _ => 0)))), (q44, .inr (5, [.ref u50])), (u50, .inl (cI, 20, .inl (zf (fun _ => 0)))), (q57, .inr (5, [.ref u63])), (u63, .inl (cI, 20, .inl (zf (fun _ => 0))))] := hD
  refine lv_aload_n hx hb dX0_init_85 rfl (lv_at hl 0 rfl) ?_
  refine va_get (D := D) (ci := 0) (v := .ref q44) (C := RX0) (T := TX0) (N := 8) hx hb hts ic_X0_init_0 hown hK.1 hP 0 rfl rfl 3 (by decide) (hts _ lk3_X0_init) (fun _ h9 => h9) rfl dX0_init_86 ?_
  refine zi_iconst hx hb dX0_init_89 ?_
  have hDr : ∀ g, va_D A (rW [(h0, .inr (0, [.ref q5, .ref q18, .ref q31, .ref q44, .ref q57, .int (zi 0), .int (zi 0), .int (zi 0)])), (q5, .inr (5, [.ref u11])), (u11, .inl (cI, 60, .inl (zf (rFill 60 (fun _ => 0) (-1))))), (q18, .inr (5, [.ref u24])), (u24, .inl (cI, 20, .inl (zf (rFill 20 (fun _ => 0) (-1))))), (q31, .inr (5, [.ref u37])), (u37, .inl (cI, 20, .inl (zf (fun _ => 0)))), (q44, .inr (5, [.ref u50])), (u50, .inl (cI, 20, .inl (zf (fun _ => 0)))), (q57, .inr (5, [.ref u63])), (u63, .inl (cI, 20, .inl (zf (fun _ => 0))))] 8 u50 cI 20 g) := fun g => hD.set_arr 8 rfl
  refine va_callv (va_runV (As := [.int (zi (-1))]) (rest := []) ⟨hx, hb, hml, hown, hts⟩ (ct_X5_fill l D cI cZ cJ [(h0, .inr (0, [.ref q5, .ref q18, .ref q31, .ref q44, .ref q57, .int (zi 0), .int (zi 0), .int (zi 0)])), (q5, .inr (5, [.ref u11])), (u11, .inl (cI, 60, .inl (zf (rFill 60 (fun _ => 0) (-1))))), (q18, .inr (5, [.ref u24])), (u24, .inl (cI, 20, .inl (zf (rFill 20 (fun _ => 0) (-1))))), (q31, .inr (5, [.ref u37])), (u37, .inl (cI, 20, .inl (zf (fun _ => 0)))), (q44, .inr (5, [.ref u50])), (u50, .inl (cI, 20, .inl (zf (fun _ => 0)))), (q57, .inr (5, [.ref u63])), (u63, .inl (cI, 20, .inl (zf (fun _ => 0))))] A q44 u50 7 8 20 (fun _ => 0) (-1) rfl (Nat.le_of_ble_eq_true rfl) (by decide) hDr (by decide)) (cwV 1 hts gX0_init_X5_fill rfl rfl rfl (by decide +kernel) ⟨Nat.le_of_ble_eq_true rfl, Nat.le_of_ble_eq_true rfl⟩) ⟨zP_blind, va_recv hK.1 hP (ci := 5) (q0 := 7) rfl rfl, fun U hU hW => ⟨rfl, by rw [hU]; exact hP, KK.warm hW hK⟩⟩ rfl rfl hl.1 rfl (lv_room (Nat.le_of_ble_eq_true rfl)) dX0_init_90 ⟨Nat.le_of_ble_eq_true rfl, Nat.le_of_ble_eq_true rfl⟩) hS (fun _ _ h => h) (fun _ h => h) (fun u90 t H1 locs ht hvm hw hB hz1 hk1 hS => ?_)
  have hw : u90 = rFill 20 (fun _ => 0) (-1) := hw
  subst hw
  rw [ht] at hB
  have hP := hB
  have hD := hDr (rFill 20 (fun _ => 0) (-1))
  clear hB hDr hz1 hk1 ht hvm
  generalize H1 = H at hP hS ⊢
  have hP : va_P D vwCl [(h0, .inr (0, [.ref q5, .ref q18, .ref q31, .ref q44, .ref q57, .int (zi 0), .int (zi 0), .int (zi 0)])), (q5, .inr (5, [.ref u11])), (u11, .inl (cI, 60, .inl (zf (rFill 60 (fun _ => 0) (-1))))), (q18, .inr (5, [.ref u24])), (u24, .inl (cI, 20, .inl (zf (rFill 20 (fun _ => 0) (-1))))), (q31, .inr (5, [.ref u37])), (u37, .inl (cI, 20, .inl (zf (fun _ => 0)))), (q44, .inr (5, [.ref u50])), (u50, .inl (cI, 20, .inl (zf (rFill 20 (fun _ => 0) (-1))))), (q57, .inr (5, [.ref u63])), (u63, .inl (cI, 20, .inl (zf (fun _ => 0))))] H := hP
  have hD : va_D A [(h0, .inr (0, [.ref q5, .ref q18, .ref q31, .ref q44, .ref q57, .int (zi 0), .int (zi 0), .int (zi 0)])), (q5, .inr (5, [.ref u11])), (u11, .inl (cI, 60, .inl (zf (rFill 60 (fun _ => 0) (-1))))), (q18, .inr (5, [.ref u24])), (u24, .inl (cI, 20, .inl (zf (rFill 20 (fun _ => 0) (-1))))), (q31, .inr (5, [.ref u37])), (u37, .inl (cI, 20, .inl (zf (fun _ => 0)))), (q44, .inr (5, [.ref u50])), (u50, .inl (cI, 20, .inl (zf (rFill 20 (fun _ => 0) (-1))))), (q57, .inr (5, [.ref u63])), (u63, .inl (cI, 20, .inl (zf (fun _ => 0))))] := hD
  refine W.widen (k := 10) (n := 145) (Nat.le_of_ble_eq_true rfl) (Nat.le_of_ble_eq_true rfl) ?_
  exact W.vret hx hb hr (fun t ht hW => ⟨⟨(fun i => [q5, u11, q18, u24, q31, u37, q44, u50, q57, u63].getD i 0), rfl, trivial, by rw [ht]; exact hP, hD⟩, hS.F ht⟩) hS.2.2 dX0_init_93
theorem oml_X2_init : Cond.methodLink RX2 3 objectInit ∈ wsX2_init := by decide +kernel
theorem oin_X2_init : Cond.instanceMethod objectInit ∈ wsX2_init := by decide +kernel
theorem oco_X2_init : Cond.code objectInit ⟨#[0xb1]⟩ 1 none ∈ wsX2_init := by decide +kernel
theorem ic_X2_init_5 : ∀ w ∈ wsX50, w ∈ wsX2_init := by decide +kernel
theorem cl5_X2_init : Cond.classLink RX2 9 RX5 ∈ wsX2_init := by decide +kernel
theorem ins5_X2_init : Cond.instantiable RX5 1 ∈ wsX2_init := by decide +kernel
theorem ini5_X2_init : Cond.initialized RX5 ∈ wsX2_init := by decide +kernel
theorem iniX5_init_X2_init : Cond.initialized RX5 ∈ wsX2_init := by decide +kernel
theorem inmX5_init_X2_init : Cond.instanceMethod yX5_init ∈ wsX2_init := by decide +kernel
theorem mlX5_init_X2_init : Cond.methodLink RX2 11 yX5_init ∈ wsX2_init := by decide +kernel
theorem ic_X2_init_2 : ∀ w ∈ wsX20, w ∈ wsX2_init := by decide +kernel
theorem lk0_X2_init : Cond.fieldLink RX2 14 "PlanetoidDesk$Looks" "dots" "LPlanetoidDesk$Row;" ∈ wsX2_init := by decide +kernel
set_option maxHeartbeats 4000000 in
set_option maxRecDepth 100000 in
theorem ct_X2_init (l : Launch) (D : va_G) (cI cZ cJ : ClassId) (h0 sz : Nat) : Met l yX2_init wsX2_init { frames := 2, cells := 2, slots := 61, locals := 33 } (va_Pc [.ref h0] (fun U => U.heap.size = sz ∧ va_P D vwCl [(h0, .inr (2, [.null, .int (zi 0)]))] U.heap ∧ KK D cI cZ cJ U ∧ va_D (fun _ => True) [(h0, .inr (2, [.null, .int (zi 0)]))])) (va_Qv (S := Nat → Nat) (fun _ => True) (fun u t => va_P D vwCl [(h0, .inr (2, [.ref (u 0), .int (zi 0)])), ((u 0), .inr (5, [.ref (u 1)])), ((u 1), .inl (cI, 60, .inl (zf (fun _ => 0))))] t.heap ∧ va_D (va_A [(h0, .inr (2, [.null, .int (zi 0)]))] sz) [(h0, .inr (2, [.ref (u 0), .int (zi 0)])), ((u 0), .inr (5, [.ref (u 1)])), ((u 1), .inl (cI, 60, .inl (zf (fun _ => 0))))]) (va_A [(h0, .inr (2, [.null, .int (zi 0)]))] sz)) 2 61 (va_A [(h0, .inr (2, [.null, .int (zi 0)]))] sz) := by
  refine Met.ofW (cc := cX2_init) (maxL := 1) (ret := none) (by decide) rfl ?_
  intro p e s m args below meth c s₁ B hml hv
  obtain ⟨rfl, hsz, hP, hK, hD0⟩ := hv
  have hx := B.exec
  have hb := B.bytes
  have hr := B.returns
  have hts := atoms_spec (ws := wsX2_init) B.pre
  have hown : s.vm.findClass RX2 = some m.cls := findClass_of_methodNamed B.named
  have hlocks := B.notSynchronized
  have hin : meth.name = "<init>" := (name_of_methodNamed B.named B.method).1
  subst hsz
  have hD := hD0.self (sz := s.heap.size)
  generalize hAe : va_A [(h0, .inr (2, [.null, .int (zi 0)]))] s.heap.size = A at hD ⊢
  have hA : ∀ q : Nat, s.heap.size ≤ q → A q := fun q h => by rw [← hAe]; exact Or.inr h
  have hS : va_S A s.heap s.heap [] := va_S.rf
  have hP : va_P D vwCl [(h0, .inr (2, [.null, .int (zi 0)]))] s.heap := hP
  have hl := lv_entry ([.ref h0]) (n := 1) (Nat.le_of_ble_eq_true rfl)
  rw [lg_entry_eq]
  generalize (lg_sl ([.ref h0]) ++ List.replicate (1 - (lg_sl ([.ref h0])).length) Slot.unset).toArray = ls at hl ⊢
  have hl : lv_has ls 1 [(0, .ref h0)] := hl
  refine lv_aload_n hx hb dX2_init_0 rfl (lv_at hl 0 rfl) ?_
  refine W.objInit hx hb hown (hts _ oml_X2_init) (hts _ oin_X2_init) (hts _ oco_X2_init) rfl (by rw [hml]; exact hl.1) rfl dX2_init_1 (Nat.le_of_ble_eq_true rfl) (Nat.le_of_ble_eq_true rfl) ?_
  refine W.eq (g2 := F0 m 4 ls []) rfl ?_
  refine lv_aload_n hx hb dX2_init_4 rfl (lv_at hl 0 rfl) ?_
  refine va_new (ci := 5) (fs := [.null]) (C := RX5) (T := TX5) (N := 1) hx hb hts ic_X2_init_5 tyX5 tyX5_ok hown (hts _ cl5_X2_init) (hts _ ins5_X2_init) (hts _ ini5_X2_init) hK.1 hP hD hS hA rfl (fun j hj => by rcases (show j = 0 by omega) with rfl <;> rfl) (Nat.le_of_ble_eq_true rfl) (Nat.le_of_ble_eq_true rfl) dX2_init_5 (fun q5 H hP hD hS => ?_)
  have hP : va_P D vwCl [(h0, .inr (2, [.null, .int (zi 0)])), (q5, .inr (5, [.null]))] H := hP
  have hD : va_D A [(h0, .inr (2, [.null, .int (zi 0)])), (q5, .inr (5, [.null]))] := hD
  refine lv_dup hx hb dX2_init_8 rfl ?_
  refine zi_bipush hx hb dX2_init_9 (by decide) ?_
  have hPc := hP.sub (ws' := [(q5, .inr (5, [.null]))]) [1] rfl
  have hDc := hD.sub (ws' := [(q5, .inr (5, [.null]))]) [1] (by decide) rfl
  have hFc := va_free (wc := [(q5, .inr (5, [.null]))]) hD hS hA [1] rfl
  refine va_callv (va_runI (As := [.int (zi 60)]) (rest := [.ref q5, .ref h0]) ⟨hx, hb, hml, hown, hts⟩ (ct_X5_init l D cI cZ cJ q5 H.size 60 60 rfl (by decide) (by decide)) (cwI 1 hts gX2_init_X5_init rfl rfl rfl (hts _ iniX5_init_X2_init) (hts _ mlX5_init_X2_init) (hts _ inmX5_init_X2_init) rfl (by decide +kernel) ⟨Nat.le_of_ble_eq_true rfl, Nat.le_of_ble_eq_true rfl⟩) ⟨fun a U g mk q => by obtain ⟨q0, q1, qP, qK, qD⟩ := q; exact ⟨q0, q1, qP, KK.same (u := U) (U := U.calling g mk a) rfl qK, qD⟩, fun U hU hW => ⟨rfl, by rw [hU], by rw [hU]; exact hPc, KK.warm hW hK, hDc.weaken (fun _ _ _ _ => trivial)⟩⟩ rfl rfl hl.1 rfl (lv_room (Nat.le_of_ble_eq_true rfl)) dX2_init_11 ⟨Nat.le_of_ble_eq_true rfl, Nat.le_of_ble_eq_true rfl⟩) hS (fun q _ h => hFc q h) hFc (fun u11 t H1 locs ht hvm hw hB hz1 hk1 hS => ?_)
  obtain ⟨hP1, hD1⟩ := hB
  rw [ht] at hP1
  obtain ⟨hP, hD⟩ := va_join (wr := [(h0, .inr (2, [.null, .int (zi 0)]))]) (w1 := [(q5, .inr (5, [.ref u11])), (u11, .inl (cI, 60, .inl (zf (fun _ => 0))))]) hP hD [1] [0] rfl rfl (by decide) (by decide) hk1 hFc hP1 hD1
  clear hPc hDc hFc hP1 hD1 hz1 hk1 ht hvm hw
  generalize H1 = H at hP hS ⊢
  have hP : va_P D vwCl [(h0, .inr (2, [.null, .int (zi 0)])), (q5, .inr (5, [.ref u11])), (u11, .inl (cI, 60, .inl (zf (fun _ => 0))))] H := hP
  have hD : va_D A [(h0, .inr (2, [.null, .int (zi 0)])), (q5, .inr (5, [.ref u11])), (u11, .inl (cI, 60, .inl (zf (fun _ => 0))))] := hD
  refine va_putF (D := D) (ci := 2) (v := .ref q5) (ty := (.object "PlanetoidDesk$Row")) (C := RX2) (T := TX2) (N := 2) hx hb hts ic_X2_init_2 tyX2 tyX2_ok nmX2 hown hK.1 hP hD hS 0 rfl rfl 0 (by decide) (hts _ lk0_X2_init) (fun _ h9 => h9) rfl hin rfl (by decide +kernel) rfl rfl (Nat.le_of_ble_eq_true rfl) dX2_init_14 (fun H locs hP hD hS => ?_)
  have hP : va_P D vwCl [(h0, .inr (2, [.ref q5, .int (zi 0)])), (q5, .inr (5, [.ref u11])), (u11, .inl (cI, 60, .inl (zf (fun _ => 0))))] H := hP
  have hD : va_D A [(h0, .inr (2, [.ref q5, .int (zi 0)])), (q5, .inr (5, [.ref u11])), (u11, .inl (cI, 60, .inl (zf (fun _ => 0))))] := hD
  refine W.widen (k := 2) (n := 61) (Nat.le_of_ble_eq_true rfl) (Nat.le_of_ble_eq_true rfl) ?_
  exact W.vret hx hb hr (fun t ht hW => ⟨⟨(fun i => [q5, u11].getD i 0), rfl, trivial, by rw [ht]; exact hP, hD⟩, hS.F ht⟩) hS.2.2 dX2_init_17
theorem oml_X3_init : Cond.methodLink RX3 3 objectInit ∈ wsX3_init := by decide +kernel
theorem oin_X3_init : Cond.instanceMethod objectInit ∈ wsX3_init := by decide +kernel
theorem oco_X3_init : Cond.code objectInit ⟨#[0xb1]⟩ 1 none ∈ wsX3_init := by decide +kernel
theorem ic_X3_init_5 : ∀ w ∈ wsX50, w ∈ wsX3_init := by decide +kernel
theorem cl5_X3_init : Cond.classLink RX3 9 RX5 ∈ wsX3_init := by decide +kernel
theorem ins5_X3_init : Cond.instantiable RX5 1 ∈ wsX3_init := by decide +kernel
theorem ini5_X3_init : Cond.initialized RX5 ∈ wsX3_init := by decide +kernel
theorem iniX5_init_X3_init : Cond.initialized RX5 ∈ wsX3_init := by decide +kernel
theorem inmX5_init_X3_init : Cond.instanceMethod yX5_init ∈ wsX3_init := by decide +kernel
theorem mlX5_init_X3_init : Cond.methodLink RX3 11 yX5_init ∈ wsX3_init := by decide +kernel
theorem ic_X3_init_3 : ∀ w ∈ wsX30, w ∈ wsX3_init := by decide +kernel
theorem lk0_X3_init : Cond.fieldLink RX3 14 "PlanetoidDesk$Orbits" "starts" "LPlanetoidDesk$Row;" ∈ wsX3_init := by decide +kernel
theorem lk1_X3_init : Cond.fieldLink RX3 20 "PlanetoidDesk$Orbits" "widths" "LPlanetoidDesk$Row;" ∈ wsX3_init := by decide +kernel
theorem lk2_X3_init : Cond.fieldLink RX3 23 "PlanetoidDesk$Orbits" "tallies" "LPlanetoidDesk$Row;" ∈ wsX3_init := by decide +kernel
set_option maxHeartbeats 4000000 in
set_option maxRecDepth 100000 in
theorem ct_X3_init (l : Launch) (D : va_G) (cI cZ cJ : ClassId) (h0 sz : Nat) : Met l yX3_init wsX3_init { frames := 2, cells := 6, slots := 4413, locals := 33 } (va_Pc [.ref h0] (fun U => U.heap.size = sz ∧ va_P D vwCl [(h0, .inr (3, [.null, .null, .null]))] U.heap ∧ KK D cI cZ cJ U ∧ va_D (fun _ => True) [(h0, .inr (3, [.null, .null, .null]))])) (va_Qv (S := Nat → Nat) (fun _ => True) (fun u t => va_P D vwCl [(h0, .inr (3, [.ref (u 0), .ref (u 2), .ref (u 4)])), ((u 0), .inr (5, [.ref (u 1)])), ((u 1), .inl (cI, 405, .inl (zf (fun _ => 0)))), ((u 2), .inr (5, [.ref (u 3)])), ((u 3), .inl (cI, 405, .inl (zf (fun _ => 0)))), ((u 4), .inr (5, [.ref (u 5)])), ((u 5), .inl (cI, 3600, .inl (zf (fun _ => 0))))] t.heap ∧ va_D (va_A [(h0, .inr (3, [.null, .null, .null]))] sz) [(h0, .inr (3, [.ref (u 0), .ref (u 2), .ref (u 4)])), ((u 0), .inr (5, [.ref (u 1)])), ((u 1), .inl (cI, 405, .inl (zf (fun _ => 0)))), ((u 2), .inr (5, [.ref (u 3)])), ((u 3), .inl (cI, 405, .inl (zf (fun _ => 0)))), ((u 4), .inr (5, [.ref (u 5)])), ((u 5), .inl (cI, 3600, .inl (zf (fun _ => 0))))]) (va_A [(h0, .inr (3, [.null, .null, .null]))] sz)) 6 4413 (va_A [(h0, .inr (3, [.null, .null, .null]))] sz) := by
  refine Met.ofW (cc := cX3_init) (maxL := 1) (ret := none) (by decide) rfl ?_
  intro p e s m args below meth c s₁ B hml hv
  obtain ⟨rfl, hsz, hP, hK, hD0⟩ := hv
  have hx := B.exec
  have hb := B.bytes
  have hr := B.returns
  have hts := atoms_spec (ws := wsX3_init) B.pre
  have hown : s.vm.findClass RX3 = some m.cls := findClass_of_methodNamed B.named
  have hlocks := B.notSynchronized
  have hin : meth.name = "<init>" := (name_of_methodNamed B.named B.method).1
  subst hsz
  have hD := hD0.self (sz := s.heap.size)
  generalize hAe : va_A [(h0, .inr (3, [.null, .null, .null]))] s.heap.size = A at hD ⊢
  have hA : ∀ q : Nat, s.heap.size ≤ q → A q := fun q h => by rw [← hAe]; exact Or.inr h
  have hS : va_S A s.heap s.heap [] := va_S.rf
  have hP : va_P D vwCl [(h0, .inr (3, [.null, .null, .null]))] s.heap := hP
  have hl := lv_entry ([.ref h0]) (n := 1) (Nat.le_of_ble_eq_true rfl)
  rw [lg_entry_eq]
  generalize (lg_sl ([.ref h0]) ++ List.replicate (1 - (lg_sl ([.ref h0])).length) Slot.unset).toArray = ls at hl ⊢
  have hl : lv_has ls 1 [(0, .ref h0)] := hl
  refine lv_aload_n hx hb dX3_init_0 rfl (lv_at hl 0 rfl) ?_
  refine W.objInit hx hb hown (hts _ oml_X3_init) (hts _ oin_X3_init) (hts _ oco_X3_init) rfl (by rw [hml]; exact hl.1) rfl dX3_init_1 (Nat.le_of_ble_eq_true rfl) (Nat.le_of_ble_eq_true rfl) ?_
  refine W.eq (g2 := F0 m 4 ls []) rfl ?_
  refine lv_aload_n hx hb dX3_init_4 rfl (lv_at hl 0 rfl) ?_
  refine va_new (ci := 5) (fs := [.null]) (C := RX5) (T := TX5) (N := 1) hx hb hts ic_X3_init_5 tyX5 tyX5_ok hown (hts _ cl5_X3_init) (hts _ ins5_X3_init) (hts _ ini5_X3_init) hK.1 hP hD hS hA rfl (fun j hj => by rcases (show j = 0 by omega) with rfl <;> rfl) (Nat.le_of_ble_eq_true rfl) (Nat.le_of_ble_eq_true rfl) dX3_init_5 (fun q5 H hP hD hS => ?_)
  have hP : va_P D vwCl [(h0, .inr (3, [.null, .null, .null])), (q5, .inr (5, [.null]))] H := hP
  have hD : va_D A [(h0, .inr (3, [.null, .null, .null])), (q5, .inr (5, [.null]))] := hD
  refine lv_dup hx hb dX3_init_8 rfl ?_
  refine zi_sipush hx hb dX3_init_9 (by decide) ?_
  have hPc := hP.sub (ws' := [(q5, .inr (5, [.null]))]) [1] rfl
  have hDc := hD.sub (ws' := [(q5, .inr (5, [.null]))]) [1] (by decide) rfl
  have hFc := va_free (wc := [(q5, .inr (5, [.null]))]) hD hS hA [1] rfl
  refine va_callv (va_runI (As := [.int (zi 405)]) (rest := [.ref q5, .ref h0]) ⟨hx, hb, hml, hown, hts⟩ (ct_X5_init l D cI cZ cJ q5 H.size 405 405 rfl (by decide) (by decide)) (cwI 1 hts gX3_init_X5_init rfl rfl rfl (hts _ iniX5_init_X3_init) (hts _ mlX5_init_X3_init) (hts _ inmX5_init_X3_init) rfl (by decide +kernel) ⟨Nat.le_of_ble_eq_true rfl, Nat.le_of_ble_eq_true rfl⟩) ⟨fun a U g mk q => by obtain ⟨q0, q1, qP, qK, qD⟩ := q; exact ⟨q0, q1, qP, KK.same (u := U) (U := U.calling g mk a) rfl qK, qD⟩, fun U hU hW => ⟨rfl, by rw [hU], by rw [hU]; exact hPc, KK.warm hW hK, hDc.weaken (fun _ _ _ _ => trivial)⟩⟩ rfl rfl hl.1 rfl (lv_room (Nat.le_of_ble_eq_true rfl)) dX3_init_12 ⟨Nat.le_of_ble_eq_true rfl, Nat.le_of_ble_eq_true rfl⟩) hS (fun q _ h => hFc q h) hFc (fun u12 t H1 locs ht hvm hw hB hz1 hk1 hS => ?_)
  obtain ⟨hP1, hD1⟩ := hB
  rw [ht] at hP1
  obtain ⟨hP, hD⟩ := va_join (wr := [(h0, .inr (3, [.null, .null, .null]))]) (w1 := [(q5, .inr (5, [.ref u12])), (u12, .inl (cI, 405, .inl (zf (fun _ => 0))))]) hP hD [1] [0] rfl rfl (by decide) (by decide) hk1 hFc hP1 hD1
  clear hPc hDc hFc hP1 hD1 hz1 hk1 ht hvm hw
  generalize H1 = H at hP hS ⊢
  have hP : va_P D vwCl [(h0, .inr (3, [.null, .null, .null])), (q5, .inr (5, [.ref u12])), (u12, .inl (cI, 405, .inl (zf (fun _ => 0))))] H := hP
  have hD : va_D A [(h0, .inr (3, [.null, .null, .null])), (q5, .inr (5, [.ref u12])), (u12, .inl (cI, 405, .inl (zf (fun _ => 0))))] := hD
  refine va_putF (D := D) (ci := 3) (v := .ref q5) (ty := (.object "PlanetoidDesk$Row")) (C := RX3) (T := TX3) (N := 3) hx hb hts ic_X3_init_3 tyX3 tyX3_ok nmX3 hown hK.1 hP hD hS 0 rfl rfl 0 (by decide) (hts _ lk0_X3_init) (fun _ h9 => h9) rfl hin rfl (by decide +kernel) rfl rfl (Nat.le_of_ble_eq_true rfl) dX3_init_15 (fun H locs hP hD hS => ?_)
  have hP : va_P D vwCl [(h0, .inr (3, [.ref q5, .null, .null])), (q5, .inr (5, [.ref u12])), (u12, .inl (cI, 405, .inl (zf (fun _ => 0))))] H := hP
  have hD : va_D A [(h0, .inr (3, [.ref q5, .null, .null])), (q5, .inr (5, [.ref u12])), (u12, .inl (cI, 405, .inl (zf (fun _ => 0))))] := hD
  refine lv_aload_n hx hb dX3_init_18 rfl (lv_at hl 0 rfl) ?_
  refine va_new (ci := 5) (fs := [.null]) (C := RX5) (T := TX5) (N := 1) hx hb hts ic_X3_init_5 tyX5 tyX5_ok hown (hts _ cl5_X3_init) (hts _ ins5_X3_init) (hts _ ini5_X3_init) hK.1 hP hD hS hA rfl (fun j hj => by rcases (show j = 0 by omega) with rfl <;> rfl) (Nat.le_of_ble_eq_true rfl) (Nat.le_of_ble_eq_true rfl) dX3_init_19 (fun q19 H hP hD hS => ?_)
  have hP : va_P D vwCl [(h0, .inr (3, [.ref q5, .null, .null])), (q5, .inr (5, [.ref u12])), (u12, .inl (cI, 405, .inl (zf (fun _ => 0)))), (q19, .inr (5, [.null]))] H := hP
  have hD : va_D A [(h0, .inr (3, [.ref q5, .null, .null])), (q5, .inr (5, [.ref u12])), (u12, .inl (cI, 405, .inl (zf (fun _ => 0)))), (q19, .inr (5, [.null]))] := hD
  refine lv_dup hx hb dX3_init_22 rfl ?_
  refine zi_sipush hx hb dX3_init_23 (by decide) ?_
  have hPc := hP.sub (ws' := [(q19, .inr (5, [.null]))]) [3] rfl
  have hDc := hD.sub (ws' := [(q19, .inr (5, [.null]))]) [3] (by decide) rfl
  have hFc := va_free (wc := [(q19, .inr (5, [.null]))]) hD hS hA [3] rfl
  refine va_callv (va_runI (As := [.int (zi 405)]) (rest := [.ref q19, .ref h0]) ⟨hx, hb, hml, hown, hts⟩ (ct_X5_init l D cI cZ cJ q19 H.size 405 405 rfl (by decide) (by decide)) (cwI 1 hts gX3_init_X5_init rfl rfl rfl (hts _ iniX5_init_X3_init) (hts _ mlX5_init_X3_init) (hts _ inmX5_init_X3_init) rfl (by decide +kernel) ⟨Nat.le_of_ble_eq_true rfl, Nat.le_of_ble_eq_true rfl⟩) ⟨fun a U g mk q => by obtain ⟨q0, q1, qP, qK, qD⟩ := q; exact ⟨q0, q1, qP, KK.same (u := U) (U := U.calling g mk a) rfl qK, qD⟩, fun U hU hW => ⟨rfl, by rw [hU], by rw [hU]; exact hPc, KK.warm hW hK, hDc.weaken (fun _ _ _ _ => trivial)⟩⟩ rfl rfl hl.1 rfl (lv_room (Nat.le_of_ble_eq_true rfl)) dX3_init_26 ⟨Nat.le_of_ble_eq_true rfl, Nat.le_of_ble_eq_true rfl⟩) hS (fun q _ h => hFc q h) hFc (fun u26 t H1 locs ht hvm hw hB hz1 hk1 hS => ?_)
  obtain ⟨hP1, hD1⟩ := hB
  rw [ht] at hP1
  obtain ⟨hP, hD⟩ := va_join (wr := [(h0, .inr (3, [.ref q5, .null, .null])), (q5, .inr (5, [.ref u12])), (u12, .inl (cI, 405, .inl (zf (fun _ => 0))))]) (w1 := [(q19, .inr (5, [.ref u26])), (u26, .inl (cI, 405, .inl (zf (fun _ => 0))))]) hP hD [3] [0, 1, 2] rfl rfl (by decide) (by decide) hk1 hFc hP1 hD1
  clear hPc hDc hFc hP1 hD1 hz1 hk1 ht hvm hw
  generalize H1 = H at hP hS ⊢
  have hP : va_P D vwCl [(h0, .inr (3, [.ref q5, .null, .null])), (q5, .inr (5, [.ref u12])), (u12, .inl (cI, 405, .inl (zf (fun _ => 0)))), (q19, .inr (5, [.ref u26])), (u26, .inl (cI, 405, .inl (zf (fun _ => 0))))] H := hP
  have hD : va_D A [(h0, .inr (3, [.ref q5, .null, .null])), (q5, .inr (5, [.ref u12])), (u12, .inl (cI, 405, .inl (zf (fun _ => 0)))), (q19, .inr (5, [.ref u26])), (u26, .inl (cI, 405, .inl (zf (fun _ => 0))))] := hD
  refine va_putF (D := D) (ci := 3) (v := .ref q19) (ty := (.object "PlanetoidDesk$Row")) (C := RX3) (T := TX3) (N := 3) hx hb hts ic_X3_init_3 tyX3 tyX3_ok nmX3 hown hK.1 hP hD hS 0 rfl rfl 1 (by decide) (hts _ lk1_X3_init) (fun _ h9 => h9) rfl hin rfl (by decide +kernel) rfl rfl (Nat.le_of_ble_eq_true rfl) dX3_init_29 (fun H locs hP hD hS => ?_)
  have hP : va_P D vwCl [(h0, .inr (3, [.ref q5, .ref q19, .null])), (q5, .inr (5, [.ref u12])), (u12, .inl (cI, 405, .inl (zf (fun _ => 0)))), (q19, .inr (5, [.ref u26])), (u26, .inl (cI, 405, .inl (zf (fun _ => 0))))] H := hP
  have hD : va_D A [(h0, .inr (3, [.ref q5, .ref q19, .null])), (q5, .inr (5, [.ref u12])), (u12, .inl (cI, 405, .inl (zf (fun _ => 0)))), (q19, .inr (5, [.ref u26])), (u26, .inl (cI, 405, .inl (zf (fun _ => 0))))] := hD
  refine lv_aload_n hx hb dX3_init_32 rfl (lv_at hl 0 rfl) ?_
  refine va_new (ci := 5) (fs := [.null]) (C := RX5) (T := TX5) (N := 1) hx hb hts ic_X3_init_5 tyX5 tyX5_ok hown (hts _ cl5_X3_init) (hts _ ins5_X3_init) (hts _ ini5_X3_init) hK.1 hP hD hS hA rfl (fun j hj => by rcases (show j = 0 by omega) with rfl <;> rfl) (Nat.le_of_ble_eq_true rfl) (Nat.le_of_ble_eq_true rfl) dX3_init_33 (fun q33 H hP hD hS => ?_)
  have hP : va_P D vwCl [(h0, .inr (3, [.ref q5, .ref q19, .null])), (q5, .inr (5, [.ref u12])), (u12, .inl (cI, 405, .inl (zf (fun _ => 0)))), (q19, .inr (5, [.ref u26])), (u26, .inl (cI, 405, .inl (zf (fun _ => 0)))), (q33, .inr (5, [.null]))] H := hP
  have hD : va_D A [(h0, .inr (3, [.ref q5, .ref q19, .null])), (q5, .inr (5, [.ref u12])), (u12, .inl (cI, 405, .inl (zf (fun _ => 0)))), (q19, .inr (5, [.ref u26])), (u26, .inl (cI, 405, .inl (zf (fun _ => 0)))), (q33, .inr (5, [.null]))] := hD
  refine lv_dup hx hb dX3_init_36 rfl ?_
  refine zi_sipush hx hb dX3_init_37 (by decide) ?_
  have hPc := hP.sub (ws' := [(q33, .inr (5, [.null]))]) [5] rfl
  have hDc := hD.sub (ws' := [(q33, .inr (5, [.null]))]) [5] (by decide) rfl
  have hFc := va_free (wc := [(q33, .inr (5, [.null]))]) hD hS hA [5] rfl
  refine va_callv (va_runI (As := [.int (zi 3600)]) (rest := [.ref q33, .ref h0]) ⟨hx, hb, hml, hown, hts⟩ (ct_X5_init l D cI cZ cJ q33 H.size 3600 3600 rfl (by decide) (by decide)) (cwI 1 hts gX3_init_X5_init rfl rfl rfl (hts _ iniX5_init_X3_init) (hts _ mlX5_init_X3_init) (hts _ inmX5_init_X3_init) rfl (by decide +kernel) ⟨Nat.le_of_ble_eq_true rfl, Nat.le_of_ble_eq_true rfl⟩) ⟨fun a U g mk q => by obtain ⟨q0, q1, qP, qK, qD⟩ := q; exact ⟨q0, q1, qP, KK.same (u := U) (U := U.calling g mk a) rfl qK, qD⟩, fun U hU hW => ⟨rfl, by rw [hU], by rw [hU]; exact hPc, KK.warm hW hK, hDc.weaken (fun _ _ _ _ => trivial)⟩⟩ rfl rfl hl.1 rfl (lv_room (Nat.le_of_ble_eq_true rfl)) dX3_init_40 ⟨Nat.le_of_ble_eq_true rfl, Nat.le_of_ble_eq_true rfl⟩) hS (fun q _ h => hFc q h) hFc (fun u40 t H1 locs ht hvm hw hB hz1 hk1 hS => ?_)
  obtain ⟨hP1, hD1⟩ := hB
  rw [ht] at hP1
  obtain ⟨hP, hD⟩ := va_join (wr := [(h0, .inr (3, [.ref q5, .ref q19, .null])), (q5, .inr (5, [.ref u12])), (u12, .inl (cI, 405, .inl (zf (fun _ => 0)))), (q19, .inr (5, [.ref u26])), (u26, .inl (cI, 405, .inl (zf (fun _ => 0))))]) (w1 := [(q33, .inr (5, [.ref u40])), (u40, .inl (cI, 3600, .inl (zf (fun _ => 0))))]) hP hD [5] [0, 1, 2, 3, 4] rfl rfl (by decide) (by decide) hk1 hFc hP1 hD1
  clear hPc hDc hFc hP1 hD1 hz1 hk1 ht hvm hw
  generalize H1 = H at hP hS ⊢
  have hP : va_P D vwCl [(h0, .inr (3, [.ref q5, .ref q19, .null])), (q5, .inr (5, [.ref u12])), (u12, .inl (cI, 405, .inl (zf (fun _ => 0)))), (q19, .inr (5, [.ref u26])), (u26, .inl (cI, 405, .inl (zf (fun _ => 0)))), (q33, .inr (5, [.ref u40])), (u40, .inl (cI, 3600, .inl (zf (fun _ => 0))))] H := hP
  have hD : va_D A [(h0, .inr (3, [.ref q5, .ref q19, .null])), (q5, .inr (5, [.ref u12])), (u12, .inl (cI, 405, .inl (zf (fun _ => 0)))), (q19, .inr (5, [.ref u26])), (u26, .inl (cI, 405, .inl (zf (fun _ => 0)))), (q33, .inr (5, [.ref u40])), (u40, .inl (cI, 3600, .inl (zf (fun _ => 0))))] := hD
  refine va_putF (D := D) (ci := 3) (v := .ref q33) (ty := (.object "PlanetoidDesk$Row")) (C := RX3) (T := TX3) (N := 3) hx hb hts ic_X3_init_3 tyX3 tyX3_ok nmX3 hown hK.1 hP hD hS 0 rfl rfl 2 (by decide) (hts _ lk2_X3_init) (fun _ h9 => h9) rfl hin rfl (by decide +kernel) rfl rfl (Nat.le_of_ble_eq_true rfl) dX3_init_43 (fun H locs hP hD hS => ?_)
  have hP : va_P D vwCl [(h0, .inr (3, [.ref q5, .ref q19, .ref q33])), (q5, .inr (5, [.ref u12])), (u12, .inl (cI, 405, .inl (zf (fun _ => 0)))), (q19, .inr (5, [.ref u26])), (u26, .inl (cI, 405, .inl (zf (fun _ => 0)))), (q33, .inr (5, [.ref u40])), (u40, .inl (cI, 3600, .inl (zf (fun _ => 0))))] H := hP
  have hD : va_D A [(h0, .inr (3, [.ref q5, .ref q19, .ref q33])), (q5, .inr (5, [.ref u12])), (u12, .inl (cI, 405, .inl (zf (fun _ => 0)))), (q19, .inr (5, [.ref u26])), (u26, .inl (cI, 405, .inl (zf (fun _ => 0)))), (q33, .inr (5, [.ref u40])), (u40, .inl (cI, 3600, .inl (zf (fun _ => 0))))] := hD
  refine W.widen (k := 6) (n := 4413) (Nat.le_of_ble_eq_true rfl) (Nat.le_of_ble_eq_true rfl) ?_
  exact W.vret hx hb hr (fun t ht hW => ⟨⟨(fun i => [q5, u12, q19, u26, q33, u40].getD i 0), rfl, trivial, by rw [ht]; exact hP, hD⟩, hS.F ht⟩) hS.2.2 dX3_init_46
theorem oml_X4_init : Cond.methodLink RX4 3 objectInit ∈ wsX4_init := by decide +kernel
theorem oin_X4_init : Cond.instanceMethod objectInit ∈ wsX4_init := by decide +kernel
theorem oco_X4_init : Cond.code objectInit ⟨#[0xb1]⟩ 1 none ∈ wsX4_init := by decide +kernel
theorem ic_X4_init_5 : ∀ w ∈ wsX50, w ∈ wsX4_init := by decide +kernel
theorem cl5_X4_init : Cond.classLink RX4 9 RX5 ∈ wsX4_init := by decide +kernel
theorem ins5_X4_init : Cond.instantiable RX5 1 ∈ wsX4_init := by decide +kernel
theorem ini5_X4_init : Cond.initialized RX5 ∈ wsX4_init := by decide +kernel
theorem iniX5_init_X4_init : Cond.initialized RX5 ∈ wsX4_init := by decide +kernel
theorem inmX5_init_X4_init : Cond.instanceMethod yX5_init ∈ wsX4_init := by decide +kernel
theorem mlX5_init_X4_init : Cond.methodLink RX4 11 yX5_init ∈ wsX4_init := by decide +kernel
theorem ic_X4_init_4 : ∀ w ∈ wsX40, w ∈ wsX4_init := by decide +kernel
theorem lk0_X4_init : Cond.fieldLink RX4 14 "PlanetoidDesk$Paths" "groupHeads" "LPlanetoidDesk$Row;" ∈ wsX4_init := by decide +kernel
theorem lk1_X4_init : Cond.fieldLink RX4 20 "PlanetoidDesk$Paths" "nextInGroup" "LPlanetoidDesk$Row;" ∈ wsX4_init := by decide +kernel
theorem lk2_X4_init : Cond.fieldLink RX4 23 "PlanetoidDesk$Paths" "lastGroupAt" "LPlanetoidDesk$Row;" ∈ wsX4_init := by decide +kernel
set_option maxHeartbeats 4000000 in
set_option maxRecDepth 100000 in
theorem ct_X4_init (l : Launch) (D : va_G) (cI cZ cJ : ClassId) (h0 sz : Nat) : Met l yX4_init wsX4_init { frames := 2, cells := 6, slots := 7608, locals := 33 } (va_Pc [.ref h0] (fun U => U.heap.size = sz ∧ va_P D vwCl [(h0, .inr (4, [.null, .null, .null, .int (zi 0), .int (zi 0)]))] U.heap ∧ KK D cI cZ cJ U ∧ va_D (fun _ => True) [(h0, .inr (4, [.null, .null, .null, .int (zi 0), .int (zi 0)]))])) (va_Qv (S := Nat → Nat) (fun _ => True) (fun u t => va_P D vwCl [(h0, .inr (4, [.ref (u 0), .ref (u 2), .ref (u 4), .int (zi 0), .int (zi 0)])), ((u 0), .inr (5, [.ref (u 1)])), ((u 1), .inl (cI, 3600, .inl (zf (fun _ => 0)))), ((u 2), .inr (5, [.ref (u 3)])), ((u 3), .inl (cI, 405, .inl (zf (fun _ => 0)))), ((u 4), .inr (5, [.ref (u 5)])), ((u 5), .inl (cI, 3600, .inl (zf (fun _ => 0))))] t.heap ∧ va_D (va_A [(h0, .inr (4, [.null, .null, .null, .int (zi 0), .int (zi 0)]))] sz) [(h0, .inr (4, [.ref (u 0), .ref (u 2), .ref (u 4), .int (zi 0), .int (zi 0)])), ((u 0), .inr (5, [.ref (u 1)])), ((u 1), .inl (cI, 3600, .inl (zf (fun _ => 0)))), ((u 2), .inr (5, [.ref (u 3)])), ((u 3), .inl (cI, 405, .inl (zf (fun _ => 0)))), ((u 4), .inr (5, [.ref (u 5)])), ((u 5), .inl (cI, 3600, .inl (zf (fun _ => 0))))]) (va_A [(h0, .inr (4, [.null, .null, .null, .int (zi 0), .int (zi 0)]))] sz)) 6 7608 (va_A [(h0, .inr (4, [.null, .null, .null, .int (zi 0), .int (zi 0)]))] sz) := by
  refine Met.ofW (cc := cX4_init) (maxL := 1) (ret := none) (by decide) rfl ?_
  intro p e s m args below meth c s₁ B hml hv
  obtain ⟨rfl, hsz, hP, hK, hD0⟩ := hv
  have hx := B.exec
  have hb := B.bytes
  have hr := B.returns
  have hts := atoms_spec (ws := wsX4_init) B.pre
  have hown : s.vm.findClass RX4 = some m.cls := findClass_of_methodNamed B.named
  have hlocks := B.notSynchronized
  have hin : meth.name = "<init>" := (name_of_methodNamed B.named B.method).1
  subst hsz
  have hD := hD0.self (sz := s.heap.size)
  generalize hAe : va_A [(h0, .inr (4, [.null, .null, .null, .int (zi 0), .int (zi 0)]))] s.heap.size = A at hD ⊢
  have hA : ∀ q : Nat, s.heap.size ≤ q → A q := fun q h => by rw [← hAe]; exact Or.inr h
  have hS : va_S A s.heap s.heap [] := va_S.rf
  have hP : va_P D vwCl [(h0, .inr (4, [.null, .null, .null, .int (zi 0), .int (zi 0)]))] s.heap := hP
  have hl := lv_entry ([.ref h0]) (n := 1) (Nat.le_of_ble_eq_true rfl)
  rw [lg_entry_eq]
  generalize (lg_sl ([.ref h0]) ++ List.replicate (1 - (lg_sl ([.ref h0])).length) Slot.unset).toArray = ls at hl ⊢
  have hl : lv_has ls 1 [(0, .ref h0)] := hl
  refine lv_aload_n hx hb dX4_init_0 rfl (lv_at hl 0 rfl) ?_
  refine W.objInit hx hb hown (hts _ oml_X4_init) (hts _ oin_X4_init) (hts _ oco_X4_init) rfl (by rw [hml]; exact hl.1) rfl dX4_init_1 (Nat.le_of_ble_eq_true rfl) (Nat.le_of_ble_eq_true rfl) ?_
  refine W.eq (g2 := F0 m 4 ls []) rfl ?_
  refine lv_aload_n hx hb dX4_init_4 rfl (lv_at hl 0 rfl) ?_
  refine va_new (ci := 5) (fs := [.null]) (C := RX5) (T := TX5) (N := 1) hx hb hts ic_X4_init_5 tyX5 tyX5_ok hown (hts _ cl5_X4_init) (hts _ ins5_X4_init) (hts _ ini5_X4_init) hK.1 hP hD hS hA rfl (fun j hj => by rcases (show j = 0 by omega) with rfl <;> rfl) (Nat.le_of_ble_eq_true rfl) (Nat.le_of_ble_eq_true rfl) dX4_init_5 (fun q5 H hP hD hS => ?_)
  have hP : va_P D vwCl [(h0, .inr (4, [.null, .null, .null, .int (zi 0), .int (zi 0)])), (q5, .inr (5, [.null]))] H := hP
  have hD : va_D A [(h0, .inr (4, [.null, .null, .null, .int (zi 0), .int (zi 0)])), (q5, .inr (5, [.null]))] := hD
  refine lv_dup hx hb dX4_init_8 rfl ?_
  refine zi_sipush hx hb dX4_init_9 (by decide) ?_
  have hPc := hP.sub (ws' := [(q5, .inr (5, [.null]))]) [1] rfl
  have hDc := hD.sub (ws' := [(q5, .inr (5, [.null]))]) [1] (by decide) rfl
  have hFc := va_free (wc := [(q5, .inr (5, [.null]))]) hD hS hA [1] rfl
  refine va_callv (va_runI (As := [.int (zi 3600)]) (rest := [.ref q5, .ref h0]) ⟨hx, hb, hml, hown, hts⟩ (ct_X5_init l D cI cZ cJ q5 H.size 3600 3600 rfl (by decide) (by decide)) (cwI 1 hts gX4_init_X5_init rfl rfl rfl (hts _ iniX5_init_X4_init) (hts _ mlX5_init_X4_init) (hts _ inmX5_init_X4_init) rfl (by decide +kernel) ⟨Nat.le_of_ble_eq_true rfl, Nat.le_of_ble_eq_true rfl⟩) ⟨fun a U g mk q => by obtain ⟨q0, q1, qP, qK, qD⟩ := q; exact ⟨q0, q1, qP, KK.same (u := U) (U := U.calling g mk a) rfl qK, qD⟩, fun U hU hW => ⟨rfl, by rw [hU], by rw [hU]; exact hPc, KK.warm hW hK, hDc.weaken (fun _ _ _ _ => trivial)⟩⟩ rfl rfl hl.1 rfl (lv_room (Nat.le_of_ble_eq_true rfl)) dX4_init_12 ⟨Nat.le_of_ble_eq_true rfl, Nat.le_of_ble_eq_true rfl⟩) hS (fun q _ h => hFc q h) hFc (fun u12 t H1 locs ht hvm hw hB hz1 hk1 hS => ?_)
  obtain ⟨hP1, hD1⟩ := hB
  rw [ht] at hP1
  obtain ⟨hP, hD⟩ := va_join (wr := [(h0, .inr (4, [.null, .null, .null, .int (zi 0), .int (zi 0)]))]) (w1 := [(q5, .inr (5, [.ref u12])), (u12, .inl (cI, 3600, .inl (zf (fun _ => 0))))]) hP hD [1] [0] rfl rfl (by decide) (by decide) hk1 hFc hP1 hD1
  clear hPc hDc hFc hP1 hD1 hz1 hk1 ht hvm hw
  generalize H1 = H at hP hS ⊢
  have hP : va_P D vwCl [(h0, .inr (4, [.null, .null, .null, .int (zi 0), .int (zi 0)])), (q5, .inr (5, [.ref u12])), (u12, .inl (cI, 3600, .inl (zf (fun _ => 0))))] H := hP
  have hD : va_D A [(h0, .inr (4, [.null, .null, .null, .int (zi 0), .int (zi 0)])), (q5, .inr (5, [.ref u12])), (u12, .inl (cI, 3600, .inl (zf (fun _ => 0))))] := hD
  refine va_putF (D := D) (ci := 4) (v := .ref q5) (ty := (.object "PlanetoidDesk$Row")) (C := RX4) (T := TX4) (N := 5) hx hb hts ic_X4_init_4 tyX4 tyX4_ok nmX4 hown hK.1 hP hD hS 0 rfl rfl 0 (by decide) (hts _ lk0_X4_init) (fun _ h9 => h9) rfl hin rfl (by decide +kernel) rfl rfl (Nat.le_of_ble_eq_true rfl) dX4_init_15 (fun H locs hP hD hS => ?_)
  have hP : va_P D vwCl [(h0, .inr (4, [.ref q5, .null, .null, .int (zi 0), .int (zi 0)])), (q5, .inr (5, [.ref u12])), (u12, .inl (cI, 3600, .inl (zf (fun _ => 0))))] H := hP
  have hD : va_D A [(h0, .inr (4, [.ref q5, .null, .null, .int (zi 0), .int (zi 0)])), (q5, .inr (5, [.ref u12])), (u12, .inl (cI, 3600, .inl (zf (fun _ => 0))))] := hD
  refine lv_aload_n hx hb dX4_init_18 rfl (lv_at hl 0 rfl) ?_
  refine va_new (ci := 5) (fs := [.null]) (C := RX5) (T := TX5) (N := 1) hx hb hts ic_X4_init_5 tyX5 tyX5_ok hown (hts _ cl5_X4_init) (hts _ ins5_X4_init) (hts _ ini5_X4_init) hK.1 hP hD hS hA rfl (fun j hj => by rcases (show j = 0 by omega) with rfl <;> rfl) (Nat.le_of_ble_eq_true rfl) (Nat.le_of_ble_eq_true rfl) dX4_init_19 (fun q19 H hP hD hS => ?_)
  have hP : va_P D vwCl [(h0, .inr (4, [.ref q5, .null, .null, .int (zi 0), .int (zi 0)])), (q5, .inr (5, [.ref u12])), (u12, .inl (cI, 3600, .inl (zf (fun _ => 0)))), (q19, .inr (5, [.null]))] H := hP
  have hD : va_D A [(h0, .inr (4, [.ref q5, .null, .null, .int (zi 0), .int (zi 0)])), (q5, .inr (5, [.ref u12])), (u12, .inl (cI, 3600, .inl (zf (fun _ => 0)))), (q19, .inr (5, [.null]))] := hD
  refine lv_dup hx hb dX4_init_22 rfl ?_
  refine zi_sipush hx hb dX4_init_23 (by decide) ?_
  have hPc := hP.sub (ws' := [(q19, .inr (5, [.null]))]) [3] rfl
  have hDc := hD.sub (ws' := [(q19, .inr (5, [.null]))]) [3] (by decide) rfl
  have hFc := va_free (wc := [(q19, .inr (5, [.null]))]) hD hS hA [3] rfl
  refine va_callv (va_runI (As := [.int (zi 405)]) (rest := [.ref q19, .ref h0]) ⟨hx, hb, hml, hown, hts⟩ (ct_X5_init l D cI cZ cJ q19 H.size 405 405 rfl (by decide) (by decide)) (cwI 1 hts gX4_init_X5_init rfl rfl rfl (hts _ iniX5_init_X4_init) (hts _ mlX5_init_X4_init) (hts _ inmX5_init_X4_init) rfl (by decide +kernel) ⟨Nat.le_of_ble_eq_true rfl, Nat.le_of_ble_eq_true rfl⟩) ⟨fun a U g mk q => by obtain ⟨q0, q1, qP, qK, qD⟩ := q; exact ⟨q0, q1, qP, KK.same (u := U) (U := U.calling g mk a) rfl qK, qD⟩, fun U hU hW => ⟨rfl, by rw [hU], by rw [hU]; exact hPc, KK.warm hW hK, hDc.weaken (fun _ _ _ _ => trivial)⟩⟩ rfl rfl hl.1 rfl (lv_room (Nat.le_of_ble_eq_true rfl)) dX4_init_26 ⟨Nat.le_of_ble_eq_true rfl, Nat.le_of_ble_eq_true rfl⟩) hS (fun q _ h => hFc q h) hFc (fun u26 t H1 locs ht hvm hw hB hz1 hk1 hS => ?_)
  obtain ⟨hP1, hD1⟩ := hB
  rw [ht] at hP1
  obtain ⟨hP, hD⟩ := va_join (wr := [(h0, .inr (4, [.ref q5, .null, .null, .int (zi 0), .int (zi 0)])), (q5, .inr (5, [.ref u12])), (u12, .inl (cI, 3600, .inl (zf (fun _ => 0))))]) (w1 := [(q19, .inr (5, [.ref u26])), (u26, .inl (cI, 405, .inl (zf (fun _ => 0))))]) hP hD [3] [0, 1, 2] rfl rfl (by decide) (by decide) hk1 hFc hP1 hD1
  clear hPc hDc hFc hP1 hD1 hz1 hk1 ht hvm hw
  generalize H1 = H at hP hS ⊢
  have hP : va_P D vwCl [(h0, .inr (4, [.ref q5, .null, .null, .int (zi 0), .int (zi 0)])), (q5, .inr (5, [.ref u12])), (u12, .inl (cI, 3600, .inl (zf (fun _ => 0)))), (q19, .inr (5, [.ref u26])), (u26, .inl (cI, 405, .inl (zf (fun _ => 0))))] H := hP
  have hD : va_D A [(h0, .inr (4, [.ref q5, .null, .null, .int (zi 0), .int (zi 0)])), (q5, .inr (5, [.ref u12])), (u12, .inl (cI, 3600, .inl (zf (fun _ => 0)))), (q19, .inr (5, [.ref u26])), (u26, .inl (cI, 405, .inl (zf (fun _ => 0))))] := hD
  refine va_putF (D := D) (ci := 4) (v := .ref q19) (ty := (.object "PlanetoidDesk$Row")) (C := RX4) (T := TX4) (N := 5) hx hb hts ic_X4_init_4 tyX4 tyX4_ok nmX4 hown hK.1 hP hD hS 0 rfl rfl 1 (by decide) (hts _ lk1_X4_init) (fun _ h9 => h9) rfl hin rfl (by decide +kernel) rfl rfl (Nat.le_of_ble_eq_true rfl) dX4_init_29 (fun H locs hP hD hS => ?_)
  have hP : va_P D vwCl [(h0, .inr (4, [.ref q5, .ref q19, .null, .int (zi 0), .int (zi 0)])), (q5, .inr (5, [.ref u12])), (u12, .inl (cI, 3600, .inl (zf (fun _ => 0)))), (q19, .inr (5, [.ref u26])), (u26, .inl (cI, 405, .inl (zf (fun _ => 0))))] H := hP
  have hD : va_D A [(h0, .inr (4, [.ref q5, .ref q19, .null, .int (zi 0), .int (zi 0)])), (q5, .inr (5, [.ref u12])), (u12, .inl (cI, 3600, .inl (zf (fun _ => 0)))), (q19, .inr (5, [.ref u26])), (u26, .inl (cI, 405, .inl (zf (fun _ => 0))))] := hD
  refine lv_aload_n hx hb dX4_init_32 rfl (lv_at hl 0 rfl) ?_
  refine va_new (ci := 5) (fs := [.null]) (C := RX5) (T := TX5) (N := 1) hx hb hts ic_X4_init_5 tyX5 tyX5_ok hown (hts _ cl5_X4_init) (hts _ ins5_X4_init) (hts _ ini5_X4_init) hK.1 hP hD hS hA rfl (fun j hj => by rcases (show j = 0 by omega) with rfl <;> rfl) (Nat.le_of_ble_eq_true rfl) (Nat.le_of_ble_eq_true rfl) dX4_init_33 (fun q33 H hP hD hS => ?_)
  have hP : va_P D vwCl [(h0, .inr (4, [.ref q5, .ref q19, .null, .int (zi 0), .int (zi 0)])), (q5, .inr (5, [.ref u12])), (u12, .inl (cI, 3600, .inl (zf (fun _ => 0)))), (q19, .inr (5, [.ref u26])), (u26, .inl (cI, 405, .inl (zf (fun _ => 0)))), (q33, .inr (5, [.null]))] H := hP
  have hD : va_D A [(h0, .inr (4, [.ref q5, .ref q19, .null, .int (zi 0), .int (zi 0)])), (q5, .inr (5, [.ref u12])), (u12, .inl (cI, 3600, .inl (zf (fun _ => 0)))), (q19, .inr (5, [.ref u26])), (u26, .inl (cI, 405, .inl (zf (fun _ => 0)))), (q33, .inr (5, [.null]))] := hD
  refine lv_dup hx hb dX4_init_36 rfl ?_
  refine zi_sipush hx hb dX4_init_37 (by decide) ?_
  have hPc := hP.sub (ws' := [(q33, .inr (5, [.null]))]) [5] rfl
  have hDc := hD.sub (ws' := [(q33, .inr (5, [.null]))]) [5] (by decide) rfl
  have hFc := va_free (wc := [(q33, .inr (5, [.null]))]) hD hS hA [5] rfl
  refine va_callv (va_runI (As := [.int (zi 3600)]) (rest := [.ref q33, .ref h0]) ⟨hx, hb, hml, hown, hts⟩ (ct_X5_init l D cI cZ cJ q33 H.size 3600 3600 rfl (by decide) (by decide)) (cwI 1 hts gX4_init_X5_init rfl rfl rfl (hts _ iniX5_init_X4_init) (hts _ mlX5_init_X4_init) (hts _ inmX5_init_X4_init) rfl (by decide +kernel) ⟨Nat.le_of_ble_eq_true rfl, Nat.le_of_ble_eq_true rfl⟩) ⟨fun a U g mk q => by obtain ⟨q0, q1, qP, qK, qD⟩ := q; exact ⟨q0, q1, qP, KK.same (u := U) (U := U.calling g mk a) rfl qK, qD⟩, fun U hU hW => ⟨rfl, by rw [hU], by rw [hU]; exact hPc, KK.warm hW hK, hDc.weaken (fun _ _ _ _ => trivial)⟩⟩ rfl rfl hl.1 rfl (lv_room (Nat.le_of_ble_eq_true rfl)) dX4_init_40 ⟨Nat.le_of_ble_eq_true rfl, Nat.le_of_ble_eq_true rfl⟩) hS (fun q _ h => hFc q h) hFc (fun u40 t H1 locs ht hvm hw hB hz1 hk1 hS => ?_)
  obtain ⟨hP1, hD1⟩ := hB
  rw [ht] at hP1
  obtain ⟨hP, hD⟩ := va_join (wr := [(h0, .inr (4, [.ref q5, .ref q19, .null, .int (zi 0), .int (zi 0)])), (q5, .inr (5, [.ref u12])), (u12, .inl (cI, 3600, .inl (zf (fun _ => 0)))), (q19, .inr (5, [.ref u26])), (u26, .inl (cI, 405, .inl (zf (fun _ => 0))))]) (w1 := [(q33, .inr (5, [.ref u40])), (u40, .inl (cI, 3600, .inl (zf (fun _ => 0))))]) hP hD [5] [0, 1, 2, 3, 4] rfl rfl (by decide) (by decide) hk1 hFc hP1 hD1
  clear hPc hDc hFc hP1 hD1 hz1 hk1 ht hvm hw
  generalize H1 = H at hP hS ⊢
  have hP : va_P D vwCl [(h0, .inr (4, [.ref q5, .ref q19, .null, .int (zi 0), .int (zi 0)])), (q5, .inr (5, [.ref u12])), (u12, .inl (cI, 3600, .inl (zf (fun _ => 0)))), (q19, .inr (5, [.ref u26])), (u26, .inl (cI, 405, .inl (zf (fun _ => 0)))), (q33, .inr (5, [.ref u40])), (u40, .inl (cI, 3600, .inl (zf (fun _ => 0))))] H := hP
  have hD : va_D A [(h0, .inr (4, [.ref q5, .ref q19, .null, .int (zi 0), .int (zi 0)])), (q5, .inr (5, [.ref u12])), (u12, .inl (cI, 3600, .inl (zf (fun _ => 0)))), (q19, .inr (5, [.ref u26])), (u26, .inl (cI, 405, .inl (zf (fun _ => 0)))), (q33, .inr (5, [.ref u40])), (u40, .inl (cI, 3600, .inl (zf (fun _ => 0))))] := hD
  refine va_putF (D := D) (ci := 4) (v := .ref q33) (ty := (.object "PlanetoidDesk$Row")) (C := RX4) (T := TX4) (N := 5) hx hb hts ic_X4_init_4 tyX4 tyX4_ok nmX4 hown hK.1 hP hD hS 0 rfl rfl 2 (by decide) (hts _ lk2_X4_init) (fun _ h9 => h9) rfl hin rfl (by decide +kernel) rfl rfl (Nat.le_of_ble_eq_true rfl) dX4_init_43 (fun H locs hP hD hS => ?_)
  have hP : va_P D vwCl [(h0, .inr (4, [.ref q5, .ref q19, .ref q33, .int (zi 0), .int (zi 0)])), (q5, .inr (5, [.ref u12])), (u12, .inl (cI, 3600, .inl (zf (fun _ => 0)))), (q19, .inr (5, [.ref u26])), (u26, .inl (cI, 405, .inl (zf (fun _ => 0)))), (q33, .inr (5, [.ref u40])), (u40, .inl (cI, 3600, .inl (zf (fun _ => 0))))] H := hP
  have hD : va_D A [(h0, .inr (4, [.ref q5, .ref q19, .ref q33, .int (zi 0), .int (zi 0)])), (q5, .inr (5, [.ref u12])), (u12, .inl (cI, 3600, .inl (zf (fun _ => 0)))), (q19, .inr (5, [.ref u26])), (u26, .inl (cI, 405, .inl (zf (fun _ => 0)))), (q33, .inr (5, [.ref u40])), (u40, .inl (cI, 3600, .inl (zf (fun _ => 0))))] := hD
  refine W.widen (k := 6) (n := 7608) (Nat.le_of_ble_eq_true rfl) (Nat.le_of_ble_eq_true rfl) ?_
  exact W.vret hx hb hr (fun t ht hW => ⟨⟨(fun i => [q5, u12, q19, u26, q33, u40].getD i 0), rfl, trivial, by rw [ht]; exact hP, hD⟩, hS.F ht⟩) hS.2.2 dX4_init_46
theorem oml_X1_init : Cond.methodLink RX1 3 objectInit ∈ wsX1_init := by decide +kernel
theorem oin_X1_init : Cond.instanceMethod objectInit ∈ wsX1_init := by decide +kernel
theorem oco_X1_init : Cond.code objectInit ⟨#[0xb1]⟩ 1 none ∈ wsX1_init := by decide +kernel
theorem ic_X1_init_5 : ∀ w ∈ wsX50, w ∈ wsX1_init := by decide +kernel
theorem cl5_X1_init : Cond.classLink RX1 9 RX5 ∈ wsX1_init := by decide +kernel
theorem ins5_X1_init : Cond.instantiable RX5 1 ∈ wsX1_init := by decide +kernel
theorem ini5_X1_init : Cond.initialized RX5 ∈ wsX1_init := by decide +kernel
theorem iniX5_init_X1_init : Cond.initialized RX5 ∈ wsX1_init := by decide +kernel
theorem inmX5_init_X1_init : Cond.instanceMethod yX5_init ∈ wsX1_init := by decide +kernel
theorem mlX5_init_X1_init : Cond.methodLink RX1 11 yX5_init ∈ wsX1_init := by decide +kernel
theorem ic_X1_init_1 : ∀ w ∈ wsX10, w ∈ wsX1_init := by decide +kernel
theorem lk0_X1_init : Cond.fieldLink RX1 14 "PlanetoidDesk$Kinship" "lowestNumbers" "LPlanetoidDesk$Row;" ∈ wsX1_init := by decide +kernel
set_option maxHeartbeats 4000000 in
set_option maxRecDepth 100000 in
theorem ct_X1_init (l : Launch) (D : va_G) (cI cZ cJ : ClassId) (h0 sz : Nat) : Met l yX1_init wsX1_init { frames := 2, cells := 2, slots := 21, locals := 33 } (va_Pc [.ref h0] (fun U => U.heap.size = sz ∧ va_P D vwCl [(h0, .inr (1, [.null]))] U.heap ∧ KK D cI cZ cJ U ∧ va_D (fun _ => True) [(h0, .inr (1, [.null]))])) (va_Qv (S := Nat → Nat) (fun _ => True) (fun u t => va_P D vwCl [(h0, .inr (1, [.ref (u 0)])), ((u 0), .inr (5, [.ref (u 1)])), ((u 1), .inl (cI, 20, .inl (zf (fun _ => 0))))] t.heap ∧ va_D (va_A [(h0, .inr (1, [.null]))] sz) [(h0, .inr (1, [.ref (u 0)])), ((u 0), .inr (5, [.ref (u 1)])), ((u 1), .inl (cI, 20, .inl (zf (fun _ => 0))))]) (va_A [(h0, .inr (1, [.null]))] sz)) 2 21 (va_A [(h0, .inr (1, [.null]))] sz) := by
  refine Met.ofW (cc := cX1_init) (maxL := 1) (ret := none) (by decide) rfl ?_
  intro p e s m args below meth c s₁ B hml hv
  obtain ⟨rfl, hsz, hP, hK, hD0⟩ := hv
  have hx := B.exec
  have hb := B.bytes
  have hr := B.returns
  have hts := atoms_spec (ws := wsX1_init) B.pre
  have hown : s.vm.findClass RX1 = some m.cls := findClass_of_methodNamed B.named
  have hlocks := B.notSynchronized
  have hin : meth.name = "<init>" := (name_of_methodNamed B.named B.method).1
  subst hsz
  have hD := hD0.self (sz := s.heap.size)
  generalize hAe : va_A [(h0, .inr (1, [.null]))] s.heap.size = A at hD ⊢
  have hA : ∀ q : Nat, s.heap.size ≤ q → A q := fun q h => by rw [← hAe]; exact Or.inr h
  have hS : va_S A s.heap s.heap [] := va_S.rf
  have hP : va_P D vwCl [(h0, .inr (1, [.null]))] s.heap := hP
  have hl := lv_entry ([.ref h0]) (n := 1) (Nat.le_of_ble_eq_true rfl)
  rw [lg_entry_eq]
  generalize (lg_sl ([.ref h0]) ++ List.replicate (1 - (lg_sl ([.ref h0])).length) Slot.unset).toArray = ls at hl ⊢
  have hl : lv_has ls 1 [(0, .ref h0)] := hl
  refine lv_aload_n hx hb dX1_init_0 rfl (lv_at hl 0 rfl) ?_
  refine W.objInit hx hb hown (hts _ oml_X1_init) (hts _ oin_X1_init) (hts _ oco_X1_init) rfl (by rw [hml]; exact hl.1) rfl dX1_init_1 (Nat.le_of_ble_eq_true rfl) (Nat.le_of_ble_eq_true rfl) ?_
  refine W.eq (g2 := F0 m 4 ls []) rfl ?_
  refine lv_aload_n hx hb dX1_init_4 rfl (lv_at hl 0 rfl) ?_
  refine va_new (ci := 5) (fs := [.null]) (C := RX5) (T := TX5) (N := 1) hx hb hts ic_X1_init_5 tyX5 tyX5_ok hown (hts _ cl5_X1_init) (hts _ ins5_X1_init) (hts _ ini5_X1_init) hK.1 hP hD hS hA rfl (fun j hj => by rcases (show j = 0 by omega) with rfl <;> rfl) (Nat.le_of_ble_eq_true rfl) (Nat.le_of_ble_eq_true rfl) dX1_init_5 (fun q5 H hP hD hS => ?_)
  have hP : va_P D vwCl [(h0, .inr (1, [.null])), (q5, .inr (5, [.null]))] H := hP
  have hD : va_D A [(h0, .inr (1, [.null])), (q5, .inr (5, [.null]))] := hD
  refine lv_dup hx hb dX1_init_8 rfl ?_
  refine zi_bipush hx hb dX1_init_9 (by decide) ?_
  have hPc := hP.sub (ws' := [(q5, .inr (5, [.null]))]) [1] rfl
  have hDc := hD.sub (ws' := [(q5, .inr (5, [.null]))]) [1] (by decide) rfl
  have hFc := va_free (wc := [(q5, .inr (5, [.null]))]) hD hS hA [1] rfl
  refine va_callv (va_runI (As := [.int (zi 20)]) (rest := [.ref q5, .ref h0]) ⟨hx, hb, hml, hown, hts⟩ (ct_X5_init l D cI cZ cJ q5 H.size 20 20 rfl (by decide) (by decide)) (cwI 1 hts gX1_init_X5_init rfl rfl rfl (hts _ iniX5_init_X1_init) (hts _ mlX5_init_X1_init) (hts _ inmX5_init_X1_init) rfl (by decide +kernel) ⟨Nat.le_of_ble_eq_true rfl, Nat.le_of_ble_eq_true rfl⟩) ⟨fun a U g mk q => by obtain ⟨q0, q1, qP, qK, qD⟩ := q; exact ⟨q0, q1, qP, KK.same (u := U) (U := U.calling g mk a) rfl qK, qD⟩, fun U hU hW => ⟨rfl, by rw [hU], by rw [hU]; exact hPc, KK.warm hW hK, hDc.weaken (fun _ _ _ _ => trivial)⟩⟩ rfl rfl hl.1 rfl (lv_room (Nat.le_of_ble_eq_true rfl)) dX1_init_11 ⟨Nat.le_of_ble_eq_true rfl, Nat.le_of_ble_eq_true rfl⟩) hS (fun q _ h => hFc q h) hFc (fun u11 t H1 locs ht hvm hw hB hz1 hk1 hS => ?_)
  obtain ⟨hP1, hD1⟩ := hB
  rw [ht] at hP1
  obtain ⟨hP, hD⟩ := va_join (wr := [(h0, .inr (1, [.null]))]) (w1 := [(q5, .inr (5, [.ref u11])), (u11, .inl (cI, 20, .inl (zf (fun _ => 0))))]) hP hD [1] [0] rfl rfl (by decide) (by decide) hk1 hFc hP1 hD1
  clear hPc hDc hFc hP1 hD1 hz1 hk1 ht hvm hw
  generalize H1 = H at hP hS ⊢
  have hP : va_P D vwCl [(h0, .inr (1, [.null])), (q5, .inr (5, [.ref u11])), (u11, .inl (cI, 20, .inl (zf (fun _ => 0))))] H := hP
  have hD : va_D A [(h0, .inr (1, [.null])), (q5, .inr (5, [.ref u11])), (u11, .inl (cI, 20, .inl (zf (fun _ => 0))))] := hD
  refine va_putF (D := D) (ci := 1) (v := .ref q5) (ty := (.object "PlanetoidDesk$Row")) (C := RX1) (T := TX1) (N := 1) hx hb hts ic_X1_init_1 tyX1 tyX1_ok nmX1 hown hK.1 hP hD hS 0 rfl rfl 0 (by decide) (hts _ lk0_X1_init) (fun _ h9 => h9) rfl hin rfl (by decide +kernel) rfl rfl (Nat.le_of_ble_eq_true rfl) dX1_init_14 (fun H locs hP hD hS => ?_)
  have hP : va_P D vwCl [(h0, .inr (1, [.ref q5])), (q5, .inr (5, [.ref u11])), (u11, .inl (cI, 20, .inl (zf (fun _ => 0))))] H := hP
  have hD : va_D A [(h0, .inr (1, [.ref q5])), (q5, .inr (5, [.ref u11])), (u11, .inl (cI, 20, .inl (zf (fun _ => 0))))] := hD
  refine W.widen (k := 2) (n := 21) (Nat.le_of_ble_eq_true rfl) (Nat.le_of_ble_eq_true rfl) ?_
  exact W.vret hx hb hr (fun t ht hW => ⟨⟨(fun i => [q5, u11].getD i 0), rfl, trivial, by rw [ht]; exact hP, hD⟩, hS.F ht⟩) hS.2.2 dX1_init_17
end
section
theorem oml_X7_init : Cond.methodLink RX7 1 objectInit ∈ wsX7_init := by decide +kernel
theorem oin_X7_init : Cond.instanceMethod objectInit ∈ wsX7_init := by decide +kernel
theorem oco_X7_init : Cond.code objectInit ⟨#[0xb1]⟩ 1 none ∈ wsX7_init := by decide +kernel
theorem ic_X7_init_6 : ∀ w ∈ wsX60, w ∈ wsX7_init := by decide +kernel
theorem cl6_X7_init : Cond.classLink RX7 7 RX6 ∈ wsX7_init := by decide +kernel
theorem ins6_X7_init : Cond.instantiable RX6 10 ∈ wsX7_init := by decide +kernel
theorem ini6_X7_init : Cond.initialized RX6 ∈ wsX7_init := by decide +kernel
theorem iniX6_init_X7_init : Cond.initialized RX6 ∈ wsX7_init := by decide +kernel
theorem inmX6_init_X7_init : Cond.instanceMethod yX6_init ∈ wsX7_init := by decide +kernel
theorem ic_X7_init_7 : ∀ w ∈ wsX70, w ∈ wsX7_init := by decide +kernel
theorem lk0_X7_init : Cond.fieldLink RX7 10 "PlanetoidDesk" "sky" "LPlanetoidDesk$Sky;" ∈ wsX7_init := by decide +kernel
theorem ic_X7_init_0 : ∀ w ∈ wsX00, w ∈ wsX7_init := by decide +kernel
theorem cl0_X7_init : Cond.classLink RX7 16 RX0 ∈ wsX7_init := by decide +kernel
theorem ins0_X7_init : Cond.instantiable RX0 8 ∈ wsX7_init := by decide +kernel
theorem ini0_X7_init : Cond.initialized RX0 ∈ wsX7_init := by decide +kernel
theorem iniX0_init_X7_init : Cond.initialized RX0 ∈ wsX7_init := by decide +kernel
theorem inmX0_init_X7_init : Cond.instanceMethod yX0_init ∈ wsX7_init := by decide +kernel
theorem mlX0_init_X7_init : Cond.methodLink RX7 18 yX0_init ∈ wsX7_init := by decide +kernel
theorem lk1_X7_init : Cond.fieldLink RX7 19 "PlanetoidDesk" "bodies" "LPlanetoidDesk$Bodies;" ∈ wsX7_init := by decide +kernel
theorem ic_X7_init_2 : ∀ w ∈ wsX20, w ∈ wsX7_init := by decide +kernel
theorem cl2_X7_init : Cond.classLink RX7 23 RX2 ∈ wsX7_init := by decide +kernel
theorem ins2_X7_init : Cond.instantiable RX2 2 ∈ wsX7_init := by decide +kernel
theorem ini2_X7_init : Cond.initialized RX2 ∈ wsX7_init := by decide +kernel
theorem iniX2_init_X7_init : Cond.initialized RX2 ∈ wsX7_init := by decide +kernel
theorem inmX2_init_X7_init : Cond.instanceMethod yX2_init ∈ wsX7_init := by decide +kernel
theorem lk2_X7_init : Cond.fieldLink RX7 26 "PlanetoidDesk" "looks" "LPlanetoidDesk$Looks;" ∈ wsX7_init := by decide +kernel
theorem ic_X7_init_3 : ∀ w ∈ wsX30, w ∈ wsX7_init := by decide +kernel
theorem cl3_X7_init : Cond.classLink RX7 30 RX3 ∈ wsX7_init := by decide +kernel
theorem ins3_X7_init : Cond.instantiable RX3 3 ∈ wsX7_init := by decide +kernel
theorem ini3_X7_init : Cond.initialized RX3 ∈ wsX7_init := by decide +kernel
theorem iniX3_init_X7_init : Cond.initialized RX3 ∈ wsX7_init := by decide +kernel
theorem inmX3_init_X7_init : Cond.instanceMethod yX3_init ∈ wsX7_init := by decide +kernel
theorem lk3_X7_init : Cond.fieldLink RX7 33 "PlanetoidDesk" "fitting" "LPlanetoidDesk$Orbits;" ∈ wsX7_init := by decide +kernel
theorem ic_X7_init_4 : ∀ w ∈ wsX40, w ∈ wsX7_init := by decide +kernel
theorem cl4_X7_init : Cond.classLink RX7 37 RX4 ∈ wsX7_init := by decide +kernel
theorem ins4_X7_init : Cond.instantiable RX4 5 ∈ wsX7_init := by decide +kernel
theorem ini4_X7_init : Cond.initialized RX4 ∈ wsX7_init := by decide +kernel
theorem iniX4_init_X7_init : Cond.initialized RX4 ∈ wsX7_init := by decide +kernel
theorem inmX4_init_X7_init : Cond.instanceMethod yX4_init ∈ wsX7_init := by decide +kernel
theorem lk4_X7_init : Cond.fieldLink RX7 40 "PlanetoidDesk" "paths" "LPlanetoidDesk$Paths;" ∈ wsX7_init := by decide +kernel
theorem ic_X7_init_1 : ∀ w ∈ wsX10, w ∈ wsX7_init := by decide +kernel
theorem cl1_X7_init : Cond.classLink RX7 44 RX1 ∈ wsX7_init := by decide +kernel
theorem ins1_X7_init : Cond.instantiable RX1 1 ∈ wsX7_init := by decide +kernel
theorem ini1_X7_init : Cond.initialized RX1 ∈ wsX7_init := by decide +kernel
theorem iniX1_init_X7_init : Cond.initialized RX1 ∈ wsX7_init := by decide +kernel
theorem inmX1_init_X7_init : Cond.instanceMethod yX1_init ∈ wsX7_init := by decide +kernel
theorem lk5_X7_init : Cond.fieldLink RX7 47 "PlanetoidDesk" "kinship" "LPlanetoidDesk$Kinship;" ∈ wsX7_init := by decide +kernel
set_option maxHeartbeats 4000000 in
set_option maxRecDepth 100000 in
theorem ct_X7_init (l : Launch) (D : va_G) (cI cZ cJ : ClassId) (h0 sz : Nat) : Met l yX7_init wsX7_init { frames := 3, cells := 46, slots := 12539, locals := 53 } (va_Pc [.ref h0] (fun U => U.heap.size = sz ∧ va_P D vwCl [(h0, .inr (7, [.null, .null, .null, .null, .null, .null]))] U.heap ∧ KK D cI cZ cJ U ∧ va_D (fun _ => True) [(h0, .inr (7, [.null, .null, .null, .null, .null, .null]))])) (va_Qv (S := Nat → Nat) (fun _ => True) (fun u t => va_P D vwCl [(h0, .inr (7, [.ref (u 0), .ref (u 15), .ref (u 26), .ref (u 29), .ref (u 36), .ref (u 43)])), ((u 0), .inr (6, [.ref (u 1), .ref (u 3), .ref (u 5), .ref (u 7), .ref (u 9), .ref (u 11), .ref (u 13), .int (zi 0), .int (zi 0), .int (zi 0)])), ((u 1), .inr (5, [.ref (u 2)])), ((u 2), .inl (cI, 6, .inl (zf (fun _ => 0)))), ((u 3), .inr (5, [.ref (u 4)])), ((u 4), .inl (cI, 30, .inl (zf (fun _ => 0)))), ((u 5), .inr (5, [.ref (u 6)])), ((u 6), .inl (cI, 30, .inl (zf (fun _ => 0)))), ((u 7), .inr (5, [.ref (u 8)])), ((u 8), .inl (cI, 60, .inl (zf (fun _ => 0)))), ((u 9), .inr (5, [.ref (u 10)])), ((u 10), .inl (cI, 60, .inl (zf (fun _ => 0)))), ((u 11), .inr (5, [.ref (u 12)])), ((u 12), .inl (cI, 60, .inl (zf (fun _ => 0)))), ((u 13), .inr (5, [.ref (u 14)])), ((u 14), .inl (cI, 9, .inl (zf (fun _ => 0)))), ((u 15), .inr (0, [.ref (u 16), .ref (u 18), .ref (u 20), .ref (u 22), .ref (u 24), .int (zi 0), .int (zi 0), .int (zi 0)])), ((u 16), .inr (5, [.ref (u 17)])), ((u 17), .inl (cI, 60, .inl (zf (rFill 60 (fun _ => 0) (-1))))), ((u 18), .inr (5, [.ref (u 19)])), ((u 19), .inl (cI, 20, .inl (zf (rFill 20 (fun _ => 0) (-1))))), ((u 20), .inr (5, [.ref (u 21)])), ((u 21), .inl (cI, 20, .inl (zf (fun _ => 0)))), ((u 22), .inr (5, [.ref (u 23)])), ((u 23), .inl (cI, 20, .inl (zf (rFill 20 (fun _ => 0) (-1))))), ((u 24), .inr (5, [.ref (u 25)])), ((u 25), .inl (cI, 20, .inl (zf (fun _ => 0)))), ((u 26), .inr (2, [.ref (u 27), .int (zi 0)])), ((u 27), .inr (5, [.ref (u 28)])), ((u 28), .inl (cI, 60, .inl (zf (fun _ => 0)))), ((u 29), .inr (3, [.ref (u 30), .ref (u 32), .ref (u 34)])), ((u 30), .inr (5, [.ref (u 31)])), ((u 31), .inl (cI, 405, .inl (zf (fun _ => 0)))), ((u 32), .inr (5, [.ref (u 33)])), ((u 33), .inl (cI, 405, .inl (zf (fun _ => 0)))), ((u 34), .inr (5, [.ref (u 35)])), ((u 35), .inl (cI, 3600, .inl (zf (fun _ => 0)))), ((u 36), .inr (4, [.ref (u 37), .ref (u 39), .ref (u 41), .int (zi 0), .int (zi 0)])), ((u 37), .inr (5, [.ref (u 38)])), ((u 38), .inl (cI, 3600, .inl (zf (fun _ => 0)))), ((u 39), .inr (5, [.ref (u 40)])), ((u 40), .inl (cI, 405, .inl (zf (fun _ => 0)))), ((u 41), .inr (5, [.ref (u 42)])), ((u 42), .inl (cI, 3600, .inl (zf (fun _ => 0)))), ((u 43), .inr (1, [.ref (u 44)])), ((u 44), .inr (5, [.ref (u 45)])), ((u 45), .inl (cI, 20, .inl (zf (fun _ => 0))))] t.heap ∧ va_D (va_A [(h0, .inr (7, [.null, .null, .null, .null, .null, .null]))] sz) [(h0, .inr (7, [.ref (u 0), .ref (u 15), .ref (u 26), .ref (u 29), .ref (u 36), .ref (u 43)])), ((u 0), .inr (6, [.ref (u 1), .ref (u 3), .ref (u 5), .ref (u 7), .ref (u 9), .ref (u 11), .ref (u 13), .int (zi 0), .int (zi 0), .int (zi 0)])), ((u 1), .inr (5, [.ref (u 2)])), ((u 2), .inl (cI, 6, .inl (zf (fun _ => 0)))), ((u 3), .inr (5, [.ref (u 4)])), ((u 4), .inl (cI, 30, .inl (zf (fun _ => 0)))), ((u 5), .inr (5, [.ref (u 6)])), ((u 6), .inl (cI, 30, .inl (zf (fun _ => 0)))), ((u 7), .inr (5, [.ref (u 8)])), ((u 8), .inl (cI, 60, .inl (zf (fun _ => 0)))), ((u 9), .inr (5, [.ref (u 10)])), ((u 10), .inl (cI, 60, .inl (zf (fun _ => 0)))), ((u 11), .inr (5, [.ref (u 12)])), ((u 12), .inl (cI, 60, .inl (zf (fun _ => 0)))), ((u 13), .inr (5, [.ref (u 14)])), ((u 14), .inl (cI, 9, .inl (zf (fun _ => 0)))), ((u 15), .inr (0, [.ref (u 16), .ref (u 18), .ref (u 20), .ref (u 22), .ref (u 24), .int (zi 0), .int (zi 0), .int (zi 0)])), ((u 16), .inr (5, [.ref (u 17)])), ((u 17), .inl (cI, 60, .inl (zf (rFill 60 (fun _ => 0) (-1))))), ((u 18), .inr (5, [.ref (u 19)])), ((u 19), .inl (cI, 20, .inl (zf (rFill 20 (fun _ => 0) (-1))))), ((u 20), .inr (5, [.ref (u 21)])), ((u 21), .inl (cI, 20, .inl (zf (fun _ => 0)))), ((u 22), .inr (5, [.ref (u 23)])), ((u 23), .inl (cI, 20, .inl (zf (rFill 20 (fun _ => 0) (-1))))), ((u 24), .inr (5, [.ref (u 25)])), ((u 25), .inl (cI, 20, .inl (zf (fun _ => 0)))), ((u 26), .inr (2, [.ref (u 27), .int (zi 0)])), ((u 27), .inr (5, [.ref (u 28)])), ((u 28), .inl (cI, 60, .inl (zf (fun _ => 0)))), ((u 29), .inr (3, [.ref (u 30), .ref (u 32), .ref (u 34)])), ((u 30), .inr (5, [.ref (u 31)])), ((u 31), .inl (cI, 405, .inl (zf (fun _ => 0)))), ((u 32), .inr (5, [.ref (u 33)])), ((u 33), .inl (cI, 405, .inl (zf (fun _ => 0)))), ((u 34), .inr (5, [.ref (u 35)])), ((u 35), .inl (cI, 3600, .inl (zf (fun _ => 0)))), ((u 36), .inr (4, [.ref (u 37), .ref (u 39), .ref (u 41), .int (zi 0), .int (zi 0)])), ((u 37), .inr (5, [.ref (u 38)])), ((u 38), .inl (cI, 3600, .inl (zf (fun _ => 0)))), ((u 39), .inr (5, [.ref (u 40)])), ((u 40), .inl (cI, 405, .inl (zf (fun _ => 0)))), ((u 41), .inr (5, [.ref (u 42)])), ((u 42), .inl (cI, 3600, .inl (zf (fun _ => 0)))), ((u 43), .inr (1, [.ref (u 44)])), ((u 44), .inr (5, [.ref (u 45)])), ((u 45), .inl (cI, 20, .inl (zf (fun _ => 0))))]) (va_A [(h0, .inr (7, [.null, .null, .null, .null, .null, .null]))] sz)) 46 12539 (va_A [(h0, .inr (7, [.null, .null, .null, .null, .null, .null]))] sz) := by
  refine Met.ofW (cc := cX7_init) (maxL := 1) (ret := none) (by decide) rfl ?_
  intro p e s m args below meth c s₁ B hml hv
  obtain ⟨rfl, hsz, hP, hK, hD0⟩ := hv
  have hx := B.exec
  have hb := B.bytes
  have hr := B.returns
  have hts := atoms_spec (ws := wsX7_init) B.pre
  have hown : s.vm.findClass RX7 = some m.cls := findClass_of_methodNamed B.named
  have hlocks := B.notSynchronized
  have hin : meth.name = "<init>" := (name_of_methodNamed B.named B.method).1
  subst hsz
  have hD := hD0.self (sz := s.heap.size)
  generalize hAe : va_A [(h0, .inr (7, [.null, .null, .null, .null, .null, .null]))] s.heap.size = A at hD ⊢
  have hA : ∀ q : Nat, s.heap.size ≤ q → A q := fun q h => by rw [← hAe]; exact Or.inr h
  have hS : va_S A s.heap s.heap [] := va_S.rf
  have hP : va_P D vwCl [(h0, .inr (7, [.null, .null, .null, .null, .null, .null]))] s.heap := hP
  have hl := lv_entry ([.ref h0]) (n := 1) (Nat.le_of_ble_eq_true rfl)
  rw [lg_entry_eq]
  generalize (lg_sl ([.ref h0]) ++ List.replicate (1 - (lg_sl ([.ref h0])).length) Slot.unset).toArray = ls at hl ⊢
  have hl : lv_has ls 1 [(0, .ref h0)] := hl
  refine lv_aload_n hx hb dX7_init_0 rfl (lv_at hl 0 rfl) ?_
  refine W.objInit hx hb hown (hts _ oml_X7_init) (hts _ oin_X7_init) (hts _ oco_X7_init) rfl (by rw [hml]; exact hl.1) rfl dX7_init_1 (Nat.le_of_ble_eq_true rfl) (Nat.le_of_ble_eq_true rfl) ?_
  refine W.eq (g2 := F0 m 4 ls []) rfl ?_
  refine lv_aload_n hx hb dX7_init_4 rfl (lv_at hl 0 rfl) ?_
  refine va_new (ci := 6) (fs := [.null, .null, .null, .null, .null, .null, .null, .int (zi 0), .int (zi 0), .int (zi 0)]) (C := RX6) (T := TX6) (N := 10) hx hb hts ic_X7_init_6 tyX6 tyX6_ok hown (hts _ cl6_X7_init) (hts _ ins6_X7_init) (hts _ ini6_X7_init) hK.1 hP hD hS hA rfl (fun j hj => by rcases (show j = 0 ∨ j = 1 ∨ j = 2 ∨ j = 3 ∨ j = 4 ∨ j = 5 ∨ j = 6 ∨ j = 7 ∨ j = 8 ∨ j = 9 by omega) with rfl | rfl | rfl | rfl | rfl | rfl | rfl | rfl | rfl | rfl <;> rfl) (Nat.le_of_ble_eq_true rfl) (Nat.le_of_ble_eq_true rfl) dX7_init_5 (fun q5 H hP hD hS => ?_)
  have hP : va_P D vwCl [(h0, .inr (7, [.null, .null, .null, .null, .null, .null])), (q5, .inr (6, [.null, .null, .null, .null, .null, .null, .null, .int (zi 0), .int (zi 0), .int (zi 0)]))] H := hP
  have hD : va_D A [(h0, .inr (7, [.null, .null, .null, .null, .null, .null])), (q5, .inr (6, [.null, .null, .null, .null, .null, .null, .null, .int (zi 0), .int (zi 0), .int (zi 0)]))] := hD
  refine lv_dup hx hb dX7_init_8 rfl ?_
  have hPc := hP.sub (ws' := [(q5, .inr (6, [.null, .null, .null, .null, .null, .null, .null, .int (zi 0), .int (zi 0), .int (zi 0)]))]) [1] rfl
  have hDc := hD.sub (ws' := [(q5, .inr (6, [.null, .null, .null, .null, .null, .null, .null, .int (zi 0), .int (zi 0), .int (zi 0)]))]) [1] (by decide) rfl
  have hFc := va_free (wc := [(q5, .inr (6, [.null, .null, .null, .null, .null, .null, .null, .int (zi 0), .int (zi 0), .int (zi 0)]))]) hD hS hA [1] rfl
  refine va_callv (va_runIN (As := []) (rest := [.ref q5, .ref h0]) ⟨hx, hb, hml, hown, hts⟩ (ct_X6_init l D cI cZ cJ q5 H.size) ⟨va_cnB 0 hts gX7_init_X6_init_n9 rfl rfl rfl (hK.2 _ (List.mem_of_getElem? (i := 8) rfl)) (hts _ iniX6_init_X7_init) (by decide +kernel) ⟨Nat.le_of_ble_eq_true rfl, Nat.le_of_ble_eq_true rfl⟩, rfl, (hts _ inmX6_init_X7_init)⟩ ⟨fun a U g mk q => by obtain ⟨q0, q1, qP, qK, qD⟩ := q; exact ⟨q0, q1, qP, KK.same (u := U) (U := U.calling g mk a) rfl qK, qD⟩, fun U hU hW => ⟨rfl, by rw [hU], by rw [hU]; exact hPc, KK.warm hW hK, hDc.weaken (fun _ _ _ _ => trivial)⟩⟩ rfl rfl hl.1 rfl (lv_room (Nat.le_of_ble_eq_true rfl)) dX7_init_9 ⟨Nat.le_of_ble_eq_true rfl, Nat.le_of_ble_eq_true rfl⟩) hS (fun q _ h => hFc q h) hFc (fun u9 t H1 locs ht hvm hw hB hz1 hk1 hS => ?_)
  obtain ⟨hP1, hD1⟩ := hB
  rw [ht] at hP1
  obtain ⟨hP, hD⟩ := va_join (wr := [(h0, .inr (7, [.null, .null, .null, .null, .null, .null]))]) (w1 := [(q5, .inr (6, [.ref (u9 0), .ref (u9 2), .ref (u9 4), .ref (u9 6), .ref (u9 8), .ref (u9 10), .ref (u9 12), .int (zi 0), .int (zi 0), .int (zi 0)])), ((u9 0), .inr (5, [.ref (u9 1)])), ((u9 1), .inl (cI, 6, .inl (zf (fun _ => 0)))), ((u9 2), .inr (5, [.ref (u9 3)])), ((u9 3), .inl (cI, 30, .inl (zf (fun _ => 0)))), ((u9 4), .inr (5, [.ref (u9 5)])), ((u9 5), .inl (cI, 30, .inl (zf (fun _ => 0)))), ((u9 6), .inr (5, [.ref (u9 7)])), ((u9 7), .inl (cI, 60, .inl (zf (fun _ => 0)))), ((u9 8), .inr (5, [.ref (u9 9)])), ((u9 9), .inl (cI, 60, .inl (zf (fun _ => 0)))), ((u9 10), .inr (5, [.ref (u9 11)])), ((u9 11), .inl (cI, 60, .inl (zf (fun _ => 0)))), ((u9 12), .inr (5, [.ref (u9 13)])), ((u9 13), .inl (cI, 9, .inl (zf (fun _ => 0))))]) hP hD [1] [0] rfl rfl (by decide) (by decide) hk1 hFc hP1 hD1
  clear hPc hDc hFc hP1 hD1 hz1 hk1 ht hvm hw
  generalize H1 = H at hP hS ⊢
  have hP : va_P D vwCl [(h0, .inr (7, [.null, .null, .null, .null, .null, .null])), (q5, .inr (6, [.ref (u9 0), .ref (u9 2), .ref (u9 4), .ref (u9 6), .ref (u9 8), .ref (u9 10), .ref (u9 12), .int (zi 0), .int (zi 0), .int (zi 0)])), ((u9 0), .inr (5, [.ref (u9 1)])), ((u9 1), .inl (cI, 6, .inl (zf (fun _ => 0)))), ((u9 2), .inr (5, [.ref (u9 3)])), ((u9 3), .inl (cI, 30, .inl (zf (fun _ => 0)))), ((u9 4), .inr (5, [.ref (u9 5)])), ((u9 5), .inl (cI, 30, .inl (zf (fun _ => 0)))), ((u9 6), .inr (5, [.ref (u9 7)])), ((u9 7), .inl (cI, 60, .inl (zf (fun _ => 0)))), ((u9 8), .inr (5, [.ref (u9 9)])), ((u9 9), .inl (cI, 60, .inl (zf (fun _ => 0)))), ((u9 10), .inr (5, [.ref (u9 11)])), ((u9 11), .inl (cI, 60, .inl (zf (fun _ => 0)))), ((u9 12), .inr (5, [.ref (u9 13)])), ((u9 13), .inl (cI, 9, .inl (zf (fun _ => 0))))] H := hP
  have hD : va_D A [(h0, .inr (7, [.null, .null, .null, .null, .null, .null])), (q5, .inr (6, [.ref (u9 0), .ref (u9 2), .ref (u9 4), .ref (u9 6), .ref (u9 8), .ref (u9 10), .ref (u9 12), .int (zi 0), .int (zi 0), .int (zi 0)])), ((u9 0), .inr (5, [.ref (u9 1)])), ((u9 1), .inl (cI, 6, .inl (zf (fun _ => 0)))), ((u9 2), .inr (5, [.ref (u9 3)])), ((u9 3), .inl (cI, 30, .inl (zf (fun _ => 0)))), ((u9 4), .inr (5, [.ref (u9 5)])), ((u9 5), .inl (cI, 30, .inl (zf (fun _ => 0)))), ((u9 6), .inr (5, [.ref (u9 7)])), ((u9 7), .inl (cI, 60, .inl (zf (fun _ => 0)))), ((u9 8), .inr (5, [.ref (u9 9)])), ((u9 9), .inl (cI, 60, .inl (zf (fun _ => 0)))), ((u9 10), .inr (5, [.ref (u9 11)])), ((u9 11), .inl (cI, 60, .inl (zf (fun _ => 0)))), ((u9 12), .inr (5, [.ref (u9 13)])), ((u9 13), .inl (cI, 9, .inl (zf (fun _ => 0))))] := hD
  refine va_putF (D := D) (ci := 7) (v := .ref q5) (ty := (.object "PlanetoidDesk$Sky")) (C := RX7) (T := TX7) (N := 6) hx hb hts ic_X7_init_7 tyX7 tyX7_ok nmX7 hown hK.1 hP hD hS 0 rfl rfl 0 (by decide) (hts _ lk0_X7_init) (fun _ h9 => h9) rfl hin rfl (by decide +kernel) rfl rfl (Nat.le_of_ble_eq_true rfl) dX7_init_12 (fun H locs hP hD hS => ?_)
  have hP : va_P D vwCl [(h0, .inr (7, [.ref q5, .null, .null, .null, .null, .null])), (q5, .inr (6, [.ref (u9 0), .ref (u9 2), .ref (u9 4), .ref (u9 6), .ref (u9 8), .ref (u9 10), .ref (u9 12), .int (zi 0), .int (zi 0), .int (zi 0)])), ((u9 0), .inr (5, [.ref (u9 1)])), ((u9 1), .inl (cI, 6, .inl (zf (fun _ => 0)))), ((u9 2), .inr (5, [.ref (u9 3)])), ((u9 3), .inl (cI, 30, .inl (zf (fun _ => 0)))), ((u9 4), .inr (5, [.ref (u9 5)])), ((u9 5), .inl (cI, 30, .inl (zf (fun _ => 0)))), ((u9 6), .inr (5, [.ref (u9 7)])), ((u9 7), .inl (cI, 60, .inl (zf (fun _ => 0)))), ((u9 8), .inr (5, [.ref (u9 9)])), ((u9 9), .inl (cI, 60, .inl (zf (fun _ => 0)))), ((u9 10), .inr (5, [.ref (u9 11)])), ((u9 11), .inl (cI, 60, .inl (zf (fun _ => 0)))), ((u9 12), .inr (5, [.ref (u9 13)])), ((u9 13), .inl (cI, 9, .inl (zf (fun _ => 0))))] H := hP
  have hD : va_D A [(h0, .inr (7, [.ref q5, .null, .null, .null, .null, .null])), (q5, .inr (6, [.ref (u9 0), .ref (u9 2), .ref (u9 4), .ref (u9 6), .ref (u9 8), .ref (u9 10), .ref (u9 12), .int (zi 0), .int (zi 0), .int (zi 0)])), ((u9 0), .inr (5, [.ref (u9 1)])), ((u9 1), .inl (cI, 6, .inl (zf (fun _ => 0)))), ((u9 2), .inr (5, [.ref (u9 3)])), ((u9 3), .inl (cI, 30, .inl (zf (fun _ => 0)))), ((u9 4), .inr (5, [.ref (u9 5)])), ((u9 5), .inl (cI, 30, .inl (zf (fun _ => 0)))), ((u9 6), .inr (5, [.ref (u9 7)])), ((u9 7), .inl (cI, 60, .inl (zf (fun _ => 0)))), ((u9 8), .inr (5, [.ref (u9 9)])), ((u9 9), .inl (cI, 60, .inl (zf (fun _ => 0)))), ((u9 10), .inr (5, [.ref (u9 11)])), ((u9 11), .inl (cI, 60, .inl (zf (fun _ => 0)))), ((u9 12), .inr (5, [.ref (u9 13)])), ((u9 13), .inl (cI, 9, .inl (zf (fun _ => 0))))] := hD
  refine lv_aload_n hx hb dX7_init_15 rfl (lv_at hl 0 rfl) ?_
  refine va_new (ci := 0) (fs := [.null, .null, .null, .null, .null, .int (zi 0), .int (zi 0), .int (zi 0)]) (C := RX0) (T := TX0) (N := 8) hx hb hts ic_X7_init_0 tyX0 tyX0_ok hown (hts _ cl0_X7_init) (hts _ ins0_X7_init) (hts _ ini0_X7_init) hK.1 hP hD hS hA rfl (fun j hj => by rcases (show j = 0 ∨ j = 1 ∨ j = 2 ∨ j = 3 ∨ j = 4 ∨ j = 5 ∨ j = 6 ∨ j = 7 by omega) with rfl | rfl | rfl | rfl | rfl | rfl | rfl | rfl <;> rfl) (Nat.le_of_ble_eq_true rfl) (Nat.le_of_ble_eq_true rfl) dX7_init_16 (fun q16 H hP hD hS => ?_)
  have hP : va_P D vwCl [(h0, .inr (7, [.ref q5, .null, .null, .null, .null, .null])), (q5, .inr (6, [.ref (u9 0), .ref (u9 2), .ref (u9 4), .ref (u9 6), .ref (u9 8), .ref (u9 10), .ref (u9 12), .int (zi 0), .int (zi 0), .int (zi 0)])), ((u9 0), .inr (5, [.ref (u9 1)])), ((u9 1), .inl (cI, 6, .inl (zf (fun _ => 0)))), ((u9 2), .inr (5, [.ref (u9 3)])), ((u9 3), .inl (cI, 30, .inl (zf (fun _ => 0)))), ((u9 4), .inr (5, [.ref (u9 5)])), ((u9 5), .inl (cI, 30, .inl (zf (fun _ => 0)))), ((u9 6), .inr (5, [.ref (u9 7)])), ((u9 7), .inl (cI, 60, .inl (zf (fun _ => 0)))), ((u9 8), .inr (5, [.ref (u9 9)])), ((u9 9), .inl (cI, 60, .inl (zf (fun _ => 0)))), ((u9 10), .inr (5, [.ref (u9 11)])), ((u9 11), .inl (cI, 60, .inl (zf (fun _ => 0)))), ((u9 12), .inr (5, [.ref (u9 13)])), ((u9 13), .inl (cI, 9, .inl (zf (fun _ => 0)))), (q16, .inr (0, [.null, .null, .null, .null, .null, .int (zi 0), .int (zi 0), .int (zi 0)]))] H := hP
  have hD : va_D A [(h0, .inr (7, [.ref q5, .null, .null, .null, .null, .null])), (q5, .inr (6, [.ref (u9 0), .ref (u9 2), .ref (u9 4), .ref (u9 6), .ref (u9 8), .ref (u9 10), .ref (u9 12), .int (zi 0), .int (zi 0), .int (zi 0)])), ((u9 0), .inr (5, [.ref (u9 1)])), ((u9 1), .inl (cI, 6, .inl (zf (fun _ => 0)))), ((u9 2), .inr (5, [.ref (u9 3)])), ((u9 3), .inl (cI, 30, .inl (zf (fun _ => 0)))), ((u9 4), .inr (5, [.ref (u9 5)])), ((u9 5), .inl (cI, 30, .inl (zf (fun _ => 0)))), ((u9 6), .inr (5, [.ref (u9 7)])), ((u9 7), .inl (cI, 60, .inl (zf (fun _ => 0)))), ((u9 8), .inr (5, [.ref (u9 9)])), ((u9 9), .inl (cI, 60, .inl (zf (fun _ => 0)))), ((u9 10), .inr (5, [.ref (u9 11)])), ((u9 11), .inl (cI, 60, .inl (zf (fun _ => 0)))), ((u9 12), .inr (5, [.ref (u9 13)])), ((u9 13), .inl (cI, 9, .inl (zf (fun _ => 0)))), (q16, .inr (0, [.null, .null, .null, .null, .null, .int (zi 0), .int (zi 0), .int (zi 0)]))] := hD
  refine lv_dup hx hb dX7_init_19 rfl ?_
  have hPc := hP.sub (ws' := [(q16, .inr (0, [.null, .null, .null, .null, .null, .int (zi 0), .int (zi 0), .int (zi 0)]))]) [16] rfl
  have hDc := hD.sub (ws' := [(q16, .inr (0, [.null, .null, .null, .null, .null, .int (zi 0), .int (zi 0), .int (zi 0)]))]) [16] (by decide) rfl
  have hFc := va_free (wc := [(q16, .inr (0, [.null, .null, .null, .null, .null, .int (zi 0), .int (zi 0), .int (zi 0)]))]) hD hS hA [16] rfl
  refine va_callv (va_runI (As := []) (rest := [.ref q16, .ref h0]) ⟨hx, hb, hml, hown, hts⟩ (ct_X0_init l D cI cZ cJ q16 H.size) (cwI 0 hts gX7_init_X0_init rfl rfl rfl (hts _ iniX0_init_X7_init) (hts _ mlX0_init_X7_init) (hts _ inmX0_init_X7_init) rfl (by decide +kernel) ⟨Nat.le_of_ble_eq_true rfl, Nat.le_of_ble_eq_true rfl⟩) ⟨fun a U g mk q => by obtain ⟨q0, q1, qP, qK, qD⟩ := q; exact ⟨q0, q1, qP, KK.same (u := U) (U := U.calling g mk a) rfl qK, qD⟩, fun U hU hW => ⟨rfl, by rw [hU], by rw [hU]; exact hPc, KK.warm hW hK, hDc.weaken (fun _ _ _ _ => trivial)⟩⟩ rfl rfl hl.1 rfl (lv_room (Nat.le_of_ble_eq_true rfl)) dX7_init_20 ⟨Nat.le_of_ble_eq_true rfl, Nat.le_of_ble_eq_true rfl⟩) hS (fun q _ h => hFc q h) hFc (fun u20 t H1 locs ht hvm hw hB hz1 hk1 hS => ?_)
  obtain ⟨hP1, hD1⟩ := hB
  rw [ht] at hP1
  obtain ⟨hP, hD⟩ := va_join (wr := [(h0, .inr (7, [.ref q5, .null, .null, .null, .null, .null])), (q5, .inr (6, [.ref (u9 0), .ref (u9 2), .ref (u9 4), .ref (u9 6), .ref (u9 8), .ref (u9 10), .ref (u9 12), .int (zi 0), .int (zi 0), .int (zi 0)])), ((u9 0), .inr (5, [.ref (u9 1)])), ((u9 1), .inl (cI, 6, .inl (zf (fun _ => 0)))), ((u9 2), .inr (5, [.ref (u9 3)])), ((u9 3), .inl (cI, 30, .inl (zf (fun _ => 0)))), ((u9 4), .inr (5, [.ref (u9 5)])), ((u9 5), .inl (cI, 30, .inl (zf (fun _ => 0)))), ((u9 6), .inr (5, [.ref (u9 7)])), ((u9 7), .inl (cI, 60, .inl (zf (fun _ => 0)))), ((u9 8), .inr (5, [.ref (u9 9)])), ((u9 9), .inl (cI, 60, .inl (zf (fun _ => 0)))), ((u9 10), .inr (5, [.ref (u9 11)])), ((u9 11), .inl (cI, 60, .inl (zf (fun _ => 0)))), ((u9 12), .inr (5, [.ref (u9 13)])), ((u9 13), .inl (cI, 9, .inl (zf (fun _ => 0))))]) (w1 := [(q16, .inr (0, [.ref (u20 0), .ref (u20 2), .ref (u20 4), .ref (u20 6), .ref (u20 8), .int (zi 0), .int (zi 0), .int (zi 0)])), ((u20 0), .inr (5, [.ref (u20 1)])), ((u20 1), .inl (cI, 60, .inl (zf (rFill 60 (fun _ => 0) (-1))))), ((u20 2), .inr (5, [.ref (u20 3)])), ((u20 3), .inl (cI, 20, .inl (zf (rFill 20 (fun _ => 0) (-1))))), ((u20 4), .inr (5, [.ref (u20 5)])), ((u20 5), .inl (cI, 20, .inl (zf (fun _ => 0)))), ((u20 6), .inr (5, [.ref (u20 7)])), ((u20 7), .inl (cI, 20, .inl (zf (rFill 20 (fun _ => 0) (-1))))), ((u20 8), .inr (5, [.ref (u20 9)])), ((u20 9), .inl (cI, 20, .inl (zf (fun _ => 0))))]) hP hD [16] [0, 1, 2, 3, 4, 5, 6, 7, 8, 9, 10, 11, 12, 13, 14, 15] rfl rfl (by decide) (by decide) hk1 hFc hP1 hD1
  clear hPc hDc hFc hP1 hD1 hz1 hk1 ht hvm hw
  generalize H1 = H at hP hS ⊢
  have hP : va_P D vwCl [(h0, .inr (7, [.ref q5, .null, .null, .null, .null, .null])), (q5, .inr (6, [.ref (u9 0), .ref (u9 2), .ref (u9 4), .ref (u9 6), .ref (u9 8), .ref (u9 10), .ref (u9 12), .int (zi 0), .int (zi 0), .int (zi 0)])), ((u9 0), .inr (5, [.ref (u9 1)])), ((u9 1), .inl (cI, 6, .inl (zf (fun _ => 0)))), ((u9 2), .inr (5, [.ref (u9 3)])), ((u9 3), .inl (cI, 30, .inl (zf (fun _ => 0)))), ((u9 4), .inr (5, [.ref (u9 5)])), ((u9 5), .inl (cI, 30, .inl (zf (fun _ => 0)))), ((u9 6), .inr (5, [.ref (u9 7)])), ((u9 7), .inl (cI, 60, .inl (zf (fun _ => 0)))), ((u9 8), .inr (5, [.ref (u9 9)])), ((u9 9), .inl (cI, 60, .inl (zf (fun _ => 0)))), ((u9 10), .inr (5, [.ref (u9 11)])), ((u9 11), .inl (cI, 60, .inl (zf (fun _ => 0)))), ((u9 12), .inr (5, [.ref (u9 13)])), ((u9 13), .inl (cI, 9, .inl (zf (fun _ => 0)))), (q16, .inr (0, [.ref (u20 0), .ref (u20 2), .ref (u20 4), .ref (u20 6), .ref (u20 8), .int (zi 0), .int (zi 0), .int (zi 0)])), ((u20 0), .inr (5, [.ref (u20 1)])), ((u20 1), .inl (cI, 60, .inl (zf (rFill 60 (fun _ => 0) (-1))))), ((u20 2), .inr (5, [.ref (u20 3)])), ((u20 3), .inl (cI, 20, .inl (zf (rFill 20 (fun _ => 0) (-1))))), ((u20 4), .inr (5, [.ref (u20 5)])), ((u20 5), .inl (cI, 20, .inl (zf (fun _ => 0)))), ((u20 6), .inr (5, [.ref (u20 7)])), ((u20 7), .inl (cI, 20, .inl (zf (rFill 20 (fun _ => 0) (-1))))), ((u20 8), .inr (5, [.ref (u20 9)])), ((u20 9), .inl (cI, 20, .inl (zf (fun _ => 0))))] H := hP
  have hD : va_D A [(h0, .inr (7, [.ref q5, .null, .null, .null, .null, .null])), (q5, .inr (6, [.ref (u9 0), .ref (u9 2), .ref (u9 4), .ref (u9 6), .ref (u9 8), .ref (u9 10), .ref (u9 12), .int (zi 0), .int (zi 0), .int (zi 0)])), ((u9 0), .inr (5, [.ref (u9 1)])), ((u9 1), .inl (cI, 6, .inl (zf (fun _ => 0)))), ((u9 2), .inr (5, [.ref (u9 3)])), ((u9 3), .inl (cI, 30, .inl (zf (fun _ => 0)))), ((u9 4), .inr (5, [.ref (u9 5)])), ((u9 5), .inl (cI, 30, .inl (zf (fun _ => 0)))), ((u9 6), .inr (5, [.ref (u9 7)])), ((u9 7), .inl (cI, 60, .inl (zf (fun _ => 0)))), ((u9 8), .inr (5, [.ref (u9 9)])), ((u9 9), .inl (cI, 60, .inl (zf (fun _ => 0)))), ((u9 10), .inr (5, [.ref (u9 11)])), ((u9 11), .inl (cI, 60, .inl (zf (fun _ => 0)))), ((u9 12), .inr (5, [.ref (u9 13)])), ((u9 13), .inl (cI, 9, .inl (zf (fun _ => 0)))), (q16, .inr (0, [.ref (u20 0), .ref (u20 2), .ref (u20 4), .ref (u20 6), .ref (u20 8), .int (zi 0), .int (zi 0), .int (zi 0)])), ((u20 0), .inr (5, [.ref (u20 1)])), ((u20 1), .inl (cI, 60, .inl (zf (rFill 60 (fun _ => 0) (-1))))), ((u20 2), .inr (5, [.ref (u20 3)])), ((u20 3), .inl (cI, 20, .inl (zf (rFill 20 (fun _ => 0) (-1))))), ((u20 4), .inr (5, [.ref (u20 5)])), ((u20 5), .inl (cI, 20, .inl (zf (fun _ => 0)))), ((u20 6), .inr (5, [.ref (u20 7)])), ((u20 7), .inl (cI, 20, .inl (zf (rFill 20 (fun _ => 0) (-1))))), ((u20 8), .inr (5, [.ref (u20 9)])), ((u20 9), .inl (cI, 20, .inl (zf (fun _ => 0))))] := hD
  refine va_putF (D := D) (ci := 7) (v := .ref q16) (ty := (.object "PlanetoidDesk$Bodies")) (C := RX7) (T := TX7) (N := 6) hx hb hts ic_X7_init_7 tyX7 tyX7_ok nmX7 hown hK.1 hP hD hS 0 rfl rfl 1 (by decide) (hts _ lk1_X7_init) (fun _ h9 => h9) rfl hin rfl (by decide +kernel) rfl rfl (Nat.le_of_ble_eq_true rfl) dX7_init_23 (fun H locs hP hD hS => ?_)
  have hP : va_P D vwCl [(h0, .inr (7, [.ref q5, .ref q16, .null, .null, .null, .null])), (q5, .inr (6, [.ref (u9 0), .ref (u9 2), .ref (u9 4), .ref (u9 6), .ref (u9 8), .ref (u9 10), .ref (u9 12), .int (zi 0), .int (zi 0), .int (zi 0)])), ((u9 0), .inr (5, [.ref (u9 1)])), ((u9 1), .inl (cI, 6, .inl (zf (fun _ => 0)))), ((u9 2), .inr (5, [.ref (u9 3)])), ((u9 3), .inl (cI, 30, .inl (zf (fun _ => 0)))), ((u9 4), .inr (5, [.ref (u9 5)])), ((u9 5), .inl (cI, 30, .inl (zf (fun _ => 0)))), ((u9 6), .inr (5, [.ref (u9 7)])), ((u9 7), .inl (cI, 60, .inl (zf (fun _ => 0)))), ((u9 8), .inr (5, [.ref (u9 9)])), ((u9 9), .inl (cI, 60, .inl (zf (fun _ => 0)))), ((u9 10), .inr (5, [.ref (u9 11)])), ((u9 11), .inl (cI, 60, .inl (zf (fun _ => 0)))), ((u9 12), .inr (5, [.ref (u9 13)])), ((u9 13), .inl (cI, 9, .inl (zf (fun _ => 0)))), (q16, .inr (0, [.ref (u20 0), .ref (u20 2), .ref (u20 4), .ref (u20 6), .ref (u20 8), .int (zi 0), .int (zi 0), .int (zi 0)])), ((u20 0), .inr (5, [.ref (u20 1)])), ((u20 1), .inl (cI, 60, .inl (zf (rFill 60 (fun _ => 0) (-1))))), ((u20 2), .inr (5, [.ref (u20 3)])), ((u20 3), .inl (cI, 20, .inl (zf (rFill 20 (fun _ => 0) (-1))))), ((u20 4), .inr (5, [.ref (u20 5)])), ((u20 5), .inl (cI, 20, .inl (zf (fun _ => 0)))), ((u20 6), .inr (5, [.ref (u20 7)])), ((u20 7), .inl (cI, 20, .inl (zf (rFill 20 (fun _ => 0) (-1))))), ((u20 8), .inr (5, [.ref (u20 9)])), ((u20 9), .inl (cI, 20, .inl (zf (fun _ => 0))))] H := hP
  have hD : va_D A [(h0, .inr (7, [.ref q5, .ref q16, .null, .null, .null, .null])), (q5, .inr (6, [.ref (u9 0), .ref (u9 2), .ref (u9 4), .ref (u9 6), .ref (u9 8), .ref (u9 10), .ref (u9 12), .int (zi 0), .int (zi 0), .int (zi 0)])), ((u9 0), .inr (5, [.ref (u9 1)])), ((u9 1), .inl (cI, 6, .inl (zf (fun _ => 0)))), ((u9 2), .inr (5, [.ref (u9 3)])), ((u9 3), .inl (cI, 30, .inl (zf (fun _ => 0)))), ((u9 4), .inr (5, [.ref (u9 5)])), ((u9 5), .inl (cI, 30, .inl (zf (fun _ => 0)))), ((u9 6), .inr (5, [.ref (u9 7)])), ((u9 7), .inl (cI, 60, .inl (zf (fun _ => 0)))), ((u9 8), .inr (5, [.ref (u9 9)])), ((u9 9), .inl (cI, 60, .inl (zf (fun _ => 0)))), ((u9 10), .inr (5, [.ref (u9 11)])), ((u9 11), .inl (cI, 60, .inl (zf (fun _ => 0)))), ((u9 12), .inr (5, [.ref (u9 13)])), ((u9 13), .inl (cI, 9, .inl (zf (fun _ => 0)))), (q16, .inr (0, [.ref (u20 0), .ref (u20 2), .ref (u20 4), .ref (u20 6), .ref (u20 8), .int (zi 0), .int (zi 0), .int (zi 0)])), ((u20 0), .inr (5, [.ref (u20 1)])), ((u20 1), .inl (cI, 60, .inl (zf (rFill 60 (fun _ => 0) (-1))))), ((u20 2), .inr (5, [.ref (u20 3)])), ((u20 3), .inl (cI, 20, .inl (zf (rFill 20 (fun _ => 0) (-1))))), ((u20 4), .inr (5, [.ref (u20 5)])), ((u20 5), .inl (cI, 20, .inl (zf (fun _ => 0)))), ((u20 6), .inr (5, [.ref (u20 7)])), ((u20 7), .inl (cI, 20, .inl (zf (rFill 20 (fun _ => 0) (-1))))), ((u20 8), .inr (5, [.ref (u20 9)])), ((u20 9), .inl (cI, 20, .inl (zf (fun _ => 0))))] := hD
  refine lv_aload_n hx hb dX7_init_26 rfl (lv_at hl 0 rfl) ?_
  refine va_new (ci := 2) (fs := [.null, .int (zi 0)]) (C := RX2) (T := TX2) (N := 2) hx hb hts ic_X7_init_2 tyX2 tyX2_ok hown (hts _ cl2_X7_init) (hts _ ins2_X7_init) (hts _ ini2_X7_init) hK.1 hP hD hS hA rfl (fun j hj => by rcases (show j = 0 ∨ j = 1 by omega) with rfl | rfl <;> rfl) (Nat.le_of_ble_eq_true rfl) (Nat.le_of_ble_eq_true rfl) dX7_init_27 (fun q27 H hP hD hS => ?_)
  have hP : va_P D vwCl [(h0, .inr (7, [.ref q5, .ref q16, .null, .null, .null, .null])), (q5, .inr (6, [.ref (u9 0), .ref (u9 2), .ref (u9 4), .ref (u9 6), .ref (u9 8), .ref (u9 10), .ref (u9 12), .int (zi 0), .int (zi 0), .int (zi 0)])), ((u9 0), .inr (5, [.ref (u9 1)])), ((u9 1), .inl (cI, 6, .inl (zf (fun _ => 0)))), ((u9 2), .inr (5, [.ref (u9 3)])), ((u9 3), .inl (cI, 30, .inl (zf (fun _ => 0)))), ((u9 4), .inr (5, [.ref (u9 5)])), ((u9 5), .inl (cI, 30, .inl (zf (fun _ => 0)))), ((u9 6), .inr (5, [.ref (u9 7)])), ((u9 7), .inl (cI, 60, .inl (zf (fun _ => 0)))), ((u9 8), .inr (5, [.ref (u9 9)])), ((u9 9), .inl (cI, 60, .inl (zf (fun _ => 0)))), ((u9 10), .inr (5, [.ref (u9 11)])), ((u9 11), .inl (cI, 60, .inl (zf (fun _ => 0)))), ((u9 12), .inr (5, [.ref (u9 13)])), ((u9 13), .inl (cI, 9, .inl (zf (fun _ => 0)))), (q16, .inr (0, [.ref (u20 0), .ref (u20 2), .ref (u20 4), .ref (u20 6), .ref (u20 8), .int (zi 0), .int (zi 0), .int (zi 0)])), ((u20 0), .inr (5, [.ref (u20 1)])), ((u20 1), .inl (cI, 60, .inl (zf (rFill 60 (fun _ => 0) (-1))))), ((u20 2), .inr (5, [.ref (u20 3)])), ((u20 3), .inl (cI, 20, .inl (zf (rFill 20 (fun _ => 0) (-1))))), ((u20 4), .inr (5, [.ref (u20 5)])), ((u20 5), .inl (cI, 20, .inl (zf (fun _ => 0)))), ((u20 6), .inr (5, [.ref (u20 7)])), ((u20 7), .inl (cI, 20, .inl (zf (rFill 20 (fun _ => 0) (-1))))), ((u20 8), .inr (5, [.ref (u20 9)])), ((u20 9), .inl (cI, 20, .inl (zf (fun _ => 0)))), (q27, .inr (2, [.null, .int (zi 0)]))] H := hP
  have hD : va_D A [(h0, .inr (7, [.ref q5, .ref q16, .null, .null, .null, .null])), (q5, .inr (6, [.ref (u9 0), .ref (u9 2), .ref (u9 4), .ref (u9 6), .ref (u9 8), .ref (u9 10), .ref (u9 12), .int (zi 0), .int (zi 0), .int (zi 0)])), ((u9 0), .inr (5, [.ref (u9 1)])), ((u9 1), .inl (cI, 6, .inl (zf (fun _ => 0)))), ((u9 2), .inr (5, [.ref (u9 3)])), ((u9 3), .inl (cI, 30, .inl (zf (fun _ => 0)))), ((u9 4), .inr (5, [.ref (u9 5)])), ((u9 5), .inl (cI, 30, .inl (zf (fun _ => 0)))), ((u9 6), .inr (5, [.ref (u9 7)])), ((u9 7), .inl (cI, 60, .inl (zf (fun _ => 0)))), ((u9 8), .inr (5, [.ref (u9 9)])), ((u9 9), .inl (cI, 60, .inl (zf (fun _ => 0)))), ((u9 10), .inr (5, [.ref (u9 11)])), ((u9 11), .inl (cI, 60, .inl (zf (fun _ => 0)))), ((u9 12), .inr (5, [.ref (u9 13)])), ((u9 13), .inl (cI, 9, .inl (zf (fun _ => 0)))), (q16, .inr (0, [.ref (u20 0), .ref (u20 2), .ref (u20 4), .ref (u20 6), .ref (u20 8), .int (zi 0), .int (zi 0), .int (zi 0)])), ((u20 0), .inr (5, [.ref (u20 1)])), ((u20 1), .inl (cI, 60, .inl (zf (rFill 60 (fun _ => 0) (-1))))), ((u20 2), .inr (5, [.ref (u20 3)])), ((u20 3), .inl (cI, 20, .inl (zf (rFill 20 (fun _ => 0) (-1))))), ((u20 4), .inr (5, [.ref (u20 5)])), ((u20 5), .inl (cI, 20, .inl (zf (fun _ => 0)))), ((u20 6), .inr (5, [.ref (u20 7)])), ((u20 7), .inl (cI, 20, .inl (zf (rFill 20 (fun _ => 0) (-1))))), ((u20 8), .inr (5, [.ref (u20 9)])), ((u20 9), .inl (cI, 20, .inl (zf (fun _ => 0)))), (q27, .inr (2, [.null, .int (zi 0)]))] := hD
  refine lv_dup hx hb dX7_init_30 rfl ?_
  have hPc := hP.sub (ws' := [(q27, .inr (2, [.null, .int (zi 0)]))]) [27] rfl
  have hDc := hD.sub (ws' := [(q27, .inr (2, [.null, .int (zi 0)]))]) [27] (by decide) rfl
  have hFc := va_free (wc := [(q27, .inr (2, [.null, .int (zi 0)]))]) hD hS hA [27] rfl
  refine va_callv (va_runIN (As := []) (rest := [.ref q27, .ref h0]) ⟨hx, hb, hml, hown, hts⟩ (ct_X2_init l D cI cZ cJ q27 H.size) ⟨va_cnB 0 hts gX7_init_X2_init_n25 rfl rfl rfl (hK.2 _ (List.mem_of_getElem? (i := 9) rfl)) (hts _ iniX2_init_X7_init) (by decide +kernel) ⟨Nat.le_of_ble_eq_true rfl, Nat.le_of_ble_eq_true rfl⟩, rfl, (hts _ inmX2_init_X7_init)⟩ ⟨fun a U g mk q => by obtain ⟨q0, q1, qP, qK, qD⟩ := q; exact ⟨q0, q1, qP, KK.same (u := U) (U := U.calling g mk a) rfl qK, qD⟩, fun U hU hW => ⟨rfl, by rw [hU], by rw [hU]; exact hPc, KK.warm hW hK, hDc.weaken (fun _ _ _ _ => trivial)⟩⟩ rfl rfl hl.1 rfl (lv_room (Nat.le_of_ble_eq_true rfl)) dX7_init_31 ⟨Nat.le_of_ble_eq_true rfl, Nat.le_of_ble_eq_true rfl⟩) hS (fun q _ h => hFc q h) hFc (fun u31 t H1 locs ht hvm hw hB hz1 hk1 hS => ?_)
  obtain ⟨hP1, hD1⟩ := hB
  rw [ht] at hP1
  obtain ⟨hP, hD⟩ := va_join (wr := [(h0, .inr (7, [.ref q5, .ref q16, .null, .null, .null, .null])), (q5, .inr (6, [.ref (u9 0), .ref (u9 2), .ref (u9 4), .ref (u9 6), .ref (u9 8), .ref (u9 10), .ref (u9 12), .int (zi 0), .int (zi 0), .int (zi 0)])), ((u9 0), .inr (5, [.ref (u9 1)])), ((u9 1), .inl (cI, 6, .inl (zf (fun _ => 0)))), ((u9 2), .inr (5, [.ref (u9 3)])), ((u9 3), .inl (cI, 30, .inl (zf (fun _ => 0)))), ((u9 4), .inr (5, [.ref (u9 5)])), ((u9 5), .inl (cI, 30, .inl (zf (fun _ => 0)))), ((u9 6), .inr (5, [.ref (u9 7)])), ((u9 7), .inl (cI, 60, .inl (zf (fun _ => 0)))), ((u9 8), .inr (5, [.ref (u9 9)])), ((u9 9), .inl (cI, 60, .inl (zf (fun _ => 0)))), ((u9 10), .inr (5, [.ref (u9 11)])), ((u9 11), .inl (cI, 60, .inl (zf (fun _ => 0)))), ((u9 12), .inr (5, [.ref (u9 13)])), ((u9 13), .inl (cI, 9, .inl (zf (fun _ => 0)))), (q16, .inr (0, [.ref (u20 0), .ref (u20 2), .ref (u20 4), .ref (u20 6), .ref (u20 8), .int (zi 0), .int (zi 0), .int (zi 0)])), ((u20 0), .inr (5, [.ref (u20 1)])), ((u20 1), .inl (cI, 60, .inl (zf (rFill 60 (fun _ => 0) (-1))))), ((u20 2), .inr (5, [.ref (u20 3)])), ((u20 3), .inl (cI, 20, .inl (zf (rFill 20 (fun _ => 0) (-1))))), ((u20 4), .inr (5, [.ref (u20 5)])), ((u20 5), .inl (cI, 20, .inl (zf (fun _ => 0)))), ((u20 6), .inr (5, [.ref (u20 7)])), ((u20 7), .inl (cI, 20, .inl (zf (rFill 20 (fun _ => 0) (-1))))), ((u20 8), .inr (5, [.ref (u20 9)])), ((u20 9), .inl (cI, 20, .inl (zf (fun _ => 0))))]) (w1 := [(q27, .inr (2, [.ref (u31 0), .int (zi 0)])), ((u31 0), .inr (5, [.ref (u31 1)])), ((u31 1), .inl (cI, 60, .inl (zf (fun _ => 0))))]) hP hD [27] [0, 1, 2, 3, 4, 5, 6, 7, 8, 9, 10, 11, 12, 13, 14, 15, 16, 17, 18, 19, 20, 21, 22, 23, 24, 25, 26] rfl rfl (by decide) (by decide) hk1 hFc hP1 hD1
  clear hPc hDc hFc hP1 hD1 hz1 hk1 ht hvm hw
  generalize H1 = H at hP hS ⊢
  have hP : va_P D vwCl [(h0, .inr (7, [.ref q5, .ref q16, .null, .null, .null, .null])), (q5, .inr (6, [.ref (u9 0), .ref (u9 2), .ref (u9 4), .ref (u9 6), .ref (u9 8), .ref (u9 10), .ref (u9 12), .int (zi 0), .int (zi 0), .int (zi 0)])), ((u9 0), .inr (5, [.ref (u9 1)])), ((u9 1), .inl (cI, 6, .inl (zf (fun _ => 0)))), ((u9 2), .inr (5, [.ref (u9 3)])), ((u9 3), .inl (cI, 30, .inl (zf (fun _ => 0)))), ((u9 4), .inr (5, [.ref (u9 5)])), ((u9 5), .inl (cI, 30, .inl (zf (fun _ => 0)))), ((u9 6), .inr (5, [.ref (u9 7)])), ((u9 7), .inl (cI, 60, .inl (zf (fun _ => 0)))), ((u9 8), .inr (5, [.ref (u9 9)])), ((u9 9), .inl (cI, 60, .inl (zf (fun _ => 0)))), ((u9 10), .inr (5, [.ref (u9 11)])), ((u9 11), .inl (cI, 60, .inl (zf (fun _ => 0)))), ((u9 12), .inr (5, [.ref (u9 13)])), ((u9 13), .inl (cI, 9, .inl (zf (fun _ => 0)))), (q16, .inr (0, [.ref (u20 0), .ref (u20 2), .ref (u20 4), .ref (u20 6), .ref (u20 8), .int (zi 0), .int (zi 0), .int (zi 0)])), ((u20 0), .inr (5, [.ref (u20 1)])), ((u20 1), .inl (cI, 60, .inl (zf (rFill 60 (fun _ => 0) (-1))))), ((u20 2), .inr (5, [.ref (u20 3)])), ((u20 3), .inl (cI, 20, .inl (zf (rFill 20 (fun _ => 0) (-1))))), ((u20 4), .inr (5, [.ref (u20 5)])), ((u20 5), .inl (cI, 20, .inl (zf (fun _ => 0)))), ((u20 6), .inr (5, [.ref (u20 7)])), ((u20 7), .inl (cI, 20, .inl (zf (rFill 20 (fun _ => 0) (-1))))), ((u20 8), .inr (5, [.ref (u20 9)])), ((u20 9), .inl (cI, 20, .inl (zf (fun _ => 0)))), (q27, .inr (2, [.ref (u31 0), .int (zi 0)])), ((u31 0), .inr (5, [.ref (u31 1)])), ((u31 1), .inl (cI, 60, .inl (zf (fun _ => 0))))] H := hP
  have hD : va_D A [(h0, .inr (7, [.ref q5, .ref q16, .null, .null, .null, .null])), (q5, .inr (6, [.ref (u9 0), .ref (u9 2), .ref (u9 4), .ref (u9 6), .ref (u9 8), .ref (u9 10), .ref (u9 12), .int (zi 0), .int (zi 0), .int (zi 0)])), ((u9 0), .inr (5, [.ref (u9 1)])), ((u9 1), .inl (cI, 6, .inl (zf (fun _ => 0)))), ((u9 2), .inr (5, [.ref (u9 3)])), ((u9 3), .inl (cI, 30, .inl (zf (fun _ => 0)))), ((u9 4), .inr (5, [.ref (u9 5)])), ((u9 5), .inl (cI, 30, .inl (zf (fun _ => 0)))), ((u9 6), .inr (5, [.ref (u9 7)])), ((u9 7), .inl (cI, 60, .inl (zf (fun _ => 0)))), ((u9 8), .inr (5, [.ref (u9 9)])), ((u9 9), .inl (cI, 60, .inl (zf (fun _ => 0)))), ((u9 10), .inr (5, [.ref (u9 11)])), ((u9 11), .inl (cI, 60, .inl (zf (fun _ => 0)))), ((u9 12), .inr (5, [.ref (u9 13)])), ((u9 13), .inl (cI, 9, .inl (zf (fun _ => 0)))), (q16, .inr (0, [.ref (u20 0), .ref (u20 2), .ref (u20 4), .ref (u20 6), .ref (u20 8), .int (zi 0), .int (zi 0), .int (zi 0)])), ((u20 0), .inr (5, [.ref (u20 1)])), ((u20 1), .inl (cI, 60, .inl (zf (rFill 60 (fun _ => 0) (-1))))), ((u20 2), .inr (5, [.ref (u20 3)])), ((u20 3), .inl (cI, 20, .inl (zf (rFill 20 (fun _ => 0) (-1))))), ((u20 4), .inr (5, [.ref (u20 5)])), ((u20 5), .inl (cI, 20, .inl (zf (fun _ => 0)))), ((u20 6), .inr (5, [.ref (u20 7)])), ((u20 7), .inl (cI, 20, .inl (zf (rFill 20 (fun _ => 0) (-1))))), ((u20 8), .inr (5, [.ref (u20 9)])), ((u20 9), .inl (cI, 20, .inl (zf (fun _ => 0)))), (q27, .inr (2, [.ref (u31 0), .int (zi 0)])), ((u31 0), .inr (5, [.ref (u31 1)])), ((u31 1), .inl (cI, 60, .inl (zf (fun _ => 0))))] := hD
  refine va_putF (D := D) (ci := 7) (v := .ref q27) (ty := (.object "PlanetoidDesk$Looks")) (C := RX7) (T := TX7) (N := 6) hx hb hts ic_X7_init_7 tyX7 tyX7_ok nmX7 hown hK.1 hP hD hS 0 rfl rfl 2 (by decide) (hts _ lk2_X7_init) (fun _ h9 => h9) rfl hin rfl (by decide +kernel) rfl rfl (Nat.le_of_ble_eq_true rfl) dX7_init_34 (fun H locs hP hD hS => ?_)
  have hP : va_P D vwCl [(h0, .inr (7, [.ref q5, .ref q16, .ref q27, .null, .null, .null])), (q5, .inr (6, [.ref (u9 0), .ref (u9 2), .ref (u9 4), .ref (u9 6), .ref (u9 8), .ref (u9 10), .ref (u9 12), .int (zi 0), .int (zi 0), .int (zi 0)])), ((u9 0), .inr (5, [.ref (u9 1)])), ((u9 1), .inl (cI, 6, .inl (zf (fun _ => 0)))), ((u9 2), .inr (5, [.ref (u9 3)])), ((u9 3), .inl (cI, 30, .inl (zf (fun _ => 0)))), ((u9 4), .inr (5, [.ref (u9 5)])), ((u9 5), .inl (cI, 30, .inl (zf (fun _ => 0)))), ((u9 6), .inr (5, [.ref (u9 7)])), ((u9 7), .inl (cI, 60, .inl (zf (fun _ => 0)))), ((u9 8), .inr (5, [.ref (u9 9)])), ((u9 9), .inl (cI, 60, .inl (zf (fun _ => 0)))), ((u9 10), .inr (5, [.ref (u9 11)])), ((u9 11), .inl (cI, 60, .inl (zf (fun _ => 0)))), ((u9 12), .inr (5, [.ref (u9 13)])), ((u9 13), .inl (cI, 9, .inl (zf (fun _ => 0)))), (q16, .inr (0, [.ref (u20 0), .ref (u20 2), .ref (u20 4), .ref (u20 6), .ref (u20 8), .int (zi 0), .int (zi 0), .int (zi 0)])), ((u20 0), .inr (5, [.ref (u20 1)])), ((u20 1), .inl (cI, 60, .inl (zf (rFill 60 (fun _ => 0) (-1))))), ((u20 2), .inr (5, [.ref (u20 3)])), ((u20 3), .inl (cI, 20, .inl (zf (rFill 20 (fun _ => 0) (-1))))), ((u20 4), .inr (5, [.ref (u20 5)])), ((u20 5), .inl (cI, 20, .inl (zf (fun _ => 0)))), ((u20 6), .inr (5, [.ref (u20 7)])), ((u20 7), .inl (cI, 20, .inl (zf (rFill 20 (fun _ => 0) (-1))))), ((u20 8), .inr (5, [.ref (u20 9)])), ((u20 9), .inl (cI, 20, .inl (zf (fun _ => 0)))), (q27, .inr (2, [.ref (u31 0), .int (zi 0)])), ((u31 0), .inr (5, [.ref (u31 1)])), ((u31 1), .inl (cI, 60, .inl (zf (fun _ => 0))))] H := hP
  have hD : va_D A [(h0, .inr (7, [.ref q5, .ref q16, .ref q27, .null, .null, .null])), (q5, .inr (6, [.ref (u9 0), .ref (u9 2), .ref (u9 4), .ref (u9 6), .ref (u9 8), .ref (u9 10), .ref (u9 12), .int (zi 0), .int (zi 0), .int (zi 0)])), ((u9 0), .inr (5, [.ref (u9 1)])), ((u9 1), .inl (cI, 6, .inl (zf (fun _ => 0)))), ((u9 2), .inr (5, [.ref (u9 3)])), ((u9 3), .inl (cI, 30, .inl (zf (fun _ => 0)))), ((u9 4), .inr (5, [.ref (u9 5)])), ((u9 5), .inl (cI, 30, .inl (zf (fun _ => 0)))), ((u9 6), .inr (5, [.ref (u9 7)])), ((u9 7), .inl (cI, 60, .inl (zf (fun _ => 0)))), ((u9 8), .inr (5, [.ref (u9 9)])), ((u9 9), .inl (cI, 60, .inl (zf (fun _ => 0)))), ((u9 10), .inr (5, [.ref (u9 11)])), ((u9 11), .inl (cI, 60, .inl (zf (fun _ => 0)))), ((u9 12), .inr (5, [.ref (u9 13)])), ((u9 13), .inl (cI, 9, .inl (zf (fun _ => 0)))), (q16, .inr (0, [.ref (u20 0), .ref (u20 2), .ref (u20 4), .ref (u20 6), .ref (u20 8), .int (zi 0), .int (zi 0), .int (zi 0)])), ((u20 0), .inr (5, [.ref (u20 1)])), ((u20 1), .inl (cI, 60, .inl (zf (rFill 60 (fun _ => 0) (-1))))), ((u20 2), .inr (5, [.ref (u20 3)])), ((u20 3), .inl (cI, 20, .inl (zf (rFill 20 (fun _ => 0) (-1))))), ((u20 4), .inr (5, [.ref (u20 5)])), ((u20 5), .inl (cI, 20, .inl (zf (fun _ => 0)))), ((u20 6), .inr (5, [.ref (u20 7)])), ((u20 7), .inl (cI, 20, .inl (zf (rFill 20 (fun _ => 0) (-1))))), ((u20 8), .inr (5, [.ref (u20 9)])), ((u20 9), .inl (cI, 20, .inl (zf (fun _ => 0)))), (q27, .inr (2, [.ref (u31 0), .int (zi 0)])), ((u31 0), .inr (5, [.ref (u31 1)])), ((u31 1), .inl (cI, 60, .inl (zf (fun _ => 0))))] := hD
  refine lv_aload_n hx hb dX7_init_37 rfl (lv_at hl 0 rfl) ?_
  refine va_new (ci := 3) (fs := [.null, .null, .null]) (C := RX3) (T := TX3) (N := 3) hx hb hts ic_X7_init_3 tyX3 tyX3_ok hown (hts _ cl3_X7_init) (hts _ ins3_X7_init) (hts _ ini3_X7_init) hK.1 hP hD hS hA rfl (fun j hj => by rcases (show j = 0 ∨ j = 1 ∨ j = 2 by omega) with rfl | rfl | rfl <;> rfl) (Nat.le_of_ble_eq_true rfl) (Nat.le_of_ble_eq_true rfl) dX7_init_38 (fun q38 H hP hD hS => ?_)
  have hP : va_P D vwCl [(h0, .inr (7, [.ref q5, .ref q16, .ref q27, .null, .null, .null])), (q5, .inr (6, [.ref (u9 0), .ref (u9 2), .ref (u9 4), .ref (u9 6), .ref (u9 8), .ref (u9 10), .ref (u9 12), .int (zi 0), .int (zi 0), .int (zi 0)])), ((u9 0), .inr (5, [.ref (u9 1)])), ((u9 1), .inl (cI, 6, .inl (zf (fun _ => 0)))), ((u9 2), .inr (5, [.ref (u9 3)])), ((u9 3), .inl (cI, 30, .inl (zf (fun _ => 0)))), ((u9 4), .inr (5, [.ref (u9 5)])), ((u9 5), .inl (cI, 30, .inl (zf (fun _ => 0)))), ((u9 6), .inr (5, [.ref (u9 7)])), ((u9 7), .inl (cI, 60, .inl (zf (fun _ => 0)))), ((u9 8), .inr (5, [.ref (u9 9)])), ((u9 9), .inl (cI, 60, .inl (zf (fun _ => 0)))), ((u9 10), .inr (5, [.ref (u9 11)])), ((u9 11), .inl (cI, 60, .inl (zf (fun _ => 0)))), ((u9 12), .inr (5, [.ref (u9 13)])), ((u9 13), .inl (cI, 9, .inl (zf (fun _ => 0)))), (q16, .inr (0, [.ref (u20 0), .ref (u20 2), .ref (u20 4), .ref (u20 6), .ref (u20 8), .int (zi 0), .int (zi 0), .int (zi 0)])), ((u20 0), .inr (5, [.ref (u20 1)])), ((u20 1), .inl (cI, 60, .inl (zf (rFill 60 (fun _ => 0) (-1))))), ((u20 2), .inr (5, [.ref (u20 3)])), ((u20 3), .inl (cI, 20, .inl (zf (rFill 20 (fun _ => 0) (-1))))), ((u20 4), .inr (5, [.ref (u20 5)])), ((u20 5), .inl (cI, 20, .inl (zf (fun _ => 0)))), ((u20 6), .inr (5, [.ref (u20 7)])), ((u20 7), .inl (cI, 20, .inl (zf (rFill 20 (fun _ => 0) (-1))))), ((u20 8), .inr (5, [.ref (u20 9)])), ((u20 9), .inl (cI, 20, .inl (zf (fun _ => 0)))), (q27, .inr (2, [.ref (u31 0), .int (zi 0)])), ((u31 0), .inr (5, [.ref (u31 1)])), ((u31 1), .inl (cI, 60, .inl (zf (fun _ => 0)))), (q38, .inr (3, [.null, .null, .null]))] H := hP
  have hD : va_D A [(h0, .inr (7, [.ref q5, .ref q16, .ref q27, .null, .null, .null])), (q5, .inr (6, [.ref (u9 0), .ref (u9 2), .ref (u9 4), .ref (u9 6), .ref (u9 8), .ref (u9 10), .ref (u9 12), .int (zi 0), .int (zi 0), .int (zi 0)])), ((u9 0), .inr (5, [.ref (u9 1)])), ((u9 1), .inl (cI, 6, .inl (zf (fun _ => 0)))), ((u9 2), .inr (5, [.ref (u9 3)])), ((u9 3), .inl (cI, 30, .inl (zf (fun _ => 0)))), ((u9 4), .inr (5, [.ref (u9 5)])), ((u9 5), .inl (cI, 30, .inl (zf (fun _ => 0)))), ((u9 6), .inr (5, [.ref (u9 7)])), ((u9 7), .inl (cI, 60, .inl (zf (fun _ => 0)))), ((u9 8), .inr (5, [.ref (u9 9)])), ((u9 9), .inl (cI, 60, .inl (zf (fun _ => 0)))), ((u9 10), .inr (5, [.ref (u9 11)])), ((u9 11), .inl (cI, 60, .inl (zf (fun _ => 0)))), ((u9 12), .inr (5, [.ref (u9 13)])), ((u9 13), .inl (cI, 9, .inl (zf (fun _ => 0)))), (q16, .inr (0, [.ref (u20 0), .ref (u20 2), .ref (u20 4), .ref (u20 6), .ref (u20 8), .int (zi 0), .int (zi 0), .int (zi 0)])), ((u20 0), .inr (5, [.ref (u20 1)])), ((u20 1), .inl (cI, 60, .inl (zf (rFill 60 (fun _ => 0) (-1))))), ((u20 2), .inr (5, [.ref (u20 3)])), ((u20 3), .inl (cI, 20, .inl (zf (rFill 20 (fun _ => 0) (-1))))), ((u20 4), .inr (5, [.ref (u20 5)])), ((u20 5), .inl (cI, 20, .inl (zf (fun _ => 0)))), ((u20 6), .inr (5, [.ref (u20 7)])), ((u20 7), .inl (cI, 20, .inl (zf (rFill 20 (fun _ => 0) (-1))))), ((u20 8), .inr (5, [.ref (u20 9)])), ((u20 9), .inl (cI, 20, .inl (zf (fun _ => 0)))), (q27, .inr (2, [.ref (u31 0), .int (zi 0)])), ((u31 0), .inr (5, [.ref (u31 1)])), ((u31 1), .inl (cI, 60, .inl (zf (fun _ => 0)))), (q38, .inr (3, [.null, .null, .null]))] := hD
  refine lv_dup hx hb dX7_init_41 rfl ?_
  have hPc := hP.sub (ws' := [(q38, .inr (3, [.null, .null, .null]))]) [30] rfl
  have hDc := hD.sub (ws' := [(q38, .inr (3, [.null, .null, .null]))]) [30] (by decide) rfl
  have hFc := va_free (wc := [(q38, .inr (3, [.null, .null, .null]))]) hD hS hA [30] rfl
  refine va_callv (va_runIN (As := []) (rest := [.ref q38, .ref h0]) ⟨hx, hb, hml, hown, hts⟩ (ct_X3_init l D cI cZ cJ q38 H.size) ⟨va_cnB 0 hts gX7_init_X3_init_n32 rfl rfl rfl (hK.2 _ (List.mem_of_getElem? (i := 10) rfl)) (hts _ iniX3_init_X7_init) (by decide +kernel) ⟨Nat.le_of_ble_eq_true rfl, Nat.le_of_ble_eq_true rfl⟩, rfl, (hts _ inmX3_init_X7_init)⟩ ⟨fun a U g mk q => by obtain ⟨q0, q1, qP, qK, qD⟩ := q; exact ⟨q0, q1, qP, KK.same (u := U) (U := U.calling g mk a) rfl qK, qD⟩, fun U hU hW => ⟨rfl, by rw [hU], by rw [hU]; exact hPc, KK.warm hW hK, hDc.weaken (fun _ _ _ _ => trivial)⟩⟩ rfl rfl hl.1 rfl (lv_room (Nat.le_of_ble_eq_true rfl)) dX7_init_42 ⟨Nat.le_of_ble_eq_true rfl, Nat.le_of_ble_eq_true rfl⟩) hS (fun q _ h => hFc q h) hFc (fun u42 t H1 locs ht hvm hw hB hz1 hk1 hS => ?_)
  obtain ⟨hP1, hD1⟩ := hB
  rw [ht] at hP1
  obtain ⟨hP, hD⟩ := va_join (wr := [(h0, .inr (7, [.ref q5, .ref q16, .ref q27, .null, .null, .null])), (q5, .inr (6, [.ref (u9 0), .ref (u9 2), .ref (u9 4), .ref (u9 6), .ref (u9 8), .ref (u9 10), .ref (u9 12), .int (zi 0), .int (zi 0), .int (zi 0)])), ((u9 0), .inr (5, [.ref (u9 1)])), ((u9 1), .inl (cI, 6, .inl (zf (fun _ => 0)))), ((u9 2), .inr (5, [.ref (u9 3)])), ((u9 3), .inl (cI, 30, .inl (zf (fun _ => 0)))), ((u9 4), .inr (5, [.ref (u9 5)])), ((u9 5), .inl (cI, 30, .inl (zf (fun _ => 0)))), ((u9 6), .inr (5, [.ref (u9 7)])), ((u9 7), .inl (cI, 60, .inl (zf (fun _ => 0)))), ((u9 8), .inr (5, [.ref (u9 9)])), ((u9 9), .inl (cI, 60, .inl (zf (fun _ => 0)))), ((u9 10), .inr (5, [.ref (u9 11)])), ((u9 11), .inl (cI, 60, .inl (zf (fun _ => 0)))), ((u9 12), .inr (5, [.ref (u9 13)])), ((u9 13), .inl (cI, 9, .inl (zf (fun _ => 0)))), (q16, .inr (0, [.ref (u20 0), .ref (u20 2), .ref (u20 4), .ref (u20 6), .ref (u20 8), .int (zi 0), .int (zi 0), .int (zi 0)])), ((u20 0), .inr (5, [.ref (u20 1)])), ((u20 1), .inl (cI, 60, .inl (zf (rFill 60 (fun _ => 0) (-1))))), ((u20 2), .inr (5, [.ref (u20 3)])), ((u20 3), .inl (cI, 20, .inl (zf (rFill 20 (fun _ => 0) (-1))))), ((u20 4), .inr (5, [.ref (u20 5)])), ((u20 5), .inl (cI, 20, .inl (zf (fun _ => 0)))), ((u20 6), .inr (5, [.ref (u20 7)])), ((u20 7), .inl (cI, 20, .inl (zf (rFill 20 (fun _ => 0) (-1))))), ((u20 8), .inr (5, [.ref (u20 9)])), ((u20 9), .inl (cI, 20, .inl (zf (fun _ => 0)))), (q27, .inr (2, [.ref (u31 0), .int (zi 0)])), ((u31 0), .inr (5, [.ref (u31 1)])), ((u31 1), .inl (cI, 60, .inl (zf (fun _ => 0))))]) (w1 := [(q38, .inr (3, [.ref (u42 0), .ref (u42 2), .ref (u42 4)])), ((u42 0), .inr (5, [.ref (u42 1)])), ((u42 1), .inl (cI, 405, .inl (zf (fun _ => 0)))), ((u42 2), .inr (5, [.ref (u42 3)])), ((u42 3), .inl (cI, 405, .inl (zf (fun _ => 0)))), ((u42 4), .inr (5, [.ref (u42 5)])), ((u42 5), .inl (cI, 3600, .inl (zf (fun _ => 0))))]) hP hD [30] [0, 1, 2, 3, 4, 5, 6, 7, 8, 9, 10, 11, 12, 13, 14, 15, 16, 17, 18, 19, 20, 21, 22, 23, 24, 25, 26, 27, 28, 29] rfl rfl (by decide) (by decide) hk1 hFc hP1 hD1
  clear hPc hDc hFc hP1 hD1 hz1 hk1 ht hvm hw
  generalize H1 = H at hP hS ⊢
  have hP : va_P D vwCl [(h0, .inr (7, [.ref q5, .ref q16, .ref q27, .null, .null, .null])), (q5, .inr (6, [.ref (u9 0), .ref (u9 2), .ref (u9 4), .ref (u9 6), .ref (u9 8), .ref (u9 10), .ref (u9 12), .int (zi 0), .int (zi 0), .int (zi 0)])), ((u9 0), .inr (5, [.ref (u9 1)])), ((u9 1), .inl (cI, 6, .inl (zf (fun _ => 0)))), ((u9 2), .inr (5, [.ref (u9 3)])), ((u9 3), .inl (cI, 30, .inl (zf (fun _ => 0)))), ((u9 4), .inr (5, [.ref (u9 5)])), ((u9 5), .inl (cI, 30, .inl (zf (fun _ => 0)))), ((u9 6), .inr (5, [.ref (u9 7)])), ((u9 7), .inl (cI, 60, .inl (zf (fun _ => 0)))), ((u9 8), .inr (5, [.ref (u9 9)])), ((u9 9), .inl (cI, 60, .inl (zf (fun _ => 0)))), ((u9 10), .inr (5, [.ref (u9 11)])), ((u9 11), .inl (cI, 60, .inl (zf (fun _ => 0)))), ((u9 12), .inr (5, [.ref (u9 13)])), ((u9 13), .inl (cI, 9, .inl (zf (fun _ => 0)))), (q16, .inr (0, [.ref (u20 0), .ref (u20 2), .ref (u20 4), .ref (u20 6), .ref (u20 8), .int (zi 0), .int (zi 0), .int (zi 0)])), ((u20 0), .inr (5, [.ref (u20 1)])), ((u20 1), .inl (cI, 60, .inl (zf (rFill 60 (fun _ => 0) (-1))))), ((u20 2), .inr (5, [.ref (u20 3)])), ((u20 3), .inl (cI, 20, .inl (zf (rFill 20 (fun _ => 0) (-1))))), ((u20 4), .inr (5, [.ref (u20 5)])), ((u20 5), .inl (cI, 20, .inl (zf (fun _ => 0)))), ((u20 6), .inr (5, [.ref (u20 7)])), ((u20 7), .inl (cI, 20, .inl (zf (rFill 20 (fun _ => 0) (-1))))), ((u20 8), .inr (5, [.ref (u20 9)])), ((u20 9), .inl (cI, 20, .inl (zf (fun _ => 0)))), (q27, .inr (2, [.ref (u31 0), .int (zi 0)])), ((u31 0), .inr (5, [.ref (u31 1)])), ((u31 1), .inl (cI, 60, .inl (zf (fun _ => 0)))), (q38, .inr (3, [.ref (u42 0), .ref (u42 2), .ref (u42 4)])), ((u42 0), .inr (5, [.ref (u42 1)])), ((u42 1), .inl (cI, 405, .inl (zf (fun _ => 0)))), ((u42 2), .inr (5, [.ref (u42 3)])), ((u42 3), .inl (cI, 405, .inl (zf (fun _ => 0)))), ((u42 4), .inr (5, [.ref (u42 5)])), ((u42 5), .inl (cI, 3600, .inl (zf (fun _ => 0))))] H := hP
  have hD : va_D A [(h0, .inr (7, [.ref q5, .ref q16, .ref q27, .null, .null, .null])), (q5, .inr (6, [.ref (u9 0), .ref (u9 2), .ref (u9 4), .ref (u9 6), .ref (u9 8), .ref (u9 10), .ref (u9 12), .int (zi 0), .int (zi 0), .int (zi 0)])), ((u9 0), .inr (5, [.ref (u9 1)])), ((u9 1), .inl (cI, 6, .inl (zf (fun _ => 0)))), ((u9 2), .inr (5, [.ref (u9 3)])), ((u9 3), .inl (cI, 30, .inl (zf (fun _ => 0)))), ((u9 4), .inr (5, [.ref (u9 5)])), ((u9 5), .inl (cI, 30, .inl (zf (fun _ => 0)))), ((u9 6), .inr (5, [.ref (u9 7)])), ((u9 7), .inl (cI, 60, .inl (zf (fun _ => 0)))), ((u9 8), .inr (5, [.ref (u9 9)])), ((u9 9), .inl (cI, 60, .inl (zf (fun _ => 0)))), ((u9 10), .inr (5, [.ref (u9 11)])), ((u9 11), .inl (cI, 60, .inl (zf (fun _ => 0)))), ((u9 12), .inr (5, [.ref (u9 13)])), ((u9 13), .inl (cI, 9, .inl (zf (fun _ => 0)))), (q16, .inr (0, [.ref (u20 0), .ref (u20 2), .ref (u20 4), .ref (u20 6), .ref (u20 8), .int (zi 0), .int (zi 0), .int (zi 0)])), ((u20 0), .inr (5, [.ref (u20 1)])), ((u20 1), .inl (cI, 60, .inl (zf (rFill 60 (fun _ => 0) (-1))))), ((u20 2), .inr (5, [.ref (u20 3)])), ((u20 3), .inl (cI, 20, .inl (zf (rFill 20 (fun _ => 0) (-1))))), ((u20 4), .inr (5, [.ref (u20 5)])), ((u20 5), .inl (cI, 20, .inl (zf (fun _ => 0)))), ((u20 6), .inr (5, [.ref (u20 7)])), ((u20 7), .inl (cI, 20, .inl (zf (rFill 20 (fun _ => 0) (-1))))), ((u20 8), .inr (5, [.ref (u20 9)])), ((u20 9), .inl (cI, 20, .inl (zf (fun _ => 0)))), (q27, .inr (2, [.ref (u31 0), .int (zi 0)])), ((u31 0), .inr (5, [.ref (u31 1)])), ((u31 1), .inl (cI, 60, .inl (zf (fun _ => 0)))), (q38, .inr (3, [.ref (u42 0), .ref (u42 2), .ref (u42 4)])), ((u42 0), .inr (5, [.ref (u42 1)])), ((u42 1), .inl (cI, 405, .inl (zf (fun _ => 0)))), ((u42 2), .inr (5, [.ref (u42 3)])), ((u42 3), .inl (cI, 405, .inl (zf (fun _ => 0)))), ((u42 4), .inr (5, [.ref (u42 5)])), ((u42 5), .inl (cI, 3600, .inl (zf (fun _ => 0))))] := hD
  refine va_putF (D := D) (ci := 7) (v := .ref q38) (ty := (.object "PlanetoidDesk$Orbits")) (C := RX7) (T := TX7) (N := 6) hx hb hts ic_X7_init_7 tyX7 tyX7_ok nmX7 hown hK.1 hP hD hS 0 rfl rfl 3 (by decide) (hts _ lk3_X7_init) (fun _ h9 => h9) rfl hin rfl (by decide +kernel) rfl rfl (Nat.le_of_ble_eq_true rfl) dX7_init_45 (fun H locs hP hD hS => ?_)
  have hP : va_P D vwCl [(h0, .inr (7, [.ref q5, .ref q16, .ref q27, .ref q38, .null, .null])), (q5, .inr (6, [.ref (u9 0), .ref (u9 2), .ref (u9 4), .ref (u9 6), .ref (u9 8), .ref (u9 10), .ref (u9 12), .int (zi 0), .int (zi 0), .int (zi 0)])), ((u9 0), .inr (5, [.ref (u9 1)])), ((u9 1), .inl (cI, 6, .inl (zf (fun _ => 0)))), ((u9 2), .inr (5, [.ref (u9 3)])), ((u9 3), .inl (cI, 30, .inl (zf (fun _ => 0)))), ((u9 4), .inr (5, [.ref (u9 5)])), ((u9 5), .inl (cI, 30, .inl (zf (fun _ => 0)))), ((u9 6), .inr (5, [.ref (u9 7)])), ((u9 7), .inl (cI, 60, .inl (zf (fun _ => 0)))), ((u9 8), .inr (5, [.ref (u9 9)])), ((u9 9), .inl (cI, 60, .inl (zf (fun _ => 0)))), ((u9 10), .inr (5, [.ref (u9 11)])), ((u9 11), .inl (cI, 60, .inl (zf (fun _ => 0)))), ((u9 12), .inr (5, [.ref (u9 13)])), ((u9 13), .inl (cI, 9, .inl (zf (fun _ => 0)))), (q16, .inr (0, [.ref (u20 0), .ref (u20 2), .ref (u20 4), .ref (u20 6), .ref (u20 8), .int (zi 0), .int (zi 0), .int (zi 0)])), ((u20 0), .inr (5, [.ref (u20 1)])), ((u20 1), .inl (cI, 60, .inl (zf (rFill 60 (fun _ => 0) (-1))))), ((u20 2), .inr (5, [.ref (u20 3)])), ((u20 3), .inl (cI, 20, .inl (zf (rFill 20 (fun _ => 0) (-1))))), ((u20 4), .inr (5, [.ref (u20 5)])), ((u20 5), .inl (cI, 20, .inl (zf (fun _ => 0)))), ((u20 6), .inr (5, [.ref (u20 7)])), ((u20 7), .inl (cI, 20, .inl (zf (rFill 20 (fun _ => 0) (-1))))), ((u20 8), .inr (5, [.ref (u20 9)])), ((u20 9), .inl (cI, 20, .inl (zf (fun _ => 0)))), (q27, .inr (2, [.ref (u31 0), .int (zi 0)])), ((u31 0), .inr (5, [.ref (u31 1)])), ((u31 1), .inl (cI, 60, .inl (zf (fun _ => 0)))), (q38, .inr (3, [.ref (u42 0), .ref (u42 2), .ref (u42 4)])), ((u42 0), .inr (5, [.ref (u42 1)])), ((u42 1), .inl (cI, 405, .inl (zf (fun _ => 0)))), ((u42 2), .inr (5, [.ref (u42 3)])), ((u42 3), .inl (cI, 405, .inl (zf (fun _ => 0)))), ((u42 4), .inr (5, [.ref (u42 5)])), ((u42 5), .inl (cI, 3600, .inl (zf (fun _ => 0))))] H := hP
  have hD : va_D A [(h0, .inr (7, [.ref q5, .ref q16, .ref q27, .ref q38, .null, .null])), (q5, .inr (6, [.ref (u9 0), .ref (u9 2), .ref (u9 4), .ref (u9 6), .ref (u9 8), .ref (u9 10), .ref (u9 12), .int (zi 0), .int (zi 0), .int (zi 0)])), ((u9 0), .inr (5, [.ref (u9 1)])), ((u9 1), .inl (cI, 6, .inl (zf (fun _ => 0)))), ((u9 2), .inr (5, [.ref (u9 3)])), ((u9 3), .inl (cI, 30, .inl (zf (fun _ => 0)))), ((u9 4), .inr (5, [.ref (u9 5)])), ((u9 5), .inl (cI, 30, .inl (zf (fun _ => 0)))), ((u9 6), .inr (5, [.ref (u9 7)])), ((u9 7), .inl (cI, 60, .inl (zf (fun _ => 0)))), ((u9 8), .inr (5, [.ref (u9 9)])), ((u9 9), .inl (cI, 60, .inl (zf (fun _ => 0)))), ((u9 10), .inr (5, [.ref (u9 11)])), ((u9 11), .inl (cI, 60, .inl (zf (fun _ => 0)))), ((u9 12), .inr (5, [.ref (u9 13)])), ((u9 13), .inl (cI, 9, .inl (zf (fun _ => 0)))), (q16, .inr (0, [.ref (u20 0), .ref (u20 2), .ref (u20 4), .ref (u20 6), .ref (u20 8), .int (zi 0), .int (zi 0), .int (zi 0)])), ((u20 0), .inr (5, [.ref (u20 1)])), ((u20 1), .inl (cI, 60, .inl (zf (rFill 60 (fun _ => 0) (-1))))), ((u20 2), .inr (5, [.ref (u20 3)])), ((u20 3), .inl (cI, 20, .inl (zf (rFill 20 (fun _ => 0) (-1))))), ((u20 4), .inr (5, [.ref (u20 5)])), ((u20 5), .inl (cI, 20, .inl (zf (fun _ => 0)))), ((u20 6), .inr (5, [.ref (u20 7)])), ((u20 7), .inl (cI, 20, .inl (zf (rFill 20 (fun _ => 0) (-1))))), ((u20 8), .inr (5, [.ref (u20 9)])), ((u20 9), .inl (cI, 20, .inl (zf (fun _ => 0)))), (q27, .inr (2, [.ref (u31 0), .int (zi 0)])), ((u31 0), .inr (5, [.ref (u31 1)])), ((u31 1), .inl (cI, 60, .inl (zf (fun _ => 0)))), (q38, .inr (3, [.ref (u42 0), .ref (u42 2), .ref (u42 4)])), ((u42 0), .inr (5, [.ref (u42 1)])), ((u42 1), .inl (cI, 405, .inl (zf (fun _ => 0)))), ((u42 2), .inr (5, [.ref (u42 3)])), ((u42 3), .inl (cI, 405, .inl (zf (fun _ => 0)))), ((u42 4), .inr (5, [.ref (u42 5)])), ((u42 5), .inl (cI, 3600, .inl (zf (fun _ => 0))))] := hD
  refine lv_aload_n hx hb dX7_init_48 rfl (lv_at hl 0 rfl) ?_
  refine va_new (ci := 4) (fs := [.null, .null, .null, .int (zi 0), .int (zi 0)]) (C := RX4) (T := TX4) (N := 5) hx hb hts ic_X7_init_4 tyX4 tyX4_ok hown (hts _ cl4_X7_init) (hts _ ins4_X7_init) (hts _ ini4_X7_init) hK.1 hP hD hS hA rfl (fun j hj => by rcases (show j = 0 ∨ j = 1 ∨ j = 2 ∨ j = 3 ∨ j = 4 by omega) with rfl | rfl | rfl | rfl | rfl <;> rfl) (Nat.le_of_ble_eq_true rfl) (Nat.le_of_ble_eq_true rfl) dX7_init_49 (fun q49 H hP hD hS => ?_)
  have hP : va_P D vwCl [(h0, .inr (7, [.ref q5, .ref q16, .ref q27, .ref q38, .null, .null])), (q5, .inr (6, [.ref (u9 0), .ref (u9 2), .ref (u9 4), .ref (u9 6), .ref (u9 8), .ref (u9 10), .ref (u9 12), .int (zi 0), .int (zi 0), .int (zi 0)])), ((u9 0), .inr (5, [.ref (u9 1)])), ((u9 1), .inl (cI, 6, .inl (zf (fun _ => 0)))), ((u9 2), .inr (5, [.ref (u9 3)])), ((u9 3), .inl (cI, 30, .inl (zf (fun _ => 0)))), ((u9 4), .inr (5, [.ref (u9 5)])), ((u9 5), .inl (cI, 30, .inl (zf (fun _ => 0)))), ((u9 6), .inr (5, [.ref (u9 7)])), ((u9 7), .inl (cI, 60, .inl (zf (fun _ => 0)))), ((u9 8), .inr (5, [.ref (u9 9)])), ((u9 9), .inl (cI, 60, .inl (zf (fun _ => 0)))), ((u9 10), .inr (5, [.ref (u9 11)])), ((u9 11), .inl (cI, 60, .inl (zf (fun _ => 0)))), ((u9 12), .inr (5, [.ref (u9 13)])), ((u9 13), .inl (cI, 9, .inl (zf (fun _ => 0)))), (q16, .inr (0, [.ref (u20 0), .ref (u20 2), .ref (u20 4), .ref (u20 6), .ref (u20 8), .int (zi 0), .int (zi 0), .int (zi 0)])), ((u20 0), .inr (5, [.ref (u20 1)])), ((u20 1), .inl (cI, 60, .inl (zf (rFill 60 (fun _ => 0) (-1))))), ((u20 2), .inr (5, [.ref (u20 3)])), ((u20 3), .inl (cI, 20, .inl (zf (rFill 20 (fun _ => 0) (-1))))), ((u20 4), .inr (5, [.ref (u20 5)])), ((u20 5), .inl (cI, 20, .inl (zf (fun _ => 0)))), ((u20 6), .inr (5, [.ref (u20 7)])), ((u20 7), .inl (cI, 20, .inl (zf (rFill 20 (fun _ => 0) (-1))))), ((u20 8), .inr (5, [.ref (u20 9)])), ((u20 9), .inl (cI, 20, .inl (zf (fun _ => 0)))), (q27, .inr (2, [.ref (u31 0), .int (zi 0)])), ((u31 0), .inr (5, [.ref (u31 1)])), ((u31 1), .inl (cI, 60, .inl (zf (fun _ => 0)))), (q38, .inr (3, [.ref (u42 0), .ref (u42 2), .ref (u42 4)])), ((u42 0), .inr (5, [.ref (u42 1)])), ((u42 1), .inl (cI, 405, .inl (zf (fun _ => 0)))), ((u42 2), .inr (5, [.ref (u42 3)])), ((u42 3), .inl (cI, 405, .inl (zf (fun _ => 0)))), ((u42 4), .inr (5, [.ref (u42 5)])), ((u42 5), .inl (cI, 3600, .inl (zf (fun _ => 0)))), (q49, .inr (4, [.null, .null, .null, .int (zi 0), .int (zi 0)]))] H := hP
  have hD : va_D A [(h0, .inr (7, [.ref q5, .ref q16, .ref q27, .ref q38, .null, .null])), (q5, .inr (6, [.ref (u9 0), .ref (u9 2), .ref (u9 4), .ref (u9 6), .ref (u9 8), .ref (u9 10), .ref (u9 12), .int (zi 0), .int (zi 0), .int (zi 0)])), ((u9 0), .inr (5, [.ref (u9 1)])), ((u9 1), .inl (cI, 6, .inl (zf (fun _ => 0)))), ((u9 2), .inr (5, [.ref (u9 3)])), ((u9 3), .inl (cI, 30, .inl (zf (fun _ => 0)))), ((u9 4), .inr (5, [.ref (u9 5)])), ((u9 5), .inl (cI, 30, .inl (zf (fun _ => 0)))), ((u9 6), .inr (5, [.ref (u9 7)])), ((u9 7), .inl (cI, 60, .inl (zf (fun _ => 0)))), ((u9 8), .inr (5, [.ref (u9 9)])), ((u9 9), .inl (cI, 60, .inl (zf (fun _ => 0)))), ((u9 10), .inr (5, [.ref (u9 11)])), ((u9 11), .inl (cI, 60, .inl (zf (fun _ => 0)))), ((u9 12), .inr (5, [.ref (u9 13)])), ((u9 13), .inl (cI, 9, .inl (zf (fun _ => 0)))), (q16, .inr (0, [.ref (u20 0), .ref (u20 2), .ref (u20 4), .ref (u20 6), .ref (u20 8), .int (zi 0), .int (zi 0), .int (zi 0)])), ((u20 0), .inr (5, [.ref (u20 1)])), ((u20 1), .inl (cI, 60, .inl (zf (rFill 60 (fun _ => 0) (-1))))), ((u20 2), .inr (5, [.ref (u20 3)])), ((u20 3), .inl (cI, 20, .inl (zf (rFill 20 (fun _ => 0) (-1))))), ((u20 4), .inr (5, [.ref (u20 5)])), ((u20 5), .inl (cI, 20, .inl (zf (fun _ => 0)))), ((u20 6), .inr (5, [.ref (u20 7)])), ((u20 7), .inl (cI, 20, .inl (zf (rFill 20 (fun _ => 0) (-1))))), ((u20 8), .inr (5, [.ref (u20 9)])), ((u20 9), .inl (cI, 20, .inl (zf (fun _ => 0)))), (q27, .inr (2, [.ref (u31 0), .int (zi 0)])), ((u31 0), .inr (5, [.ref (u31 1)])), ((u31 1), .inl (cI, 60, .inl (zf (fun _ => 0)))), (q38, .inr (3, [.ref (u42 0), .ref (u42 2), .ref (u42 4)])), ((u42 0), .inr (5, [.ref (u42 1)])), ((u42 1), .inl (cI, 405, .inl (zf (fun _ => 0)))), ((u42 2), .inr (5, [.ref (u42 3)])), ((u42 3), .inl (cI, 405, .inl (zf (fun _ => 0)))), ((u42 4), .inr (5, [.ref (u42 5)])), ((u42 5), .inl (cI, 3600, .inl (zf (fun _ => 0)))), (q49, .inr (4, [.null, .null, .null, .int (zi 0), .int (zi 0)]))] := hD
  refine lv_dup hx hb dX7_init_52 rfl ?_
  have hPc := hP.sub (ws' := [(q49, .inr (4, [.null, .null, .null, .int (zi 0), .int (zi 0)]))]) [37] rfl
  have hDc := hD.sub (ws' := [(q49, .inr (4, [.null, .null, .null, .int (zi 0), .int (zi 0)]))]) [37] (by decide) rfl
  have hFc := va_free (wc := [(q49, .inr (4, [.null, .null, .null, .int (zi 0), .int (zi 0)]))]) hD hS hA [37] rfl
  refine va_callv (va_runIN (As := []) (rest := [.ref q49, .ref h0]) ⟨hx, hb, hml, hown, hts⟩ (ct_X4_init l D cI cZ cJ q49 H.size) ⟨va_cnB 0 hts gX7_init_X4_init_n39 rfl rfl rfl (hK.2 _ (List.mem_of_getElem? (i := 11) rfl)) (hts _ iniX4_init_X7_init) (by decide +kernel) ⟨Nat.le_of_ble_eq_true rfl, Nat.le_of_ble_eq_true rfl⟩, rfl, (hts _ inmX4_init_X7_init)⟩ ⟨fun a U g mk q => by obtain ⟨q0, q1, qP, qK, qD⟩ := q; exact ⟨q0, q1, qP, KK.same (u := U) (U := U.calling g mk a) rfl qK, qD⟩, fun U hU hW => ⟨rfl, by rw [hU], by rw [hU]; exact hPc, KK.warm hW hK, hDc.weaken (fun _ _ _ _ => trivial)⟩⟩ rfl rfl hl.1 rfl (lv_room (Nat.le_of_ble_eq_true rfl)) dX7_init_53 ⟨Nat.le_of_ble_eq_true rfl, Nat.le_of_ble_eq_true rfl⟩) hS (fun q _ h => hFc q h) hFc (fun u53 t H1 locs ht hvm hw hB hz1 hk1 hS => ?_)
  obtain ⟨hP1, hD1⟩ := hB
  rw [ht] at hP1
  obtain ⟨hP, hD⟩ := va_join (wr := [(h0, .inr (7, [.ref q5, .ref q16, .ref q27, .ref q38, .null, .null])), (q5, .inr (6, [.ref (u9 0), .ref (u9 2), .ref (u9 4), .ref (u9 6), .ref (u9 8), .ref (u9 10), .ref (u9 12), .int (zi 0), .int (zi 0), .int (zi 0)])), ((u9 0), .inr (5, [.ref (u9 1)])), ((u9 1), .inl (cI, 6, .inl (zf (fun _ => 0)))), ((u9 2), .inr (5, [.ref (u9 3)])), ((u9 3), .inl (cI, 30, .inl (zf (fun _ => 0)))), ((u9 4), .inr (5, [.ref (u9 5)])), ((u9 5), .inl (cI, 30, .inl (zf (fun _ => 0)))), ((u9 6), .inr (5, [.ref (u9 7)])), ((u9 7), .inl (cI, 60, .inl (zf (fun _ => 0)))), ((u9 8), .inr (5, [.ref (u9 9)])), ((u9 9), .inl (cI, 60, .inl (zf (fun _ => 0)))), ((u9 10), .inr (5, [.ref (u9 11)])), ((u9 11), .inl (cI, 60, .inl (zf (fun _ => 0)))), ((u9 12), .inr (5, [.ref (u9 13)])), ((u9 13), .inl (cI, 9, .inl (zf (fun _ => 0)))), (q16, .inr (0, [.ref (u20 0), .ref (u20 2), .ref (u20 4), .ref (u20 6), .ref (u20 8), .int (zi 0), .int (zi 0), .int (zi 0)])), ((u20 0), .inr (5, [.ref (u20 1)])), ((u20 1), .inl (cI, 60, .inl (zf (rFill 60 (fun _ => 0) (-1))))), ((u20 2), .inr (5, [.ref (u20 3)])), ((u20 3), .inl (cI, 20, .inl (zf (rFill 20 (fun _ => 0) (-1))))), ((u20 4), .inr (5, [.ref (u20 5)])), ((u20 5), .inl (cI, 20, .inl (zf (fun _ => 0)))), ((u20 6), .inr (5, [.ref (u20 7)])), ((u20 7), .inl (cI, 20, .inl (zf (rFill 20 (fun _ => 0) (-1))))), ((u20 8), .inr (5, [.ref (u20 9)])), ((u20 9), .inl (cI, 20, .inl (zf (fun _ => 0)))), (q27, .inr (2, [.ref (u31 0), .int (zi 0)])), ((u31 0), .inr (5, [.ref (u31 1)])), ((u31 1), .inl (cI, 60, .inl (zf (fun _ => 0)))), (q38, .inr (3, [.ref (u42 0), .ref (u42 2), .ref (u42 4)])), ((u42 0), .inr (5, [.ref (u42 1)])), ((u42 1), .inl (cI, 405, .inl (zf (fun _ => 0)))), ((u42 2), .inr (5, [.ref (u42 3)])), ((u42 3), .inl (cI, 405, .inl (zf (fun _ => 0)))), ((u42 4), .inr (5, [.ref (u42 5)])), ((u42 5), .inl (cI, 3600, .inl (zf (fun _ => 0))))]) (w1 := [(q49, .inr (4, [.ref (u53 0), .ref (u53 2), .ref (u53 4), .int (zi 0), .int (zi 0)])), ((u53 0), .inr (5, [.ref (u53 1)])), ((u53 1), .inl (cI, 3600, .inl (zf (fun _ => 0)))), ((u53 2), .inr (5, [.ref (u53 3)])), ((u53 3), .inl (cI, 405, .inl (zf (fun _ => 0)))), ((u53 4), .inr (5, [.ref (u53 5)])), ((u53 5), .inl (cI, 3600, .inl (zf (fun _ => 0))))]) hP hD [37] [0, 1, 2, 3, 4, 5, 6, 7, 8, 9, 10, 11, 12, 13, 14, 15, 16, 17, 18, 19, 20, 21, 22, 23, 24, 25, 26, 27, 28, 29, 30, 31, 32, 33, 34, 35, 36] rfl rfl (by decide) (by decide) hk1 hFc hP1 hD1
  clear hPc hDc hFc hP1 hD1 hz1 hk1 ht hvm hw
  generalize H1 = H at hP hS ⊢
  have hP : va_P D vwCl [(h0, .inr (7, [.ref q5, .ref q16, .ref q27, .ref q38, .null, .null])), (q5, .inr (6, [.ref (u9 0), .ref (u9 2), .ref (u9 4), .ref (u9 6), .ref (u9 8), .ref (u9 10), .ref (u9 12), .int (zi 0), .int (zi 0), .int (zi 0)])), ((u9 0), .inr (5, [.ref (u9 1)])), ((u9 1), .inl (cI, 6, .inl (zf (fun _ => 0)))), ((u9 2), .inr (5, [.ref (u9 3)])), ((u9 3), .inl (cI, 30, .inl (zf (fun _ => 0)))), ((u9 4), .inr (5, [.ref (u9 5)])), ((u9 5), .inl (cI, 30, .inl (zf (fun _ => 0)))), ((u9 6), .inr (5, [.ref (u9 7)])), ((u9 7), .inl (cI, 60, .inl (zf (fun _ => 0)))), ((u9 8), .inr (5, [.ref (u9 9)])), ((u9 9), .inl (cI, 60, .inl (zf (fun _ => 0)))), ((u9 10), .inr (5, [.ref (u9 11)])), ((u9 11), .inl (cI, 60, .inl (zf (fun _ => 0)))), ((u9 12), .inr (5, [.ref (u9 13)])), ((u9 13), .inl (cI, 9, .inl (zf (fun _ => 0)))), (q16, .inr (0, [.ref (u20 0), .ref (u20 2), .ref (u20 4), .ref (u20 6), .ref (u20 8), .int (zi 0), .int (zi 0), .int (zi 0)])), ((u20 0), .inr (5, [.ref (u20 1)])), ((u20 1), .inl (cI, 60, .inl (zf (rFill 60 (fun _ => 0) (-1))))), ((u20 2), .inr (5, [.ref (u20 3)])), ((u20 3), .inl (cI, 20, .inl (zf (rFill 20 (fun _ => 0) (-1))))), ((u20 4), .inr (5, [.ref (u20 5)])), ((u20 5), .inl (cI, 20, .inl (zf (fun _ => 0)))), ((u20 6), .inr (5, [.ref (u20 7)])), ((u20 7), .inl (cI, 20, .inl (zf (rFill 20 (fun _ => 0) (-1))))), ((u20 8), .inr (5, [.ref (u20 9)])), ((u20 9), .inl (cI, 20, .inl (zf (fun _ => 0)))), (q27, .inr (2, [.ref (u31 0), .int (zi 0)])), ((u31 0), .inr (5, [.ref (u31 1)])), ((u31 1), .inl (cI, 60, .inl (zf (fun _ => 0)))), (q38, .inr (3, [.ref (u42 0), .ref (u42 2), .ref (u42 4)])), ((u42 0), .inr (5, [.ref (u42 1)])), ((u42 1), .inl (cI, 405, .inl (zf (fun _ => 0)))), ((u42 2), .inr (5, [.ref (u42 3)])), ((u42 3), .inl (cI, 405, .inl (zf (fun _ => 0)))), ((u42 4), .inr (5, [.ref (u42 5)])), ((u42 5), .inl (cI, 3600, .inl (zf (fun _ => 0)))), (q49, .inr (4, [.ref (u53 0), .ref (u53 2), .ref (u53 4), .int (zi 0), .int (zi 0)])), ((u53 0), .inr (5, [.ref (u53 1)])), ((u53 1), .inl (cI, 3600, .inl (zf (fun _ => 0)))), ((u53 2), .inr (5, [.ref (u53 3)])), ((u53 3), .inl (cI, 405, .inl (zf (fun _ => 0)))), ((u53 4), .inr (5, [.ref (u53 5)])), ((u53 5), .inl (cI, 3600, .inl (zf (fun _ => 0))))] H := hP
  have hD : va_D A [(h0, .inr (7, [.ref q5, .ref q16, .ref q27, .ref q38, .null, .null])), (q5, .inr (6, [.ref (u9 0), .ref (u9 2), .ref (u9 4), .ref (u9 6), .ref (u9 8), .ref (u9 10), .ref (u9 12), .int (zi 0), .int (zi 0), .int (zi 0)])), ((u9 0), .inr (5, [.ref (u9 1)])), ((u9 1), .inl (cI, 6, .inl (zf (fun _ => 0)))), ((u9 2), .inr (5, [.ref (u9 3)])), ((u9 3), .inl (cI, 30, .inl (zf (fun _ => 0)))), ((u9 4), .inr (5, [.ref (u9 5)])), ((u9 5), .inl (cI, 30, .inl (zf (fun _ => 0)))), ((u9 6), .inr (5, [.ref (u9 7)])), ((u9 7), .inl (cI, 60, .inl (zf (fun _ => 0)))), ((u9 8), .inr (5, [.ref (u9 9)])), ((u9 9), .inl (cI, 60, .inl (zf (fun _ => 0)))), ((u9 10), .inr (5, [.ref (u9 11)])), ((u9 11), .inl (cI, 60, .inl (zf (fun _ => 0)))), ((u9 12), .inr (5, [.ref (u9 13)])), ((u9 13), .inl (cI, 9, .inl (zf (fun _ => 0)))), (q16, .inr (0, [.ref (u20 0), .ref (u20 2), .ref (u20 4), .ref (u20 6), .ref (u20 8), .int (zi 0), .int (zi 0), .int (zi 0)])), ((u20 0), .inr (5, [.ref (u20 1)])), ((u20 1), .inl (cI, 60, .inl (zf (rFill 60 (fun _ => 0) (-1))))), ((u20 2), .inr (5, [.ref (u20 3)])), ((u20 3), .inl (cI, 20, .inl (zf (rFill 20 (fun _ => 0) (-1))))), ((u20 4), .inr (5, [.ref (u20 5)])), ((u20 5), .inl (cI, 20, .inl (zf (fun _ => 0)))), ((u20 6), .inr (5, [.ref (u20 7)])), ((u20 7), .inl (cI, 20, .inl (zf (rFill 20 (fun _ => 0) (-1))))), ((u20 8), .inr (5, [.ref (u20 9)])), ((u20 9), .inl (cI, 20, .inl (zf (fun _ => 0)))), (q27, .inr (2, [.ref (u31 0), .int (zi 0)])), ((u31 0), .inr (5, [.ref (u31 1)])), ((u31 1), .inl (cI, 60, .inl (zf (fun _ => 0)))), (q38, .inr (3, [.ref (u42 0), .ref (u42 2), .ref (u42 4)])), ((u42 0), .inr (5, [.ref (u42 1)])), ((u42 1), .inl (cI, 405, .inl (zf (fun _ => 0)))), ((u42 2), .inr (5, [.ref (u42 3)])), ((u42 3), .inl (cI, 405, .inl (zf (fun _ => 0)))), ((u42 4), .inr (5, [.ref (u42 5)])), ((u42 5), .inl (cI, 3600, .inl (zf (fun _ => 0)))), (q49, .inr (4, [.ref (u53 0), .ref (u53 2), .ref (u53 4), .int (zi 0), .int (zi 0)])), ((u53 0), .inr (5, [.ref (u53 1)])), ((u53 1), .inl (cI, 3600, .inl (zf (fun _ => 0)))), ((u53 2), .inr (5, [.ref (u53 3)])), ((u53 3), .inl (cI, 405, .inl (zf (fun _ => 0)))), ((u53 4), .inr (5, [.ref (u53 5)])), ((u53 5), .inl (cI, 3600, .inl (zf (fun _ => 0))))] := hD
  refine va_putF (D := D) (ci := 7) (v := .ref q49) (ty := (.object "PlanetoidDesk$Paths")) (C := RX7) (T := TX7) (N := 6) hx hb hts ic_X7_init_7 tyX7 tyX7_ok nmX7 hown hK.1 hP hD hS 0 rfl rfl 4 (by decide) (hts _ lk4_X7_init) (fun _ h9 => h9) rfl hin rfl (by decide +kernel) rfl rfl (Nat.le_of_ble_eq_true rfl) dX7_init_56 (fun H locs hP hD hS => ?_)
  have hP : va_P D vwCl [(h0, .inr (7, [.ref q5, .ref q16, .ref q27, .ref q38, .ref q49, .null])), (q5, .inr (6, [.ref (u9 0), .ref (u9 2), .ref (u9 4), .ref (u9 6), .ref (u9 8), .ref (u9 10), .ref (u9 12), .int (zi 0), .int (zi 0), .int (zi 0)])), ((u9 0), .inr (5, [.ref (u9 1)])), ((u9 1), .inl (cI, 6, .inl (zf (fun _ => 0)))), ((u9 2), .inr (5, [.ref (u9 3)])), ((u9 3), .inl (cI, 30, .inl (zf (fun _ => 0)))), ((u9 4), .inr (5, [.ref (u9 5)])), ((u9 5), .inl (cI, 30, .inl (zf (fun _ => 0)))), ((u9 6), .inr (5, [.ref (u9 7)])), ((u9 7), .inl (cI, 60, .inl (zf (fun _ => 0)))), ((u9 8), .inr (5, [.ref (u9 9)])), ((u9 9), .inl (cI, 60, .inl (zf (fun _ => 0)))), ((u9 10), .inr (5, [.ref (u9 11)])), ((u9 11), .inl (cI, 60, .inl (zf (fun _ => 0)))), ((u9 12), .inr (5, [.ref (u9 13)])), ((u9 13), .inl (cI, 9, .inl (zf (fun _ => 0)))), (q16, .inr (0, [.ref (u20 0), .ref (u20 2), .ref (u20 4), .ref (u20 6), .ref (u20 8), .int (zi 0), .int (zi 0), .int (zi 0)])), ((u20 0), .inr (5, [.ref (u20 1)])), ((u20 1), .inl (cI, 60, .inl (zf (rFill 60 (fun _ => 0) (-1))))), ((u20 2), .inr (5, [.ref (u20 3)])), ((u20 3), .inl (cI, 20, .inl (zf (rFill 20 (fun _ => 0) (-1))))), ((u20 4), .inr (5, [.ref (u20 5)])), ((u20 5), .inl (cI, 20, .inl (zf (fun _ => 0)))), ((u20 6), .inr (5, [.ref (u20 7)])), ((u20 7), .inl (cI, 20, .inl (zf (rFill 20 (fun _ => 0) (-1))))), ((u20 8), .inr (5, [.ref (u20 9)])), ((u20 9), .inl (cI, 20, .inl (zf (fun _ => 0)))), (q27, .inr (2, [.ref (u31 0), .int (zi 0)])), ((u31 0), .inr (5, [.ref (u31 1)])), ((u31 1), .inl (cI, 60, .inl (zf (fun _ => 0)))), (q38, .inr (3, [.ref (u42 0), .ref (u42 2), .ref (u42 4)])), ((u42 0), .inr (5, [.ref (u42 1)])), ((u42 1), .inl (cI, 405, .inl (zf (fun _ => 0)))), ((u42 2), .inr (5, [.ref (u42 3)])), ((u42 3), .inl (cI, 405, .inl (zf (fun _ => 0)))), ((u42 4), .inr (5, [.ref (u42 5)])), ((u42 5), .inl (cI, 3600, .inl (zf (fun _ => 0)))), (q49, .inr (4, [.ref (u53 0), .ref (u53 2), .ref (u53 4), .int (zi 0), .int (zi 0)])), ((u53 0), .inr (5, [.ref (u53 1)])), ((u53 1), .inl (cI, 3600, .inl (zf (fun _ => 0)))), ((u53 2), .inr (5, [.ref (u53 3)])), ((u53 3), .inl (cI, 405, .inl (zf (fun _ => 0)))), ((u53 4), .inr (5, [.ref (u53 5)])), ((u53 5), .inl (cI, 3600, .inl (zf (fun _ => 0))))] H := hP
  have hD : va_D A [(h0, .inr (7, [.ref q5, .ref q16, .ref q27, .ref q38, .ref q49, .null])), (q5, .inr (6, [.ref (u9 0), .ref (u9 2), .ref (u9 4), .ref (u9 6), .ref (u9 8), .ref (u9 10), .ref (u9 12), .int (zi 0), .int (zi 0), .int (zi 0)])), ((u9 0), .inr (5, [.ref (u9 1)])), ((u9 1), .inl (cI, 6, .inl (zf (fun _ => 0)))), ((u9 2), .inr (5, [.ref (u9 3)])), ((u9 3), .inl (cI, 30, .inl (zf (fun _ => 0)))), ((u9 4), .inr (5, [.ref (u9 5)])), ((u9 5), .inl (cI, 30, .inl (zf (fun _ => 0)))), ((u9 6), .inr (5, [.ref (u9 7)])), ((u9 7), .inl (cI, 60, .inl (zf (fun _ => 0)))), ((u9 8), .inr (5, [.ref (u9 9)])), ((u9 9), .inl (cI, 60, .inl (zf (fun _ => 0)))), ((u9 10), .inr (5, [.ref (u9 11)])), ((u9 11), .inl (cI, 60, .inl (zf (fun _ => 0)))), ((u9 12), .inr (5, [.ref (u9 13)])), ((u9 13), .inl (cI, 9, .inl (zf (fun _ => 0)))), (q16, .inr (0, [.ref (u20 0), .ref (u20 2), .ref (u20 4), .ref (u20 6), .ref (u20 8), .int (zi 0), .int (zi 0), .int (zi 0)])), ((u20 0), .inr (5, [.ref (u20 1)])), ((u20 1), .inl (cI, 60, .inl (zf (rFill 60 (fun _ => 0) (-1))))), ((u20 2), .inr (5, [.ref (u20 3)])), ((u20 3), .inl (cI, 20, .inl (zf (rFill 20 (fun _ => 0) (-1))))), ((u20 4), .inr (5, [.ref (u20 5)])), ((u20 5), .inl (cI, 20, .inl (zf (fun _ => 0)))), ((u20 6), .inr (5, [.ref (u20 7)])), ((u20 7), .inl (cI, 20, .inl (zf (rFill 20 (fun _ => 0) (-1))))), ((u20 8), .inr (5, [.ref (u20 9)])), ((u20 9), .inl (cI, 20, .inl (zf (fun _ => 0)))), (q27, .inr (2, [.ref (u31 0), .int (zi 0)])), ((u31 0), .inr (5, [.ref (u31 1)])), ((u31 1), .inl (cI, 60, .inl (zf (fun _ => 0)))), (q38, .inr (3, [.ref (u42 0), .ref (u42 2), .ref (u42 4)])), ((u42 0), .inr (5, [.ref (u42 1)])), ((u42 1), .inl (cI, 405, .inl (zf (fun _ => 0)))), ((u42 2), .inr (5, [.ref (u42 3)])), ((u42 3), .inl (cI, 405, .inl (zf (fun _ => 0)))), ((u42 4), .inr (5, [.ref (u42 5)])), ((u42 5), .inl (cI, 3600, .inl (zf (fun _ => 0)))), (q49, .inr (4, [.ref (u53 0), .ref (u53 2), .ref (u53 4), .int (zi 0), .int (zi 0)])), ((u53 0), .inr (5, [.ref (u53 1)])), ((u53 1), .inl (cI, 3600, .inl (zf (fun _ => 0)))), ((u53 2), .inr (5, [.ref (u53 3)])), ((u53 3), .inl (cI, 405, .inl (zf (fun _ => 0)))), ((u53 4), .inr (5, [.ref (u53 5)])), ((u53 5), .inl (cI, 3600, .inl (zf (fun _ => 0))))] := hD
  refine lv_aload_n hx hb dX7_init_59 rfl (lv_at hl 0 rfl) ?_
  refine va_new (ci := 1) (fs := [.null]) (C := RX1) (T := TX1) (N := 1) hx hb hts ic_X7_init_1 tyX1 tyX1_ok hown (hts _ cl1_X7_init) (hts _ ins1_X7_init) (hts _ ini1_X7_init) hK.1 hP hD hS hA rfl (fun j hj => by rcases (show j = 0 by omega) with rfl <;> rfl) (Nat.le_of_ble_eq_true rfl) (Nat.le_of_ble_eq_true rfl) dX7_init_60 (fun q60 H hP hD hS => ?_)
  have hP : va_P D vwCl [(h0, .inr (7, [.ref q5, .ref q16, .ref q27, .ref q38, .ref q49, .null])), (q5, .inr (6, [.ref (u9 0), .ref (u9 2), .ref (u9 4), .ref (u9 6), .ref (u9 8), .ref (u9 10), .ref (u9 12), .int (zi 0), .int (zi 0), .int (zi 0)])), ((u9 0), .inr (5, [.ref (u9 1)])), ((u9 1), .inl (cI, 6, .inl (zf (fun _ => 0)))), ((u9 2), .inr (5, [.ref (u9 3)])), ((u9 3), .inl (cI, 30, .inl (zf (fun _ => 0)))), ((u9 4), .inr (5, [.ref (u9 5)])), ((u9 5), .inl (cI, 30, .inl (zf (fun _ => 0)))), ((u9 6), .inr (5, [.ref (u9 7)])), ((u9 7), .inl (cI, 60, .inl (zf (fun _ => 0)))), ((u9 8), .inr (5, [.ref (u9 9)])), ((u9 9), .inl (cI, 60, .inl (zf (fun _ => 0)))), ((u9 10), .inr (5, [.ref (u9 11)])), ((u9 11), .inl (cI, 60, .inl (zf (fun _ => 0)))), ((u9 12), .inr (5, [.ref (u9 13)])), ((u9 13), .inl (cI, 9, .inl (zf (fun _ => 0)))), (q16, .inr (0, [.ref (u20 0), .ref (u20 2), .ref (u20 4), .ref (u20 6), .ref (u20 8), .int (zi 0), .int (zi 0), .int (zi 0)])), ((u20 0), .inr (5, [.ref (u20 1)])), ((u20 1), .inl (cI, 60, .inl (zf (rFill 60 (fun _ => 0) (-1))))), ((u20 2), .inr (5, [.ref (u20 3)])), ((u20 3), .inl (cI, 20, .inl (zf (rFill 20 (fun _ => 0) (-1))))), ((u20 4), .inr (5, [.ref (u20 5)])), ((u20 5), .inl (cI, 20, .inl (zf (fun _ => 0)))), ((u20 6), .inr (5, [.ref (u20 7)])), ((u20 7), .inl (cI, 20, .inl (zf (rFill 20 (fun _ => 0) (-1))))), ((u20 8), .inr (5, [.ref (u20 9)])), ((u20 9), .inl (cI, 20, .inl (zf (fun _ => 0)))), (q27, .inr (2, [.ref (u31 0), .int (zi 0)])), ((u31 0), .inr (5, [.ref (u31 1)])), ((u31 1), .inl (cI, 60, .inl (zf (fun _ => 0)))), (q38, .inr (3, [.ref (u42 0), .ref (u42 2), .ref (u42 4)])), ((u42 0), .inr (5, [.ref (u42 1)])), ((u42 1), .inl (cI, 405, .inl (zf (fun _ => 0)))), ((u42 2), .inr (5, [.ref (u42 3)])), ((u42 3), .inl (cI, 405, .inl (zf (fun _ => 0)))), ((u42 4), .inr (5, [.ref (u42 5)])), ((u42 5), .inl (cI, 3600, .inl (zf (fun _ => 0)))), (q49, .inr (4, [.ref (u53 0), .ref (u53 2), .ref (u53 4), .int (zi 0), .int (zi 0)])), ((u53 0), .inr (5, [.ref (u53 1)])), ((u53 1), .inl (cI, 3600, .inl (zf (fun _ => 0)))), ((u53 2), .inr (5, [.ref (u53 3)])), ((u53 3), .inl (cI, 405, .inl (zf (fun _ => 0)))), ((u53 4), .inr (5, [.ref (u53 5)])), ((u53 5), .inl (cI, 3600, .inl (zf (fun _ => 0)))), (q60, .inr (1, [.null]))] H := hP
  have hD : va_D A [(h0, .inr (7, [.ref q5, .ref q16, .ref q27, .ref q38, .ref q49, .null])), (q5, .inr (6, [.ref (u9 0), .ref (u9 2), .ref (u9 4), .ref (u9 6), .ref (u9 8), .ref (u9 10), .ref (u9 12), .int (zi 0), .int (zi 0), .int (zi 0)])), ((u9 0), .inr (5, [.ref (u9 1)])), ((u9 1), .inl (cI, 6, .inl (zf (fun _ => 0)))), ((u9 2), .inr (5, [.ref (u9 3)])), ((u9 3), .inl (cI, 30, .inl (zf (fun _ => 0)))), ((u9 4), .inr (5, [.ref (u9 5)])), ((u9 5), .inl (cI, 30, .inl (zf (fun _ => 0)))), ((u9 6), .inr (5, [.ref (u9 7)])), ((u9 7), .inl (cI, 60, .inl (zf (fun _ => 0)))), ((u9 8), .inr (5, [.ref (u9 9)])), ((u9 9), .inl (cI, 60, .inl (zf (fun _ => 0)))), ((u9 10), .inr (5, [.ref (u9 11)])), ((u9 11), .inl (cI, 60, .inl (zf (fun _ => 0)))), ((u9 12), .inr (5, [.ref (u9 13)])), ((u9 13), .inl (cI, 9, .inl (zf (fun _ => 0)))), (q16, .inr (0, [.ref (u20 0), .ref (u20 2), .ref (u20 4), .ref (u20 6), .ref (u20 8), .int (zi 0), .int (zi 0), .int (zi 0)])), ((u20 0), .inr (5, [.ref (u20 1)])), ((u20 1), .inl (cI, 60, .inl (zf (rFill 60 (fun _ => 0) (-1))))), ((u20 2), .inr (5, [.ref (u20 3)])), ((u20 3), .inl (cI, 20, .inl (zf (rFill 20 (fun _ => 0) (-1))))), ((u20 4), .inr (5, [.ref (u20 5)])), ((u20 5), .inl (cI, 20, .inl (zf (fun _ => 0)))), ((u20 6), .inr (5, [.ref (u20 7)])), ((u20 7), .inl (cI, 20, .inl (zf (rFill 20 (fun _ => 0) (-1))))), ((u20 8), .inr (5, [.ref (u20 9)])), ((u20 9), .inl (cI, 20, .inl (zf (fun _ => 0)))), (q27, .inr (2, [.ref (u31 0), .int (zi 0)])), ((u31 0), .inr (5, [.ref (u31 1)])), ((u31 1), .inl (cI, 60, .inl (zf (fun _ => 0)))), (q38, .inr (3, [.ref (u42 0), .ref (u42 2), .ref (u42 4)])), ((u42 0), .inr (5, [.ref (u42 1)])), ((u42 1), .inl (cI, 405, .inl (zf (fun _ => 0)))), ((u42 2), .inr (5, [.ref (u42 3)])), ((u42 3), .inl (cI, 405, .inl (zf (fun _ => 0)))), ((u42 4), .inr (5, [.ref (u42 5)])), ((u42 5), .inl (cI, 3600, .inl (zf (fun _ => 0)))), (q49, .inr (4, [.ref (u53 0), .ref (u53 2), .ref (u53 4), .int (zi 0), .int (zi 0)])), ((u53 0), .inr (5, [.ref (u53 1)])), ((u53 1), .inl (cI, 3600, .inl (zf (fun _ => 0)))), ((u53 2), .inr (5, [.ref (u53 3)])), ((u53 3), .inl (cI, 405, .inl (zf (fun _ => 0)))), ((u53 4), .inr (5, [.ref (u53 5)])), ((u53 5), .inl (cI, 3600, .inl (zf (fun _ => 0)))), (q60, .inr (1, [.null]))] := hD
  refine lv_dup hx hb dX7_init_63 rfl ?_
  have hPc := hP.sub (ws' := [(q60, .inr (1, [.null]))]) [44] rfl
  have hDc := hD.sub (ws' := [(q60, .inr (1, [.null]))]) [44] (by decide) rfl
  have hFc := va_free (wc := [(q60, .inr (1, [.null]))]) hD hS hA [44] rfl
  refine va_callv (va_runIN (As := []) (rest := [.ref q60, .ref h0]) ⟨hx, hb, hml, hown, hts⟩ (ct_X1_init l D cI cZ cJ q60 H.size) ⟨va_cnB 0 hts gX7_init_X1_init_n46 rfl rfl rfl (hK.2 _ (List.mem_of_getElem? (i := 12) rfl)) (hts _ iniX1_init_X7_init) (by decide +kernel) ⟨Nat.le_of_ble_eq_true rfl, Nat.le_of_ble_eq_true rfl⟩, rfl, (hts _ inmX1_init_X7_init)⟩ ⟨fun a U g mk q => by obtain ⟨q0, q1, qP, qK, qD⟩ := q; exact ⟨q0, q1, qP, KK.same (u := U) (U := U.calling g mk a) rfl qK, qD⟩, fun U hU hW => ⟨rfl, by rw [hU], by rw [hU]; exact hPc, KK.warm hW hK, hDc.weaken (fun _ _ _ _ => trivial)⟩⟩ rfl rfl hl.1 rfl (lv_room (Nat.le_of_ble_eq_true rfl)) dX7_init_64 ⟨Nat.le_of_ble_eq_true rfl, Nat.le_of_ble_eq_true rfl⟩) hS (fun q _ h => hFc q h) hFc (fun u64 t H1 locs ht hvm hw hB hz1 hk1 hS => ?_)
  obtain ⟨hP1, hD1⟩ := hB
  rw [ht] at hP1
  obtain ⟨hP, hD⟩ := va_join (wr := [(h0, .inr (7, [.ref q5, .ref q16, .ref q27, .ref q38, .ref q49, .null])), (q5, .inr (6, [.ref (u9 0), .ref (u9 2), .ref (u9 4), .ref (u9 6), .ref (u9 8), .ref (u9 10), .ref (u9 12), .int (zi 0), .int (zi 0), .int (zi 0)])), ((u9 0), .inr (5, [.ref (u9 1)])), ((u9 1), .inl (cI, 6, .inl (zf (fun _ => 0)))), ((u9 2), .inr (5, [.ref (u9 3)])), ((u9 3), .inl (cI, 30, .inl (zf (fun _ => 0)))), ((u9 4), .inr (5, [.ref (u9 5)])), ((u9 5), .inl (cI, 30, .inl (zf (fun _ => 0)))), ((u9 6), .inr (5, [.ref (u9 7)])), ((u9 7), .inl (cI, 60, .inl (zf (fun _ => 0)))), ((u9 8), .inr (5, [.ref (u9 9)])), ((u9 9), .inl (cI, 60, .inl (zf (fun _ => 0)))), ((u9 10), .inr (5, [.ref (u9 11)])), ((u9 11), .inl (cI, 60, .inl (zf (fun _ => 0)))), ((u9 12), .inr (5, [.ref (u9 13)])), ((u9 13), .inl (cI, 9, .inl (zf (fun _ => 0)))), (q16, .inr (0, [.ref (u20 0), .ref (u20 2), .ref (u20 4), .ref (u20 6), .ref (u20 8), .int (zi 0), .int (zi 0), .int (zi 0)])), ((u20 0), .inr (5, [.ref (u20 1)])), ((u20 1), .inl (cI, 60, .inl (zf (rFill 60 (fun _ => 0) (-1))))), ((u20 2), .inr (5, [.ref (u20 3)])), ((u20 3), .inl (cI, 20, .inl (zf (rFill 20 (fun _ => 0) (-1))))), ((u20 4), .inr (5, [.ref (u20 5)])), ((u20 5), .inl (cI, 20, .inl (zf (fun _ => 0)))), ((u20 6), .inr (5, [.ref (u20 7)])), ((u20 7), .inl (cI, 20, .inl (zf (rFill 20 (fun _ => 0) (-1))))), ((u20 8), .inr (5, [.ref (u20 9)])), ((u20 9), .inl (cI, 20, .inl (zf (fun _ => 0)))), (q27, .inr (2, [.ref (u31 0), .int (zi 0)])), ((u31 0), .inr (5, [.ref (u31 1)])), ((u31 1), .inl (cI, 60, .inl (zf (fun _ => 0)))), (q38, .inr (3, [.ref (u42 0), .ref (u42 2), .ref (u42 4)])), ((u42 0), .inr (5, [.ref (u42 1)])), ((u42 1), .inl (cI, 405, .inl (zf (fun _ => 0)))), ((u42 2), .inr (5, [.ref (u42 3)])), ((u42 3), .inl (cI, 405, .inl (zf (fun _ => 0)))), ((u42 4), .inr (5, [.ref (u42 5)])), ((u42 5), .inl (cI, 3600, .inl (zf (fun _ => 0)))), (q49, .inr (4, [.ref (u53 0), .ref (u53 2), .ref (u53 4), .int (zi 0), .int (zi 0)])), ((u53 0), .inr (5, [.ref (u53 1)])), ((u53 1), .inl (cI, 3600, .inl (zf (fun _ => 0)))), ((u53 2), .inr (5, [.ref (u53 3)])), ((u53 3), .inl (cI, 405, .inl (zf (fun _ => 0)))), ((u53 4), .inr (5, [.ref (u53 5)])), ((u53 5), .inl (cI, 3600, .inl (zf (fun _ => 0))))]) (w1 := [(q60, .inr (1, [.ref (u64 0)])), ((u64 0), .inr (5, [.ref (u64 1)])), ((u64 1), .inl (cI, 20, .inl (zf (fun _ => 0))))]) hP hD [44] [0, 1, 2, 3, 4, 5, 6, 7, 8, 9, 10, 11, 12, 13, 14, 15, 16, 17, 18, 19, 20, 21, 22, 23, 24, 25, 26, 27, 28, 29, 30, 31, 32, 33, 34, 35, 36, 37, 38, 39, 40, 41, 42, 43] rfl rfl (by decide) (by decide) hk1 hFc hP1 hD1
  clear hPc hDc hFc hP1 hD1 hz1 hk1 ht hvm hw
  generalize H1 = H at hP hS ⊢
  have hP : va_P D vwCl [(h0, .inr (7, [.ref q5, .ref q16, .ref q27, .ref q38, .ref q49, .null])), (q5, .inr (6, [.ref (u9 0), .ref (u9 2), .ref (u9 4), .ref (u9 6), .ref (u9 8), .ref (u9 10), .ref (u9 12), .int (zi 0), .int (zi 0), .int (zi 0)])), ((u9 0), .inr (5, [.ref (u9 1)])), ((u9 1), .inl (cI, 6, .inl (zf (fun _ => 0)))), ((u9 2), .inr (5, [.ref (u9 3)])), ((u9 3), .inl (cI, 30, .inl (zf (fun _ => 0)))), ((u9 4), .inr (5, [.ref (u9 5)])), ((u9 5), .inl (cI, 30, .inl (zf (fun _ => 0)))), ((u9 6), .inr (5, [.ref (u9 7)])), ((u9 7), .inl (cI, 60, .inl (zf (fun _ => 0)))), ((u9 8), .inr (5, [.ref (u9 9)])), ((u9 9), .inl (cI, 60, .inl (zf (fun _ => 0)))), ((u9 10), .inr (5, [.ref (u9 11)])), ((u9 11), .inl (cI, 60, .inl (zf (fun _ => 0)))), ((u9 12), .inr (5, [.ref (u9 13)])), ((u9 13), .inl (cI, 9, .inl (zf (fun _ => 0)))), (q16, .inr (0, [.ref (u20 0), .ref (u20 2), .ref (u20 4), .ref (u20 6), .ref (u20 8), .int (zi 0), .int (zi 0), .int (zi 0)])), ((u20 0), .inr (5, [.ref (u20 1)])), ((u20 1), .inl (cI, 60, .inl (zf (rFill 60 (fun _ => 0) (-1))))), ((u20 2), .inr (5, [.ref (u20 3)])), ((u20 3), .inl (cI, 20, .inl (zf (rFill 20 (fun _ => 0) (-1))))), ((u20 4), .inr (5, [.ref (u20 5)])), ((u20 5), .inl (cI, 20, .inl (zf (fun _ => 0)))), ((u20 6), .inr (5, [.ref (u20 7)])), ((u20 7), .inl (cI, 20, .inl (zf (rFill 20 (fun _ => 0) (-1))))), ((u20 8), .inr (5, [.ref (u20 9)])), ((u20 9), .inl (cI, 20, .inl (zf (fun _ => 0)))), (q27, .inr (2, [.ref (u31 0), .int (zi 0)])), ((u31 0), .inr (5, [.ref (u31 1)])), ((u31 1), .inl (cI, 60, .inl (zf (fun _ => 0)))), (q38, .inr (3, [.ref (u42 0), .ref (u42 2), .ref (u42 4)])), ((u42 0), .inr (5, [.ref (u42 1)])), ((u42 1), .inl (cI, 405, .inl (zf (fun _ => 0)))), ((u42 2), .inr (5, [.ref (u42 3)])), ((u42 3), .inl (cI, 405, .inl (zf (fun _ => 0)))), ((u42 4), .inr (5, [.ref (u42 5)])), ((u42 5), .inl (cI, 3600, .inl (zf (fun _ => 0)))), (q49, .inr (4, [.ref (u53 0), .ref (u53 2), .ref (u53 4), .int (zi 0), .int (zi 0)])), ((u53 0), .inr (5, [.ref (u53 1)])), ((u53 1), .inl (cI, 3600, .inl (zf (fun _ => 0)))), ((u53 2), .inr (5, [.ref (u53 3)])), ((u53 3), .inl (cI, 405, .inl (zf (fun _ => 0)))), ((u53 4), .inr (5, [.ref (u53 5)])), ((u53 5), .inl (cI, 3600, .inl (zf (fun _ => 0)))), (q60, .inr (1, [.ref (u64 0)])), ((u64 0), .inr (5, [.ref (u64 1)])), ((u64 1), .inl (cI, 20, .inl (zf (fun _ => 0))))] H := hP
  have hD : va_D A [(h0, .inr (7, [.ref q5, .ref q16, .ref q27, .ref q38, .ref q49, .null])), (q5, .inr (6, [.ref (u9 0), .ref (u9 2), .ref (u9 4), .ref (u9 6), .ref (u9 8), .ref (u9 10), .ref (u9 12), .int (zi 0), .int (zi 0), .int (zi 0)])), ((u9 0), .inr (5, [.ref (u9 1)])), ((u9 1), .inl (cI, 6, .inl (zf (fun _ => 0)))), ((u9 2), .inr (5, [.ref (u9 3)])), ((u9 3), .inl (cI, 30, .inl (zf (fun _ => 0)))), ((u9 4), .inr (5, [.ref (u9 5)])), ((u9 5), .inl (cI, 30, .inl (zf (fun _ => 0)))), ((u9 6), .inr (5, [.ref (u9 7)])), ((u9 7), .inl (cI, 60, .inl (zf (fun _ => 0)))), ((u9 8), .inr (5, [.ref (u9 9)])), ((u9 9), .inl (cI, 60, .inl (zf (fun _ => 0)))), ((u9 10), .inr (5, [.ref (u9 11)])), ((u9 11), .inl (cI, 60, .inl (zf (fun _ => 0)))), ((u9 12), .inr (5, [.ref (u9 13)])), ((u9 13), .inl (cI, 9, .inl (zf (fun _ => 0)))), (q16, .inr (0, [.ref (u20 0), .ref (u20 2), .ref (u20 4), .ref (u20 6), .ref (u20 8), .int (zi 0), .int (zi 0), .int (zi 0)])), ((u20 0), .inr (5, [.ref (u20 1)])), ((u20 1), .inl (cI, 60, .inl (zf (rFill 60 (fun _ => 0) (-1))))), ((u20 2), .inr (5, [.ref (u20 3)])), ((u20 3), .inl (cI, 20, .inl (zf (rFill 20 (fun _ => 0) (-1))))), ((u20 4), .inr (5, [.ref (u20 5)])), ((u20 5), .inl (cI, 20, .inl (zf (fun _ => 0)))), ((u20 6), .inr (5, [.ref (u20 7)])), ((u20 7), .inl (cI, 20, .inl (zf (rFill 20 (fun _ => 0) (-1))))), ((u20 8), .inr (5, [.ref (u20 9)])), ((u20 9), .inl (cI, 20, .inl (zf (fun _ => 0)))), (q27, .inr (2, [.ref (u31 0), .int (zi 0)])), ((u31 0), .inr (5, [.ref (u31 1)])), ((u31 1), .inl (cI, 60, .inl (zf (fun _ => 0)))), (q38, .inr (3, [.ref (u42 0), .ref (u42 2), .ref (u42 4)])), ((u42 0), .inr (5, [.ref (u42 1)])), ((u42 1), .inl (cI, 405, .inl (zf (fun _ => 0)))), ((u42 2), .inr (5, [.ref (u42 3)])), ((u42 3), .inl (cI, 405, .inl (zf (fun _ => 0)))), ((u42 4), .inr (5, [.ref (u42 5)])), ((u42 5), .inl (cI, 3600, .inl (zf (fun _ => 0)))), (q49, .inr (4, [.ref (u53 0), .ref (u53 2), .ref (u53 4), .int (zi 0), .int (zi 0)])), ((u53 0), .inr (5, [.ref (u53 1)])), ((u53 1), .inl (cI, 3600, .inl (zf (fun _ => 0)))), ((u53 2), .inr (5, [.ref (u53 3)])), ((u53 3), .inl (cI, 405, .inl (zf (fun _ => 0)))), ((u53 4), .inr (5, [.ref (u53 5)])), ((u53 5), .inl (cI, 3600, .inl (zf (fun _ => 0)))), (q60, .inr (1, [.ref (u64 0)])), ((u64 0), .inr (5, [.ref (u64 1)])), ((u64 1), .inl (cI, 20, .inl (zf (fun _ => 0))))] := hD
  refine va_putF (D := D) (ci := 7) (v := .ref q60) (ty := (.object "PlanetoidDesk$Kinship")) (C := RX7) (T := TX7) (N := 6) hx hb hts ic_X7_init_7 tyX7 tyX7_ok nmX7 hown hK.1 hP hD hS 0 rfl rfl 5 (by decide) (hts _ lk5_X7_init) (fun _ h9 => h9) rfl hin rfl (by decide +kernel) rfl rfl (Nat.le_of_ble_eq_true rfl) dX7_init_67 (fun H locs hP hD hS => ?_)
  have hP : va_P D vwCl [(h0, .inr (7, [.ref q5, .ref q16, .ref q27, .ref q38, .ref q49, .ref q60])), (q5, .inr (6, [.ref (u9 0), .ref (u9 2), .ref (u9 4), .ref (u9 6), .ref (u9 8), .ref (u9 10), .ref (u9 12), .int (zi 0), .int (zi 0), .int (zi 0)])), ((u9 0), .inr (5, [.ref (u9 1)])), ((u9 1), .inl (cI, 6, .inl (zf (fun _ => 0)))), ((u9 2), .inr (5, [.ref (u9 3)])), ((u9 3), .inl (cI, 30, .inl (zf (fun _ => 0)))), ((u9 4), .inr (5, [.ref (u9 5)])), ((u9 5), .inl (cI, 30, .inl (zf (fun _ => 0)))), ((u9 6), .inr (5, [.ref (u9 7)])), ((u9 7), .inl (cI, 60, .inl (zf (fun _ => 0)))), ((u9 8), .inr (5, [.ref (u9 9)])), ((u9 9), .inl (cI, 60, .inl (zf (fun _ => 0)))), ((u9 10), .inr (5, [.ref (u9 11)])), ((u9 11), .inl (cI, 60, .inl (zf (fun _ => 0)))), ((u9 12), .inr (5, [.ref (u9 13)])), ((u9 13), .inl (cI, 9, .inl (zf (fun _ => 0)))), (q16, .inr (0, [.ref (u20 0), .ref (u20 2), .ref (u20 4), .ref (u20 6), .ref (u20 8), .int (zi 0), .int (zi 0), .int (zi 0)])), ((u20 0), .inr (5, [.ref (u20 1)])), ((u20 1), .inl (cI, 60, .inl (zf (rFill 60 (fun _ => 0) (-1))))), ((u20 2), .inr (5, [.ref (u20 3)])), ((u20 3), .inl (cI, 20, .inl (zf (rFill 20 (fun _ => 0) (-1))))), ((u20 4), .inr (5, [.ref (u20 5)])), ((u20 5), .inl (cI, 20, .inl (zf (fun _ => 0)))), ((u20 6), .inr (5, [.ref (u20 7)])), ((u20 7), .inl (cI, 20, .inl (zf (rFill 20 (fun _ => 0) (-1))))), ((u20 8), .inr (5, [.ref (u20 9)])), ((u20 9), .inl (cI, 20, .inl (zf (fun _ => 0)))), (q27, .inr (2, [.ref (u31 0), .int (zi 0)])), ((u31 0), .inr (5, [.ref (u31 1)])), ((u31 1), .inl (cI, 60, .inl (zf (fun _ => 0)))), (q38, .inr (3, [.ref (u42 0), .ref (u42 2), .ref (u42 4)])), ((u42 0), .inr (5, [.ref (u42 1)])), ((u42 1), .inl (cI, 405, .inl (zf (fun _ => 0)))), ((u42 2), .inr (5, [.ref (u42 3)])), ((u42 3), .inl (cI, 405, .inl (zf (fun _ => 0)))), ((u42 4), .inr (5, [.ref (u42 5)])), ((u42 5), .inl (cI, 3600, .inl (zf (fun _ => 0)))), (q49, .inr (4, [.ref (u53 0), .ref (u53 2), .ref (u53 4), .int (zi 0), .int (zi 0)])), ((u53 0), .inr (5, [.ref (u53 1)])), ((u53 1), .inl (cI, 3600, .inl (zf (fun _ => 0)))), ((u53 2), .inr (5, [.ref (u53 3)])), ((u53 3), .inl (cI, 405, .inl (zf (fun _ => 0)))), ((u53 4), .inr (5, [.ref (u53 5)])), ((u53 5), .inl (cI, 3600, .inl (zf (fun _ => 0)))), (q60, .inr (1, [.ref (u64 0)])), ((u64 0), .inr (5, [.ref (u64 1)])), ((u64 1), .inl (cI, 20, .inl (zf (fun _ => 0))))] H := hP
  have hD : va_D A [(h0, .inr (7, [.ref q5, .ref q16, .ref q27, .ref q38, .ref q49, .ref q60])), (q5, .inr (6, [.ref (u9 0), .ref (u9 2), .ref (u9 4), .ref (u9 6), .ref (u9 8), .ref (u9 10), .ref (u9 12), .int (zi 0), .int (zi 0), .int (zi 0)])), ((u9 0), .inr (5, [.ref (u9 1)])), ((u9 1), .inl (cI, 6, .inl (zf (fun _ => 0)))), ((u9 2), .inr (5, [.ref (u9 3)])), ((u9 3), .inl (cI, 30, .inl (zf (fun _ => 0)))), ((u9 4), .inr (5, [.ref (u9 5)])), ((u9 5), .inl (cI, 30, .inl (zf (fun _ => 0)))), ((u9 6), .inr (5, [.ref (u9 7)])), ((u9 7), .inl (cI, 60, .inl (zf (fun _ => 0)))), ((u9 8), .inr (5, [.ref (u9 9)])), ((u9 9), .inl (cI, 60, .inl (zf (fun _ => 0)))), ((u9 10), .inr (5, [.ref (u9 11)])), ((u9 11), .inl (cI, 60, .inl (zf (fun _ => 0)))), ((u9 12), .inr (5, [.ref (u9 13)])), ((u9 13), .inl (cI, 9, .inl (zf (fun _ => 0)))), (q16, .inr (0, [.ref (u20 0), .ref (u20 2), .ref (u20 4), .ref (u20 6), .ref (u20 8), .int (zi 0), .int (zi 0), .int (zi 0)])), ((u20 0), .inr (5, [.ref (u20 1)])), ((u20 1), .inl (cI, 60, .inl (zf (rFill 60 (fun _ => 0) (-1))))), ((u20 2), .inr (5, [.ref (u20 3)])), ((u20 3), .inl (cI, 20, .inl (zf (rFill 20 (fun _ => 0) (-1))))), ((u20 4), .inr (5, [.ref (u20 5)])), ((u20 5), .inl (cI, 20, .inl (zf (fun _ => 0)))), ((u20 6), .inr (5, [.ref (u20 7)])), ((u20 7), .inl (cI, 20, .inl (zf (rFill 20 (fun _ => 0) (-1))))), ((u20 8), .inr (5, [.ref (u20 9)])), ((u20 9), .inl (cI, 20, .inl (zf (fun _ => 0)))), (q27, .inr (2, [.ref (u31 0), .int (zi 0)])), ((u31 0), .inr (5, [.ref (u31 1)])), ((u31 1), .inl (cI, 60, .inl (zf (fun _ => 0)))), (q38, .inr (3, [.ref (u42 0), .ref (u42 2), .ref (u42 4)])), ((u42 0), .inr (5, [.ref (u42 1)])), ((u42 1), .inl (cI, 405, .inl (zf (fun _ => 0)))), ((u42 2), .inr (5, [.ref (u42 3)])), ((u42 3), .inl (cI, 405, .inl (zf (fun _ => 0)))), ((u42 4), .inr (5, [.ref (u42 5)])), ((u42 5), .inl (cI, 3600, .inl (zf (fun _ => 0)))), (q49, .inr (4, [.ref (u53 0), .ref (u53 2), .ref (u53 4), .int (zi 0), .int (zi 0)])), ((u53 0), .inr (5, [.ref (u53 1)])), ((u53 1), .inl (cI, 3600, .inl (zf (fun _ => 0)))), ((u53 2), .inr (5, [.ref (u53 3)])), ((u53 3), .inl (cI, 405, .inl (zf (fun _ => 0)))), ((u53 4), .inr (5, [.ref (u53 5)])), ((u53 5), .inl (cI, 3600, .inl (zf (fun _ => 0)))), (q60, .inr (1, [.ref (u64 0)])), ((u64 0), .inr (5, [.ref (u64 1)])), ((u64 1), .inl (cI, 20, .inl (zf (fun _ => 0))))] := hD
  refine W.widen (k := 46) (n := 12539) (Nat.le_of_ble_eq_true rfl) (Nat.le_of_ble_eq_true rfl) ?_
  exact W.vret hx hb hr (fun t ht hW => ⟨⟨(fun i => [q5, (u9 0), (u9 1), (u9 2), (u9 3), (u9 4), (u9 5), (u9 6), (u9 7), (u9 8), (u9 9), (u9 10), (u9 11), (u9 12), (u9 13), q16, (u20 0), (u20 1), (u20 2), (u20 3), (u20 4), (u20 5), (u20 6), (u20 7), (u20 8), (u20 9), q27, (u31 0), (u31 1), q38, (u42 0), (u42 1), (u42 2), (u42 3), (u42 4), (u42 5), q49, (u53 0), (u53 1), (u53 2), (u53 3), (u53 4), (u53 5), q60, (u64 0), (u64 1)].getD i 0), rfl, trivial, by rw [ht]; exact hP, hD⟩, hS.F ht⟩) hS.2.2 dX7_init_70
end
section
theorem oml_X8_init : Cond.methodLink RX8 1 objectInit ∈ wsX8_init := by decide +kernel
theorem oin_X8_init : Cond.instanceMethod objectInit ∈ wsX8_init := by decide +kernel
theorem oco_X8_init : Cond.code objectInit ⟨#[0xb1]⟩ 1 none ∈ wsX8_init := by decide +kernel
theorem arrint_X8_init : Cond.arrayClass .int ∈ wsX8_init := by decide +kernel
theorem ic_X8_init_8 : ∀ w ∈ wsX80, w ∈ wsX8_init := by decide +kernel
theorem lk0_X8_init : Cond.fieldLink RX8 7 "PlanetoidDeskModel" "shift" "[I" ∈ wsX8_init := by decide +kernel
theorem lk2_X8_init : Cond.fieldLink RX8 13 "PlanetoidDeskModel" "error" "[I" ∈ wsX8_init := by decide +kernel
theorem lk4_X8_init : Cond.fieldLink RX8 16 "PlanetoidDeskModel" "seat" "[I" ∈ wsX8_init := by decide +kernel
theorem lk5_X8_init : Cond.fieldLink RX8 19 "PlanetoidDeskModel" "night" "[I" ∈ wsX8_init := by decide +kernel
theorem lk7_X8_init : Cond.fieldLink RX8 22 "PlanetoidDeskModel" "plateOf" "[I" ∈ wsX8_init := by decide +kernel
theorem lk8_X8_init : Cond.fieldLink RX8 25 "PlanetoidDeskModel" "measured" "[I" ∈ wsX8_init := by decide +kernel
theorem lk9_X8_init : Cond.fieldLink RX8 28 "PlanetoidDeskModel" "light" "[I" ∈ wsX8_init := by decide +kernel
theorem lk10_X8_init : Cond.fieldLink RX8 31 "PlanetoidDeskModel" "own" "[I" ∈ wsX8_init := by decide +kernel
theorem lk12_X8_init : Cond.fieldLink RX8 34 "PlanetoidDeskModel" "above" "[I" ∈ wsX8_init := by decide +kernel
theorem lk13_X8_init : Cond.fieldLink RX8 37 "PlanetoidDeskModel" "joinedAt" "[I" ∈ wsX8_init := by decide +kernel
theorem lk14_X8_init : Cond.fieldLink RX8 40 "PlanetoidDeskModel" "numberOf" "[I" ∈ wsX8_init := by decide +kernel
theorem lk15_X8_init : Cond.fieldLink RX8 43 "PlanetoidDeskModel" "properB" "[I" ∈ wsX8_init := by decide +kernel
theorem lk16_X8_init : Cond.fieldLink RX8 46 "PlanetoidDeskModel" "properC" "[I" ∈ wsX8_init := by decide +kernel
theorem lk20_X8_init : Cond.fieldLink RX8 49 "PlanetoidDeskModel" "look" "[I" ∈ wsX8_init := by decide +kernel
theorem lk22_X8_init : Cond.fieldLink RX8 52 "PlanetoidDeskModel" "key" "[I" ∈ wsX8_init := by decide +kernel
theorem lk23_X8_init : Cond.fieldLink RX8 55 "PlanetoidDeskModel" "often" "[I" ∈ wsX8_init := by decide +kernel
theorem lk24_X8_init : Cond.fieldLink RX8 58 "PlanetoidDeskModel" "head" "[I" ∈ wsX8_init := by decide +kernel
theorem lk25_X8_init : Cond.fieldLink RX8 61 "PlanetoidDeskModel" "next" "[I" ∈ wsX8_init := by decide +kernel
theorem lk26_X8_init : Cond.fieldLink RX8 64 "PlanetoidDeskModel" "way" "[I" ∈ wsX8_init := by decide +kernel
theorem arrboolean_X8_init : Cond.arrayClass .boolean ∈ wsX8_init := by decide +kernel
theorem lk27_X8_init : Cond.fieldLink RX8 67 "PlanetoidDeskModel" "comes" "[Z" ∈ wsX8_init := by decide +kernel
theorem lk28_X8_init : Cond.fieldLink RX8 71 "PlanetoidDeskModel" "least" "[I" ∈ wsX8_init := by decide +kernel
theorem lk29_X8_init : Cond.fieldLink RX8 74 "PlanetoidDeskModel" "most" "[I" ∈ wsX8_init := by decide +kernel
theorem lk30_X8_init : Cond.fieldLink RX8 77 "PlanetoidDeskModel" "reached" "[I" ∈ wsX8_init := by decide +kernel
set_option maxHeartbeats 4000000 in
set_option maxRecDepth 100000 in
theorem ct_X8_init (l : Launch) (D : va_G) (cI cZ cJ : ClassId) (h0 sz : Nat) : Met l yX8_init wsX8_init { frames := 1, cells := 23, slots := 38515, locals := 12 } (va_Pc [.ref h0] (fun U => U.heap.size = sz ∧ va_P D vwCl [(h0, .inr (8, [.null, .int (zi 0), .null, .int (zi 0), .null, .null, .int (zi 0), .null, .null, .null, .null, .int (zi 0), .null, .null, .null, .null, .null, .int (zi 0), .int (zi 0), .int (zi 0), .null, .int (zi 0), .null, .null, .null, .null, .null, .null, .null, .null, .null, .int (zi 0)]))] U.heap ∧ KK D cI cZ cJ U ∧ va_D (fun _ => True) [(h0, .inr (8, [.null, .int (zi 0), .null, .int (zi 0), .null, .null, .int (zi 0), .null, .null, .null, .null, .int (zi 0), .null, .null, .null, .null, .null, .int (zi 0), .int (zi 0), .int (zi 0), .null, .int (zi 0), .null, .null, .null, .null, .null, .null, .null, .null, .null, .int (zi 0)]))])) (va_Qv (S := Nat → Nat) (fun _ => True) (fun u t => va_P D vwCl [(h0, .inr (8, [.ref (u 0), .int (zi 0), .ref (u 1), .int (zi 0), .ref (u 2), .ref (u 3), .int (zi 0), .ref (u 4), .ref (u 5), .ref (u 6), .ref (u 7), .int (zi 0), .ref (u 8), .ref (u 9), .ref (u 10), .ref (u 11), .ref (u 12), .int (zi 0), .int (zi 0), .int (zi 0), .ref (u 13), .int (zi 0), .ref (u 14), .ref (u 15), .ref (u 16), .ref (u 17), .ref (u 18), .ref (u 19), .ref (u 20), .ref (u 21), .ref (u 22), .int (zi 0)])), ((u 0), .inl (cI, 9, .inl (zf (fun _ => 0)))), ((u 1), .inl (cI, 6, .inl (zf (fun _ => 0)))), ((u 2), .inl (cI, 30, .inl (zf (fun _ => 0)))), ((u 3), .inl (cI, 30, .inl (zf (fun _ => 0)))), ((u 4), .inl (cI, 60, .inl (zf (fun _ => 0)))), ((u 5), .inl (cI, 60, .inl (zf (fun _ => 0)))), ((u 6), .inl (cI, 60, .inl (zf (fun _ => 0)))), ((u 7), .inl (cI, 60, .inl (zf (fun _ => 0)))), ((u 8), .inl (cI, 20, .inl (zf (fun _ => 0)))), ((u 9), .inl (cI, 20, .inl (zf (fun _ => 0)))), ((u 10), .inl (cI, 20, .inl (zf (fun _ => 0)))), ((u 11), .inl (cI, 20, .inl (zf (fun _ => 0)))), ((u 12), .inl (cI, 20, .inl (zf (fun _ => 0)))), ((u 13), .inl (cI, 60, .inl (zf (fun _ => 0)))), ((u 14), .inl (cI, 7695, .inl (zf (fun _ => 0)))), ((u 15), .inl (cI, 3600, .inl (zf (fun _ => 0)))), ((u 16), .inl (cI, 3600, .inl (zf (fun _ => 0)))), ((u 17), .inl (cI, 7695, .inl (zf (fun _ => 0)))), ((u 18), .inl (cI, 7695, .inl (zf (fun _ => 0)))), ((u 19), .inl (cZ, 7695, .inl (zf (fun _ => 0)))), ((u 20), .inl (cI, 20, .inl (zf (fun _ => 0)))), ((u 21), .inl (cI, 20, .inl (zf (fun _ => 0)))), ((u 22), .inl (cI, 20, .inl (zf (fun _ => 0))))] t.heap ∧ va_D (va_A [(h0, .inr (8, [.null, .int (zi 0), .null, .int (zi 0), .null, .null, .int (zi 0), .null, .null, .null, .null, .int (zi 0), .null, .null, .null, .null, .null, .int (zi 0), .int (zi 0), .int (zi 0), .null, .int (zi 0), .null, .null, .null, .null, .null, .null, .null, .null, .null, .int (zi 0)]))] sz) [(h0, .inr (8, [.ref (u 0), .int (zi 0), .ref (u 1), .int (zi 0), .ref (u 2), .ref (u 3), .int (zi 0), .ref (u 4), .ref (u 5), .ref (u 6), .ref (u 7), .int (zi 0), .ref (u 8), .ref (u 9), .ref (u 10), .ref (u 11), .ref (u 12), .int (zi 0), .int (zi 0), .int (zi 0), .ref (u 13), .int (zi 0), .ref (u 14), .ref (u 15), .ref (u 16), .ref (u 17), .ref (u 18), .ref (u 19), .ref (u 20), .ref (u 21), .ref (u 22), .int (zi 0)])), ((u 0), .inl (cI, 9, .inl (zf (fun _ => 0)))), ((u 1), .inl (cI, 6, .inl (zf (fun _ => 0)))), ((u 2), .inl (cI, 30, .inl (zf (fun _ => 0)))), ((u 3), .inl (cI, 30, .inl (zf (fun _ => 0)))), ((u 4), .inl (cI, 60, .inl (zf (fun _ => 0)))), ((u 5), .inl (cI, 60, .inl (zf (fun _ => 0)))), ((u 6), .inl (cI, 60, .inl (zf (fun _ => 0)))), ((u 7), .inl (cI, 60, .inl (zf (fun _ => 0)))), ((u 8), .inl (cI, 20, .inl (zf (fun _ => 0)))), ((u 9), .inl (cI, 20, .inl (zf (fun _ => 0)))), ((u 10), .inl (cI, 20, .inl (zf (fun _ => 0)))), ((u 11), .inl (cI, 20, .inl (zf (fun _ => 0)))), ((u 12), .inl (cI, 20, .inl (zf (fun _ => 0)))), ((u 13), .inl (cI, 60, .inl (zf (fun _ => 0)))), ((u 14), .inl (cI, 7695, .inl (zf (fun _ => 0)))), ((u 15), .inl (cI, 3600, .inl (zf (fun _ => 0)))), ((u 16), .inl (cI, 3600, .inl (zf (fun _ => 0)))), ((u 17), .inl (cI, 7695, .inl (zf (fun _ => 0)))), ((u 18), .inl (cI, 7695, .inl (zf (fun _ => 0)))), ((u 19), .inl (cZ, 7695, .inl (zf (fun _ => 0)))), ((u 20), .inl (cI, 20, .inl (zf (fun _ => 0)))), ((u 21), .inl (cI, 20, .inl (zf (fun _ => 0)))), ((u 22), .inl (cI, 20, .inl (zf (fun _ => 0))))]) (va_A [(h0, .inr (8, [.null, .int (zi 0), .null, .int (zi 0), .null, .null, .int (zi 0), .null, .null, .null, .null, .int (zi 0), .null, .null, .null, .null, .null, .int (zi 0), .int (zi 0), .int (zi 0), .null, .int (zi 0), .null, .null, .null, .null, .null, .null, .null, .null, .null, .int (zi 0)]))] sz)) 23 38515 (va_A [(h0, .inr (8, [.null, .int (zi 0), .null, .int (zi 0), .null, .null, .int (zi 0), .null, .null, .null, .null, .int (zi 0), .null, .null, .null, .null, .null, .int (zi 0), .int (zi 0), .int (zi 0), .null, .int (zi 0), .null, .null, .null, .null, .null, .null, .null, .null, .null, .int (zi 0)]))] sz) := by
  refine Met.ofW (cc := cX8_init) (maxL := 1) (ret := none) (by decide) rfl ?_
  intro p e s m args below meth c s₁ B hml hv
  obtain ⟨rfl, hsz, hP, hK, hD0⟩ := hv
  have hx := B.exec
  have hb := B.bytes
  have hr := B.returns
  have hts := atoms_spec (ws := wsX8_init) B.pre
  have hown : s.vm.findClass RX8 = some m.cls := findClass_of_methodNamed B.named
  have hlocks := B.notSynchronized
  have hin : meth.name = "<init>" := (name_of_methodNamed B.named B.method).1
  subst hsz
  have hD := hD0.self (sz := s.heap.size)
  generalize hAe : va_A [(h0, .inr (8, [.null, .int (zi 0), .null, .int (zi 0), .null, .null, .int (zi 0), .null, .null, .null, .null, .int (zi 0), .null, .null, .null, .null, .null, .int (zi 0), .int (zi 0), .int (zi 0), .null, .int (zi 0), .null, .null, .null, .null, .null, .null, .null, .null, .null, .int (zi 0)]))] s.heap.size = A at hD ⊢
  have hA : ∀ q : Nat, s.heap.size ≤ q → A q := fun q h => by rw [← hAe]; exact Or.inr h
  have hS : va_S A s.heap s.heap [] := va_S.rf
  have hP : va_P D vwCl [(h0, .inr (8, [.null, .int (zi 0), .null, .int (zi 0), .null, .null, .int (zi 0), .null, .null, .null, .null, .int (zi 0), .null, .null, .null, .null, .null, .int (zi 0), .int (zi 0), .int (zi 0), .null, .int (zi 0), .null, .null, .null, .null, .null, .null, .null, .null, .null, .int (zi 0)]))] s.heap := hP
  have hl := lv_entry ([.ref h0]) (n := 1) (Nat.le_of_ble_eq_true rfl)
  rw [lg_entry_eq]
  generalize (lg_sl ([.ref h0]) ++ List.replicate (1 - (lg_sl ([.ref h0])).length) Slot.unset).toArray = ls at hl ⊢
  have hl : lv_has ls 1 [(0, .ref h0)] := hl
  refine lv_aload_n hx hb dX8_init_0 rfl (lv_at hl 0 rfl) ?_
  refine W.objInit hx hb hown (hts _ oml_X8_init) (hts _ oin_X8_init) (hts _ oco_X8_init) rfl (by rw [hml]; exact hl.1) rfl dX8_init_1 (Nat.le_of_ble_eq_true rfl) (Nat.le_of_ble_eq_true rfl) ?_
  refine W.eq (g2 := F0 m 4 ls []) rfl ?_
  refine lv_aload_n hx hb dX8_init_4 rfl (lv_at hl 0 rfl) ?_
  refine zi_bipush hx hb dX8_init_5 (by decide) ?_
  refine va_newa (atype := .int) (a0 := (9, .inl (zf (fun _ => 0)))) hx hb (hts _ arrint_X8_init) (ty := .int) rfl hK.1 hP hD hS hA (fun _ => rfl) (by decide) (by decide) (Nat.le_of_ble_eq_true rfl) (Nat.le_of_ble_eq_true rfl) (Nat.le_of_ble_eq_true rfl) dX8_init_7 (fun b7 cA H hKa hP hD hS => ?_)
  have ecA : cA = cI := Option.some.inj ((va_nm_int (hKa.2 3 _ rfl).2).symm.trans (va_nm_int (hK.1.2 0 _ rfl).2))
  rw [ecA] at hP hD
  clear hKa ecA
  have hP : va_P D vwCl [(h0, .inr (8, [.null, .int (zi 0), .null, .int (zi 0), .null, .null, .int (zi 0), .null, .null, .null, .null, .int (zi 0), .null, .null, .null, .null, .null, .int (zi 0), .int (zi 0), .int (zi 0), .null, .int (zi 0), .null, .null, .null, .null, .null, .null, .null, .null, .null, .int (zi 0)])), (b7, .inl (cI, 9, .inl (zf (fun _ => 0))))] H := hP
  have hD : va_D A [(h0, .inr (8, [.null, .int (zi 0), .null, .int (zi 0), .null, .null, .int (zi 0), .null, .null, .null, .null, .int (zi 0), .null, .null, .null, .null, .null, .int (zi 0), .int (zi 0), .int (zi 0), .null, .int (zi 0), .null, .null, .null, .null, .null, .null, .null, .null, .null, .int (zi 0)])), (b7, .inl (cI, 9, .inl (zf (fun _ => 0))))] := hD
  refine va_putF (D := D) (ci := 8) (v := .ref b7) (ty := (.array .int)) (C := RX8) (T := TX8) (N := 32) hx hb hts ic_X8_init_8 tyX8 tyX8_ok nmX8 hown hK.1 hP hD hS 0 rfl rfl 0 (by decide) (hts _ lk0_X8_init) (fun _ h9 => h9) rfl hin rfl (by decide +kernel) rfl rfl (Nat.le_of_ble_eq_true rfl) dX8_init_9 (fun H locs hP hD hS => ?_)
  have hP : va_P D vwCl [(h0, .inr (8, [.ref b7, .int (zi 0), .null, .int (zi 0), .null, .null, .int (zi 0), .null, .null, .null, .null, .int (zi 0), .null, .null, .null, .null, .null, .int (zi 0), .int (zi 0), .int (zi 0), .null, .int (zi 0), .null, .null, .null, .null, .null, .null, .null, .null, .null, .int (zi 0)])), (b7, .inl (cI, 9, .inl (zf (fun _ => 0))))] H := hP
  have hD : va_D A [(h0, .inr (8, [.ref b7, .int (zi 0), .null, .int (zi 0), .null, .null, .int (zi 0), .null, .null, .null, .null, .int (zi 0), .null, .null, .null, .null, .null, .int (zi 0), .int (zi 0), .int (zi 0), .null, .int (zi 0), .null, .null, .null, .null, .null, .null, .null, .null, .null, .int (zi 0)])), (b7, .inl (cI, 9, .inl (zf (fun _ => 0))))] := hD
  refine lv_aload_n hx hb dX8_init_12 rfl (lv_at hl 0 rfl) ?_
  refine zi_bipush hx hb dX8_init_13 (by decide) ?_
  refine va_newa (atype := .int) (a0 := (6, .inl (zf (fun _ => 0)))) hx hb (hts _ arrint_X8_init) (ty := .int) rfl hK.1 hP hD hS hA (fun _ => rfl) (by decide) (by decide) (Nat.le_of_ble_eq_true rfl) (Nat.le_of_ble_eq_true rfl) (Nat.le_of_ble_eq_true rfl) dX8_init_15 (fun b15 cA H hKa hP hD hS => ?_)
  have ecA : cA = cI := Option.some.inj ((va_nm_int (hKa.2 3 _ rfl).2).symm.trans (va_nm_int (hK.1.2 0 _ rfl).2))
  rw [ecA] at hP hD
  clear hKa ecA
  have hP : va_P D vwCl [(h0, .inr (8, [.ref b7, .int (zi 0), .null, .int (zi 0), .null, .null, .int (zi 0), .null, .null, .null, .null, .int (zi 0), .null, .null, .null, .null, .null, .int (zi 0), .int (zi 0), .int (zi 0), .null, .int (zi 0), .null, .null, .null, .null, .null, .null, .null, .null, .null, .int (zi 0)])), (b7, .inl (cI, 9, .inl (zf (fun _ => 0)))), (b15, .inl (cI, 6, .inl (zf (fun _ => 0))))] H := hP
  have hD : va_D A [(h0, .inr (8, [.ref b7, .int (zi 0), .null, .int (zi 0), .null, .null, .int (zi 0), .null, .null, .null, .null, .int (zi 0), .null, .null, .null, .null, .null, .int (zi 0), .int (zi 0), .int (zi 0), .null, .int (zi 0), .null, .null, .null, .null, .null, .null, .null, .null, .null, .int (zi 0)])), (b7, .inl (cI, 9, .inl (zf (fun _ => 0)))), (b15, .inl (cI, 6, .inl (zf (fun _ => 0))))] := hD
  refine va_putF (D := D) (ci := 8) (v := .ref b15) (ty := (.array .int)) (C := RX8) (T := TX8) (N := 32) hx hb hts ic_X8_init_8 tyX8 tyX8_ok nmX8 hown hK.1 hP hD hS 0 rfl rfl 2 (by decide) (hts _ lk2_X8_init) (fun _ h9 => h9) rfl hin rfl (by decide +kernel) rfl rfl (Nat.le_of_ble_eq_true rfl) dX8_init_17 (fun H locs hP hD hS => ?_)
  have hP : va_P D vwCl [(h0, .inr (8, [.ref b7, .int (zi 0), .ref b15, .int (zi 0), .null, .null, .int (zi 0), .null, .null, .null, .null, .int (zi 0), .null, .null, .null, .null, .null, .int (zi 0), .int (zi 0), .int (zi 0), .null, .int (zi 0), .null, .null, .null, .null, .null, .null, .null, .null, .null, .int (zi 0)])), (b7, .inl (cI, 9, .inl (zf (fun _ => 0)))), (b15, .inl (cI, 6, .inl (zf (fun _ => 0))))] H := hP
  have hD : va_D A [(h0, .inr (8, [.ref b7, .int (zi 0), .ref b15, .int (zi 0), .null, .null, .int (zi 0), .null, .null, .null, .null, .int (zi 0), .null, .null, .null, .null, .null, .int (zi 0), .int (zi 0), .int (zi 0), .null, .int (zi 0), .null, .null, .null, .null, .null, .null, .null, .null, .null, .int (zi 0)])), (b7, .inl (cI, 9, .inl (zf (fun _ => 0)))), (b15, .inl (cI, 6, .inl (zf (fun _ => 0))))] := hD
  refine lv_aload_n hx hb dX8_init_20 rfl (lv_at hl 0 rfl) ?_
  refine zi_bipush hx hb dX8_init_21 (by decide) ?_
  refine va_newa (atype := .int) (a0 := (30, .inl (zf (fun _ => 0)))) hx hb (hts _ arrint_X8_init) (ty := .int) rfl hK.1 hP hD hS hA (fun _ => rfl) (by decide) (by decide) (Nat.le_of_ble_eq_true rfl) (Nat.le_of_ble_eq_true rfl) (Nat.le_of_ble_eq_true rfl) dX8_init_23 (fun b23 cA H hKa hP hD hS => ?_)
  have ecA : cA = cI := Option.some.inj ((va_nm_int (hKa.2 3 _ rfl).2).symm.trans (va_nm_int (hK.1.2 0 _ rfl).2))
  rw [ecA] at hP hD
  clear hKa ecA
  have hP : va_P D vwCl [(h0, .inr (8, [.ref b7, .int (zi 0), .ref b15, .int (zi 0), .null, .null, .int (zi 0), .null, .null, .null, .null, .int (zi 0), .null, .null, .null, .null, .null, .int (zi 0), .int (zi 0), .int (zi 0), .null, .int (zi 0), .null, .null, .null, .null, .null, .null, .null, .null, .null, .int (zi 0)])), (b7, .inl (cI, 9, .inl (zf (fun _ => 0)))), (b15, .inl (cI, 6, .inl (zf (fun _ => 0)))), (b23, .inl (cI, 30, .inl (zf (fun _ => 0))))] H := hP
  have hD : va_D A [(h0, .inr (8, [.ref b7, .int (zi 0), .ref b15, .int (zi 0), .null, .null, .int (zi 0), .null, .null, .null, .null, .int (zi 0), .null, .null, .null, .null, .null, .int (zi 0), .int (zi 0), .int (zi 0), .null, .int (zi 0), .null, .null, .null, .null, .null, .null, .null, .null, .null, .int (zi 0)])), (b7, .inl (cI, 9, .inl (zf (fun _ => 0)))), (b15, .inl (cI, 6, .inl (zf (fun _ => 0)))), (b23, .inl (cI, 30, .inl (zf (fun _ => 0))))] := hD
  refine va_putF (D := D) (ci := 8) (v := .ref b23) (ty := (.array .int)) (C := RX8) (T := TX8) (N := 32) hx hb hts ic_X8_init_8 tyX8 tyX8_ok nmX8 hown hK.1 hP hD hS 0 rfl rfl 4 (by decide) (hts _ lk4_X8_init) (fun _ h9 => h9) rfl hin rfl (by decide +kernel) rfl rfl (Nat.le_of_ble_eq_true rfl) dX8_init_25 (fun H locs hP hD hS => ?_)
  have hP : va_P D vwCl [(h0, .inr (8, [.ref b7, .int (zi 0), .ref b15, .int (zi 0), .ref b23, .null, .int (zi 0), .null, .null, .null, .null, .int (zi 0), .null, .null, .null, .null, .null, .int (zi 0), .int (zi 0), .int (zi 0), .null, .int (zi 0), .null, .null, .null, .null, .null, .null, .null, .null, .null, .int (zi 0)])), (b7, .inl (cI, 9, .inl (zf (fun _ => 0)))), (b15, .inl (cI, 6, .inl (zf (fun _ => 0)))), (b23, .inl (cI, 30, .inl (zf (fun _ => 0))))] H := hP
  have hD : va_D A [(h0, .inr (8, [.ref b7, .int (zi 0), .ref b15, .int (zi 0), .ref b23, .null, .int (zi 0), .null, .null, .null, .null, .int (zi 0), .null, .null, .null, .null, .null, .int (zi 0), .int (zi 0), .int (zi 0), .null, .int (zi 0), .null, .null, .null, .null, .null, .null, .null, .null, .null, .int (zi 0)])), (b7, .inl (cI, 9, .inl (zf (fun _ => 0)))), (b15, .inl (cI, 6, .inl (zf (fun _ => 0)))), (b23, .inl (cI, 30, .inl (zf (fun _ => 0))))] := hD
  refine lv_aload_n hx hb dX8_init_28 rfl (lv_at hl 0 rfl) ?_
  refine zi_bipush hx hb dX8_init_29 (by decide) ?_
  refine va_newa (atype := .int) (a0 := (30, .inl (zf (fun _ => 0)))) hx hb (hts _ arrint_X8_init) (ty := .int) rfl hK.1 hP hD hS hA (fun _ => rfl) (by decide) (by decide) (Nat.le_of_ble_eq_true rfl) (Nat.le_of_ble_eq_true rfl) (Nat.le_of_ble_eq_true rfl) dX8_init_31 (fun b31 cA H hKa hP hD hS => ?_)
  have ecA : cA = cI := Option.some.inj ((va_nm_int (hKa.2 3 _ rfl).2).symm.trans (va_nm_int (hK.1.2 0 _ rfl).2))
  rw [ecA] at hP hD
  clear hKa ecA
  have hP : va_P D vwCl [(h0, .inr (8, [.ref b7, .int (zi 0), .ref b15, .int (zi 0), .ref b23, .null, .int (zi 0), .null, .null, .null, .null, .int (zi 0), .null, .null, .null, .null, .null, .int (zi 0), .int (zi 0), .int (zi 0), .null, .int (zi 0), .null, .null, .null, .null, .null, .null, .null, .null, .null, .int (zi 0)])), (b7, .inl (cI, 9, .inl (zf (fun _ => 0)))), (b15, .inl (cI, 6, .inl (zf (fun _ => 0)))), (b23, .inl (cI, 30, .inl (zf (fun _ => 0)))), (b31, .inl (cI, 30, .inl (zf (fun _ => 0))))] H := hP
  have hD : va_D A [(h0, .inr (8, [.ref b7, .int (zi 0), .ref b15, .int (zi 0), .ref b23, .null, .int (zi 0), .null, .null, .null, .null, .int (zi 0), .null, .null, .null, .null, .null, .int (zi 0), .int (zi 0), .int (zi 0), .null, .int (zi 0), .null, .null, .null, .null, .null, .null, .null, .null, .null, .int (zi 0)])), (b7, .inl (cI, 9, .inl (zf (fun _ => 0)))), (b15, .inl (cI, 6, .inl (zf (fun _ => 0)))), (b23, .inl (cI, 30, .inl (zf (fun _ => 0)))), (b31, .inl (cI, 30, .inl (zf (fun _ => 0))))] := hD
  refine va_putF (D := D) (ci := 8) (v := .ref b31) (ty := (.array .int)) (C := RX8) (T := TX8) (N := 32) hx hb hts ic_X8_init_8 tyX8 tyX8_ok nmX8 hown hK.1 hP hD hS 0 rfl rfl 5 (by decide) (hts _ lk5_X8_init) (fun _ h9 => h9) rfl hin rfl (by decide +kernel) rfl rfl (Nat.le_of_ble_eq_true rfl) dX8_init_33 (fun H locs hP hD hS => ?_)
  have hP : va_P D vwCl [(h0, .inr (8, [.ref b7, .int (zi 0), .ref b15, .int (zi 0), .ref b23, .ref b31, .int (zi 0), .null, .null, .null, .null, .int (zi 0), .null, .null, .null, .null, .null, .int (zi 0), .int (zi 0), .int (zi 0), .null, .int (zi 0), .null, .null, .null, .null, .null, .null, .null, .null, .null, .int (zi 0)])), (b7, .inl (cI, 9, .inl (zf (fun _ => 0)))), (b15, .inl (cI, 6, .inl (zf (fun _ => 0)))), (b23, .inl (cI, 30, .inl (zf (fun _ => 0)))), (b31, .inl (cI, 30, .inl (zf (fun _ => 0))))] H := hP
  have hD : va_D A [(h0, .inr (8, [.ref b7, .int (zi 0), .ref b15, .int (zi 0), .ref b23, .ref b31, .int (zi 0), .null, .null, .null, .null, .int (zi 0), .null, .null, .null, .null, .null, .int (zi 0), .int (zi 0), .int (zi 0), .null, .int (zi 0), .null, .null, .null, .null, .null, .null, .null, .null, .null, .int (zi 0)])), (b7, .inl (cI, 9, .inl (zf (fun _ => 0)))), (b15, .inl (cI, 6, .inl (zf (fun _ => 0)))), (b23, .inl (cI, 30, .inl (zf (fun _ => 0)))), (b31, .inl (cI, 30, .inl (zf (fun _ => 0))))] := hD
  refine lv_aload_n hx hb dX8_init_36 rfl (lv_at hl 0 rfl) ?_
  refine zi_bipush hx hb dX8_init_37 (by decide) ?_
  refine va_newa (atype := .int) (a0 := (60, .inl (zf (fun _ => 0)))) hx hb (hts _ arrint_X8_init) (ty := .int) rfl hK.1 hP hD hS hA (fun _ => rfl) (by decide) (by decide) (Nat.le_of_ble_eq_true rfl) (Nat.le_of_ble_eq_true rfl) (Nat.le_of_ble_eq_true rfl) dX8_init_39 (fun b39 cA H hKa hP hD hS => ?_)
  have ecA : cA = cI := Option.some.inj ((va_nm_int (hKa.2 3 _ rfl).2).symm.trans (va_nm_int (hK.1.2 0 _ rfl).2))
  rw [ecA] at hP hD
  clear hKa ecA
  have hP : va_P D vwCl [(h0, .inr (8, [.ref b7, .int (zi 0), .ref b15, .int (zi 0), .ref b23, .ref b31, .int (zi 0), .null, .null, .null, .null, .int (zi 0), .null, .null, .null, .null, .null, .int (zi 0), .int (zi 0), .int (zi 0), .null, .int (zi 0), .null, .null, .null, .null, .null, .null, .null, .null, .null, .int (zi 0)])), (b7, .inl (cI, 9, .inl (zf (fun _ => 0)))), (b15, .inl (cI, 6, .inl (zf (fun _ => 0)))), (b23, .inl (cI, 30, .inl (zf (fun _ => 0)))), (b31, .inl (cI, 30, .inl (zf (fun _ => 0)))), (b39, .inl (cI, 60, .inl (zf (fun _ => 0))))] H := hP
  have hD : va_D A [(h0, .inr (8, [.ref b7, .int (zi 0), .ref b15, .int (zi 0), .ref b23, .ref b31, .int (zi 0), .null, .null, .null, .null, .int (zi 0), .null, .null, .null, .null, .null, .int (zi 0), .int (zi 0), .int (zi 0), .null, .int (zi 0), .null, .null, .null, .null, .null, .null, .null, .null, .null, .int (zi 0)])), (b7, .inl (cI, 9, .inl (zf (fun _ => 0)))), (b15, .inl (cI, 6, .inl (zf (fun _ => 0)))), (b23, .inl (cI, 30, .inl (zf (fun _ => 0)))), (b31, .inl (cI, 30, .inl (zf (fun _ => 0)))), (b39, .inl (cI, 60, .inl (zf (fun _ => 0))))] := hD
  refine va_putF (D := D) (ci := 8) (v := .ref b39) (ty := (.array .int)) (C := RX8) (T := TX8) (N := 32) hx hb hts ic_X8_init_8 tyX8 tyX8_ok nmX8 hown hK.1 hP hD hS 0 rfl rfl 7 (by decide) (hts _ lk7_X8_init) (fun _ h9 => h9) rfl hin rfl (by decide +kernel) rfl rfl (Nat.le_of_ble_eq_true rfl) dX8_init_41 (fun H locs hP hD hS => ?_)
  have hP : va_P D vwCl [(h0, .inr (8, [.ref b7, .int (zi 0), .ref b15, .int (zi 0), .ref b23, .ref b31, .int (zi 0), .ref b39, .null, .null, .null, .int (zi 0), .null, .null, .null, .null, .null, .int (zi 0), .int (zi 0), .int (zi 0), .null, .int (zi 0), .null, .null, .null, .null, .null, .null, .null, .null, .null, .int (zi 0)])), (b7, .inl (cI, 9, .inl (zf (fun _ => 0)))), (b15, .inl (cI, 6, .inl (zf (fun _ => 0)))), (b23, .inl (cI, 30, .inl (zf (fun _ => 0)))), (b31, .inl (cI, 30, .inl (zf (fun _ => 0)))), (b39, .inl (cI, 60, .inl (zf (fun _ => 0))))] H := hP
  have hD : va_D A [(h0, .inr (8, [.ref b7, .int (zi 0), .ref b15, .int (zi 0), .ref b23, .ref b31, .int (zi 0), .ref b39, .null, .null, .null, .int (zi 0), .null, .null, .null, .null, .null, .int (zi 0), .int (zi 0), .int (zi 0), .null, .int (zi 0), .null, .null, .null, .null, .null, .null, .null, .null, .null, .int (zi 0)])), (b7, .inl (cI, 9, .inl (zf (fun _ => 0)))), (b15, .inl (cI, 6, .inl (zf (fun _ => 0)))), (b23, .inl (cI, 30, .inl (zf (fun _ => 0)))), (b31, .inl (cI, 30, .inl (zf (fun _ => 0)))), (b39, .inl (cI, 60, .inl (zf (fun _ => 0))))] := hD
  refine lv_aload_n hx hb dX8_init_44 rfl (lv_at hl 0 rfl) ?_
  refine zi_bipush hx hb dX8_init_45 (by decide) ?_
  refine va_newa (atype := .int) (a0 := (60, .inl (zf (fun _ => 0)))) hx hb (hts _ arrint_X8_init) (ty := .int) rfl hK.1 hP hD hS hA (fun _ => rfl) (by decide) (by decide) (Nat.le_of_ble_eq_true rfl) (Nat.le_of_ble_eq_true rfl) (Nat.le_of_ble_eq_true rfl) dX8_init_47 (fun b47 cA H hKa hP hD hS => ?_)
  have ecA : cA = cI := Option.some.inj ((va_nm_int (hKa.2 3 _ rfl).2).symm.trans (va_nm_int (hK.1.2 0 _ rfl).2))
  rw [ecA] at hP hD
  clear hKa ecA
  have hP : va_P D vwCl [(h0, .inr (8, [.ref b7, .int (zi 0), .ref b15, .int (zi 0), .ref b23, .ref b31, .int (zi 0), .ref b39, .null, .null, .null, .int (zi 0), .null, .null, .null, .null, .null, .int (zi 0), .int (zi 0), .int (zi 0), .null, .int (zi 0), .null, .null, .null, .null, .null, .null, .null, .null, .null, .int (zi 0)])), (b7, .inl (cI, 9, .inl (zf (fun _ => 0)))), (b15, .inl (cI, 6, .inl (zf (fun _ => 0)))), (b23, .inl (cI, 30, .inl (zf (fun _ => 0)))), (b31, .inl (cI, 30, .inl (zf (fun _ => 0)))), (b39, .inl (cI, 60, .inl (zf (fun _ => 0)))), (b47, .inl (cI, 60, .inl (zf (fun _ => 0))))] H := hP
  have hD : va_D A [(h0, .inr (8, [.ref b7, .int (zi 0), .ref b15, .int (zi 0), .ref b23, .ref b31, .int (zi 0), .ref b39, .null, .null, .null, .int (zi 0), .null, .null, .null, .null, .null, .int (zi 0), .int (zi 0), .int (zi 0), .null, .int (zi 0), .null, .null, .null, .null, .null, .null, .null, .null, .null, .int (zi 0)])), (b7, .inl (cI, 9, .inl (zf (fun _ => 0)))), (b15, .inl (cI, 6, .inl (zf (fun _ => 0)))), (b23, .inl (cI, 30, .inl (zf (fun _ => 0)))), (b31, .inl (cI, 30, .inl (zf (fun _ => 0)))), (b39, .inl (cI, 60, .inl (zf (fun _ => 0)))), (b47, .inl (cI, 60, .inl (zf (fun _ => 0))))] := hD
  refine va_putF (D := D) (ci := 8) (v := .ref b47) (ty := (.array .int)) (C := RX8) (T := TX8) (N := 32) hx hb hts ic_X8_init_8 tyX8 tyX8_ok nmX8 hown hK.1 hP hD hS 0 rfl rfl 8 (by decide) (hts _ lk8_X8_init) (fun _ h9 => h9) rfl hin rfl (by decide +kernel) rfl rfl (Nat.le_of_ble_eq_true rfl) dX8_init_49 (fun H locs hP hD hS => ?_)
  have hP : va_P D vwCl [(h0, .inr (8, [.ref b7, .int (zi 0), .ref b15, .int (zi 0), .ref b23, .ref b31, .int (zi 0), .ref b39, .ref b47, .null, .null, .int (zi 0), .null, .null, .null, .null, .null, .int (zi 0), .int (zi 0), .int (zi 0), .null, .int (zi 0), .null, .null, .null, .null, .null, .null, .null, .null, .null, .int (zi 0)])), (b7, .inl (cI, 9, .inl (zf (fun _ => 0)))), (b15, .inl (cI, 6, .inl (zf (fun _ => 0)))), (b23, .inl (cI, 30, .inl (zf (fun _ => 0)))), (b31, .inl (cI, 30, .inl (zf (fun _ => 0)))), (b39, .inl (cI, 60, .inl (zf (fun _ => 0)))), (b47, .inl (cI, 60, .inl (zf (fun _ => 0))))] H := hP
  have hD : va_D A [(h0, .inr (8, [.ref b7, .int (zi 0), .ref b15, .int (zi 0), .ref b23, .ref b31, .int (zi 0), .ref b39, .ref b47, .null, .null, .int (zi 0), .null, .null, .null, .null, .null, .int (zi 0), .int (zi 0), .int (zi 0), .null, .int (zi 0), .null, .null, .null, .null, .null, .null, .null, .null, .null, .int (zi 0)])), (b7, .inl (cI, 9, .inl (zf (fun _ => 0)))), (b15, .inl (cI, 6, .inl (zf (fun _ => 0)))), (b23, .inl (cI, 30, .inl (zf (fun _ => 0)))), (b31, .inl (cI, 30, .inl (zf (fun _ => 0)))), (b39, .inl (cI, 60, .inl (zf (fun _ => 0)))), (b47, .inl (cI, 60, .inl (zf (fun _ => 0))))] := hD
  refine lv_aload_n hx hb dX8_init_52 rfl (lv_at hl 0 rfl) ?_
  refine zi_bipush hx hb dX8_init_53 (by decide) ?_
  refine va_newa (atype := .int) (a0 := (60, .inl (zf (fun _ => 0)))) hx hb (hts _ arrint_X8_init) (ty := .int) rfl hK.1 hP hD hS hA (fun _ => rfl) (by decide) (by decide) (Nat.le_of_ble_eq_true rfl) (Nat.le_of_ble_eq_true rfl) (Nat.le_of_ble_eq_true rfl) dX8_init_55 (fun b55 cA H hKa hP hD hS => ?_)
  have ecA : cA = cI := Option.some.inj ((va_nm_int (hKa.2 3 _ rfl).2).symm.trans (va_nm_int (hK.1.2 0 _ rfl).2))
  rw [ecA] at hP hD
  clear hKa ecA
  have hP : va_P D vwCl [(h0, .inr (8, [.ref b7, .int (zi 0), .ref b15, .int (zi 0), .ref b23, .ref b31, .int (zi 0), .ref b39, .ref b47, .null, .null, .int (zi 0), .null, .null, .null, .null, .null, .int (zi 0), .int (zi 0), .int (zi 0), .null, .int (zi 0), .null, .null, .null, .null, .null, .null, .null, .null, .null, .int (zi 0)])), (b7, .inl (cI, 9, .inl (zf (fun _ => 0)))), (b15, .inl (cI, 6, .inl (zf (fun _ => 0)))), (b23, .inl (cI, 30, .inl (zf (fun _ => 0)))), (b31, .inl (cI, 30, .inl (zf (fun _ => 0)))), (b39, .inl (cI, 60, .inl (zf (fun _ => 0)))), (b47, .inl (cI, 60, .inl (zf (fun _ => 0)))), (b55, .inl (cI, 60, .inl (zf (fun _ => 0))))] H := hP
  have hD : va_D A [(h0, .inr (8, [.ref b7, .int (zi 0), .ref b15, .int (zi 0), .ref b23, .ref b31, .int (zi 0), .ref b39, .ref b47, .null, .null, .int (zi 0), .null, .null, .null, .null, .null, .int (zi 0), .int (zi 0), .int (zi 0), .null, .int (zi 0), .null, .null, .null, .null, .null, .null, .null, .null, .null, .int (zi 0)])), (b7, .inl (cI, 9, .inl (zf (fun _ => 0)))), (b15, .inl (cI, 6, .inl (zf (fun _ => 0)))), (b23, .inl (cI, 30, .inl (zf (fun _ => 0)))), (b31, .inl (cI, 30, .inl (zf (fun _ => 0)))), (b39, .inl (cI, 60, .inl (zf (fun _ => 0)))), (b47, .inl (cI, 60, .inl (zf (fun _ => 0)))), (b55, .inl (cI, 60, .inl (zf (fun _ => 0))))] := hD
  refine va_putF (D := D) (ci := 8) (v := .ref b55) (ty := (.array .int)) (C := RX8) (T := TX8) (N := 32) hx hb hts ic_X8_init_8 tyX8 tyX8_ok nmX8 hown hK.1 hP hD hS 0 rfl rfl 9 (by decide) (hts _ lk9_X8_init) (fun _ h9 => h9) rfl hin rfl (by decide +kernel) rfl rfl (Nat.le_of_ble_eq_true rfl) dX8_init_57 (fun H locs hP hD hS => ?_)
  have hP : va_P D vwCl [(h0, .inr (8, [.ref b7, .int (zi 0), .ref b15, .int (zi 0), .ref b23, .ref b31, .int (zi 0), .ref b39, .ref b47, .ref b55, .null, .int (zi 0), .null, .null, .null, .null, .null, .int (zi 0), .int (zi 0), .int (zi 0), .null, .int (zi 0), .null, .null, .null, .null, .null, .null, .null, .null, .null, .int (zi 0)])), (b7, .inl (cI, 9, .inl (zf (fun _ => 0)))), (b15, .inl (cI, 6, .inl (zf (fun _ => 0)))), (b23, .inl (cI, 30, .inl (zf (fun _ => 0)))), (b31, .inl (cI, 30, .inl (zf (fun _ => 0)))), (b39, .inl (cI, 60, .inl (zf (fun _ => 0)))), (b47, .inl (cI, 60, .inl (zf (fun _ => 0)))), (b55, .inl (cI, 60, .inl (zf (fun _ => 0))))] H := hP
  have hD : va_D A [(h0, .inr (8, [.ref b7, .int (zi 0), .ref b15, .int (zi 0), .ref b23, .ref b31, .int (zi 0), .ref b39, .ref b47, .ref b55, .null, .int (zi 0), .null, .null, .null, .null, .null, .int (zi 0), .int (zi 0), .int (zi 0), .null, .int (zi 0), .null, .null, .null, .null, .null, .null, .null, .null, .null, .int (zi 0)])), (b7, .inl (cI, 9, .inl (zf (fun _ => 0)))), (b15, .inl (cI, 6, .inl (zf (fun _ => 0)))), (b23, .inl (cI, 30, .inl (zf (fun _ => 0)))), (b31, .inl (cI, 30, .inl (zf (fun _ => 0)))), (b39, .inl (cI, 60, .inl (zf (fun _ => 0)))), (b47, .inl (cI, 60, .inl (zf (fun _ => 0)))), (b55, .inl (cI, 60, .inl (zf (fun _ => 0))))] := hD
  refine lv_aload_n hx hb dX8_init_60 rfl (lv_at hl 0 rfl) ?_
  refine zi_bipush hx hb dX8_init_61 (by decide) ?_
  refine va_newa (atype := .int) (a0 := (60, .inl (zf (fun _ => 0)))) hx hb (hts _ arrint_X8_init) (ty := .int) rfl hK.1 hP hD hS hA (fun _ => rfl) (by decide) (by decide) (Nat.le_of_ble_eq_true rfl) (Nat.le_of_ble_eq_true rfl) (Nat.le_of_ble_eq_true rfl) dX8_init_63 (fun b63 cA H hKa hP hD hS => ?_)
  have ecA : cA = cI := Option.some.inj ((va_nm_int (hKa.2 3 _ rfl).2).symm.trans (va_nm_int (hK.1.2 0 _ rfl).2))
  rw [ecA] at hP hD
  clear hKa ecA
  have hP : va_P D vwCl [(h0, .inr (8, [.ref b7, .int (zi 0), .ref b15, .int (zi 0), .ref b23, .ref b31, .int (zi 0), .ref b39, .ref b47, .ref b55, .null, .int (zi 0), .null, .null, .null, .null, .null, .int (zi 0), .int (zi 0), .int (zi 0), .null, .int (zi 0), .null, .null, .null, .null, .null, .null, .null, .null, .null, .int (zi 0)])), (b7, .inl (cI, 9, .inl (zf (fun _ => 0)))), (b15, .inl (cI, 6, .inl (zf (fun _ => 0)))), (b23, .inl (cI, 30, .inl (zf (fun _ => 0)))), (b31, .inl (cI, 30, .inl (zf (fun _ => 0)))), (b39, .inl (cI, 60, .inl (zf (fun _ => 0)))), (b47, .inl (cI, 60, .inl (zf (fun _ => 0)))), (b55, .inl (cI, 60, .inl (zf (fun _ => 0)))), (b63, .inl (cI, 60, .inl (zf (fun _ => 0))))] H := hP
  have hD : va_D A [(h0, .inr (8, [.ref b7, .int (zi 0), .ref b15, .int (zi 0), .ref b23, .ref b31, .int (zi 0), .ref b39, .ref b47, .ref b55, .null, .int (zi 0), .null, .null, .null, .null, .null, .int (zi 0), .int (zi 0), .int (zi 0), .null, .int (zi 0), .null, .null, .null, .null, .null, .null, .null, .null, .null, .int (zi 0)])), (b7, .inl (cI, 9, .inl (zf (fun _ => 0)))), (b15, .inl (cI, 6, .inl (zf (fun _ => 0)))), (b23, .inl (cI, 30, .inl (zf (fun _ => 0)))), (b31, .inl (cI, 30, .inl (zf (fun _ => 0)))), (b39, .inl (cI, 60, .inl (zf (fun _ => 0)))), (b47, .inl (cI, 60, .inl (zf (fun _ => 0)))), (b55, .inl (cI, 60, .inl (zf (fun _ => 0)))), (b63, .inl (cI, 60, .inl (zf (fun _ => 0))))] := hD
  refine va_putF (D := D) (ci := 8) (v := .ref b63) (ty := (.array .int)) (C := RX8) (T := TX8) (N := 32) hx hb hts ic_X8_init_8 tyX8 tyX8_ok nmX8 hown hK.1 hP hD hS 0 rfl rfl 10 (by decide) (hts _ lk10_X8_init) (fun _ h9 => h9) rfl hin rfl (by decide +kernel) rfl rfl (Nat.le_of_ble_eq_true rfl) dX8_init_65 (fun H locs hP hD hS => ?_)
  have hP : va_P D vwCl [(h0, .inr (8, [.ref b7, .int (zi 0), .ref b15, .int (zi 0), .ref b23, .ref b31, .int (zi 0), .ref b39, .ref b47, .ref b55, .ref b63, .int (zi 0), .null, .null, .null, .null, .null, .int (zi 0), .int (zi 0), .int (zi 0), .null, .int (zi 0), .null, .null, .null, .null, .null, .null, .null, .null, .null, .int (zi 0)])), (b7, .inl (cI, 9, .inl (zf (fun _ => 0)))), (b15, .inl (cI, 6, .inl (zf (fun _ => 0)))), (b23, .inl (cI, 30, .inl (zf (fun _ => 0)))), (b31, .inl (cI, 30, .inl (zf (fun _ => 0)))), (b39, .inl (cI, 60, .inl (zf (fun _ => 0)))), (b47, .inl (cI, 60, .inl (zf (fun _ => 0)))), (b55, .inl (cI, 60, .inl (zf (fun _ => 0)))), (b63, .inl (cI, 60, .inl (zf (fun _ => 0))))] H := hP
  have hD : va_D A [(h0, .inr (8, [.ref b7, .int (zi 0), .ref b15, .int (zi 0), .ref b23, .ref b31, .int (zi 0), .ref b39, .ref b47, .ref b55, .ref b63, .int (zi 0), .null, .null, .null, .null, .null, .int (zi 0), .int (zi 0), .int (zi 0), .null, .int (zi 0), .null, .null, .null, .null, .null, .null, .null, .null, .null, .int (zi 0)])), (b7, .inl (cI, 9, .inl (zf (fun _ => 0)))), (b15, .inl (cI, 6, .inl (zf (fun _ => 0)))), (b23, .inl (cI, 30, .inl (zf (fun _ => 0)))), (b31, .inl (cI, 30, .inl (zf (fun _ => 0)))), (b39, .inl (cI, 60, .inl (zf (fun _ => 0)))), (b47, .inl (cI, 60, .inl (zf (fun _ => 0)))), (b55, .inl (cI, 60, .inl (zf (fun _ => 0)))), (b63, .inl (cI, 60, .inl (zf (fun _ => 0))))] := hD
  refine lv_aload_n hx hb dX8_init_68 rfl (lv_at hl 0 rfl) ?_
  refine zi_bipush hx hb dX8_init_69 (by decide) ?_
  refine va_newa (atype := .int) (a0 := (20, .inl (zf (fun _ => 0)))) hx hb (hts _ arrint_X8_init) (ty := .int) rfl hK.1 hP hD hS hA (fun _ => rfl) (by decide) (by decide) (Nat.le_of_ble_eq_true rfl) (Nat.le_of_ble_eq_true rfl) (Nat.le_of_ble_eq_true rfl) dX8_init_71 (fun b71 cA H hKa hP hD hS => ?_)
  have ecA : cA = cI := Option.some.inj ((va_nm_int (hKa.2 3 _ rfl).2).symm.trans (va_nm_int (hK.1.2 0 _ rfl).2))
  rw [ecA] at hP hD
  clear hKa ecA
  have hP : va_P D vwCl [(h0, .inr (8, [.ref b7, .int (zi 0), .ref b15, .int (zi 0), .ref b23, .ref b31, .int (zi 0), .ref b39, .ref b47, .ref b55, .ref b63, .int (zi 0), .null, .null, .null, .null, .null, .int (zi 0), .int (zi 0), .int (zi 0), .null, .int (zi 0), .null, .null, .null, .null, .null, .null, .null, .null, .null, .int (zi 0)])), (b7, .inl (cI, 9, .inl (zf (fun _ => 0)))), (b15, .inl (cI, 6, .inl (zf (fun _ => 0)))), (b23, .inl (cI, 30, .inl (zf (fun _ => 0)))), (b31, .inl (cI, 30, .inl (zf (fun _ => 0)))), (b39, .inl (cI, 60, .inl (zf (fun _ => 0)))), (b47, .inl (cI, 60, .inl (zf (fun _ => 0)))), (b55, .inl (cI, 60, .inl (zf (fun _ => 0)))), (b63, .inl (cI, 60, .inl (zf (fun _ => 0)))), (b71, .inl (cI, 20, .inl (zf (fun _ => 0))))] H := hP
  have hD : va_D A [(h0, .inr (8, [.ref b7, .int (zi 0), .ref b15, .int (zi 0), .ref b23, .ref b31, .int (zi 0), .ref b39, .ref b47, .ref b55, .ref b63, .int (zi 0), .null, .null, .null, .null, .null, .int (zi 0), .int (zi 0), .int (zi 0), .null, .int (zi 0), .null, .null, .null, .null, .null, .null, .null, .null, .null, .int (zi 0)])), (b7, .inl (cI, 9, .inl (zf (fun _ => 0)))), (b15, .inl (cI, 6, .inl (zf (fun _ => 0)))), (b23, .inl (cI, 30, .inl (zf (fun _ => 0)))), (b31, .inl (cI, 30, .inl (zf (fun _ => 0)))), (b39, .inl (cI, 60, .inl (zf (fun _ => 0)))), (b47, .inl (cI, 60, .inl (zf (fun _ => 0)))), (b55, .inl (cI, 60, .inl (zf (fun _ => 0)))), (b63, .inl (cI, 60, .inl (zf (fun _ => 0)))), (b71, .inl (cI, 20, .inl (zf (fun _ => 0))))] := hD
  refine va_putF (D := D) (ci := 8) (v := .ref b71) (ty := (.array .int)) (C := RX8) (T := TX8) (N := 32) hx hb hts ic_X8_init_8 tyX8 tyX8_ok nmX8 hown hK.1 hP hD hS 0 rfl rfl 12 (by decide) (hts _ lk12_X8_init) (fun _ h9 => h9) rfl hin rfl (by decide +kernel) rfl rfl (Nat.le_of_ble_eq_true rfl) dX8_init_73 (fun H locs hP hD hS => ?_)
  have hP : va_P D vwCl [(h0, .inr (8, [.ref b7, .int (zi 0), .ref b15, .int (zi 0), .ref b23, .ref b31, .int (zi 0), .ref b39, .ref b47, .ref b55, .ref b63, .int (zi 0), .ref b71, .null, .null, .null, .null, .int (zi 0), .int (zi 0), .int (zi 0), .null, .int (zi 0), .null, .null, .null, .null, .null, .null, .null, .null, .null, .int (zi 0)])), (b7, .inl (cI, 9, .inl (zf (fun _ => 0)))), (b15, .inl (cI, 6, .inl (zf (fun _ => 0)))), (b23, .inl (cI, 30, .inl (zf (fun _ => 0)))), (b31, .inl (cI, 30, .inl (zf (fun _ => 0)))), (b39, .inl (cI, 60, .inl (zf (fun _ => 0)))), (b47, .inl (cI, 60, .inl (zf (fun _ => 0)))), (b55, .inl (cI, 60, .inl (zf (fun _ => 0)))), (b63, .inl (cI, 60, .inl (zf (fun _ => 0)))), (b71, .inl (cI, 20, .inl (zf (fun _ => 0))))] H := hP
  have hD : va_D A [(h0, .inr (8, [.ref b7, .int (zi 0), .ref b15, .int (zi 0), .ref b23, .ref b31, .int (zi 0), .ref b39, .ref b47, .ref b55, .ref b63, .int (zi 0), .ref b71, .null, .null, .null, .null, .int (zi 0), .int (zi 0), .int (zi 0), .null, .int (zi 0), .null, .null, .null, .null, .null, .null, .null, .null, .null, .int (zi 0)])), (b7, .inl (cI, 9, .inl (zf (fun _ => 0)))), (b15, .inl (cI, 6, .inl (zf (fun _ => 0)))), (b23, .inl (cI, 30, .inl (zf (fun _ => 0)))), (b31, .inl (cI, 30, .inl (zf (fun _ => 0)))), (b39, .inl (cI, 60, .inl (zf (fun _ => 0)))), (b47, .inl (cI, 60, .inl (zf (fun _ => 0)))), (b55, .inl (cI, 60, .inl (zf (fun _ => 0)))), (b63, .inl (cI, 60, .inl (zf (fun _ => 0)))), (b71, .inl (cI, 20, .inl (zf (fun _ => 0))))] := hD
  refine lv_aload_n hx hb dX8_init_76 rfl (lv_at hl 0 rfl) ?_
  refine zi_bipush hx hb dX8_init_77 (by decide) ?_
  refine va_newa (atype := .int) (a0 := (20, .inl (zf (fun _ => 0)))) hx hb (hts _ arrint_X8_init) (ty := .int) rfl hK.1 hP hD hS hA (fun _ => rfl) (by decide) (by decide) (Nat.le_of_ble_eq_true rfl) (Nat.le_of_ble_eq_true rfl) (Nat.le_of_ble_eq_true rfl) dX8_init_79 (fun b79 cA H hKa hP hD hS => ?_)
  have ecA : cA = cI := Option.some.inj ((va_nm_int (hKa.2 3 _ rfl).2).symm.trans (va_nm_int (hK.1.2 0 _ rfl).2))
  rw [ecA] at hP hD
  clear hKa ecA
  have hP : va_P D vwCl [(h0, .inr (8, [.ref b7, .int (zi 0), .ref b15, .int (zi 0), .ref b23, .ref b31, .int (zi 0), .ref b39, .ref b47, .ref b55, .ref b63, .int (zi 0), .ref b71, .null, .null, .null, .null, .int (zi 0), .int (zi 0), .int (zi 0), .null, .int (zi 0), .null, .null, .null, .null, .null, .null, .null, .null, .null, .int (zi 0)])), (b7, .inl (cI, 9, .inl (zf (fun _ => 0)))), (b15, .inl (cI, 6, .inl (zf (fun _ => 0)))), (b23, .inl (cI, 30, .inl (zf (fun _ => 0)))), (b31, .inl (cI, 30, .inl (zf (fun _ => 0)))), (b39, .inl (cI, 60, .inl (zf (fun _ => 0)))), (b47, .inl (cI, 60, .inl (zf (fun _ => 0)))), (b55, .inl (cI, 60, .inl (zf (fun _ => 0)))), (b63, .inl (cI, 60, .inl (zf (fun _ => 0)))), (b71, .inl (cI, 20, .inl (zf (fun _ => 0)))), (b79, .inl (cI, 20, .inl (zf (fun _ => 0))))] H := hP
  have hD : va_D A [(h0, .inr (8, [.ref b7, .int (zi 0), .ref b15, .int (zi 0), .ref b23, .ref b31, .int (zi 0), .ref b39, .ref b47, .ref b55, .ref b63, .int (zi 0), .ref b71, .null, .null, .null, .null, .int (zi 0), .int (zi 0), .int (zi 0), .null, .int (zi 0), .null, .null, .null, .null, .null, .null, .null, .null, .null, .int (zi 0)])), (b7, .inl (cI, 9, .inl (zf (fun _ => 0)))), (b15, .inl (cI, 6, .inl (zf (fun _ => 0)))), (b23, .inl (cI, 30, .inl (zf (fun _ => 0)))), (b31, .inl (cI, 30, .inl (zf (fun _ => 0)))), (b39, .inl (cI, 60, .inl (zf (fun _ => 0)))), (b47, .inl (cI, 60, .inl (zf (fun _ => 0)))), (b55, .inl (cI, 60, .inl (zf (fun _ => 0)))), (b63, .inl (cI, 60, .inl (zf (fun _ => 0)))), (b71, .inl (cI, 20, .inl (zf (fun _ => 0)))), (b79, .inl (cI, 20, .inl (zf (fun _ => 0))))] := hD
  refine va_putF (D := D) (ci := 8) (v := .ref b79) (ty := (.array .int)) (C := RX8) (T := TX8) (N := 32) hx hb hts ic_X8_init_8 tyX8 tyX8_ok nmX8 hown hK.1 hP hD hS 0 rfl rfl 13 (by decide) (hts _ lk13_X8_init) (fun _ h9 => h9) rfl hin rfl (by decide +kernel) rfl rfl (Nat.le_of_ble_eq_true rfl) dX8_init_81 (fun H locs hP hD hS => ?_)
  have hP : va_P D vwCl [(h0, .inr (8, [.ref b7, .int (zi 0), .ref b15, .int (zi 0), .ref b23, .ref b31, .int (zi 0), .ref b39, .ref b47, .ref b55, .ref b63, .int (zi 0), .ref b71, .ref b79, .null, .null, .null, .int (zi 0), .int (zi 0), .int (zi 0), .null, .int (zi 0), .null, .null, .null, .null, .null, .null, .null, .null, .null, .int (zi 0)])), (b7, .inl (cI, 9, .inl (zf (fun _ => 0)))), (b15, .inl (cI, 6, .inl (zf (fun _ => 0)))), (b23, .inl (cI, 30, .inl (zf (fun _ => 0)))), (b31, .inl (cI, 30, .inl (zf (fun _ => 0)))), (b39, .inl (cI, 60, .inl (zf (fun _ => 0)))), (b47, .inl (cI, 60, .inl (zf (fun _ => 0)))), (b55, .inl (cI, 60, .inl (zf (fun _ => 0)))), (b63, .inl (cI, 60, .inl (zf (fun _ => 0)))), (b71, .inl (cI, 20, .inl (zf (fun _ => 0)))), (b79, .inl (cI, 20, .inl (zf (fun _ => 0))))] H := hP
  have hD : va_D A [(h0, .inr (8, [.ref b7, .int (zi 0), .ref b15, .int (zi 0), .ref b23, .ref b31, .int (zi 0), .ref b39, .ref b47, .ref b55, .ref b63, .int (zi 0), .ref b71, .ref b79, .null, .null, .null, .int (zi 0), .int (zi 0), .int (zi 0), .null, .int (zi 0), .null, .null, .null, .null, .null, .null, .null, .null, .null, .int (zi 0)])), (b7, .inl (cI, 9, .inl (zf (fun _ => 0)))), (b15, .inl (cI, 6, .inl (zf (fun _ => 0)))), (b23, .inl (cI, 30, .inl (zf (fun _ => 0)))), (b31, .inl (cI, 30, .inl (zf (fun _ => 0)))), (b39, .inl (cI, 60, .inl (zf (fun _ => 0)))), (b47, .inl (cI, 60, .inl (zf (fun _ => 0)))), (b55, .inl (cI, 60, .inl (zf (fun _ => 0)))), (b63, .inl (cI, 60, .inl (zf (fun _ => 0)))), (b71, .inl (cI, 20, .inl (zf (fun _ => 0)))), (b79, .inl (cI, 20, .inl (zf (fun _ => 0))))] := hD
  refine lv_aload_n hx hb dX8_init_84 rfl (lv_at hl 0 rfl) ?_
  refine zi_bipush hx hb dX8_init_85 (by decide) ?_
  refine va_newa (atype := .int) (a0 := (20, .inl (zf (fun _ => 0)))) hx hb (hts _ arrint_X8_init) (ty := .int) rfl hK.1 hP hD hS hA (fun _ => rfl) (by decide) (by decide) (Nat.le_of_ble_eq_true rfl) (Nat.le_of_ble_eq_true rfl) (Nat.le_of_ble_eq_true rfl) dX8_init_87 (fun b87 cA H hKa hP hD hS => ?_)
  have ecA : cA = cI := Option.some.inj ((va_nm_int (hKa.2 3 _ rfl).2).symm.trans (va_nm_int (hK.1.2 0 _ rfl).2))
  rw [ecA] at hP hD
  clear hKa ecA
  have hP : va_P D vwCl [(h0, .inr (8, [.ref b7, .int (zi 0), .ref b15, .int (zi 0), .ref b23, .ref b31, .int (zi 0), .ref b39, .ref b47, .ref b55, .ref b63, .int (zi 0), .ref b71, .ref b79, .null, .null, .null, .int (zi 0), .int (zi 0), .int (zi 0), .null, .int (zi 0), .null, .null, .null, .null, .null, .null, .null, .null, .null, .int (zi 0)])), (b7, .inl (cI, 9, .inl (zf (fun _ => 0)))), (b15, .inl (cI, 6, .inl (zf (fun _ => 0)))), (b23, .inl (cI, 30, .inl (zf (fun _ => 0)))), (b31, .inl (cI, 30, .inl (zf (fun _ => 0)))), (b39, .inl (cI, 60, .inl (zf (fun _ => 0)))), (b47, .inl (cI, 60, .inl (zf (fun _ => 0)))), (b55, .inl (cI, 60, .inl (zf (fun _ => 0)))), (b63, .inl (cI, 60, .inl (zf (fun _ => 0)))), (b71, .inl (cI, 20, .inl (zf (fun _ => 0)))), (b79, .inl (cI, 20, .inl (zf (fun _ => 0)))), (b87, .inl (cI, 20, .inl (zf (fun _ => 0))))] H := hP
  have hD : va_D A [(h0, .inr (8, [.ref b7, .int (zi 0), .ref b15, .int (zi 0), .ref b23, .ref b31, .int (zi 0), .ref b39, .ref b47, .ref b55, .ref b63, .int (zi 0), .ref b71, .ref b79, .null, .null, .null, .int (zi 0), .int (zi 0), .int (zi 0), .null, .int (zi 0), .null, .null, .null, .null, .null, .null, .null, .null, .null, .int (zi 0)])), (b7, .inl (cI, 9, .inl (zf (fun _ => 0)))), (b15, .inl (cI, 6, .inl (zf (fun _ => 0)))), (b23, .inl (cI, 30, .inl (zf (fun _ => 0)))), (b31, .inl (cI, 30, .inl (zf (fun _ => 0)))), (b39, .inl (cI, 60, .inl (zf (fun _ => 0)))), (b47, .inl (cI, 60, .inl (zf (fun _ => 0)))), (b55, .inl (cI, 60, .inl (zf (fun _ => 0)))), (b63, .inl (cI, 60, .inl (zf (fun _ => 0)))), (b71, .inl (cI, 20, .inl (zf (fun _ => 0)))), (b79, .inl (cI, 20, .inl (zf (fun _ => 0)))), (b87, .inl (cI, 20, .inl (zf (fun _ => 0))))] := hD
  refine va_putF (D := D) (ci := 8) (v := .ref b87) (ty := (.array .int)) (C := RX8) (T := TX8) (N := 32) hx hb hts ic_X8_init_8 tyX8 tyX8_ok nmX8 hown hK.1 hP hD hS 0 rfl rfl 14 (by decide) (hts _ lk14_X8_init) (fun _ h9 => h9) rfl hin rfl (by decide +kernel) rfl rfl (Nat.le_of_ble_eq_true rfl) dX8_init_89 (fun H locs hP hD hS => ?_)
  have hP : va_P D vwCl [(h0, .inr (8, [.ref b7, .int (zi 0), .ref b15, .int (zi 0), .ref b23, .ref b31, .int (zi 0), .ref b39, .ref b47, .ref b55, .ref b63, .int (zi 0), .ref b71, .ref b79, .ref b87, .null, .null, .int (zi 0), .int (zi 0), .int (zi 0), .null, .int (zi 0), .null, .null, .null, .null, .null, .null, .null, .null, .null, .int (zi 0)])), (b7, .inl (cI, 9, .inl (zf (fun _ => 0)))), (b15, .inl (cI, 6, .inl (zf (fun _ => 0)))), (b23, .inl (cI, 30, .inl (zf (fun _ => 0)))), (b31, .inl (cI, 30, .inl (zf (fun _ => 0)))), (b39, .inl (cI, 60, .inl (zf (fun _ => 0)))), (b47, .inl (cI, 60, .inl (zf (fun _ => 0)))), (b55, .inl (cI, 60, .inl (zf (fun _ => 0)))), (b63, .inl (cI, 60, .inl (zf (fun _ => 0)))), (b71, .inl (cI, 20, .inl (zf (fun _ => 0)))), (b79, .inl (cI, 20, .inl (zf (fun _ => 0)))), (b87, .inl (cI, 20, .inl (zf (fun _ => 0))))] H := hP
  have hD : va_D A [(h0, .inr (8, [.ref b7, .int (zi 0), .ref b15, .int (zi 0), .ref b23, .ref b31, .int (zi 0), .ref b39, .ref b47, .ref b55, .ref b63, .int (zi 0), .ref b71, .ref b79, .ref b87, .null, .null, .int (zi 0), .int (zi 0), .int (zi 0), .null, .int (zi 0), .null, .null, .null, .null, .null, .null, .null, .null, .null, .int (zi 0)])), (b7, .inl (cI, 9, .inl (zf (fun _ => 0)))), (b15, .inl (cI, 6, .inl (zf (fun _ => 0)))), (b23, .inl (cI, 30, .inl (zf (fun _ => 0)))), (b31, .inl (cI, 30, .inl (zf (fun _ => 0)))), (b39, .inl (cI, 60, .inl (zf (fun _ => 0)))), (b47, .inl (cI, 60, .inl (zf (fun _ => 0)))), (b55, .inl (cI, 60, .inl (zf (fun _ => 0)))), (b63, .inl (cI, 60, .inl (zf (fun _ => 0)))), (b71, .inl (cI, 20, .inl (zf (fun _ => 0)))), (b79, .inl (cI, 20, .inl (zf (fun _ => 0)))), (b87, .inl (cI, 20, .inl (zf (fun _ => 0))))] := hD
  refine lv_aload_n hx hb dX8_init_92 rfl (lv_at hl 0 rfl) ?_
  refine zi_bipush hx hb dX8_init_93 (by decide) ?_
  refine va_newa (atype := .int) (a0 := (20, .inl (zf (fun _ => 0)))) hx hb (hts _ arrint_X8_init) (ty := .int) rfl hK.1 hP hD hS hA (fun _ => rfl) (by decide) (by decide) (Nat.le_of_ble_eq_true rfl) (Nat.le_of_ble_eq_true rfl) (Nat.le_of_ble_eq_true rfl) dX8_init_95 (fun b95 cA H hKa hP hD hS => ?_)
  have ecA : cA = cI := Option.some.inj ((va_nm_int (hKa.2 3 _ rfl).2).symm.trans (va_nm_int (hK.1.2 0 _ rfl).2))
  rw [ecA] at hP hD
  clear hKa ecA
  have hP : va_P D vwCl [(h0, .inr (8, [.ref b7, .int (zi 0), .ref b15, .int (zi 0), .ref b23, .ref b31, .int (zi 0), .ref b39, .ref b47, .ref b55, .ref b63, .int (zi 0), .ref b71, .ref b79, .ref b87, .null, .null, .int (zi 0), .int (zi 0), .int (zi 0), .null, .int (zi 0), .null, .null, .null, .null, .null, .null, .null, .null, .null, .int (zi 0)])), (b7, .inl (cI, 9, .inl (zf (fun _ => 0)))), (b15, .inl (cI, 6, .inl (zf (fun _ => 0)))), (b23, .inl (cI, 30, .inl (zf (fun _ => 0)))), (b31, .inl (cI, 30, .inl (zf (fun _ => 0)))), (b39, .inl (cI, 60, .inl (zf (fun _ => 0)))), (b47, .inl (cI, 60, .inl (zf (fun _ => 0)))), (b55, .inl (cI, 60, .inl (zf (fun _ => 0)))), (b63, .inl (cI, 60, .inl (zf (fun _ => 0)))), (b71, .inl (cI, 20, .inl (zf (fun _ => 0)))), (b79, .inl (cI, 20, .inl (zf (fun _ => 0)))), (b87, .inl (cI, 20, .inl (zf (fun _ => 0)))), (b95, .inl (cI, 20, .inl (zf (fun _ => 0))))] H := hP
  have hD : va_D A [(h0, .inr (8, [.ref b7, .int (zi 0), .ref b15, .int (zi 0), .ref b23, .ref b31, .int (zi 0), .ref b39, .ref b47, .ref b55, .ref b63, .int (zi 0), .ref b71, .ref b79, .ref b87, .null, .null, .int (zi 0), .int (zi 0), .int (zi 0), .null, .int (zi 0), .null, .null, .null, .null, .null, .null, .null, .null, .null, .int (zi 0)])), (b7, .inl (cI, 9, .inl (zf (fun _ => 0)))), (b15, .inl (cI, 6, .inl (zf (fun _ => 0)))), (b23, .inl (cI, 30, .inl (zf (fun _ => 0)))), (b31, .inl (cI, 30, .inl (zf (fun _ => 0)))), (b39, .inl (cI, 60, .inl (zf (fun _ => 0)))), (b47, .inl (cI, 60, .inl (zf (fun _ => 0)))), (b55, .inl (cI, 60, .inl (zf (fun _ => 0)))), (b63, .inl (cI, 60, .inl (zf (fun _ => 0)))), (b71, .inl (cI, 20, .inl (zf (fun _ => 0)))), (b79, .inl (cI, 20, .inl (zf (fun _ => 0)))), (b87, .inl (cI, 20, .inl (zf (fun _ => 0)))), (b95, .inl (cI, 20, .inl (zf (fun _ => 0))))] := hD
  refine va_putF (D := D) (ci := 8) (v := .ref b95) (ty := (.array .int)) (C := RX8) (T := TX8) (N := 32) hx hb hts ic_X8_init_8 tyX8 tyX8_ok nmX8 hown hK.1 hP hD hS 0 rfl rfl 15 (by decide) (hts _ lk15_X8_init) (fun _ h9 => h9) rfl hin rfl (by decide +kernel) rfl rfl (Nat.le_of_ble_eq_true rfl) dX8_init_97 (fun H locs hP hD hS => ?_)
  have hP : va_P D vwCl [(h0, .inr (8, [.ref b7, .int (zi 0), .ref b15, .int (zi 0), .ref b23, .ref b31, .int (zi 0), .ref b39, .ref b47, .ref b55, .ref b63, .int (zi 0), .ref b71, .ref b79, .ref b87, .ref b95, .null, .int (zi 0), .int (zi 0), .int (zi 0), .null, .int (zi 0), .null, .null, .null, .null, .null, .null, .null, .null, .null, .int (zi 0)])), (b7, .inl (cI, 9, .inl (zf (fun _ => 0)))), (b15, .inl (cI, 6, .inl (zf (fun _ => 0)))), (b23, .inl (cI, 30, .inl (zf (fun _ => 0)))), (b31, .inl (cI, 30, .inl (zf (fun _ => 0)))), (b39, .inl (cI, 60, .inl (zf (fun _ => 0)))), (b47, .inl (cI, 60, .inl (zf (fun _ => 0)))), (b55, .inl (cI, 60, .inl (zf (fun _ => 0)))), (b63, .inl (cI, 60, .inl (zf (fun _ => 0)))), (b71, .inl (cI, 20, .inl (zf (fun _ => 0)))), (b79, .inl (cI, 20, .inl (zf (fun _ => 0)))), (b87, .inl (cI, 20, .inl (zf (fun _ => 0)))), (b95, .inl (cI, 20, .inl (zf (fun _ => 0))))] H := hP
  have hD : va_D A [(h0, .inr (8, [.ref b7, .int (zi 0), .ref b15, .int (zi 0), .ref b23, .ref b31, .int (zi 0), .ref b39, .ref b47, .ref b55, .ref b63, .int (zi 0), .ref b71, .ref b79, .ref b87, .ref b95, .null, .int (zi 0), .int (zi 0), .int (zi 0), .null, .int (zi 0), .null, .null, .null, .null, .null, .null, .null, .null, .null, .int (zi 0)])), (b7, .inl (cI, 9, .inl (zf (fun _ => 0)))), (b15, .inl (cI, 6, .inl (zf (fun _ => 0)))), (b23, .inl (cI, 30, .inl (zf (fun _ => 0)))), (b31, .inl (cI, 30, .inl (zf (fun _ => 0)))), (b39, .inl (cI, 60, .inl (zf (fun _ => 0)))), (b47, .inl (cI, 60, .inl (zf (fun _ => 0)))), (b55, .inl (cI, 60, .inl (zf (fun _ => 0)))), (b63, .inl (cI, 60, .inl (zf (fun _ => 0)))), (b71, .inl (cI, 20, .inl (zf (fun _ => 0)))), (b79, .inl (cI, 20, .inl (zf (fun _ => 0)))), (b87, .inl (cI, 20, .inl (zf (fun _ => 0)))), (b95, .inl (cI, 20, .inl (zf (fun _ => 0))))] := hD
  refine lv_aload_n hx hb dX8_init_100 rfl (lv_at hl 0 rfl) ?_
  refine zi_bipush hx hb dX8_init_101 (by decide) ?_
  refine va_newa (atype := .int) (a0 := (20, .inl (zf (fun _ => 0)))) hx hb (hts _ arrint_X8_init) (ty := .int) rfl hK.1 hP hD hS hA (fun _ => rfl) (by decide) (by decide) (Nat.le_of_ble_eq_true rfl) (Nat.le_of_ble_eq_true rfl) (Nat.le_of_ble_eq_true rfl) dX8_init_103 (fun b103 cA H hKa hP hD hS => ?_)
  have ecA : cA = cI := Option.some.inj ((va_nm_int (hKa.2 3 _ rfl).2).symm.trans (va_nm_int (hK.1.2 0 _ rfl).2))
  rw [ecA] at hP hD
  clear hKa ecA
  have hP : va_P D vwCl [(h0, .inr (8, [.ref b7, .int (zi 0), .ref b15, .int (zi 0), .ref b23, .ref b31, .int (zi 0), .ref b39, .ref b47, .ref b55, .ref b63, .int (zi 0), .ref b71, .ref b79, .ref b87, .ref b95, .null, .int (zi 0), .int (zi 0), .int (zi 0), .null, .int (zi 0), .null, .null, .null, .null, .null, .null, .null, .null, .null, .int (zi 0)])), (b7, .inl (cI, 9, .inl (zf (fun _ => 0)))), (b15, .inl (cI, 6, .inl (zf (fun _ => 0)))), (b23, .inl (cI, 30, .inl (zf (fun _ => 0)))), (b31, .inl (cI, 30, .inl (zf (fun _ => 0)))), (b39, .inl (cI, 60, .inl (zf (fun _ => 0)))), (b47, .inl (cI, 60, .inl (zf (fun _ => 0)))), (b55, .inl (cI, 60, .inl (zf (fun _ => 0)))), (b63, .inl (cI, 60, .inl (zf (fun _ => 0)))), (b71, .inl (cI, 20, .inl (zf (fun _ => 0)))), (b79, .inl (cI, 20, .inl (zf (fun _ => 0)))), (b87, .inl (cI, 20, .inl (zf (fun _ => 0)))), (b95, .inl (cI, 20, .inl (zf (fun _ => 0)))), (b103, .inl (cI, 20, .inl (zf (fun _ => 0))))] H := hP
  have hD : va_D A [(h0, .inr (8, [.ref b7, .int (zi 0), .ref b15, .int (zi 0), .ref b23, .ref b31, .int (zi 0), .ref b39, .ref b47, .ref b55, .ref b63, .int (zi 0), .ref b71, .ref b79, .ref b87, .ref b95, .null, .int (zi 0), .int (zi 0), .int (zi 0), .null, .int (zi 0), .null, .null, .null, .null, .null, .null, .null, .null, .null, .int (zi 0)])), (b7, .inl (cI, 9, .inl (zf (fun _ => 0)))), (b15, .inl (cI, 6, .inl (zf (fun _ => 0)))), (b23, .inl (cI, 30, .inl (zf (fun _ => 0)))), (b31, .inl (cI, 30, .inl (zf (fun _ => 0)))), (b39, .inl (cI, 60, .inl (zf (fun _ => 0)))), (b47, .inl (cI, 60, .inl (zf (fun _ => 0)))), (b55, .inl (cI, 60, .inl (zf (fun _ => 0)))), (b63, .inl (cI, 60, .inl (zf (fun _ => 0)))), (b71, .inl (cI, 20, .inl (zf (fun _ => 0)))), (b79, .inl (cI, 20, .inl (zf (fun _ => 0)))), (b87, .inl (cI, 20, .inl (zf (fun _ => 0)))), (b95, .inl (cI, 20, .inl (zf (fun _ => 0)))), (b103, .inl (cI, 20, .inl (zf (fun _ => 0))))] := hD
  refine va_putF (D := D) (ci := 8) (v := .ref b103) (ty := (.array .int)) (C := RX8) (T := TX8) (N := 32) hx hb hts ic_X8_init_8 tyX8 tyX8_ok nmX8 hown hK.1 hP hD hS 0 rfl rfl 16 (by decide) (hts _ lk16_X8_init) (fun _ h9 => h9) rfl hin rfl (by decide +kernel) rfl rfl (Nat.le_of_ble_eq_true rfl) dX8_init_105 (fun H locs hP hD hS => ?_)
  have hP : va_P D vwCl [(h0, .inr (8, [.ref b7, .int (zi 0), .ref b15, .int (zi 0), .ref b23, .ref b31, .int (zi 0), .ref b39, .ref b47, .ref b55, .ref b63, .int (zi 0), .ref b71, .ref b79, .ref b87, .ref b95, .ref b103, .int (zi 0), .int (zi 0), .int (zi 0), .null, .int (zi 0), .null, .null, .null, .null, .null, .null, .null, .null, .null, .int (zi 0)])), (b7, .inl (cI, 9, .inl (zf (fun _ => 0)))), (b15, .inl (cI, 6, .inl (zf (fun _ => 0)))), (b23, .inl (cI, 30, .inl (zf (fun _ => 0)))), (b31, .inl (cI, 30, .inl (zf (fun _ => 0)))), (b39, .inl (cI, 60, .inl (zf (fun _ => 0)))), (b47, .inl (cI, 60, .inl (zf (fun _ => 0)))), (b55, .inl (cI, 60, .inl (zf (fun _ => 0)))), (b63, .inl (cI, 60, .inl (zf (fun _ => 0)))), (b71, .inl (cI, 20, .inl (zf (fun _ => 0)))), (b79, .inl (cI, 20, .inl (zf (fun _ => 0)))), (b87, .inl (cI, 20, .inl (zf (fun _ => 0)))), (b95, .inl (cI, 20, .inl (zf (fun _ => 0)))), (b103, .inl (cI, 20, .inl (zf (fun _ => 0))))] H := hP
  have hD : va_D A [(h0, .inr (8, [.ref b7, .int (zi 0), .ref b15, .int (zi 0), .ref b23, .ref b31, .int (zi 0), .ref b39, .ref b47, .ref b55, .ref b63, .int (zi 0), .ref b71, .ref b79, .ref b87, .ref b95, .ref b103, .int (zi 0), .int (zi 0), .int (zi 0), .null, .int (zi 0), .null, .null, .null, .null, .null, .null, .null, .null, .null, .int (zi 0)])), (b7, .inl (cI, 9, .inl (zf (fun _ => 0)))), (b15, .inl (cI, 6, .inl (zf (fun _ => 0)))), (b23, .inl (cI, 30, .inl (zf (fun _ => 0)))), (b31, .inl (cI, 30, .inl (zf (fun _ => 0)))), (b39, .inl (cI, 60, .inl (zf (fun _ => 0)))), (b47, .inl (cI, 60, .inl (zf (fun _ => 0)))), (b55, .inl (cI, 60, .inl (zf (fun _ => 0)))), (b63, .inl (cI, 60, .inl (zf (fun _ => 0)))), (b71, .inl (cI, 20, .inl (zf (fun _ => 0)))), (b79, .inl (cI, 20, .inl (zf (fun _ => 0)))), (b87, .inl (cI, 20, .inl (zf (fun _ => 0)))), (b95, .inl (cI, 20, .inl (zf (fun _ => 0)))), (b103, .inl (cI, 20, .inl (zf (fun _ => 0))))] := hD
  refine lv_aload_n hx hb dX8_init_108 rfl (lv_at hl 0 rfl) ?_
  refine zi_bipush hx hb dX8_init_109 (by decide) ?_
  refine va_newa (atype := .int) (a0 := (60, .inl (zf (fun _ => 0)))) hx hb (hts _ arrint_X8_init) (ty := .int) rfl hK.1 hP hD hS hA (fun _ => rfl) (by decide) (by decide) (Nat.le_of_ble_eq_true rfl) (Nat.le_of_ble_eq_true rfl) (Nat.le_of_ble_eq_true rfl) dX8_init_111 (fun b111 cA H hKa hP hD hS => ?_)
  have ecA : cA = cI := Option.some.inj ((va_nm_int (hKa.2 3 _ rfl).2).symm.trans (va_nm_int (hK.1.2 0 _ rfl).2))
  rw [ecA] at hP hD
  clear hKa ecA
  have hP : va_P D vwCl [(h0, .inr (8, [.ref b7, .int (zi 0), .ref b15, .int (zi 0), .ref b23, .ref b31, .int (zi 0), .ref b39, .ref b47, .ref b55, .ref b63, .int (zi 0), .ref b71, .ref b79, .ref b87, .ref b95, .ref b103, .int (zi 0), .int (zi 0), .int (zi 0), .null, .int (zi 0), .null, .null, .null, .null, .null, .null, .null, .null, .null, .int (zi 0)])), (b7, .inl (cI, 9, .inl (zf (fun _ => 0)))), (b15, .inl (cI, 6, .inl (zf (fun _ => 0)))), (b23, .inl (cI, 30, .inl (zf (fun _ => 0)))), (b31, .inl (cI, 30, .inl (zf (fun _ => 0)))), (b39, .inl (cI, 60, .inl (zf (fun _ => 0)))), (b47, .inl (cI, 60, .inl (zf (fun _ => 0)))), (b55, .inl (cI, 60, .inl (zf (fun _ => 0)))), (b63, .inl (cI, 60, .inl (zf (fun _ => 0)))), (b71, .inl (cI, 20, .inl (zf (fun _ => 0)))), (b79, .inl (cI, 20, .inl (zf (fun _ => 0)))), (b87, .inl (cI, 20, .inl (zf (fun _ => 0)))), (b95, .inl (cI, 20, .inl (zf (fun _ => 0)))), (b103, .inl (cI, 20, .inl (zf (fun _ => 0)))), (b111, .inl (cI, 60, .inl (zf (fun _ => 0))))] H := hP
  have hD : va_D A [(h0, .inr (8, [.ref b7, .int (zi 0), .ref b15, .int (zi 0), .ref b23, .ref b31, .int (zi 0), .ref b39, .ref b47, .ref b55, .ref b63, .int (zi 0), .ref b71, .ref b79, .ref b87, .ref b95, .ref b103, .int (zi 0), .int (zi 0), .int (zi 0), .null, .int (zi 0), .null, .null, .null, .null, .null, .null, .null, .null, .null, .int (zi 0)])), (b7, .inl (cI, 9, .inl (zf (fun _ => 0)))), (b15, .inl (cI, 6, .inl (zf (fun _ => 0)))), (b23, .inl (cI, 30, .inl (zf (fun _ => 0)))), (b31, .inl (cI, 30, .inl (zf (fun _ => 0)))), (b39, .inl (cI, 60, .inl (zf (fun _ => 0)))), (b47, .inl (cI, 60, .inl (zf (fun _ => 0)))), (b55, .inl (cI, 60, .inl (zf (fun _ => 0)))), (b63, .inl (cI, 60, .inl (zf (fun _ => 0)))), (b71, .inl (cI, 20, .inl (zf (fun _ => 0)))), (b79, .inl (cI, 20, .inl (zf (fun _ => 0)))), (b87, .inl (cI, 20, .inl (zf (fun _ => 0)))), (b95, .inl (cI, 20, .inl (zf (fun _ => 0)))), (b103, .inl (cI, 20, .inl (zf (fun _ => 0)))), (b111, .inl (cI, 60, .inl (zf (fun _ => 0))))] := hD
  refine va_putF (D := D) (ci := 8) (v := .ref b111) (ty := (.array .int)) (C := RX8) (T := TX8) (N := 32) hx hb hts ic_X8_init_8 tyX8 tyX8_ok nmX8 hown hK.1 hP hD hS 0 rfl rfl 20 (by decide) (hts _ lk20_X8_init) (fun _ h9 => h9) rfl hin rfl (by decide +kernel) rfl rfl (Nat.le_of_ble_eq_true rfl) dX8_init_113 (fun H locs hP hD hS => ?_)
  have hP : va_P D vwCl [(h0, .inr (8, [.ref b7, .int (zi 0), .ref b15, .int (zi 0), .ref b23, .ref b31, .int (zi 0), .ref b39, .ref b47, .ref b55, .ref b63, .int (zi 0), .ref b71, .ref b79, .ref b87, .ref b95, .ref b103, .int (zi 0), .int (zi 0), .int (zi 0), .ref b111, .int (zi 0), .null, .null, .null, .null, .null, .null, .null, .null, .null, .int (zi 0)])), (b7, .inl (cI, 9, .inl (zf (fun _ => 0)))), (b15, .inl (cI, 6, .inl (zf (fun _ => 0)))), (b23, .inl (cI, 30, .inl (zf (fun _ => 0)))), (b31, .inl (cI, 30, .inl (zf (fun _ => 0)))), (b39, .inl (cI, 60, .inl (zf (fun _ => 0)))), (b47, .inl (cI, 60, .inl (zf (fun _ => 0)))), (b55, .inl (cI, 60, .inl (zf (fun _ => 0)))), (b63, .inl (cI, 60, .inl (zf (fun _ => 0)))), (b71, .inl (cI, 20, .inl (zf (fun _ => 0)))), (b79, .inl (cI, 20, .inl (zf (fun _ => 0)))), (b87, .inl (cI, 20, .inl (zf (fun _ => 0)))), (b95, .inl (cI, 20, .inl (zf (fun _ => 0)))), (b103, .inl (cI, 20, .inl (zf (fun _ => 0)))), (b111, .inl (cI, 60, .inl (zf (fun _ => 0))))] H := hP
  have hD : va_D A [(h0, .inr (8, [.ref b7, .int (zi 0), .ref b15, .int (zi 0), .ref b23, .ref b31, .int (zi 0), .ref b39, .ref b47, .ref b55, .ref b63, .int (zi 0), .ref b71, .ref b79, .ref b87, .ref b95, .ref b103, .int (zi 0), .int (zi 0), .int (zi 0), .ref b111, .int (zi 0), .null, .null, .null, .null, .null, .null, .null, .null, .null, .int (zi 0)])), (b7, .inl (cI, 9, .inl (zf (fun _ => 0)))), (b15, .inl (cI, 6, .inl (zf (fun _ => 0)))), (b23, .inl (cI, 30, .inl (zf (fun _ => 0)))), (b31, .inl (cI, 30, .inl (zf (fun _ => 0)))), (b39, .inl (cI, 60, .inl (zf (fun _ => 0)))), (b47, .inl (cI, 60, .inl (zf (fun _ => 0)))), (b55, .inl (cI, 60, .inl (zf (fun _ => 0)))), (b63, .inl (cI, 60, .inl (zf (fun _ => 0)))), (b71, .inl (cI, 20, .inl (zf (fun _ => 0)))), (b79, .inl (cI, 20, .inl (zf (fun _ => 0)))), (b87, .inl (cI, 20, .inl (zf (fun _ => 0)))), (b95, .inl (cI, 20, .inl (zf (fun _ => 0)))), (b103, .inl (cI, 20, .inl (zf (fun _ => 0)))), (b111, .inl (cI, 60, .inl (zf (fun _ => 0))))] := hD
  refine lv_aload_n hx hb dX8_init_116 rfl (lv_at hl 0 rfl) ?_
  refine zi_sipush hx hb dX8_init_117 (by decide) ?_
  refine va_newa (atype := .int) (a0 := (7695, .inl (zf (fun _ => 0)))) hx hb (hts _ arrint_X8_init) (ty := .int) rfl hK.1 hP hD hS hA (fun _ => rfl) (by decide) (by decide) (Nat.le_of_ble_eq_true rfl) (Nat.le_of_ble_eq_true rfl) (Nat.le_of_ble_eq_true rfl) dX8_init_120 (fun b120 cA H hKa hP hD hS => ?_)
  have ecA : cA = cI := Option.some.inj ((va_nm_int (hKa.2 3 _ rfl).2).symm.trans (va_nm_int (hK.1.2 0 _ rfl).2))
  rw [ecA] at hP hD
  clear hKa ecA
  have hP : va_P D vwCl [(h0, .inr (8, [.ref b7, .int (zi 0), .ref b15, .int (zi 0), .ref b23, .ref b31, .int (zi 0), .ref b39, .ref b47, .ref b55, .ref b63, .int (zi 0), .ref b71, .ref b79, .ref b87, .ref b95, .ref b103, .int (zi 0), .int (zi 0), .int (zi 0), .ref b111, .int (zi 0), .null, .null, .null, .null, .null, .null, .null, .null, .null, .int (zi 0)])), (b7, .inl (cI, 9, .inl (zf (fun _ => 0)))), (b15, .inl (cI, 6, .inl (zf (fun _ => 0)))), (b23, .inl (cI, 30, .inl (zf (fun _ => 0)))), (b31, .inl (cI, 30, .inl (zf (fun _ => 0)))), (b39, .inl (cI, 60, .inl (zf (fun _ => 0)))), (b47, .inl (cI, 60, .inl (zf (fun _ => 0)))), (b55, .inl (cI, 60, .inl (zf (fun _ => 0)))), (b63, .inl (cI, 60, .inl (zf (fun _ => 0)))), (b71, .inl (cI, 20, .inl (zf (fun _ => 0)))), (b79, .inl (cI, 20, .inl (zf (fun _ => 0)))), (b87, .inl (cI, 20, .inl (zf (fun _ => 0)))), (b95, .inl (cI, 20, .inl (zf (fun _ => 0)))), (b103, .inl (cI, 20, .inl (zf (fun _ => 0)))), (b111, .inl (cI, 60, .inl (zf (fun _ => 0)))), (b120, .inl (cI, 7695, .inl (zf (fun _ => 0))))] H := hP
  have hD : va_D A [(h0, .inr (8, [.ref b7, .int (zi 0), .ref b15, .int (zi 0), .ref b23, .ref b31, .int (zi 0), .ref b39, .ref b47, .ref b55, .ref b63, .int (zi 0), .ref b71, .ref b79, .ref b87, .ref b95, .ref b103, .int (zi 0), .int (zi 0), .int (zi 0), .ref b111, .int (zi 0), .null, .null, .null, .null, .null, .null, .null, .null, .null, .int (zi 0)])), (b7, .inl (cI, 9, .inl (zf (fun _ => 0)))), (b15, .inl (cI, 6, .inl (zf (fun _ => 0)))), (b23, .inl (cI, 30, .inl (zf (fun _ => 0)))), (b31, .inl (cI, 30, .inl (zf (fun _ => 0)))), (b39, .inl (cI, 60, .inl (zf (fun _ => 0)))), (b47, .inl (cI, 60, .inl (zf (fun _ => 0)))), (b55, .inl (cI, 60, .inl (zf (fun _ => 0)))), (b63, .inl (cI, 60, .inl (zf (fun _ => 0)))), (b71, .inl (cI, 20, .inl (zf (fun _ => 0)))), (b79, .inl (cI, 20, .inl (zf (fun _ => 0)))), (b87, .inl (cI, 20, .inl (zf (fun _ => 0)))), (b95, .inl (cI, 20, .inl (zf (fun _ => 0)))), (b103, .inl (cI, 20, .inl (zf (fun _ => 0)))), (b111, .inl (cI, 60, .inl (zf (fun _ => 0)))), (b120, .inl (cI, 7695, .inl (zf (fun _ => 0))))] := hD
  refine va_putF (D := D) (ci := 8) (v := .ref b120) (ty := (.array .int)) (C := RX8) (T := TX8) (N := 32) hx hb hts ic_X8_init_8 tyX8 tyX8_ok nmX8 hown hK.1 hP hD hS 0 rfl rfl 22 (by decide) (hts _ lk22_X8_init) (fun _ h9 => h9) rfl hin rfl (by decide +kernel) rfl rfl (Nat.le_of_ble_eq_true rfl) dX8_init_122 (fun H locs hP hD hS => ?_)
  have hP : va_P D vwCl [(h0, .inr (8, [.ref b7, .int (zi 0), .ref b15, .int (zi 0), .ref b23, .ref b31, .int (zi 0), .ref b39, .ref b47, .ref b55, .ref b63, .int (zi 0), .ref b71, .ref b79, .ref b87, .ref b95, .ref b103, .int (zi 0), .int (zi 0), .int (zi 0), .ref b111, .int (zi 0), .ref b120, .null, .null, .null, .null, .null, .null, .null, .null, .int (zi 0)])), (b7, .inl (cI, 9, .inl (zf (fun _ => 0)))), (b15, .inl (cI, 6, .inl (zf (fun _ => 0)))), (b23, .inl (cI, 30, .inl (zf (fun _ => 0)))), (b31, .inl (cI, 30, .inl (zf (fun _ => 0)))), (b39, .inl (cI, 60, .inl (zf (fun _ => 0)))), (b47, .inl (cI, 60, .inl (zf (fun _ => 0)))), (b55, .inl (cI, 60, .inl (zf (fun _ => 0)))), (b63, .inl (cI, 60, .inl (zf (fun _ => 0)))), (b71, .inl (cI, 20, .inl (zf (fun _ => 0)))), (b79, .inl (cI, 20, .inl (zf (fun _ => 0)))), (b87, .inl (cI, 20, .inl (zf (fun _ => 0)))), (b95, .inl (cI, 20, .inl (zf (fun _ => 0)))), (b103, .inl (cI, 20, .inl (zf (fun _ => 0)))), (b111, .inl (cI, 60, .inl (zf (fun _ => 0)))), (b120, .inl (cI, 7695, .inl (zf (fun _ => 0))))] H := hP
  have hD : va_D A [(h0, .inr (8, [.ref b7, .int (zi 0), .ref b15, .int (zi 0), .ref b23, .ref b31, .int (zi 0), .ref b39, .ref b47, .ref b55, .ref b63, .int (zi 0), .ref b71, .ref b79, .ref b87, .ref b95, .ref b103, .int (zi 0), .int (zi 0), .int (zi 0), .ref b111, .int (zi 0), .ref b120, .null, .null, .null, .null, .null, .null, .null, .null, .int (zi 0)])), (b7, .inl (cI, 9, .inl (zf (fun _ => 0)))), (b15, .inl (cI, 6, .inl (zf (fun _ => 0)))), (b23, .inl (cI, 30, .inl (zf (fun _ => 0)))), (b31, .inl (cI, 30, .inl (zf (fun _ => 0)))), (b39, .inl (cI, 60, .inl (zf (fun _ => 0)))), (b47, .inl (cI, 60, .inl (zf (fun _ => 0)))), (b55, .inl (cI, 60, .inl (zf (fun _ => 0)))), (b63, .inl (cI, 60, .inl (zf (fun _ => 0)))), (b71, .inl (cI, 20, .inl (zf (fun _ => 0)))), (b79, .inl (cI, 20, .inl (zf (fun _ => 0)))), (b87, .inl (cI, 20, .inl (zf (fun _ => 0)))), (b95, .inl (cI, 20, .inl (zf (fun _ => 0)))), (b103, .inl (cI, 20, .inl (zf (fun _ => 0)))), (b111, .inl (cI, 60, .inl (zf (fun _ => 0)))), (b120, .inl (cI, 7695, .inl (zf (fun _ => 0))))] := hD
  refine lv_aload_n hx hb dX8_init_125 rfl (lv_at hl 0 rfl) ?_
  refine zi_sipush hx hb dX8_init_126 (by decide) ?_
  refine va_newa (atype := .int) (a0 := (3600, .inl (zf (fun _ => 0)))) hx hb (hts _ arrint_X8_init) (ty := .int) rfl hK.1 hP hD hS hA (fun _ => rfl) (by decide) (by decide) (Nat.le_of_ble_eq_true rfl) (Nat.le_of_ble_eq_true rfl) (Nat.le_of_ble_eq_true rfl) dX8_init_129 (fun b129 cA H hKa hP hD hS => ?_)
  have ecA : cA = cI := Option.some.inj ((va_nm_int (hKa.2 3 _ rfl).2).symm.trans (va_nm_int (hK.1.2 0 _ rfl).2))
  rw [ecA] at hP hD
  clear hKa ecA
  have hP : va_P D vwCl [(h0, .inr (8, [.ref b7, .int (zi 0), .ref b15, .int (zi 0), .ref b23, .ref b31, .int (zi 0), .ref b39, .ref b47, .ref b55, .ref b63, .int (zi 0), .ref b71, .ref b79, .ref b87, .ref b95, .ref b103, .int (zi 0), .int (zi 0), .int (zi 0), .ref b111, .int (zi 0), .ref b120, .null, .null, .null, .null, .null, .null, .null, .null, .int (zi 0)])), (b7, .inl (cI, 9, .inl (zf (fun _ => 0)))), (b15, .inl (cI, 6, .inl (zf (fun _ => 0)))), (b23, .inl (cI, 30, .inl (zf (fun _ => 0)))), (b31, .inl (cI, 30, .inl (zf (fun _ => 0)))), (b39, .inl (cI, 60, .inl (zf (fun _ => 0)))), (b47, .inl (cI, 60, .inl (zf (fun _ => 0)))), (b55, .inl (cI, 60, .inl (zf (fun _ => 0)))), (b63, .inl (cI, 60, .inl (zf (fun _ => 0)))), (b71, .inl (cI, 20, .inl (zf (fun _ => 0)))), (b79, .inl (cI, 20, .inl (zf (fun _ => 0)))), (b87, .inl (cI, 20, .inl (zf (fun _ => 0)))), (b95, .inl (cI, 20, .inl (zf (fun _ => 0)))), (b103, .inl (cI, 20, .inl (zf (fun _ => 0)))), (b111, .inl (cI, 60, .inl (zf (fun _ => 0)))), (b120, .inl (cI, 7695, .inl (zf (fun _ => 0)))), (b129, .inl (cI, 3600, .inl (zf (fun _ => 0))))] H := hP
  have hD : va_D A [(h0, .inr (8, [.ref b7, .int (zi 0), .ref b15, .int (zi 0), .ref b23, .ref b31, .int (zi 0), .ref b39, .ref b47, .ref b55, .ref b63, .int (zi 0), .ref b71, .ref b79, .ref b87, .ref b95, .ref b103, .int (zi 0), .int (zi 0), .int (zi 0), .ref b111, .int (zi 0), .ref b120, .null, .null, .null, .null, .null, .null, .null, .null, .int (zi 0)])), (b7, .inl (cI, 9, .inl (zf (fun _ => 0)))), (b15, .inl (cI, 6, .inl (zf (fun _ => 0)))), (b23, .inl (cI, 30, .inl (zf (fun _ => 0)))), (b31, .inl (cI, 30, .inl (zf (fun _ => 0)))), (b39, .inl (cI, 60, .inl (zf (fun _ => 0)))), (b47, .inl (cI, 60, .inl (zf (fun _ => 0)))), (b55, .inl (cI, 60, .inl (zf (fun _ => 0)))), (b63, .inl (cI, 60, .inl (zf (fun _ => 0)))), (b71, .inl (cI, 20, .inl (zf (fun _ => 0)))), (b79, .inl (cI, 20, .inl (zf (fun _ => 0)))), (b87, .inl (cI, 20, .inl (zf (fun _ => 0)))), (b95, .inl (cI, 20, .inl (zf (fun _ => 0)))), (b103, .inl (cI, 20, .inl (zf (fun _ => 0)))), (b111, .inl (cI, 60, .inl (zf (fun _ => 0)))), (b120, .inl (cI, 7695, .inl (zf (fun _ => 0)))), (b129, .inl (cI, 3600, .inl (zf (fun _ => 0))))] := hD
  refine va_putF (D := D) (ci := 8) (v := .ref b129) (ty := (.array .int)) (C := RX8) (T := TX8) (N := 32) hx hb hts ic_X8_init_8 tyX8 tyX8_ok nmX8 hown hK.1 hP hD hS 0 rfl rfl 23 (by decide) (hts _ lk23_X8_init) (fun _ h9 => h9) rfl hin rfl (by decide +kernel) rfl rfl (Nat.le_of_ble_eq_true rfl) dX8_init_131 (fun H locs hP hD hS => ?_)
  have hP : va_P D vwCl [(h0, .inr (8, [.ref b7, .int (zi 0), .ref b15, .int (zi 0), .ref b23, .ref b31, .int (zi 0), .ref b39, .ref b47, .ref b55, .ref b63, .int (zi 0), .ref b71, .ref b79, .ref b87, .ref b95, .ref b103, .int (zi 0), .int (zi 0), .int (zi 0), .ref b111, .int (zi 0), .ref b120, .ref b129, .null, .null, .null, .null, .null, .null, .null, .int (zi 0)])), (b7, .inl (cI, 9, .inl (zf (fun _ => 0)))), (b15, .inl (cI, 6, .inl (zf (fun _ => 0)))), (b23, .inl (cI, 30, .inl (zf (fun _ => 0)))), (b31, .inl (cI, 30, .inl (zf (fun _ => 0)))), (b39, .inl (cI, 60, .inl (zf (fun _ => 0)))), (b47, .inl (cI, 60, .inl (zf (fun _ => 0)))), (b55, .inl (cI, 60, .inl (zf (fun _ => 0)))), (b63, .inl (cI, 60, .inl (zf (fun _ => 0)))), (b71, .inl (cI, 20, .inl (zf (fun _ => 0)))), (b79, .inl (cI, 20, .inl (zf (fun _ => 0)))), (b87, .inl (cI, 20, .inl (zf (fun _ => 0)))), (b95, .inl (cI, 20, .inl (zf (fun _ => 0)))), (b103, .inl (cI, 20, .inl (zf (fun _ => 0)))), (b111, .inl (cI, 60, .inl (zf (fun _ => 0)))), (b120, .inl (cI, 7695, .inl (zf (fun _ => 0)))), (b129, .inl (cI, 3600, .inl (zf (fun _ => 0))))] H := hP
  have hD : va_D A [(h0, .inr (8, [.ref b7, .int (zi 0), .ref b15, .int (zi 0), .ref b23, .ref b31, .int (zi 0), .ref b39, .ref b47, .ref b55, .ref b63, .int (zi 0), .ref b71, .ref b79, .ref b87, .ref b95, .ref b103, .int (zi 0), .int (zi 0), .int (zi 0), .ref b111, .int (zi 0), .ref b120, .ref b129, .null, .null, .null, .null, .null, .null, .null, .int (zi 0)])), (b7, .inl (cI, 9, .inl (zf (fun _ => 0)))), (b15, .inl (cI, 6, .inl (zf (fun _ => 0)))), (b23, .inl (cI, 30, .inl (zf (fun _ => 0)))), (b31, .inl (cI, 30, .inl (zf (fun _ => 0)))), (b39, .inl (cI, 60, .inl (zf (fun _ => 0)))), (b47, .inl (cI, 60, .inl (zf (fun _ => 0)))), (b55, .inl (cI, 60, .inl (zf (fun _ => 0)))), (b63, .inl (cI, 60, .inl (zf (fun _ => 0)))), (b71, .inl (cI, 20, .inl (zf (fun _ => 0)))), (b79, .inl (cI, 20, .inl (zf (fun _ => 0)))), (b87, .inl (cI, 20, .inl (zf (fun _ => 0)))), (b95, .inl (cI, 20, .inl (zf (fun _ => 0)))), (b103, .inl (cI, 20, .inl (zf (fun _ => 0)))), (b111, .inl (cI, 60, .inl (zf (fun _ => 0)))), (b120, .inl (cI, 7695, .inl (zf (fun _ => 0)))), (b129, .inl (cI, 3600, .inl (zf (fun _ => 0))))] := hD
  refine lv_aload_n hx hb dX8_init_134 rfl (lv_at hl 0 rfl) ?_
  refine zi_sipush hx hb dX8_init_135 (by decide) ?_
  refine va_newa (atype := .int) (a0 := (3600, .inl (zf (fun _ => 0)))) hx hb (hts _ arrint_X8_init) (ty := .int) rfl hK.1 hP hD hS hA (fun _ => rfl) (by decide) (by decide) (Nat.le_of_ble_eq_true rfl) (Nat.le_of_ble_eq_true rfl) (Nat.le_of_ble_eq_true rfl) dX8_init_138 (fun b138 cA H hKa hP hD hS => ?_)
  have ecA : cA = cI := Option.some.inj ((va_nm_int (hKa.2 3 _ rfl).2).symm.trans (va_nm_int (hK.1.2 0 _ rfl).2))
  rw [ecA] at hP hD
  clear hKa ecA
  have hP : va_P D vwCl [(h0, .inr (8, [.ref b7, .int (zi 0), .ref b15, .int (zi 0), .ref b23, .ref b31, .int (zi 0), .ref b39, .ref b47, .ref b55, .ref b63, .int (zi 0), .ref b71, .ref b79, .ref b87, .ref b95, .ref b103, .int (zi 0), .int (zi 0), .int (zi 0), .ref b111, .int (zi 0), .ref b120, .ref b129, .null, .null, .null, .null, .null, .null, .null, .int (zi 0)])), (b7, .inl (cI, 9, .inl (zf (fun _ => 0)))), (b15, .inl (cI, 6, .inl (zf (fun _ => 0)))), (b23, .inl (cI, 30, .inl (zf (fun _ => 0)))), (b31, .inl (cI, 30, .inl (zf (fun _ => 0)))), (b39, .inl (cI, 60, .inl (zf (fun _ => 0)))), (b47, .inl (cI, 60, .inl (zf (fun _ => 0)))), (b55, .inl (cI, 60, .inl (zf (fun _ => 0)))), (b63, .inl (cI, 60, .inl (zf (fun _ => 0)))), (b71, .inl (cI, 20, .inl (zf (fun _ => 0)))), (b79, .inl (cI, 20, .inl (zf (fun _ => 0)))), (b87, .inl (cI, 20, .inl (zf (fun _ => 0)))), (b95, .inl (cI, 20, .inl (zf (fun _ => 0)))), (b103, .inl (cI, 20, .inl (zf (fun _ => 0)))), (b111, .inl (cI, 60, .inl (zf (fun _ => 0)))), (b120, .inl (cI, 7695, .inl (zf (fun _ => 0)))), (b129, .inl (cI, 3600, .inl (zf (fun _ => 0)))), (b138, .inl (cI, 3600, .inl (zf (fun _ => 0))))] H := hP
  have hD : va_D A [(h0, .inr (8, [.ref b7, .int (zi 0), .ref b15, .int (zi 0), .ref b23, .ref b31, .int (zi 0), .ref b39, .ref b47, .ref b55, .ref b63, .int (zi 0), .ref b71, .ref b79, .ref b87, .ref b95, .ref b103, .int (zi 0), .int (zi 0), .int (zi 0), .ref b111, .int (zi 0), .ref b120, .ref b129, .null, .null, .null, .null, .null, .null, .null, .int (zi 0)])), (b7, .inl (cI, 9, .inl (zf (fun _ => 0)))), (b15, .inl (cI, 6, .inl (zf (fun _ => 0)))), (b23, .inl (cI, 30, .inl (zf (fun _ => 0)))), (b31, .inl (cI, 30, .inl (zf (fun _ => 0)))), (b39, .inl (cI, 60, .inl (zf (fun _ => 0)))), (b47, .inl (cI, 60, .inl (zf (fun _ => 0)))), (b55, .inl (cI, 60, .inl (zf (fun _ => 0)))), (b63, .inl (cI, 60, .inl (zf (fun _ => 0)))), (b71, .inl (cI, 20, .inl (zf (fun _ => 0)))), (b79, .inl (cI, 20, .inl (zf (fun _ => 0)))), (b87, .inl (cI, 20, .inl (zf (fun _ => 0)))), (b95, .inl (cI, 20, .inl (zf (fun _ => 0)))), (b103, .inl (cI, 20, .inl (zf (fun _ => 0)))), (b111, .inl (cI, 60, .inl (zf (fun _ => 0)))), (b120, .inl (cI, 7695, .inl (zf (fun _ => 0)))), (b129, .inl (cI, 3600, .inl (zf (fun _ => 0)))), (b138, .inl (cI, 3600, .inl (zf (fun _ => 0))))] := hD
  refine va_putF (D := D) (ci := 8) (v := .ref b138) (ty := (.array .int)) (C := RX8) (T := TX8) (N := 32) hx hb hts ic_X8_init_8 tyX8 tyX8_ok nmX8 hown hK.1 hP hD hS 0 rfl rfl 24 (by decide) (hts _ lk24_X8_init) (fun _ h9 => h9) rfl hin rfl (by decide +kernel) rfl rfl (Nat.le_of_ble_eq_true rfl) dX8_init_140 (fun H locs hP hD hS => ?_)
  have hP : va_P D vwCl [(h0, .inr (8, [.ref b7, .int (zi 0), .ref b15, .int (zi 0), .ref b23, .ref b31, .int (zi 0), .ref b39, .ref b47, .ref b55, .ref b63, .int (zi 0), .ref b71, .ref b79, .ref b87, .ref b95, .ref b103, .int (zi 0), .int (zi 0), .int (zi 0), .ref b111, .int (zi 0), .ref b120, .ref b129, .ref b138, .null, .null, .null, .null, .null, .null, .int (zi 0)])), (b7, .inl (cI, 9, .inl (zf (fun _ => 0)))), (b15, .inl (cI, 6, .inl (zf (fun _ => 0)))), (b23, .inl (cI, 30, .inl (zf (fun _ => 0)))), (b31, .inl (cI, 30, .inl (zf (fun _ => 0)))), (b39, .inl (cI, 60, .inl (zf (fun _ => 0)))), (b47, .inl (cI, 60, .inl (zf (fun _ => 0)))), (b55, .inl (cI, 60, .inl (zf (fun _ => 0)))), (b63, .inl (cI, 60, .inl (zf (fun _ => 0)))), (b71, .inl (cI, 20, .inl (zf (fun _ => 0)))), (b79, .inl (cI, 20, .inl (zf (fun _ => 0)))), (b87, .inl (cI, 20, .inl (zf (fun _ => 0)))), (b95, .inl (cI, 20, .inl (zf (fun _ => 0)))), (b103, .inl (cI, 20, .inl (zf (fun _ => 0)))), (b111, .inl (cI, 60, .inl (zf (fun _ => 0)))), (b120, .inl (cI, 7695, .inl (zf (fun _ => 0)))), (b129, .inl (cI, 3600, .inl (zf (fun _ => 0)))), (b138, .inl (cI, 3600, .inl (zf (fun _ => 0))))] H := hP
  have hD : va_D A [(h0, .inr (8, [.ref b7, .int (zi 0), .ref b15, .int (zi 0), .ref b23, .ref b31, .int (zi 0), .ref b39, .ref b47, .ref b55, .ref b63, .int (zi 0), .ref b71, .ref b79, .ref b87, .ref b95, .ref b103, .int (zi 0), .int (zi 0), .int (zi 0), .ref b111, .int (zi 0), .ref b120, .ref b129, .ref b138, .null, .null, .null, .null, .null, .null, .int (zi 0)])), (b7, .inl (cI, 9, .inl (zf (fun _ => 0)))), (b15, .inl (cI, 6, .inl (zf (fun _ => 0)))), (b23, .inl (cI, 30, .inl (zf (fun _ => 0)))), (b31, .inl (cI, 30, .inl (zf (fun _ => 0)))), (b39, .inl (cI, 60, .inl (zf (fun _ => 0)))), (b47, .inl (cI, 60, .inl (zf (fun _ => 0)))), (b55, .inl (cI, 60, .inl (zf (fun _ => 0)))), (b63, .inl (cI, 60, .inl (zf (fun _ => 0)))), (b71, .inl (cI, 20, .inl (zf (fun _ => 0)))), (b79, .inl (cI, 20, .inl (zf (fun _ => 0)))), (b87, .inl (cI, 20, .inl (zf (fun _ => 0)))), (b95, .inl (cI, 20, .inl (zf (fun _ => 0)))), (b103, .inl (cI, 20, .inl (zf (fun _ => 0)))), (b111, .inl (cI, 60, .inl (zf (fun _ => 0)))), (b120, .inl (cI, 7695, .inl (zf (fun _ => 0)))), (b129, .inl (cI, 3600, .inl (zf (fun _ => 0)))), (b138, .inl (cI, 3600, .inl (zf (fun _ => 0))))] := hD
  refine lv_aload_n hx hb dX8_init_143 rfl (lv_at hl 0 rfl) ?_
  refine zi_sipush hx hb dX8_init_144 (by decide) ?_
  refine va_newa (atype := .int) (a0 := (7695, .inl (zf (fun _ => 0)))) hx hb (hts _ arrint_X8_init) (ty := .int) rfl hK.1 hP hD hS hA (fun _ => rfl) (by decide) (by decide) (Nat.le_of_ble_eq_true rfl) (Nat.le_of_ble_eq_true rfl) (Nat.le_of_ble_eq_true rfl) dX8_init_147 (fun b147 cA H hKa hP hD hS => ?_)
  have ecA : cA = cI := Option.some.inj ((va_nm_int (hKa.2 3 _ rfl).2).symm.trans (va_nm_int (hK.1.2 0 _ rfl).2))
  rw [ecA] at hP hD
  clear hKa ecA
  have hP : va_P D vwCl [(h0, .inr (8, [.ref b7, .int (zi 0), .ref b15, .int (zi 0), .ref b23, .ref b31, .int (zi 0), .ref b39, .ref b47, .ref b55, .ref b63, .int (zi 0), .ref b71, .ref b79, .ref b87, .ref b95, .ref b103, .int (zi 0), .int (zi 0), .int (zi 0), .ref b111, .int (zi 0), .ref b120, .ref b129, .ref b138, .null, .null, .null, .null, .null, .null, .int (zi 0)])), (b7, .inl (cI, 9, .inl (zf (fun _ => 0)))), (b15, .inl (cI, 6, .inl (zf (fun _ => 0)))), (b23, .inl (cI, 30, .inl (zf (fun _ => 0)))), (b31, .inl (cI, 30, .inl (zf (fun _ => 0)))), (b39, .inl (cI, 60, .inl (zf (fun _ => 0)))), (b47, .inl (cI, 60, .inl (zf (fun _ => 0)))), (b55, .inl (cI, 60, .inl (zf (fun _ => 0)))), (b63, .inl (cI, 60, .inl (zf (fun _ => 0)))), (b71, .inl (cI, 20, .inl (zf (fun _ => 0)))), (b79, .inl (cI, 20, .inl (zf (fun _ => 0)))), (b87, .inl (cI, 20, .inl (zf (fun _ => 0)))), (b95, .inl (cI, 20, .inl (zf (fun _ => 0)))), (b103, .inl (cI, 20, .inl (zf (fun _ => 0)))), (b111, .inl (cI, 60, .inl (zf (fun _ => 0)))), (b120, .inl (cI, 7695, .inl (zf (fun _ => 0)))), (b129, .inl (cI, 3600, .inl (zf (fun _ => 0)))), (b138, .inl (cI, 3600, .inl (zf (fun _ => 0)))), (b147, .inl (cI, 7695, .inl (zf (fun _ => 0))))] H := hP
  have hD : va_D A [(h0, .inr (8, [.ref b7, .int (zi 0), .ref b15, .int (zi 0), .ref b23, .ref b31, .int (zi 0), .ref b39, .ref b47, .ref b55, .ref b63, .int (zi 0), .ref b71, .ref b79, .ref b87, .ref b95, .ref b103, .int (zi 0), .int (zi 0), .int (zi 0), .ref b111, .int (zi 0), .ref b120, .ref b129, .ref b138, .null, .null, .null, .null, .null, .null, .int (zi 0)])), (b7, .inl (cI, 9, .inl (zf (fun _ => 0)))), (b15, .inl (cI, 6, .inl (zf (fun _ => 0)))), (b23, .inl (cI, 30, .inl (zf (fun _ => 0)))), (b31, .inl (cI, 30, .inl (zf (fun _ => 0)))), (b39, .inl (cI, 60, .inl (zf (fun _ => 0)))), (b47, .inl (cI, 60, .inl (zf (fun _ => 0)))), (b55, .inl (cI, 60, .inl (zf (fun _ => 0)))), (b63, .inl (cI, 60, .inl (zf (fun _ => 0)))), (b71, .inl (cI, 20, .inl (zf (fun _ => 0)))), (b79, .inl (cI, 20, .inl (zf (fun _ => 0)))), (b87, .inl (cI, 20, .inl (zf (fun _ => 0)))), (b95, .inl (cI, 20, .inl (zf (fun _ => 0)))), (b103, .inl (cI, 20, .inl (zf (fun _ => 0)))), (b111, .inl (cI, 60, .inl (zf (fun _ => 0)))), (b120, .inl (cI, 7695, .inl (zf (fun _ => 0)))), (b129, .inl (cI, 3600, .inl (zf (fun _ => 0)))), (b138, .inl (cI, 3600, .inl (zf (fun _ => 0)))), (b147, .inl (cI, 7695, .inl (zf (fun _ => 0))))] := hD
  refine va_putF (D := D) (ci := 8) (v := .ref b147) (ty := (.array .int)) (C := RX8) (T := TX8) (N := 32) hx hb hts ic_X8_init_8 tyX8 tyX8_ok nmX8 hown hK.1 hP hD hS 0 rfl rfl 25 (by decide) (hts _ lk25_X8_init) (fun _ h9 => h9) rfl hin rfl (by decide +kernel) rfl rfl (Nat.le_of_ble_eq_true rfl) dX8_init_149 (fun H locs hP hD hS => ?_)
  have hP : va_P D vwCl [(h0, .inr (8, [.ref b7, .int (zi 0), .ref b15, .int (zi 0), .ref b23, .ref b31, .int (zi 0), .ref b39, .ref b47, .ref b55, .ref b63, .int (zi 0), .ref b71, .ref b79, .ref b87, .ref b95, .ref b103, .int (zi 0), .int (zi 0), .int (zi 0), .ref b111, .int (zi 0), .ref b120, .ref b129, .ref b138, .ref b147, .null, .null, .null, .null, .null, .int (zi 0)])), (b7, .inl (cI, 9, .inl (zf (fun _ => 0)))), (b15, .inl (cI, 6, .inl (zf (fun _ => 0)))), (b23, .inl (cI, 30, .inl (zf (fun _ => 0)))), (b31, .inl (cI, 30, .inl (zf (fun _ => 0)))), (b39, .inl (cI, 60, .inl (zf (fun _ => 0)))), (b47, .inl (cI, 60, .inl (zf (fun _ => 0)))), (b55, .inl (cI, 60, .inl (zf (fun _ => 0)))), (b63, .inl (cI, 60, .inl (zf (fun _ => 0)))), (b71, .inl (cI, 20, .inl (zf (fun _ => 0)))), (b79, .inl (cI, 20, .inl (zf (fun _ => 0)))), (b87, .inl (cI, 20, .inl (zf (fun _ => 0)))), (b95, .inl (cI, 20, .inl (zf (fun _ => 0)))), (b103, .inl (cI, 20, .inl (zf (fun _ => 0)))), (b111, .inl (cI, 60, .inl (zf (fun _ => 0)))), (b120, .inl (cI, 7695, .inl (zf (fun _ => 0)))), (b129, .inl (cI, 3600, .inl (zf (fun _ => 0)))), (b138, .inl (cI, 3600, .inl (zf (fun _ => 0)))), (b147, .inl (cI, 7695, .inl (zf (fun _ => 0))))] H := hP
  have hD : va_D A [(h0, .inr (8, [.ref b7, .int (zi 0), .ref b15, .int (zi 0), .ref b23, .ref b31, .int (zi 0), .ref b39, .ref b47, .ref b55, .ref b63, .int (zi 0), .ref b71, .ref b79, .ref b87, .ref b95, .ref b103, .int (zi 0), .int (zi 0), .int (zi 0), .ref b111, .int (zi 0), .ref b120, .ref b129, .ref b138, .ref b147, .null, .null, .null, .null, .null, .int (zi 0)])), (b7, .inl (cI, 9, .inl (zf (fun _ => 0)))), (b15, .inl (cI, 6, .inl (zf (fun _ => 0)))), (b23, .inl (cI, 30, .inl (zf (fun _ => 0)))), (b31, .inl (cI, 30, .inl (zf (fun _ => 0)))), (b39, .inl (cI, 60, .inl (zf (fun _ => 0)))), (b47, .inl (cI, 60, .inl (zf (fun _ => 0)))), (b55, .inl (cI, 60, .inl (zf (fun _ => 0)))), (b63, .inl (cI, 60, .inl (zf (fun _ => 0)))), (b71, .inl (cI, 20, .inl (zf (fun _ => 0)))), (b79, .inl (cI, 20, .inl (zf (fun _ => 0)))), (b87, .inl (cI, 20, .inl (zf (fun _ => 0)))), (b95, .inl (cI, 20, .inl (zf (fun _ => 0)))), (b103, .inl (cI, 20, .inl (zf (fun _ => 0)))), (b111, .inl (cI, 60, .inl (zf (fun _ => 0)))), (b120, .inl (cI, 7695, .inl (zf (fun _ => 0)))), (b129, .inl (cI, 3600, .inl (zf (fun _ => 0)))), (b138, .inl (cI, 3600, .inl (zf (fun _ => 0)))), (b147, .inl (cI, 7695, .inl (zf (fun _ => 0))))] := hD
  refine lv_aload_n hx hb dX8_init_152 rfl (lv_at hl 0 rfl) ?_
  refine zi_sipush hx hb dX8_init_153 (by decide) ?_
  refine va_newa (atype := .int) (a0 := (7695, .inl (zf (fun _ => 0)))) hx hb (hts _ arrint_X8_init) (ty := .int) rfl hK.1 hP hD hS hA (fun _ => rfl) (by decide) (by decide) (Nat.le_of_ble_eq_true rfl) (Nat.le_of_ble_eq_true rfl) (Nat.le_of_ble_eq_true rfl) dX8_init_156 (fun b156 cA H hKa hP hD hS => ?_)
  have ecA : cA = cI := Option.some.inj ((va_nm_int (hKa.2 3 _ rfl).2).symm.trans (va_nm_int (hK.1.2 0 _ rfl).2))
  rw [ecA] at hP hD
  clear hKa ecA
  have hP : va_P D vwCl [(h0, .inr (8, [.ref b7, .int (zi 0), .ref b15, .int (zi 0), .ref b23, .ref b31, .int (zi 0), .ref b39, .ref b47, .ref b55, .ref b63, .int (zi 0), .ref b71, .ref b79, .ref b87, .ref b95, .ref b103, .int (zi 0), .int (zi 0), .int (zi 0), .ref b111, .int (zi 0), .ref b120, .ref b129, .ref b138, .ref b147, .null, .null, .null, .null, .null, .int (zi 0)])), (b7, .inl (cI, 9, .inl (zf (fun _ => 0)))), (b15, .inl (cI, 6, .inl (zf (fun _ => 0)))), (b23, .inl (cI, 30, .inl (zf (fun _ => 0)))), (b31, .inl (cI, 30, .inl (zf (fun _ => 0)))), (b39, .inl (cI, 60, .inl (zf (fun _ => 0)))), (b47, .inl (cI, 60, .inl (zf (fun _ => 0)))), (b55, .inl (cI, 60, .inl (zf (fun _ => 0)))), (b63, .inl (cI, 60, .inl (zf (fun _ => 0)))), (b71, .inl (cI, 20, .inl (zf (fun _ => 0)))), (b79, .inl (cI, 20, .inl (zf (fun _ => 0)))), (b87, .inl (cI, 20, .inl (zf (fun _ => 0)))), (b95, .inl (cI, 20, .inl (zf (fun _ => 0)))), (b103, .inl (cI, 20, .inl (zf (fun _ => 0)))), (b111, .inl (cI, 60, .inl (zf (fun _ => 0)))), (b120, .inl (cI, 7695, .inl (zf (fun _ => 0)))), (b129, .inl (cI, 3600, .inl (zf (fun _ => 0)))), (b138, .inl (cI, 3600, .inl (zf (fun _ => 0)))), (b147, .inl (cI, 7695, .inl (zf (fun _ => 0)))), (b156, .inl (cI, 7695, .inl (zf (fun _ => 0))))] H := hP
  have hD : va_D A [(h0, .inr (8, [.ref b7, .int (zi 0), .ref b15, .int (zi 0), .ref b23, .ref b31, .int (zi 0), .ref b39, .ref b47, .ref b55, .ref b63, .int (zi 0), .ref b71, .ref b79, .ref b87, .ref b95, .ref b103, .int (zi 0), .int (zi 0), .int (zi 0), .ref b111, .int (zi 0), .ref b120, .ref b129, .ref b138, .ref b147, .null, .null, .null, .null, .null, .int (zi 0)])), (b7, .inl (cI, 9, .inl (zf (fun _ => 0)))), (b15, .inl (cI, 6, .inl (zf (fun _ => 0)))), (b23, .inl (cI, 30, .inl (zf (fun _ => 0)))), (b31, .inl (cI, 30, .inl (zf (fun _ => 0)))), (b39, .inl (cI, 60, .inl (zf (fun _ => 0)))), (b47, .inl (cI, 60, .inl (zf (fun _ => 0)))), (b55, .inl (cI, 60, .inl (zf (fun _ => 0)))), (b63, .inl (cI, 60, .inl (zf (fun _ => 0)))), (b71, .inl (cI, 20, .inl (zf (fun _ => 0)))), (b79, .inl (cI, 20, .inl (zf (fun _ => 0)))), (b87, .inl (cI, 20, .inl (zf (fun _ => 0)))), (b95, .inl (cI, 20, .inl (zf (fun _ => 0)))), (b103, .inl (cI, 20, .inl (zf (fun _ => 0)))), (b111, .inl (cI, 60, .inl (zf (fun _ => 0)))), (b120, .inl (cI, 7695, .inl (zf (fun _ => 0)))), (b129, .inl (cI, 3600, .inl (zf (fun _ => 0)))), (b138, .inl (cI, 3600, .inl (zf (fun _ => 0)))), (b147, .inl (cI, 7695, .inl (zf (fun _ => 0)))), (b156, .inl (cI, 7695, .inl (zf (fun _ => 0))))] := hD
  refine va_putF (D := D) (ci := 8) (v := .ref b156) (ty := (.array .int)) (C := RX8) (T := TX8) (N := 32) hx hb hts ic_X8_init_8 tyX8 tyX8_ok nmX8 hown hK.1 hP hD hS 0 rfl rfl 26 (by decide) (hts _ lk26_X8_init) (fun _ h9 => h9) rfl hin rfl (by decide +kernel) rfl rfl (Nat.le_of_ble_eq_true rfl) dX8_init_158 (fun H locs hP hD hS => ?_)
  have hP : va_P D vwCl [(h0, .inr (8, [.ref b7, .int (zi 0), .ref b15, .int (zi 0), .ref b23, .ref b31, .int (zi 0), .ref b39, .ref b47, .ref b55, .ref b63, .int (zi 0), .ref b71, .ref b79, .ref b87, .ref b95, .ref b103, .int (zi 0), .int (zi 0), .int (zi 0), .ref b111, .int (zi 0), .ref b120, .ref b129, .ref b138, .ref b147, .ref b156, .null, .null, .null, .null, .int (zi 0)])), (b7, .inl (cI, 9, .inl (zf (fun _ => 0)))), (b15, .inl (cI, 6, .inl (zf (fun _ => 0)))), (b23, .inl (cI, 30, .inl (zf (fun _ => 0)))), (b31, .inl (cI, 30, .inl (zf (fun _ => 0)))), (b39, .inl (cI, 60, .inl (zf (fun _ => 0)))), (b47, .inl (cI, 60, .inl (zf (fun _ => 0)))), (b55, .inl (cI, 60, .inl (zf (fun _ => 0)))), (b63, .inl (cI, 60, .inl (zf (fun _ => 0)))), (b71, .inl (cI, 20, .inl (zf (fun _ => 0)))), (b79, .inl (cI, 20, .inl (zf (fun _ => 0)))), (b87, .inl (cI, 20, .inl (zf (fun _ => 0)))), (b95, .inl (cI, 20, .inl (zf (fun _ => 0)))), (b103, .inl (cI, 20, .inl (zf (fun _ => 0)))), (b111, .inl (cI, 60, .inl (zf (fun _ => 0)))), (b120, .inl (cI, 7695, .inl (zf (fun _ => 0)))), (b129, .inl (cI, 3600, .inl (zf (fun _ => 0)))), (b138, .inl (cI, 3600, .inl (zf (fun _ => 0)))), (b147, .inl (cI, 7695, .inl (zf (fun _ => 0)))), (b156, .inl (cI, 7695, .inl (zf (fun _ => 0))))] H := hP
  have hD : va_D A [(h0, .inr (8, [.ref b7, .int (zi 0), .ref b15, .int (zi 0), .ref b23, .ref b31, .int (zi 0), .ref b39, .ref b47, .ref b55, .ref b63, .int (zi 0), .ref b71, .ref b79, .ref b87, .ref b95, .ref b103, .int (zi 0), .int (zi 0), .int (zi 0), .ref b111, .int (zi 0), .ref b120, .ref b129, .ref b138, .ref b147, .ref b156, .null, .null, .null, .null, .int (zi 0)])), (b7, .inl (cI, 9, .inl (zf (fun _ => 0)))), (b15, .inl (cI, 6, .inl (zf (fun _ => 0)))), (b23, .inl (cI, 30, .inl (zf (fun _ => 0)))), (b31, .inl (cI, 30, .inl (zf (fun _ => 0)))), (b39, .inl (cI, 60, .inl (zf (fun _ => 0)))), (b47, .inl (cI, 60, .inl (zf (fun _ => 0)))), (b55, .inl (cI, 60, .inl (zf (fun _ => 0)))), (b63, .inl (cI, 60, .inl (zf (fun _ => 0)))), (b71, .inl (cI, 20, .inl (zf (fun _ => 0)))), (b79, .inl (cI, 20, .inl (zf (fun _ => 0)))), (b87, .inl (cI, 20, .inl (zf (fun _ => 0)))), (b95, .inl (cI, 20, .inl (zf (fun _ => 0)))), (b103, .inl (cI, 20, .inl (zf (fun _ => 0)))), (b111, .inl (cI, 60, .inl (zf (fun _ => 0)))), (b120, .inl (cI, 7695, .inl (zf (fun _ => 0)))), (b129, .inl (cI, 3600, .inl (zf (fun _ => 0)))), (b138, .inl (cI, 3600, .inl (zf (fun _ => 0)))), (b147, .inl (cI, 7695, .inl (zf (fun _ => 0)))), (b156, .inl (cI, 7695, .inl (zf (fun _ => 0))))] := hD
  refine lv_aload_n hx hb dX8_init_161 rfl (lv_at hl 0 rfl) ?_
  refine zi_sipush hx hb dX8_init_162 (by decide) ?_
  refine va_newa (atype := .boolean) (a0 := (7695, .inl (zf (fun _ => 0)))) hx hb (hts _ arrboolean_X8_init) (ty := .boolean) rfl hK.1 hP hD hS hA (fun _ => rfl) (by decide) (by decide) (Nat.le_of_ble_eq_true rfl) (Nat.le_of_ble_eq_true rfl) (Nat.le_of_ble_eq_true rfl) dX8_init_165 (fun b165 cA H hKa hP hD hS => ?_)
  have ecA : cA = cZ := Option.some.inj ((va_nm_boolean (hKa.2 3 _ rfl).2).symm.trans (va_nm_boolean (hK.1.2 1 _ rfl).2))
  rw [ecA] at hP hD
  clear hKa ecA
  have hP : va_P D vwCl [(h0, .inr (8, [.ref b7, .int (zi 0), .ref b15, .int (zi 0), .ref b23, .ref b31, .int (zi 0), .ref b39, .ref b47, .ref b55, .ref b63, .int (zi 0), .ref b71, .ref b79, .ref b87, .ref b95, .ref b103, .int (zi 0), .int (zi 0), .int (zi 0), .ref b111, .int (zi 0), .ref b120, .ref b129, .ref b138, .ref b147, .ref b156, .null, .null, .null, .null, .int (zi 0)])), (b7, .inl (cI, 9, .inl (zf (fun _ => 0)))), (b15, .inl (cI, 6, .inl (zf (fun _ => 0)))), (b23, .inl (cI, 30, .inl (zf (fun _ => 0)))), (b31, .inl (cI, 30, .inl (zf (fun _ => 0)))), (b39, .inl (cI, 60, .inl (zf (fun _ => 0)))), (b47, .inl (cI, 60, .inl (zf (fun _ => 0)))), (b55, .inl (cI, 60, .inl (zf (fun _ => 0)))), (b63, .inl (cI, 60, .inl (zf (fun _ => 0)))), (b71, .inl (cI, 20, .inl (zf (fun _ => 0)))), (b79, .inl (cI, 20, .inl (zf (fun _ => 0)))), (b87, .inl (cI, 20, .inl (zf (fun _ => 0)))), (b95, .inl (cI, 20, .inl (zf (fun _ => 0)))), (b103, .inl (cI, 20, .inl (zf (fun _ => 0)))), (b111, .inl (cI, 60, .inl (zf (fun _ => 0)))), (b120, .inl (cI, 7695, .inl (zf (fun _ => 0)))), (b129, .inl (cI, 3600, .inl (zf (fun _ => 0)))), (b138, .inl (cI, 3600, .inl (zf (fun _ => 0)))), (b147, .inl (cI, 7695, .inl (zf (fun _ => 0)))), (b156, .inl (cI, 7695, .inl (zf (fun _ => 0)))), (b165, .inl (cZ, 7695, .inl (zf (fun _ => 0))))] H := hP
  have hD : va_D A [(h0, .inr (8, [.ref b7, .int (zi 0), .ref b15, .int (zi 0), .ref b23, .ref b31, .int (zi 0), .ref b39, .ref b47, .ref b55, .ref b63, .int (zi 0), .ref b71, .ref b79, .ref b87, .ref b95, .ref b103, .int (zi 0), .int (zi 0), .int (zi 0), .ref b111, .int (zi 0), .ref b120, .ref b129, .ref b138, .ref b147, .ref b156, .null, .null, .null, .null, .int (zi 0)])), (b7, .inl (cI, 9, .inl (zf (fun _ => 0)))), (b15, .inl (cI, 6, .inl (zf (fun _ => 0)))), (b23, .inl (cI, 30, .inl (zf (fun _ => 0)))), (b31, .inl (cI, 30, .inl (zf (fun _ => 0)))), (b39, .inl (cI, 60, .inl (zf (fun _ => 0)))), (b47, .inl (cI, 60, .inl (zf (fun _ => 0)))), (b55, .inl (cI, 60, .inl (zf (fun _ => 0)))), (b63, .inl (cI, 60, .inl (zf (fun _ => 0)))), (b71, .inl (cI, 20, .inl (zf (fun _ => 0)))), (b79, .inl (cI, 20, .inl (zf (fun _ => 0)))), (b87, .inl (cI, 20, .inl (zf (fun _ => 0)))), (b95, .inl (cI, 20, .inl (zf (fun _ => 0)))), (b103, .inl (cI, 20, .inl (zf (fun _ => 0)))), (b111, .inl (cI, 60, .inl (zf (fun _ => 0)))), (b120, .inl (cI, 7695, .inl (zf (fun _ => 0)))), (b129, .inl (cI, 3600, .inl (zf (fun _ => 0)))), (b138, .inl (cI, 3600, .inl (zf (fun _ => 0)))), (b147, .inl (cI, 7695, .inl (zf (fun _ => 0)))), (b156, .inl (cI, 7695, .inl (zf (fun _ => 0)))), (b165, .inl (cZ, 7695, .inl (zf (fun _ => 0))))] := hD
  refine va_putF (D := D) (ci := 8) (v := .ref b165) (ty := (.array .boolean)) (C := RX8) (T := TX8) (N := 32) hx hb hts ic_X8_init_8 tyX8 tyX8_ok nmX8 hown hK.1 hP hD hS 0 rfl rfl 27 (by decide) (hts _ lk27_X8_init) (fun _ h9 => h9) rfl hin rfl (by decide +kernel) rfl rfl (Nat.le_of_ble_eq_true rfl) dX8_init_167 (fun H locs hP hD hS => ?_)
  have hP : va_P D vwCl [(h0, .inr (8, [.ref b7, .int (zi 0), .ref b15, .int (zi 0), .ref b23, .ref b31, .int (zi 0), .ref b39, .ref b47, .ref b55, .ref b63, .int (zi 0), .ref b71, .ref b79, .ref b87, .ref b95, .ref b103, .int (zi 0), .int (zi 0), .int (zi 0), .ref b111, .int (zi 0), .ref b120, .ref b129, .ref b138, .ref b147, .ref b156, .ref b165, .null, .null, .null, .int (zi 0)])), (b7, .inl (cI, 9, .inl (zf (fun _ => 0)))), (b15, .inl (cI, 6, .inl (zf (fun _ => 0)))), (b23, .inl (cI, 30, .inl (zf (fun _ => 0)))), (b31, .inl (cI, 30, .inl (zf (fun _ => 0)))), (b39, .inl (cI, 60, .inl (zf (fun _ => 0)))), (b47, .inl (cI, 60, .inl (zf (fun _ => 0)))), (b55, .inl (cI, 60, .inl (zf (fun _ => 0)))), (b63, .inl (cI, 60, .inl (zf (fun _ => 0)))), (b71, .inl (cI, 20, .inl (zf (fun _ => 0)))), (b79, .inl (cI, 20, .inl (zf (fun _ => 0)))), (b87, .inl (cI, 20, .inl (zf (fun _ => 0)))), (b95, .inl (cI, 20, .inl (zf (fun _ => 0)))), (b103, .inl (cI, 20, .inl (zf (fun _ => 0)))), (b111, .inl (cI, 60, .inl (zf (fun _ => 0)))), (b120, .inl (cI, 7695, .inl (zf (fun _ => 0)))), (b129, .inl (cI, 3600, .inl (zf (fun _ => 0)))), (b138, .inl (cI, 3600, .inl (zf (fun _ => 0)))), (b147, .inl (cI, 7695, .inl (zf (fun _ => 0)))), (b156, .inl (cI, 7695, .inl (zf (fun _ => 0)))), (b165, .inl (cZ, 7695, .inl (zf (fun _ => 0))))] H := hP
  have hD : va_D A [(h0, .inr (8, [.ref b7, .int (zi 0), .ref b15, .int (zi 0), .ref b23, .ref b31, .int (zi 0), .ref b39, .ref b47, .ref b55, .ref b63, .int (zi 0), .ref b71, .ref b79, .ref b87, .ref b95, .ref b103, .int (zi 0), .int (zi 0), .int (zi 0), .ref b111, .int (zi 0), .ref b120, .ref b129, .ref b138, .ref b147, .ref b156, .ref b165, .null, .null, .null, .int (zi 0)])), (b7, .inl (cI, 9, .inl (zf (fun _ => 0)))), (b15, .inl (cI, 6, .inl (zf (fun _ => 0)))), (b23, .inl (cI, 30, .inl (zf (fun _ => 0)))), (b31, .inl (cI, 30, .inl (zf (fun _ => 0)))), (b39, .inl (cI, 60, .inl (zf (fun _ => 0)))), (b47, .inl (cI, 60, .inl (zf (fun _ => 0)))), (b55, .inl (cI, 60, .inl (zf (fun _ => 0)))), (b63, .inl (cI, 60, .inl (zf (fun _ => 0)))), (b71, .inl (cI, 20, .inl (zf (fun _ => 0)))), (b79, .inl (cI, 20, .inl (zf (fun _ => 0)))), (b87, .inl (cI, 20, .inl (zf (fun _ => 0)))), (b95, .inl (cI, 20, .inl (zf (fun _ => 0)))), (b103, .inl (cI, 20, .inl (zf (fun _ => 0)))), (b111, .inl (cI, 60, .inl (zf (fun _ => 0)))), (b120, .inl (cI, 7695, .inl (zf (fun _ => 0)))), (b129, .inl (cI, 3600, .inl (zf (fun _ => 0)))), (b138, .inl (cI, 3600, .inl (zf (fun _ => 0)))), (b147, .inl (cI, 7695, .inl (zf (fun _ => 0)))), (b156, .inl (cI, 7695, .inl (zf (fun _ => 0)))), (b165, .inl (cZ, 7695, .inl (zf (fun _ => 0))))] := hD
  refine lv_aload_n hx hb dX8_init_170 rfl (lv_at hl 0 rfl) ?_
  refine zi_bipush hx hb dX8_init_171 (by decide) ?_
  refine va_newa (atype := .int) (a0 := (20, .inl (zf (fun _ => 0)))) hx hb (hts _ arrint_X8_init) (ty := .int) rfl hK.1 hP hD hS hA (fun _ => rfl) (by decide) (by decide) (Nat.le_of_ble_eq_true rfl) (Nat.le_of_ble_eq_true rfl) (Nat.le_of_ble_eq_true rfl) dX8_init_173 (fun b173 cA H hKa hP hD hS => ?_)
  have ecA : cA = cI := Option.some.inj ((va_nm_int (hKa.2 3 _ rfl).2).symm.trans (va_nm_int (hK.1.2 0 _ rfl).2))
  rw [ecA] at hP hD
  clear hKa ecA
  have hP : va_P D vwCl [(h0, .inr (8, [.ref b7, .int (zi 0), .ref b15, .int (zi 0), .ref b23, .ref b31, .int (zi 0), .ref b39, .ref b47, .ref b55, .ref b63, .int (zi 0), .ref b71, .ref b79, .ref b87, .ref b95, .ref b103, .int (zi 0), .int (zi 0), .int (zi 0), .ref b111, .int (zi 0), .ref b120, .ref b129, .ref b138, .ref b147, .ref b156, .ref b165, .null, .null, .null, .int (zi 0)])), (b7, .inl (cI, 9, .inl (zf (fun _ => 0)))), (b15, .inl (cI, 6, .inl (zf (fun _ => 0)))), (b23, .inl (cI, 30, .inl (zf (fun _ => 0)))), (b31, .inl (cI, 30, .inl (zf (fun _ => 0)))), (b39, .inl (cI, 60, .inl (zf (fun _ => 0)))), (b47, .inl (cI, 60, .inl (zf (fun _ => 0)))), (b55, .inl (cI, 60, .inl (zf (fun _ => 0)))), (b63, .inl (cI, 60, .inl (zf (fun _ => 0)))), (b71, .inl (cI, 20, .inl (zf (fun _ => 0)))), (b79, .inl (cI, 20, .inl (zf (fun _ => 0)))), (b87, .inl (cI, 20, .inl (zf (fun _ => 0)))), (b95, .inl (cI, 20, .inl (zf (fun _ => 0)))), (b103, .inl (cI, 20, .inl (zf (fun _ => 0)))), (b111, .inl (cI, 60, .inl (zf (fun _ => 0)))), (b120, .inl (cI, 7695, .inl (zf (fun _ => 0)))), (b129, .inl (cI, 3600, .inl (zf (fun _ => 0)))), (b138, .inl (cI, 3600, .inl (zf (fun _ => 0)))), (b147, .inl (cI, 7695, .inl (zf (fun _ => 0)))), (b156, .inl (cI, 7695, .inl (zf (fun _ => 0)))), (b165, .inl (cZ, 7695, .inl (zf (fun _ => 0)))), (b173, .inl (cI, 20, .inl (zf (fun _ => 0))))] H := hP
  have hD : va_D A [(h0, .inr (8, [.ref b7, .int (zi 0), .ref b15, .int (zi 0), .ref b23, .ref b31, .int (zi 0), .ref b39, .ref b47, .ref b55, .ref b63, .int (zi 0), .ref b71, .ref b79, .ref b87, .ref b95, .ref b103, .int (zi 0), .int (zi 0), .int (zi 0), .ref b111, .int (zi 0), .ref b120, .ref b129, .ref b138, .ref b147, .ref b156, .ref b165, .null, .null, .null, .int (zi 0)])), (b7, .inl (cI, 9, .inl (zf (fun _ => 0)))), (b15, .inl (cI, 6, .inl (zf (fun _ => 0)))), (b23, .inl (cI, 30, .inl (zf (fun _ => 0)))), (b31, .inl (cI, 30, .inl (zf (fun _ => 0)))), (b39, .inl (cI, 60, .inl (zf (fun _ => 0)))), (b47, .inl (cI, 60, .inl (zf (fun _ => 0)))), (b55, .inl (cI, 60, .inl (zf (fun _ => 0)))), (b63, .inl (cI, 60, .inl (zf (fun _ => 0)))), (b71, .inl (cI, 20, .inl (zf (fun _ => 0)))), (b79, .inl (cI, 20, .inl (zf (fun _ => 0)))), (b87, .inl (cI, 20, .inl (zf (fun _ => 0)))), (b95, .inl (cI, 20, .inl (zf (fun _ => 0)))), (b103, .inl (cI, 20, .inl (zf (fun _ => 0)))), (b111, .inl (cI, 60, .inl (zf (fun _ => 0)))), (b120, .inl (cI, 7695, .inl (zf (fun _ => 0)))), (b129, .inl (cI, 3600, .inl (zf (fun _ => 0)))), (b138, .inl (cI, 3600, .inl (zf (fun _ => 0)))), (b147, .inl (cI, 7695, .inl (zf (fun _ => 0)))), (b156, .inl (cI, 7695, .inl (zf (fun _ => 0)))), (b165, .inl (cZ, 7695, .inl (zf (fun _ => 0)))), (b173, .inl (cI, 20, .inl (zf (fun _ => 0))))] := hD
  refine va_putF (D := D) (ci := 8) (v := .ref b173) (ty := (.array .int)) (C := RX8) (T := TX8) (N := 32) hx hb hts ic_X8_init_8 tyX8 tyX8_ok nmX8 hown hK.1 hP hD hS 0 rfl rfl 28 (by decide) (hts _ lk28_X8_init) (fun _ h9 => h9) rfl hin rfl (by decide +kernel) rfl rfl (Nat.le_of_ble_eq_true rfl) dX8_init_175 (fun H locs hP hD hS => ?_)
  have hP : va_P D vwCl [(h0, .inr (8, [.ref b7, .int (zi 0), .ref b15, .int (zi 0), .ref b23, .ref b31, .int (zi 0), .ref b39, .ref b47, .ref b55, .ref b63, .int (zi 0), .ref b71, .ref b79, .ref b87, .ref b95, .ref b103, .int (zi 0), .int (zi 0), .int (zi 0), .ref b111, .int (zi 0), .ref b120, .ref b129, .ref b138, .ref b147, .ref b156, .ref b165, .ref b173, .null, .null, .int (zi 0)])), (b7, .inl (cI, 9, .inl (zf (fun _ => 0)))), (b15, .inl (cI, 6, .inl (zf (fun _ => 0)))), (b23, .inl (cI, 30, .inl (zf (fun _ => 0)))), (b31, .inl (cI, 30, .inl (zf (fun _ => 0)))), (b39, .inl (cI, 60, .inl (zf (fun _ => 0)))), (b47, .inl (cI, 60, .inl (zf (fun _ => 0)))), (b55, .inl (cI, 60, .inl (zf (fun _ => 0)))), (b63, .inl (cI, 60, .inl (zf (fun _ => 0)))), (b71, .inl (cI, 20, .inl (zf (fun _ => 0)))), (b79, .inl (cI, 20, .inl (zf (fun _ => 0)))), (b87, .inl (cI, 20, .inl (zf (fun _ => 0)))), (b95, .inl (cI, 20, .inl (zf (fun _ => 0)))), (b103, .inl (cI, 20, .inl (zf (fun _ => 0)))), (b111, .inl (cI, 60, .inl (zf (fun _ => 0)))), (b120, .inl (cI, 7695, .inl (zf (fun _ => 0)))), (b129, .inl (cI, 3600, .inl (zf (fun _ => 0)))), (b138, .inl (cI, 3600, .inl (zf (fun _ => 0)))), (b147, .inl (cI, 7695, .inl (zf (fun _ => 0)))), (b156, .inl (cI, 7695, .inl (zf (fun _ => 0)))), (b165, .inl (cZ, 7695, .inl (zf (fun _ => 0)))), (b173, .inl (cI, 20, .inl (zf (fun _ => 0))))] H := hP
  have hD : va_D A [(h0, .inr (8, [.ref b7, .int (zi 0), .ref b15, .int (zi 0), .ref b23, .ref b31, .int (zi 0), .ref b39, .ref b47, .ref b55, .ref b63, .int (zi 0), .ref b71, .ref b79, .ref b87, .ref b95, .ref b103, .int (zi 0), .int (zi 0), .int (zi 0), .ref b111, .int (zi 0), .ref b120, .ref b129, .ref b138, .ref b147, .ref b156, .ref b165, .ref b173, .null, .null, .int (zi 0)])), (b7, .inl (cI, 9, .inl (zf (fun _ => 0)))), (b15, .inl (cI, 6, .inl (zf (fun _ => 0)))), (b23, .inl (cI, 30, .inl (zf (fun _ => 0)))), (b31, .inl (cI, 30, .inl (zf (fun _ => 0)))), (b39, .inl (cI, 60, .inl (zf (fun _ => 0)))), (b47, .inl (cI, 60, .inl (zf (fun _ => 0)))), (b55, .inl (cI, 60, .inl (zf (fun _ => 0)))), (b63, .inl (cI, 60, .inl (zf (fun _ => 0)))), (b71, .inl (cI, 20, .inl (zf (fun _ => 0)))), (b79, .inl (cI, 20, .inl (zf (fun _ => 0)))), (b87, .inl (cI, 20, .inl (zf (fun _ => 0)))), (b95, .inl (cI, 20, .inl (zf (fun _ => 0)))), (b103, .inl (cI, 20, .inl (zf (fun _ => 0)))), (b111, .inl (cI, 60, .inl (zf (fun _ => 0)))), (b120, .inl (cI, 7695, .inl (zf (fun _ => 0)))), (b129, .inl (cI, 3600, .inl (zf (fun _ => 0)))), (b138, .inl (cI, 3600, .inl (zf (fun _ => 0)))), (b147, .inl (cI, 7695, .inl (zf (fun _ => 0)))), (b156, .inl (cI, 7695, .inl (zf (fun _ => 0)))), (b165, .inl (cZ, 7695, .inl (zf (fun _ => 0)))), (b173, .inl (cI, 20, .inl (zf (fun _ => 0))))] := hD
  refine lv_aload_n hx hb dX8_init_178 rfl (lv_at hl 0 rfl) ?_
  refine zi_bipush hx hb dX8_init_179 (by decide) ?_
  refine va_newa (atype := .int) (a0 := (20, .inl (zf (fun _ => 0)))) hx hb (hts _ arrint_X8_init) (ty := .int) rfl hK.1 hP hD hS hA (fun _ => rfl) (by decide) (by decide) (Nat.le_of_ble_eq_true rfl) (Nat.le_of_ble_eq_true rfl) (Nat.le_of_ble_eq_true rfl) dX8_init_181 (fun b181 cA H hKa hP hD hS => ?_)
  have ecA : cA = cI := Option.some.inj ((va_nm_int (hKa.2 3 _ rfl).2).symm.trans (va_nm_int (hK.1.2 0 _ rfl).2))
  rw [ecA] at hP hD
  clear hKa ecA
  have hP : va_P D vwCl [(h0, .inr (8, [.ref b7, .int (zi 0), .ref b15, .int (zi 0), .ref b23, .ref b31, .int (zi 0), .ref b39, .ref b47, .ref b55, .ref b63, .int (zi 0), .ref b71, .ref b79, .ref b87, .ref b95, .ref b103, .int (zi 0), .int (zi 0), .int (zi 0), .ref b111, .int (zi 0), .ref b120, .ref b129, .ref b138, .ref b147, .ref b156, .ref b165, .ref b173, .null, .null, .int (zi 0)])), (b7, .inl (cI, 9, .inl (zf (fun _ => 0)))), (b15, .inl (cI, 6, .inl (zf (fun _ => 0)))), (b23, .inl (cI, 30, .inl (zf (fun _ => 0)))), (b31, .inl (cI, 30, .inl (zf (fun _ => 0)))), (b39, .inl (cI, 60, .inl (zf (fun _ => 0)))), (b47, .inl (cI, 60, .inl (zf (fun _ => 0)))), (b55, .inl (cI, 60, .inl (zf (fun _ => 0)))), (b63, .inl (cI, 60, .inl (zf (fun _ => 0)))), (b71, .inl (cI, 20, .inl (zf (fun _ => 0)))), (b79, .inl (cI, 20, .inl (zf (fun _ => 0)))), (b87, .inl (cI, 20, .inl (zf (fun _ => 0)))), (b95, .inl (cI, 20, .inl (zf (fun _ => 0)))), (b103, .inl (cI, 20, .inl (zf (fun _ => 0)))), (b111, .inl (cI, 60, .inl (zf (fun _ => 0)))), (b120, .inl (cI, 7695, .inl (zf (fun _ => 0)))), (b129, .inl (cI, 3600, .inl (zf (fun _ => 0)))), (b138, .inl (cI, 3600, .inl (zf (fun _ => 0)))), (b147, .inl (cI, 7695, .inl (zf (fun _ => 0)))), (b156, .inl (cI, 7695, .inl (zf (fun _ => 0)))), (b165, .inl (cZ, 7695, .inl (zf (fun _ => 0)))), (b173, .inl (cI, 20, .inl (zf (fun _ => 0)))), (b181, .inl (cI, 20, .inl (zf (fun _ => 0))))] H := hP
  have hD : va_D A [(h0, .inr (8, [.ref b7, .int (zi 0), .ref b15, .int (zi 0), .ref b23, .ref b31, .int (zi 0), .ref b39, .ref b47, .ref b55, .ref b63, .int (zi 0), .ref b71, .ref b79, .ref b87, .ref b95, .ref b103, .int (zi 0), .int (zi 0), .int (zi 0), .ref b111, .int (zi 0), .ref b120, .ref b129, .ref b138, .ref b147, .ref b156, .ref b165, .ref b173, .null, .null, .int (zi 0)])), (b7, .inl (cI, 9, .inl (zf (fun _ => 0)))), (b15, .inl (cI, 6, .inl (zf (fun _ => 0)))), (b23, .inl (cI, 30, .inl (zf (fun _ => 0)))), (b31, .inl (cI, 30, .inl (zf (fun _ => 0)))), (b39, .inl (cI, 60, .inl (zf (fun _ => 0)))), (b47, .inl (cI, 60, .inl (zf (fun _ => 0)))), (b55, .inl (cI, 60, .inl (zf (fun _ => 0)))), (b63, .inl (cI, 60, .inl (zf (fun _ => 0)))), (b71, .inl (cI, 20, .inl (zf (fun _ => 0)))), (b79, .inl (cI, 20, .inl (zf (fun _ => 0)))), (b87, .inl (cI, 20, .inl (zf (fun _ => 0)))), (b95, .inl (cI, 20, .inl (zf (fun _ => 0)))), (b103, .inl (cI, 20, .inl (zf (fun _ => 0)))), (b111, .inl (cI, 60, .inl (zf (fun _ => 0)))), (b120, .inl (cI, 7695, .inl (zf (fun _ => 0)))), (b129, .inl (cI, 3600, .inl (zf (fun _ => 0)))), (b138, .inl (cI, 3600, .inl (zf (fun _ => 0)))), (b147, .inl (cI, 7695, .inl (zf (fun _ => 0)))), (b156, .inl (cI, 7695, .inl (zf (fun _ => 0)))), (b165, .inl (cZ, 7695, .inl (zf (fun _ => 0)))), (b173, .inl (cI, 20, .inl (zf (fun _ => 0)))), (b181, .inl (cI, 20, .inl (zf (fun _ => 0))))] := hD
  refine va_putF (D := D) (ci := 8) (v := .ref b181) (ty := (.array .int)) (C := RX8) (T := TX8) (N := 32) hx hb hts ic_X8_init_8 tyX8 tyX8_ok nmX8 hown hK.1 hP hD hS 0 rfl rfl 29 (by decide) (hts _ lk29_X8_init) (fun _ h9 => h9) rfl hin rfl (by decide +kernel) rfl rfl (Nat.le_of_ble_eq_true rfl) dX8_init_183 (fun H locs hP hD hS => ?_)
  have hP : va_P D vwCl [(h0, .inr (8, [.ref b7, .int (zi 0), .ref b15, .int (zi 0), .ref b23, .ref b31, .int (zi 0), .ref b39, .ref b47, .ref b55, .ref b63, .int (zi 0), .ref b71, .ref b79, .ref b87, .ref b95, .ref b103, .int (zi 0), .int (zi 0), .int (zi 0), .ref b111, .int (zi 0), .ref b120, .ref b129, .ref b138, .ref b147, .ref b156, .ref b165, .ref b173, .ref b181, .null, .int (zi 0)])), (b7, .inl (cI, 9, .inl (zf (fun _ => 0)))), (b15, .inl (cI, 6, .inl (zf (fun _ => 0)))), (b23, .inl (cI, 30, .inl (zf (fun _ => 0)))), (b31, .inl (cI, 30, .inl (zf (fun _ => 0)))), (b39, .inl (cI, 60, .inl (zf (fun _ => 0)))), (b47, .inl (cI, 60, .inl (zf (fun _ => 0)))), (b55, .inl (cI, 60, .inl (zf (fun _ => 0)))), (b63, .inl (cI, 60, .inl (zf (fun _ => 0)))), (b71, .inl (cI, 20, .inl (zf (fun _ => 0)))), (b79, .inl (cI, 20, .inl (zf (fun _ => 0)))), (b87, .inl (cI, 20, .inl (zf (fun _ => 0)))), (b95, .inl (cI, 20, .inl (zf (fun _ => 0)))), (b103, .inl (cI, 20, .inl (zf (fun _ => 0)))), (b111, .inl (cI, 60, .inl (zf (fun _ => 0)))), (b120, .inl (cI, 7695, .inl (zf (fun _ => 0)))), (b129, .inl (cI, 3600, .inl (zf (fun _ => 0)))), (b138, .inl (cI, 3600, .inl (zf (fun _ => 0)))), (b147, .inl (cI, 7695, .inl (zf (fun _ => 0)))), (b156, .inl (cI, 7695, .inl (zf (fun _ => 0)))), (b165, .inl (cZ, 7695, .inl (zf (fun _ => 0)))), (b173, .inl (cI, 20, .inl (zf (fun _ => 0)))), (b181, .inl (cI, 20, .inl (zf (fun _ => 0))))] H := hP
  have hD : va_D A [(h0, .inr (8, [.ref b7, .int (zi 0), .ref b15, .int (zi 0), .ref b23, .ref b31, .int (zi 0), .ref b39, .ref b47, .ref b55, .ref b63, .int (zi 0), .ref b71, .ref b79, .ref b87, .ref b95, .ref b103, .int (zi 0), .int (zi 0), .int (zi 0), .ref b111, .int (zi 0), .ref b120, .ref b129, .ref b138, .ref b147, .ref b156, .ref b165, .ref b173, .ref b181, .null, .int (zi 0)])), (b7, .inl (cI, 9, .inl (zf (fun _ => 0)))), (b15, .inl (cI, 6, .inl (zf (fun _ => 0)))), (b23, .inl (cI, 30, .inl (zf (fun _ => 0)))), (b31, .inl (cI, 30, .inl (zf (fun _ => 0)))), (b39, .inl (cI, 60, .inl (zf (fun _ => 0)))), (b47, .inl (cI, 60, .inl (zf (fun _ => 0)))), (b55, .inl (cI, 60, .inl (zf (fun _ => 0)))), (b63, .inl (cI, 60, .inl (zf (fun _ => 0)))), (b71, .inl (cI, 20, .inl (zf (fun _ => 0)))), (b79, .inl (cI, 20, .inl (zf (fun _ => 0)))), (b87, .inl (cI, 20, .inl (zf (fun _ => 0)))), (b95, .inl (cI, 20, .inl (zf (fun _ => 0)))), (b103, .inl (cI, 20, .inl (zf (fun _ => 0)))), (b111, .inl (cI, 60, .inl (zf (fun _ => 0)))), (b120, .inl (cI, 7695, .inl (zf (fun _ => 0)))), (b129, .inl (cI, 3600, .inl (zf (fun _ => 0)))), (b138, .inl (cI, 3600, .inl (zf (fun _ => 0)))), (b147, .inl (cI, 7695, .inl (zf (fun _ => 0)))), (b156, .inl (cI, 7695, .inl (zf (fun _ => 0)))), (b165, .inl (cZ, 7695, .inl (zf (fun _ => 0)))), (b173, .inl (cI, 20, .inl (zf (fun _ => 0)))), (b181, .inl (cI, 20, .inl (zf (fun _ => 0))))] := hD
  refine lv_aload_n hx hb dX8_init_186 rfl (lv_at hl 0 rfl) ?_
  refine zi_bipush hx hb dX8_init_187 (by decide) ?_
  refine va_newa (atype := .int) (a0 := (20, .inl (zf (fun _ => 0)))) hx hb (hts _ arrint_X8_init) (ty := .int) rfl hK.1 hP hD hS hA (fun _ => rfl) (by decide) (by decide) (Nat.le_of_ble_eq_true rfl) (Nat.le_of_ble_eq_true rfl) (Nat.le_of_ble_eq_true rfl) dX8_init_189 (fun b189 cA H hKa hP hD hS => ?_)
  have ecA : cA = cI := Option.some.inj ((va_nm_int (hKa.2 3 _ rfl).2).symm.trans (va_nm_int (hK.1.2 0 _ rfl).2))
  rw [ecA] at hP hD
  clear hKa ecA
  have hP : va_P D vwCl [(h0, .inr (8, [.ref b7, .int (zi 0), .ref b15, .int (zi 0), .ref b23, .ref b31, .int (zi 0), .ref b39, .ref b47, .ref b55, .ref b63, .int (zi 0), .ref b71, .ref b79, .ref b87, .ref b95, .ref b103, .int (zi 0), .int (zi 0), .int (zi 0), .ref b111, .int (zi 0), .ref b120, .ref b129, .ref b138, .ref b147, .ref b156, .ref b165, .ref b173, .ref b181, .null, .int (zi 0)])), (b7, .inl (cI, 9, .inl (zf (fun _ => 0)))), (b15, .inl (cI, 6, .inl (zf (fun _ => 0)))), (b23, .inl (cI, 30, .inl (zf (fun _ => 0)))), (b31, .inl (cI, 30, .inl (zf (fun _ => 0)))), (b39, .inl (cI, 60, .inl (zf (fun _ => 0)))), (b47, .inl (cI, 60, .inl (zf (fun _ => 0)))), (b55, .inl (cI, 60, .inl (zf (fun _ => 0)))), (b63, .inl (cI, 60, .inl (zf (fun _ => 0)))), (b71, .inl (cI, 20, .inl (zf (fun _ => 0)))), (b79, .inl (cI, 20, .inl (zf (fun _ => 0)))), (b87, .inl (cI, 20, .inl (zf (fun _ => 0)))), (b95, .inl (cI, 20, .inl (zf (fun _ => 0)))), (b103, .inl (cI, 20, .inl (zf (fun _ => 0)))), (b111, .inl (cI, 60, .inl (zf (fun _ => 0)))), (b120, .inl (cI, 7695, .inl (zf (fun _ => 0)))), (b129, .inl (cI, 3600, .inl (zf (fun _ => 0)))), (b138, .inl (cI, 3600, .inl (zf (fun _ => 0)))), (b147, .inl (cI, 7695, .inl (zf (fun _ => 0)))), (b156, .inl (cI, 7695, .inl (zf (fun _ => 0)))), (b165, .inl (cZ, 7695, .inl (zf (fun _ => 0)))), (b173, .inl (cI, 20, .inl (zf (fun _ => 0)))), (b181, .inl (cI, 20, .inl (zf (fun _ => 0)))), (b189, .inl (cI, 20, .inl (zf (fun _ => 0))))] H := hP
  have hD : va_D A [(h0, .inr (8, [.ref b7, .int (zi 0), .ref b15, .int (zi 0), .ref b23, .ref b31, .int (zi 0), .ref b39, .ref b47, .ref b55, .ref b63, .int (zi 0), .ref b71, .ref b79, .ref b87, .ref b95, .ref b103, .int (zi 0), .int (zi 0), .int (zi 0), .ref b111, .int (zi 0), .ref b120, .ref b129, .ref b138, .ref b147, .ref b156, .ref b165, .ref b173, .ref b181, .null, .int (zi 0)])), (b7, .inl (cI, 9, .inl (zf (fun _ => 0)))), (b15, .inl (cI, 6, .inl (zf (fun _ => 0)))), (b23, .inl (cI, 30, .inl (zf (fun _ => 0)))), (b31, .inl (cI, 30, .inl (zf (fun _ => 0)))), (b39, .inl (cI, 60, .inl (zf (fun _ => 0)))), (b47, .inl (cI, 60, .inl (zf (fun _ => 0)))), (b55, .inl (cI, 60, .inl (zf (fun _ => 0)))), (b63, .inl (cI, 60, .inl (zf (fun _ => 0)))), (b71, .inl (cI, 20, .inl (zf (fun _ => 0)))), (b79, .inl (cI, 20, .inl (zf (fun _ => 0)))), (b87, .inl (cI, 20, .inl (zf (fun _ => 0)))), (b95, .inl (cI, 20, .inl (zf (fun _ => 0)))), (b103, .inl (cI, 20, .inl (zf (fun _ => 0)))), (b111, .inl (cI, 60, .inl (zf (fun _ => 0)))), (b120, .inl (cI, 7695, .inl (zf (fun _ => 0)))), (b129, .inl (cI, 3600, .inl (zf (fun _ => 0)))), (b138, .inl (cI, 3600, .inl (zf (fun _ => 0)))), (b147, .inl (cI, 7695, .inl (zf (fun _ => 0)))), (b156, .inl (cI, 7695, .inl (zf (fun _ => 0)))), (b165, .inl (cZ, 7695, .inl (zf (fun _ => 0)))), (b173, .inl (cI, 20, .inl (zf (fun _ => 0)))), (b181, .inl (cI, 20, .inl (zf (fun _ => 0)))), (b189, .inl (cI, 20, .inl (zf (fun _ => 0))))] := hD
  refine va_putF (D := D) (ci := 8) (v := .ref b189) (ty := (.array .int)) (C := RX8) (T := TX8) (N := 32) hx hb hts ic_X8_init_8 tyX8 tyX8_ok nmX8 hown hK.1 hP hD hS 0 rfl rfl 30 (by decide) (hts _ lk30_X8_init) (fun _ h9 => h9) rfl hin rfl (by decide +kernel) rfl rfl (Nat.le_of_ble_eq_true rfl) dX8_init_191 (fun H locs hP hD hS => ?_)
  have hP : va_P D vwCl [(h0, .inr (8, [.ref b7, .int (zi 0), .ref b15, .int (zi 0), .ref b23, .ref b31, .int (zi 0), .ref b39, .ref b47, .ref b55, .ref b63, .int (zi 0), .ref b71, .ref b79, .ref b87, .ref b95, .ref b103, .int (zi 0), .int (zi 0), .int (zi 0), .ref b111, .int (zi 0), .ref b120, .ref b129, .ref b138, .ref b147, .ref b156, .ref b165, .ref b173, .ref b181, .ref b189, .int (zi 0)])), (b7, .inl (cI, 9, .inl (zf (fun _ => 0)))), (b15, .inl (cI, 6, .inl (zf (fun _ => 0)))), (b23, .inl (cI, 30, .inl (zf (fun _ => 0)))), (b31, .inl (cI, 30, .inl (zf (fun _ => 0)))), (b39, .inl (cI, 60, .inl (zf (fun _ => 0)))), (b47, .inl (cI, 60, .inl (zf (fun _ => 0)))), (b55, .inl (cI, 60, .inl (zf (fun _ => 0)))), (b63, .inl (cI, 60, .inl (zf (fun _ => 0)))), (b71, .inl (cI, 20, .inl (zf (fun _ => 0)))), (b79, .inl (cI, 20, .inl (zf (fun _ => 0)))), (b87, .inl (cI, 20, .inl (zf (fun _ => 0)))), (b95, .inl (cI, 20, .inl (zf (fun _ => 0)))), (b103, .inl (cI, 20, .inl (zf (fun _ => 0)))), (b111, .inl (cI, 60, .inl (zf (fun _ => 0)))), (b120, .inl (cI, 7695, .inl (zf (fun _ => 0)))), (b129, .inl (cI, 3600, .inl (zf (fun _ => 0)))), (b138, .inl (cI, 3600, .inl (zf (fun _ => 0)))), (b147, .inl (cI, 7695, .inl (zf (fun _ => 0)))), (b156, .inl (cI, 7695, .inl (zf (fun _ => 0)))), (b165, .inl (cZ, 7695, .inl (zf (fun _ => 0)))), (b173, .inl (cI, 20, .inl (zf (fun _ => 0)))), (b181, .inl (cI, 20, .inl (zf (fun _ => 0)))), (b189, .inl (cI, 20, .inl (zf (fun _ => 0))))] H := hP
  have hD : va_D A [(h0, .inr (8, [.ref b7, .int (zi 0), .ref b15, .int (zi 0), .ref b23, .ref b31, .int (zi 0), .ref b39, .ref b47, .ref b55, .ref b63, .int (zi 0), .ref b71, .ref b79, .ref b87, .ref b95, .ref b103, .int (zi 0), .int (zi 0), .int (zi 0), .ref b111, .int (zi 0), .ref b120, .ref b129, .ref b138, .ref b147, .ref b156, .ref b165, .ref b173, .ref b181, .ref b189, .int (zi 0)])), (b7, .inl (cI, 9, .inl (zf (fun _ => 0)))), (b15, .inl (cI, 6, .inl (zf (fun _ => 0)))), (b23, .inl (cI, 30, .inl (zf (fun _ => 0)))), (b31, .inl (cI, 30, .inl (zf (fun _ => 0)))), (b39, .inl (cI, 60, .inl (zf (fun _ => 0)))), (b47, .inl (cI, 60, .inl (zf (fun _ => 0)))), (b55, .inl (cI, 60, .inl (zf (fun _ => 0)))), (b63, .inl (cI, 60, .inl (zf (fun _ => 0)))), (b71, .inl (cI, 20, .inl (zf (fun _ => 0)))), (b79, .inl (cI, 20, .inl (zf (fun _ => 0)))), (b87, .inl (cI, 20, .inl (zf (fun _ => 0)))), (b95, .inl (cI, 20, .inl (zf (fun _ => 0)))), (b103, .inl (cI, 20, .inl (zf (fun _ => 0)))), (b111, .inl (cI, 60, .inl (zf (fun _ => 0)))), (b120, .inl (cI, 7695, .inl (zf (fun _ => 0)))), (b129, .inl (cI, 3600, .inl (zf (fun _ => 0)))), (b138, .inl (cI, 3600, .inl (zf (fun _ => 0)))), (b147, .inl (cI, 7695, .inl (zf (fun _ => 0)))), (b156, .inl (cI, 7695, .inl (zf (fun _ => 0)))), (b165, .inl (cZ, 7695, .inl (zf (fun _ => 0)))), (b173, .inl (cI, 20, .inl (zf (fun _ => 0)))), (b181, .inl (cI, 20, .inl (zf (fun _ => 0)))), (b189, .inl (cI, 20, .inl (zf (fun _ => 0))))] := hD
  refine W.widen (k := 23) (n := 38515) (Nat.le_of_ble_eq_true rfl) (Nat.le_of_ble_eq_true rfl) ?_
  exact W.vret hx hb hr (fun t ht hW => ⟨⟨(fun i => [b7, b15, b23, b31, b39, b47, b55, b63, b71, b79, b87, b95, b103, b111, b120, b129, b138, b147, b156, b165, b173, b181, b189].getD i 0), rfl, trivial, by rw [ht]; exact hP, hD⟩, hS.F ht⟩) hS.2.2 dX8_init_194
end
section
/-! the room that the Statement prints is too small: each run makes more than it says -/
theorem gT_X7_init : GoodIn lw_tbl wsX7_init := goodIn_p _ [82, 85, 90, 96, 141, 148, 180, 196, 214, 240] (by decide +kernel) (by decide +kernel)
theorem gT_X8_init : GoodIn lw_tbl wsX8_init := goodIn_p _ [871, 85] (by decide +kernel) (by decide +kernel)
theorem tw_X0 : ∀ w ∈ wsX00, w ∈ lw_tbl := by decide +kernel
theorem tw_X1 : ∀ w ∈ wsX10, w ∈ lw_tbl := by decide +kernel
theorem tw_X2 : ∀ w ∈ wsX20, w ∈ lw_tbl := by decide +kernel
theorem tw_X3 : ∀ w ∈ wsX30, w ∈ lw_tbl := by decide +kernel
theorem tw_X4 : ∀ w ∈ wsX40, w ∈ lw_tbl := by decide +kernel
theorem tw_X5 : ∀ w ∈ wsX50, w ∈ lw_tbl := by decide +kernel
theorem tw_X6 : ∀ w ∈ wsX60, w ∈ lw_tbl := by decide +kernel
theorem tw_X7 : ∀ w ∈ wsX70, w ∈ lw_tbl := by decide +kernel
theorem tw_X8 : ∀ w ∈ wsX80, w ∈ lw_tbl := by decide +kernel
theorem lt_cl8 : Cond.classLink RL 8 RX7 ∈ lw_tbl := by decide +kernel
theorem lt_cl87 : Cond.classLink RL 87 RX8 ∈ lw_tbl := by decide +kernel
theorem lt_ml86 : Cond.methodLink RL 86 yX7_init ∈ lw_tbl := by decide +kernel
theorem lt_ml89 : Cond.methodLink RL 89 yX8_init ∈ lw_tbl := by decide +kernel
theorem lt_im7 : Cond.instanceMethod yX7_init ∈ lw_tbl := by decide +kernel
theorem lt_im8 : Cond.instanceMethod yX8_init ∈ lw_tbl := by decide +kernel
theorem lt_arI : Cond.arrayClass .int ∈ lw_tbl := by decide +kernel
theorem lt_arZ : Cond.arrayClass .boolean ∈ lw_tbl := by decide +kernel
theorem lt_arJ : Cond.arrayClass .long ∈ lw_tbl := by decide +kernel
theorem lt_ins0 : Cond.instantiable RX0 8 ∈ lw_tbl := by decide +kernel
theorem lt_ins1 : Cond.instantiable RX1 1 ∈ lw_tbl := by decide +kernel
theorem lt_ins2 : Cond.instantiable RX2 2 ∈ lw_tbl := by decide +kernel
theorem lt_ins3 : Cond.instantiable RX3 3 ∈ lw_tbl := by decide +kernel
theorem lt_ins4 : Cond.instantiable RX4 5 ∈ lw_tbl := by decide +kernel
theorem lt_ins5 : Cond.instantiable RX5 1 ∈ lw_tbl := by decide +kernel
theorem lt_ins6 : Cond.instantiable RX6 10 ∈ lw_tbl := by decide +kernel
theorem lt_ini7 : Cond.initialized RX7 ∈ lw_tbl := by decide +kernel
theorem lt_ins7 : Cond.instantiable RX7 6 ∈ lw_tbl := by decide +kernel
theorem lt_ini8 : Cond.initialized RX8 ∈ lw_tbl := by decide +kernel
theorem lt_ins8 : Cond.instantiable RX8 32 ∈ lw_tbl := by decide +kernel
theorem dT_0 : decode code 0 = .ok (.new 8, 3) := by decide +kernel
theorem dT_3 : decode code 3 = .ok (.dup, 1) := by decide +kernel
theorem dT_4 : decode code 4 = .ok (.invokespecial 86, 3) := by decide +kernel
theorem dT_7 : decode code 7 = .ok (.astore_n 1, 1) := by decide +kernel
theorem dT_8 : decode code 8 = .ok (.new 87, 3) := by decide +kernel
theorem dT_11 : decode code 11 = .ok (.dup, 1) := by decide +kernel
theorem dT_12 : decode code 12 = .ok (.invokespecial 89, 3) := by decide +kernel
theorem dT_15 : decode code 15 = .ok (.astore_n 2, 1) := by decide +kernel
theorem dT_16 : decode code 16 = .ok (.iconst 1, 1) := by decide +kernel
theorem dT_17 : decode code 17 = .ok (.newarray .long, 2) := by decide +kernel
theorem dT_19 : decode code 19 = .ok (.astore_n 3, 1) := by decide +kernel
theorem dT_20 : decode code 20 = .ok (.iconst 0, 1) := by decide +kernel
theorem dT_21 : decode code 21 = .ok (.istore 4, 2) := by decide +kernel
theorem dT_23 : decode code 23 = .ok (.iload 4, 2) := by decide +kernel
theorem dT_25 : decode code 25 = .ok (.aload_n 0, 1) := by decide +kernel
theorem dT_26 : decode code 26 = .ok (.arraylength, 1) := by decide +kernel
theorem dT_27 : decode code 27 = .ok (.iconst 5, 1) := by decide +kernel
theorem dT_28 : decode code 28 = .ok (.isub, 1) := by decide +kernel
theorem dT_29 : decode code 29 = .ok (.if_icmp .gt 1021, 3) := by decide +kernel
theorem dT_1050 : decode code 1050 = .ok (.iconst 1, 1) := by decide +kernel
theorem dT_1051 : decode code 1051 = .ok (.ireturn, 1) := by decide +kernel
end
section
/-! sums -/
theorem sum_set : ∀ (l : List Nat) (i : Nat), i < l.length → (l.set i 0).sum + l.getD i 0 = l.sum := by
  intro l
  induction l with
  | nil => intro i h; exact absurd h (by simp)
  | cons x l ih =>
    intro i h
    cases i with
    | zero => simp; omega
    | succ i =>
      rw [List.length_cons] at h
      have := ih i (by omega)
      simp only [List.set_cons_succ, List.sum_cons, List.getD_cons_succ]
      omega
theorem sum_idx : ∀ (js l : List Nat), js.Nodup → (∀ i ∈ js, i < l.length) → (js.map (fun i => l.getD i 0)).sum ≤ l.sum := by
  intro js
  induction js with
  | nil => intro l _ _; simp
  | cons i js ih =>
    intro l hn hl
    have hn := List.nodup_cons.mp hn
    have hi := hl i List.mem_cons_self
    have h1 := ih (l.set i 0) hn.2 (fun j hj => by rw [List.length_set]; exact hl j (List.mem_cons_of_mem _ hj))
    have h2 : js.map (fun j => (l.set i 0).getD j 0) = js.map (fun j => l.getD j 0) := List.map_congr_left (fun j hj => by
      have hne : i ≠ j := fun e => hn.1 (by rw [e]; exact hj)
      rw [List.getD_eq_getElem?_getD, List.getD_eq_getElem?_getD, List.getElem?_set_ne hne])
    rw [h2] at h1
    have h3 := sum_set l i hi
    rw [List.map_cons, List.sum_cons]
    omega
theorem nodup_inj {f : Nat → Nat} : ∀ (is : List Nat), is.Nodup → (∀ i ∈ is, ∀ j ∈ is, f i = f j → i = j) → (is.map f).Nodup := by
  intro is
  induction is with
  | nil => intro _ _; exact List.nodup_nil
  | cons i is ih =>
    intro hn hf
    have hn := List.nodup_cons.mp hn
    rw [List.map_cons, List.nodup_cons]
    refine ⟨fun h => ?_, ih hn.2 (fun a ha b hb => hf a (List.mem_cons_of_mem _ ha) b (List.mem_cons_of_mem _ hb))⟩
    obtain ⟨j, hj, e⟩ := List.mem_map.mp h
    exact hn.1 (by rw [hf i List.mem_cons_self j (List.mem_cons_of_mem _ hj) e.symm]; exact hj)
/-- the length of the array at a place of a world -/
def alen (ws : va_W) (i : Nat) : Nat := match ws[i]? with
  | some (_, .inl a) => a.2.1
  | _ => 0
def aadr (ws : va_W) (n i : Nat) : Nat := match ws[i]? with
  | some q => q.1 - n
  | none => 0
theorem alen_at {D : va_G} {cl : List vw_C} {ws : va_W} {H : Heap} {A : Nat → Prop} {n i : Nat} (hP : va_P D cl ws H) (hD : va_D A ws) (hA : ∀ q, A q → n ≤ q) (h : 0 < alen ws i) : ∃ q : Nat × va_E, ws[i]? = some q ∧ n ≤ q.1 ∧ aadr ws n i = q.1 - n ∧ ∃ cell : Cell, H[q.1]? = some cell ∧ cell.slots.size = alen ws i := by
  unfold alen at h ⊢
  unfold aadr
  cases e : ws[i]? with
  | none => rw [e] at h; exact absurd h (by decide)
  | some q =>
    obtain ⟨a, x⟩ := q
    cases x with
    | inl y =>
      have h1 : H[a]? = some (vp_cell y.1 y.2) := hP i _ e
      refine ⟨_, rfl, hA _ (hD.2 i _ e), rfl, vp_cell y.1 y.2, h1, ?_⟩
      obtain ⟨c, N, f⟩ := y
      show (vp_cell c (N, f)).slots.size = N
      rcases f with f | f | f | f | f <;> exact arrV_size _ _ _
    | inr y =>
      rw [e] at h
      have h : 0 < 0 := h
      exact absurd h (Nat.lt_irrefl 0)
theorem heap_lb {D : va_G} {cl : List vw_C} {ws : va_W} {H : Heap} {A : Nat → Prop} {n : Nat} (hP : va_P D cl ws H) (hD : va_D A ws) (hA : ∀ q, A q → n ≤ q) (is : List Nat) (hn : is.Nodup) (h : ∀ i ∈ is, 0 < alen ws i) : (is.map (alen ws)).sum ≤ ((H.toList.drop n).map (fun c => c.slots.size)).sum := by
  have key : ∀ i ∈ is, aadr ws n i < ((H.toList.drop n).map (fun c => c.slots.size)).length ∧ ((H.toList.drop n).map (fun c => c.slots.size)).getD (aadr ws n i) 0 = alen ws i := fun i hi => by
    obtain ⟨q, q1, q2, q3, cell, q4, q5⟩ := alen_at hP hD hA (h i hi)
    have q6 : q.1 < H.size := (Array.getElem?_eq_some_iff.mp q4).1
    rw [q3]
    refine ⟨by rw [List.length_map, List.length_drop, Array.length_toList]; omega, ?_⟩
    rw [List.getD_eq_getElem?_getD, List.getElem?_map, List.getElem?_drop, show n + (q.1 - n) = q.1 by omega, Array.getElem?_toList, q4]
    exact q5
  have h2 := sum_idx (is.map (aadr ws n)) ((H.toList.drop n).map (fun c => c.slots.size)) (nodup_inj is hn (fun i hi j hj e => by
    obtain ⟨q, q1, q2, q3, _⟩ := alen_at hP hD hA (h i hi)
    obtain ⟨r, r1, r2, r3, _⟩ := alen_at hP hD hA (h j hj)
    rw [q3, r3] at e
    exact hD.1 i j q r q1 r1 (by omega))) (fun k hk => by
    obtain ⟨i, hi, rfl⟩ := List.mem_map.mp hk
    exact (key i hi).1)
  rw [List.map_map] at h2
  have h3 : is.map ((fun i => ((H.toList.drop n).map (fun c => c.slots.size)).getD i 0) ∘ aadr ws n) = is.map (alen ws) := List.map_congr_left (fun i hi => (key i hi).2)
  rw [h3] at h2
  exact h2
def roomB : Room := { frames := 11, cells := 1109, slots := 60000, locals := 396 }
def bigZ (below : List Frame) (s : State) : State → Prop := fun t => ∃ o, t.status = .running ∧ Ended t below o ∧ 46873 < ((t.heap.toList.drop s.heap.size).map (fun c => c.slots.size)).sum
theorem big_ret {p : Program} {l : Launch} {e : Env} {s : State} {m : MethodId} {below : List Frame} {meth : Method} {c : Code} {b : Nat} (hx : p.tables.exec = Jvm.exec) (hb : c.code = code) (hr : meth.sig.returnType = ret) (hlocks : meth.locks = false) {pc : Nat} {H : Heap} {locs : List Loc} {cells slots : Nat} {ls : Array Slot} (hdg : decode code pc = .ok (.ireturn, 1)) (hH : 46873 < ((H.toList.drop s.heap.size).map (fun c => c.slots.size)).sum) : W p l e roomB s m #[Value.ref b] below meth c H locs cells slots (bigZ below s) (F0 m pc ls [.int 1]) := by
  intro T hT X
  obtain ⟨fs, hret, hrun, hended, hW, hframe⟩ := X.leave (v := some (.int 1)) (hlocks := hlocks) (fun h => by rw [hr] at h; cases h)
  have hmeth' : T.vm.method? m = some meth := X.method'
  refine ⟨T.setFrames fs, ?_, .returned (some (.int 1)), hrun, hended, by rw [← hT] at hH; exact hH⟩
  jvm_step X.here [X.here.top, hx, hb, hdg, hmeth', hr, ret, narrow_b1]
  (try refine ⟨rfl, ?_⟩); (try refine ⟨rfl, ?_⟩)
  first | (intro acts; rw [hret _ acts rfl rfl rfl]) | rw [hret _ _ rfl rfl rfl]
  exact Steps.refl _
theorem arr_of {s : State} {args : Array Value} {ty : FieldType} (h : (Cond.arrayClass ty).before args s = true) (hR : ∀ cA, s.vm.findClass ("[" ++ ty.toString) = some cA → va_RA s cA ty) : ∃ cA, ArrOfT s cA ty ∧ va_RA s cA ty := by
  obtain ⟨cA, kA, comp, h1, h2, h3⟩ := Cond.arrayClass_spec h
  exact ⟨cA, fun n z => ⟨fun k h => (by cases h), kA, h2, comp, h3⟩, hR cA h1⟩
/-- what the machine says of the classes, at the law's entry -/
theorem law_KK {s : State} {args : Array Value} (hts : ∀ w ∈ lw_tbl, w.before args s = true) : ∃ (D : va_G) (cI cZ cJ : ClassId), KK D cI cZ cJ s := by
  obtain ⟨c0, i0, k0⟩ := u_known (C := RX0) (T := TX0) (N := 8) (n := 8) hts tw_X0 (hts _ lt_ins0)
  obtain ⟨c1, i1, k1⟩ := u_known (C := RX1) (T := TX1) (N := 1) (n := 1) hts tw_X1 (hts _ lt_ins1)
  obtain ⟨c2, i2, k2⟩ := u_known (C := RX2) (T := TX2) (N := 2) (n := 2) hts tw_X2 (hts _ lt_ins2)
  obtain ⟨c3, i3, k3⟩ := u_known (C := RX3) (T := TX3) (N := 3) (n := 3) hts tw_X3 (hts _ lt_ins3)
  obtain ⟨c4, i4, k4⟩ := u_known (C := RX4) (T := TX4) (N := 5) (n := 5) hts tw_X4 (hts _ lt_ins4)
  obtain ⟨c5, i5, k5⟩ := u_known (C := RX5) (T := TX5) (N := 1) (n := 1) hts tw_X5 (hts _ lt_ins5)
  obtain ⟨c6, i6, k6⟩ := u_known (C := RX6) (T := TX6) (N := 10) (n := 10) hts tw_X6 (hts _ lt_ins6)
  obtain ⟨c7, i7, k7⟩ := u_known (C := RX7) (T := TX7) (N := 6) (n := 6) hts tw_X7 (hts _ lt_ins7)
  obtain ⟨c8, i8, k8⟩ := u_known (C := RX8) (T := TX8) (N := 32) (n := 32) hts tw_X8 (hts _ lt_ins8)
  obtain ⟨cI, a1, a2⟩ := arr_of (hts _ lt_arI) (fun cA h => h)
  obtain ⟨cZ, b1, b2⟩ := arr_of (hts _ lt_arZ) (fun cA h => h)
  obtain ⟨cJ, d1, d2⟩ := arr_of (hts _ lt_arJ) (fun cA h => h)
  refine ⟨(fun k => match k with | 0 => c0 | 1 => c1 | 2 => c2 | 3 => c3 | 4 => c4 | 5 => c5 | 6 => c6 | 7 => c7 | _ => c8, fun k => match k with | 0 => i0 | 1 => i1 | 2 => i2 | 3 => i3 | 4 => i4 | 5 => i5 | 6 => i6 | 7 => i7 | _ => i8), cI, cZ, cJ, ⟨fun k q hq => ?_, fun k q hq => ?_⟩, fun w hw => va_Nw.of (nWs_on w hw) (hts w (nWs_in w hw))⟩
  · match k, hq with
    | 0, hq => cases hq; exact k0
    | 1, hq => cases hq; exact k1
    | 2, hq => cases hq; exact k2
    | 3, hq => cases hq; exact k3
    | 4, hq => cases hq; exact k4
    | 5, hq => cases hq; exact k5
    | 6, hq => cases hq; exact k6
    | 7, hq => cases hq; exact k7
    | 8, hq => cases hq; exact k8
    | k + 9, hq => simp [vwCl] at hq
  · match k, hq with
    | 0, hq => cases hq; exact ⟨a1, a2⟩
    | 1, hq => cases hq; exact ⟨b1, b2⟩
    | 2, hq => cases hq; exact ⟨d1, d2⟩
    | k + 3, hq => simp [tyL] at hq
set_option maxHeartbeats 8000000 in
set_option maxRecDepth 100000 in
/-- the law on an empty script, in a room of 60000 slots: it ends, and has made more than 46873 slots -/
theorem big_start {p : Program} {e : Env} {s : State} {m : MethodId} {below : List Frame} {meth : Method} {c : Code} (l : Launch) {b : Nat} {xs : Nat → Int32} (hx : p.tables.exec = Jvm.exec) (hb : c.code = code) (hr : meth.sig.returnType = ret) (hml : c.maxLocals = 7) (hown : s.vm.findClass RL = some m.cls) (hts : ∀ w ∈ lw_tbl, w.before #[Value.ref b] s = true) (hX : va_X b 0 xs s s.heap) (hbl : b < s.heap.size) (hlocks : meth.locks = false) : W p l e roomB s m #[Value.ref b] below meth c s.heap [] 0 0 (bigZ below s) (entryFrame m ([Value.ref b] : List Value).toArray 7) := by
  obtain ⟨D, cI, cZ, cJ, hK⟩ := law_KK hts
  have hA : ∀ q : Nat, s.heap.size ≤ q → (fun q : Nat => s.heap.size ≤ q) q := fun _ h => h
  have hbA : ¬ (fun q : Nat => s.heap.size ≤ q) b := Nat.not_le.mpr hbl
  have hS : va_S (fun q : Nat => s.heap.size ≤ q) s.heap s.heap [] := va_S.rf
  have hP : va_P D vwCl [] s.heap := fun k q h => by simp at h
  have hD : va_D (fun q : Nat => s.heap.size ≤ q) [] := ⟨fun i j p q h => by simp at h, fun k q h => by simp at h⟩
  have hl := lv_entry ([.ref b]) (n := 7) (Nat.le_of_ble_eq_true rfl)
  rw [lg_entry_eq]
  generalize (lg_sl ([.ref b]) ++ List.replicate (7 - (lg_sl ([.ref b])).length) Slot.unset).toArray = ls at hl ⊢
  have hl : lv_has ls 7 [(0, .ref b)] := hl
  refine va_new (ci := 7) (fs := [.null, .null, .null, .null, .null, .null]) (C := RX7) (T := TX7) (N := 6) hx hb hts tw_X7 tyX7 tyX7_ok hown (hts _ lt_cl8) (hts _ lt_ins7) (hts _ lt_ini7) hK.1 hP hD hS hA rfl (fun j hj => by rcases (show j = 0 ∨ j = 1 ∨ j = 2 ∨ j = 3 ∨ j = 4 ∨ j = 5 by omega) with rfl | rfl | rfl | rfl | rfl | rfl <;> rfl) (Nat.le_of_ble_eq_true rfl) (Nat.le_of_ble_eq_true rfl) dT_0 (fun q0 H hP hD hS => ?_)
  have hP : va_P D vwCl [(q0, .inr (7, [.null, .null, .null, .null, .null, .null]))] H := hP
  have hD : va_D (fun q : Nat => s.heap.size ≤ q) [(q0, .inr (7, [.null, .null, .null, .null, .null, .null]))] := hD
  refine lv_dup hx hb dT_3 rfl ?_
  have hPc := hP.sub (ws' := [(q0, .inr (7, [.null, .null, .null, .null, .null, .null]))]) [0] rfl
  have hDc := hD.sub (ws' := [(q0, .inr (7, [.null, .null, .null, .null, .null, .null]))]) [0] (by decide) rfl
  have hFc := va_free (wc := [(q0, .inr (7, [.null, .null, .null, .null, .null, .null]))]) hD hS hA [0] rfl
  refine va_callv (va_runI (As := []) (rest := [.ref q0]) ⟨hx, hb, hml, hown, hts⟩ (ct_X7_init l D cI cZ cJ q0 H.size) (cwI 0 hts gT_X7_init rfl rfl rfl (hts _ lt_ini7) (hts _ lt_ml86) (hts _ lt_im7) rfl (by decide +kernel) ⟨Nat.le_of_ble_eq_true rfl, Nat.le_of_ble_eq_true rfl⟩) ⟨fun a U g mk q => by obtain ⟨q0, q1, qP, qK, qD⟩ := q; exact ⟨q0, q1, qP, KK.same (u := U) (U := U.calling g mk a) rfl qK, qD⟩, fun U hU hW => ⟨rfl, by rw [hU], by rw [hU]; exact hPc, KK.warm hW hK, hDc.weaken (fun _ _ _ _ => trivial)⟩⟩ rfl rfl hl.1 rfl (lv_room (Nat.le_of_ble_eq_true rfl)) dT_4 ⟨Nat.le_of_ble_eq_true rfl, Nat.le_of_ble_eq_true rfl⟩) hS (fun q _ h => hFc q h) hFc (fun u0 t H1 locs ht hvm hw hB hz1 hk1 hS => ?_)
  obtain ⟨hP1, hD1⟩ := hB
  rw [ht] at hP1
  obtain ⟨hP, hD⟩ := va_join (wr := []) (w1 := [(q0, .inr (7, [.ref (u0 0), .ref (u0 15), .ref (u0 26), .ref (u0 29), .ref (u0 36), .ref (u0 43)])), ((u0 0), .inr (6, [.ref (u0 1), .ref (u0 3), .ref (u0 5), .ref (u0 7), .ref (u0 9), .ref (u0 11), .ref (u0 13), .int (zi 0), .int (zi 0), .int (zi 0)])), ((u0 1), .inr (5, [.ref (u0 2)])), ((u0 2), .inl (cI, 6, .inl (zf (fun _ => 0)))), ((u0 3), .inr (5, [.ref (u0 4)])), ((u0 4), .inl (cI, 30, .inl (zf (fun _ => 0)))), ((u0 5), .inr (5, [.ref (u0 6)])), ((u0 6), .inl (cI, 30, .inl (zf (fun _ => 0)))), ((u0 7), .inr (5, [.ref (u0 8)])), ((u0 8), .inl (cI, 60, .inl (zf (fun _ => 0)))), ((u0 9), .inr (5, [.ref (u0 10)])), ((u0 10), .inl (cI, 60, .inl (zf (fun _ => 0)))), ((u0 11), .inr (5, [.ref (u0 12)])), ((u0 12), .inl (cI, 60, .inl (zf (fun _ => 0)))), ((u0 13), .inr (5, [.ref (u0 14)])), ((u0 14), .inl (cI, 9, .inl (zf (fun _ => 0)))), ((u0 15), .inr (0, [.ref (u0 16), .ref (u0 18), .ref (u0 20), .ref (u0 22), .ref (u0 24), .int (zi 0), .int (zi 0), .int (zi 0)])), ((u0 16), .inr (5, [.ref (u0 17)])), ((u0 17), .inl (cI, 60, .inl (zf (rFill 60 (fun _ => 0) (-1))))), ((u0 18), .inr (5, [.ref (u0 19)])), ((u0 19), .inl (cI, 20, .inl (zf (rFill 20 (fun _ => 0) (-1))))), ((u0 20), .inr (5, [.ref (u0 21)])), ((u0 21), .inl (cI, 20, .inl (zf (fun _ => 0)))), ((u0 22), .inr (5, [.ref (u0 23)])), ((u0 23), .inl (cI, 20, .inl (zf (rFill 20 (fun _ => 0) (-1))))), ((u0 24), .inr (5, [.ref (u0 25)])), ((u0 25), .inl (cI, 20, .inl (zf (fun _ => 0)))), ((u0 26), .inr (2, [.ref (u0 27), .int (zi 0)])), ((u0 27), .inr (5, [.ref (u0 28)])), ((u0 28), .inl (cI, 60, .inl (zf (fun _ => 0)))), ((u0 29), .inr (3, [.ref (u0 30), .ref (u0 32), .ref (u0 34)])), ((u0 30), .inr (5, [.ref (u0 31)])), ((u0 31), .inl (cI, 405, .inl (zf (fun _ => 0)))), ((u0 32), .inr (5, [.ref (u0 33)])), ((u0 33), .inl (cI, 405, .inl (zf (fun _ => 0)))), ((u0 34), .inr (5, [.ref (u0 35)])), ((u0 35), .inl (cI, 3600, .inl (zf (fun _ => 0)))), ((u0 36), .inr (4, [.ref (u0 37), .ref (u0 39), .ref (u0 41), .int (zi 0), .int (zi 0)])), ((u0 37), .inr (5, [.ref (u0 38)])), ((u0 38), .inl (cI, 3600, .inl (zf (fun _ => 0)))), ((u0 39), .inr (5, [.ref (u0 40)])), ((u0 40), .inl (cI, 405, .inl (zf (fun _ => 0)))), ((u0 41), .inr (5, [.ref (u0 42)])), ((u0 42), .inl (cI, 3600, .inl (zf (fun _ => 0)))), ((u0 43), .inr (1, [.ref (u0 44)])), ((u0 44), .inr (5, [.ref (u0 45)])), ((u0 45), .inl (cI, 20, .inl (zf (fun _ => 0))))]) hP hD [0] [] rfl rfl (by decide) (by decide) hk1 hFc hP1 hD1
  clear hPc hDc hFc hP1 hD1 hz1 hk1 ht hvm hw
  generalize H1 = H at hP hS ⊢
  have hP : va_P D vwCl [(q0, .inr (7, [.ref (u0 0), .ref (u0 15), .ref (u0 26), .ref (u0 29), .ref (u0 36), .ref (u0 43)])), ((u0 0), .inr (6, [.ref (u0 1), .ref (u0 3), .ref (u0 5), .ref (u0 7), .ref (u0 9), .ref (u0 11), .ref (u0 13), .int (zi 0), .int (zi 0), .int (zi 0)])), ((u0 1), .inr (5, [.ref (u0 2)])), ((u0 2), .inl (cI, 6, .inl (zf (fun _ => 0)))), ((u0 3), .inr (5, [.ref (u0 4)])), ((u0 4), .inl (cI, 30, .inl (zf (fun _ => 0)))), ((u0 5), .inr (5, [.ref (u0 6)])), ((u0 6), .inl (cI, 30, .inl (zf (fun _ => 0)))), ((u0 7), .inr (5, [.ref (u0 8)])), ((u0 8), .inl (cI, 60, .inl (zf (fun _ => 0)))), ((u0 9), .inr (5, [.ref (u0 10)])), ((u0 10), .inl (cI, 60, .inl (zf (fun _ => 0)))), ((u0 11), .inr (5, [.ref (u0 12)])), ((u0 12), .inl (cI, 60, .inl (zf (fun _ => 0)))), ((u0 13), .inr (5, [.ref (u0 14)])), ((u0 14), .inl (cI, 9, .inl (zf (fun _ => 0)))), ((u0 15), .inr (0, [.ref (u0 16), .ref (u0 18), .ref (u0 20), .ref (u0 22), .ref (u0 24), .int (zi 0), .int (zi 0), .int (zi 0)])), ((u0 16), .inr (5, [.ref (u0 17)])), ((u0 17), .inl (cI, 60, .inl (zf (rFill 60 (fun _ => 0) (-1))))), ((u0 18), .inr (5, [.ref (u0 19)])), ((u0 19), .inl (cI, 20, .inl (zf (rFill 20 (fun _ => 0) (-1))))), ((u0 20), .inr (5, [.ref (u0 21)])), ((u0 21), .inl (cI, 20, .inl (zf (fun _ => 0)))), ((u0 22), .inr (5, [.ref (u0 23)])), ((u0 23), .inl (cI, 20, .inl (zf (rFill 20 (fun _ => 0) (-1))))), ((u0 24), .inr (5, [.ref (u0 25)])), ((u0 25), .inl (cI, 20, .inl (zf (fun _ => 0)))), ((u0 26), .inr (2, [.ref (u0 27), .int (zi 0)])), ((u0 27), .inr (5, [.ref (u0 28)])), ((u0 28), .inl (cI, 60, .inl (zf (fun _ => 0)))), ((u0 29), .inr (3, [.ref (u0 30), .ref (u0 32), .ref (u0 34)])), ((u0 30), .inr (5, [.ref (u0 31)])), ((u0 31), .inl (cI, 405, .inl (zf (fun _ => 0)))), ((u0 32), .inr (5, [.ref (u0 33)])), ((u0 33), .inl (cI, 405, .inl (zf (fun _ => 0)))), ((u0 34), .inr (5, [.ref (u0 35)])), ((u0 35), .inl (cI, 3600, .inl (zf (fun _ => 0)))), ((u0 36), .inr (4, [.ref (u0 37), .ref (u0 39), .ref (u0 41), .int (zi 0), .int (zi 0)])), ((u0 37), .inr (5, [.ref (u0 38)])), ((u0 38), .inl (cI, 3600, .inl (zf (fun _ => 0)))), ((u0 39), .inr (5, [.ref (u0 40)])), ((u0 40), .inl (cI, 405, .inl (zf (fun _ => 0)))), ((u0 41), .inr (5, [.ref (u0 42)])), ((u0 42), .inl (cI, 3600, .inl (zf (fun _ => 0)))), ((u0 43), .inr (1, [.ref (u0 44)])), ((u0 44), .inr (5, [.ref (u0 45)])), ((u0 45), .inl (cI, 20, .inl (zf (fun _ => 0))))] H := hP
  have hD : va_D (fun q : Nat => s.heap.size ≤ q) [(q0, .inr (7, [.ref (u0 0), .ref (u0 15), .ref (u0 26), .ref (u0 29), .ref (u0 36), .ref (u0 43)])), ((u0 0), .inr (6, [.ref (u0 1), .ref (u0 3), .ref (u0 5), .ref (u0 7), .ref (u0 9), .ref (u0 11), .ref (u0 13), .int (zi 0), .int (zi 0), .int (zi 0)])), ((u0 1), .inr (5, [.ref (u0 2)])), ((u0 2), .inl (cI, 6, .inl (zf (fun _ => 0)))), ((u0 3), .inr (5, [.ref (u0 4)])), ((u0 4), .inl (cI, 30, .inl (zf (fun _ => 0)))), ((u0 5), .inr (5, [.ref (u0 6)])), ((u0 6), .inl (cI, 30, .inl (zf (fun _ => 0)))), ((u0 7), .inr (5, [.ref (u0 8)])), ((u0 8), .inl (cI, 60, .inl (zf (fun _ => 0)))), ((u0 9), .inr (5, [.ref (u0 10)])), ((u0 10), .inl (cI, 60, .inl (zf (fun _ => 0)))), ((u0 11), .inr (5, [.ref (u0 12)])), ((u0 12), .inl (cI, 60, .inl (zf (fun _ => 0)))), ((u0 13), .inr (5, [.ref (u0 14)])), ((u0 14), .inl (cI, 9, .inl (zf (fun _ => 0)))), ((u0 15), .inr (0, [.ref (u0 16), .ref (u0 18), .ref (u0 20), .ref (u0 22), .ref (u0 24), .int (zi 0), .int (zi 0), .int (zi 0)])), ((u0 16), .inr (5, [.ref (u0 17)])), ((u0 17), .inl (cI, 60, .inl (zf (rFill 60 (fun _ => 0) (-1))))), ((u0 18), .inr (5, [.ref (u0 19)])), ((u0 19), .inl (cI, 20, .inl (zf (rFill 20 (fun _ => 0) (-1))))), ((u0 20), .inr (5, [.ref (u0 21)])), ((u0 21), .inl (cI, 20, .inl (zf (fun _ => 0)))), ((u0 22), .inr (5, [.ref (u0 23)])), ((u0 23), .inl (cI, 20, .inl (zf (rFill 20 (fun _ => 0) (-1))))), ((u0 24), .inr (5, [.ref (u0 25)])), ((u0 25), .inl (cI, 20, .inl (zf (fun _ => 0)))), ((u0 26), .inr (2, [.ref (u0 27), .int (zi 0)])), ((u0 27), .inr (5, [.ref (u0 28)])), ((u0 28), .inl (cI, 60, .inl (zf (fun _ => 0)))), ((u0 29), .inr (3, [.ref (u0 30), .ref (u0 32), .ref (u0 34)])), ((u0 30), .inr (5, [.ref (u0 31)])), ((u0 31), .inl (cI, 405, .inl (zf (fun _ => 0)))), ((u0 32), .inr (5, [.ref (u0 33)])), ((u0 33), .inl (cI, 405, .inl (zf (fun _ => 0)))), ((u0 34), .inr (5, [.ref (u0 35)])), ((u0 35), .inl (cI, 3600, .inl (zf (fun _ => 0)))), ((u0 36), .inr (4, [.ref (u0 37), .ref (u0 39), .ref (u0 41), .int (zi 0), .int (zi 0)])), ((u0 37), .inr (5, [.ref (u0 38)])), ((u0 38), .inl (cI, 3600, .inl (zf (fun _ => 0)))), ((u0 39), .inr (5, [.ref (u0 40)])), ((u0 40), .inl (cI, 405, .inl (zf (fun _ => 0)))), ((u0 41), .inr (5, [.ref (u0 42)])), ((u0 42), .inl (cI, 3600, .inl (zf (fun _ => 0)))), ((u0 43), .inr (1, [.ref (u0 44)])), ((u0 44), .inr (5, [.ref (u0 45)])), ((u0 45), .inl (cI, 20, .inl (zf (fun _ => 0))))] := hD
  refine lv_astore_n (lv' := [(1, .ref q0), (0, .ref b)]) hx hb dT_7 rfl hl (by decide) rfl (fun ls hl => ?_)
  refine va_new (ci := 8) (fs := [.null, .int (zi 0), .null, .int (zi 0), .null, .null, .int (zi 0), .null, .null, .null, .null, .int (zi 0), .null, .null, .null, .null, .null, .int (zi 0), .int (zi 0), .int (zi 0), .null, .int (zi 0), .null, .null, .null, .null, .null, .null, .null, .null, .null, .int (zi 0)]) (C := RX8) (T := TX8) (N := 32) hx hb hts tw_X8 tyX8 tyX8_ok hown (hts _ lt_cl87) (hts _ lt_ins8) (hts _ lt_ini8) hK.1 hP hD hS hA rfl (fun j hj => by rcases (show j = 0 ∨ j = 1 ∨ j = 2 ∨ j = 3 ∨ j = 4 ∨ j = 5 ∨ j = 6 ∨ j = 7 ∨ j = 8 ∨ j = 9 ∨ j = 10 ∨ j = 11 ∨ j = 12 ∨ j = 13 ∨ j = 14 ∨ j = 15 ∨ j = 16 ∨ j = 17 ∨ j = 18 ∨ j = 19 ∨ j = 20 ∨ j = 21 ∨ j = 22 ∨ j = 23 ∨ j = 24 ∨ j = 25 ∨ j = 26 ∨ j = 27 ∨ j = 28 ∨ j = 29 ∨ j = 30 ∨ j = 31 by omega) with rfl | rfl | rfl | rfl | rfl | rfl | rfl | rfl | rfl | rfl | rfl | rfl | rfl | rfl | rfl | rfl | rfl | rfl | rfl | rfl | rfl | rfl | rfl | rfl | rfl | rfl | rfl | rfl | rfl | rfl | rfl | rfl <;> rfl) (Nat.le_of_ble_eq_true rfl) (Nat.le_of_ble_eq_true rfl) dT_8 (fun q8 H hP hD hS => ?_)
  have hP : va_P D vwCl [(q0, .inr (7, [.ref (u0 0), .ref (u0 15), .ref (u0 26), .ref (u0 29), .ref (u0 36), .ref (u0 43)])), ((u0 0), .inr (6, [.ref (u0 1), .ref (u0 3), .ref (u0 5), .ref (u0 7), .ref (u0 9), .ref (u0 11), .ref (u0 13), .int (zi 0), .int (zi 0), .int (zi 0)])), ((u0 1), .inr (5, [.ref (u0 2)])), ((u0 2), .inl (cI, 6, .inl (zf (fun _ => 0)))), ((u0 3), .inr (5, [.ref (u0 4)])), ((u0 4), .inl (cI, 30, .inl (zf (fun _ => 0)))), ((u0 5), .inr (5, [.ref (u0 6)])), ((u0 6), .inl (cI, 30, .inl (zf (fun _ => 0)))), ((u0 7), .inr (5, [.ref (u0 8)])), ((u0 8), .inl (cI, 60, .inl (zf (fun _ => 0)))), ((u0 9), .inr (5, [.ref (u0 10)])), ((u0 10), .inl (cI, 60, .inl (zf (fun _ => 0)))), ((u0 11), .inr (5, [.ref (u0 12)])), ((u0 12), .inl (cI, 60, .inl (zf (fun _ => 0)))), ((u0 13), .inr (5, [.ref (u0 14)])), ((u0 14), .inl (cI, 9, .inl (zf (fun _ => 0)))), ((u0 15), .inr (0, [.ref (u0 16), .ref (u0 18), .ref (u0 20), .ref (u0 22), .ref (u0 24), .int (zi 0), .int (zi 0), .int (zi 0)])), ((u0 16), .inr (5, [.ref (u0 17)])), ((u0 17), .inl (cI, 60, .inl (zf (rFill 60 (fun _ => 0) (-1))))), ((u0 18), .inr (5, [.ref (u0 19)])), ((u0 19), .inl (cI, 20, .inl (zf (rFill 20 (fun _ => 0) (-1))))), ((u0 20), .inr (5, [.ref (u0 21)])), ((u0 21), .inl (cI, 20, .inl (zf (fun _ => 0)))), ((u0 22), .inr (5, [.ref (u0 23)])), ((u0 23), .inl (cI, 20, .inl (zf (rFill 20 (fun _ => 0) (-1))))), ((u0 24), .inr (5, [.ref (u0 25)])), ((u0 25), .inl (cI, 20, .inl (zf (fun _ => 0)))), ((u0 26), .inr (2, [.ref (u0 27), .int (zi 0)])), ((u0 27), .inr (5, [.ref (u0 28)])), ((u0 28), .inl (cI, 60, .inl (zf (fun _ => 0)))), ((u0 29), .inr (3, [.ref (u0 30), .ref (u0 32), .ref (u0 34)])), ((u0 30), .inr (5, [.ref (u0 31)])), ((u0 31), .inl (cI, 405, .inl (zf (fun _ => 0)))), ((u0 32), .inr (5, [.ref (u0 33)])), ((u0 33), .inl (cI, 405, .inl (zf (fun _ => 0)))), ((u0 34), .inr (5, [.ref (u0 35)])), ((u0 35), .inl (cI, 3600, .inl (zf (fun _ => 0)))), ((u0 36), .inr (4, [.ref (u0 37), .ref (u0 39), .ref (u0 41), .int (zi 0), .int (zi 0)])), ((u0 37), .inr (5, [.ref (u0 38)])), ((u0 38), .inl (cI, 3600, .inl (zf (fun _ => 0)))), ((u0 39), .inr (5, [.ref (u0 40)])), ((u0 40), .inl (cI, 405, .inl (zf (fun _ => 0)))), ((u0 41), .inr (5, [.ref (u0 42)])), ((u0 42), .inl (cI, 3600, .inl (zf (fun _ => 0)))), ((u0 43), .inr (1, [.ref (u0 44)])), ((u0 44), .inr (5, [.ref (u0 45)])), ((u0 45), .inl (cI, 20, .inl (zf (fun _ => 0)))), (q8, .inr (8, [.null, .int (zi 0), .null, .int (zi 0), .null, .null, .int (zi 0), .null, .null, .null, .null, .int (zi 0), .null, .null, .null, .null, .null, .int (zi 0), .int (zi 0), .int (zi 0), .null, .int (zi 0), .null, .null, .null, .null, .null, .null, .null, .null, .null, .int (zi 0)]))] H := hP
  have hD : va_D (fun q : Nat => s.heap.size ≤ q) [(q0, .inr (7, [.ref (u0 0), .ref (u0 15), .ref (u0 26), .ref (u0 29), .ref (u0 36), .ref (u0 43)])), ((u0 0), .inr (6, [.ref (u0 1), .ref (u0 3), .ref (u0 5), .ref (u0 7), .ref (u0 9), .ref (u0 11), .ref (u0 13), .int (zi 0), .int (zi 0), .int (zi 0)])), ((u0 1), .inr (5, [.ref (u0 2)])), ((u0 2), .inl (cI, 6, .inl (zf (fun _ => 0)))), ((u0 3), .inr (5, [.ref (u0 4)])), ((u0 4), .inl (cI, 30, .inl (zf (fun _ => 0)))), ((u0 5), .inr (5, [.ref (u0 6)])), ((u0 6), .inl (cI, 30, .inl (zf (fun _ => 0)))), ((u0 7), .inr (5, [.ref (u0 8)])), ((u0 8), .inl (cI, 60, .inl (zf (fun _ => 0)))), ((u0 9), .inr (5, [.ref (u0 10)])), ((u0 10), .inl (cI, 60, .inl (zf (fun _ => 0)))), ((u0 11), .inr (5, [.ref (u0 12)])), ((u0 12), .inl (cI, 60, .inl (zf (fun _ => 0)))), ((u0 13), .inr (5, [.ref (u0 14)])), ((u0 14), .inl (cI, 9, .inl (zf (fun _ => 0)))), ((u0 15), .inr (0, [.ref (u0 16), .ref (u0 18), .ref (u0 20), .ref (u0 22), .ref (u0 24), .int (zi 0), .int (zi 0), .int (zi 0)])), ((u0 16), .inr (5, [.ref (u0 17)])), ((u0 17), .inl (cI, 60, .inl (zf (rFill 60 (fun _ => 0) (-1))))), ((u0 18), .inr (5, [.ref (u0 19)])), ((u0 19), .inl (cI, 20, .inl (zf (rFill 20 (fun _ => 0) (-1))))), ((u0 20), .inr (5, [.ref (u0 21)])), ((u0 21), .inl (cI, 20, .inl (zf (fun _ => 0)))), ((u0 22), .inr (5, [.ref (u0 23)])), ((u0 23), .inl (cI, 20, .inl (zf (rFill 20 (fun _ => 0) (-1))))), ((u0 24), .inr (5, [.ref (u0 25)])), ((u0 25), .inl (cI, 20, .inl (zf (fun _ => 0)))), ((u0 26), .inr (2, [.ref (u0 27), .int (zi 0)])), ((u0 27), .inr (5, [.ref (u0 28)])), ((u0 28), .inl (cI, 60, .inl (zf (fun _ => 0)))), ((u0 29), .inr (3, [.ref (u0 30), .ref (u0 32), .ref (u0 34)])), ((u0 30), .inr (5, [.ref (u0 31)])), ((u0 31), .inl (cI, 405, .inl (zf (fun _ => 0)))), ((u0 32), .inr (5, [.ref (u0 33)])), ((u0 33), .inl (cI, 405, .inl (zf (fun _ => 0)))), ((u0 34), .inr (5, [.ref (u0 35)])), ((u0 35), .inl (cI, 3600, .inl (zf (fun _ => 0)))), ((u0 36), .inr (4, [.ref (u0 37), .ref (u0 39), .ref (u0 41), .int (zi 0), .int (zi 0)])), ((u0 37), .inr (5, [.ref (u0 38)])), ((u0 38), .inl (cI, 3600, .inl (zf (fun _ => 0)))), ((u0 39), .inr (5, [.ref (u0 40)])), ((u0 40), .inl (cI, 405, .inl (zf (fun _ => 0)))), ((u0 41), .inr (5, [.ref (u0 42)])), ((u0 42), .inl (cI, 3600, .inl (zf (fun _ => 0)))), ((u0 43), .inr (1, [.ref (u0 44)])), ((u0 44), .inr (5, [.ref (u0 45)])), ((u0 45), .inl (cI, 20, .inl (zf (fun _ => 0)))), (q8, .inr (8, [.null, .int (zi 0), .null, .int (zi 0), .null, .null, .int (zi 0), .null, .null, .null, .null, .int (zi 0), .null, .null, .null, .null, .null, .int (zi 0), .int (zi 0), .int (zi 0), .null, .int (zi 0), .null, .null, .null, .null, .null, .null, .null, .null, .null, .int (zi 0)]))] := hD
  refine lv_dup hx hb dT_11 rfl ?_
  have hPc := hP.sub (ws' := [(q8, .inr (8, [.null, .int (zi 0), .null, .int (zi 0), .null, .null, .int (zi 0), .null, .null, .null, .null, .int (zi 0), .null, .null, .null, .null, .null, .int (zi 0), .int (zi 0), .int (zi 0), .null, .int (zi 0), .null, .null, .null, .null, .null, .null, .null, .null, .null, .int (zi 0)]))]) [47] rfl
  have hDc := hD.sub (ws' := [(q8, .inr (8, [.null, .int (zi 0), .null, .int (zi 0), .null, .null, .int (zi 0), .null, .null, .null, .null, .int (zi 0), .null, .null, .null, .null, .null, .int (zi 0), .int (zi 0), .int (zi 0), .null, .int (zi 0), .null, .null, .null, .null, .null, .null, .null, .null, .null, .int (zi 0)]))]) [47] (by decide) rfl
  have hFc := va_free (wc := [(q8, .inr (8, [.null, .int (zi 0), .null, .int (zi 0), .null, .null, .int (zi 0), .null, .null, .null, .null, .int (zi 0), .null, .null, .null, .null, .null, .int (zi 0), .int (zi 0), .int (zi 0), .null, .int (zi 0), .null, .null, .null, .null, .null, .null, .null, .null, .null, .int (zi 0)]))]) hD hS hA [47] rfl
  refine va_callv (va_runI (As := []) (rest := [.ref q8]) ⟨hx, hb, hml, hown, hts⟩ (ct_X8_init l D cI cZ cJ q8 H.size) (cwI 0 hts gT_X8_init rfl rfl rfl (hts _ lt_ini8) (hts _ lt_ml89) (hts _ lt_im8) rfl (by decide +kernel) ⟨Nat.le_of_ble_eq_true rfl, Nat.le_of_ble_eq_true rfl⟩) ⟨fun a U g mk q => by obtain ⟨q0, q1, qP, qK, qD⟩ := q; exact ⟨q0, q1, qP, KK.same (u := U) (U := U.calling g mk a) rfl qK, qD⟩, fun U hU hW => ⟨rfl, by rw [hU], by rw [hU]; exact hPc, KK.warm hW hK, hDc.weaken (fun _ _ _ _ => trivial)⟩⟩ rfl rfl hl.1 rfl (lv_room (Nat.le_of_ble_eq_true rfl)) dT_12 ⟨Nat.le_of_ble_eq_true rfl, Nat.le_of_ble_eq_true rfl⟩) hS (fun q _ h => hFc q h) hFc (fun u8 t H1 locs ht hvm hw hB hz1 hk1 hS => ?_)
  obtain ⟨hP1, hD1⟩ := hB
  rw [ht] at hP1
  obtain ⟨hP, hD⟩ := va_join (wr := [(q0, .inr (7, [.ref (u0 0), .ref (u0 15), .ref (u0 26), .ref (u0 29), .ref (u0 36), .ref (u0 43)])), ((u0 0), .inr (6, [.ref (u0 1), .ref (u0 3), .ref (u0 5), .ref (u0 7), .ref (u0 9), .ref (u0 11), .ref (u0 13), .int (zi 0), .int (zi 0), .int (zi 0)])), ((u0 1), .inr (5, [.ref (u0 2)])), ((u0 2), .inl (cI, 6, .inl (zf (fun _ => 0)))), ((u0 3), .inr (5, [.ref (u0 4)])), ((u0 4), .inl (cI, 30, .inl (zf (fun _ => 0)))), ((u0 5), .inr (5, [.ref (u0 6)])), ((u0 6), .inl (cI, 30, .inl (zf (fun _ => 0)))), ((u0 7), .inr (5, [.ref (u0 8)])), ((u0 8), .inl (cI, 60, .inl (zf (fun _ => 0)))), ((u0 9), .inr (5, [.ref (u0 10)])), ((u0 10), .inl (cI, 60, .inl (zf (fun _ => 0)))), ((u0 11), .inr (5, [.ref (u0 12)])), ((u0 12), .inl (cI, 60, .inl (zf (fun _ => 0)))), ((u0 13), .inr (5, [.ref (u0 14)])), ((u0 14), .inl (cI, 9, .inl (zf (fun _ => 0)))), ((u0 15), .inr (0, [.ref (u0 16), .ref (u0 18), .ref (u0 20), .ref (u0 22), .ref (u0 24), .int (zi 0), .int (zi 0), .int (zi 0)])), ((u0 16), .inr (5, [.ref (u0 17)])), ((u0 17), .inl (cI, 60, .inl (zf (rFill 60 (fun _ => 0) (-1))))), ((u0 18), .inr (5, [.ref (u0 19)])), ((u0 19), .inl (cI, 20, .inl (zf (rFill 20 (fun _ => 0) (-1))))), ((u0 20), .inr (5, [.ref (u0 21)])), ((u0 21), .inl (cI, 20, .inl (zf (fun _ => 0)))), ((u0 22), .inr (5, [.ref (u0 23)])), ((u0 23), .inl (cI, 20, .inl (zf (rFill 20 (fun _ => 0) (-1))))), ((u0 24), .inr (5, [.ref (u0 25)])), ((u0 25), .inl (cI, 20, .inl (zf (fun _ => 0)))), ((u0 26), .inr (2, [.ref (u0 27), .int (zi 0)])), ((u0 27), .inr (5, [.ref (u0 28)])), ((u0 28), .inl (cI, 60, .inl (zf (fun _ => 0)))), ((u0 29), .inr (3, [.ref (u0 30), .ref (u0 32), .ref (u0 34)])), ((u0 30), .inr (5, [.ref (u0 31)])), ((u0 31), .inl (cI, 405, .inl (zf (fun _ => 0)))), ((u0 32), .inr (5, [.ref (u0 33)])), ((u0 33), .inl (cI, 405, .inl (zf (fun _ => 0)))), ((u0 34), .inr (5, [.ref (u0 35)])), ((u0 35), .inl (cI, 3600, .inl (zf (fun _ => 0)))), ((u0 36), .inr (4, [.ref (u0 37), .ref (u0 39), .ref (u0 41), .int (zi 0), .int (zi 0)])), ((u0 37), .inr (5, [.ref (u0 38)])), ((u0 38), .inl (cI, 3600, .inl (zf (fun _ => 0)))), ((u0 39), .inr (5, [.ref (u0 40)])), ((u0 40), .inl (cI, 405, .inl (zf (fun _ => 0)))), ((u0 41), .inr (5, [.ref (u0 42)])), ((u0 42), .inl (cI, 3600, .inl (zf (fun _ => 0)))), ((u0 43), .inr (1, [.ref (u0 44)])), ((u0 44), .inr (5, [.ref (u0 45)])), ((u0 45), .inl (cI, 20, .inl (zf (fun _ => 0))))]) (w1 := [(q8, .inr (8, [.ref (u8 0), .int (zi 0), .ref (u8 1), .int (zi 0), .ref (u8 2), .ref (u8 3), .int (zi 0), .ref (u8 4), .ref (u8 5), .ref (u8 6), .ref (u8 7), .int (zi 0), .ref (u8 8), .ref (u8 9), .ref (u8 10), .ref (u8 11), .ref (u8 12), .int (zi 0), .int (zi 0), .int (zi 0), .ref (u8 13), .int (zi 0), .ref (u8 14), .ref (u8 15), .ref (u8 16), .ref (u8 17), .ref (u8 18), .ref (u8 19), .ref (u8 20), .ref (u8 21), .ref (u8 22), .int (zi 0)])), ((u8 0), .inl (cI, 9, .inl (zf (fun _ => 0)))), ((u8 1), .inl (cI, 6, .inl (zf (fun _ => 0)))), ((u8 2), .inl (cI, 30, .inl (zf (fun _ => 0)))), ((u8 3), .inl (cI, 30, .inl (zf (fun _ => 0)))), ((u8 4), .inl (cI, 60, .inl (zf (fun _ => 0)))), ((u8 5), .inl (cI, 60, .inl (zf (fun _ => 0)))), ((u8 6), .inl (cI, 60, .inl (zf (fun _ => 0)))), ((u8 7), .inl (cI, 60, .inl (zf (fun _ => 0)))), ((u8 8), .inl (cI, 20, .inl (zf (fun _ => 0)))), ((u8 9), .inl (cI, 20, .inl (zf (fun _ => 0)))), ((u8 10), .inl (cI, 20, .inl (zf (fun _ => 0)))), ((u8 11), .inl (cI, 20, .inl (zf (fun _ => 0)))), ((u8 12), .inl (cI, 20, .inl (zf (fun _ => 0)))), ((u8 13), .inl (cI, 60, .inl (zf (fun _ => 0)))), ((u8 14), .inl (cI, 7695, .inl (zf (fun _ => 0)))), ((u8 15), .inl (cI, 3600, .inl (zf (fun _ => 0)))), ((u8 16), .inl (cI, 3600, .inl (zf (fun _ => 0)))), ((u8 17), .inl (cI, 7695, .inl (zf (fun _ => 0)))), ((u8 18), .inl (cI, 7695, .inl (zf (fun _ => 0)))), ((u8 19), .inl (cZ, 7695, .inl (zf (fun _ => 0)))), ((u8 20), .inl (cI, 20, .inl (zf (fun _ => 0)))), ((u8 21), .inl (cI, 20, .inl (zf (fun _ => 0)))), ((u8 22), .inl (cI, 20, .inl (zf (fun _ => 0))))]) hP hD [47] [0, 1, 2, 3, 4, 5, 6, 7, 8, 9, 10, 11, 12, 13, 14, 15, 16, 17, 18, 19, 20, 21, 22, 23, 24, 25, 26, 27, 28, 29, 30, 31, 32, 33, 34, 35, 36, 37, 38, 39, 40, 41, 42, 43, 44, 45, 46] rfl rfl (by decide) (by decide) hk1 hFc hP1 hD1
  clear hPc hDc hFc hP1 hD1 hz1 hk1 ht hvm hw
  generalize H1 = H at hP hS ⊢
  have hP : va_P D vwCl [(q0, .inr (7, [.ref (u0 0), .ref (u0 15), .ref (u0 26), .ref (u0 29), .ref (u0 36), .ref (u0 43)])), ((u0 0), .inr (6, [.ref (u0 1), .ref (u0 3), .ref (u0 5), .ref (u0 7), .ref (u0 9), .ref (u0 11), .ref (u0 13), .int (zi 0), .int (zi 0), .int (zi 0)])), ((u0 1), .inr (5, [.ref (u0 2)])), ((u0 2), .inl (cI, 6, .inl (zf (fun _ => 0)))), ((u0 3), .inr (5, [.ref (u0 4)])), ((u0 4), .inl (cI, 30, .inl (zf (fun _ => 0)))), ((u0 5), .inr (5, [.ref (u0 6)])), ((u0 6), .inl (cI, 30, .inl (zf (fun _ => 0)))), ((u0 7), .inr (5, [.ref (u0 8)])), ((u0 8), .inl (cI, 60, .inl (zf (fun _ => 0)))), ((u0 9), .inr (5, [.ref (u0 10)])), ((u0 10), .inl (cI, 60, .inl (zf (fun _ => 0)))), ((u0 11), .inr (5, [.ref (u0 12)])), ((u0 12), .inl (cI, 60, .inl (zf (fun _ => 0)))), ((u0 13), .inr (5, [.ref (u0 14)])), ((u0 14), .inl (cI, 9, .inl (zf (fun _ => 0)))), ((u0 15), .inr (0, [.ref (u0 16), .ref (u0 18), .ref (u0 20), .ref (u0 22), .ref (u0 24), .int (zi 0), .int (zi 0), .int (zi 0)])), ((u0 16), .inr (5, [.ref (u0 17)])), ((u0 17), .inl (cI, 60, .inl (zf (rFill 60 (fun _ => 0) (-1))))), ((u0 18), .inr (5, [.ref (u0 19)])), ((u0 19), .inl (cI, 20, .inl (zf (rFill 20 (fun _ => 0) (-1))))), ((u0 20), .inr (5, [.ref (u0 21)])), ((u0 21), .inl (cI, 20, .inl (zf (fun _ => 0)))), ((u0 22), .inr (5, [.ref (u0 23)])), ((u0 23), .inl (cI, 20, .inl (zf (rFill 20 (fun _ => 0) (-1))))), ((u0 24), .inr (5, [.ref (u0 25)])), ((u0 25), .inl (cI, 20, .inl (zf (fun _ => 0)))), ((u0 26), .inr (2, [.ref (u0 27), .int (zi 0)])), ((u0 27), .inr (5, [.ref (u0 28)])), ((u0 28), .inl (cI, 60, .inl (zf (fun _ => 0)))), ((u0 29), .inr (3, [.ref (u0 30), .ref (u0 32), .ref (u0 34)])), ((u0 30), .inr (5, [.ref (u0 31)])), ((u0 31), .inl (cI, 405, .inl (zf (fun _ => 0)))), ((u0 32), .inr (5, [.ref (u0 33)])), ((u0 33), .inl (cI, 405, .inl (zf (fun _ => 0)))), ((u0 34), .inr (5, [.ref (u0 35)])), ((u0 35), .inl (cI, 3600, .inl (zf (fun _ => 0)))), ((u0 36), .inr (4, [.ref (u0 37), .ref (u0 39), .ref (u0 41), .int (zi 0), .int (zi 0)])), ((u0 37), .inr (5, [.ref (u0 38)])), ((u0 38), .inl (cI, 3600, .inl (zf (fun _ => 0)))), ((u0 39), .inr (5, [.ref (u0 40)])), ((u0 40), .inl (cI, 405, .inl (zf (fun _ => 0)))), ((u0 41), .inr (5, [.ref (u0 42)])), ((u0 42), .inl (cI, 3600, .inl (zf (fun _ => 0)))), ((u0 43), .inr (1, [.ref (u0 44)])), ((u0 44), .inr (5, [.ref (u0 45)])), ((u0 45), .inl (cI, 20, .inl (zf (fun _ => 0)))), (q8, .inr (8, [.ref (u8 0), .int (zi 0), .ref (u8 1), .int (zi 0), .ref (u8 2), .ref (u8 3), .int (zi 0), .ref (u8 4), .ref (u8 5), .ref (u8 6), .ref (u8 7), .int (zi 0), .ref (u8 8), .ref (u8 9), .ref (u8 10), .ref (u8 11), .ref (u8 12), .int (zi 0), .int (zi 0), .int (zi 0), .ref (u8 13), .int (zi 0), .ref (u8 14), .ref (u8 15), .ref (u8 16), .ref (u8 17), .ref (u8 18), .ref (u8 19), .ref (u8 20), .ref (u8 21), .ref (u8 22), .int (zi 0)])), ((u8 0), .inl (cI, 9, .inl (zf (fun _ => 0)))), ((u8 1), .inl (cI, 6, .inl (zf (fun _ => 0)))), ((u8 2), .inl (cI, 30, .inl (zf (fun _ => 0)))), ((u8 3), .inl (cI, 30, .inl (zf (fun _ => 0)))), ((u8 4), .inl (cI, 60, .inl (zf (fun _ => 0)))), ((u8 5), .inl (cI, 60, .inl (zf (fun _ => 0)))), ((u8 6), .inl (cI, 60, .inl (zf (fun _ => 0)))), ((u8 7), .inl (cI, 60, .inl (zf (fun _ => 0)))), ((u8 8), .inl (cI, 20, .inl (zf (fun _ => 0)))), ((u8 9), .inl (cI, 20, .inl (zf (fun _ => 0)))), ((u8 10), .inl (cI, 20, .inl (zf (fun _ => 0)))), ((u8 11), .inl (cI, 20, .inl (zf (fun _ => 0)))), ((u8 12), .inl (cI, 20, .inl (zf (fun _ => 0)))), ((u8 13), .inl (cI, 60, .inl (zf (fun _ => 0)))), ((u8 14), .inl (cI, 7695, .inl (zf (fun _ => 0)))), ((u8 15), .inl (cI, 3600, .inl (zf (fun _ => 0)))), ((u8 16), .inl (cI, 3600, .inl (zf (fun _ => 0)))), ((u8 17), .inl (cI, 7695, .inl (zf (fun _ => 0)))), ((u8 18), .inl (cI, 7695, .inl (zf (fun _ => 0)))), ((u8 19), .inl (cZ, 7695, .inl (zf (fun _ => 0)))), ((u8 20), .inl (cI, 20, .inl (zf (fun _ => 0)))), ((u8 21), .inl (cI, 20, .inl (zf (fun _ => 0)))), ((u8 22), .inl (cI, 20, .inl (zf (fun _ => 0))))] H := hP
  have hD : va_D (fun q : Nat => s.heap.size ≤ q) [(q0, .inr (7, [.ref (u0 0), .ref (u0 15), .ref (u0 26), .ref (u0 29), .ref (u0 36), .ref (u0 43)])), ((u0 0), .inr (6, [.ref (u0 1), .ref (u0 3), .ref (u0 5), .ref (u0 7), .ref (u0 9), .ref (u0 11), .ref (u0 13), .int (zi 0), .int (zi 0), .int (zi 0)])), ((u0 1), .inr (5, [.ref (u0 2)])), ((u0 2), .inl (cI, 6, .inl (zf (fun _ => 0)))), ((u0 3), .inr (5, [.ref (u0 4)])), ((u0 4), .inl (cI, 30, .inl (zf (fun _ => 0)))), ((u0 5), .inr (5, [.ref (u0 6)])), ((u0 6), .inl (cI, 30, .inl (zf (fun _ => 0)))), ((u0 7), .inr (5, [.ref (u0 8)])), ((u0 8), .inl (cI, 60, .inl (zf (fun _ => 0)))), ((u0 9), .inr (5, [.ref (u0 10)])), ((u0 10), .inl (cI, 60, .inl (zf (fun _ => 0)))), ((u0 11), .inr (5, [.ref (u0 12)])), ((u0 12), .inl (cI, 60, .inl (zf (fun _ => 0)))), ((u0 13), .inr (5, [.ref (u0 14)])), ((u0 14), .inl (cI, 9, .inl (zf (fun _ => 0)))), ((u0 15), .inr (0, [.ref (u0 16), .ref (u0 18), .ref (u0 20), .ref (u0 22), .ref (u0 24), .int (zi 0), .int (zi 0), .int (zi 0)])), ((u0 16), .inr (5, [.ref (u0 17)])), ((u0 17), .inl (cI, 60, .inl (zf (rFill 60 (fun _ => 0) (-1))))), ((u0 18), .inr (5, [.ref (u0 19)])), ((u0 19), .inl (cI, 20, .inl (zf (rFill 20 (fun _ => 0) (-1))))), ((u0 20), .inr (5, [.ref (u0 21)])), ((u0 21), .inl (cI, 20, .inl (zf (fun _ => 0)))), ((u0 22), .inr (5, [.ref (u0 23)])), ((u0 23), .inl (cI, 20, .inl (zf (rFill 20 (fun _ => 0) (-1))))), ((u0 24), .inr (5, [.ref (u0 25)])), ((u0 25), .inl (cI, 20, .inl (zf (fun _ => 0)))), ((u0 26), .inr (2, [.ref (u0 27), .int (zi 0)])), ((u0 27), .inr (5, [.ref (u0 28)])), ((u0 28), .inl (cI, 60, .inl (zf (fun _ => 0)))), ((u0 29), .inr (3, [.ref (u0 30), .ref (u0 32), .ref (u0 34)])), ((u0 30), .inr (5, [.ref (u0 31)])), ((u0 31), .inl (cI, 405, .inl (zf (fun _ => 0)))), ((u0 32), .inr (5, [.ref (u0 33)])), ((u0 33), .inl (cI, 405, .inl (zf (fun _ => 0)))), ((u0 34), .inr (5, [.ref (u0 35)])), ((u0 35), .inl (cI, 3600, .inl (zf (fun _ => 0)))), ((u0 36), .inr (4, [.ref (u0 37), .ref (u0 39), .ref (u0 41), .int (zi 0), .int (zi 0)])), ((u0 37), .inr (5, [.ref (u0 38)])), ((u0 38), .inl (cI, 3600, .inl (zf (fun _ => 0)))), ((u0 39), .inr (5, [.ref (u0 40)])), ((u0 40), .inl (cI, 405, .inl (zf (fun _ => 0)))), ((u0 41), .inr (5, [.ref (u0 42)])), ((u0 42), .inl (cI, 3600, .inl (zf (fun _ => 0)))), ((u0 43), .inr (1, [.ref (u0 44)])), ((u0 44), .inr (5, [.ref (u0 45)])), ((u0 45), .inl (cI, 20, .inl (zf (fun _ => 0)))), (q8, .inr (8, [.ref (u8 0), .int (zi 0), .ref (u8 1), .int (zi 0), .ref (u8 2), .ref (u8 3), .int (zi 0), .ref (u8 4), .ref (u8 5), .ref (u8 6), .ref (u8 7), .int (zi 0), .ref (u8 8), .ref (u8 9), .ref (u8 10), .ref (u8 11), .ref (u8 12), .int (zi 0), .int (zi 0), .int (zi 0), .ref (u8 13), .int (zi 0), .ref (u8 14), .ref (u8 15), .ref (u8 16), .ref (u8 17), .ref (u8 18), .ref (u8 19), .ref (u8 20), .ref (u8 21), .ref (u8 22), .int (zi 0)])), ((u8 0), .inl (cI, 9, .inl (zf (fun _ => 0)))), ((u8 1), .inl (cI, 6, .inl (zf (fun _ => 0)))), ((u8 2), .inl (cI, 30, .inl (zf (fun _ => 0)))), ((u8 3), .inl (cI, 30, .inl (zf (fun _ => 0)))), ((u8 4), .inl (cI, 60, .inl (zf (fun _ => 0)))), ((u8 5), .inl (cI, 60, .inl (zf (fun _ => 0)))), ((u8 6), .inl (cI, 60, .inl (zf (fun _ => 0)))), ((u8 7), .inl (cI, 60, .inl (zf (fun _ => 0)))), ((u8 8), .inl (cI, 20, .inl (zf (fun _ => 0)))), ((u8 9), .inl (cI, 20, .inl (zf (fun _ => 0)))), ((u8 10), .inl (cI, 20, .inl (zf (fun _ => 0)))), ((u8 11), .inl (cI, 20, .inl (zf (fun _ => 0)))), ((u8 12), .inl (cI, 20, .inl (zf (fun _ => 0)))), ((u8 13), .inl (cI, 60, .inl (zf (fun _ => 0)))), ((u8 14), .inl (cI, 7695, .inl (zf (fun _ => 0)))), ((u8 15), .inl (cI, 3600, .inl (zf (fun _ => 0)))), ((u8 16), .inl (cI, 3600, .inl (zf (fun _ => 0)))), ((u8 17), .inl (cI, 7695, .inl (zf (fun _ => 0)))), ((u8 18), .inl (cI, 7695, .inl (zf (fun _ => 0)))), ((u8 19), .inl (cZ, 7695, .inl (zf (fun _ => 0)))), ((u8 20), .inl (cI, 20, .inl (zf (fun _ => 0)))), ((u8 21), .inl (cI, 20, .inl (zf (fun _ => 0)))), ((u8 22), .inl (cI, 20, .inl (zf (fun _ => 0))))] := hD
  refine lv_astore_n (lv' := [(2, .ref q8), (1, .ref q0), (0, .ref b)]) hx hb dT_15 rfl hl (by decide) rfl (fun ls hl => ?_)
  refine zi_iconst hx hb dT_16 ?_
  refine va_newa (atype := .long) (a0 := (1, .inr (.inl (fun _ => 0)))) hx hb (hts _ lt_arJ) (ty := .long) rfl hK.1 hP hD hS hA (fun _ => rfl) (by decide) (by decide) (Nat.le_of_ble_eq_true rfl) (Nat.le_of_ble_eq_true rfl) (Nat.le_of_ble_eq_true rfl) dT_17 (fun q17 cA H hKa hP hD hS => ?_)
  refine lv_astore_n (lv' := [(3, .ref q17), (2, .ref q8), (1, .ref q0), (0, .ref b)]) hx hb dT_19 rfl hl (by decide) rfl (fun ls hl => ?_)
  refine zi_iconst hx hb dT_20 ?_
  refine lv_istore (lv' := [(4, .int (zi 0)), (3, .ref q17), (2, .ref q8), (1, .ref q0), (0, .ref b)]) hx hb dT_21 hl (by decide) rfl (fun ls hl => ?_)
  refine lv_iload hx hb dT_23 (lv_at hl 0 rfl) ?_
  refine lv_aload_n hx hb dT_25 rfl (lv_at hl 4 rfl) ?_
  refine va_slen hx hb hX hbl hbA hS dT_26 ?_
  refine zi_is 0 rfl ?_
  refine zi_iconst hx hb dT_27 ?_
  refine zi_isub hx hb dT_28 ?_
  refine zi_icmp_gt (tgt := 1050) hx hb ⟨by decide, by decide⟩ ⟨by decide, by decide⟩ dT_29 (by decide) (fun c_29 => ?_) (fun c_29 => absurd c_29 (by decide))
  refine zi_iconst hx hb dT_1050 ?_
  have hbig := heap_lb hP hD (n := s.heap.size) (fun _ h => h) [36, 39, 43, 62, 63, 64, 65, 66, 67] (by decide) (fun i hi => by simp only [List.mem_cons, List.not_mem_nil, or_false] at hi; rcases hi with rfl | rfl | rfl | rfl | rfl | rfl | rfl | rfl | rfl <;> exact Nat.le_of_ble_eq_true rfl)
  exact big_ret hx hb hr hlocks dT_1051 (Nat.lt_of_lt_of_le (show 46873 < 48780 by decide) hbig)
end
section
/-! a start with an empty script -/
def about9 : State := start1.aboutOf #[]
theorem w9_1 : tables_1_1.all (fun c => c.onTables || c.before start1.args0 about9) = true := by decide +kernel
theorem w9_2 : tables_1_2.all (fun c => c.onTables || c.before start1.args0 about9) = true := by decide +kernel
theorem w9_3 : tables_1_3.all (fun c => c.onTables || c.before start1.args0 about9) = true := by decide +kernel
theorem w9_4 : tables_1_4.all (fun c => c.onTables || c.before start1.args0 about9) = true := by decide +kernel
theorem w9_5 : tables_1_5.all (fun c => c.onTables || c.before start1.args0 about9) = true := by decide +kernel
theorem w9_of {L : List Cond} (h : L.all (fun c => c.onTables || c.before start1.args0 about9) = true) (hL : ∀ c ∈ L, c.before start1.args0 start1.about = true) : ∀ c ∈ L, c.before start1.args0 about9 = true := fun c hc => by
  have h1 := List.all_eq_true.mp h c hc
  rcases Bool.or_eq_true _ _ ▸ h1 with h2 | h2
  · exact va_tabs h2 (show start1.about.vm = about9.vm from rfl) (hL c hc)
  · exact h2
theorem words9 : ∀ c ∈ (Cond.code x code maxLocals ret :: tables_1), c.before start1.args0 about9 = true := by
  intro c hc
  rcases List.mem_cons.mp hc with h | h
  · rw [h]
    exact va_tabs rfl (show start1.about.vm = about9.vm from rfl) (start1.words _ List.mem_cons_self)
  · have hA : ∀ c ∈ tables_1, c.before start1.args0 start1.about = true := fun c h => start1.words c (List.mem_cons_of_mem _ h)
    have h1 : c ∈ tables_1_1 ++ (tables_1_2 ++ (tables_1_3 ++ (tables_1_4 ++ tables_1_5))) := h
    have hB : ∀ c ∈ tables_1_1 ++ (tables_1_2 ++ (tables_1_3 ++ (tables_1_4 ++ tables_1_5))), c.before start1.args0 start1.about = true := hA
    rcases List.mem_append.mp h1 with h2 | h1
    · exact w9_of w9_1 (fun c hc => hB c (List.mem_append_left _ hc)) c h2
    rcases List.mem_append.mp h1 with h2 | h1
    · exact w9_of w9_2 (fun c hc => hB c (List.mem_append_right _ (List.mem_append_left _ hc))) c h2
    rcases List.mem_append.mp h1 with h2 | h1
    · exact w9_of w9_3 (fun c hc => hB c (List.mem_append_right _ (List.mem_append_right _ (List.mem_append_left _ hc)))) c h2
    rcases List.mem_append.mp h1 with h2 | h1
    · exact w9_of w9_4 (fun c hc => hB c (List.mem_append_right _ (List.mem_append_right _ (List.mem_append_right _ (List.mem_append_left _ hc))))) c h2
    exact w9_of w9_5 (fun c hc => hB c (List.mem_append_right _ (List.mem_append_right _ (List.mem_append_right _ (List.mem_append_right _ hc))))) c h1
end
section
set_option maxRecDepth 16384 in
theorem appl9 (R : Room) (h1 : about9.frames.length + R.frames ≤ launch0.maxFrames) (h2 : about9.heap.size + R.cells ≤ launch0.maxCells) (h3 : about9.slotsUsed + R.slots ≤ launch0.maxSlots) (h4 : about9.localsInUse + R.locals ≤ launch0.maxStackSlots - stackMargin) (h5 : about9.localsInUse + R.locals + stackMargin ≤ realStackBytes / 8) : (headSpec (Cond.code x code maxLocals ret :: tables_1) R).applies x start1.e0.platform about9 = true :=
  (Spec.applies_iff rfl).mpr ⟨rfl, rfl, rfl, by decide +kernel, by decide +kernel, by decide +kernel, launch0.hasRoom_least _ R h1 h2 h3 h4 (by decide +kernel) (by decide +kernel) h5, atoms_intro words9⟩
set_option maxRecDepth 16384 in
theorem start9 : AtStart classFile x code maxLocals ret World_1 tables_1 room_1 Calls_1 rest_1 Pre_1 launch0 start1.p0 start1.e0 about9 ⟨0, 0⟩ start1.args0 Lib.HandBits.below0 :=
  ⟨lists_1, trivial, launch0.admits_env _ _ _, launch0.least_env, fairChoices_fair.cas, fairChoices_fair.clock, rfl, by decide +kernel, by decide +kernel, appl9 room_1 (by decide +kernel) (by decide +kernel) (by decide +kernel) (by decide +kernel) (by decide +kernel), trivial, (show rest_1_c.before start1.args0 about9 = true by decide +kernel), (show (Cond.and given_1 narrow_1).before start1.args0 about9 = true by decide +kernel)⟩
def bigP (args : Array Value) (s : State) : Prop := args = #[.ref 0] ∧ va_X 0 0 (fun _ => 0) s s.heap
def bigQ (_ : Array Value) (s : State) (_ : Outcome) (t : State) : Prop := 46873 < ((t.heap.toList.drop s.heap.size).map (fun c => c.slots.size)).sum
set_option maxHeartbeats 4000000 in
theorem big_walk (l : Launch) : MetFree l x (headSpec (Jvm.Cond.code x code maxLocals ret :: tables_1) roomB) bigP (fun _ _ _ _ _ => True) bigQ := by
  refine MetFree.of_bodyS (code := code) (maxLocals := maxLocals) (ret := ret) (by decide) ?_ ?_
  · intro args s m h hn
    obtain ⟨meth, c, h1, h2, h3, h4, h5, h6, -, -⟩ := Cond.code_spec hn (atoms_spec (ws := Jvm.Cond.code x code maxLocals ret :: tables_1) h _ List.mem_cons_self)
    exact ⟨meth, c, h1, h2, h3, h4, h5, h6⟩
  · intro p e s m args below meth c s₁ B hml0 hP _
    obtain ⟨rfl, hX⟩ := hP
    have hown : s.vm.findClass RL = some m.cls := findClass_of_methodNamed B.named
    have hts0 : ∀ c ∈ (Jvm.Cond.code x code maxLocals ret :: tables_1), c.before #[Value.ref 0] s = true := atoms_spec (ws := Jvm.Cond.code x code maxLocals ret :: tables_1) B.pre
    have hts : ∀ w ∈ lw_tbl, w.before #[Value.ref 0] s = true := k2_hts_sels lw_privs (fun w hw => hts0 w (List.mem_cons_of_mem _ hw)) lw_privs_ok
    have hml : c.maxLocals = 7 := B.maxLocals_eq (hts0 _ List.mem_cons_self)
    have X₀ : Stand p l e roomB s m #[Value.ref 0] below meth c s₁ [] 0 0 := Stand.of_body B
    have hh0 : s₁.heap = s.heap := by rw [B.state]; rfl
    have hbl : 0 < s.heap.size := by
      obtain ⟨scr, h1, _⟩ := hX
      exact (Array.getElem?_eq_some_iff.mp h1).1
    have K : W p l e roomB s m #[Value.ref 0] below meth c s₁.heap [] 0 0 (bigZ below s) (entryFrame m ([Value.ref 0] : List Value).toArray 7) := by
      rw [hh0]
      exact big_start l B.exec B.bytes B.returns hml hown hts hX hbl B.notSynchronized
    obtain ⟨t, a1, o, b1, b2, b3⟩ := K s₁ rfl X₀
    exact ⟨t, o, a1, b1, b2, b3⟩
theorem x9 : va_X 0 0 (fun _ => 0) about9 about9.heap := ⟨_, rfl, ⟨fun k h => (by cases h), _, rfl, 20, rfl⟩, fun h => (by cases h), rfl, fun j h => absurd h (by omega)⟩
/-- at the start about9 (an empty script) the law ends, and has made more slots than the Statement's Framed allows -/
theorem run9 : ∃ (n : Nat) (o : Outcome), (∀ k, k < n → Within (stepsAlone start1.p0.tables start1.e0 k about9) Lib.HandBits.below0) ∧ (stepsAlone start1.p0.tables start1.e0 n about9).status = Status.running ∧ Ended (stepsAlone start1.p0.tables start1.e0 n about9) Lib.HandBits.below0 o ∧ bigQ start1.args0 about9 o (stepsAlone start1.p0.tables start1.e0 n about9) := by
  obtain ⟨k, o, h1, h2, h3, hQ⟩ := big_walk launch0 start1.p0 start1.e0 (launch0.admits_env _ _ _) fairChoices_fair.cas fairChoices_fair.clock about9 ⟨0, 0⟩ start1.args0 Lib.HandBits.below0 rfl ((Spec.applies_iff_loose rfl).mp (appl9 roomB (by decide +kernel) (by decide +kernel) (by decide +kernel) (by decide +kernel) (by decide +kernel))).1 ⟨rfl, x9⟩ trivial
  exact ⟨k, o, h1, h2, h3, hQ⟩
theorem no_frame {s t : State} {o : Outcome} {L : List Loc} {args : Array Value} (h : bigQ args s o t) : ¬ Framed s o t L 1109 46873 := fun hF => by
  obtain ⟨_, _, _, _, _, _, hle, _⟩ := hF
  have h1 : ((t.heap.toList.drop s.heap.size).map (fun c => c.slots.size)).sum ≤ 46873 := hle
  unfold bigQ at h
  omega
/-- the Statement's own word for it: Claimed_1_1 is refuted -/
theorem refuted_1 : RefutedClaimed_1_1 := by
  obtain ⟨n, o, h1, h2, h3, hQ⟩ := run9
  exact ⟨launch0, start1.p0, start1.e0, about9, ⟨0, 0⟩, start1.args0, Lib.HandBits.below0, rfl, start9, n, o, h1, h2, h3, fun hP => no_frame hQ hP.2⟩
theorem refuted_2 : RefutedClaimed_1_2 := by
  obtain ⟨n, o, h1, h2, h3, hQ⟩ := run9
  exact ⟨launch0, start1.p0, start1.e0, about9, ⟨0, 0⟩, start1.args0, Lib.HandBits.below0, rfl, start9, n, o, h1, h2, h3, fun hP => no_frame hQ hP.2⟩
/-- what is owed (i_vc) is false: its first half alone is -/
theorem not_claimed_1 : ¬ Claimed_1_1 := fun hC => by
  obtain ⟨n, o, h1, h2, h3, hQ⟩ := run9
  obtain ⟨-, -, a1, -, a2, a3, a4, a5, a6, a7, a8, a9, a10⟩ := start9
  obtain ⟨n2, o2, g1, g2, g3, g4⟩ := hC launch0 rfl lists_1 trivial start1.p0 start1.e0 a1 a2 a3 about9 ⟨0, 0⟩ start1.args0 Lib.HandBits.below0 a4 a5 a6 a7 ⟨a8, a9, a10⟩
  have e : n = n2 := by
    rcases Nat.lt_trichotomy n n2 with h | h | h
    · exact absurd (g1 n h) h3.not_within
    · exact h
    · exact absurd (h1 n2 h) g3.not_within
  subst e
  have hQ2 : bigQ start1.args0 about9 o2 (stepsAlone start1.p0.tables start1.e0 n about9) := hQ
  exact no_frame hQ2 g4.2
theorem not_owed : ¬ (Claimed_1_1 ∧ Claimed_1_2) := fun h => not_claimed_1 h.1
end
