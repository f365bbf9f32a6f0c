/-- a private method of a class that the tables say can be made, by its rows of tables_1 -/
def lw_okq (q : MethodName × Nat) : Prop := (q.1.cls ≠ "java/lang/invoke/MethodHandle" ∧ q.1.cls ≠ "java/lang/invoke/VarHandle") ∧ Cond.instantiable q.1.cls q.2 ∈ tables_1 ∧ Cond.privateMethod q.1 ∈ tables_1 ∧ Cond.instanceMethod q.1 ∈ tables_1
theorem lw_p0 : lw_okq (⟨"DoorsOneSide$Doors", "measureWays", "()V"⟩, 8) := ⟨⟨by decide +kernel, by decide +kernel⟩, List.mem_of_getElem? (i := 25) (by decide +kernel), List.mem_of_getElem? (i := 31) (by decide +kernel), List.mem_of_getElem? (i := 32) (by decide +kernel)⟩
theorem lw_p1 : lw_okq (⟨"DoorsOneSide$Doors", "shortenWaysBy", "(II)Z"⟩, 8) := ⟨⟨by decide +kernel, by decide +kernel⟩, List.mem_of_getElem? (i := 25) (by decide +kernel), List.mem_of_getElem? (i := 41) (by decide +kernel), List.mem_of_getElem? (i := 42) (by decide +kernel)⟩
theorem lw_p2 : lw_okq (⟨"DoorsOneSide$Doors", "findFirsts", "()V"⟩, 8) := ⟨⟨by decide +kernel, by decide +kernel⟩, List.mem_of_getElem? (i := 25) (by decide +kernel), List.mem_of_getElem? (i := 45) (by decide +kernel), List.mem_of_getElem? (i := 46) (by decide +kernel)⟩
theorem lw_p3 : lw_okq (⟨"DoorsOneSide", "refused", "(I)I"⟩, 8) := ⟨⟨by decide +kernel, by decide +kernel⟩, List.mem_of_getElem? (i := 11) (by decide +kernel), List.mem_of_getElem? (i := 180) (by decide +kernel), List.mem_of_getElem? (i := 181) (by decide +kernel)⟩
theorem lw_p4 : lw_okq (⟨"DoorsOneSide$Letters", "fitsShape", "(II)Z"⟩, 1) := ⟨⟨by decide +kernel, by decide +kernel⟩, List.mem_of_getElem? (i := 118) (by decide +kernel), List.mem_of_getElem? (i := 204) (by decide +kernel), List.mem_of_getElem? (i := 205) (by decide +kernel)⟩
theorem lw_p5 : lw_okq (⟨"DoorsOneSide", "tellStatements", "()I"⟩, 8) := ⟨⟨by decide +kernel, by decide +kernel⟩, List.mem_of_getElem? (i := 11) (by decide +kernel), List.mem_of_getElem? (i := 216) (by decide +kernel), List.mem_of_getElem? (i := 217) (by decide +kernel)⟩
theorem lw_p6 : lw_okq (⟨"DoorsOneSide$Letters", "digitAt", "(I)I"⟩, 1) := ⟨⟨by decide +kernel, by decide +kernel⟩, List.mem_of_getElem? (i := 118) (by decide +kernel), List.mem_of_getElem? (i := 242) (by decide +kernel), List.mem_of_getElem? (i := 243) (by decide +kernel)⟩
theorem lw_p7 : lw_okq (⟨"DoorsOneSide", "refusedNumber", "(I)I"⟩, 8) := ⟨⟨by decide +kernel, by decide +kernel⟩, List.mem_of_getElem? (i := 11) (by decide +kernel), List.mem_of_getElem? (i := 359) (by decide +kernel), List.mem_of_getElem? (i := 360) (by decide +kernel)⟩
theorem lw_p8 : lw_okq (⟨"DoorsOneSide", "firstHourIn", "(II)I"⟩, 8) := ⟨⟨by decide +kernel, by decide +kernel⟩, List.mem_of_getElem? (i := 11) (by decide +kernel), List.mem_of_getElem? (i := 401) (by decide +kernel), List.mem_of_getElem? (i := 402) (by decide +kernel)⟩
theorem lw_p9 : lw_okq (⟨"DoorsOneSide", "firstHourAllHome", "()I"⟩, 8) := ⟨⟨by decide +kernel, by decide +kernel⟩, List.mem_of_getElem? (i := 11) (by decide +kernel), List.mem_of_getElem? (i := 409) (by decide +kernel), List.mem_of_getElem? (i := 410) (by decide +kernel)⟩
theorem lw_p10 : lw_okq (⟨"DoorsOneSide", "homeWithHelper", "(II)I"⟩, 8) := ⟨⟨by decide +kernel, by decide +kernel⟩, List.mem_of_getElem? (i := 11) (by decide +kernel), List.mem_of_getElem? (i := 451) (by decide +kernel), List.mem_of_getElem? (i := 452) (by decide +kernel)⟩
theorem lw_p11 : lw_okq (⟨"DoorsOneSide", "isHomeWhileStay", "(III)Z"⟩, 8) := ⟨⟨by decide +kernel, by decide +kernel⟩, List.mem_of_getElem? (i := 11) (by decide +kernel), List.mem_of_getElem? (i := 461) (by decide +kernel), List.mem_of_getElem? (i := 462) (by decide +kernel)⟩
theorem lw_p12 : lw_okq (⟨"DoorsOneSide", "doorToChange", "(IZ)I"⟩, 8) := ⟨⟨by decide +kernel, by decide +kernel⟩, List.mem_of_getElem? (i := 11) (by decide +kernel), List.mem_of_getElem? (i := 474) (by decide +kernel), List.mem_of_getElem? (i := 475) (by decide +kernel)⟩
theorem lw_p13 : lw_okq (⟨"DoorsOneSide", "crowdedRoom", "()I"⟩, 8) := ⟨⟨by decide +kernel, by decide +kernel⟩, List.mem_of_getElem? (i := 11) (by decide +kernel), List.mem_of_getElem? (i := 495) (by decide +kernel), List.mem_of_getElem? (i := 496) (by decide +kernel)⟩
theorem lw_p14 : lw_okq (⟨"DoorsOneSide", "emptyRooms", "()I"⟩, 8) := ⟨⟨by decide +kernel, by decide +kernel⟩, List.mem_of_getElem? (i := 11) (by decide +kernel), List.mem_of_getElem? (i := 506) (by decide +kernel), List.mem_of_getElem? (i := 507) (by decide +kernel)⟩
theorem lw_p15 : lw_okq (⟨"DoorsOneSide", "deadRooms", "()I"⟩, 8) := ⟨⟨by decide +kernel, by decide +kernel⟩, List.mem_of_getElem? (i := 11) (by decide +kernel), List.mem_of_getElem? (i := 510) (by decide +kernel), List.mem_of_getElem? (i := 511) (by decide +kernel)⟩
def lw_privs_1 : List (MethodName × Nat) := [(⟨"DoorsOneSide$Doors", "measureWays", "()V"⟩, 8), (⟨"DoorsOneSide$Doors", "shortenWaysBy", "(II)Z"⟩, 8), (⟨"DoorsOneSide$Doors", "findFirsts", "()V"⟩, 8), (⟨"DoorsOneSide", "refused", "(I)I"⟩, 8), (⟨"DoorsOneSide$Letters", "fitsShape", "(II)Z"⟩, 1), (⟨"DoorsOneSide", "tellStatements", "()I"⟩, 8), (⟨"DoorsOneSide$Letters", "digitAt", "(I)I"⟩, 1), (⟨"DoorsOneSide", "refusedNumber", "(I)I"⟩, 8), (⟨"DoorsOneSide", "firstHourIn", "(II)I"⟩, 8), (⟨"DoorsOneSide", "firstHourAllHome", "()I"⟩, 8), (⟨"DoorsOneSide", "homeWithHelper", "(II)I"⟩, 8), (⟨"DoorsOneSide", "isHomeWhileStay", "(III)Z"⟩, 8), (⟨"DoorsOneSide", "doorToChange", "(IZ)I"⟩, 8), (⟨"DoorsOneSide", "crowdedRoom", "()I"⟩, 8), (⟨"DoorsOneSide", "emptyRooms", "()I"⟩, 8), (⟨"DoorsOneSide", "deadRooms", "()I"⟩, 8)]
theorem lw_r1 : ∀ q ∈ lw_privs_1, lw_okq q := List.forall_mem_cons.mpr ⟨lw_p0, List.forall_mem_cons.mpr ⟨lw_p1, List.forall_mem_cons.mpr ⟨lw_p2, List.forall_mem_cons.mpr ⟨lw_p3, List.forall_mem_cons.mpr ⟨lw_p4, List.forall_mem_cons.mpr ⟨lw_p5, List.forall_mem_cons.mpr ⟨lw_p6, List.forall_mem_cons.mpr ⟨lw_p7, List.forall_mem_cons.mpr ⟨lw_p8, List.forall_mem_cons.mpr ⟨lw_p9, List.forall_mem_cons.mpr ⟨lw_p10, List.forall_mem_cons.mpr ⟨lw_p11, List.forall_mem_cons.mpr ⟨lw_p12, List.forall_mem_cons.mpr ⟨lw_p13, List.forall_mem_cons.mpr ⟨lw_p14, List.forall_mem_cons.mpr ⟨lw_p15, fun _ h => absurd h List.not_mem_nil⟩⟩⟩⟩⟩⟩⟩⟩⟩⟩⟩⟩⟩⟩⟩⟩
theorem lw_p16 : lw_okq (⟨"DoorsOneSide", "waysOfAllTo", "(I)I"⟩, 8) := ⟨⟨by decide +kernel, by decide +kernel⟩, List.mem_of_getElem? (i := 11) (by decide +kernel), List.mem_of_getElem? (i := 523) (by decide +kernel), List.mem_of_getElem? (i := 524) (by decide +kernel)⟩
theorem lw_p17 : lw_okq (⟨"DoorsOneSide", "tryPair", "(IIII)V"⟩, 8) := ⟨⟨by decide +kernel, by decide +kernel⟩, List.mem_of_getElem? (i := 11) (by decide +kernel), List.mem_of_getElem? (i := 531) (by decide +kernel), List.mem_of_getElem? (i := 532) (by decide +kernel)⟩
theorem lw_p18 : lw_okq (⟨"DoorsOneSide", "gainOf", "(I)I"⟩, 8) := ⟨⟨by decide +kernel, by decide +kernel⟩, List.mem_of_getElem? (i := 11) (by decide +kernel), List.mem_of_getElem? (i := 535) (by decide +kernel), List.mem_of_getElem? (i := 536) (by decide +kernel)⟩
theorem lw_p19 : lw_okq (⟨"DoorsOneSide", "refusedLong", "(I)J"⟩, 8) := ⟨⟨by decide +kernel, by decide +kernel⟩, List.mem_of_getElem? (i := 11) (by decide +kernel), List.mem_of_getElem? (i := 543) (by decide +kernel), List.mem_of_getElem? (i := 544) (by decide +kernel)⟩
theorem lw_p20 : lw_okq (⟨"DoorsOneSide", "isInBehindFires", "(IIII)Z"⟩, 8) := ⟨⟨by decide +kernel, by decide +kernel⟩, List.mem_of_getElem? (i := 11) (by decide +kernel), List.mem_of_getElem? (i := 548) (by decide +kernel), List.mem_of_getElem? (i := 549) (by decide +kernel)⟩
theorem lw_p21 : lw_okq (⟨"DoorsOneSide", "kindsByRow", "(II)I"⟩, 8) := ⟨⟨by decide +kernel, by decide +kernel⟩, List.mem_of_getElem? (i := 11) (by decide +kernel), List.mem_of_getElem? (i := 573) (by decide +kernel), List.mem_of_getElem? (i := 574) (by decide +kernel)⟩
theorem lw_p22 : lw_okq (⟨"DoorsOneSide", "isMindAsRow", "(I)Z"⟩, 8) := ⟨⟨by decide +kernel, by decide +kernel⟩, List.mem_of_getElem? (i := 11) (by decide +kernel), List.mem_of_getElem? (i := 577) (by decide +kernel), List.mem_of_getElem? (i := 578) (by decide +kernel)⟩
theorem lw_p23 : lw_okq (⟨"DoorsOneSide", "goalsByRow", "(I)I"⟩, 8) := ⟨⟨by decide +kernel, by decide +kernel⟩, List.mem_of_getElem? (i := 11) (by decide +kernel), List.mem_of_getElem? (i := 581) (by decide +kernel), List.mem_of_getElem? (i := 582) (by decide +kernel)⟩
theorem lw_p24 : lw_okq (⟨"DoorsOneSide", "placeByLot", "(I)I"⟩, 8) := ⟨⟨by decide +kernel, by decide +kernel⟩, List.mem_of_getElem? (i := 11) (by decide +kernel), List.mem_of_getElem? (i := 601) (by decide +kernel), List.mem_of_getElem? (i := 602) (by decide +kernel)⟩
theorem lw_p25 : lw_okq (⟨"DoorsOneSideModel", "no", "(I)I"⟩, 14) := ⟨⟨by decide +kernel, by decide +kernel⟩, List.mem_of_getElem? (i := 627) (by decide +kernel), List.mem_of_getElem? (i := 680) (by decide +kernel), List.mem_of_getElem? (i := 681) (by decide +kernel)⟩
theorem lw_p26 : lw_okq (⟨"DoorsOneSideModel", "readsStatement", "()Z"⟩, 14) := ⟨⟨by decide +kernel, by decide +kernel⟩, List.mem_of_getElem? (i := 627) (by decide +kernel), List.mem_of_getElem? (i := 688) (by decide +kernel), List.mem_of_getElem? (i := 689) (by decide +kernel)⟩
theorem lw_p27 : lw_okq (⟨"DoorsOneSideModel", "here", "()I"⟩, 14) := ⟨⟨by decide +kernel, by decide +kernel⟩, List.mem_of_getElem? (i := 627) (by decide +kernel), List.mem_of_getElem? (i := 692) (by decide +kernel), List.mem_of_getElem? (i := 693) (by decide +kernel)⟩
theorem lw_p28 : lw_okq (⟨"DoorsOneSideModel", "readsKind", "()Z"⟩, 14) := ⟨⟨by decide +kernel, by decide +kernel⟩, List.mem_of_getElem? (i := 627) (by decide +kernel), List.mem_of_getElem? (i := 696) (by decide +kernel), List.mem_of_getElem? (i := 697) (by decide +kernel)⟩
theorem lw_p29 : lw_okq (⟨"DoorsOneSideModel", "readsNumber", "(II)Z"⟩, 14) := ⟨⟨by decide +kernel, by decide +kernel⟩, List.mem_of_getElem? (i := 627) (by decide +kernel), List.mem_of_getElem? (i := 703) (by decide +kernel), List.mem_of_getElem? (i := 704) (by decide +kernel)⟩
theorem lw_p30 : lw_okq (⟨"DoorsOneSideModel", "isDone", "(I)Z"⟩, 14) := ⟨⟨by decide +kernel, by decide +kernel⟩, List.mem_of_getElem? (i := 627) (by decide +kernel), List.mem_of_getElem? (i := 713) (by decide +kernel), List.mem_of_getElem? (i := 714) (by decide +kernel)⟩
theorem lw_p31 : lw_okq (⟨"DoorsOneSideModel", "addsDoor", "()Z"⟩, 14) := ⟨⟨by decide +kernel, by decide +kernel⟩, List.mem_of_getElem? (i := 627) (by decide +kernel), List.mem_of_getElem? (i := 717) (by decide +kernel), List.mem_of_getElem? (i := 718) (by decide +kernel)⟩
def lw_privs_2 : List (MethodName × Nat) := [(⟨"DoorsOneSide", "waysOfAllTo", "(I)I"⟩, 8), (⟨"DoorsOneSide", "tryPair", "(IIII)V"⟩, 8), (⟨"DoorsOneSide", "gainOf", "(I)I"⟩, 8), (⟨"DoorsOneSide", "refusedLong", "(I)J"⟩, 8), (⟨"DoorsOneSide", "isInBehindFires", "(IIII)Z"⟩, 8), (⟨"DoorsOneSide", "kindsByRow", "(II)I"⟩, 8), (⟨"DoorsOneSide", "isMindAsRow", "(I)Z"⟩, 8), (⟨"DoorsOneSide", "goalsByRow", "(I)I"⟩, 8), (⟨"DoorsOneSide", "placeByLot", "(I)I"⟩, 8), (⟨"DoorsOneSideModel", "no", "(I)I"⟩, 14), (⟨"DoorsOneSideModel", "readsStatement", "()Z"⟩, 14), (⟨"DoorsOneSideModel", "here", "()I"⟩, 14), (⟨"DoorsOneSideModel", "readsKind", "()Z"⟩, 14), (⟨"DoorsOneSideModel", "readsNumber", "(II)Z"⟩, 14), (⟨"DoorsOneSideModel", "isDone", "(I)Z"⟩, 14), (⟨"DoorsOneSideModel", "addsDoor", "()Z"⟩, 14)]
theorem lw_r2 : ∀ q ∈ lw_privs_2, lw_okq q := List.forall_mem_cons.mpr ⟨lw_p16, List.forall_mem_cons.mpr ⟨lw_p17, List.forall_mem_cons.mpr ⟨lw_p18, List.forall_mem_cons.mpr ⟨lw_p19, List.forall_mem_cons.mpr ⟨lw_p20, List.forall_mem_cons.mpr ⟨lw_p21, List.forall_mem_cons.mpr ⟨lw_p22, List.forall_mem_cons.mpr ⟨lw_p23, List.forall_mem_cons.mpr ⟨lw_p24, List.forall_mem_cons.mpr ⟨lw_p25, List.forall_mem_cons.mpr ⟨lw_p26, List.forall_mem_cons.mpr ⟨lw_p27, List.forall_mem_cons.mpr ⟨lw_p28, List.forall_mem_cons.mpr ⟨lw_p29, List.forall_mem_cons.mpr ⟨lw_p30, List.forall_mem_cons.mpr ⟨lw_p31, fun _ h => absurd h List.not_mem_nil⟩⟩⟩⟩⟩⟩⟩⟩⟩⟩⟩⟩⟩⟩⟩⟩
theorem lw_p32 : lw_okq (⟨"DoorsOneSideModel", "isPerson", "(I)Z"⟩, 14) := ⟨⟨by decide +kernel, by decide +kernel⟩, List.mem_of_getElem? (i := 627) (by decide +kernel), List.mem_of_getElem? (i := 733) (by decide +kernel), List.mem_of_getElem? (i := 734) (by decide +kernel)⟩
theorem lw_p33 : lw_okq (⟨"DoorsOneSideModel", "isDoor", "(I)Z"⟩, 14) := ⟨⟨by decide +kernel, by decide +kernel⟩, List.mem_of_getElem? (i := 627) (by decide +kernel), List.mem_of_getElem? (i := 737) (by decide +kernel), List.mem_of_getElem? (i := 738) (by decide +kernel)⟩
theorem lw_p34 : lw_okq (⟨"DoorsOneSideModel", "hoursOn", "([II)V"⟩, 14) := ⟨⟨by decide +kernel, by decide +kernel⟩, List.mem_of_getElem? (i := 627) (by decide +kernel), List.mem_of_getElem? (i := 744) (by decide +kernel), List.mem_of_getElem? (i := 745) (by decide +kernel)⟩
theorem lw_p35 : lw_okq (⟨"DoorsOneSideModel", "measures", "([I)V"⟩, 14) := ⟨⟨by decide +kernel, by decide +kernel⟩, List.mem_of_getElem? (i := 627) (by decide +kernel), List.mem_of_getElem? (i := 748) (by decide +kernel), List.mem_of_getElem? (i := 749) (by decide +kernel)⟩
theorem lw_p36 : lw_okq (⟨"DoorsOneSideModel", "hour", "([I)V"⟩, 14) := ⟨⟨by decide +kernel, by decide +kernel⟩, List.mem_of_getElem? (i := 627) (by decide +kernel), List.mem_of_getElem? (i := 755) (by decide +kernel), List.mem_of_getElem? (i := 756) (by decide +kernel)⟩
theorem lw_p37 : lw_okq (⟨"DoorsOneSideModel", "doorOf", "([III)I"⟩, 14) := ⟨⟨by decide +kernel, by decide +kernel⟩, List.mem_of_getElem? (i := 627) (by decide +kernel), List.mem_of_getElem? (i := 762) (by decide +kernel), List.mem_of_getElem? (i := 763) (by decide +kernel)⟩
theorem lw_p38 : lw_okq (⟨"DoorsOneSideModel", "isOnWay", "([IIII)Z"⟩, 14) := ⟨⟨by decide +kernel, by decide +kernel⟩, List.mem_of_getElem? (i := 627) (by decide +kernel), List.mem_of_getElem? (i := 766) (by decide +kernel), List.mem_of_getElem? (i := 767) (by decide +kernel)⟩
theorem lw_p39 : lw_okq (⟨"DoorsOneSideModel", "wayOf", "(II)I"⟩, 14) := ⟨⟨by decide +kernel, by decide +kernel⟩, List.mem_of_getElem? (i := 627) (by decide +kernel), List.mem_of_getElem? (i := 770) (by decide +kernel), List.mem_of_getElem? (i := 771) (by decide +kernel)⟩
theorem lw_p40 : lw_okq (⟨"DoorsOneSideModel", "sets", "(III)I"⟩, 14) := ⟨⟨by decide +kernel, by decide +kernel⟩, List.mem_of_getElem? (i := 627) (by decide +kernel), List.mem_of_getElem? (i := 803) (by decide +kernel), List.mem_of_getElem? (i := 804) (by decide +kernel)⟩
theorem lw_p41 : lw_okq (⟨"DoorsOneSideModel", "areWrong", "(II)Z"⟩, 14) := ⟨⟨by decide +kernel, by decide +kernel⟩, List.mem_of_getElem? (i := 627) (by decide +kernel), List.mem_of_getElem? (i := 807) (by decide +kernel), List.mem_of_getElem? (i := 808) (by decide +kernel)⟩
theorem lw_p42 : lw_okq (⟨"DoorsOneSideModel", "takes", "(I)V"⟩, 14) := ⟨⟨by decide +kernel, by decide +kernel⟩, List.mem_of_getElem? (i := 627) (by decide +kernel), List.mem_of_getElem? (i := 840) (by decide +kernel), List.mem_of_getElem? (i := 841) (by decide +kernel)⟩
theorem lw_p43 : lw_okq (⟨"DoorsOneSideModel", "comesTo", "(II)I"⟩, 14) := ⟨⟨by decide +kernel, by decide +kernel⟩, List.mem_of_getElem? (i := 627) (by decide +kernel), List.mem_of_getElem? (i := 852) (by decide +kernel), List.mem_of_getElem? (i := 853) (by decide +kernel)⟩
theorem lw_p44 : lw_okq (⟨"DoorsOneSideModel", "allHome", "()I"⟩, 14) := ⟨⟨by decide +kernel, by decide +kernel⟩, List.mem_of_getElem? (i := 627) (by decide +kernel), List.mem_of_getElem? (i := 860) (by decide +kernel), List.mem_of_getElem? (i := 861) (by decide +kernel)⟩
theorem lw_p45 : lw_okq (⟨"DoorsOneSideModel", "isStill", "(I)Z"⟩, 14) := ⟨⟨by decide +kernel, by decide +kernel⟩, List.mem_of_getElem? (i := 627) (by decide +kernel), List.mem_of_getElem? (i := 872) (by decide +kernel), List.mem_of_getElem? (i := 873) (by decide +kernel)⟩
theorem lw_p46 : lw_okq (⟨"DoorsOneSideModel", "bestDoor", "(IZ)I"⟩, 14) := ⟨⟨by decide +kernel, by decide +kernel⟩, List.mem_of_getElem? (i := 627) (by decide +kernel), List.mem_of_getElem? (i := 907) (by decide +kernel), List.mem_of_getElem? (i := 908) (by decide +kernel)⟩
theorem lw_p47 : lw_okq (⟨"DoorsOneSideModel", "manyIn", "(I)I"⟩, 14) := ⟨⟨by decide +kernel, by decide +kernel⟩, List.mem_of_getElem? (i := 627) (by decide +kernel), List.mem_of_getElem? (i := 924) (by decide +kernel), List.mem_of_getElem? (i := 925) (by decide +kernel)⟩
def lw_privs_3 : List (MethodName × Nat) := [(⟨"DoorsOneSideModel", "isPerson", "(I)Z"⟩, 14), (⟨"DoorsOneSideModel", "isDoor", "(I)Z"⟩, 14), (⟨"DoorsOneSideModel", "hoursOn", "([II)V"⟩, 14), (⟨"DoorsOneSideModel", "measures", "([I)V"⟩, 14), (⟨"DoorsOneSideModel", "hour", "([I)V"⟩, 14), (⟨"DoorsOneSideModel", "doorOf", "([III)I"⟩, 14), (⟨"DoorsOneSideModel", "isOnWay", "([IIII)Z"⟩, 14), (⟨"DoorsOneSideModel", "wayOf", "(II)I"⟩, 14), (⟨"DoorsOneSideModel", "sets", "(III)I"⟩, 14), (⟨"DoorsOneSideModel", "areWrong", "(II)Z"⟩, 14), (⟨"DoorsOneSideModel", "takes", "(I)V"⟩, 14), (⟨"DoorsOneSideModel", "comesTo", "(II)I"⟩, 14), (⟨"DoorsOneSideModel", "allHome", "()I"⟩, 14), (⟨"DoorsOneSideModel", "isStill", "(I)Z"⟩, 14), (⟨"DoorsOneSideModel", "bestDoor", "(IZ)I"⟩, 14), (⟨"DoorsOneSideModel", "manyIn", "(I)I"⟩, 14)]
theorem lw_r3 : ∀ q ∈ lw_privs_3, lw_okq q := List.forall_mem_cons.mpr ⟨lw_p32, List.forall_mem_cons.mpr ⟨lw_p33, List.forall_mem_cons.mpr ⟨lw_p34, List.forall_mem_cons.mpr ⟨lw_p35, List.forall_mem_cons.mpr ⟨lw_p36, List.forall_mem_cons.mpr ⟨lw_p37, List.forall_mem_cons.mpr ⟨lw_p38, List.forall_mem_cons.mpr ⟨lw_p39, List.forall_mem_cons.mpr ⟨lw_p40, List.forall_mem_cons.mpr ⟨lw_p41, List.forall_mem_cons.mpr ⟨lw_p42, List.forall_mem_cons.mpr ⟨lw_p43, List.forall_mem_cons.mpr ⟨lw_p44, List.forall_mem_cons.mpr ⟨lw_p45, List.forall_mem_cons.mpr ⟨lw_p46, List.forall_mem_cons.mpr ⟨lw_p47, fun _ h => absurd h List.not_mem_nil⟩⟩⟩⟩⟩⟩⟩⟩⟩⟩⟩⟩⟩⟩⟩⟩
theorem lw_p48 : lw_okq (⟨"DoorsOneSideModel", "doorsBy", "(II)I"⟩, 14) := ⟨⟨by decide +kernel, by decide +kernel⟩, List.mem_of_getElem? (i := 627) (by decide +kernel), List.mem_of_getElem? (i := 928) (by decide +kernel), List.mem_of_getElem? (i := 929) (by decide +kernel)⟩
theorem lw_p49 : lw_okq (⟨"DoorsOneSideModel", "hasBy", "(IIIIII)I"⟩, 14) := ⟨⟨by decide +kernel, by decide +kernel⟩, List.mem_of_getElem? (i := 627) (by decide +kernel), List.mem_of_getElem? (i := 944) (by decide +kernel), List.mem_of_getElem? (i := 945) (by decide +kernel)⟩
theorem lw_p50 : lw_okq (⟨"DoorsOneSideModel", "noWide", "(I)J"⟩, 14) := ⟨⟨by decide +kernel, by decide +kernel⟩, List.mem_of_getElem? (i := 627) (by decide +kernel), List.mem_of_getElem? (i := 952) (by decide +kernel), List.mem_of_getElem? (i := 953) (by decide +kernel)⟩
theorem lw_p51 : lw_okq (⟨"DoorsOneSideModel", "hourBy", "(Z)V"⟩, 14) := ⟨⟨by decide +kernel, by decide +kernel⟩, List.mem_of_getElem? (i := 627) (by decide +kernel), List.mem_of_getElem? (i := 957) (by decide +kernel), List.mem_of_getElem? (i := 958) (by decide +kernel)⟩
theorem lw_p52 : lw_okq (⟨"DoorsOneSideModel", "allMoods", "()I"⟩, 14) := ⟨⟨by decide +kernel, by decide +kernel⟩, List.mem_of_getElem? (i := 627) (by decide +kernel), List.mem_of_getElem? (i := 971) (by decide +kernel), List.mem_of_getElem? (i := 972) (by decide +kernel)⟩
theorem lw_p53 : lw_okq (⟨"DoorsOneSideModel", "drawn", "(I)I"⟩, 14) := ⟨⟨by decide +kernel, by decide +kernel⟩, List.mem_of_getElem? (i := 627) (by decide +kernel), List.mem_of_getElem? (i := 995) (by decide +kernel), List.mem_of_getElem? (i := 996) (by decide +kernel)⟩
def lw_privs_4 : List (MethodName × Nat) := [(⟨"DoorsOneSideModel", "doorsBy", "(II)I"⟩, 14), (⟨"DoorsOneSideModel", "hasBy", "(IIIIII)I"⟩, 14), (⟨"DoorsOneSideModel", "noWide", "(I)J"⟩, 14), (⟨"DoorsOneSideModel", "hourBy", "(Z)V"⟩, 14), (⟨"DoorsOneSideModel", "allMoods", "()I"⟩, 14), (⟨"DoorsOneSideModel", "drawn", "(I)I"⟩, 14)]
theorem lw_r4 : ∀ q ∈ lw_privs_4, lw_okq q := List.forall_mem_cons.mpr ⟨lw_p48, List.forall_mem_cons.mpr ⟨lw_p49, List.forall_mem_cons.mpr ⟨lw_p50, List.forall_mem_cons.mpr ⟨lw_p51, List.forall_mem_cons.mpr ⟨lw_p52, List.forall_mem_cons.mpr ⟨lw_p53, fun _ h => absurd h List.not_mem_nil⟩⟩⟩⟩⟩⟩
def lw_privs : List (MethodName × Nat) := lw_privs_1 ++ (lw_privs_2 ++ (lw_privs_3 ++ (lw_privs_4)))
def lw_tbl : List Cond := k2_sels lw_privs ++ tables_1
theorem lw_privs_ok : ∀ q ∈ lw_privs, lw_okq q := by
  show ∀ q ∈ lw_privs_1 ++ (lw_privs_2 ++ (lw_privs_3 ++ (lw_privs_4))), lw_okq q
  exact List.forall_mem_append.mpr ⟨lw_r1, List.forall_mem_append.mpr ⟨lw_r2, List.forall_mem_append.mpr ⟨lw_r3, lw_r4⟩⟩⟩
def RX0 : String := "DoorsOneSide$Doors"
def TX0 : u_T := fun k => match k with
  | 0 => ("DoorsOneSide$Doors", "kinds", "[I", true)
  | 1 => ("DoorsOneSide$Doors", "figures", "[I", true)
  | 2 => ("DoorsOneSide$Doors", "froms", "[I", true)
  | 3 => ("DoorsOneSide$Doors", "intos", "[I", true)
  | 4 => ("DoorsOneSide$Doors", "wedged", "[I", true)
  | 5 => ("DoorsOneSide$Doors", "ways", "[I", true)
  | 6 => ("DoorsOneSide$Doors", "firsts", "[I", true)
  | _ => ("DoorsOneSide$Doors", "size", "I", false)
def tyX0 : Nat → FieldType := fun k => match k with
  | 0 => .array .int
  | 1 => .array .int
  | 2 => .array .int
  | 3 => .array .int
  | 4 => .array .int
  | 5 => .array .int
  | 6 => .array .int
  | _ => .int
abbrev wsX00 : List Cond := u_ws RX0 TX0 8
theorem nmX0 : ∀ a, a < 8 → ∀ b, b < 8 → a ≠ b → (TX0 a).2.1 ≠ (TX0 b).2.1 := by decide +kernel
theorem tyX0_ok : ∀ k, k < 8 → parseFieldDescriptor (TX0 k).2.2.1 = some (tyX0 k) := by decide +kernel
abbrev cX0_init : ByteArray := prog_2_method_1_code
def yX0_init : MethodName := ⟨RX0, "<init>", "()V"⟩
abbrev cX0_become : ByteArray := prog_2_method_2_code
def yX0_become : MethodName := ⟨RX0, "become", "(LDoorsOneSide$Doors;)V"⟩
abbrev cX0_has : ByteArray := prog_2_method_3_code
def yX0_has : MethodName := ⟨RX0, "has", "(I)Z"⟩
abbrev cX0_addDoor : ByteArray := prog_2_method_4_code
def yX0_addDoor : MethodName := ⟨RX0, "addDoor", "(IIII)Z"⟩
abbrev cX0_wedgeOrNot : ByteArray := prog_2_method_5_code
def yX0_wedgeOrNot : MethodName := ⟨RX0, "wedgeOrNot", "(I)I"⟩
abbrev cX0_changeSides : ByteArray := prog_2_method_6_code
def yX0_changeSides : MethodName := ⟨RX0, "changeSides", "(I)I"⟩
abbrev cX0_wayBetween : ByteArray := prog_2_method_7_code
def yX0_wayBetween : MethodName := ⟨RX0, "wayBetween", "(II)I"⟩
abbrev cX0_firstDoors : ByteArray := prog_2_method_8_code
def yX0_firstDoors : MethodName := ⟨RX0, "firstDoors", "(II)I"⟩
abbrev cX0_measureWays : ByteArray := prog_2_method_9_code
def yX0_measureWays : MethodName := ⟨RX0, "measureWays", "()V"⟩
abbrev cX0_shortenWaysBy : ByteArray := prog_2_method_10_code
def yX0_shortenWaysBy : MethodName := ⟨RX0, "shortenWaysBy", "(II)Z"⟩
abbrev cX0_findFirsts : ByteArray := prog_2_method_11_code
def yX0_findFirsts : MethodName := ⟨RX0, "findFirsts", "()V"⟩
abbrev cX0_opensBy : ByteArray := prog_2_method_12_code
def yX0_opensBy : MethodName := ⟨RX0, "opensBy", "(IIII)Z"⟩
def RX1 : String := "DoorsOneSide$Letters"
def TX1 : u_T := fun k => match k with
  | _ => ("DoorsOneSide$Letters", "signs", "LDoorsOneSide$Row;", true)
def tyX1 : Nat → FieldType := fun k => match k with
  | _ => .object "DoorsOneSide$Row"
abbrev wsX10 : List Cond := u_ws RX1 TX1 1
theorem nmX1 : ∀ a, a < 1 → ∀ b, b < 1 → a ≠ b → (TX1 a).2.1 ≠ (TX1 b).2.1 := by decide +kernel
theorem tyX1_ok : ∀ k, k < 1 → parseFieldDescriptor (TX1 k).2.2.1 = some (tyX1 k) := by decide +kernel
abbrev cX1_init : ByteArray := prog_3_method_1_code
def yX1_init : MethodName := ⟨RX1, "<init>", "()V"⟩
abbrev cX1_lengthAt : ByteArray := prog_3_method_2_code
def yX1_lengthAt : MethodName := ⟨RX1, "lengthAt", "(I)I"⟩
abbrev cX1_shapeFault : ByteArray := prog_3_method_3_code
def yX1_shapeFault : MethodName := ⟨RX1, "shapeFault", "()I"⟩
abbrev cX1_fitsShape : ByteArray := prog_3_method_4_code
def yX1_fitsShape : MethodName := ⟨RX1, "fitsShape", "(II)Z"⟩
abbrev cX1_kindOf : ByteArray := prog_3_method_5_code
def yX1_kindOf : MethodName := ⟨RX1, "kindOf", "(I)I"⟩
abbrev cX1_digitAt : ByteArray := prog_3_method_6_code
def yX1_digitAt : MethodName := ⟨RX1, "digitAt", "(I)I"⟩
abbrev cX1_tell : ByteArray := prog_3_method_7_code
def yX1_tell : MethodName := ⟨RX1, "tell", "(ILDoorsOneSide$Town;)Z"⟩
abbrev cX1_tellPerson : ByteArray := prog_3_method_8_code
def yX1_tellPerson : MethodName := ⟨RX1, "tellPerson", "(LDoorsOneSide$Town;III)Z"⟩
abbrev cX1_tellRoom : ByteArray := prog_3_method_9_code
def yX1_tellRoom : MethodName := ⟨RX1, "tellRoom", "(LDoorsOneSide$Town;[III)Z"⟩
abbrev cX1_tellDoor : ByteArray := prog_3_method_10_code
def yX1_tellDoor : MethodName := ⟨RX1, "tellDoor", "(LDoorsOneSide$Town;IZ)Z"⟩
def RX2 : String := "DoorsOneSide$Row"
def TX2 : u_T := fun k => match k with
  | 0 => ("DoorsOneSide$Row", "numbers", "[I", true)
  | _ => ("DoorsOneSide$Row", "size", "I", false)
def tyX2 : Nat → FieldType := fun k => match k with
  | 0 => .array .int
  | _ => .int
abbrev wsX20 : List Cond := u_ws RX2 TX2 2
theorem nmX2 : ∀ a, a < 2 → ∀ b, b < 2 → a ≠ b → (TX2 a).2.1 ≠ (TX2 b).2.1 := by decide +kernel
theorem tyX2_ok : ∀ k, k < 2 → parseFieldDescriptor (TX2 k).2.2.1 = some (tyX2 k) := by decide +kernel
abbrev cX2_init : ByteArray := prog_4_method_1_code
def yX2_init : MethodName := ⟨RX2, "<init>", "(I)V"⟩
abbrev cX2_isFull : ByteArray := prog_4_method_2_code
def yX2_isFull : MethodName := ⟨RX2, "isFull", "()Z"⟩
abbrev cX2_add : ByteArray := prog_4_method_3_code
def yX2_add : MethodName := ⟨RX2, "add", "(I)I"⟩
abbrev cX2_empty : ByteArray := prog_4_method_4_code
def yX2_empty : MethodName := ⟨RX2, "empty", "()I"⟩
def RX3 : String := "DoorsOneSide$Town"
def TX3 : u_T := fun k => match k with
  | 0 => ("DoorsOneSide$Town", "doors", "LDoorsOneSide$Doors;", true)
  | 1 => ("DoorsOneSide$Town", "rooms", "[I", true)
  | 2 => ("DoorsOneSide$Town", "goals", "[I", true)
  | 3 => ("DoorsOneSide$Town", "moods", "[I", true)
  | 4 => ("DoorsOneSide$Town", "size", "I", false)
  | 5 => ("DoorsOneSide$Town", "hour", "I", false)
  | _ => ("DoorsOneSide$Town", "let", "I", false)
def tyX3 : Nat → FieldType := fun k => match k with
  | 0 => .object "DoorsOneSide$Doors"
  | 1 => .array .int
  | 2 => .array .int
  | 3 => .array .int
  | 4 => .int
  | 5 => .int
  | _ => .int
abbrev wsX30 : List Cond := u_ws RX3 TX3 7
theorem nmX3 : ∀ a, a < 7 → ∀ b, b < 7 → a ≠ b → (TX3 a).2.1 ≠ (TX3 b).2.1 := by decide +kernel
theorem tyX3_ok : ∀ k, k < 7 → parseFieldDescriptor (TX3 k).2.2.1 = some (tyX3 k) := by decide +kernel
abbrev cX3_init : ByteArray := prog_5_method_1_code
def yX3_init : MethodName := ⟨RX3, "<init>", "()V"⟩
abbrev cX3_become : ByteArray := prog_5_method_2_code
def yX3_become : MethodName := ⟨RX3, "become", "(LDoorsOneSide$Town;)V"⟩
abbrev cX3_has : ByteArray := prog_5_method_3_code
def yX3_has : MethodName := ⟨RX3, "has", "(I)Z"⟩
abbrev cX3_isHome : ByteArray := prog_5_method_4_code
def yX3_isHome : MethodName := ⟨RX3, "isHome", "(I)Z"⟩
abbrev cX3_addPerson : ByteArray := prog_5_method_5_code
def yX3_addPerson : MethodName := ⟨RX3, "addPerson", "(III)V"⟩
abbrev cX3_removePerson : ByteArray := prog_5_method_6_code
def yX3_removePerson : MethodName := ⟨RX3, "removePerson", "(I)V"⟩
abbrev cX3_stay : ByteArray := prog_5_method_7_code
def yX3_stay : MethodName := ⟨RX3, "stay", "(I)V"⟩
abbrev cX3_goHours : ByteArray := prog_5_method_8_code
def yX3_goHours : MethodName := ⟨RX3, "goHours", "(IZ)I"⟩
abbrev cX3_doorFor : ByteArray := prog_5_method_9_code
def yX3_doorFor : MethodName := ⟨RX3, "doorFor", "(IIZ)I"⟩
abbrev cX3_opens : ByteArray := prog_5_method_10_code
def yX3_opens : MethodName := ⟨RX3, "opens", "(II)Z"⟩
abbrev cX3_countIn : ByteArray := prog_5_method_11_code
def yX3_countIn : MethodName := ⟨RX3, "countIn", "(I)I"⟩
abbrev cX3_homeBits : ByteArray := prog_5_method_12_code
def yX3_homeBits : MethodName := ⟨RX3, "homeBits", "()I"⟩
abbrev cX3_homeCount : ByteArray := prog_5_method_13_code
def yX3_homeCount : MethodName := ⟨RX3, "homeCount", "()I"⟩
abbrev cX3_moodsTogether : ByteArray := prog_5_method_14_code
def yX3_moodsTogether : MethodName := ⟨RX3, "moodsTogether", "()I"⟩
def RX4 : String := "DoorsOneSide"
def TX4 : u_T := fun k => match k with
  | 0 => ("DoorsOneSide", "now", "LDoorsOneSide$Town;", true)
  | 1 => ("DoorsOneSide", "mind", "LDoorsOneSide$Town;", true)
  | 2 => ("DoorsOneSide", "taken", "LDoorsOneSide$Town;", true)
  | 3 => ("DoorsOneSide", "imageTaken", "Z", false)
  | 4 => ("DoorsOneSide", "letters", "LDoorsOneSide$Letters;", true)
  | 5 => ("DoorsOneSide", "told", "LDoorsOneSide$Row;", true)
  | 6 => ("DoorsOneSide", "refusals", "[I", true)
  | _ => ("DoorsOneSide", "gains", "[I", true)
def tyX4 : Nat → FieldType := fun k => match k with
  | 0 => .object "DoorsOneSide$Town"
  | 1 => .object "DoorsOneSide$Town"
  | 2 => .object "DoorsOneSide$Town"
  | 3 => .boolean
  | 4 => .object "DoorsOneSide$Letters"
  | 5 => .object "DoorsOneSide$Row"
  | 6 => .array .int
  | _ => .array .int
abbrev wsX40 : List Cond := u_ws RX4 TX4 8
theorem nmX4 : ∀ a, a < 8 → ∀ b, b < 8 → a ≠ b → (TX4 a).2.1 ≠ (TX4 b).2.1 := by decide +kernel
theorem tyX4_ok : ∀ k, k < 8 → parseFieldDescriptor (TX4 k).2.2.1 = some (tyX4 k) := by decide +kernel
abbrev cX4_init : ByteArray := prog_1_method_1_code
def yX4_init : MethodName := ⟨RX4, "<init>", "()V"⟩
abbrev cX4_letter : ByteArray := prog_1_method_2_code
def yX4_letter : MethodName := ⟨RX4, "letter", "(I)I"⟩
abbrev cX4_town : ByteArray := prog_1_method_3_code
def yX4_town : MethodName := ⟨RX4, "town", "()I"⟩
abbrev cX4_tellStatements : ByteArray := prog_1_method_4_code
def yX4_tellStatements : MethodName := ⟨RX4, "tellStatements", "()I"⟩
abbrev cX4_door : ByteArray := prog_1_method_5_code
def yX4_door : MethodName := ⟨RX4, "door", "(II)I"⟩
abbrev cX4_person : ByteArray := prog_1_method_6_code
def yX4_person : MethodName := ⟨RX4, "person", "(II)I"⟩
abbrev cX4_wedges : ByteArray := prog_1_method_7_code
def yX4_wedges : MethodName := ⟨RX4, "wedges", "(I)I"⟩
abbrev cX4_turns : ByteArray := prog_1_method_8_code
def yX4_turns : MethodName := ⟨RX4, "turns", "(I)I"⟩
abbrev cX4_stands : ByteArray := prog_1_method_9_code
def yX4_stands : MethodName := ⟨RX4, "stands", "(II)I"⟩
abbrev cX4_wants : ByteArray := prog_1_method_10_code
def yX4_wants : MethodName := ⟨RX4, "wants", "(II)I"⟩
abbrev cX4_moods : ByteArray := prog_1_method_11_code
def yX4_moods : MethodName := ⟨RX4, "moods", "(II)I"⟩
abbrev cX4_changes : ByteArray := prog_1_method_12_code
def yX4_changes : MethodName := ⟨RX4, "changes", "(III)I"⟩
abbrev cX4_hours : ByteArray := prog_1_method_13_code
def yX4_hours : MethodName := ⟨RX4, "hours", "(I)I"⟩
abbrev cX4_personThen : ByteArray := prog_1_method_14_code
def yX4_personThen : MethodName := ⟨RX4, "personThen", "(III)I"⟩
abbrev cX4_letThen : ByteArray := prog_1_method_15_code
def yX4_letThen : MethodName := ⟨RX4, "letThen", "(I)I"⟩
abbrev cX4_comes : ByteArray := prog_1_method_16_code
def yX4_comes : MethodName := ⟨RX4, "comes", "(II)I"⟩
abbrev cX4_home : ByteArray := prog_1_method_17_code
def yX4_home : MethodName := ⟨RX4, "home", "(I)I"⟩
abbrev cX4_firstHourIn : ByteArray := prog_1_method_18_code
def yX4_firstHourIn : MethodName := ⟨RX4, "firstHourIn", "(II)I"⟩
abbrev cX4_firstHourAllHome : ByteArray := prog_1_method_19_code
def yX4_firstHourAllHome : MethodName := ⟨RX4, "firstHourAllHome", "()I"⟩
abbrev cX4_shutIn : ByteArray := prog_1_method_20_code
def yX4_shutIn : MethodName := ⟨RX4, "shutIn", "()I"⟩
abbrev cX4_stuck : ByteArray := prog_1_method_21_code
def yX4_stuck : MethodName := ⟨RX4, "stuck", "()I"⟩
abbrev cX4_way : ByteArray := prog_1_method_22_code
def yX4_way : MethodName := ⟨RX4, "way", "(III)I"⟩
abbrev cX4_round : ByteArray := prog_1_method_23_code
def yX4_round : MethodName := ⟨RX4, "round", "(I)I"⟩
abbrev cX4_reach : ByteArray := prog_1_method_24_code
def yX4_reach : MethodName := ⟨RX4, "reach", "(I)I"⟩
abbrev cX4_open : ByteArray := prog_1_method_25_code
def yX4_open : MethodName := ⟨RX4, "open", "()I"⟩
abbrev cX4_helper : ByteArray := prog_1_method_26_code
def yX4_helper : MethodName := ⟨RX4, "helper", "(II)I"⟩
abbrev cX4_homeWithHelper : ByteArray := prog_1_method_27_code
def yX4_homeWithHelper : MethodName := ⟨RX4, "homeWithHelper", "(II)I"⟩
abbrev cX4_fewest : ByteArray := prog_1_method_28_code
def yX4_fewest : MethodName := ⟨RX4, "fewest", "(II)I"⟩
abbrev cX4_isHomeWhileStay : ByteArray := prog_1_method_29_code
def yX4_isHomeWhileStay : MethodName := ⟨RX4, "isHomeWhileStay", "(III)Z"⟩
abbrev cX4_turn : ByteArray := prog_1_method_30_code
def yX4_turn : MethodName := ⟨RX4, "turn", "(I)I"⟩
abbrev cX4_wedge : ByteArray := prog_1_method_31_code
def yX4_wedge : MethodName := ⟨RX4, "wedge", "(I)I"⟩
abbrev cX4_doorToChange : ByteArray := prog_1_method_32_code
def yX4_doorToChange : MethodName := ⟨RX4, "doorToChange", "(IZ)I"⟩
abbrev cX4_holds : ByteArray := prog_1_method_33_code
def yX4_holds : MethodName := ⟨RX4, "holds", "(II)I"⟩
abbrev cX4_crowd : ByteArray := prog_1_method_34_code
def yX4_crowd : MethodName := ⟨RX4, "crowd", "(I)I"⟩
abbrev cX4_crowdedRoom : ByteArray := prog_1_method_35_code
def yX4_crowdedRoom : MethodName := ⟨RX4, "crowdedRoom", "()I"⟩
abbrev cX4_emptyRooms : ByteArray := prog_1_method_36_code
def yX4_emptyRooms : MethodName := ⟨RX4, "emptyRooms", "()I"⟩
abbrev cX4_deadRooms : ByteArray := prog_1_method_37_code
def yX4_deadRooms : MethodName := ⟨RX4, "deadRooms", "()I"⟩
abbrev cX4_handles : ByteArray := prog_1_method_38_code
def yX4_handles : MethodName := ⟨RX4, "handles", "(I)I"⟩
abbrev cX4_meet : ByteArray := prog_1_method_39_code
def yX4_meet : MethodName := ⟨RX4, "meet", "(I)I"⟩
abbrev cX4_waysOfAllTo : ByteArray := prog_1_method_40_code
def yX4_waysOfAllTo : MethodName := ⟨RX4, "waysOfAllTo", "(I)I"⟩
abbrev cX4_two : ByteArray := prog_1_method_41_code
def yX4_two : MethodName := ⟨RX4, "two", "(III)I"⟩
abbrev cX4_tryPair : ByteArray := prog_1_method_42_code
def yX4_tryPair : MethodName := ⟨RX4, "tryPair", "(IIII)V"⟩
abbrev cX4_gainOf : ByteArray := prog_1_method_43_code
def yX4_gainOf : MethodName := ⟨RX4, "gainOf", "(I)I"⟩
abbrev cX4_fire : ByteArray := prog_1_method_44_code
def yX4_fire : MethodName := ⟨RX4, "fire", "(IIIII)J"⟩
abbrev cX4_isInBehindFires : ByteArray := prog_1_method_45_code
def yX4_isInBehindFires : MethodName := ⟨RX4, "isInBehindFires", "(IIII)Z"⟩
abbrev cX4_mean : ByteArray := prog_1_method_46_code
def yX4_mean : MethodName := ⟨RX4, "mean", "(I)J"⟩
abbrev cX4_whatIs : ByteArray := prog_1_method_47_code
def yX4_whatIs : MethodName := ⟨RX4, "whatIs", "(III)I"⟩
abbrev cX4_kindsByRow : ByteArray := prog_1_method_48_code
def yX4_kindsByRow : MethodName := ⟨RX4, "kindsByRow", "(II)I"⟩
abbrev cX4_goalsByRow : ByteArray := prog_1_method_49_code
def yX4_goalsByRow : MethodName := ⟨RX4, "goalsByRow", "(I)I"⟩
abbrev cX4_isMindAsRow : ByteArray := prog_1_method_50_code
def yX4_isMindAsRow : MethodName := ⟨RX4, "isMindAsRow", "(I)Z"⟩
abbrev cX4_row : ByteArray := prog_1_method_51_code
def yX4_row : MethodName := ⟨RX4, "row", "(I)I"⟩
abbrev cX4_judge : ByteArray := prog_1_method_52_code
def yX4_judge : MethodName := ⟨RX4, "judge", "()I"⟩
abbrev cX4_clear : ByteArray := prog_1_method_53_code
def yX4_clear : MethodName := ⟨RX4, "clear", "()I"⟩
abbrev cX4_lots : ByteArray := prog_1_method_54_code
def yX4_lots : MethodName := ⟨RX4, "lots", "(III)I"⟩
abbrev cX4_placeByLot : ByteArray := prog_1_method_55_code
def yX4_placeByLot : MethodName := ⟨RX4, "placeByLot", "(I)I"⟩
abbrev cX4_nextSeed : ByteArray := prog_1_method_56_code
def yX4_nextSeed : MethodName := ⟨RX4, "nextSeed", "(I)I"⟩
abbrev cX4_draw : ByteArray := prog_1_method_57_code
def yX4_draw : MethodName := ⟨RX4, "draw", "(I)I"⟩
abbrev cX4_image : ByteArray := prog_1_method_58_code
def yX4_image : MethodName := ⟨RX4, "image", "()I"⟩
abbrev cX4_on : ByteArray := prog_1_method_59_code
def yX4_on : MethodName := ⟨RX4, "on", "()I"⟩
abbrev cX4_count : ByteArray := prog_1_method_60_code
def yX4_count : MethodName := ⟨RX4, "count", "(I)I"⟩
abbrev cX4_refused : ByteArray := prog_1_method_61_code
def yX4_refused : MethodName := ⟨RX4, "refused", "(I)I"⟩
abbrev cX4_refusedNumber : ByteArray := prog_1_method_62_code
def yX4_refusedNumber : MethodName := ⟨RX4, "refusedNumber", "(I)I"⟩
abbrev cX4_refusedLong : ByteArray := prog_1_method_63_code
def yX4_refusedLong : MethodName := ⟨RX4, "refusedLong", "(I)J"⟩
abbrev cX4_at : ByteArray := prog_1_method_64_code
def yX4_at : MethodName := ⟨RX4, "at", "([II)I"⟩
abbrev cX4_put : ByteArray := prog_1_method_65_code
def yX4_put : MethodName := ⟨RX4, "put", "([III)V"⟩
abbrev cX4_exchange : ByteArray := prog_1_method_66_code
def yX4_exchange : MethodName := ⟨RX4, "exchange", "([III)I"⟩
abbrev cX4_bitsOf : ByteArray := prog_1_method_67_code
def yX4_bitsOf : MethodName := ⟨RX4, "bitsOf", "([III)I"⟩
abbrev cX4_copy : ByteArray := prog_1_method_68_code
def yX4_copy : MethodName := ⟨RX4, "copy", "([I[I)V"⟩
abbrev cX4_isRoom : ByteArray := prog_1_method_69_code
def yX4_isRoom : MethodName := ⟨RX4, "isRoom", "(I)Z"⟩
abbrev cX4_isHalf : ByteArray := prog_1_method_70_code
def yX4_isHalf : MethodName := ⟨RX4, "isHalf", "(I)Z"⟩
abbrev cX4_hasBit : ByteArray := prog_1_method_71_code
def yX4_hasBit : MethodName := ⟨RX4, "hasBit", "(II)Z"⟩
abbrev cX4_toldWay : ByteArray := prog_1_method_72_code
def yX4_toldWay : MethodName := ⟨RX4, "toldWay", "(I)I"⟩
abbrev cX4_power : ByteArray := prog_1_method_73_code
def yX4_power : MethodName := ⟨RX4, "power", "(II)J"⟩
abbrev cX4_partOf : ByteArray := prog_1_method_74_code
def yX4_partOf : MethodName := ⟨RX4, "partOf", "(JJI)J"⟩
abbrev cX4_commonDivisor : ByteArray := prog_1_method_75_code
def yX4_commonDivisor : MethodName := ⟨RX4, "commonDivisor", "(JJ)J"⟩
def RX5 : String := "DoorsOneSideModel"
def TX5 : u_T := fun k => match k with
  | 0 => ("DoorsOneSideModel", "s", "[I", true)
  | 1 => ("DoorsOneSideModel", "m", "[I", true)
  | 2 => ("DoorsOneSideModel", "image", "[I", true)
  | 3 => ("DoorsOneSideModel", "was", "[I", true)
  | 4 => ("DoorsOneSideModel", "far", "[I", true)
  | 5 => ("DoorsOneSideModel", "hasImage", "Z", false)
  | 6 => ("DoorsOneSideModel", "letters", "[I", true)
  | 7 => ("DoorsOneSideModel", "row", "[I", true)
  | 8 => ("DoorsOneSideModel", "refused", "[I", true)
  | 9 => ("DoorsOneSideModel", "letterMany", "I", false)
  | 10 => ("DoorsOneSideModel", "rowMany", "I", false)
  | 11 => ("DoorsOneSideModel", "place", "I", false)
  | 12 => ("DoorsOneSideModel", "numbers", "[I", true)
  | _ => ("DoorsOneSideModel", "seed", "I", false)
def tyX5 : Nat → FieldType := fun k => match k with
  | 0 => .array .int
  | 1 => .array .int
  | 2 => .array .int
  | 3 => .array .int
  | 4 => .array .int
  | 5 => .boolean
  | 6 => .array .int
  | 7 => .array .int
  | 8 => .array .int
  | 9 => .int
  | 10 => .int
  | 11 => .int
  | 12 => .array .int
  | _ => .int
abbrev wsX50 : List Cond := u_ws RX5 TX5 14
theorem nmX5 : ∀ a, a < 14 → ∀ b, b < 14 → a ≠ b → (TX5 a).2.1 ≠ (TX5 b).2.1 := by decide +kernel
theorem tyX5_ok : ∀ k, k < 14 → parseFieldDescriptor (TX5 k).2.2.1 = some (tyX5 k) := by decide +kernel
abbrev cX5_init : ByteArray := prog_7_method_1_code
def yX5_init : MethodName := ⟨RX5, "<init>", "()V"⟩
abbrev cX5_isIn : ByteArray := prog_7_method_2_code
def yX5_isIn : MethodName := ⟨RX5, "isIn", "(III)Z"⟩
abbrev cX5_least : ByteArray := prog_7_method_3_code
def yX5_least : MethodName := ⟨RX5, "least", "(II)I"⟩
abbrev cX5_copies : ByteArray := prog_7_method_4_code
def yX5_copies : MethodName := ⟨RX5, "copies", "([I[I)V"⟩
abbrev cX5_no : ByteArray := prog_7_method_5_code
def yX5_no : MethodName := ⟨RX5, "no", "(I)I"⟩
abbrev cX5_noWide : ByteArray := prog_7_method_6_code
def yX5_noWide : MethodName := ⟨RX5, "noWide", "(I)J"⟩
abbrev cX5_ofD : ByteArray := prog_7_method_7_code
def yX5_ofD : MethodName := ⟨RX5, "ofD", "(II)I"⟩
abbrev cX5_ofP : ByteArray := prog_7_method_8_code
def yX5_ofP : MethodName := ⟨RX5, "ofP", "(II)I"⟩
abbrev cX5_isDoor : ByteArray := prog_7_method_9_code
def yX5_isDoor : MethodName := ⟨RX5, "isDoor", "(I)Z"⟩
abbrev cX5_isPerson : ByteArray := prog_7_method_10_code
def yX5_isPerson : MethodName := ⟨RX5, "isPerson", "(I)Z"⟩
abbrev cX5_isRoom : ByteArray := prog_7_method_11_code
def yX5_isRoom : MethodName := ⟨RX5, "isRoom", "(I)Z"⟩
abbrev cX5_has : ByteArray := prog_7_method_12_code
def yX5_has : MethodName := ⟨RX5, "has", "(II)Z"⟩
abbrev cX5_bits : ByteArray := prog_7_method_13_code
def yX5_bits : MethodName := ⟨RX5, "bits", "(I)I"⟩
abbrev cX5_opensBy : ByteArray := prog_7_method_14_code
def yX5_opensBy : MethodName := ⟨RX5, "opensBy", "(IIIII)Z"⟩
abbrev cX5_isThere : ByteArray := prog_7_method_15_code
def yX5_isThere : MethodName := ⟨RX5, "isThere", "([III)Z"⟩
abbrev cX5_opens : ByteArray := prog_7_method_16_code
def yX5_opens : MethodName := ⟨RX5, "opens", "([IIII)Z"⟩
abbrev cX5_measures : ByteArray := prog_7_method_17_code
def yX5_measures : MethodName := ⟨RX5, "measures", "([I)V"⟩
abbrev cX5_wayOf : ByteArray := prog_7_method_18_code
def yX5_wayOf : MethodName := ⟨RX5, "wayOf", "(II)I"⟩
abbrev cX5_isOnWay : ByteArray := prog_7_method_19_code
def yX5_isOnWay : MethodName := ⟨RX5, "isOnWay", "([IIII)Z"⟩
abbrev cX5_doorOf : ByteArray := prog_7_method_20_code
def yX5_doorOf : MethodName := ⟨RX5, "doorOf", "([III)I"⟩
abbrev cX5_hour : ByteArray := prog_7_method_21_code
def yX5_hour : MethodName := ⟨RX5, "hour", "([I)V"⟩
abbrev cX5_hoursOn : ByteArray := prog_7_method_22_code
def yX5_hoursOn : MethodName := ⟨RX5, "hoursOn", "([II)V"⟩
abbrev cX5_homeIn : ByteArray := prog_7_method_23_code
def yX5_homeIn : MethodName := ⟨RX5, "homeIn", "([I)I"⟩
abbrev cX5_letter : ByteArray := prog_7_method_24_code
def yX5_letter : MethodName := ⟨RX5, "letter", "(I)I"⟩
abbrev cX5_here : ByteArray := prog_7_method_25_code
def yX5_here : MethodName := ⟨RX5, "here", "()I"⟩
abbrev cX5_readsNumber : ByteArray := prog_7_method_26_code
def yX5_readsNumber : MethodName := ⟨RX5, "readsNumber", "(II)Z"⟩
abbrev cX5_kindBy : ByteArray := prog_7_method_27_code
def yX5_kindBy : MethodName := ⟨RX5, "kindBy", "(I)I"⟩
abbrev cX5_readsKind : ByteArray := prog_7_method_28_code
def yX5_readsKind : MethodName := ⟨RX5, "readsKind", "()Z"⟩
abbrev cX5_readsStatement : ByteArray := prog_7_method_29_code
def yX5_readsStatement : MethodName := ⟨RX5, "readsStatement", "()Z"⟩
abbrev cX5_addsDoor : ByteArray := prog_7_method_30_code
def yX5_addsDoor : MethodName := ⟨RX5, "addsDoor", "()Z"⟩
abbrev cX5_adds : ByteArray := prog_7_method_31_code
def yX5_adds : MethodName := ⟨RX5, "adds", "([IIII)V"⟩
abbrev cX5_turnsIn : ByteArray := prog_7_method_32_code
def yX5_turnsIn : MethodName := ⟨RX5, "turnsIn", "([II)V"⟩
abbrev cX5_isDone : ByteArray := prog_7_method_33_code
def yX5_isDone : MethodName := ⟨RX5, "isDone", "(I)Z"⟩
abbrev cX5_town : ByteArray := prog_7_method_34_code
def yX5_town : MethodName := ⟨RX5, "town", "()I"⟩
abbrev cX5_door : ByteArray := prog_7_method_35_code
def yX5_door : MethodName := ⟨RX5, "door", "(II)I"⟩
abbrev cX5_person : ByteArray := prog_7_method_36_code
def yX5_person : MethodName := ⟨RX5, "person", "(II)I"⟩
abbrev cX5_wedges : ByteArray := prog_7_method_37_code
def yX5_wedges : MethodName := ⟨RX5, "wedges", "(I)I"⟩
abbrev cX5_turns : ByteArray := prog_7_method_38_code
def yX5_turns : MethodName := ⟨RX5, "turns", "(I)I"⟩
abbrev cX5_areWrong : ByteArray := prog_7_method_39_code
def yX5_areWrong : MethodName := ⟨RX5, "areWrong", "(II)Z"⟩
abbrev cX5_sets : ByteArray := prog_7_method_40_code
def yX5_sets : MethodName := ⟨RX5, "sets", "(III)I"⟩
abbrev cX5_stands : ByteArray := prog_7_method_41_code
def yX5_stands : MethodName := ⟨RX5, "stands", "(II)I"⟩
abbrev cX5_wants : ByteArray := prog_7_method_42_code
def yX5_wants : MethodName := ⟨RX5, "wants", "(II)I"⟩
abbrev cX5_wrongBy : ByteArray := prog_7_method_43_code
def yX5_wrongBy : MethodName := ⟨RX5, "wrongBy", "(III)I"⟩
abbrev cX5_moods : ByteArray := prog_7_method_44_code
def yX5_moods : MethodName := ⟨RX5, "moods", "(II)I"⟩
abbrev cX5_changes : ByteArray := prog_7_method_45_code
def yX5_changes : MethodName := ⟨RX5, "changes", "(III)I"⟩
abbrev cX5_hours : ByteArray := prog_7_method_46_code
def yX5_hours : MethodName := ⟨RX5, "hours", "(I)I"⟩
abbrev cX5_takes : ByteArray := prog_7_method_47_code
def yX5_takes : MethodName := ⟨RX5, "takes", "(I)V"⟩
abbrev cX5_personThen : ByteArray := prog_7_method_48_code
def yX5_personThen : MethodName := ⟨RX5, "personThen", "(III)I"⟩
abbrev cX5_letThen : ByteArray := prog_7_method_49_code
def yX5_letThen : MethodName := ⟨RX5, "letThen", "(I)I"⟩
abbrev cX5_comesTo : ByteArray := prog_7_method_50_code
def yX5_comesTo : MethodName := ⟨RX5, "comesTo", "(II)I"⟩
abbrev cX5_comes : ByteArray := prog_7_method_51_code
def yX5_comes : MethodName := ⟨RX5, "comes", "(II)I"⟩
abbrev cX5_allHome : ByteArray := prog_7_method_52_code
def yX5_allHome : MethodName := ⟨RX5, "allHome", "()I"⟩
abbrev cX5_home : ByteArray := prog_7_method_53_code
def yX5_home : MethodName := ⟨RX5, "home", "(I)I"⟩
abbrev cX5_shutIn : ByteArray := prog_7_method_54_code
def yX5_shutIn : MethodName := ⟨RX5, "shutIn", "()I"⟩
abbrev cX5_isStill : ByteArray := prog_7_method_55_code
def yX5_isStill : MethodName := ⟨RX5, "isStill", "(I)Z"⟩
abbrev cX5_whereIn : ByteArray := prog_7_method_56_code
def yX5_whereIn : MethodName := ⟨RX5, "whereIn", "([I)I"⟩
abbrev cX5_stuck : ByteArray := prog_7_method_57_code
def yX5_stuck : MethodName := ⟨RX5, "stuck", "()I"⟩
abbrev cX5_way : ByteArray := prog_7_method_58_code
def yX5_way : MethodName := ⟨RX5, "way", "(III)I"⟩
abbrev cX5_round : ByteArray := prog_7_method_59_code
def yX5_round : MethodName := ⟨RX5, "round", "(I)I"⟩
abbrev cX5_reach : ByteArray := prog_7_method_60_code
def yX5_reach : MethodName := ⟨RX5, "reach", "(I)I"⟩
abbrev cX5_open : ByteArray := prog_7_method_61_code
def yX5_open : MethodName := ⟨RX5, "open", "()I"⟩
abbrev cX5_helper : ByteArray := prog_7_method_62_code
def yX5_helper : MethodName := ⟨RX5, "helper", "(II)I"⟩
abbrev cX5_fewest : ByteArray := prog_7_method_63_code
def yX5_fewest : MethodName := ⟨RX5, "fewest", "(II)I"⟩
abbrev cX5_bestDoor : ByteArray := prog_7_method_64_code
def yX5_bestDoor : MethodName := ⟨RX5, "bestDoor", "(IZ)I"⟩
abbrev cX5_turn : ByteArray := prog_7_method_65_code
def yX5_turn : MethodName := ⟨RX5, "turn", "(I)I"⟩
abbrev cX5_wedge : ByteArray := prog_7_method_66_code
def yX5_wedge : MethodName := ⟨RX5, "wedge", "(I)I"⟩
abbrev cX5_holds : ByteArray := prog_7_method_67_code
def yX5_holds : MethodName := ⟨RX5, "holds", "(II)I"⟩
abbrev cX5_manyIn : ByteArray := prog_7_method_68_code
def yX5_manyIn : MethodName := ⟨RX5, "manyIn", "(I)I"⟩
abbrev cX5_doorsBy : ByteArray := prog_7_method_69_code
def yX5_doorsBy : MethodName := ⟨RX5, "doorsBy", "(II)I"⟩
abbrev cX5_crowd : ByteArray := prog_7_method_70_code
def yX5_crowd : MethodName := ⟨RX5, "crowd", "(I)I"⟩
abbrev cX5_handles : ByteArray := prog_7_method_71_code
def yX5_handles : MethodName := ⟨RX5, "handles", "(I)I"⟩
abbrev cX5_meet : ByteArray := prog_7_method_72_code
def yX5_meet : MethodName := ⟨RX5, "meet", "(I)I"⟩
abbrev cX5_hasBy : ByteArray := prog_7_method_73_code
def yX5_hasBy : MethodName := ⟨RX5, "hasBy", "(IIIIII)I"⟩
abbrev cX5_two : ByteArray := prog_7_method_74_code
def yX5_two : MethodName := ⟨RX5, "two", "(III)I"⟩
abbrev cX5_gcd : ByteArray := prog_7_method_75_code
def yX5_gcd : MethodName := ⟨RX5, "gcd", "(JJ)J"⟩
abbrev cX5_partOf : ByteArray := prog_7_method_76_code
def yX5_partOf : MethodName := ⟨RX5, "partOf", "(JJI)J"⟩
abbrev cX5_hourBy : ByteArray := prog_7_method_77_code
def yX5_hourBy : MethodName := ⟨RX5, "hourBy", "(Z)V"⟩
abbrev cX5_fire : ByteArray := prog_7_method_78_code
def yX5_fire : MethodName := ⟨RX5, "fire", "(IIIII)J"⟩
abbrev cX5_allMoods : ByteArray := prog_7_method_79_code
def yX5_allMoods : MethodName := ⟨RX5, "allMoods", "()I"⟩
abbrev cX5_mean : ByteArray := prog_7_method_80_code
def yX5_mean : MethodName := ⟨RX5, "mean", "(I)J"⟩
abbrev cX5_whatIs : ByteArray := prog_7_method_81_code
def yX5_whatIs : MethodName := ⟨RX5, "whatIs", "(III)I"⟩
abbrev cX5_row : ByteArray := prog_7_method_82_code
def yX5_row : MethodName := ⟨RX5, "row", "(I)I"⟩
abbrev cX5_judge : ByteArray := prog_7_method_83_code
def yX5_judge : MethodName := ⟨RX5, "judge", "()I"⟩
abbrev cX5_clear : ByteArray := prog_7_method_84_code
def yX5_clear : MethodName := ⟨RX5, "clear", "()I"⟩
abbrev cX5_drawn : ByteArray := prog_7_method_85_code
def yX5_drawn : MethodName := ⟨RX5, "drawn", "(I)I"⟩
abbrev cX5_lots : ByteArray := prog_7_method_86_code
def yX5_lots : MethodName := ⟨RX5, "lots", "(III)I"⟩
abbrev cX5_image : ByteArray := prog_7_method_87_code
def yX5_image : MethodName := ⟨RX5, "image", "()I"⟩
abbrev cX5_on : ByteArray := prog_7_method_88_code
def yX5_on : MethodName := ⟨RX5, "on", "()I"⟩
abbrev cX5_count : ByteArray := prog_7_method_89_code
def yX5_count : MethodName := ⟨RX5, "count", "(I)I"⟩
def RJ6 : String := "java/lang/Integer"
def TJ6 : u_T := fun k => match k with
  | _ => ("", "", "", false)
def tyJ6 : Nat → FieldType := fun k => match k with
  | _ => .int
abbrev wsJ60 : List Cond := u_ws RJ6 TJ6 0
theorem nmJ6 : ∀ a, a < 0 → ∀ b, b < 0 → a ≠ b → (TJ6 a).2.1 ≠ (TJ6 b).2.1 := by decide +kernel
theorem tyJ6_ok : ∀ k, k < 0 → parseFieldDescriptor (TJ6 k).2.2.1 = some (tyJ6 k) := by decide +kernel
abbrev cJ6_bitCount_0f7a4 : ByteArray := prog_8_method_49_code
def yJ6_bitCount_0f7a4 : MethodName := ⟨RJ6, "bitCount", "(I)I"⟩
def RJ9 : String := "java/lang/Math"
def TJ9 : u_T := fun k => match k with
  | _ => ("", "", "", false)
def tyJ9 : Nat → FieldType := fun k => match k with
  | _ => .int
abbrev wsJ90 : List Cond := u_ws RJ9 TJ9 0
theorem nmJ9 : ∀ a, a < 0 → ∀ b, b < 0 → a ≠ b → (TJ9 a).2.1 ≠ (TJ9 b).2.1 := by decide +kernel
theorem tyJ9_ok : ∀ k, k < 0 → parseFieldDescriptor (TJ9 k).2.2.1 = some (tyJ9 k) := by decide +kernel
abbrev cJ9_max_7cf53 : ByteArray := prog_9_method_65_code
def yJ9_max_7cf53 : MethodName := ⟨RJ9, "max", "(II)I"⟩
abbrev cJ9_min_7cf53 : ByteArray := prog_9_method_69_code
def yJ9_min_7cf53 : MethodName := ⟨RJ9, "min", "(II)I"⟩
def RJ10 : String := "java/lang/System"
def TJ10 : u_T := fun k => match k with
  | _ => ("", "", "", false)
def tyJ10 : Nat → FieldType := fun k => match k with
  | _ => .int
abbrev wsJ100 : List Cond := u_ws RJ10 TJ10 0
theorem nmJ10 : ∀ a, a < 0 → ∀ b, b < 0 → a ≠ b → (TJ10 a).2.1 ≠ (TJ10 b).2.1 := by decide +kernel
theorem tyJ10_ok : ∀ k, k < 0 → parseFieldDescriptor (TJ10 k).2.2.1 = some (tyJ10 k) := by decide +kernel
def RL : String := "DoorsOneSideLaw"
abbrev cL_law : ByteArray := code
def yL_law : MethodName := ⟨RL, "law", "([I)Z"⟩
abbrev vwCl : List vw_C := [(RX0, TX0, 8), (RX1, TX1, 1), (RX2, TX2, 2), (RX3, TX3, 7), (RX4, TX4, 8), (RX5, TX5, 14)]
