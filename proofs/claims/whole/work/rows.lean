section
/-- a private method of a class that the tables say can be made, by its rows of tables_1 -/
def lw_okq (q : MethodName × Nat) : Prop := (q.1.cls ≠ "java/lang/invoke/MethodHandle" ∧ q.1.cls ≠ "java/lang/invoke/VarHandle") ∧ Cond.instantiable q.1.cls q.2 ∈ tables_1 ∧ Cond.privateMethod q.1 ∈ tables_1 ∧ Cond.instanceMethod q.1 ∈ tables_1
theorem lw_p0 : lw_okq (⟨"DoorsOneSide$Doors", "measureWays", "()V"⟩, 8) := ⟨⟨by decide +kernel, by decide +kernel⟩, List.mem_of_getElem? (i := 25) (by decide +kernel), List.mem_of_getElem? (i := 31) (by decide +kernel), List.mem_of_getElem? (i := 32) (by decide +kernel)⟩
theorem lw_p1 : lw_okq (⟨"DoorsOneSide$Doors", "shortenWaysBy", "(II)Z"⟩, 8) := ⟨⟨by decide +kernel, by decide +kernel⟩, List.mem_of_getElem? (i := 25) (by decide +kernel), List.mem_of_getElem? (i := 41) (by decide +kernel), List.mem_of_getElem? (i := 42) (by decide +kernel)⟩
theorem lw_p2 : lw_okq (⟨"DoorsOneSide$Doors", "findFirsts", "()V"⟩, 8) := ⟨⟨by decide +kernel, by decide +kernel⟩, List.mem_of_getElem? (i := 25) (by decide +kernel), List.mem_of_getElem? (i := 45) (by decide +kernel), List.mem_of_getElem? (i := 46) (by decide +kernel)⟩
theorem lw_p3 : lw_okq (⟨"DoorsOneSide", "refused", "(I)I"⟩, 8) := ⟨⟨by decide +kernel, by decide +kernel⟩, List.mem_of_getElem? (i := 11) (by decide +kernel), List.mem_of_getElem? (i := 180) (by decide +kernel), List.mem_of_getElem? (i := 181) (by decide +kernel)⟩
theorem lw_p4 : lw_okq (⟨"DoorsOneSide$Letters", "fitsShape", "(II)Z"⟩, 1) := ⟨⟨by decide +kernel, by decide +kernel⟩, List.mem_of_getElem? (i := 118) (by decide +kernel), List.mem_of_getElem? (i := 204) (by decide +kernel), List.mem_of_getElem? (i := 205) (by decide +kernel)⟩
theorem lw_p5 : lw_okq (⟨"DoorsOneSide", "tellStatements", "()I"⟩, 8) := ⟨⟨by decide +kernel, by decide +kernel⟩, List.mem_of_getElem? (i := 11) (by decide +kernel), List.mem_of_getElem? (i := 216) (by decide +kernel), List.mem_of_getElem? (i := 217) (by decide +kernel)⟩
theorem lw_p6 : lw_okq (⟨"DoorsOneSide$Letters", "digitAt", "(I)I"⟩, 1) := ⟨⟨by decide +kernel, by decide +kernel⟩, List.mem_of_getElem? (i := 118) (by decide +kernel), List.mem_of_getElem? (i := 242) (by decide +kernel), List.mem_of_getElem? (i := 243) (by decide +kernel)⟩
theorem lw_p7 : lw_okq (⟨"DoorsOneSide", "refusedNumber", "(I)I"⟩, 8) := ⟨⟨by decide +kernel, by decide +kernel⟩, List.mem_of_getElem? (i := 11) (by decide +kernel), List.mem_of_getElem? (i := 359) (by decide +kernel), List.mem_of_getElem? (i := 360) (by decide +kernel)⟩
theorem lw_p8 : lw_okq (⟨"DoorsOneSide", "firstHourIn", "(II)I"⟩, 8) := ⟨⟨by decide +kernel, by decide +kernel⟩, List.mem_of_getElem? (i := 11) (by decide +kernel), List.mem_of_getElem? (i := 401) (by decide +kernel), List.mem_of_getElem? (i := 402) (by decide +kernel)⟩
theorem lw_p9 : lw_okq (⟨"DoorsOneSide", "firstHourAllHome", "()I"⟩, 8) := ⟨⟨by decide +kernel, by decide +kernel⟩, List.mem_of_getElem? (i := 11) (by decide +kernel), List.mem_of_getElem? (i := 409) (by decide +kernel), List.mem_of_getElem? (i := 410) (by decide +kernel)⟩
theorem lw_p10 : lw_okq (⟨"DoorsOneSide", "homeWithHelper", "(II)I"⟩, 8) := ⟨⟨by decide +kernel, by decide +kernel⟩, List.mem_of_getElem? (i := 11) (by decide +kernel), List.mem_of_getElem? (i := 451) (by decide +kernel), List.mem_of_getElem? (i := 452) (by decide +kernel)⟩
theorem lw_p11 : lw_okq (⟨"DoorsOneSide", "isHomeWhileStay", "(III)Z"⟩, 8) := ⟨⟨by decide +kernel, by decide +kernel⟩, List.mem_of_getElem? (i := 11) (by decide +kernel), List.mem_of_getElem? (i := 461) (by decide +kernel), List.mem_of_getElem? (i := 462) (by decide +kernel)⟩
theorem lw_p12 : lw_okq (⟨"DoorsOneSide", "doorToChange", "(IZ)I"⟩, 8) := ⟨⟨by decide +kernel, by decide +kernel⟩, List.mem_of_getElem? (i := 11) (by decide +kernel), List.mem_of_getElem? (i := 474) (by decide +kernel), List.mem_of_getElem? (i := 475) (by decide +kernel)⟩
theorem lw_p13 : lw_okq (⟨"DoorsOneSide", "crowdedRoom", "()I"⟩, 8) := ⟨⟨by decide +kernel, by decide +kernel⟩, List.mem_of_getElem? (i := 11) (by decide +kernel), List.mem_of_getElem? (i := 495) (by decide +kernel), List.mem_of_getElem? (i := 496) (by decide +kernel)⟩
theorem lw_p14 : lw_okq (⟨"DoorsOneSide", "emptyRooms", "()I"⟩, 8) := ⟨⟨by decide +kernel, by decide +kernel⟩, List.mem_of_getElem? (i := 11) (by decide +kernel), List.mem_of_getElem? (i := 506) (by decide +kernel), List.mem_of_getElem? (i := 507) (by decide +kernel)⟩
theorem lw_p15 : lw_okq (⟨"DoorsOneSide", "deadRooms", "()I"⟩, 8) := ⟨⟨by decide +kernel, by decide +kernel⟩, List.mem_of_getElem? (i := 11) (by decide +kernel), List.mem_of_getElem? (i := 510) (by decide +kernel), List.mem_of_getElem? (i := 511) (by decide +kernel)⟩
def lw_privs_1 : List (MethodName × Nat) := [(⟨"DoorsOneSide$Doors", "measureWays", "()V"⟩, 8), (⟨"DoorsOneSide$Doors", "shortenWaysBy", "(II)Z"⟩, 8), (⟨"DoorsOneSide$Doors", "findFirsts", "()V"⟩, 8), (⟨"DoorsOneSide", "refused", "(I)I"⟩, 8), (⟨"DoorsOneSide$Letters", "fitsShape", "(II)Z"⟩, 1), (⟨"DoorsOneSide", "tellStatements", "()I"⟩, 8), (⟨"DoorsOneSide$Letters", "digitAt", "(I)I"⟩, 1), (⟨"DoorsOneSide", "refusedNumber", "(I)I"⟩, 8), (⟨"DoorsOneSide", "firstHourIn", "(II)I"⟩, 8), (⟨"DoorsOneSide", "firstHourAllHome", "()I"⟩, 8), (⟨"DoorsOneSide", "homeWithHelper", "(II)I"⟩, 8), (⟨"DoorsOneSide", "isHomeWhileStay", "(III)Z"⟩, 8), (⟨"DoorsOneSide", "doorToChange", "(IZ)I"⟩, 8), (⟨"DoorsOneSide", "crowdedRoom", "()I"⟩, 8), (⟨"DoorsOneSide", "emptyRooms", "()I"⟩, 8), (⟨"DoorsOneSide", "deadRooms", "()I"⟩, 8)]
theorem lw_r1 : ∀ q ∈ lw_privs_1, lw_okq q := List.forall_mem_cons.mpr ⟨lw_p0, List.forall_mem_cons.mpr ⟨lw_p1, List.forall_mem_cons.mpr ⟨lw_p2, List.forall_mem_cons.mpr ⟨lw_p3, List.forall_mem_cons.mpr ⟨lw_p4, List.forall_mem_cons.mpr ⟨lw_p5, List.forall_mem_cons.mpr ⟨lw_p6, List.forall_mem_cons.mpr ⟨lw_p7, List.forall_mem_cons.mpr ⟨lw_p8, List.forall_mem_cons.mpr ⟨lw_p9, List.forall_mem_cons.mpr ⟨lw_p10, List.forall_mem_cons.mpr ⟨lw_p11, List.forall_mem_cons.mpr ⟨lw_p12, List.forall_mem_cons.mpr ⟨lw_p13, List.forall_mem_cons.mpr ⟨lw_p14, List.forall_mem_cons.mpr ⟨lw_p15, fun _ h => absurd h List.not_mem_nil⟩⟩⟩⟩⟩⟩⟩⟩⟩⟩⟩⟩⟩⟩⟩⟩
theorem lw_p16 : lw_okq (⟨"DoorsOneSide", "waysOfAllTo", "(I)I"⟩, 8) := ⟨⟨by decide +kernel, by decide +kernel⟩, List.mem_of_getElem? (i := 11) (by decide +kernel), List.mem_of_getElem? (i := 523) (by decide +kernel), List.mem_of_getElem? (i := 524) (by decide +kernel)⟩
theorem lw_p17 : lw_okq (⟨"DoorsOneSide", "tryPair", "(IIII)V"⟩, 8) := ⟨⟨by decide +kernel, by decide +kernel⟩, List.mem_of_getElem? (i := 11) (by decide +kernel), List.mem_of_getElem? (i := 531) (by decide +kernel), List.mem_of_getElem? (i := 532) (by decide +kernel)⟩
theorem lw_p18 : lw_okq (⟨"DoorsOneSide", "gainOf", "(I)I"⟩, 8) := ⟨⟨by decide +kernel, by decide +kernel⟩, List.mem_of_getElem? (i := 11) (by decide +kernel), List.mem_of_getElem? (i := 535) (by decide +kernel), List.mem_of_getElem? (i := 536) (by decide +kernel)⟩
theorem lw_p19 : lw_okq (⟨"DoorsOneSide", "refusedLong", "(I)J"⟩, 8) := ⟨⟨by decide +kernel, by decide +kernel⟩, List.mem_of_getElem? (i := 11) (by decide +kernel), List.mem_of_getElem? (i := 543) (by decide +kernel), List.mem_of_getElem? (i := 544) (by decide +kernel)⟩
theorem lw_p20 : lw_okq (⟨"DoorsOneSide", "isInBehindFires", "(IIII)Z"⟩, 8) := ⟨⟨by decide +kernel, by decide +kernel⟩, List.mem_of_getElem? (i := 11) (by decide +kernel), List.mem_of_getElem? (i := 548) (by decide +kernel), List.mem_of_getElem? (i := 549) (by decide +kernel)⟩
theorem lw_p21 : lw_okq (⟨"DoorsOneSide", "kindsByRow", "(II)I"⟩, 8) := ⟨⟨by decide +kernel, by decide +kernel⟩, List.mem_of_getElem? (i := 11) (by decide +kernel), List.mem_of_getElem? (i := 573) (by decide +kernel), List.mem_of_getElem? (i := 574) (by decide +kernel)⟩
theorem lw_p22 : lw_okq (⟨"DoorsOneSide", "isMindAsRow", "(I)Z"⟩, 8) := ⟨⟨by decide +kernel, by decide +kernel⟩, List.mem_of_getElem? (i := 11) (by decide +kernel), List.mem_of_getElem? (i := 577) (by decide +kernel), List.mem_of_getElem? (i := 578) (by decide +kernel)⟩
theorem lw_p23 : lw_okq (⟨"DoorsOneSide", "goalsByRow", "(I)I"⟩, 8) := ⟨⟨by decide +kernel, by decide +kernel⟩, List.mem_of_getElem? (i := 11) (by decide +kernel), List.mem_of_getElem? (i := 581) (by decide +kernel), List.mem_of_getElem? (i := 582) (by decide +kernel)⟩
theorem lw_p24 : lw_okq (⟨"DoorsOneSide", "placeByLot", "(I)I"⟩, 8) := ⟨⟨by decide +kernel, by decide +kernel⟩, List.mem_of_getElem? (i := 11) (by decide +kernel), List.mem_of_getElem? (i := 601) (by decide +kernel), List.mem_of_getElem? (i := 602) (by decide +kernel)⟩
theorem lw_p25 : lw_okq (⟨"DoorsOneSideModel", "no", "(I)I"⟩, 14) := ⟨⟨by decide +kernel, by decide +kernel⟩, List.mem_of_getElem? (i := 627) (by decide +kernel), List.mem_of_getElem? (i := 680) (by decide +kernel), List.mem_of_getElem? (i := 681) (by decide +kernel)⟩
theorem lw_p26 : lw_okq (⟨"DoorsOneSideModel", "readsStatement", "()Z"⟩, 14) := ⟨⟨by decide +kernel, by decide +kernel⟩, List.mem_of_getElem? (i := 627) (by decide +kernel), List.mem_of_getElem? (i := 688) (by decide +kernel), List.mem_of_getElem? (i := 689) (by decide +kernel)⟩
theorem lw_p27 : lw_okq (⟨"DoorsOneSideModel", "here", "()I"⟩, 14) := ⟨⟨by decide +kernel, by decide +kernel⟩, List.mem_of_getElem? (i := 627) (by decide +kernel), List.mem_of_getElem? (i := 692) (by decide +kernel), List.mem_of_getElem? (i := 693) (by decide +kernel)⟩
theorem lw_p28 : lw_okq (⟨"DoorsOneSideModel", "readsKind", "()Z"⟩, 14) := ⟨⟨by decide +kernel, by decide +kernel⟩, List.mem_of_getElem? (i := 627) (by decide +kernel), List.mem_of_getElem? (i := 696) (by decide +kernel), List.mem_of_getElem? (i := 697) (by decide +kernel)⟩
theorem lw_p29 : lw_okq (⟨"DoorsOneSideModel", "readsNumber", "(II)Z"⟩, 14) := ⟨⟨by decide +kernel, by decide +kernel⟩, List.mem_of_getElem? (i := 627) (by decide +kernel), List.mem_of_getElem? (i := 703) (by decide +kernel), List.mem_of_getElem? (i := 704) (by decide +kernel)⟩
theorem lw_p30 : lw_okq (⟨"DoorsOneSideModel", "isDone", "(I)Z"⟩, 14) := ⟨⟨by decide +kernel, by decide +kernel⟩, List.mem_of_getElem? (i := 627) (by decide +kernel), List.mem_of_getElem? (i := 713) (by decide +kernel), List.mem_of_getElem? (i := 714) (by decide +kernel)⟩
theorem lw_p31 : lw_okq (⟨"DoorsOneSideModel", "addsDoor", "()Z"⟩, 14) := ⟨⟨by decide +kernel, by decide +kernel⟩, List.mem_of_getElem? (i := 627) (by decide +kernel), List.mem_of_getElem? (i := 717) (by decide +kernel), List.mem_of_getElem? (i := 718) (by decide +kernel)⟩
def lw_privs_2 : List (MethodName × Nat) := [(⟨"DoorsOneSide", "waysOfAllTo", "(I)I"⟩, 8), (⟨"DoorsOneSide", "tryPair", "(IIII)V"⟩, 8), (⟨"DoorsOneSide", "gainOf", "(I)I"⟩, 8), (⟨"DoorsOneSide", "refusedLong", "(I)J"⟩, 8), (⟨"DoorsOneSide", "isInBehindFires", "(IIII)Z"⟩, 8), (⟨"DoorsOneSide", "kindsByRow", "(II)I"⟩, 8), (⟨"DoorsOneSide", "isMindAsRow", "(I)Z"⟩, 8), (⟨"DoorsOneSide", "goalsByRow", "(I)I"⟩, 8), (⟨"DoorsOneSide", "placeByLot", "(I)I"⟩, 8), (⟨"DoorsOneSideModel", "no", "(I)I"⟩, 14), (⟨"DoorsOneSideModel", "readsStatement", "()Z"⟩, 14), (⟨"DoorsOneSideModel", "here", "()I"⟩, 14), (⟨"DoorsOneSideModel", "readsKind", "()Z"⟩, 14), (⟨"DoorsOneSideModel", "readsNumber", "(II)Z"⟩, 14), (⟨"DoorsOneSideModel", "isDone", "(I)Z"⟩, 14), (⟨"DoorsOneSideModel", "addsDoor", "()Z"⟩, 14)]
theorem lw_r2 : ∀ q ∈ lw_privs_2, lw_okq q := List.forall_mem_cons.mpr ⟨lw_p16, List.forall_mem_cons.mpr ⟨lw_p17, List.forall_mem_cons.mpr ⟨lw_p18, List.forall_mem_cons.mpr ⟨lw_p19, List.forall_mem_cons.mpr ⟨lw_p20, List.forall_mem_cons.mpr ⟨lw_p21, List.forall_mem_cons.mpr ⟨lw_p22, List.forall_mem_cons.mpr ⟨lw_p23, List.forall_mem_cons.mpr ⟨lw_p24, List.forall_mem_cons.mpr ⟨lw_p25, List.forall_mem_cons.mpr ⟨lw_p26, List.forall_mem_cons.mpr ⟨lw_p27, List.forall_mem_cons.mpr ⟨lw_p28, List.forall_mem_cons.mpr ⟨lw_p29, List.forall_mem_cons.mpr ⟨lw_p30, List.forall_mem_cons.mpr ⟨lw_p31, fun _ h => absurd h List.not_mem_nil⟩⟩⟩⟩⟩⟩⟩⟩⟩⟩⟩⟩⟩⟩⟩⟩
theorem lw_p32 : lw_okq (⟨"DoorsOneSideModel", "isPerson", "(I)Z"⟩, 14) := ⟨⟨by decide +kernel, by decide +kernel⟩, List.mem_of_getElem? (i := 627) (by decide +kernel), List.mem_of_getElem? (i := 733) (by decide +kernel), List.mem_of_getElem? (i := 734) (by decide +kernel)⟩
theorem lw_p33 : lw_okq (⟨"DoorsOneSideModel", "isDoor", "(I)Z"⟩, 14) := ⟨⟨by decide +kernel, by decide +kernel⟩, List.mem_of_getElem? (i := 627) (by decide +kernel), List.mem_of_getElem? (i := 737) (by decide +kernel), List.mem_of_getElem? (i := 738) (by decide +kernel)⟩
theorem lw_p34 : lw_okq (⟨"DoorsOneSideModel", "hoursOn", "([II)V"⟩, 14) := ⟨⟨by decide +kernel, by decide +kernel⟩, List.mem_of_getElem? (i := 627) (by decide +kernel), List.mem_of_getElem? (i := 744) (by decide +kernel), List.mem_of_getElem? (i := 745) (by decide +kernel)⟩
theorem lw_p35 : lw_okq (⟨"DoorsOneSideModel", "measures", "([I)V"⟩, 14) := ⟨⟨by decide +kernel, by decide +kernel⟩, List.mem_of_getElem? (i := 627) (by decide +kernel), List.mem_of_getElem? (i := 748) (by decide +kernel), List.mem_of_getElem? (i := 749) (by decide +kernel)⟩
theorem lw_p36 : lw_okq (⟨"DoorsOneSideModel", "hour", "([I)V"⟩, 14) := ⟨⟨by decide +kernel, by decide +kernel⟩, List.mem_of_getElem? (i := 627) (by decide +kernel), List.mem_of_getElem? (i := 755) (by decide +kernel), List.mem_of_getElem? (i := 756) (by decide +kernel)⟩
theorem lw_p37 : lw_okq (⟨"DoorsOneSideModel", "doorOf", "([III)I"⟩, 14) := ⟨⟨by decide +kernel, by decide +kernel⟩, List.mem_of_getElem? (i := 627) (by decide +kernel), List.mem_of_getElem? (i := 762) (by decide +kernel), List.mem_of_getElem? (i := 763) (by decide +kernel)⟩
theorem lw_p38 : lw_okq (⟨"DoorsOneSideModel", "isOnWay", "([IIII)Z"⟩, 14) := ⟨⟨by decide +kernel, by decide +kernel⟩, List.mem_of_getElem? (i := 627) (by decide +kernel), List.mem_of_getElem? (i := 766) (by decide +kernel), List.mem_of_getElem? (i := 767) (by decide +kernel)⟩
theorem lw_p39 : lw_okq (⟨"DoorsOneSideModel", "wayOf", "(II)I"⟩, 14) := ⟨⟨by decide +kernel, by decide +kernel⟩, List.mem_of_getElem? (i := 627) (by decide +kernel), List.mem_of_getElem? (i := 770) (by decide +kernel), List.mem_of_getElem? (i := 771) (by decide +kernel)⟩
theorem lw_p40 : lw_okq (⟨"DoorsOneSideModel", "sets", "(III)I"⟩, 14) := ⟨⟨by decide +kernel, by decide +kernel⟩, List.mem_of_getElem? (i := 627) (by decide +kernel), List.mem_of_getElem? (i := 803) (by decide +kernel), List.mem_of_getElem? (i := 804) (by decide +kernel)⟩
theorem lw_p41 : lw_okq (⟨"DoorsOneSideModel", "areWrong", "(II)Z"⟩, 14) := ⟨⟨by decide +kernel, by decide +kernel⟩, List.mem_of_getElem? (i := 627) (by decide +kernel), List.mem_of_getElem? (i := 807) (by decide +kernel), List.mem_of_getElem? (i := 808) (by decide +kernel)⟩
theorem lw_p42 : lw_okq (⟨"DoorsOneSideModel", "takes", "(I)V"⟩, 14) := ⟨⟨by decide +kernel, by decide +kernel⟩, List.mem_of_getElem? (i := 627) (by decide +kernel), List.mem_of_getElem? (i := 840) (by decide +kernel), List.mem_of_getElem? (i := 841) (by decide +kernel)⟩
theorem lw_p43 : lw_okq (⟨"DoorsOneSideModel", "comesTo", "(II)I"⟩, 14) := ⟨⟨by decide +kernel, by decide +kernel⟩, List.mem_of_getElem? (i := 627) (by decide +kernel), List.mem_of_getElem? (i := 852) (by decide +kernel), List.mem_of_getElem? (i := 853) (by decide +kernel)⟩
theorem lw_p44 : lw_okq (⟨"DoorsOneSideModel", "allHome", "()I"⟩, 14) := ⟨⟨by decide +kernel, by decide +kernel⟩, List.mem_of_getElem? (i := 627) (by decide +kernel), List.mem_of_getElem? (i := 860) (by decide +kernel), List.mem_of_getElem? (i := 861) (by decide +kernel)⟩
theorem lw_p45 : lw_okq (⟨"DoorsOneSideModel", "isStill", "(I)Z"⟩, 14) := ⟨⟨by decide +kernel, by decide +kernel⟩, List.mem_of_getElem? (i := 627) (by decide +kernel), List.mem_of_getElem? (i := 872) (by decide +kernel), List.mem_of_getElem? (i := 873) (by decide +kernel)⟩
theorem lw_p46 : lw_okq (⟨"DoorsOneSideModel", "bestDoor", "(IZ)I"⟩, 14) := ⟨⟨by decide +kernel, by decide +kernel⟩, List.mem_of_getElem? (i := 627) (by decide +kernel), List.mem_of_getElem? (i := 907) (by decide +kernel), List.mem_of_getElem? (i := 908) (by decide +kernel)⟩
theorem lw_p47 : lw_okq (⟨"DoorsOneSideModel", "manyIn", "(I)I"⟩, 14) := ⟨⟨by decide +kernel, by decide +kernel⟩, List.mem_of_getElem? (i := 627) (by decide +kernel), List.mem_of_getElem? (i := 924) (by decide +kernel), List.mem_of_getElem? (i := 925) (by decide +kernel)⟩
def lw_privs_3 : List (MethodName × Nat) := [(⟨"DoorsOneSideModel", "isPerson", "(I)Z"⟩, 14), (⟨"DoorsOneSideModel", "isDoor", "(I)Z"⟩, 14), (⟨"DoorsOneSideModel", "hoursOn", "([II)V"⟩, 14), (⟨"DoorsOneSideModel", "measures", "([I)V"⟩, 14), (⟨"DoorsOneSideModel", "hour", "([I)V"⟩, 14), (⟨"DoorsOneSideModel", "doorOf", "([III)I"⟩, 14), (⟨"DoorsOneSideModel", "isOnWay", "([IIII)Z"⟩, 14), (⟨"DoorsOneSideModel", "wayOf", "(II)I"⟩, 14), (⟨"DoorsOneSideModel", "sets", "(III)I"⟩, 14), (⟨"DoorsOneSideModel", "areWrong", "(II)Z"⟩, 14), (⟨"DoorsOneSideModel", "takes", "(I)V"⟩, 14), (⟨"DoorsOneSideModel", "comesTo", "(II)I"⟩, 14), (⟨"DoorsOneSideModel", "allHome", "()I"⟩, 14), (⟨"DoorsOneSideModel", "isStill", "(I)Z"⟩, 14), (⟨"DoorsOneSideModel", "bestDoor", "(IZ)I"⟩, 14), (⟨"DoorsOneSideModel", "manyIn", "(I)I"⟩, 14)]
theorem lw_r3 : ∀ q ∈ lw_privs_3, lw_okq q := List.forall_mem_cons.mpr ⟨lw_p32, List.forall_mem_cons.mpr ⟨lw_p33, List.forall_mem_cons.mpr ⟨lw_p34, List.forall_mem_cons.mpr ⟨lw_p35, List.forall_mem_cons.mpr ⟨lw_p36, List.forall_mem_cons.mpr ⟨lw_p37, List.forall_mem_cons.mpr ⟨lw_p38, List.forall_mem_cons.mpr ⟨lw_p39, List.forall_mem_cons.mpr ⟨lw_p40, List.forall_mem_cons.mpr ⟨lw_p41, List.forall_mem_cons.mpr ⟨lw_p42, List.forall_mem_cons.mpr ⟨lw_p43, List.forall_mem_cons.mpr ⟨lw_p44, List.forall_mem_cons.mpr ⟨lw_p45, List.forall_mem_cons.mpr ⟨lw_p46, List.forall_mem_cons.mpr ⟨lw_p47, fun _ h => absurd h List.not_mem_nil⟩⟩⟩⟩⟩⟩⟩⟩⟩⟩⟩⟩⟩⟩⟩⟩
theorem lw_p48 : lw_okq (⟨"DoorsOneSideModel", "doorsBy", "(II)I"⟩, 14) := ⟨⟨by decide +kernel, by decide +kernel⟩, List.mem_of_getElem? (i := 627) (by decide +kernel), List.mem_of_getElem? (i := 928) (by decide +kernel), List.mem_of_getElem? (i := 929) (by decide +kernel)⟩
theorem lw_p49 : lw_okq (⟨"DoorsOneSideModel", "hasBy", "(IIIIII)I"⟩, 14) := ⟨⟨by decide +kernel, by decide +kernel⟩, List.mem_of_getElem? (i := 627) (by decide +kernel), List.mem_of_getElem? (i := 944) (by decide +kernel), List.mem_of_getElem? (i := 945) (by decide +kernel)⟩
theorem lw_p50 : lw_okq (⟨"DoorsOneSideModel", "noWide", "(I)J"⟩, 14) := ⟨⟨by decide +kernel, by decide +kernel⟩, List.mem_of_getElem? (i := 627) (by decide +kernel), List.mem_of_getElem? (i := 952) (by decide +kernel), List.mem_of_getElem? (i := 953) (by decide +kernel)⟩
theorem lw_p51 : lw_okq (⟨"DoorsOneSideModel", "hourBy", "(Z)V"⟩, 14) := ⟨⟨by decide +kernel, by decide +kernel⟩, List.mem_of_getElem? (i := 627) (by decide +kernel), List.mem_of_getElem? (i := 957) (by decide +kernel), List.mem_of_getElem? (i := 958) (by decide +kernel)⟩
theorem lw_p52 : lw_okq (⟨"DoorsOneSideModel", "allMoods", "()I"⟩, 14) := ⟨⟨by decide +kernel, by decide +kernel⟩, List.mem_of_getElem? (i := 627) (by decide +kernel), List.mem_of_getElem? (i := 971) (by decide +kernel), List.mem_of_getElem? (i := 972) (by decide +kernel)⟩
theorem lw_p53 : lw_okq (⟨"DoorsOneSideModel", "drawn", "(I)I"⟩, 14) := ⟨⟨by decide +kernel, by decide +kernel⟩, List.mem_of_getElem? (i := 627) (by decide +kernel), List.mem_of_getElem? (i := 995) (by decide +kernel), List.mem_of_getElem? (i := 996) (by decide +kernel)⟩
def lw_privs_4 : List (MethodName × Nat) := [(⟨"DoorsOneSideModel", "doorsBy", "(II)I"⟩, 14), (⟨"DoorsOneSideModel", "hasBy", "(IIIIII)I"⟩, 14), (⟨"DoorsOneSideModel", "noWide", "(I)J"⟩, 14), (⟨"DoorsOneSideModel", "hourBy", "(Z)V"⟩, 14), (⟨"DoorsOneSideModel", "allMoods", "()I"⟩, 14), (⟨"DoorsOneSideModel", "drawn", "(I)I"⟩, 14)]
theorem lw_r4 : ∀ q ∈ lw_privs_4, lw_okq q := List.forall_mem_cons.mpr ⟨lw_p48, List.forall_mem_cons.mpr ⟨lw_p49, List.forall_mem_cons.mpr ⟨lw_p50, List.forall_mem_cons.mpr ⟨lw_p51, List.forall_mem_cons.mpr ⟨lw_p52, List.forall_mem_cons.mpr ⟨lw_p53, fun _ h => absurd h List.not_mem_nil⟩⟩⟩⟩⟩⟩
def lw_privs : List (MethodName × Nat) := lw_privs_1 ++ (lw_privs_2 ++ (lw_privs_3 ++ (lw_privs_4)))
def lw_tbl : List Cond := k2_sels lw_privs ++ tables_1
theorem lw_privs_ok : ∀ q ∈ lw_privs, lw_okq q := by
  show ∀ q ∈ lw_privs_1 ++ (lw_privs_2 ++ (lw_privs_3 ++ (lw_privs_4))), lw_okq q
  exact List.forall_mem_append.mpr ⟨lw_r1, List.forall_mem_append.mpr ⟨lw_r2, List.forall_mem_append.mpr ⟨lw_r3, lw_r4⟩⟩⟩
def RX0 : String := "DoorsOneSide$Doors"
def TX0 : u_T := fun k => match k with
  | 0 => ("DoorsOneSide$Doors", "kinds", "[I", true)
  | 1 => ("DoorsOneSide$Doors", "figures", "[I", true)
  | 2 => ("DoorsOneSide$Doors", "froms", "[I", true)
  | 3 => ("DoorsOneSide$Doors", "intos", "[I", true)
  | 4 => ("DoorsOneSide$Doors", "wedged", "[I", true)
  | 5 => ("DoorsOneSide$Doors", "ways", "[I", true)
  | 6 => ("DoorsOneSide$Doors", "firsts", "[I", true)
  | _ => ("DoorsOneSide$Doors", "size", "I", false)
def tyX0 : Nat → FieldType := fun k => match k with
  | 0 => .array .int
  | 1 => .array .int
  | 2 => .array .int
  | 3 => .array .int
  | 4 => .array .int
  | 5 => .array .int
  | 6 => .array .int
  | _ => .int
abbrev wsX00 : List Cond := u_ws RX0 TX0 8
theorem nmX0 : ∀ a, a < 8 → ∀ b, b < 8 → a ≠ b → (TX0 a).2.1 ≠ (TX0 b).2.1 := by decide +kernel
theorem tyX0_ok : ∀ k, k < 8 → parseFieldDescriptor (TX0 k).2.2.1 = some (tyX0 k) := by decide +kernel
abbrev cX0_init : ByteArray := prog_2_method_1_code
def yX0_init : MethodName := ⟨RX0, "<init>", "()V"⟩
abbrev cX0_become : ByteArray := prog_2_method_2_code
def yX0_become : MethodName := ⟨RX0, "become", "(LDoorsOneSide$Doors;)V"⟩
abbrev cX0_has : ByteArray := prog_2_method_3_code
def yX0_has : MethodName := ⟨RX0, "has", "(I)Z"⟩
abbrev cX0_addDoor : ByteArray := prog_2_method_4_code
def yX0_addDoor : MethodName := ⟨RX0, "addDoor", "(IIII)Z"⟩
abbrev cX0_wedgeOrNot : ByteArray := prog_2_method_5_code
def yX0_wedgeOrNot : MethodName := ⟨RX0, "wedgeOrNot", "(I)I"⟩
abbrev cX0_changeSides : ByteArray := prog_2_method_6_code
def yX0_changeSides : MethodName := ⟨RX0, "changeSides", "(I)I"⟩
abbrev cX0_wayBetween : ByteArray := prog_2_method_7_code
def yX0_wayBetween : MethodName := ⟨RX0, "wayBetween", "(II)I"⟩
abbrev cX0_firstDoors : ByteArray := prog_2_method_8_code
def yX0_firstDoors : MethodName := ⟨RX0, "firstDoors", "(II)I"⟩
abbrev cX0_measureWays : ByteArray := prog_2_method_9_code
def yX0_measureWays : MethodName := ⟨RX0, "measureWays", "()V"⟩
abbrev cX0_shortenWaysBy : ByteArray := prog_2_method_10_code
def yX0_shortenWaysBy : MethodName := ⟨RX0, "shortenWaysBy", "(II)Z"⟩
abbrev cX0_findFirsts : ByteArray := prog_2_method_11_code
def yX0_findFirsts : MethodName := ⟨RX0, "findFirsts", "()V"⟩
abbrev cX0_opensBy : ByteArray := prog_2_method_12_code
def yX0_opensBy : MethodName := ⟨RX0, "opensBy", "(IIII)Z"⟩
def RX1 : String := "DoorsOneSide$Letters"
def TX1 : u_T := fun k => match k with
  | _ => ("DoorsOneSide$Letters", "signs", "LDoorsOneSide$Row;", true)
def tyX1 : Nat → FieldType := fun k => match k with
  | _ => .object "DoorsOneSide$Row"
abbrev wsX10 : List Cond := u_ws RX1 TX1 1
theorem nmX1 : ∀ a, a < 1 → ∀ b, b < 1 → a ≠ b → (TX1 a).2.1 ≠ (TX1 b).2.1 := by decide +kernel
theorem tyX1_ok : ∀ k, k < 1 → parseFieldDescriptor (TX1 k).2.2.1 = some (tyX1 k) := by decide +kernel
abbrev cX1_init : ByteArray := prog_3_method_1_code
def yX1_init : MethodName := ⟨RX1, "<init>", "()V"⟩
abbrev cX1_lengthAt : ByteArray := prog_3_method_2_code
def yX1_lengthAt : MethodName := ⟨RX1, "lengthAt", "(I)I"⟩
abbrev cX1_shapeFault : ByteArray := prog_3_method_3_code
def yX1_shapeFault : MethodName := ⟨RX1, "shapeFault", "()I"⟩
abbrev cX1_fitsShape : ByteArray := prog_3_method_4_code
def yX1_fitsShape : MethodName := ⟨RX1, "fitsShape", "(II)Z"⟩
abbrev cX1_kindOf : ByteArray := prog_3_method_5_code
def yX1_kindOf : MethodName := ⟨RX1, "kindOf", "(I)I"⟩
abbrev cX1_digitAt : ByteArray := prog_3_method_6_code
def yX1_digitAt : MethodName := ⟨RX1, "digitAt", "(I)I"⟩
abbrev cX1_tell : ByteArray := prog_3_method_7_code
def yX1_tell : MethodName := ⟨RX1, "tell", "(ILDoorsOneSide$Town;)Z"⟩
abbrev cX1_tellPerson : ByteArray := prog_3_method_8_code
def yX1_tellPerson : MethodName := ⟨RX1, "tellPerson", "(LDoorsOneSide$Town;III)Z"⟩
abbrev cX1_tellRoom : ByteArray := prog_3_method_9_code
def yX1_tellRoom : MethodName := ⟨RX1, "tellRoom", "(LDoorsOneSide$Town;[III)Z"⟩
abbrev cX1_tellDoor : ByteArray := prog_3_method_10_code
def yX1_tellDoor : MethodName := ⟨RX1, "tellDoor", "(LDoorsOneSide$Town;IZ)Z"⟩
def RX2 : String := "DoorsOneSide$Row"
def TX2 : u_T := fun k => match k with
  | 0 => ("DoorsOneSide$Row", "numbers", "[I", true)
  | _ => ("DoorsOneSide$Row", "size", "I", false)
def tyX2 : Nat → FieldType := fun k => match k with
  | 0 => .array .int
  | _ => .int
abbrev wsX20 : List Cond := u_ws RX2 TX2 2
theorem nmX2 : ∀ a, a < 2 → ∀ b, b < 2 → a ≠ b → (TX2 a).2.1 ≠ (TX2 b).2.1 := by decide +kernel
theorem tyX2_ok : ∀ k, k < 2 → parseFieldDescriptor (TX2 k).2.2.1 = some (tyX2 k) := by decide +kernel
abbrev cX2_init : ByteArray := prog_4_method_1_code
def yX2_init : MethodName := ⟨RX2, "<init>", "(I)V"⟩
abbrev cX2_isFull : ByteArray := prog_4_method_2_code
def yX2_isFull : MethodName := ⟨RX2, "isFull", "()Z"⟩
abbrev cX2_add : ByteArray := prog_4_method_3_code
def yX2_add : MethodName := ⟨RX2, "add", "(I)I"⟩
abbrev cX2_empty : ByteArray := prog_4_method_4_code
def yX2_empty : MethodName := ⟨RX2, "empty", "()I"⟩
def RX3 : String := "DoorsOneSide$Town"
def TX3 : u_T := fun k => match k with
  | 0 => ("DoorsOneSide$Town", "doors", "LDoorsOneSide$Doors;", true)
  | 1 => ("DoorsOneSide$Town", "rooms", "[I", true)
  | 2 => ("DoorsOneSide$Town", "goals", "[I", true)
  | 3 => ("DoorsOneSide$Town", "moods", "[I", true)
  | 4 => ("DoorsOneSide$Town", "size", "I", false)
  | 5 => ("DoorsOneSide$Town", "hour", "I", false)
  | _ => ("DoorsOneSide$Town", "let", "I", false)
def tyX3 : Nat → FieldType := fun k => match k with
  | 0 => .object "DoorsOneSide$Doors"
  | 1 => .array .int
  | 2 => .array .int
  | 3 => .array .int
  | 4 => .int
  | 5 => .int
  | _ => .int
abbrev wsX30 : List Cond := u_ws RX3 TX3 7
theorem nmX3 : ∀ a, a < 7 → ∀ b, b < 7 → a ≠ b → (TX3 a).2.1 ≠ (TX3 b).2.1 := by decide +kernel
theorem tyX3_ok : ∀ k, k < 7 → parseFieldDescriptor (TX3 k).2.2.1 = some (tyX3 k) := by decide +kernel
abbrev cX3_init : ByteArray := prog_5_method_1_code
def yX3_init : MethodName := ⟨RX3, "<init>", "()V"⟩
abbrev cX3_become : ByteArray := prog_5_method_2_code
def yX3_become : MethodName := ⟨RX3, "become", "(LDoorsOneSide$Town;)V"⟩
abbrev cX3_has : ByteArray := prog_5_method_3_code
def yX3_has : MethodName := ⟨RX3, "has", "(I)Z"⟩
abbrev cX3_isHome : ByteArray := prog_5_method_4_code
def yX3_isHome : MethodName := ⟨RX3, "isHome", "(I)Z"⟩
abbrev cX3_addPerson : ByteArray := prog_5_method_5_code
def yX3_addPerson : MethodName := ⟨RX3, "addPerson", "(III)V"⟩
abbrev cX3_removePerson : ByteArray := prog_5_method_6_code
def yX3_removePerson : MethodName := ⟨RX3, "removePerson", "(I)V"⟩
abbrev cX3_stay : ByteArray := prog_5_method_7_code
def yX3_stay : MethodName := ⟨RX3, "stay", "(I)V"⟩
abbrev cX3_goHours : ByteArray := prog_5_method_8_code
def yX3_goHours : MethodName := ⟨RX3, "goHours", "(IZ)I"⟩
abbrev cX3_doorFor : ByteArray := prog_5_method_9_code
def yX3_doorFor : MethodName := ⟨RX3, "doorFor", "(IIZ)I"⟩
abbrev cX3_opens : ByteArray := prog_5_method_10_code
def yX3_opens : MethodName := ⟨RX3, "opens", "(II)Z"⟩
abbrev cX3_countIn : ByteArray := prog_5_method_11_code
def yX3_countIn : MethodName := ⟨RX3, "countIn", "(I)I"⟩
abbrev cX3_homeBits : ByteArray := prog_5_method_12_code
def yX3_homeBits : MethodName := ⟨RX3, "homeBits", "()I"⟩
abbrev cX3_homeCount : ByteArray := prog_5_method_13_code
def yX3_homeCount : MethodName := ⟨RX3, "homeCount", "()I"⟩
abbrev cX3_moodsTogether : ByteArray := prog_5_method_14_code
def yX3_moodsTogether : MethodName := ⟨RX3, "moodsTogether", "()I"⟩
def RX4 : String := "DoorsOneSide"
def TX4 : u_T := fun k => match k with
  | 0 => ("DoorsOneSide", "now", "LDoorsOneSide$Town;", true)
  | 1 => ("DoorsOneSide", "mind", "LDoorsOneSide$Town;", true)
  | 2 => ("DoorsOneSide", "taken", "LDoorsOneSide$Town;", true)
  | 3 => ("DoorsOneSide", "imageTaken", "Z", false)
  | 4 => ("DoorsOneSide", "letters", "LDoorsOneSide$Letters;", true)
  | 5 => ("DoorsOneSide", "told", "LDoorsOneSide$Row;", true)
  | 6 => ("DoorsOneSide", "refusals", "[I", true)
  | _ => ("DoorsOneSide", "gains", "[I", true)
def tyX4 : Nat → FieldType := fun k => match k with
  | 0 => .object "DoorsOneSide$Town"
  | 1 => .object "DoorsOneSide$Town"
  | 2 => .object "DoorsOneSide$Town"
  | 3 => .boolean
  | 4 => .object "DoorsOneSide$Letters"
  | 5 => .object "DoorsOneSide$Row"
  | 6 => .array .int
  | _ => .array .int
abbrev wsX40 : List Cond := u_ws RX4 TX4 8
theorem nmX4 : ∀ a, a < 8 → ∀ b, b < 8 → a ≠ b → (TX4 a).2.1 ≠ (TX4 b).2.1 := by decide +kernel
theorem tyX4_ok : ∀ k, k < 8 → parseFieldDescriptor (TX4 k).2.2.1 = some (tyX4 k) := by decide +kernel
abbrev cX4_init : ByteArray := prog_1_method_1_code
def yX4_init : MethodName := ⟨RX4, "<init>", "()V"⟩
abbrev cX4_letter : ByteArray := prog_1_method_2_code
def yX4_letter : MethodName := ⟨RX4, "letter", "(I)I"⟩
abbrev cX4_town : ByteArray := prog_1_method_3_code
def yX4_town : MethodName := ⟨RX4, "town", "()I"⟩
abbrev cX4_tellStatements : ByteArray := prog_1_method_4_code
def yX4_tellStatements : MethodName := ⟨RX4, "tellStatements", "()I"⟩
abbrev cX4_door : ByteArray := prog_1_method_5_code
def yX4_door : MethodName := ⟨RX4, "door", "(II)I"⟩
abbrev cX4_person : ByteArray := prog_1_method_6_code
def yX4_person : MethodName := ⟨RX4, "person", "(II)I"⟩
abbrev cX4_wedges : ByteArray := prog_1_method_7_code
def yX4_wedges : MethodName := ⟨RX4, "wedges", "(I)I"⟩
abbrev cX4_turns : ByteArray := prog_1_method_8_code
def yX4_turns : MethodName := ⟨RX4, "turns", "(I)I"⟩
abbrev cX4_stands : ByteArray := prog_1_method_9_code
def yX4_stands : MethodName := ⟨RX4, "stands", "(II)I"⟩
abbrev cX4_wants : ByteArray := prog_1_method_10_code
def yX4_wants : MethodName := ⟨RX4, "wants", "(II)I"⟩
abbrev cX4_moods : ByteArray := prog_1_method_11_code
def yX4_moods : MethodName := ⟨RX4, "moods", "(II)I"⟩
abbrev cX4_changes : ByteArray := prog_1_method_12_code
def yX4_changes : MethodName := ⟨RX4, "changes", "(III)I"⟩
abbrev cX4_hours : ByteArray := prog_1_method_13_code
def yX4_hours : MethodName := ⟨RX4, "hours", "(I)I"⟩
abbrev cX4_personThen : ByteArray := prog_1_method_14_code
def yX4_personThen : MethodName := ⟨RX4, "personThen", "(III)I"⟩
abbrev cX4_letThen : ByteArray := prog_1_method_15_code
def yX4_letThen : MethodName := ⟨RX4, "letThen", "(I)I"⟩
abbrev cX4_comes : ByteArray := prog_1_method_16_code
def yX4_comes : MethodName := ⟨RX4, "comes", "(II)I"⟩
abbrev cX4_home : ByteArray := prog_1_method_17_code
def yX4_home : MethodName := ⟨RX4, "home", "(I)I"⟩
abbrev cX4_firstHourIn : ByteArray := prog_1_method_18_code
def yX4_firstHourIn : MethodName := ⟨RX4, "firstHourIn", "(II)I"⟩
abbrev cX4_firstHourAllHome : ByteArray := prog_1_method_19_code
def yX4_firstHourAllHome : MethodName := ⟨RX4, "firstHourAllHome", "()I"⟩
abbrev cX4_shutIn : ByteArray := prog_1_method_20_code
def yX4_shutIn : MethodName := ⟨RX4, "shutIn", "()I"⟩
abbrev cX4_stuck : ByteArray := prog_1_method_21_code
def yX4_stuck : MethodName := ⟨RX4, "stuck", "()I"⟩
abbrev cX4_way : ByteArray := prog_1_method_22_code
def yX4_way : MethodName := ⟨RX4, "way", "(III)I"⟩
abbrev cX4_round : ByteArray := prog_1_method_23_code
def yX4_round : MethodName := ⟨RX4, "round", "(I)I"⟩
abbrev cX4_reach : ByteArray := prog_1_method_24_code
def yX4_reach : MethodName := ⟨RX4, "reach", "(I)I"⟩
abbrev cX4_open : ByteArray := prog_1_method_25_code
def yX4_open : MethodName := ⟨RX4, "open", "()I"⟩
abbrev cX4_helper : ByteArray := prog_1_method_26_code
def yX4_helper : MethodName := ⟨RX4, "helper", "(II)I"⟩
abbrev cX4_homeWithHelper : ByteArray := prog_1_method_27_code
def yX4_homeWithHelper : MethodName := ⟨RX4, "homeWithHelper", "(II)I"⟩
abbrev cX4_fewest : ByteArray := prog_1_method_28_code
def yX4_fewest : MethodName := ⟨RX4, "fewest", "(II)I"⟩
abbrev cX4_isHomeWhileStay : ByteArray := prog_1_method_29_code
def yX4_isHomeWhileStay : MethodName := ⟨RX4, "isHomeWhileStay", "(III)Z"⟩
abbrev cX4_turn : ByteArray := prog_1_method_30_code
def yX4_turn : MethodName := ⟨RX4, "turn", "(I)I"⟩
abbrev cX4_wedge : ByteArray := prog_1_method_31_code
def yX4_wedge : MethodName := ⟨RX4, "wedge", "(I)I"⟩
abbrev cX4_doorToChange : ByteArray := prog_1_method_32_code
def yX4_doorToChange : MethodName := ⟨RX4, "doorToChange", "(IZ)I"⟩
abbrev cX4_holds : ByteArray := prog_1_method_33_code
def yX4_holds : MethodName := ⟨RX4, "holds", "(II)I"⟩
abbrev cX4_crowd : ByteArray := prog_1_method_34_code
def yX4_crowd : MethodName := ⟨RX4, "crowd", "(I)I"⟩
abbrev cX4_crowdedRoom : ByteArray := prog_1_method_35_code
def yX4_crowdedRoom : MethodName := ⟨RX4, "crowdedRoom", "()I"⟩
abbrev cX4_emptyRooms : ByteArray := prog_1_method_36_code
def yX4_emptyRooms : MethodName := ⟨RX4, "emptyRooms", "()I"⟩
abbrev cX4_deadRooms : ByteArray := prog_1_method_37_code
def yX4_deadRooms : MethodName := ⟨RX4, "deadRooms", "()I"⟩
abbrev cX4_handles : ByteArray := prog_1_method_38_code
def yX4_handles : MethodName := ⟨RX4, "handles", "(I)I"⟩
abbrev cX4_meet : ByteArray := prog_1_method_39_code
def yX4_meet : MethodName := ⟨RX4, "meet", "(I)I"⟩
abbrev cX4_waysOfAllTo : ByteArray := prog_1_method_40_code
def yX4_waysOfAllTo : MethodName := ⟨RX4, "waysOfAllTo", "(I)I"⟩
abbrev cX4_two : ByteArray := prog_1_method_41_code
def yX4_two : MethodName := ⟨RX4, "two", "(III)I"⟩
abbrev cX4_tryPair : ByteArray := prog_1_method_42_code
def yX4_tryPair : MethodName := ⟨RX4, "tryPair", "(IIII)V"⟩
abbrev cX4_gainOf : ByteArray := prog_1_method_43_code
def yX4_gainOf : MethodName := ⟨RX4, "gainOf", "(I)I"⟩
abbrev cX4_fire : ByteArray := prog_1_method_44_code
def yX4_fire : MethodName := ⟨RX4, "fire", "(IIIII)J"⟩
abbrev cX4_isInBehindFires : ByteArray := prog_1_method_45_code
def yX4_isInBehindFires : MethodName := ⟨RX4, "isInBehindFires", "(IIII)Z"⟩
abbrev cX4_mean : ByteArray := prog_1_method_46_code
def yX4_mean : MethodName := ⟨RX4, "mean", "(I)J"⟩
abbrev cX4_whatIs : ByteArray := prog_1_method_47_code
def yX4_whatIs : MethodName := ⟨RX4, "whatIs", "(III)I"⟩
abbrev cX4_kindsByRow : ByteArray := prog_1_method_48_code
def yX4_kindsByRow : MethodName := ⟨RX4, "kindsByRow", "(II)I"⟩
abbrev cX4_goalsByRow : ByteArray := prog_1_method_49_code
def yX4_goalsByRow : MethodName := ⟨RX4, "goalsByRow", "(I)I"⟩
abbrev cX4_isMindAsRow : ByteArray := prog_1_method_50_code
def yX4_isMindAsRow : MethodName := ⟨RX4, "isMindAsRow", "(I)Z"⟩
abbrev cX4_row : ByteArray := prog_1_method_51_code
def yX4_row : MethodName := ⟨RX4, "row", "(I)I"⟩
abbrev cX4_judge : ByteArray := prog_1_method_52_code
def yX4_judge : MethodName := ⟨RX4, "judge", "()I"⟩
abbrev cX4_clear : ByteArray := prog_1_method_53_code
def yX4_clear : MethodName := ⟨RX4, "clear", "()I"⟩
abbrev cX4_lots : ByteArray := prog_1_method_54_code
def yX4_lots : MethodName := ⟨RX4, "lots", "(III)I"⟩
abbrev cX4_placeByLot : ByteArray := prog_1_method_55_code
def yX4_placeByLot : MethodName := ⟨RX4, "placeByLot", "(I)I"⟩
abbrev cX4_nextSeed : ByteArray := prog_1_method_56_code
def yX4_nextSeed : MethodName := ⟨RX4, "nextSeed", "(I)I"⟩
abbrev cX4_draw : ByteArray := prog_1_method_57_code
def yX4_draw : MethodName := ⟨RX4, "draw", "(I)I"⟩
abbrev cX4_image : ByteArray := prog_1_method_58_code
def yX4_image : MethodName := ⟨RX4, "image", "()I"⟩
abbrev cX4_on : ByteArray := prog_1_method_59_code
def yX4_on : MethodName := ⟨RX4, "on", "()I"⟩
abbrev cX4_count : ByteArray := prog_1_method_60_code
def yX4_count : MethodName := ⟨RX4, "count", "(I)I"⟩
abbrev cX4_refused : ByteArray := prog_1_method_61_code
def yX4_refused : MethodName := ⟨RX4, "refused", "(I)I"⟩
abbrev cX4_refusedNumber : ByteArray := prog_1_method_62_code
def yX4_refusedNumber : MethodName := ⟨RX4, "refusedNumber", "(I)I"⟩
abbrev cX4_refusedLong : ByteArray := prog_1_method_63_code
def yX4_refusedLong : MethodName := ⟨RX4, "refusedLong", "(I)J"⟩
abbrev cX4_at : ByteArray := prog_1_method_64_code
def yX4_at : MethodName := ⟨RX4, "at", "([II)I"⟩
abbrev cX4_put : ByteArray := prog_1_method_65_code
def yX4_put : MethodName := ⟨RX4, "put", "([III)V"⟩
abbrev cX4_exchange : ByteArray := prog_1_method_66_code
def yX4_exchange : MethodName := ⟨RX4, "exchange", "([III)I"⟩
abbrev cX4_bitsOf : ByteArray := prog_1_method_67_code
def yX4_bitsOf : MethodName := ⟨RX4, "bitsOf", "([III)I"⟩
abbrev cX4_copy : ByteArray := prog_1_method_68_code
def yX4_copy : MethodName := ⟨RX4, "copy", "([I[I)V"⟩
abbrev cX4_isRoom : ByteArray := prog_1_method_69_code
def yX4_isRoom : MethodName := ⟨RX4, "isRoom", "(I)Z"⟩
abbrev cX4_isHalf : ByteArray := prog_1_method_70_code
def yX4_isHalf : MethodName := ⟨RX4, "isHalf", "(I)Z"⟩
abbrev cX4_hasBit : ByteArray := prog_1_method_71_code
def yX4_hasBit : MethodName := ⟨RX4, "hasBit", "(II)Z"⟩
abbrev cX4_toldWay : ByteArray := prog_1_method_72_code
def yX4_toldWay : MethodName := ⟨RX4, "toldWay", "(I)I"⟩
abbrev cX4_power : ByteArray := prog_1_method_73_code
def yX4_power : MethodName := ⟨RX4, "power", "(II)J"⟩
abbrev cX4_partOf : ByteArray := prog_1_method_74_code
def yX4_partOf : MethodName := ⟨RX4, "partOf", "(JJI)J"⟩
abbrev cX4_commonDivisor : ByteArray := prog_1_method_75_code
def yX4_commonDivisor : MethodName := ⟨RX4, "commonDivisor", "(JJ)J"⟩
def RX5 : String := "DoorsOneSideModel"
def TX5 : u_T := fun k => match k with
  | 0 => ("DoorsOneSideModel", "s", "[I", true)
  | 1 => ("DoorsOneSideModel", "m", "[I", true)
  | 2 => ("DoorsOneSideModel", "image", "[I", true)
  | 3 => ("DoorsOneSideModel", "was", "[I", true)
  | 4 => ("DoorsOneSideModel", "far", "[I", true)
  | 5 => ("DoorsOneSideModel", "hasImage", "Z", false)
  | 6 => ("DoorsOneSideModel", "letters", "[I", true)
  | 7 => ("DoorsOneSideModel", "row", "[I", true)
  | 8 => ("DoorsOneSideModel", "refused", "[I", true)
  | 9 => ("DoorsOneSideModel", "letterMany", "I", false)
  | 10 => ("DoorsOneSideModel", "rowMany", "I", false)
  | 11 => ("DoorsOneSideModel", "place", "I", false)
  | 12 => ("DoorsOneSideModel", "numbers", "[I", true)
  | _ => ("DoorsOneSideModel", "seed", "I", false)
def tyX5 : Nat → FieldType := fun k => match k with
  | 0 => .array .int
  | 1 => .array .int
  | 2 => .array .int
  | 3 => .array .int
  | 4 => .array .int
  | 5 => .boolean
  | 6 => .array .int
  | 7 => .array .int
  | 8 => .array .int
  | 9 => .int
  | 10 => .int
  | 11 => .int
  | 12 => .array .int
  | _ => .int
abbrev wsX50 : List Cond := u_ws RX5 TX5 14
theorem nmX5 : ∀ a, a < 14 → ∀ b, b < 14 → a ≠ b → (TX5 a).2.1 ≠ (TX5 b).2.1 := by decide +kernel
theorem tyX5_ok : ∀ k, k < 14 → parseFieldDescriptor (TX5 k).2.2.1 = some (tyX5 k) := by decide +kernel
abbrev cX5_init : ByteArray := prog_7_method_1_code
def yX5_init : MethodName := ⟨RX5, "<init>", "()V"⟩
abbrev cX5_isIn : ByteArray := prog_7_method_2_code
def yX5_isIn : MethodName := ⟨RX5, "isIn", "(III)Z"⟩
abbrev cX5_least : ByteArray := prog_7_method_3_code
def yX5_least : MethodName := ⟨RX5, "least", "(II)I"⟩
abbrev cX5_copies : ByteArray := prog_7_method_4_code
def yX5_copies : MethodName := ⟨RX5, "copies", "([I[I)V"⟩
abbrev cX5_no : ByteArray := prog_7_method_5_code
def yX5_no : MethodName := ⟨RX5, "no", "(I)I"⟩
abbrev cX5_noWide : ByteArray := prog_7_method_6_code
def yX5_noWide : MethodName := ⟨RX5, "noWide", "(I)J"⟩
abbrev cX5_ofD : ByteArray := prog_7_method_7_code
def yX5_ofD : MethodName := ⟨RX5, "ofD", "(II)I"⟩
abbrev cX5_ofP : ByteArray := prog_7_method_8_code
def yX5_ofP : MethodName := ⟨RX5, "ofP", "(II)I"⟩
abbrev cX5_isDoor : ByteArray := prog_7_method_9_code
def yX5_isDoor : MethodName := ⟨RX5, "isDoor", "(I)Z"⟩
abbrev cX5_isPerson : ByteArray := prog_7_method_10_code
def yX5_isPerson : MethodName := ⟨RX5, "isPerson", "(I)Z"⟩
abbrev cX5_isRoom : ByteArray := prog_7_method_11_code
def yX5_isRoom : MethodName := ⟨RX5, "isRoom", "(I)Z"⟩
abbrev cX5_has : ByteArray := prog_7_method_12_code
def yX5_has : MethodName := ⟨RX5, "has", "(II)Z"⟩
abbrev cX5_bits : ByteArray := prog_7_method_13_code
def yX5_bits : MethodName := ⟨RX5, "bits", "(I)I"⟩
abbrev cX5_opensBy : ByteArray := prog_7_method_14_code
def yX5_opensBy : MethodName := ⟨RX5, "opensBy", "(IIIII)Z"⟩
abbrev cX5_isThere : ByteArray := prog_7_method_15_code
def yX5_isThere : MethodName := ⟨RX5, "isThere", "([III)Z"⟩
abbrev cX5_opens : ByteArray := prog_7_method_16_code
def yX5_opens : MethodName := ⟨RX5, "opens", "([IIII)Z"⟩
abbrev cX5_measures : ByteArray := prog_7_method_17_code
def yX5_measures : MethodName := ⟨RX5, "measures", "([I)V"⟩
abbrev cX5_wayOf : ByteArray := prog_7_method_18_code
def yX5_wayOf : MethodName := ⟨RX5, "wayOf", "(II)I"⟩
abbrev cX5_isOnWay : ByteArray := prog_7_method_19_code
def yX5_isOnWay : MethodName := ⟨RX5, "isOnWay", "([IIII)Z"⟩
abbrev cX5_doorOf : ByteArray := prog_7_method_20_code
def yX5_doorOf : MethodName := ⟨RX5, "doorOf", "([III)I"⟩
abbrev cX5_hour : ByteArray := prog_7_method_21_code
def yX5_hour : MethodName := ⟨RX5, "hour", "([I)V"⟩
abbrev cX5_hoursOn : ByteArray := prog_7_method_22_code
def yX5_hoursOn : MethodName := ⟨RX5, "hoursOn", "([II)V"⟩
abbrev cX5_homeIn : ByteArray := prog_7_method_23_code
def yX5_homeIn : MethodName := ⟨RX5, "homeIn", "([I)I"⟩
abbrev cX5_letter : ByteArray := prog_7_method_24_code
def yX5_letter : MethodName := ⟨RX5, "letter", "(I)I"⟩
abbrev cX5_here : ByteArray := prog_7_method_25_code
def yX5_here : MethodName := ⟨RX5, "here", "()I"⟩
abbrev cX5_readsNumber : ByteArray := prog_7_method_26_code
def yX5_readsNumber : MethodName := ⟨RX5, "readsNumber", "(II)Z"⟩
abbrev cX5_kindBy : ByteArray := prog_7_method_27_code
def yX5_kindBy : MethodName := ⟨RX5, "kindBy", "(I)I"⟩
abbrev cX5_readsKind : ByteArray := prog_7_method_28_code
def yX5_readsKind : MethodName := ⟨RX5, "readsKind", "()Z"⟩
abbrev cX5_readsStatement : ByteArray := prog_7_method_29_code
def yX5_readsStatement : MethodName := ⟨RX5, "readsStatement", "()Z"⟩
abbrev cX5_addsDoor : ByteArray := prog_7_method_30_code
def yX5_addsDoor : MethodName := ⟨RX5, "addsDoor", "()Z"⟩
abbrev cX5_adds : ByteArray := prog_7_method_31_code
def yX5_adds : MethodName := ⟨RX5, "adds", "([IIII)V"⟩
abbrev cX5_turnsIn : ByteArray := prog_7_method_32_code
def yX5_turnsIn : MethodName := ⟨RX5, "turnsIn", "([II)V"⟩
abbrev cX5_isDone : ByteArray := prog_7_method_33_code
def yX5_isDone : MethodName := ⟨RX5, "isDone", "(I)Z"⟩
abbrev cX5_town : ByteArray := prog_7_method_34_code
def yX5_town : MethodName := ⟨RX5, "town", "()I"⟩
abbrev cX5_door : ByteArray := prog_7_method_35_code
def yX5_door : MethodName := ⟨RX5, "door", "(II)I"⟩
abbrev cX5_person : ByteArray := prog_7_method_36_code
def yX5_person : MethodName := ⟨RX5, "person", "(II)I"⟩
abbrev cX5_wedges : ByteArray := prog_7_method_37_code
def yX5_wedges : MethodName := ⟨RX5, "wedges", "(I)I"⟩
abbrev cX5_turns : ByteArray := prog_7_method_38_code
def yX5_turns : MethodName := ⟨RX5, "turns", "(I)I"⟩
abbrev cX5_areWrong : ByteArray := prog_7_method_39_code
def yX5_areWrong : MethodName := ⟨RX5, "areWrong", "(II)Z"⟩
abbrev cX5_sets : ByteArray := prog_7_method_40_code
def yX5_sets : MethodName := ⟨RX5, "sets", "(III)I"⟩
abbrev cX5_stands : ByteArray := prog_7_method_41_code
def yX5_stands : MethodName := ⟨RX5, "stands", "(II)I"⟩
abbrev cX5_wants : ByteArray := prog_7_method_42_code
def yX5_wants : MethodName := ⟨RX5, "wants", "(II)I"⟩
abbrev cX5_wrongBy : ByteArray := prog_7_method_43_code
def yX5_wrongBy : MethodName := ⟨RX5, "wrongBy", "(III)I"⟩
abbrev cX5_moods : ByteArray := prog_7_method_44_code
def yX5_moods : MethodName := ⟨RX5, "moods", "(II)I"⟩
abbrev cX5_changes : ByteArray := prog_7_method_45_code
def yX5_changes : MethodName := ⟨RX5, "changes", "(III)I"⟩
abbrev cX5_hours : ByteArray := prog_7_method_46_code
def yX5_hours : MethodName := ⟨RX5, "hours", "(I)I"⟩
abbrev cX5_takes : ByteArray := prog_7_method_47_code
def yX5_takes : MethodName := ⟨RX5, "takes", "(I)V"⟩
abbrev cX5_personThen : ByteArray := prog_7_method_48_code
def yX5_personThen : MethodName := ⟨RX5, "personThen", "(III)I"⟩
abbrev cX5_letThen : ByteArray := prog_7_method_49_code
def yX5_letThen : MethodName := ⟨RX5, "letThen", "(I)I"⟩
abbrev cX5_comesTo : ByteArray := prog_7_method_50_code
def yX5_comesTo : MethodName := ⟨RX5, "comesTo", "(II)I"⟩
abbrev cX5_comes : ByteArray := prog_7_method_51_code
def yX5_comes : MethodName := ⟨RX5, "comes", "(II)I"⟩
abbrev cX5_allHome : ByteArray := prog_7_method_52_code
def yX5_allHome : MethodName := ⟨RX5, "allHome", "()I"⟩
abbrev cX5_home : ByteArray := prog_7_method_53_code
def yX5_home : MethodName := ⟨RX5, "home", "(I)I"⟩
abbrev cX5_shutIn : ByteArray := prog_7_method_54_code
def yX5_shutIn : MethodName := ⟨RX5, "shutIn", "()I"⟩
abbrev cX5_isStill : ByteArray := prog_7_method_55_code
def yX5_isStill : MethodName := ⟨RX5, "isStill", "(I)Z"⟩
abbrev cX5_whereIn : ByteArray := prog_7_method_56_code
def yX5_whereIn : MethodName := ⟨RX5, "whereIn", "([I)I"⟩
abbrev cX5_stuck : ByteArray := prog_7_method_57_code
def yX5_stuck : MethodName := ⟨RX5, "stuck", "()I"⟩
abbrev cX5_way : ByteArray := prog_7_method_58_code
def yX5_way : MethodName := ⟨RX5, "way", "(III)I"⟩
abbrev cX5_round : ByteArray := prog_7_method_59_code
def yX5_round : MethodName := ⟨RX5, "round", "(I)I"⟩
abbrev cX5_reach : ByteArray := prog_7_method_60_code
def yX5_reach : MethodName := ⟨RX5, "reach", "(I)I"⟩
abbrev cX5_open : ByteArray := prog_7_method_61_code
def yX5_open : MethodName := ⟨RX5, "open", "()I"⟩
abbrev cX5_helper : ByteArray := prog_7_method_62_code
def yX5_helper : MethodName := ⟨RX5, "helper", "(II)I"⟩
abbrev cX5_fewest : ByteArray := prog_7_method_63_code
def yX5_fewest : MethodName := ⟨RX5, "fewest", "(II)I"⟩
abbrev cX5_bestDoor : ByteArray := prog_7_method_64_code
def yX5_bestDoor : MethodName := ⟨RX5, "bestDoor", "(IZ)I"⟩
abbrev cX5_turn : ByteArray := prog_7_method_65_code
def yX5_turn : MethodName := ⟨RX5, "turn", "(I)I"⟩
abbrev cX5_wedge : ByteArray := prog_7_method_66_code
def yX5_wedge : MethodName := ⟨RX5, "wedge", "(I)I"⟩
abbrev cX5_holds : ByteArray := prog_7_method_67_code
def yX5_holds : MethodName := ⟨RX5, "holds", "(II)I"⟩
abbrev cX5_manyIn : ByteArray := prog_7_method_68_code
def yX5_manyIn : MethodName := ⟨RX5, "manyIn", "(I)I"⟩
abbrev cX5_doorsBy : ByteArray := prog_7_method_69_code
def yX5_doorsBy : MethodName := ⟨RX5, "doorsBy", "(II)I"⟩
abbrev cX5_crowd : ByteArray := prog_7_method_70_code
def yX5_crowd : MethodName := ⟨RX5, "crowd", "(I)I"⟩
abbrev cX5_handles : ByteArray := prog_7_method_71_code
def yX5_handles : MethodName := ⟨RX5, "handles", "(I)I"⟩
abbrev cX5_meet : ByteArray := prog_7_method_72_code
def yX5_meet : MethodName := ⟨RX5, "meet", "(I)I"⟩
abbrev cX5_hasBy : ByteArray := prog_7_method_73_code
def yX5_hasBy : MethodName := ⟨RX5, "hasBy", "(IIIIII)I"⟩
abbrev cX5_two : ByteArray := prog_7_method_74_code
def yX5_two : MethodName := ⟨RX5, "two", "(III)I"⟩
abbrev cX5_gcd : ByteArray := prog_7_method_75_code
def yX5_gcd : MethodName := ⟨RX5, "gcd", "(JJ)J"⟩
abbrev cX5_partOf : ByteArray := prog_7_method_76_code
def yX5_partOf : MethodName := ⟨RX5, "partOf", "(JJI)J"⟩
abbrev cX5_hourBy : ByteArray := prog_7_method_77_code
def yX5_hourBy : MethodName := ⟨RX5, "hourBy", "(Z)V"⟩
abbrev cX5_fire : ByteArray := prog_7_method_78_code
def yX5_fire : MethodName := ⟨RX5, "fire", "(IIIII)J"⟩
abbrev cX5_allMoods : ByteArray := prog_7_method_79_code
def yX5_allMoods : MethodName := ⟨RX5, "allMoods", "()I"⟩
abbrev cX5_mean : ByteArray := prog_7_method_80_code
def yX5_mean : MethodName := ⟨RX5, "mean", "(I)J"⟩
abbrev cX5_whatIs : ByteArray := prog_7_method_81_code
def yX5_whatIs : MethodName := ⟨RX5, "whatIs", "(III)I"⟩
abbrev cX5_row : ByteArray := prog_7_method_82_code
def yX5_row : MethodName := ⟨RX5, "row", "(I)I"⟩
abbrev cX5_judge : ByteArray := prog_7_method_83_code
def yX5_judge : MethodName := ⟨RX5, "judge", "()I"⟩
abbrev cX5_clear : ByteArray := prog_7_method_84_code
def yX5_clear : MethodName := ⟨RX5, "clear", "()I"⟩
abbrev cX5_drawn : ByteArray := prog_7_method_85_code
def yX5_drawn : MethodName := ⟨RX5, "drawn", "(I)I"⟩
abbrev cX5_lots : ByteArray := prog_7_method_86_code
def yX5_lots : MethodName := ⟨RX5, "lots", "(III)I"⟩
abbrev cX5_image : ByteArray := prog_7_method_87_code
def yX5_image : MethodName := ⟨RX5, "image", "()I"⟩
abbrev cX5_on : ByteArray := prog_7_method_88_code
def yX5_on : MethodName := ⟨RX5, "on", "()I"⟩
abbrev cX5_count : ByteArray := prog_7_method_89_code
def yX5_count : MethodName := ⟨RX5, "count", "(I)I"⟩
def RJ6 : String := "java/lang/Integer"
def TJ6 : u_T := fun k => match k with
  | _ => ("", "", "", false)
def tyJ6 : Nat → FieldType := fun k => match k with
  | _ => .int
abbrev wsJ60 : List Cond := u_ws RJ6 TJ6 0
theorem nmJ6 : ∀ a, a < 0 → ∀ b, b < 0 → a ≠ b → (TJ6 a).2.1 ≠ (TJ6 b).2.1 := by decide +kernel
theorem tyJ6_ok : ∀ k, k < 0 → parseFieldDescriptor (TJ6 k).2.2.1 = some (tyJ6 k) := by decide +kernel
abbrev cJ6_bitCount_0f7a4 : ByteArray := prog_8_method_49_code
def yJ6_bitCount_0f7a4 : MethodName := ⟨RJ6, "bitCount", "(I)I"⟩
def RJ9 : String := "java/lang/Math"
def TJ9 : u_T := fun k => match k with
  | _ => ("", "", "", false)
def tyJ9 : Nat → FieldType := fun k => match k with
  | _ => .int
abbrev wsJ90 : List Cond := u_ws RJ9 TJ9 0
theorem nmJ9 : ∀ a, a < 0 → ∀ b, b < 0 → a ≠ b → (TJ9 a).2.1 ≠ (TJ9 b).2.1 := by decide +kernel
theorem tyJ9_ok : ∀ k, k < 0 → parseFieldDescriptor (TJ9 k).2.2.1 = some (tyJ9 k) := by decide +kernel
abbrev cJ9_max_7cf53 : ByteArray := prog_9_method_65_code
def yJ9_max_7cf53 : MethodName := ⟨RJ9, "max", "(II)I"⟩
abbrev cJ9_min_7cf53 : ByteArray := prog_9_method_69_code
def yJ9_min_7cf53 : MethodName := ⟨RJ9, "min", "(II)I"⟩
def RJ10 : String := "java/lang/System"
def TJ10 : u_T := fun k => match k with
  | _ => ("", "", "", false)
def tyJ10 : Nat → FieldType := fun k => match k with
  | _ => .int
abbrev wsJ100 : List Cond := u_ws RJ10 TJ10 0
theorem nmJ10 : ∀ a, a < 0 → ∀ b, b < 0 → a ≠ b → (TJ10 a).2.1 ≠ (TJ10 b).2.1 := by decide +kernel
theorem tyJ10_ok : ∀ k, k < 0 → parseFieldDescriptor (TJ10 k).2.2.1 = some (tyJ10 k) := by decide +kernel
def RL : String := "DoorsOneSideLaw"
abbrev cL_law : ByteArray := code
def yL_law : MethodName := ⟨RL, "law", "([I)Z"⟩
abbrev vwCl : List vw_C := [(RX0, TX0, 8), (RX1, TX1, 1), (RX2, TX2, 2), (RX3, TX3, 7), (RX4, TX4, 8), (RX5, TX5, 14)]
end
section
/-- the words that go with every contract: those of the tables that any call keeps -/
def GW : List Cond := lw_tbl.filter goodWord
def isNest : Cond → Bool
  | .methodLinkNest .. => true
  | _ => false
def NWl : List Cond := lw_tbl.filter isNest
theorem gw_of {w : Cond} (i : Nat) (h : lw_tbl[i]? = some w) (hg : goodWord w = true) : w ∈ GW := List.mem_filter.mpr ⟨List.mem_of_getElem? h, hg⟩
theorem nw_of {w : Cond} (i : Nat) (h : lw_tbl[i]? = some w) (hg : isNest w = true) : w ∈ NWl := List.mem_filter.mpr ⟨List.mem_of_getElem? h, hg⟩
theorem wd0 : Cond.selects RX0 yX0_measureWays yX0_measureWays ∈ GW := gw_of 0 (by decide +kernel) (by decide +kernel)
theorem wd1 : Cond.selects RX0 yX0_shortenWaysBy yX0_shortenWaysBy ∈ GW := gw_of 1 (by decide +kernel) (by decide +kernel)
theorem wd2 : Cond.selects RX0 yX0_findFirsts yX0_findFirsts ∈ GW := gw_of 2 (by decide +kernel) (by decide +kernel)
theorem wd3 : Cond.selects RX4 yX4_refused yX4_refused ∈ GW := gw_of 3 (by decide +kernel) (by decide +kernel)
theorem wd4 : Cond.selects RX1 yX1_fitsShape yX1_fitsShape ∈ GW := gw_of 4 (by decide +kernel) (by decide +kernel)
theorem wd5 : Cond.selects RX4 yX4_tellStatements yX4_tellStatements ∈ GW := gw_of 5 (by decide +kernel) (by decide +kernel)
theorem wd6 : Cond.selects RX1 yX1_digitAt yX1_digitAt ∈ GW := gw_of 6 (by decide +kernel) (by decide +kernel)
theorem wd7 : Cond.selects RX4 yX4_refusedNumber yX4_refusedNumber ∈ GW := gw_of 7 (by decide +kernel) (by decide +kernel)
theorem wd8 : Cond.selects RX4 yX4_firstHourIn yX4_firstHourIn ∈ GW := gw_of 8 (by decide +kernel) (by decide +kernel)
theorem wd9 : Cond.selects RX4 yX4_firstHourAllHome yX4_firstHourAllHome ∈ GW := gw_of 9 (by decide +kernel) (by decide +kernel)
theorem wd10 : Cond.selects RX4 yX4_homeWithHelper yX4_homeWithHelper ∈ GW := gw_of 10 (by decide +kernel) (by decide +kernel)
theorem wd11 : Cond.selects RX4 yX4_isHomeWhileStay yX4_isHomeWhileStay ∈ GW := gw_of 11 (by decide +kernel) (by decide +kernel)
theorem wd12 : Cond.selects RX4 yX4_doorToChange yX4_doorToChange ∈ GW := gw_of 12 (by decide +kernel) (by decide +kernel)
theorem wd13 : Cond.selects RX4 yX4_crowdedRoom yX4_crowdedRoom ∈ GW := gw_of 13 (by decide +kernel) (by decide +kernel)
theorem wd14 : Cond.selects RX4 yX4_emptyRooms yX4_emptyRooms ∈ GW := gw_of 14 (by decide +kernel) (by decide +kernel)
theorem wd15 : Cond.selects RX4 yX4_deadRooms yX4_deadRooms ∈ GW := gw_of 15 (by decide +kernel) (by decide +kernel)
theorem wd16 : Cond.selects RX4 yX4_waysOfAllTo yX4_waysOfAllTo ∈ GW := gw_of 16 (by decide +kernel) (by decide +kernel)
theorem wd17 : Cond.selects RX4 yX4_tryPair yX4_tryPair ∈ GW := gw_of 17 (by decide +kernel) (by decide +kernel)
theorem wd18 : Cond.selects RX4 yX4_gainOf yX4_gainOf ∈ GW := gw_of 18 (by decide +kernel) (by decide +kernel)
theorem wd19 : Cond.selects RX4 yX4_refusedLong yX4_refusedLong ∈ GW := gw_of 19 (by decide +kernel) (by decide +kernel)
theorem wd20 : Cond.selects RX4 yX4_isInBehindFires yX4_isInBehindFires ∈ GW := gw_of 20 (by decide +kernel) (by decide +kernel)
theorem wd21 : Cond.selects RX4 yX4_kindsByRow yX4_kindsByRow ∈ GW := gw_of 21 (by decide +kernel) (by decide +kernel)
theorem wd22 : Cond.selects RX4 yX4_isMindAsRow yX4_isMindAsRow ∈ GW := gw_of 22 (by decide +kernel) (by decide +kernel)
theorem wd23 : Cond.selects RX4 yX4_goalsByRow yX4_goalsByRow ∈ GW := gw_of 23 (by decide +kernel) (by decide +kernel)
theorem wd24 : Cond.selects RX4 yX4_placeByLot yX4_placeByLot ∈ GW := gw_of 24 (by decide +kernel) (by decide +kernel)
theorem wd25 : Cond.selects RX5 yX5_no yX5_no ∈ GW := gw_of 25 (by decide +kernel) (by decide +kernel)
theorem wd26 : Cond.selects RX5 yX5_readsStatement yX5_readsStatement ∈ GW := gw_of 26 (by decide +kernel) (by decide +kernel)
theorem wd27 : Cond.selects RX5 yX5_here yX5_here ∈ GW := gw_of 27 (by decide +kernel) (by decide +kernel)
theorem wd28 : Cond.selects RX5 yX5_readsKind yX5_readsKind ∈ GW := gw_of 28 (by decide +kernel) (by decide +kernel)
theorem wd29 : Cond.selects RX5 yX5_readsNumber yX5_readsNumber ∈ GW := gw_of 29 (by decide +kernel) (by decide +kernel)
theorem wd30 : Cond.selects RX5 yX5_isDone yX5_isDone ∈ GW := gw_of 30 (by decide +kernel) (by decide +kernel)
theorem wd31 : Cond.selects RX5 yX5_addsDoor yX5_addsDoor ∈ GW := gw_of 31 (by decide +kernel) (by decide +kernel)
theorem wd32 : Cond.selects RX5 yX5_isPerson yX5_isPerson ∈ GW := gw_of 32 (by decide +kernel) (by decide +kernel)
theorem wd33 : Cond.selects RX5 yX5_isDoor yX5_isDoor ∈ GW := gw_of 33 (by decide +kernel) (by decide +kernel)
theorem wd34 : Cond.selects RX5 yX5_hoursOn yX5_hoursOn ∈ GW := gw_of 34 (by decide +kernel) (by decide +kernel)
theorem wd35 : Cond.selects RX5 yX5_measures yX5_measures ∈ GW := gw_of 35 (by decide +kernel) (by decide +kernel)
theorem wd36 : Cond.selects RX5 yX5_hour yX5_hour ∈ GW := gw_of 36 (by decide +kernel) (by decide +kernel)
theorem wd37 : Cond.selects RX5 yX5_doorOf yX5_doorOf ∈ GW := gw_of 37 (by decide +kernel) (by decide +kernel)
theorem wd38 : Cond.selects RX5 yX5_isOnWay yX5_isOnWay ∈ GW := gw_of 38 (by decide +kernel) (by decide +kernel)
theorem wd39 : Cond.selects RX5 yX5_wayOf yX5_wayOf ∈ GW := gw_of 39 (by decide +kernel) (by decide +kernel)
theorem wd40 : Cond.selects RX5 yX5_sets yX5_sets ∈ GW := gw_of 40 (by decide +kernel) (by decide +kernel)
theorem wd41 : Cond.selects RX5 yX5_areWrong yX5_areWrong ∈ GW := gw_of 41 (by decide +kernel) (by decide +kernel)
theorem wd42 : Cond.selects RX5 yX5_takes yX5_takes ∈ GW := gw_of 42 (by decide +kernel) (by decide +kernel)
theorem wd43 : Cond.selects RX5 yX5_comesTo yX5_comesTo ∈ GW := gw_of 43 (by decide +kernel) (by decide +kernel)
theorem wd44 : Cond.selects RX5 yX5_allHome yX5_allHome ∈ GW := gw_of 44 (by decide +kernel) (by decide +kernel)
theorem wd45 : Cond.selects RX5 yX5_isStill yX5_isStill ∈ GW := gw_of 45 (by decide +kernel) (by decide +kernel)
theorem wd46 : Cond.selects RX5 yX5_bestDoor yX5_bestDoor ∈ GW := gw_of 46 (by decide +kernel) (by decide +kernel)
theorem wd47 : Cond.selects RX5 yX5_manyIn yX5_manyIn ∈ GW := gw_of 47 (by decide +kernel) (by decide +kernel)
theorem wd48 : Cond.selects RX5 yX5_doorsBy yX5_doorsBy ∈ GW := gw_of 48 (by decide +kernel) (by decide +kernel)
theorem wd49 : Cond.selects RX5 yX5_hasBy yX5_hasBy ∈ GW := gw_of 49 (by decide +kernel) (by decide +kernel)
theorem wd50 : Cond.selects RX5 yX5_noWide yX5_noWide ∈ GW := gw_of 50 (by decide +kernel) (by decide +kernel)
theorem wd51 : Cond.selects RX5 yX5_hourBy yX5_hourBy ∈ GW := gw_of 51 (by decide +kernel) (by decide +kernel)
theorem wd52 : Cond.selects RX5 yX5_allMoods yX5_allMoods ∈ GW := gw_of 52 (by decide +kernel) (by decide +kernel)
theorem wd53 : Cond.selects RX5 yX5_drawn yX5_drawn ∈ GW := gw_of 53 (by decide +kernel) (by decide +kernel)
theorem wd54 : Cond.initialized RL ∈ GW := gw_of 54 (by decide +kernel) (by decide +kernel)
theorem wd55 : Cond.initialized RX4 ∈ GW := gw_of 55 (by decide +kernel) (by decide +kernel)
theorem wd56 : Cond.initialized RX3 ∈ GW := gw_of 56 (by decide +kernel) (by decide +kernel)
theorem wd57 : Cond.initialized RX0 ∈ GW := gw_of 57 (by decide +kernel) (by decide +kernel)
theorem wd58 : Cond.initialized RX1 ∈ GW := gw_of 58 (by decide +kernel) (by decide +kernel)
theorem wd59 : Cond.initialized RX2 ∈ GW := gw_of 59 (by decide +kernel) (by decide +kernel)
theorem wd60 : Cond.initialized RJ9 ∈ GW := gw_of 60 (by decide +kernel) (by decide +kernel)
theorem wd61 : Cond.initialized RX5 ∈ GW := gw_of 61 (by decide +kernel) (by decide +kernel)
theorem wd62 : Cond.initialized RJ10 ∈ GW := gw_of 62 (by decide +kernel) (by decide +kernel)
theorem wd63 : Cond.initialized RJ6 ∈ GW := gw_of 63 (by decide +kernel) (by decide +kernel)
theorem wd64 : Cond.classLink RL 7 RX4 ∈ GW := gw_of 64 (by decide +kernel) (by decide +kernel)
theorem wd65 : Cond.instantiable RX4 8 ∈ GW := gw_of 65 (by decide +kernel) (by decide +kernel)
theorem wd66 : Cond.methodLink RL 9 yX4_init ∈ GW := gw_of 66 (by decide +kernel) (by decide +kernel)
theorem wd67 : Cond.instanceMethod yX4_init ∈ GW := gw_of 67 (by decide +kernel) (by decide +kernel)
theorem wd68 : Cond.code yX4_init cX4_init 1 none ∈ GW := gw_of 68 (by decide +kernel) (by decide +kernel)
theorem wd69 : Cond.methodLink RX4 1 objectInit ∈ GW := gw_of 69 (by decide +kernel) (by decide +kernel)
theorem wd70 : Cond.instanceMethod objectInit ∈ GW := gw_of 70 (by decide +kernel) (by decide +kernel)
theorem wd71 : Cond.code objectInit ⟨#[0xb1]⟩ 1 none ∈ GW := gw_of 71 (by decide +kernel) (by decide +kernel)
theorem wd72 : Cond.classLink RX4 7 RX3 ∈ GW := gw_of 72 (by decide +kernel) (by decide +kernel)
theorem wd73 : Cond.instantiable RX3 7 ∈ GW := gw_of 73 (by decide +kernel) (by decide +kernel)
theorem wd74 : Cond.methodLinkNest RX4 9 yX3_init RX4 ∈ NWl := nw_of 74 (by decide +kernel) rfl
theorem wd75 : Cond.instanceMethod yX3_init ∈ GW := gw_of 75 (by decide +kernel) (by decide +kernel)
theorem wd76 : Cond.code yX3_init cX3_init 1 none ∈ GW := gw_of 76 (by decide +kernel) (by decide +kernel)
theorem wd77 : Cond.methodLink RX3 3 objectInit ∈ GW := gw_of 77 (by decide +kernel) (by decide +kernel)
theorem wd78 : Cond.classLink RX3 9 RX0 ∈ GW := gw_of 78 (by decide +kernel) (by decide +kernel)
theorem wd79 : Cond.instantiable RX0 8 ∈ GW := gw_of 79 (by decide +kernel) (by decide +kernel)
theorem wd80 : Cond.methodLink RX3 11 yX0_init ∈ GW := gw_of 80 (by decide +kernel) (by decide +kernel)
theorem wd81 : Cond.instanceMethod yX0_init ∈ GW := gw_of 81 (by decide +kernel) (by decide +kernel)
theorem wd82 : Cond.code yX0_init cX0_init 1 none ∈ GW := gw_of 82 (by decide +kernel) (by decide +kernel)
theorem wd83 : Cond.methodLink RX0 3 objectInit ∈ GW := gw_of 83 (by decide +kernel) (by decide +kernel)
theorem wd84 : Cond.methodLink RX0 33 yX0_measureWays ∈ GW := gw_of 84 (by decide +kernel) (by decide +kernel)
theorem wd86 : Cond.instanceMethod yX0_measureWays ∈ GW := gw_of 86 (by decide +kernel) (by decide +kernel)
theorem wd87 : Cond.code yX0_measureWays cX0_measureWays 4 none ∈ GW := gw_of 87 (by decide +kernel) (by decide +kernel)
theorem wd88 : Cond.methodLinkNest RX0 48 yX4_put RX4 ∈ NWl := nw_of 88 (by decide +kernel) rfl
theorem wd89 : Cond.static yX4_put ∈ GW := gw_of 89 (by decide +kernel) (by decide +kernel)
theorem wd90 : Cond.code yX4_put cX4_put 3 none ∈ GW := gw_of 90 (by decide +kernel) (by decide +kernel)
theorem wd91 : Cond.methodLinkNest RX0 52 yX4_at RX4 ∈ NWl := nw_of 91 (by decide +kernel) rfl
theorem wd92 : Cond.static yX4_at ∈ GW := gw_of 92 (by decide +kernel) (by decide +kernel)
theorem wd93 : Cond.code yX4_at cX4_at 2 (some .int) ∈ GW := gw_of 93 (by decide +kernel) (by decide +kernel)
theorem wd94 : Cond.methodLink RX0 56 yX0_shortenWaysBy ∈ GW := gw_of 94 (by decide +kernel) (by decide +kernel)
theorem wd96 : Cond.instanceMethod yX0_shortenWaysBy ∈ GW := gw_of 96 (by decide +kernel) (by decide +kernel)
theorem wd97 : Cond.code yX0_shortenWaysBy cX0_shortenWaysBy 6 (some .boolean) ∈ GW := gw_of 97 (by decide +kernel) (by decide +kernel)
theorem wd98 : Cond.methodLink RX0 60 yX0_findFirsts ∈ GW := gw_of 98 (by decide +kernel) (by decide +kernel)
theorem wd100 : Cond.instanceMethod yX0_findFirsts ∈ GW := gw_of 100 (by decide +kernel) (by decide +kernel)
theorem wd101 : Cond.code yX0_findFirsts cX0_findFirsts 5 none ∈ GW := gw_of 101 (by decide +kernel) (by decide +kernel)
theorem wd102 : Cond.fieldLink RX0 9 RX0 "kinds" "[I" ∈ GW := gw_of 102 (by decide +kernel) (by decide +kernel)
theorem wd103 : Cond.fieldLink RX4 100 RX0 "kinds" "[I" ∈ GW := gw_of 103 (by decide +kernel) (by decide +kernel)
theorem wd104 : Cond.fieldLink RX0 15 RX0 "figures" "[I" ∈ GW := gw_of 104 (by decide +kernel) (by decide +kernel)
theorem wd105 : Cond.fieldLink RX4 107 RX0 "figures" "[I" ∈ GW := gw_of 105 (by decide +kernel) (by decide +kernel)
theorem wd106 : Cond.fieldLink RX0 18 RX0 "froms" "[I" ∈ GW := gw_of 106 (by decide +kernel) (by decide +kernel)
theorem wd107 : Cond.fieldLink RX4 110 RX0 "froms" "[I" ∈ GW := gw_of 107 (by decide +kernel) (by decide +kernel)
theorem wd108 : Cond.fieldLink RX0 21 RX0 "intos" "[I" ∈ GW := gw_of 108 (by decide +kernel) (by decide +kernel)
theorem wd109 : Cond.fieldLink RX4 113 RX0 "intos" "[I" ∈ GW := gw_of 109 (by decide +kernel) (by decide +kernel)
theorem wd110 : Cond.fieldLink RX3 62 RX0 "intos" "[I" ∈ GW := gw_of 110 (by decide +kernel) (by decide +kernel)
theorem wd111 : Cond.fieldLink RX0 24 RX0 "wedged" "[I" ∈ GW := gw_of 111 (by decide +kernel) (by decide +kernel)
theorem wd112 : Cond.fieldLink RX4 116 RX0 "wedged" "[I" ∈ GW := gw_of 112 (by decide +kernel) (by decide +kernel)
theorem wd113 : Cond.fieldLink RX3 88 RX0 "wedged" "[I" ∈ GW := gw_of 113 (by decide +kernel) (by decide +kernel)
theorem wd114 : Cond.fieldLink RX0 27 RX0 "ways" "[I" ∈ GW := gw_of 114 (by decide +kernel) (by decide +kernel)
theorem wd115 : Cond.fieldLink RX0 30 RX0 "firsts" "[I" ∈ GW := gw_of 115 (by decide +kernel) (by decide +kernel)
theorem wd116 : Cond.fieldLink RX0 40 RX0 "size" "I" ∈ GW := gw_of 116 (by decide +kernel) (by decide +kernel)
theorem wd117 : Cond.fieldLink RX3 80 RX0 "size" "I" ∈ GW := gw_of 117 (by decide +kernel) (by decide +kernel)
theorem wd118 : Cond.fieldLink RX4 181 RX0 "size" "I" ∈ GW := gw_of 118 (by decide +kernel) (by decide +kernel)
theorem wd119 : Cond.laysFinal RX0 RX0 "kinds" "[I" ∈ GW := gw_of 119 (by decide +kernel) (by decide +kernel)
theorem wd121 : Cond.laysFinal RX0 RX0 "figures" "[I" ∈ GW := gw_of 121 (by decide +kernel) (by decide +kernel)
theorem wd123 : Cond.laysFinal RX0 RX0 "froms" "[I" ∈ GW := gw_of 123 (by decide +kernel) (by decide +kernel)
theorem wd125 : Cond.laysFinal RX0 RX0 "intos" "[I" ∈ GW := gw_of 125 (by decide +kernel) (by decide +kernel)
theorem wd127 : Cond.laysFinal RX0 RX0 "wedged" "[I" ∈ GW := gw_of 127 (by decide +kernel) (by decide +kernel)
theorem wd129 : Cond.laysFinal RX0 RX0 "ways" "[I" ∈ GW := gw_of 129 (by decide +kernel) (by decide +kernel)
theorem wd131 : Cond.laysFinal RX0 RX0 "firsts" "[I" ∈ GW := gw_of 131 (by decide +kernel) (by decide +kernel)
theorem wd133 : Cond.lays RX0 RX0 "size" "I" ∈ GW := gw_of 133 (by decide +kernel) (by decide +kernel)
theorem wd136 : Cond.arrayClass .int ∈ GW := gw_of 136 (by decide +kernel) (by decide +kernel)
theorem wd137 : Cond.fieldLink RX3 12 RX3 "doors" "LDoorsOneSide$Doors;" ∈ GW := gw_of 137 (by decide +kernel) (by decide +kernel)
theorem wd138 : Cond.fieldLink RX4 90 RX3 "doors" "LDoorsOneSide$Doors;" ∈ GW := gw_of 138 (by decide +kernel) (by decide +kernel)
theorem wd139 : Cond.fieldLink RX1 46 RX3 "doors" "LDoorsOneSide$Doors;" ∈ GW := gw_of 139 (by decide +kernel) (by decide +kernel)
theorem wd140 : Cond.fieldLink RX3 18 RX3 "rooms" "[I" ∈ GW := gw_of 140 (by decide +kernel) (by decide +kernel)
theorem wd141 : Cond.fieldLink RX4 120 RX3 "rooms" "[I" ∈ GW := gw_of 141 (by decide +kernel) (by decide +kernel)
theorem wd142 : Cond.fieldLink RX1 69 RX3 "rooms" "[I" ∈ GW := gw_of 142 (by decide +kernel) (by decide +kernel)
theorem wd143 : Cond.fieldLink RX3 22 RX3 "goals" "[I" ∈ GW := gw_of 143 (by decide +kernel) (by decide +kernel)
theorem wd144 : Cond.fieldLink RX4 123 RX3 "goals" "[I" ∈ GW := gw_of 144 (by decide +kernel) (by decide +kernel)
theorem wd145 : Cond.fieldLink RX1 62 RX3 "goals" "[I" ∈ GW := gw_of 145 (by decide +kernel) (by decide +kernel)
theorem wd146 : Cond.fieldLink RX3 25 RX3 "moods" "[I" ∈ GW := gw_of 146 (by decide +kernel) (by decide +kernel)
theorem wd147 : Cond.fieldLink RX4 126 RX3 "moods" "[I" ∈ GW := gw_of 147 (by decide +kernel) (by decide +kernel)
theorem wd148 : Cond.fieldLink RX3 36 RX3 "size" "I" ∈ GW := gw_of 148 (by decide +kernel) (by decide +kernel)
theorem wd149 : Cond.fieldLink RX1 83 RX3 "size" "I" ∈ GW := gw_of 149 (by decide +kernel) (by decide +kernel)
theorem wd150 : Cond.fieldLink RX4 171 RX3 "size" "I" ∈ GW := gw_of 150 (by decide +kernel) (by decide +kernel)
theorem wd151 : Cond.fieldLink RX3 40 RX3 "hour" "I" ∈ GW := gw_of 151 (by decide +kernel) (by decide +kernel)
theorem wd152 : Cond.fieldLink RX4 129 RX3 "hour" "I" ∈ GW := gw_of 152 (by decide +kernel) (by decide +kernel)
theorem wd153 : Cond.fieldLink RX1 76 RX3 "hour" "I" ∈ GW := gw_of 153 (by decide +kernel) (by decide +kernel)
theorem wd154 : Cond.fieldLink RX3 43 RX3 "let" "I" ∈ GW := gw_of 154 (by decide +kernel) (by decide +kernel)
theorem wd155 : Cond.fieldLink RX4 162 RX3 "let" "I" ∈ GW := gw_of 155 (by decide +kernel) (by decide +kernel)
theorem wd156 : Cond.laysFinal RX3 RX3 "doors" "LDoorsOneSide$Doors;" ∈ GW := gw_of 156 (by decide +kernel) (by decide +kernel)
theorem wd158 : Cond.laysFinal RX3 RX3 "rooms" "[I" ∈ GW := gw_of 158 (by decide +kernel) (by decide +kernel)
theorem wd160 : Cond.laysFinal RX3 RX3 "goals" "[I" ∈ GW := gw_of 160 (by decide +kernel) (by decide +kernel)
theorem wd162 : Cond.laysFinal RX3 RX3 "moods" "[I" ∈ GW := gw_of 162 (by decide +kernel) (by decide +kernel)
theorem wd164 : Cond.lays RX3 RX3 "size" "I" ∈ GW := gw_of 164 (by decide +kernel) (by decide +kernel)
theorem wd166 : Cond.lays RX3 RX3 "hour" "I" ∈ GW := gw_of 166 (by decide +kernel) (by decide +kernel)
theorem wd168 : Cond.lays RX3 RX3 "let" "I" ∈ GW := gw_of 168 (by decide +kernel) (by decide +kernel)
theorem wd171 : Cond.classLink RX4 22 RX1 ∈ GW := gw_of 171 (by decide +kernel) (by decide +kernel)
theorem wd172 : Cond.instantiable RX1 1 ∈ GW := gw_of 172 (by decide +kernel) (by decide +kernel)
theorem wd173 : Cond.methodLinkNest RX4 24 yX1_init RX4 ∈ NWl := nw_of 173 (by decide +kernel) rfl
theorem wd174 : Cond.instanceMethod yX1_init ∈ GW := gw_of 174 (by decide +kernel) (by decide +kernel)
theorem wd175 : Cond.code yX1_init cX1_init 1 none ∈ GW := gw_of 175 (by decide +kernel) (by decide +kernel)
theorem wd176 : Cond.methodLink RX1 3 objectInit ∈ GW := gw_of 176 (by decide +kernel) (by decide +kernel)
theorem wd177 : Cond.classLink RX1 9 RX2 ∈ GW := gw_of 177 (by decide +kernel) (by decide +kernel)
theorem wd178 : Cond.instantiable RX2 2 ∈ GW := gw_of 178 (by decide +kernel) (by decide +kernel)
theorem wd179 : Cond.methodLink RX1 11 yX2_init ∈ GW := gw_of 179 (by decide +kernel) (by decide +kernel)
theorem wd180 : Cond.instanceMethod yX2_init ∈ GW := gw_of 180 (by decide +kernel) (by decide +kernel)
theorem wd181 : Cond.code yX2_init cX2_init 2 none ∈ GW := gw_of 181 (by decide +kernel) (by decide +kernel)
theorem wd182 : Cond.methodLink RX2 1 objectInit ∈ GW := gw_of 182 (by decide +kernel) (by decide +kernel)
theorem wd183 : Cond.methodLink RX2 7 Lib.Math.max.name ∈ GW := gw_of 183 (by decide +kernel) (by decide +kernel)
theorem wd184 : Cond.static Lib.Math.max.name ∈ GW := gw_of 184 (by decide +kernel) (by decide +kernel)
theorem wd185 : Cond.code Lib.Math.max.name Lib.Math.max.code 2 (some .int) ∈ GW := gw_of 185 (by decide +kernel) (by decide +kernel)
theorem wd186 : Cond.fieldLink RX2 13 RX2 "numbers" "[I" ∈ GW := gw_of 186 (by decide +kernel) (by decide +kernel)
theorem wd187 : Cond.fieldLink RX1 20 RX2 "numbers" "[I" ∈ GW := gw_of 187 (by decide +kernel) (by decide +kernel)
theorem wd188 : Cond.fieldLink RX4 277 RX2 "numbers" "[I" ∈ GW := gw_of 188 (by decide +kernel) (by decide +kernel)
theorem wd189 : Cond.fieldLink RX2 19 RX2 "size" "I" ∈ GW := gw_of 189 (by decide +kernel) (by decide +kernel)
theorem wd190 : Cond.fieldLink RX1 28 RX2 "size" "I" ∈ GW := gw_of 190 (by decide +kernel) (by decide +kernel)
theorem wd191 : Cond.fieldLink RX4 73 RX2 "size" "I" ∈ GW := gw_of 191 (by decide +kernel) (by decide +kernel)
theorem wd192 : Cond.laysFinal RX2 RX2 "numbers" "[I" ∈ GW := gw_of 192 (by decide +kernel) (by decide +kernel)
theorem wd194 : Cond.lays RX2 RX2 "size" "I" ∈ GW := gw_of 194 (by decide +kernel) (by decide +kernel)
theorem wd197 : Cond.fieldLink RX1 14 RX1 "signs" "LDoorsOneSide$Row;" ∈ GW := gw_of 197 (by decide +kernel) (by decide +kernel)
theorem wd198 : Cond.fieldLink RX4 49 RX1 "signs" "LDoorsOneSide$Row;" ∈ GW := gw_of 198 (by decide +kernel) (by decide +kernel)
theorem wd199 : Cond.laysFinal RX1 RX1 "signs" "LDoorsOneSide$Row;" ∈ GW := gw_of 199 (by decide +kernel) (by decide +kernel)
theorem wd202 : Cond.classLink RX4 29 RX2 ∈ GW := gw_of 202 (by decide +kernel) (by decide +kernel)
theorem wd203 : Cond.methodLink RX4 31 yX2_init ∈ GW := gw_of 203 (by decide +kernel) (by decide +kernel)
theorem wd204 : Cond.fieldLink RX4 10 RX4 "now" "LDoorsOneSide$Town;" ∈ GW := gw_of 204 (by decide +kernel) (by decide +kernel)
theorem wd205 : Cond.fieldLink RX4 16 RX4 "mind" "LDoorsOneSide$Town;" ∈ GW := gw_of 205 (by decide +kernel) (by decide +kernel)
theorem wd206 : Cond.fieldLink RX4 19 RX4 "taken" "LDoorsOneSide$Town;" ∈ GW := gw_of 206 (by decide +kernel) (by decide +kernel)
theorem wd207 : Cond.fieldLink RX4 292 RX4 "imageTaken" "Z" ∈ GW := gw_of 207 (by decide +kernel) (by decide +kernel)
theorem wd208 : Cond.fieldLink RX4 25 RX4 "letters" "LDoorsOneSide$Letters;" ∈ GW := gw_of 208 (by decide +kernel) (by decide +kernel)
theorem wd209 : Cond.fieldLink RX4 34 RX4 "told" "LDoorsOneSide$Row;" ∈ GW := gw_of 209 (by decide +kernel) (by decide +kernel)
theorem wd210 : Cond.fieldLink RX4 38 RX4 "refusals" "[I" ∈ GW := gw_of 210 (by decide +kernel) (by decide +kernel)
theorem wd211 : Cond.fieldLink RX4 42 RX4 "gains" "[I" ∈ GW := gw_of 211 (by decide +kernel) (by decide +kernel)
theorem wd212 : Cond.laysFinal RX4 RX4 "now" "LDoorsOneSide$Town;" ∈ GW := gw_of 212 (by decide +kernel) (by decide +kernel)
theorem wd214 : Cond.laysFinal RX4 RX4 "mind" "LDoorsOneSide$Town;" ∈ GW := gw_of 214 (by decide +kernel) (by decide +kernel)
theorem wd216 : Cond.laysFinal RX4 RX4 "taken" "LDoorsOneSide$Town;" ∈ GW := gw_of 216 (by decide +kernel) (by decide +kernel)
theorem wd218 : Cond.lays RX4 RX4 "imageTaken" "Z" ∈ GW := gw_of 218 (by decide +kernel) (by decide +kernel)
theorem wd220 : Cond.laysFinal RX4 RX4 "letters" "LDoorsOneSide$Letters;" ∈ GW := gw_of 220 (by decide +kernel) (by decide +kernel)
theorem wd222 : Cond.laysFinal RX4 RX4 "told" "LDoorsOneSide$Row;" ∈ GW := gw_of 222 (by decide +kernel) (by decide +kernel)
theorem wd224 : Cond.laysFinal RX4 RX4 "refusals" "[I" ∈ GW := gw_of 224 (by decide +kernel) (by decide +kernel)
theorem wd226 : Cond.laysFinal RX4 RX4 "gains" "[I" ∈ GW := gw_of 226 (by decide +kernel) (by decide +kernel)
theorem wd229 : Cond.methodLink RL 13 yX4_letter ∈ GW := gw_of 229 (by decide +kernel) (by decide +kernel)
theorem wd230 : Cond.instanceMethod yX4_letter ∈ GW := gw_of 230 (by decide +kernel) (by decide +kernel)
theorem wd231 : Cond.selects RX4 yX4_letter yX4_letter ∈ GW := gw_of 231 (by decide +kernel) (by decide +kernel)
theorem wd232 : Cond.code yX4_letter cX4_letter 2 (some .int) ∈ GW := gw_of 232 (by decide +kernel) (by decide +kernel)
theorem wd233 : Cond.methodLink RX4 45 yX4_refused ∈ GW := gw_of 233 (by decide +kernel) (by decide +kernel)
theorem wd235 : Cond.instanceMethod yX4_refused ∈ GW := gw_of 235 (by decide +kernel) (by decide +kernel)
theorem wd236 : Cond.code yX4_refused cX4_refused 2 (some .int) ∈ GW := gw_of 236 (by decide +kernel) (by decide +kernel)
theorem wd237 : Cond.methodLink RX4 103 yX4_at ∈ GW := gw_of 237 (by decide +kernel) (by decide +kernel)
theorem wd238 : Cond.methodLink RX4 217 yX4_put ∈ GW := gw_of 238 (by decide +kernel) (by decide +kernel)
theorem wd239 : Cond.methodLink RX4 52 yX2_isFull ∈ GW := gw_of 239 (by decide +kernel) (by decide +kernel)
theorem wd240 : Cond.instanceMethod yX2_isFull ∈ GW := gw_of 240 (by decide +kernel) (by decide +kernel)
theorem wd241 : Cond.selects RX2 yX2_isFull yX2_isFull ∈ GW := gw_of 241 (by decide +kernel) (by decide +kernel)
theorem wd242 : Cond.code yX2_isFull cX2_isFull 1 (some .boolean) ∈ GW := gw_of 242 (by decide +kernel) (by decide +kernel)
theorem wd243 : Cond.methodLink RX4 56 yX2_add ∈ GW := gw_of 243 (by decide +kernel) (by decide +kernel)
theorem wd244 : Cond.instanceMethod yX2_add ∈ GW := gw_of 244 (by decide +kernel) (by decide +kernel)
theorem wd245 : Cond.selects RX2 yX2_add yX2_add ∈ GW := gw_of 245 (by decide +kernel) (by decide +kernel)
theorem wd246 : Cond.code yX2_add cX2_add 2 (some .int) ∈ GW := gw_of 246 (by decide +kernel) (by decide +kernel)
theorem wd247 : Cond.methodLink RX2 23 yX2_isFull ∈ GW := gw_of 247 (by decide +kernel) (by decide +kernel)
theorem wd248 : Cond.methodLinkNest RX2 27 yX4_put RX4 ∈ NWl := nw_of 248 (by decide +kernel) rfl
theorem wd249 : Cond.methodLink RL 18 yX4_town ∈ GW := gw_of 249 (by decide +kernel) (by decide +kernel)
theorem wd250 : Cond.instanceMethod yX4_town ∈ GW := gw_of 250 (by decide +kernel) (by decide +kernel)
theorem wd251 : Cond.selects RX4 yX4_town yX4_town ∈ GW := gw_of 251 (by decide +kernel) (by decide +kernel)
theorem wd252 : Cond.code yX4_town cX4_town 3 (some .int) ∈ GW := gw_of 252 (by decide +kernel) (by decide +kernel)
theorem wd253 : Cond.methodLink RX4 59 yX1_shapeFault ∈ GW := gw_of 253 (by decide +kernel) (by decide +kernel)
theorem wd254 : Cond.instanceMethod yX1_shapeFault ∈ GW := gw_of 254 (by decide +kernel) (by decide +kernel)
theorem wd255 : Cond.selects RX1 yX1_shapeFault yX1_shapeFault ∈ GW := gw_of 255 (by decide +kernel) (by decide +kernel)
theorem wd256 : Cond.code yX1_shapeFault cX1_shapeFault 3 (some .int) ∈ GW := gw_of 256 (by decide +kernel) (by decide +kernel)
theorem wd257 : Cond.methodLink RX1 32 yX1_fitsShape ∈ GW := gw_of 257 (by decide +kernel) (by decide +kernel)
theorem wd259 : Cond.instanceMethod yX1_fitsShape ∈ GW := gw_of 259 (by decide +kernel) (by decide +kernel)
theorem wd260 : Cond.code yX1_fitsShape cX1_fitsShape 5 (some .boolean) ∈ GW := gw_of 260 (by decide +kernel) (by decide +kernel)
theorem wd261 : Cond.methodLink RX1 36 yX1_lengthAt ∈ GW := gw_of 261 (by decide +kernel) (by decide +kernel)
theorem wd262 : Cond.instanceMethod yX1_lengthAt ∈ GW := gw_of 262 (by decide +kernel) (by decide +kernel)
theorem wd263 : Cond.selects RX1 yX1_lengthAt yX1_lengthAt ∈ GW := gw_of 263 (by decide +kernel) (by decide +kernel)
theorem wd264 : Cond.code yX1_lengthAt cX1_lengthAt 2 (some .int) ∈ GW := gw_of 264 (by decide +kernel) (by decide +kernel)
theorem wd265 : Cond.methodLinkNest RX1 24 yX4_at RX4 ∈ NWl := nw_of 265 (by decide +kernel) rfl
theorem wd266 : Cond.methodLink RX1 40 yX1_kindOf ∈ GW := gw_of 266 (by decide +kernel) (by decide +kernel)
theorem wd267 : Cond.static yX1_kindOf ∈ GW := gw_of 267 (by decide +kernel) (by decide +kernel)
theorem wd268 : Cond.code yX1_kindOf cX1_kindOf 1 (some .int) ∈ GW := gw_of 268 (by decide +kernel) (by decide +kernel)
theorem wd269 : Cond.methodLink RX4 63 yX4_tellStatements ∈ GW := gw_of 269 (by decide +kernel) (by decide +kernel)
theorem wd271 : Cond.instanceMethod yX4_tellStatements ∈ GW := gw_of 271 (by decide +kernel) (by decide +kernel)
theorem wd272 : Cond.code yX4_tellStatements cX4_tellStatements 3 (some .int) ∈ GW := gw_of 272 (by decide +kernel) (by decide +kernel)
theorem wd273 : Cond.methodLink RX4 69 yX3_become ∈ GW := gw_of 273 (by decide +kernel) (by decide +kernel)
theorem wd274 : Cond.instanceMethod yX3_become ∈ GW := gw_of 274 (by decide +kernel) (by decide +kernel)
theorem wd275 : Cond.selects RX3 yX3_become yX3_become ∈ GW := gw_of 275 (by decide +kernel) (by decide +kernel)
theorem wd276 : Cond.code yX3_become cX3_become 2 none ∈ GW := gw_of 276 (by decide +kernel) (by decide +kernel)
theorem wd277 : Cond.methodLink RX3 28 yX0_become ∈ GW := gw_of 277 (by decide +kernel) (by decide +kernel)
theorem wd278 : Cond.instanceMethod yX0_become ∈ GW := gw_of 278 (by decide +kernel) (by decide +kernel)
theorem wd279 : Cond.selects RX0 yX0_become yX0_become ∈ GW := gw_of 279 (by decide +kernel) (by decide +kernel)
theorem wd280 : Cond.code yX0_become cX0_become 2 none ∈ GW := gw_of 280 (by decide +kernel) (by decide +kernel)
theorem wd281 : Cond.methodLinkNest RX0 36 yX4_copy RX4 ∈ NWl := nw_of 281 (by decide +kernel) rfl
theorem wd282 : Cond.static yX4_copy ∈ GW := gw_of 282 (by decide +kernel) (by decide +kernel)
theorem wd283 : Cond.code yX4_copy cX4_copy 2 none ∈ GW := gw_of 283 (by decide +kernel) (by decide +kernel)
theorem wd284 : Cond.methodLink RX4 186 Lib.Math.min.name ∈ GW := gw_of 284 (by decide +kernel) (by decide +kernel)
theorem wd285 : Cond.static Lib.Math.min.name ∈ GW := gw_of 285 (by decide +kernel) (by decide +kernel)
theorem wd286 : Cond.code Lib.Math.min.name Lib.Math.min.code 2 (some .int) ∈ GW := gw_of 286 (by decide +kernel) (by decide +kernel)
theorem wd287 : Cond.methodLink RX4 301 arraycopyName ∈ GW := gw_of 287 (by decide +kernel) (by decide +kernel)
theorem wd288 : Cond.static arraycopyName ∈ GW := gw_of 288 (by decide +kernel) (by decide +kernel)
theorem wd289 : Cond.native arraycopyName ∈ GW := gw_of 289 (by decide +kernel) (by decide +kernel)
theorem wd290 : Cond.methodLinkNest RX3 32 yX4_copy RX4 ∈ NWl := nw_of 290 (by decide +kernel) rfl
theorem wd291 : Cond.methodLink RX4 77 yX1_tell ∈ GW := gw_of 291 (by decide +kernel) (by decide +kernel)
theorem wd292 : Cond.instanceMethod yX1_tell ∈ GW := gw_of 292 (by decide +kernel) (by decide +kernel)
theorem wd293 : Cond.selects RX1 yX1_tell yX1_tell ∈ GW := gw_of 293 (by decide +kernel) (by decide +kernel)
theorem wd294 : Cond.code yX1_tell cX1_tell 8 (some .boolean) ∈ GW := gw_of 294 (by decide +kernel) (by decide +kernel)
theorem wd295 : Cond.methodLink RX1 43 yX1_digitAt ∈ GW := gw_of 295 (by decide +kernel) (by decide +kernel)
theorem wd297 : Cond.instanceMethod yX1_digitAt ∈ GW := gw_of 297 (by decide +kernel) (by decide +kernel)
theorem wd298 : Cond.code yX1_digitAt cX1_digitAt 2 (some .int) ∈ GW := gw_of 298 (by decide +kernel) (by decide +kernel)
theorem wd299 : Cond.methodLink RX1 52 yX0_addDoor ∈ GW := gw_of 299 (by decide +kernel) (by decide +kernel)
theorem wd300 : Cond.instanceMethod yX0_addDoor ∈ GW := gw_of 300 (by decide +kernel) (by decide +kernel)
theorem wd301 : Cond.selects RX0 yX0_addDoor yX0_addDoor ∈ GW := gw_of 301 (by decide +kernel) (by decide +kernel)
theorem wd302 : Cond.code yX0_addDoor cX0_addDoor 5 (some .boolean) ∈ GW := gw_of 302 (by decide +kernel) (by decide +kernel)
theorem wd303 : Cond.methodLinkNest RX0 44 yX4_isRoom RX4 ∈ NWl := nw_of 303 (by decide +kernel) rfl
theorem wd304 : Cond.static yX4_isRoom ∈ GW := gw_of 304 (by decide +kernel) (by decide +kernel)
theorem wd305 : Cond.code yX4_isRoom cX4_isRoom 1 (some .boolean) ∈ GW := gw_of 305 (by decide +kernel) (by decide +kernel)
theorem wd306 : Cond.methodLink RX1 58 yX1_tellPerson ∈ GW := gw_of 306 (by decide +kernel) (by decide +kernel)
theorem wd307 : Cond.static yX1_tellPerson ∈ GW := gw_of 307 (by decide +kernel) (by decide +kernel)
theorem wd308 : Cond.code yX1_tellPerson cX1_tellPerson 4 (some .boolean) ∈ GW := gw_of 308 (by decide +kernel) (by decide +kernel)
theorem wd309 : Cond.methodLinkNest RX1 84 yX4_isRoom RX4 ∈ NWl := nw_of 309 (by decide +kernel) rfl
theorem wd310 : Cond.methodLink RX1 88 yX3_addPerson ∈ GW := gw_of 310 (by decide +kernel) (by decide +kernel)
theorem wd311 : Cond.instanceMethod yX3_addPerson ∈ GW := gw_of 311 (by decide +kernel) (by decide +kernel)
theorem wd312 : Cond.selects RX3 yX3_addPerson yX3_addPerson ∈ GW := gw_of 312 (by decide +kernel) (by decide +kernel)
theorem wd313 : Cond.code yX3_addPerson cX3_addPerson 4 none ∈ GW := gw_of 313 (by decide +kernel) (by decide +kernel)
theorem wd314 : Cond.methodLinkNest RX3 50 yX4_put RX4 ∈ NWl := nw_of 314 (by decide +kernel) rfl
theorem wd315 : Cond.methodLink RX1 65 yX1_tellRoom ∈ GW := gw_of 315 (by decide +kernel) (by decide +kernel)
theorem wd316 : Cond.static yX1_tellRoom ∈ GW := gw_of 316 (by decide +kernel) (by decide +kernel)
theorem wd317 : Cond.code yX1_tellRoom cX1_tellRoom 4 (some .boolean) ∈ GW := gw_of 317 (by decide +kernel) (by decide +kernel)
theorem wd318 : Cond.methodLink RX1 92 yX3_has ∈ GW := gw_of 318 (by decide +kernel) (by decide +kernel)
theorem wd319 : Cond.instanceMethod yX3_has ∈ GW := gw_of 319 (by decide +kernel) (by decide +kernel)
theorem wd320 : Cond.selects RX3 yX3_has yX3_has ∈ GW := gw_of 320 (by decide +kernel) (by decide +kernel)
theorem wd321 : Cond.code yX3_has cX3_has 2 (some .boolean) ∈ GW := gw_of 321 (by decide +kernel) (by decide +kernel)
theorem wd322 : Cond.methodLinkNest RX1 95 yX4_put RX4 ∈ NWl := nw_of 322 (by decide +kernel) rfl
theorem wd323 : Cond.methodLink RX1 72 yX1_tellDoor ∈ GW := gw_of 323 (by decide +kernel) (by decide +kernel)
theorem wd324 : Cond.static yX1_tellDoor ∈ GW := gw_of 324 (by decide +kernel) (by decide +kernel)
theorem wd325 : Cond.code yX1_tellDoor cX1_tellDoor 3 (some .boolean) ∈ GW := gw_of 325 (by decide +kernel) (by decide +kernel)
theorem wd326 : Cond.methodLink RX1 99 yX0_has ∈ GW := gw_of 326 (by decide +kernel) (by decide +kernel)
theorem wd327 : Cond.instanceMethod yX0_has ∈ GW := gw_of 327 (by decide +kernel) (by decide +kernel)
theorem wd328 : Cond.selects RX0 yX0_has yX0_has ∈ GW := gw_of 328 (by decide +kernel) (by decide +kernel)
theorem wd329 : Cond.code yX0_has cX0_has 2 (some .boolean) ∈ GW := gw_of 329 (by decide +kernel) (by decide +kernel)
theorem wd330 : Cond.methodLink RX1 100 yX0_changeSides ∈ GW := gw_of 330 (by decide +kernel) (by decide +kernel)
theorem wd331 : Cond.instanceMethod yX0_changeSides ∈ GW := gw_of 331 (by decide +kernel) (by decide +kernel)
theorem wd332 : Cond.selects RX0 yX0_changeSides yX0_changeSides ∈ GW := gw_of 332 (by decide +kernel) (by decide +kernel)
theorem wd333 : Cond.code yX0_changeSides cX0_changeSides 3 (some .int) ∈ GW := gw_of 333 (by decide +kernel) (by decide +kernel)
theorem wd334 : Cond.methodLink RX1 103 yX0_wedgeOrNot ∈ GW := gw_of 334 (by decide +kernel) (by decide +kernel)
theorem wd335 : Cond.instanceMethod yX0_wedgeOrNot ∈ GW := gw_of 335 (by decide +kernel) (by decide +kernel)
theorem wd336 : Cond.selects RX0 yX0_wedgeOrNot yX0_wedgeOrNot ∈ GW := gw_of 336 (by decide +kernel) (by decide +kernel)
theorem wd337 : Cond.code yX0_wedgeOrNot cX0_wedgeOrNot 2 (some .int) ∈ GW := gw_of 337 (by decide +kernel) (by decide +kernel)
theorem wd338 : Cond.methodLink RX1 79 yX3_goHours ∈ GW := gw_of 338 (by decide +kernel) (by decide +kernel)
theorem wd339 : Cond.instanceMethod yX3_goHours ∈ GW := gw_of 339 (by decide +kernel) (by decide +kernel)
theorem wd340 : Cond.selects RX3 yX3_goHours yX3_goHours ∈ GW := gw_of 340 (by decide +kernel) (by decide +kernel)
theorem wd341 : Cond.code yX3_goHours cX3_goHours 7 (some .int) ∈ GW := gw_of 341 (by decide +kernel) (by decide +kernel)
theorem wd342 : Cond.methodLink RX3 58 yX3_doorFor ∈ GW := gw_of 342 (by decide +kernel) (by decide +kernel)
theorem wd343 : Cond.instanceMethod yX3_doorFor ∈ GW := gw_of 343 (by decide +kernel) (by decide +kernel)
theorem wd344 : Cond.selects RX3 yX3_doorFor yX3_doorFor ∈ GW := gw_of 344 (by decide +kernel) (by decide +kernel)
theorem wd345 : Cond.code yX3_doorFor cX3_doorFor 6 (some .int) ∈ GW := gw_of 345 (by decide +kernel) (by decide +kernel)
theorem wd346 : Cond.methodLinkNest RX3 46 yX4_at RX4 ∈ NWl := nw_of 346 (by decide +kernel) rfl
theorem wd347 : Cond.methodLink RX3 77 yX0_firstDoors ∈ GW := gw_of 347 (by decide +kernel) (by decide +kernel)
theorem wd348 : Cond.instanceMethod yX0_firstDoors ∈ GW := gw_of 348 (by decide +kernel) (by decide +kernel)
theorem wd349 : Cond.selects RX0 yX0_firstDoors yX0_firstDoors ∈ GW := gw_of 349 (by decide +kernel) (by decide +kernel)
theorem wd350 : Cond.code yX0_firstDoors cX0_firstDoors 3 (some .int) ∈ GW := gw_of 350 (by decide +kernel) (by decide +kernel)
theorem wd351 : Cond.methodLinkNest RX3 81 yX4_hasBit RX4 ∈ NWl := nw_of 351 (by decide +kernel) rfl
theorem wd352 : Cond.static yX4_hasBit ∈ GW := gw_of 352 (by decide +kernel) (by decide +kernel)
theorem wd353 : Cond.code yX4_hasBit cX4_hasBit 2 (some .boolean) ∈ GW := gw_of 353 (by decide +kernel) (by decide +kernel)
theorem wd354 : Cond.methodLink RX3 85 yX3_opens ∈ GW := gw_of 354 (by decide +kernel) (by decide +kernel)
theorem wd355 : Cond.instanceMethod yX3_opens ∈ GW := gw_of 355 (by decide +kernel) (by decide +kernel)
theorem wd356 : Cond.selects RX3 yX3_opens yX3_opens ∈ GW := gw_of 356 (by decide +kernel) (by decide +kernel)
theorem wd357 : Cond.code yX3_opens cX3_opens 7 (some .boolean) ∈ GW := gw_of 357 (by decide +kernel) (by decide +kernel)
theorem wd358 : Cond.methodLink RX3 74 Lib.Math.max.name ∈ GW := gw_of 358 (by decide +kernel) (by decide +kernel)
theorem wd359 : Cond.methodLink RX3 91 yX0_opensBy ∈ GW := gw_of 359 (by decide +kernel) (by decide +kernel)
theorem wd360 : Cond.instanceMethod yX0_opensBy ∈ GW := gw_of 360 (by decide +kernel) (by decide +kernel)
theorem wd361 : Cond.selects RX0 yX0_opensBy yX0_opensBy ∈ GW := gw_of 361 (by decide +kernel) (by decide +kernel)
theorem wd362 : Cond.code yX0_opensBy cX0_opensBy 10 (some .boolean) ∈ GW := gw_of 362 (by decide +kernel) (by decide +kernel)
theorem wd363 : Cond.methodLink RX0 63 Lib.Math.max.name ∈ GW := gw_of 363 (by decide +kernel) (by decide +kernel)
theorem wd364 : Cond.methodLink RX3 65 Lib.Math.min.name ∈ GW := gw_of 364 (by decide +kernel) (by decide +kernel)
theorem wd365 : Cond.methodLink RX3 71 yX3_isHome ∈ GW := gw_of 365 (by decide +kernel) (by decide +kernel)
theorem wd366 : Cond.instanceMethod yX3_isHome ∈ GW := gw_of 366 (by decide +kernel) (by decide +kernel)
theorem wd367 : Cond.selects RX3 yX3_isHome yX3_isHome ∈ GW := gw_of 367 (by decide +kernel) (by decide +kernel)
theorem wd368 : Cond.code yX3_isHome cX3_isHome 2 (some .boolean) ∈ GW := gw_of 368 (by decide +kernel) (by decide +kernel)
theorem wd369 : Cond.methodLink RX4 81 yX1_lengthAt ∈ GW := gw_of 369 (by decide +kernel) (by decide +kernel)
theorem wd370 : Cond.methodLink RX4 84 Lib.Math.max.name ∈ GW := gw_of 370 (by decide +kernel) (by decide +kernel)
theorem wd371 : Cond.methodLink RX4 66 yX2_empty ∈ GW := gw_of 371 (by decide +kernel) (by decide +kernel)
theorem wd372 : Cond.instanceMethod yX2_empty ∈ GW := gw_of 372 (by decide +kernel) (by decide +kernel)
theorem wd373 : Cond.selects RX2 yX2_empty yX2_empty ∈ GW := gw_of 373 (by decide +kernel) (by decide +kernel)
theorem wd374 : Cond.code yX2_empty cX2_empty 2 (some .int) ∈ GW := gw_of 374 (by decide +kernel) (by decide +kernel)
theorem wd375 : Cond.methodLink RL 23 yX4_door ∈ GW := gw_of 375 (by decide +kernel) (by decide +kernel)
theorem wd376 : Cond.instanceMethod yX4_door ∈ GW := gw_of 376 (by decide +kernel) (by decide +kernel)
theorem wd377 : Cond.selects RX4 yX4_door yX4_door ∈ GW := gw_of 377 (by decide +kernel) (by decide +kernel)
theorem wd378 : Cond.code yX4_door cX4_door 3 (some .int) ∈ GW := gw_of 378 (by decide +kernel) (by decide +kernel)
theorem wd379 : Cond.methodLink RX4 94 yX0_has ∈ GW := gw_of 379 (by decide +kernel) (by decide +kernel)
theorem wd380 : Cond.methodLink RL 28 yX4_person ∈ GW := gw_of 380 (by decide +kernel) (by decide +kernel)
theorem wd381 : Cond.instanceMethod yX4_person ∈ GW := gw_of 381 (by decide +kernel) (by decide +kernel)
theorem wd382 : Cond.selects RX4 yX4_person yX4_person ∈ GW := gw_of 382 (by decide +kernel) (by decide +kernel)
theorem wd383 : Cond.code yX4_person cX4_person 3 (some .int) ∈ GW := gw_of 383 (by decide +kernel) (by decide +kernel)
theorem wd384 : Cond.methodLink RX4 119 yX3_has ∈ GW := gw_of 384 (by decide +kernel) (by decide +kernel)
theorem wd385 : Cond.methodLink RX4 132 yX3_doorFor ∈ GW := gw_of 385 (by decide +kernel) (by decide +kernel)
theorem wd386 : Cond.methodLink RL 32 yX4_wedges ∈ GW := gw_of 386 (by decide +kernel) (by decide +kernel)
theorem wd387 : Cond.instanceMethod yX4_wedges ∈ GW := gw_of 387 (by decide +kernel) (by decide +kernel)
theorem wd388 : Cond.selects RX4 yX4_wedges yX4_wedges ∈ GW := gw_of 388 (by decide +kernel) (by decide +kernel)
theorem wd389 : Cond.code yX4_wedges cX4_wedges 2 (some .int) ∈ GW := gw_of 389 (by decide +kernel) (by decide +kernel)
theorem wd390 : Cond.methodLink RX4 136 yX0_wedgeOrNot ∈ GW := gw_of 390 (by decide +kernel) (by decide +kernel)
theorem wd391 : Cond.methodLink RL 36 yX4_turns ∈ GW := gw_of 391 (by decide +kernel) (by decide +kernel)
theorem wd392 : Cond.instanceMethod yX4_turns ∈ GW := gw_of 392 (by decide +kernel) (by decide +kernel)
theorem wd393 : Cond.selects RX4 yX4_turns yX4_turns ∈ GW := gw_of 393 (by decide +kernel) (by decide +kernel)
theorem wd394 : Cond.code yX4_turns cX4_turns 2 (some .int) ∈ GW := gw_of 394 (by decide +kernel) (by decide +kernel)
theorem wd395 : Cond.methodLink RX4 139 yX0_changeSides ∈ GW := gw_of 395 (by decide +kernel) (by decide +kernel)
theorem wd396 : Cond.methodLink RL 40 yX4_stands ∈ GW := gw_of 396 (by decide +kernel) (by decide +kernel)
theorem wd397 : Cond.instanceMethod yX4_stands ∈ GW := gw_of 397 (by decide +kernel) (by decide +kernel)
theorem wd398 : Cond.selects RX4 yX4_stands yX4_stands ∈ GW := gw_of 398 (by decide +kernel) (by decide +kernel)
theorem wd399 : Cond.code yX4_stands cX4_stands 3 (some .int) ∈ GW := gw_of 399 (by decide +kernel) (by decide +kernel)
theorem wd400 : Cond.methodLink RX4 142 yX4_isRoom ∈ GW := gw_of 400 (by decide +kernel) (by decide +kernel)
theorem wd401 : Cond.methodLink RX4 145 yX4_exchange ∈ GW := gw_of 401 (by decide +kernel) (by decide +kernel)
theorem wd402 : Cond.static yX4_exchange ∈ GW := gw_of 402 (by decide +kernel) (by decide +kernel)
theorem wd403 : Cond.code yX4_exchange cX4_exchange 4 (some .int) ∈ GW := gw_of 403 (by decide +kernel) (by decide +kernel)
theorem wd404 : Cond.methodLink RL 44 yX4_wants ∈ GW := gw_of 404 (by decide +kernel) (by decide +kernel)
theorem wd405 : Cond.instanceMethod yX4_wants ∈ GW := gw_of 405 (by decide +kernel) (by decide +kernel)
theorem wd406 : Cond.selects RX4 yX4_wants yX4_wants ∈ GW := gw_of 406 (by decide +kernel) (by decide +kernel)
theorem wd407 : Cond.code yX4_wants cX4_wants 3 (some .int) ∈ GW := gw_of 407 (by decide +kernel) (by decide +kernel)
theorem wd408 : Cond.methodLink RL 48 yX4_moods ∈ GW := gw_of 408 (by decide +kernel) (by decide +kernel)
theorem wd409 : Cond.instanceMethod yX4_moods ∈ GW := gw_of 409 (by decide +kernel) (by decide +kernel)
theorem wd410 : Cond.selects RX4 yX4_moods yX4_moods ∈ GW := gw_of 410 (by decide +kernel) (by decide +kernel)
theorem wd411 : Cond.code yX4_moods cX4_moods 3 (some .int) ∈ GW := gw_of 411 (by decide +kernel) (by decide +kernel)
theorem wd412 : Cond.methodLink RX4 149 yX4_refusedNumber ∈ GW := gw_of 412 (by decide +kernel) (by decide +kernel)
theorem wd414 : Cond.instanceMethod yX4_refusedNumber ∈ GW := gw_of 414 (by decide +kernel) (by decide +kernel)
theorem wd415 : Cond.code yX4_refusedNumber cX4_refusedNumber 2 (some .int) ∈ GW := gw_of 415 (by decide +kernel) (by decide +kernel)
theorem wd416 : Cond.methodLink RL 52 yX4_changes ∈ GW := gw_of 416 (by decide +kernel) (by decide +kernel)
theorem wd417 : Cond.instanceMethod yX4_changes ∈ GW := gw_of 417 (by decide +kernel) (by decide +kernel)
theorem wd418 : Cond.selects RX4 yX4_changes yX4_changes ∈ GW := gw_of 418 (by decide +kernel) (by decide +kernel)
theorem wd419 : Cond.code yX4_changes cX4_changes 4 (some .int) ∈ GW := gw_of 419 (by decide +kernel) (by decide +kernel)
theorem wd420 : Cond.methodLink RL 57 yX4_hours ∈ GW := gw_of 420 (by decide +kernel) (by decide +kernel)
theorem wd421 : Cond.instanceMethod yX4_hours ∈ GW := gw_of 421 (by decide +kernel) (by decide +kernel)
theorem wd422 : Cond.selects RX4 yX4_hours yX4_hours ∈ GW := gw_of 422 (by decide +kernel) (by decide +kernel)
theorem wd423 : Cond.code yX4_hours cX4_hours 2 (some .int) ∈ GW := gw_of 423 (by decide +kernel) (by decide +kernel)
theorem wd424 : Cond.methodLink RX4 152 yX3_goHours ∈ GW := gw_of 424 (by decide +kernel) (by decide +kernel)
theorem wd425 : Cond.methodLink RX4 156 yX3_homeCount ∈ GW := gw_of 425 (by decide +kernel) (by decide +kernel)
theorem wd426 : Cond.instanceMethod yX3_homeCount ∈ GW := gw_of 426 (by decide +kernel) (by decide +kernel)
theorem wd427 : Cond.selects RX3 yX3_homeCount yX3_homeCount ∈ GW := gw_of 427 (by decide +kernel) (by decide +kernel)
theorem wd428 : Cond.code yX3_homeCount cX3_homeCount 1 (some .int) ∈ GW := gw_of 428 (by decide +kernel) (by decide +kernel)
theorem wd429 : Cond.methodLink RX3 105 yX3_homeBits ∈ GW := gw_of 429 (by decide +kernel) (by decide +kernel)
theorem wd430 : Cond.instanceMethod yX3_homeBits ∈ GW := gw_of 430 (by decide +kernel) (by decide +kernel)
theorem wd431 : Cond.selects RX3 yX3_homeBits yX3_homeBits ∈ GW := gw_of 431 (by decide +kernel) (by decide +kernel)
theorem wd432 : Cond.code yX3_homeBits cX3_homeBits 3 (some .int) ∈ GW := gw_of 432 (by decide +kernel) (by decide +kernel)
theorem wd433 : Cond.methodLink RX3 99 yJ6_bitCount_0f7a4 ∈ GW := gw_of 433 (by decide +kernel) (by decide +kernel)
theorem wd434 : Cond.static yJ6_bitCount_0f7a4 ∈ GW := gw_of 434 (by decide +kernel) (by decide +kernel)
theorem wd435 : Cond.code yJ6_bitCount_0f7a4 cJ6_bitCount_0f7a4 1 (some .int) ∈ GW := gw_of 435 (by decide +kernel) (by decide +kernel)
theorem wd436 : Cond.constant RJ6 265 (1431655765) ∈ GW := gw_of 436 (by decide +kernel) (by decide +kernel)
theorem wd437 : Cond.constant RJ6 266 (858993459) ∈ GW := gw_of 437 (by decide +kernel) (by decide +kernel)
theorem wd438 : Cond.constant RJ6 267 (252645135) ∈ GW := gw_of 438 (by decide +kernel) (by decide +kernel)
theorem wd439 : Cond.methodLink RL 61 yX4_personThen ∈ GW := gw_of 439 (by decide +kernel) (by decide +kernel)
theorem wd440 : Cond.instanceMethod yX4_personThen ∈ GW := gw_of 440 (by decide +kernel) (by decide +kernel)
theorem wd441 : Cond.selects RX4 yX4_personThen yX4_personThen ∈ GW := gw_of 441 (by decide +kernel) (by decide +kernel)
theorem wd442 : Cond.code yX4_personThen cX4_personThen 4 (some .int) ∈ GW := gw_of 442 (by decide +kernel) (by decide +kernel)
theorem wd443 : Cond.methodLink RX4 159 yX4_isHalf ∈ GW := gw_of 443 (by decide +kernel) (by decide +kernel)
theorem wd444 : Cond.static yX4_isHalf ∈ GW := gw_of 444 (by decide +kernel) (by decide +kernel)
theorem wd445 : Cond.code yX4_isHalf cX4_isHalf 1 (some .boolean) ∈ GW := gw_of 445 (by decide +kernel) (by decide +kernel)
theorem wd446 : Cond.methodLink RL 65 yX4_letThen ∈ GW := gw_of 446 (by decide +kernel) (by decide +kernel)
theorem wd447 : Cond.instanceMethod yX4_letThen ∈ GW := gw_of 447 (by decide +kernel) (by decide +kernel)
theorem wd448 : Cond.selects RX4 yX4_letThen yX4_letThen ∈ GW := gw_of 448 (by decide +kernel) (by decide +kernel)
theorem wd449 : Cond.code yX4_letThen cX4_letThen 2 (some .int) ∈ GW := gw_of 449 (by decide +kernel) (by decide +kernel)
theorem wd450 : Cond.methodLink RL 69 yX4_comes ∈ GW := gw_of 450 (by decide +kernel) (by decide +kernel)
theorem wd451 : Cond.instanceMethod yX4_comes ∈ GW := gw_of 451 (by decide +kernel) (by decide +kernel)
theorem wd452 : Cond.selects RX4 yX4_comes yX4_comes ∈ GW := gw_of 452 (by decide +kernel) (by decide +kernel)
theorem wd453 : Cond.code yX4_comes cX4_comes 3 (some .int) ∈ GW := gw_of 453 (by decide +kernel) (by decide +kernel)
theorem wd454 : Cond.methodLink RX4 165 yX4_firstHourIn ∈ GW := gw_of 454 (by decide +kernel) (by decide +kernel)
theorem wd456 : Cond.instanceMethod yX4_firstHourIn ∈ GW := gw_of 456 (by decide +kernel) (by decide +kernel)
theorem wd457 : Cond.code yX4_firstHourIn cX4_firstHourIn 4 (some .int) ∈ GW := gw_of 457 (by decide +kernel) (by decide +kernel)
theorem wd458 : Cond.methodLink RL 73 yX4_home ∈ GW := gw_of 458 (by decide +kernel) (by decide +kernel)
theorem wd459 : Cond.instanceMethod yX4_home ∈ GW := gw_of 459 (by decide +kernel) (by decide +kernel)
theorem wd460 : Cond.selects RX4 yX4_home yX4_home ∈ GW := gw_of 460 (by decide +kernel) (by decide +kernel)
theorem wd461 : Cond.code yX4_home cX4_home 2 (some .int) ∈ GW := gw_of 461 (by decide +kernel) (by decide +kernel)
theorem wd462 : Cond.methodLink RX4 168 yX4_firstHourAllHome ∈ GW := gw_of 462 (by decide +kernel) (by decide +kernel)
theorem wd464 : Cond.instanceMethod yX4_firstHourAllHome ∈ GW := gw_of 464 (by decide +kernel) (by decide +kernel)
theorem wd465 : Cond.code yX4_firstHourAllHome cX4_firstHourAllHome 2 (some .int) ∈ GW := gw_of 465 (by decide +kernel) (by decide +kernel)
theorem wd466 : Cond.methodLink RL 77 yX4_shutIn ∈ GW := gw_of 466 (by decide +kernel) (by decide +kernel)
theorem wd467 : Cond.instanceMethod yX4_shutIn ∈ GW := gw_of 467 (by decide +kernel) (by decide +kernel)
theorem wd468 : Cond.selects RX4 yX4_shutIn yX4_shutIn ∈ GW := gw_of 468 (by decide +kernel) (by decide +kernel)
theorem wd469 : Cond.code yX4_shutIn cX4_shutIn 3 (some .int) ∈ GW := gw_of 469 (by decide +kernel) (by decide +kernel)
theorem wd470 : Cond.methodLink RX4 172 yX0_wayBetween ∈ GW := gw_of 470 (by decide +kernel) (by decide +kernel)
theorem wd471 : Cond.instanceMethod yX0_wayBetween ∈ GW := gw_of 471 (by decide +kernel) (by decide +kernel)
theorem wd472 : Cond.selects RX0 yX0_wayBetween yX0_wayBetween ∈ GW := gw_of 472 (by decide +kernel) (by decide +kernel)
theorem wd473 : Cond.code yX0_wayBetween cX0_wayBetween 3 (some .int) ∈ GW := gw_of 473 (by decide +kernel) (by decide +kernel)
theorem wd474 : Cond.methodLink RL 81 yX4_stuck ∈ GW := gw_of 474 (by decide +kernel) (by decide +kernel)
theorem wd475 : Cond.instanceMethod yX4_stuck ∈ GW := gw_of 475 (by decide +kernel) (by decide +kernel)
theorem wd476 : Cond.selects RX4 yX4_stuck yX4_stuck ∈ GW := gw_of 476 (by decide +kernel) (by decide +kernel)
theorem wd477 : Cond.code yX4_stuck cX4_stuck 3 (some .int) ∈ GW := gw_of 477 (by decide +kernel) (by decide +kernel)
theorem wd478 : Cond.methodLink RL 85 yX4_way ∈ GW := gw_of 478 (by decide +kernel) (by decide +kernel)
theorem wd479 : Cond.instanceMethod yX4_way ∈ GW := gw_of 479 (by decide +kernel) (by decide +kernel)
theorem wd480 : Cond.selects RX4 yX4_way yX4_way ∈ GW := gw_of 480 (by decide +kernel) (by decide +kernel)
theorem wd481 : Cond.code yX4_way cX4_way 6 (some .int) ∈ GW := gw_of 481 (by decide +kernel) (by decide +kernel)
theorem wd482 : Cond.methodLink RX4 175 yX4_toldWay ∈ GW := gw_of 482 (by decide +kernel) (by decide +kernel)
theorem wd483 : Cond.static yX4_toldWay ∈ GW := gw_of 483 (by decide +kernel) (by decide +kernel)
theorem wd484 : Cond.code yX4_toldWay cX4_toldWay 1 (some .int) ∈ GW := gw_of 484 (by decide +kernel) (by decide +kernel)
theorem wd485 : Cond.methodLink RX4 178 yX0_firstDoors ∈ GW := gw_of 485 (by decide +kernel) (by decide +kernel)
theorem wd486 : Cond.methodLink RX4 182 yX4_hasBit ∈ GW := gw_of 486 (by decide +kernel) (by decide +kernel)
theorem wd487 : Cond.methodLink RL 89 yX4_round ∈ GW := gw_of 487 (by decide +kernel) (by decide +kernel)
theorem wd488 : Cond.instanceMethod yX4_round ∈ GW := gw_of 488 (by decide +kernel) (by decide +kernel)
theorem wd489 : Cond.selects RX4 yX4_round yX4_round ∈ GW := gw_of 489 (by decide +kernel) (by decide +kernel)
theorem wd490 : Cond.code yX4_round cX4_round 4 (some .int) ∈ GW := gw_of 490 (by decide +kernel) (by decide +kernel)
theorem wd491 : Cond.methodLink RL 93 yX4_reach ∈ GW := gw_of 491 (by decide +kernel) (by decide +kernel)
theorem wd492 : Cond.instanceMethod yX4_reach ∈ GW := gw_of 492 (by decide +kernel) (by decide +kernel)
theorem wd493 : Cond.selects RX4 yX4_reach yX4_reach ∈ GW := gw_of 493 (by decide +kernel) (by decide +kernel)
theorem wd494 : Cond.code yX4_reach cX4_reach 4 (some .int) ∈ GW := gw_of 494 (by decide +kernel) (by decide +kernel)
theorem wd495 : Cond.methodLink RL 97 yX4_open ∈ GW := gw_of 495 (by decide +kernel) (by decide +kernel)
theorem wd496 : Cond.instanceMethod yX4_open ∈ GW := gw_of 496 (by decide +kernel) (by decide +kernel)
theorem wd497 : Cond.selects RX4 yX4_open yX4_open ∈ GW := gw_of 497 (by decide +kernel) (by decide +kernel)
theorem wd498 : Cond.code yX4_open cX4_open 3 (some .int) ∈ GW := gw_of 498 (by decide +kernel) (by decide +kernel)
theorem wd499 : Cond.methodLink RX4 189 yX3_opens ∈ GW := gw_of 499 (by decide +kernel) (by decide +kernel)
theorem wd500 : Cond.methodLink RL 101 yX4_helper ∈ GW := gw_of 500 (by decide +kernel) (by decide +kernel)
theorem wd501 : Cond.instanceMethod yX4_helper ∈ GW := gw_of 501 (by decide +kernel) (by decide +kernel)
theorem wd502 : Cond.selects RX4 yX4_helper yX4_helper ∈ GW := gw_of 502 (by decide +kernel) (by decide +kernel)
theorem wd503 : Cond.code yX4_helper cX4_helper 7 (some .int) ∈ GW := gw_of 503 (by decide +kernel) (by decide +kernel)
theorem wd504 : Cond.methodLink RX4 192 yX4_homeWithHelper ∈ GW := gw_of 504 (by decide +kernel) (by decide +kernel)
theorem wd506 : Cond.instanceMethod yX4_homeWithHelper ∈ GW := gw_of 506 (by decide +kernel) (by decide +kernel)
theorem wd507 : Cond.code yX4_homeWithHelper cX4_homeWithHelper 3 (some .int) ∈ GW := gw_of 507 (by decide +kernel) (by decide +kernel)
theorem wd508 : Cond.methodLink RX4 195 yX3_addPerson ∈ GW := gw_of 508 (by decide +kernel) (by decide +kernel)
theorem wd509 : Cond.methodLink RL 105 yX4_fewest ∈ GW := gw_of 509 (by decide +kernel) (by decide +kernel)
theorem wd510 : Cond.instanceMethod yX4_fewest ∈ GW := gw_of 510 (by decide +kernel) (by decide +kernel)
theorem wd511 : Cond.selects RX4 yX4_fewest yX4_fewest ∈ GW := gw_of 511 (by decide +kernel) (by decide +kernel)
theorem wd512 : Cond.code yX4_fewest cX4_fewest 6 (some .int) ∈ GW := gw_of 512 (by decide +kernel) (by decide +kernel)
theorem wd513 : Cond.methodLink RX4 199 yJ6_bitCount_0f7a4 ∈ GW := gw_of 513 (by decide +kernel) (by decide +kernel)
theorem wd514 : Cond.methodLink RX4 204 yX4_isHomeWhileStay ∈ GW := gw_of 514 (by decide +kernel) (by decide +kernel)
theorem wd516 : Cond.instanceMethod yX4_isHomeWhileStay ∈ GW := gw_of 516 (by decide +kernel) (by decide +kernel)
theorem wd517 : Cond.code yX4_isHomeWhileStay cX4_isHomeWhileStay 5 (some .boolean) ∈ GW := gw_of 517 (by decide +kernel) (by decide +kernel)
theorem wd518 : Cond.methodLink RX4 208 yX3_stay ∈ GW := gw_of 518 (by decide +kernel) (by decide +kernel)
theorem wd519 : Cond.instanceMethod yX3_stay ∈ GW := gw_of 519 (by decide +kernel) (by decide +kernel)
theorem wd520 : Cond.selects RX3 yX3_stay yX3_stay ∈ GW := gw_of 520 (by decide +kernel) (by decide +kernel)
theorem wd521 : Cond.code yX3_stay cX3_stay 2 none ∈ GW := gw_of 521 (by decide +kernel) (by decide +kernel)
theorem wd522 : Cond.methodLink RX4 211 yX3_isHome ∈ GW := gw_of 522 (by decide +kernel) (by decide +kernel)
theorem wd523 : Cond.methodLink RL 109 yX4_turn ∈ GW := gw_of 523 (by decide +kernel) (by decide +kernel)
theorem wd524 : Cond.instanceMethod yX4_turn ∈ GW := gw_of 524 (by decide +kernel) (by decide +kernel)
theorem wd525 : Cond.selects RX4 yX4_turn yX4_turn ∈ GW := gw_of 525 (by decide +kernel) (by decide +kernel)
theorem wd526 : Cond.code yX4_turn cX4_turn 2 (some .int) ∈ GW := gw_of 526 (by decide +kernel) (by decide +kernel)
theorem wd527 : Cond.methodLink RX4 214 yX4_doorToChange ∈ GW := gw_of 527 (by decide +kernel) (by decide +kernel)
theorem wd529 : Cond.instanceMethod yX4_doorToChange ∈ GW := gw_of 529 (by decide +kernel) (by decide +kernel)
theorem wd530 : Cond.code yX4_doorToChange cX4_doorToChange 6 (some .int) ∈ GW := gw_of 530 (by decide +kernel) (by decide +kernel)
theorem wd531 : Cond.methodLink RL 113 yX4_wedge ∈ GW := gw_of 531 (by decide +kernel) (by decide +kernel)
theorem wd532 : Cond.instanceMethod yX4_wedge ∈ GW := gw_of 532 (by decide +kernel) (by decide +kernel)
theorem wd533 : Cond.selects RX4 yX4_wedge yX4_wedge ∈ GW := gw_of 533 (by decide +kernel) (by decide +kernel)
theorem wd534 : Cond.code yX4_wedge cX4_wedge 2 (some .int) ∈ GW := gw_of 534 (by decide +kernel) (by decide +kernel)
theorem wd535 : Cond.methodLink RL 117 yX4_holds ∈ GW := gw_of 535 (by decide +kernel) (by decide +kernel)
theorem wd536 : Cond.instanceMethod yX4_holds ∈ GW := gw_of 536 (by decide +kernel) (by decide +kernel)
theorem wd537 : Cond.selects RX4 yX4_holds yX4_holds ∈ GW := gw_of 537 (by decide +kernel) (by decide +kernel)
theorem wd538 : Cond.code yX4_holds cX4_holds 6 (some .int) ∈ GW := gw_of 538 (by decide +kernel) (by decide +kernel)
theorem wd539 : Cond.methodLink RX4 221 yX3_removePerson ∈ GW := gw_of 539 (by decide +kernel) (by decide +kernel)
theorem wd540 : Cond.instanceMethod yX3_removePerson ∈ GW := gw_of 540 (by decide +kernel) (by decide +kernel)
theorem wd541 : Cond.selects RX3 yX3_removePerson yX3_removePerson ∈ GW := gw_of 541 (by decide +kernel) (by decide +kernel)
theorem wd542 : Cond.code yX3_removePerson cX3_removePerson 3 none ∈ GW := gw_of 542 (by decide +kernel) (by decide +kernel)
theorem wd543 : Cond.methodLink RX3 54 yX3_has ∈ GW := gw_of 543 (by decide +kernel) (by decide +kernel)
theorem wd544 : Cond.methodLink RL 121 yX4_crowd ∈ GW := gw_of 544 (by decide +kernel) (by decide +kernel)
theorem wd545 : Cond.instanceMethod yX4_crowd ∈ GW := gw_of 545 (by decide +kernel) (by decide +kernel)
theorem wd546 : Cond.selects RX4 yX4_crowd yX4_crowd ∈ GW := gw_of 546 (by decide +kernel) (by decide +kernel)
theorem wd547 : Cond.code yX4_crowd cX4_crowd 2 (some .int) ∈ GW := gw_of 547 (by decide +kernel) (by decide +kernel)
theorem wd548 : Cond.methodLink RX4 224 yX4_crowdedRoom ∈ GW := gw_of 548 (by decide +kernel) (by decide +kernel)
theorem wd550 : Cond.instanceMethod yX4_crowdedRoom ∈ GW := gw_of 550 (by decide +kernel) (by decide +kernel)
theorem wd551 : Cond.code yX4_crowdedRoom cX4_crowdedRoom 3 (some .int) ∈ GW := gw_of 551 (by decide +kernel) (by decide +kernel)
theorem wd552 : Cond.methodLink RX4 227 yX3_countIn ∈ GW := gw_of 552 (by decide +kernel) (by decide +kernel)
theorem wd553 : Cond.instanceMethod yX3_countIn ∈ GW := gw_of 553 (by decide +kernel) (by decide +kernel)
theorem wd554 : Cond.selects RX3 yX3_countIn yX3_countIn ∈ GW := gw_of 554 (by decide +kernel) (by decide +kernel)
theorem wd555 : Cond.code yX3_countIn cX3_countIn 2 (some .int) ∈ GW := gw_of 555 (by decide +kernel) (by decide +kernel)
theorem wd556 : Cond.methodLinkNest RX3 95 yX4_bitsOf RX4 ∈ NWl := nw_of 556 (by decide +kernel) rfl
theorem wd557 : Cond.static yX4_bitsOf ∈ GW := gw_of 557 (by decide +kernel) (by decide +kernel)
theorem wd558 : Cond.code yX4_bitsOf cX4_bitsOf 5 (some .int) ∈ GW := gw_of 558 (by decide +kernel) (by decide +kernel)
theorem wd559 : Cond.methodLink RX4 230 yX4_emptyRooms ∈ GW := gw_of 559 (by decide +kernel) (by decide +kernel)
theorem wd561 : Cond.instanceMethod yX4_emptyRooms ∈ GW := gw_of 561 (by decide +kernel) (by decide +kernel)
theorem wd562 : Cond.code yX4_emptyRooms cX4_emptyRooms 3 (some .int) ∈ GW := gw_of 562 (by decide +kernel) (by decide +kernel)
theorem wd563 : Cond.methodLink RX4 233 yX4_deadRooms ∈ GW := gw_of 563 (by decide +kernel) (by decide +kernel)
theorem wd565 : Cond.instanceMethod yX4_deadRooms ∈ GW := gw_of 565 (by decide +kernel) (by decide +kernel)
theorem wd566 : Cond.code yX4_deadRooms cX4_deadRooms 3 (some .int) ∈ GW := gw_of 566 (by decide +kernel) (by decide +kernel)
theorem wd567 : Cond.methodLink RX4 236 yX4_bitsOf ∈ GW := gw_of 567 (by decide +kernel) (by decide +kernel)
theorem wd568 : Cond.methodLink RL 125 yX4_handles ∈ GW := gw_of 568 (by decide +kernel) (by decide +kernel)
theorem wd569 : Cond.instanceMethod yX4_handles ∈ GW := gw_of 569 (by decide +kernel) (by decide +kernel)
theorem wd570 : Cond.selects RX4 yX4_handles yX4_handles ∈ GW := gw_of 570 (by decide +kernel) (by decide +kernel)
theorem wd571 : Cond.code yX4_handles cX4_handles 2 (some .int) ∈ GW := gw_of 571 (by decide +kernel) (by decide +kernel)
theorem wd572 : Cond.methodLink RL 129 yX4_meet ∈ GW := gw_of 572 (by decide +kernel) (by decide +kernel)
theorem wd573 : Cond.instanceMethod yX4_meet ∈ GW := gw_of 573 (by decide +kernel) (by decide +kernel)
theorem wd574 : Cond.selects RX4 yX4_meet yX4_meet ∈ GW := gw_of 574 (by decide +kernel) (by decide +kernel)
theorem wd575 : Cond.code yX4_meet cX4_meet 6 (some .int) ∈ GW := gw_of 575 (by decide +kernel) (by decide +kernel)
theorem wd576 : Cond.methodLink RX4 239 yX4_waysOfAllTo ∈ GW := gw_of 576 (by decide +kernel) (by decide +kernel)
theorem wd578 : Cond.instanceMethod yX4_waysOfAllTo ∈ GW := gw_of 578 (by decide +kernel) (by decide +kernel)
theorem wd579 : Cond.code yX4_waysOfAllTo cX4_waysOfAllTo 4 (some .int) ∈ GW := gw_of 579 (by decide +kernel) (by decide +kernel)
theorem wd580 : Cond.methodLink RL 133 yX4_two ∈ GW := gw_of 580 (by decide +kernel) (by decide +kernel)
theorem wd581 : Cond.instanceMethod yX4_two ∈ GW := gw_of 581 (by decide +kernel) (by decide +kernel)
theorem wd582 : Cond.selects RX4 yX4_two yX4_two ∈ GW := gw_of 582 (by decide +kernel) (by decide +kernel)
theorem wd583 : Cond.code yX4_two cX4_two 7 (some .int) ∈ GW := gw_of 583 (by decide +kernel) (by decide +kernel)
theorem wd584 : Cond.methodLink RX4 242 yX4_tryPair ∈ GW := gw_of 584 (by decide +kernel) (by decide +kernel)
theorem wd586 : Cond.instanceMethod yX4_tryPair ∈ GW := gw_of 586 (by decide +kernel) (by decide +kernel)
theorem wd587 : Cond.code yX4_tryPair cX4_tryPair 5 none ∈ GW := gw_of 587 (by decide +kernel) (by decide +kernel)
theorem wd588 : Cond.methodLink RX4 246 yX4_gainOf ∈ GW := gw_of 588 (by decide +kernel) (by decide +kernel)
theorem wd590 : Cond.instanceMethod yX4_gainOf ∈ GW := gw_of 590 (by decide +kernel) (by decide +kernel)
theorem wd591 : Cond.code yX4_gainOf cX4_gainOf 2 (some .int) ∈ GW := gw_of 591 (by decide +kernel) (by decide +kernel)
theorem wd592 : Cond.methodLink RL 137 yX4_fire ∈ GW := gw_of 592 (by decide +kernel) (by decide +kernel)
theorem wd593 : Cond.instanceMethod yX4_fire ∈ GW := gw_of 593 (by decide +kernel) (by decide +kernel)
theorem wd594 : Cond.selects RX4 yX4_fire yX4_fire ∈ GW := gw_of 594 (by decide +kernel) (by decide +kernel)
theorem wd595 : Cond.code yX4_fire cX4_fire 9 (some .long) ∈ GW := gw_of 595 (by decide +kernel) (by decide +kernel)
theorem wd596 : Cond.methodLink RX4 249 yX4_refusedLong ∈ GW := gw_of 596 (by decide +kernel) (by decide +kernel)
theorem wd598 : Cond.instanceMethod yX4_refusedLong ∈ GW := gw_of 598 (by decide +kernel) (by decide +kernel)
theorem wd599 : Cond.code yX4_refusedLong cX4_refusedLong 2 (some .long) ∈ GW := gw_of 599 (by decide +kernel) (by decide +kernel)
theorem wd600 : Cond.constantLong RX4 299 (4000000000000000000) ∈ GW := gw_of 600 (by decide +kernel) (by decide +kernel)
theorem wd601 : Cond.methodLink RX4 253 yX4_isInBehindFires ∈ GW := gw_of 601 (by decide +kernel) (by decide +kernel)
theorem wd603 : Cond.instanceMethod yX4_isInBehindFires ∈ GW := gw_of 603 (by decide +kernel) (by decide +kernel)
theorem wd604 : Cond.code yX4_isInBehindFires cX4_isInBehindFires 6 (some .boolean) ∈ GW := gw_of 604 (by decide +kernel) (by decide +kernel)
theorem wd605 : Cond.methodLink RX4 257 yX4_power ∈ GW := gw_of 605 (by decide +kernel) (by decide +kernel)
theorem wd606 : Cond.static yX4_power ∈ GW := gw_of 606 (by decide +kernel) (by decide +kernel)
theorem wd607 : Cond.code yX4_power cX4_power 5 (some .long) ∈ GW := gw_of 607 (by decide +kernel) (by decide +kernel)
theorem wd608 : Cond.methodLink RX4 261 yX4_partOf ∈ GW := gw_of 608 (by decide +kernel) (by decide +kernel)
theorem wd609 : Cond.static yX4_partOf ∈ GW := gw_of 609 (by decide +kernel) (by decide +kernel)
theorem wd610 : Cond.code yX4_partOf cX4_partOf 7 (some .long) ∈ GW := gw_of 610 (by decide +kernel) (by decide +kernel)
theorem wd611 : Cond.methodLink RX4 307 yX4_commonDivisor ∈ GW := gw_of 611 (by decide +kernel) (by decide +kernel)
theorem wd612 : Cond.static yX4_commonDivisor ∈ GW := gw_of 612 (by decide +kernel) (by decide +kernel)
theorem wd613 : Cond.code yX4_commonDivisor cX4_commonDivisor 11 (some .long) ∈ GW := gw_of 613 (by decide +kernel) (by decide +kernel)
theorem wd614 : Cond.methodLink RL 142 yX4_mean ∈ GW := gw_of 614 (by decide +kernel) (by decide +kernel)
theorem wd615 : Cond.instanceMethod yX4_mean ∈ GW := gw_of 615 (by decide +kernel) (by decide +kernel)
theorem wd616 : Cond.selects RX4 yX4_mean yX4_mean ∈ GW := gw_of 616 (by decide +kernel) (by decide +kernel)
theorem wd617 : Cond.code yX4_mean cX4_mean 2 (some .long) ∈ GW := gw_of 617 (by decide +kernel) (by decide +kernel)
theorem wd618 : Cond.methodLink RX4 265 yX3_moodsTogether ∈ GW := gw_of 618 (by decide +kernel) (by decide +kernel)
theorem wd619 : Cond.instanceMethod yX3_moodsTogether ∈ GW := gw_of 619 (by decide +kernel) (by decide +kernel)
theorem wd620 : Cond.selects RX3 yX3_moodsTogether yX3_moodsTogether ∈ GW := gw_of 620 (by decide +kernel) (by decide +kernel)
theorem wd621 : Cond.code yX3_moodsTogether cX3_moodsTogether 3 (some .int) ∈ GW := gw_of 621 (by decide +kernel) (by decide +kernel)
theorem wd622 : Cond.methodLink RL 147 yX4_whatIs ∈ GW := gw_of 622 (by decide +kernel) (by decide +kernel)
theorem wd623 : Cond.instanceMethod yX4_whatIs ∈ GW := gw_of 623 (by decide +kernel) (by decide +kernel)
theorem wd624 : Cond.selects RX4 yX4_whatIs yX4_whatIs ∈ GW := gw_of 624 (by decide +kernel) (by decide +kernel)
theorem wd625 : Cond.code yX4_whatIs cX4_whatIs 4 (some .int) ∈ GW := gw_of 625 (by decide +kernel) (by decide +kernel)
theorem wd626 : Cond.methodLink RX4 268 yX4_kindsByRow ∈ GW := gw_of 626 (by decide +kernel) (by decide +kernel)
theorem wd628 : Cond.instanceMethod yX4_kindsByRow ∈ GW := gw_of 628 (by decide +kernel) (by decide +kernel)
theorem wd629 : Cond.code yX4_kindsByRow cX4_kindsByRow 5 (some .int) ∈ GW := gw_of 629 (by decide +kernel) (by decide +kernel)
theorem wd630 : Cond.methodLink RX4 274 yX4_isMindAsRow ∈ GW := gw_of 630 (by decide +kernel) (by decide +kernel)
theorem wd632 : Cond.instanceMethod yX4_isMindAsRow ∈ GW := gw_of 632 (by decide +kernel) (by decide +kernel)
theorem wd633 : Cond.code yX4_isMindAsRow cX4_isMindAsRow 3 (some .boolean) ∈ GW := gw_of 633 (by decide +kernel) (by decide +kernel)
theorem wd634 : Cond.methodLink RX4 271 yX4_goalsByRow ∈ GW := gw_of 634 (by decide +kernel) (by decide +kernel)
theorem wd636 : Cond.instanceMethod yX4_goalsByRow ∈ GW := gw_of 636 (by decide +kernel) (by decide +kernel)
theorem wd637 : Cond.code yX4_goalsByRow cX4_goalsByRow 4 (some .int) ∈ GW := gw_of 637 (by decide +kernel) (by decide +kernel)
theorem wd638 : Cond.methodLink RL 151 yX4_row ∈ GW := gw_of 638 (by decide +kernel) (by decide +kernel)
theorem wd639 : Cond.instanceMethod yX4_row ∈ GW := gw_of 639 (by decide +kernel) (by decide +kernel)
theorem wd640 : Cond.selects RX4 yX4_row yX4_row ∈ GW := gw_of 640 (by decide +kernel) (by decide +kernel)
theorem wd641 : Cond.code yX4_row cX4_row 2 (some .int) ∈ GW := gw_of 641 (by decide +kernel) (by decide +kernel)
theorem wd642 : Cond.methodLink RL 155 yX4_judge ∈ GW := gw_of 642 (by decide +kernel) (by decide +kernel)
theorem wd643 : Cond.instanceMethod yX4_judge ∈ GW := gw_of 643 (by decide +kernel) (by decide +kernel)
theorem wd644 : Cond.selects RX4 yX4_judge yX4_judge ∈ GW := gw_of 644 (by decide +kernel) (by decide +kernel)
theorem wd645 : Cond.code yX4_judge cX4_judge 3 (some .int) ∈ GW := gw_of 645 (by decide +kernel) (by decide +kernel)
theorem wd646 : Cond.methodLink RL 159 yX4_clear ∈ GW := gw_of 646 (by decide +kernel) (by decide +kernel)
theorem wd647 : Cond.instanceMethod yX4_clear ∈ GW := gw_of 647 (by decide +kernel) (by decide +kernel)
theorem wd648 : Cond.selects RX4 yX4_clear yX4_clear ∈ GW := gw_of 648 (by decide +kernel) (by decide +kernel)
theorem wd649 : Cond.code yX4_clear cX4_clear 1 (some .int) ∈ GW := gw_of 649 (by decide +kernel) (by decide +kernel)
theorem wd650 : Cond.methodLink RL 163 yX4_lots ∈ GW := gw_of 650 (by decide +kernel) (by decide +kernel)
theorem wd651 : Cond.instanceMethod yX4_lots ∈ GW := gw_of 651 (by decide +kernel) (by decide +kernel)
theorem wd652 : Cond.selects RX4 yX4_lots yX4_lots ∈ GW := gw_of 652 (by decide +kernel) (by decide +kernel)
theorem wd653 : Cond.code yX4_lots cX4_lots 8 (some .int) ∈ GW := gw_of 653 (by decide +kernel) (by decide +kernel)
theorem wd654 : Cond.methodLink RX4 280 yX4_placeByLot ∈ GW := gw_of 654 (by decide +kernel) (by decide +kernel)
theorem wd656 : Cond.instanceMethod yX4_placeByLot ∈ GW := gw_of 656 (by decide +kernel) (by decide +kernel)
theorem wd657 : Cond.code yX4_placeByLot cX4_placeByLot 4 (some .int) ∈ GW := gw_of 657 (by decide +kernel) (by decide +kernel)
theorem wd658 : Cond.methodLink RX4 283 yX4_nextSeed ∈ GW := gw_of 658 (by decide +kernel) (by decide +kernel)
theorem wd659 : Cond.static yX4_nextSeed ∈ GW := gw_of 659 (by decide +kernel) (by decide +kernel)
theorem wd660 : Cond.code yX4_nextSeed cX4_nextSeed 1 (some .int) ∈ GW := gw_of 660 (by decide +kernel) (by decide +kernel)
theorem wd661 : Cond.constant RX4 289 (1664525) ∈ GW := gw_of 661 (by decide +kernel) (by decide +kernel)
theorem wd662 : Cond.constant RX4 290 (1013904223) ∈ GW := gw_of 662 (by decide +kernel) (by decide +kernel)
theorem wd663 : Cond.methodLink RX4 286 yX4_draw ∈ GW := gw_of 663 (by decide +kernel) (by decide +kernel)
theorem wd664 : Cond.static yX4_draw ∈ GW := gw_of 664 (by decide +kernel) (by decide +kernel)
theorem wd665 : Cond.code yX4_draw cX4_draw 1 (some .int) ∈ GW := gw_of 665 (by decide +kernel) (by decide +kernel)
theorem wd666 : Cond.constant RX4 291 (2147483647) ∈ GW := gw_of 666 (by decide +kernel) (by decide +kernel)
theorem wd667 : Cond.methodLink RL 167 yX4_image ∈ GW := gw_of 667 (by decide +kernel) (by decide +kernel)
theorem wd668 : Cond.instanceMethod yX4_image ∈ GW := gw_of 668 (by decide +kernel) (by decide +kernel)
theorem wd669 : Cond.selects RX4 yX4_image yX4_image ∈ GW := gw_of 669 (by decide +kernel) (by decide +kernel)
theorem wd670 : Cond.code yX4_image cX4_image 1 (some .int) ∈ GW := gw_of 670 (by decide +kernel) (by decide +kernel)
theorem wd671 : Cond.methodLink RL 171 yX4_on ∈ GW := gw_of 671 (by decide +kernel) (by decide +kernel)
theorem wd672 : Cond.instanceMethod yX4_on ∈ GW := gw_of 672 (by decide +kernel) (by decide +kernel)
theorem wd673 : Cond.selects RX4 yX4_on yX4_on ∈ GW := gw_of 673 (by decide +kernel) (by decide +kernel)
theorem wd674 : Cond.code yX4_on cX4_on 1 (some .int) ∈ GW := gw_of 674 (by decide +kernel) (by decide +kernel)
theorem wd675 : Cond.methodLink RL 175 yX4_count ∈ GW := gw_of 675 (by decide +kernel) (by decide +kernel)
theorem wd676 : Cond.instanceMethod yX4_count ∈ GW := gw_of 676 (by decide +kernel) (by decide +kernel)
theorem wd677 : Cond.selects RX4 yX4_count yX4_count ∈ GW := gw_of 677 (by decide +kernel) (by decide +kernel)
theorem wd678 : Cond.code yX4_count cX4_count 2 (some .int) ∈ GW := gw_of 678 (by decide +kernel) (by decide +kernel)
theorem wd679 : Cond.methodLink RX4 296 yX3_homeBits ∈ GW := gw_of 679 (by decide +kernel) (by decide +kernel)
theorem wd680 : Cond.classLink RL 10 RX5 ∈ GW := gw_of 680 (by decide +kernel) (by decide +kernel)
theorem wd681 : Cond.instantiable RX5 14 ∈ GW := gw_of 681 (by decide +kernel) (by decide +kernel)
theorem wd682 : Cond.methodLink RL 12 yX5_init ∈ GW := gw_of 682 (by decide +kernel) (by decide +kernel)
theorem wd683 : Cond.instanceMethod yX5_init ∈ GW := gw_of 683 (by decide +kernel) (by decide +kernel)
theorem wd684 : Cond.code yX5_init cX5_init 1 none ∈ GW := gw_of 684 (by decide +kernel) (by decide +kernel)
theorem wd685 : Cond.methodLink RX5 1 objectInit ∈ GW := gw_of 685 (by decide +kernel) (by decide +kernel)
theorem wd686 : Cond.fieldLink RX5 9 RX5 "s" "[I" ∈ GW := gw_of 686 (by decide +kernel) (by decide +kernel)
theorem wd687 : Cond.fieldLink RX5 13 RX5 "m" "[I" ∈ GW := gw_of 687 (by decide +kernel) (by decide +kernel)
theorem wd688 : Cond.fieldLink RX5 16 RX5 "image" "[I" ∈ GW := gw_of 688 (by decide +kernel) (by decide +kernel)
theorem wd689 : Cond.fieldLink RX5 19 RX5 "was" "[I" ∈ GW := gw_of 689 (by decide +kernel) (by decide +kernel)
theorem wd690 : Cond.fieldLink RX5 22 RX5 "far" "[I" ∈ GW := gw_of 690 (by decide +kernel) (by decide +kernel)
theorem wd691 : Cond.fieldLink RX5 224 RX5 "hasImage" "Z" ∈ GW := gw_of 691 (by decide +kernel) (by decide +kernel)
theorem wd692 : Cond.fieldLink RX5 25 RX5 "letters" "[I" ∈ GW := gw_of 692 (by decide +kernel) (by decide +kernel)
theorem wd693 : Cond.fieldLink RX5 28 RX5 "row" "[I" ∈ GW := gw_of 693 (by decide +kernel) (by decide +kernel)
theorem wd694 : Cond.fieldLink RX5 31 RX5 "refused" "[I" ∈ GW := gw_of 694 (by decide +kernel) (by decide +kernel)
theorem wd695 : Cond.fieldLink RX5 90 RX5 "letterMany" "I" ∈ GW := gw_of 695 (by decide +kernel) (by decide +kernel)
theorem wd696 : Cond.fieldLink RX5 212 RX5 "rowMany" "I" ∈ GW := gw_of 696 (by decide +kernel) (by decide +kernel)
theorem wd697 : Cond.fieldLink RX5 94 RX5 "place" "I" ∈ GW := gw_of 697 (by decide +kernel) (by decide +kernel)
theorem wd698 : Cond.fieldLink RX5 34 RX5 "numbers" "[I" ∈ GW := gw_of 698 (by decide +kernel) (by decide +kernel)
theorem wd699 : Cond.fieldLink RX5 215 RX5 "seed" "I" ∈ GW := gw_of 699 (by decide +kernel) (by decide +kernel)
theorem wd700 : Cond.laysFinal RX5 RX5 "s" "[I" ∈ GW := gw_of 700 (by decide +kernel) (by decide +kernel)
theorem wd702 : Cond.laysFinal RX5 RX5 "m" "[I" ∈ GW := gw_of 702 (by decide +kernel) (by decide +kernel)
theorem wd704 : Cond.laysFinal RX5 RX5 "image" "[I" ∈ GW := gw_of 704 (by decide +kernel) (by decide +kernel)
theorem wd706 : Cond.laysFinal RX5 RX5 "was" "[I" ∈ GW := gw_of 706 (by decide +kernel) (by decide +kernel)
theorem wd708 : Cond.laysFinal RX5 RX5 "far" "[I" ∈ GW := gw_of 708 (by decide +kernel) (by decide +kernel)
theorem wd710 : Cond.lays RX5 RX5 "hasImage" "Z" ∈ GW := gw_of 710 (by decide +kernel) (by decide +kernel)
theorem wd712 : Cond.laysFinal RX5 RX5 "letters" "[I" ∈ GW := gw_of 712 (by decide +kernel) (by decide +kernel)
theorem wd714 : Cond.laysFinal RX5 RX5 "row" "[I" ∈ GW := gw_of 714 (by decide +kernel) (by decide +kernel)
theorem wd716 : Cond.laysFinal RX5 RX5 "refused" "[I" ∈ GW := gw_of 716 (by decide +kernel) (by decide +kernel)
theorem wd718 : Cond.lays RX5 RX5 "letterMany" "I" ∈ GW := gw_of 718 (by decide +kernel) (by decide +kernel)
theorem wd720 : Cond.lays RX5 RX5 "rowMany" "I" ∈ GW := gw_of 720 (by decide +kernel) (by decide +kernel)
theorem wd722 : Cond.lays RX5 RX5 "place" "I" ∈ GW := gw_of 722 (by decide +kernel) (by decide +kernel)
theorem wd724 : Cond.laysFinal RX5 RX5 "numbers" "[I" ∈ GW := gw_of 724 (by decide +kernel) (by decide +kernel)
theorem wd726 : Cond.lays RX5 RX5 "seed" "I" ∈ GW := gw_of 726 (by decide +kernel) (by decide +kernel)
theorem wd729 : Cond.methodLink RL 17 yX5_letter ∈ GW := gw_of 729 (by decide +kernel) (by decide +kernel)
theorem wd730 : Cond.instanceMethod yX5_letter ∈ GW := gw_of 730 (by decide +kernel) (by decide +kernel)
theorem wd731 : Cond.selects RX5 yX5_letter yX5_letter ∈ GW := gw_of 731 (by decide +kernel) (by decide +kernel)
theorem wd732 : Cond.code yX5_letter cX5_letter 2 (some .int) ∈ GW := gw_of 732 (by decide +kernel) (by decide +kernel)
theorem wd733 : Cond.methodLink RX5 39 yX5_no ∈ GW := gw_of 733 (by decide +kernel) (by decide +kernel)
theorem wd735 : Cond.instanceMethod yX5_no ∈ GW := gw_of 735 (by decide +kernel) (by decide +kernel)
theorem wd736 : Cond.code yX5_no cX5_no 2 (some .int) ∈ GW := gw_of 736 (by decide +kernel) (by decide +kernel)
theorem wd737 : Cond.methodLink RL 22 yX5_town ∈ GW := gw_of 737 (by decide +kernel) (by decide +kernel)
theorem wd738 : Cond.instanceMethod yX5_town ∈ GW := gw_of 738 (by decide +kernel) (by decide +kernel)
theorem wd739 : Cond.selects RX5 yX5_town yX5_town ∈ GW := gw_of 739 (by decide +kernel) (by decide +kernel)
theorem wd740 : Cond.code yX5_town cX5_town 6 (some .int) ∈ GW := gw_of 740 (by decide +kernel) (by decide +kernel)
theorem wd741 : Cond.methodLink RX5 135 yX5_readsStatement ∈ GW := gw_of 741 (by decide +kernel) (by decide +kernel)
theorem wd743 : Cond.instanceMethod yX5_readsStatement ∈ GW := gw_of 743 (by decide +kernel) (by decide +kernel)
theorem wd744 : Cond.code yX5_readsStatement cX5_readsStatement 3 (some .boolean) ∈ GW := gw_of 744 (by decide +kernel) (by decide +kernel)
theorem wd745 : Cond.methodLink RX5 97 yX5_here ∈ GW := gw_of 745 (by decide +kernel) (by decide +kernel)
theorem wd747 : Cond.instanceMethod yX5_here ∈ GW := gw_of 747 (by decide +kernel) (by decide +kernel)
theorem wd748 : Cond.code yX5_here cX5_here 1 (some .int) ∈ GW := gw_of 748 (by decide +kernel) (by decide +kernel)
theorem wd749 : Cond.methodLink RX5 104 yX5_readsKind ∈ GW := gw_of 749 (by decide +kernel) (by decide +kernel)
theorem wd751 : Cond.instanceMethod yX5_readsKind ∈ GW := gw_of 751 (by decide +kernel) (by decide +kernel)
theorem wd752 : Cond.code yX5_readsKind cX5_readsKind 1 (some .boolean) ∈ GW := gw_of 752 (by decide +kernel) (by decide +kernel)
theorem wd753 : Cond.methodLink RX5 101 yX5_kindBy ∈ GW := gw_of 753 (by decide +kernel) (by decide +kernel)
theorem wd754 : Cond.static yX5_kindBy ∈ GW := gw_of 754 (by decide +kernel) (by decide +kernel)
theorem wd755 : Cond.code yX5_kindBy cX5_kindBy 1 (some .int) ∈ GW := gw_of 755 (by decide +kernel) (by decide +kernel)
theorem wd756 : Cond.methodLink RX5 108 yX5_readsNumber ∈ GW := gw_of 756 (by decide +kernel) (by decide +kernel)
theorem wd758 : Cond.instanceMethod yX5_readsNumber ∈ GW := gw_of 758 (by decide +kernel) (by decide +kernel)
theorem wd759 : Cond.code yX5_readsNumber cX5_readsNumber 4 (some .boolean) ∈ GW := gw_of 759 (by decide +kernel) (by decide +kernel)
theorem wd760 : Cond.methodLink RX5 43 yX5_isIn ∈ GW := gw_of 760 (by decide +kernel) (by decide +kernel)
theorem wd761 : Cond.static yX5_isIn ∈ GW := gw_of 761 (by decide +kernel) (by decide +kernel)
theorem wd762 : Cond.code yX5_isIn cX5_isIn 3 (some .boolean) ∈ GW := gw_of 762 (by decide +kernel) (by decide +kernel)
theorem wd763 : Cond.methodLink RX5 138 yX5_copies ∈ GW := gw_of 763 (by decide +kernel) (by decide +kernel)
theorem wd764 : Cond.static yX5_copies ∈ GW := gw_of 764 (by decide +kernel) (by decide +kernel)
theorem wd765 : Cond.code yX5_copies cX5_copies 3 none ∈ GW := gw_of 765 (by decide +kernel) (by decide +kernel)
theorem wd766 : Cond.methodLink RX5 142 yX5_isDone ∈ GW := gw_of 766 (by decide +kernel) (by decide +kernel)
theorem wd768 : Cond.instanceMethod yX5_isDone ∈ GW := gw_of 768 (by decide +kernel) (by decide +kernel)
theorem wd769 : Cond.code yX5_isDone cX5_isDone 4 (some .boolean) ∈ GW := gw_of 769 (by decide +kernel) (by decide +kernel)
theorem wd770 : Cond.methodLink RX5 115 yX5_addsDoor ∈ GW := gw_of 770 (by decide +kernel) (by decide +kernel)
theorem wd772 : Cond.instanceMethod yX5_addsDoor ∈ GW := gw_of 772 (by decide +kernel) (by decide +kernel)
theorem wd773 : Cond.code yX5_addsDoor cX5_addsDoor 2 (some .boolean) ∈ GW := gw_of 773 (by decide +kernel) (by decide +kernel)
theorem wd774 : Cond.methodLink RX5 111 yX5_isRoom ∈ GW := gw_of 774 (by decide +kernel) (by decide +kernel)
theorem wd775 : Cond.static yX5_isRoom ∈ GW := gw_of 775 (by decide +kernel) (by decide +kernel)
theorem wd776 : Cond.code yX5_isRoom cX5_isRoom 1 (some .boolean) ∈ GW := gw_of 776 (by decide +kernel) (by decide +kernel)
theorem wd777 : Cond.methodLink RX5 55 yX5_ofD ∈ GW := gw_of 777 (by decide +kernel) (by decide +kernel)
theorem wd778 : Cond.static yX5_ofD ∈ GW := gw_of 778 (by decide +kernel) (by decide +kernel)
theorem wd779 : Cond.code yX5_ofD cX5_ofD 2 (some .int) ∈ GW := gw_of 779 (by decide +kernel) (by decide +kernel)
theorem wd780 : Cond.methodLink RX5 118 yX5_adds ∈ GW := gw_of 780 (by decide +kernel) (by decide +kernel)
theorem wd781 : Cond.static yX5_adds ∈ GW := gw_of 781 (by decide +kernel) (by decide +kernel)
theorem wd782 : Cond.code yX5_adds cX5_adds 5 none ∈ GW := gw_of 782 (by decide +kernel) (by decide +kernel)
theorem wd783 : Cond.methodLink RX5 51 yX5_ofP ∈ GW := gw_of 783 (by decide +kernel) (by decide +kernel)
theorem wd784 : Cond.static yX5_ofP ∈ GW := gw_of 784 (by decide +kernel) (by decide +kernel)
theorem wd785 : Cond.code yX5_ofP cX5_ofP 2 (some .int) ∈ GW := gw_of 785 (by decide +kernel) (by decide +kernel)
theorem wd786 : Cond.methodLink RX5 122 yX5_isPerson ∈ GW := gw_of 786 (by decide +kernel) (by decide +kernel)
theorem wd788 : Cond.instanceMethod yX5_isPerson ∈ GW := gw_of 788 (by decide +kernel) (by decide +kernel)
theorem wd789 : Cond.code yX5_isPerson cX5_isPerson 2 (some .boolean) ∈ GW := gw_of 789 (by decide +kernel) (by decide +kernel)
theorem wd790 : Cond.methodLink RX5 125 yX5_isDoor ∈ GW := gw_of 790 (by decide +kernel) (by decide +kernel)
theorem wd792 : Cond.instanceMethod yX5_isDoor ∈ GW := gw_of 792 (by decide +kernel) (by decide +kernel)
theorem wd793 : Cond.code yX5_isDoor cX5_isDoor 2 (some .boolean) ∈ GW := gw_of 793 (by decide +kernel) (by decide +kernel)
theorem wd794 : Cond.methodLink RX5 128 yX5_turnsIn ∈ GW := gw_of 794 (by decide +kernel) (by decide +kernel)
theorem wd795 : Cond.static yX5_turnsIn ∈ GW := gw_of 795 (by decide +kernel) (by decide +kernel)
theorem wd796 : Cond.code yX5_turnsIn cX5_turnsIn 3 none ∈ GW := gw_of 796 (by decide +kernel) (by decide +kernel)
theorem wd797 : Cond.methodLink RX5 132 yX5_hoursOn ∈ GW := gw_of 797 (by decide +kernel) (by decide +kernel)
theorem wd799 : Cond.instanceMethod yX5_hoursOn ∈ GW := gw_of 799 (by decide +kernel) (by decide +kernel)
theorem wd800 : Cond.code yX5_hoursOn cX5_hoursOn 4 none ∈ GW := gw_of 800 (by decide +kernel) (by decide +kernel)
theorem wd801 : Cond.methodLink RX5 83 yX5_measures ∈ GW := gw_of 801 (by decide +kernel) (by decide +kernel)
theorem wd803 : Cond.instanceMethod yX5_measures ∈ GW := gw_of 803 (by decide +kernel) (by decide +kernel)
theorem wd804 : Cond.code yX5_measures cX5_measures 5 none ∈ GW := gw_of 804 (by decide +kernel) (by decide +kernel)
theorem wd805 : Cond.methodLink RX5 66 yX5_least ∈ GW := gw_of 805 (by decide +kernel) (by decide +kernel)
theorem wd806 : Cond.static yX5_least ∈ GW := gw_of 806 (by decide +kernel) (by decide +kernel)
theorem wd807 : Cond.code yX5_least cX5_least 2 (some .int) ∈ GW := gw_of 807 (by decide +kernel) (by decide +kernel)
theorem wd808 : Cond.methodLink RX5 87 yX5_hour ∈ GW := gw_of 808 (by decide +kernel) (by decide +kernel)
theorem wd810 : Cond.instanceMethod yX5_hour ∈ GW := gw_of 810 (by decide +kernel) (by decide +kernel)
theorem wd811 : Cond.code yX5_hour cX5_hour 4 none ∈ GW := gw_of 811 (by decide +kernel) (by decide +kernel)
theorem wd812 : Cond.methodLink RX5 47 yX5_has ∈ GW := gw_of 812 (by decide +kernel) (by decide +kernel)
theorem wd813 : Cond.static yX5_has ∈ GW := gw_of 813 (by decide +kernel) (by decide +kernel)
theorem wd814 : Cond.code yX5_has cX5_has 2 (some .boolean) ∈ GW := gw_of 814 (by decide +kernel) (by decide +kernel)
theorem wd815 : Cond.methodLink RX5 79 yX5_doorOf ∈ GW := gw_of 815 (by decide +kernel) (by decide +kernel)
theorem wd817 : Cond.instanceMethod yX5_doorOf ∈ GW := gw_of 817 (by decide +kernel) (by decide +kernel)
theorem wd818 : Cond.code yX5_doorOf cX5_doorOf 7 (some .int) ∈ GW := gw_of 818 (by decide +kernel) (by decide +kernel)
theorem wd819 : Cond.methodLink RX5 72 yX5_isOnWay ∈ GW := gw_of 819 (by decide +kernel) (by decide +kernel)
theorem wd821 : Cond.instanceMethod yX5_isOnWay ∈ GW := gw_of 821 (by decide +kernel) (by decide +kernel)
theorem wd822 : Cond.code yX5_isOnWay cX5_isOnWay 5 (some .boolean) ∈ GW := gw_of 822 (by decide +kernel) (by decide +kernel)
theorem wd823 : Cond.methodLink RX5 69 yX5_wayOf ∈ GW := gw_of 823 (by decide +kernel) (by decide +kernel)
theorem wd825 : Cond.instanceMethod yX5_wayOf ∈ GW := gw_of 825 (by decide +kernel) (by decide +kernel)
theorem wd826 : Cond.code yX5_wayOf cX5_wayOf 3 (some .int) ∈ GW := gw_of 826 (by decide +kernel) (by decide +kernel)
theorem wd827 : Cond.methodLink RX5 76 yX5_opens ∈ GW := gw_of 827 (by decide +kernel) (by decide +kernel)
theorem wd828 : Cond.static yX5_opens ∈ GW := gw_of 828 (by decide +kernel) (by decide +kernel)
theorem wd829 : Cond.code yX5_opens cX5_opens 7 (some .boolean) ∈ GW := gw_of 829 (by decide +kernel) (by decide +kernel)
theorem wd830 : Cond.methodLink RX5 58 yX5_isThere ∈ GW := gw_of 830 (by decide +kernel) (by decide +kernel)
theorem wd831 : Cond.static yX5_isThere ∈ GW := gw_of 831 (by decide +kernel) (by decide +kernel)
theorem wd832 : Cond.code yX5_isThere cX5_isThere 3 (some .boolean) ∈ GW := gw_of 832 (by decide +kernel) (by decide +kernel)
theorem wd833 : Cond.methodLink RX5 62 yX5_opensBy ∈ GW := gw_of 833 (by decide +kernel) (by decide +kernel)
theorem wd834 : Cond.static yX5_opensBy ∈ GW := gw_of 834 (by decide +kernel) (by decide +kernel)
theorem wd835 : Cond.code yX5_opensBy cX5_opensBy 7 (some .boolean) ∈ GW := gw_of 835 (by decide +kernel) (by decide +kernel)
theorem wd836 : Cond.methodLink RL 27 yX5_door ∈ GW := gw_of 836 (by decide +kernel) (by decide +kernel)
theorem wd837 : Cond.instanceMethod yX5_door ∈ GW := gw_of 837 (by decide +kernel) (by decide +kernel)
theorem wd838 : Cond.selects RX5 yX5_door yX5_door ∈ GW := gw_of 838 (by decide +kernel) (by decide +kernel)
theorem wd839 : Cond.code yX5_door cX5_door 3 (some .int) ∈ GW := gw_of 839 (by decide +kernel) (by decide +kernel)
theorem wd840 : Cond.methodLink RL 31 yX5_person ∈ GW := gw_of 840 (by decide +kernel) (by decide +kernel)
theorem wd841 : Cond.instanceMethod yX5_person ∈ GW := gw_of 841 (by decide +kernel) (by decide +kernel)
theorem wd842 : Cond.selects RX5 yX5_person yX5_person ∈ GW := gw_of 842 (by decide +kernel) (by decide +kernel)
theorem wd843 : Cond.code yX5_person cX5_person 3 (some .int) ∈ GW := gw_of 843 (by decide +kernel) (by decide +kernel)
theorem wd844 : Cond.methodLink RL 35 yX5_wedges ∈ GW := gw_of 844 (by decide +kernel) (by decide +kernel)
theorem wd845 : Cond.instanceMethod yX5_wedges ∈ GW := gw_of 845 (by decide +kernel) (by decide +kernel)
theorem wd846 : Cond.selects RX5 yX5_wedges yX5_wedges ∈ GW := gw_of 846 (by decide +kernel) (by decide +kernel)
theorem wd847 : Cond.code yX5_wedges cX5_wedges 2 (some .int) ∈ GW := gw_of 847 (by decide +kernel) (by decide +kernel)
theorem wd848 : Cond.methodLink RL 39 yX5_turns ∈ GW := gw_of 848 (by decide +kernel) (by decide +kernel)
theorem wd849 : Cond.instanceMethod yX5_turns ∈ GW := gw_of 849 (by decide +kernel) (by decide +kernel)
theorem wd850 : Cond.selects RX5 yX5_turns yX5_turns ∈ GW := gw_of 850 (by decide +kernel) (by decide +kernel)
theorem wd851 : Cond.code yX5_turns cX5_turns 2 (some .int) ∈ GW := gw_of 851 (by decide +kernel) (by decide +kernel)
theorem wd852 : Cond.methodLink RL 43 yX5_stands ∈ GW := gw_of 852 (by decide +kernel) (by decide +kernel)
theorem wd853 : Cond.instanceMethod yX5_stands ∈ GW := gw_of 853 (by decide +kernel) (by decide +kernel)
theorem wd854 : Cond.selects RX5 yX5_stands yX5_stands ∈ GW := gw_of 854 (by decide +kernel) (by decide +kernel)
theorem wd855 : Cond.code yX5_stands cX5_stands 3 (some .int) ∈ GW := gw_of 855 (by decide +kernel) (by decide +kernel)
theorem wd856 : Cond.methodLink RX5 148 yX5_sets ∈ GW := gw_of 856 (by decide +kernel) (by decide +kernel)
theorem wd858 : Cond.instanceMethod yX5_sets ∈ GW := gw_of 858 (by decide +kernel) (by decide +kernel)
theorem wd859 : Cond.code yX5_sets cX5_sets 5 (some .int) ∈ GW := gw_of 859 (by decide +kernel) (by decide +kernel)
theorem wd860 : Cond.methodLink RX5 145 yX5_areWrong ∈ GW := gw_of 860 (by decide +kernel) (by decide +kernel)
theorem wd862 : Cond.instanceMethod yX5_areWrong ∈ GW := gw_of 862 (by decide +kernel) (by decide +kernel)
theorem wd863 : Cond.code yX5_areWrong cX5_areWrong 3 (some .boolean) ∈ GW := gw_of 863 (by decide +kernel) (by decide +kernel)
theorem wd864 : Cond.methodLink RL 47 yX5_wants ∈ GW := gw_of 864 (by decide +kernel) (by decide +kernel)
theorem wd865 : Cond.instanceMethod yX5_wants ∈ GW := gw_of 865 (by decide +kernel) (by decide +kernel)
theorem wd866 : Cond.selects RX5 yX5_wants yX5_wants ∈ GW := gw_of 866 (by decide +kernel) (by decide +kernel)
theorem wd867 : Cond.code yX5_wants cX5_wants 3 (some .int) ∈ GW := gw_of 867 (by decide +kernel) (by decide +kernel)
theorem wd868 : Cond.methodLink RL 51 yX5_moods ∈ GW := gw_of 868 (by decide +kernel) (by decide +kernel)
theorem wd869 : Cond.instanceMethod yX5_moods ∈ GW := gw_of 869 (by decide +kernel) (by decide +kernel)
theorem wd870 : Cond.selects RX5 yX5_moods yX5_moods ∈ GW := gw_of 870 (by decide +kernel) (by decide +kernel)
theorem wd871 : Cond.code yX5_moods cX5_moods 5 (some .int) ∈ GW := gw_of 871 (by decide +kernel) (by decide +kernel)
theorem wd872 : Cond.methodLink RX5 152 yX5_wrongBy ∈ GW := gw_of 872 (by decide +kernel) (by decide +kernel)
theorem wd873 : Cond.static yX5_wrongBy ∈ GW := gw_of 873 (by decide +kernel) (by decide +kernel)
theorem wd874 : Cond.code yX5_wrongBy cX5_wrongBy 3 (some .int) ∈ GW := gw_of 874 (by decide +kernel) (by decide +kernel)
theorem wd875 : Cond.methodLink RL 56 yX5_changes ∈ GW := gw_of 875 (by decide +kernel) (by decide +kernel)
theorem wd876 : Cond.instanceMethod yX5_changes ∈ GW := gw_of 876 (by decide +kernel) (by decide +kernel)
theorem wd877 : Cond.selects RX5 yX5_changes yX5_changes ∈ GW := gw_of 877 (by decide +kernel) (by decide +kernel)
theorem wd878 : Cond.code yX5_changes cX5_changes 6 (some .int) ∈ GW := gw_of 878 (by decide +kernel) (by decide +kernel)
theorem wd879 : Cond.methodLink RL 60 yX5_hours ∈ GW := gw_of 879 (by decide +kernel) (by decide +kernel)
theorem wd880 : Cond.instanceMethod yX5_hours ∈ GW := gw_of 880 (by decide +kernel) (by decide +kernel)
theorem wd881 : Cond.selects RX5 yX5_hours yX5_hours ∈ GW := gw_of 881 (by decide +kernel) (by decide +kernel)
theorem wd882 : Cond.code yX5_hours cX5_hours 2 (some .int) ∈ GW := gw_of 882 (by decide +kernel) (by decide +kernel)
theorem wd883 : Cond.methodLink RX5 155 yX5_homeIn ∈ GW := gw_of 883 (by decide +kernel) (by decide +kernel)
theorem wd884 : Cond.static yX5_homeIn ∈ GW := gw_of 884 (by decide +kernel) (by decide +kernel)
theorem wd885 : Cond.code yX5_homeIn cX5_homeIn 3 (some .int) ∈ GW := gw_of 885 (by decide +kernel) (by decide +kernel)
theorem wd886 : Cond.methodLink RX5 159 yX5_bits ∈ GW := gw_of 886 (by decide +kernel) (by decide +kernel)
theorem wd887 : Cond.static yX5_bits ∈ GW := gw_of 887 (by decide +kernel) (by decide +kernel)
theorem wd888 : Cond.code yX5_bits cX5_bits 3 (some .int) ∈ GW := gw_of 888 (by decide +kernel) (by decide +kernel)
theorem wd889 : Cond.methodLink RL 64 yX5_personThen ∈ GW := gw_of 889 (by decide +kernel) (by decide +kernel)
theorem wd890 : Cond.instanceMethod yX5_personThen ∈ GW := gw_of 890 (by decide +kernel) (by decide +kernel)
theorem wd891 : Cond.selects RX5 yX5_personThen yX5_personThen ∈ GW := gw_of 891 (by decide +kernel) (by decide +kernel)
theorem wd892 : Cond.code yX5_personThen cX5_personThen 5 (some .int) ∈ GW := gw_of 892 (by decide +kernel) (by decide +kernel)
theorem wd893 : Cond.methodLink RX5 162 yX5_takes ∈ GW := gw_of 893 (by decide +kernel) (by decide +kernel)
theorem wd895 : Cond.instanceMethod yX5_takes ∈ GW := gw_of 895 (by decide +kernel) (by decide +kernel)
theorem wd896 : Cond.code yX5_takes cX5_takes 2 none ∈ GW := gw_of 896 (by decide +kernel) (by decide +kernel)
theorem wd897 : Cond.methodLink RL 68 yX5_letThen ∈ GW := gw_of 897 (by decide +kernel) (by decide +kernel)
theorem wd898 : Cond.instanceMethod yX5_letThen ∈ GW := gw_of 898 (by decide +kernel) (by decide +kernel)
theorem wd899 : Cond.selects RX5 yX5_letThen yX5_letThen ∈ GW := gw_of 899 (by decide +kernel) (by decide +kernel)
theorem wd900 : Cond.code yX5_letThen cX5_letThen 3 (some .int) ∈ GW := gw_of 900 (by decide +kernel) (by decide +kernel)
theorem wd901 : Cond.methodLink RL 72 yX5_comes ∈ GW := gw_of 901 (by decide +kernel) (by decide +kernel)
theorem wd902 : Cond.instanceMethod yX5_comes ∈ GW := gw_of 902 (by decide +kernel) (by decide +kernel)
theorem wd903 : Cond.selects RX5 yX5_comes yX5_comes ∈ GW := gw_of 903 (by decide +kernel) (by decide +kernel)
theorem wd904 : Cond.code yX5_comes cX5_comes 3 (some .int) ∈ GW := gw_of 904 (by decide +kernel) (by decide +kernel)
theorem wd905 : Cond.methodLink RX5 166 yX5_comesTo ∈ GW := gw_of 905 (by decide +kernel) (by decide +kernel)
theorem wd907 : Cond.instanceMethod yX5_comesTo ∈ GW := gw_of 907 (by decide +kernel) (by decide +kernel)
theorem wd908 : Cond.code yX5_comesTo cX5_comesTo 4 (some .int) ∈ GW := gw_of 908 (by decide +kernel) (by decide +kernel)
theorem wd909 : Cond.methodLink RL 76 yX5_home ∈ GW := gw_of 909 (by decide +kernel) (by decide +kernel)
theorem wd910 : Cond.instanceMethod yX5_home ∈ GW := gw_of 910 (by decide +kernel) (by decide +kernel)
theorem wd911 : Cond.selects RX5 yX5_home yX5_home ∈ GW := gw_of 911 (by decide +kernel) (by decide +kernel)
theorem wd912 : Cond.code yX5_home cX5_home 2 (some .int) ∈ GW := gw_of 912 (by decide +kernel) (by decide +kernel)
theorem wd913 : Cond.methodLink RX5 169 yX5_allHome ∈ GW := gw_of 913 (by decide +kernel) (by decide +kernel)
theorem wd915 : Cond.instanceMethod yX5_allHome ∈ GW := gw_of 915 (by decide +kernel) (by decide +kernel)
theorem wd916 : Cond.code yX5_allHome cX5_allHome 2 (some .int) ∈ GW := gw_of 916 (by decide +kernel) (by decide +kernel)
theorem wd917 : Cond.methodLink RL 80 yX5_shutIn ∈ GW := gw_of 917 (by decide +kernel) (by decide +kernel)
theorem wd918 : Cond.instanceMethod yX5_shutIn ∈ GW := gw_of 918 (by decide +kernel) (by decide +kernel)
theorem wd919 : Cond.selects RX5 yX5_shutIn yX5_shutIn ∈ GW := gw_of 919 (by decide +kernel) (by decide +kernel)
theorem wd920 : Cond.code yX5_shutIn cX5_shutIn 3 (some .int) ∈ GW := gw_of 920 (by decide +kernel) (by decide +kernel)
theorem wd921 : Cond.methodLink RL 84 yX5_stuck ∈ GW := gw_of 921 (by decide +kernel) (by decide +kernel)
theorem wd922 : Cond.instanceMethod yX5_stuck ∈ GW := gw_of 922 (by decide +kernel) (by decide +kernel)
theorem wd923 : Cond.selects RX5 yX5_stuck yX5_stuck ∈ GW := gw_of 923 (by decide +kernel) (by decide +kernel)
theorem wd924 : Cond.code yX5_stuck cX5_stuck 2 (some .int) ∈ GW := gw_of 924 (by decide +kernel) (by decide +kernel)
theorem wd925 : Cond.methodLink RX5 175 yX5_isStill ∈ GW := gw_of 925 (by decide +kernel) (by decide +kernel)
theorem wd927 : Cond.instanceMethod yX5_isStill ∈ GW := gw_of 927 (by decide +kernel) (by decide +kernel)
theorem wd928 : Cond.code yX5_isStill cX5_isStill 5 (some .boolean) ∈ GW := gw_of 928 (by decide +kernel) (by decide +kernel)
theorem wd929 : Cond.methodLink RX5 172 yX5_whereIn ∈ GW := gw_of 929 (by decide +kernel) (by decide +kernel)
theorem wd930 : Cond.static yX5_whereIn ∈ GW := gw_of 930 (by decide +kernel) (by decide +kernel)
theorem wd931 : Cond.code yX5_whereIn cX5_whereIn 3 (some .int) ∈ GW := gw_of 931 (by decide +kernel) (by decide +kernel)
theorem wd932 : Cond.methodLink RL 88 yX5_way ∈ GW := gw_of 932 (by decide +kernel) (by decide +kernel)
theorem wd933 : Cond.instanceMethod yX5_way ∈ GW := gw_of 933 (by decide +kernel) (by decide +kernel)
theorem wd934 : Cond.selects RX5 yX5_way yX5_way ∈ GW := gw_of 934 (by decide +kernel) (by decide +kernel)
theorem wd935 : Cond.code yX5_way cX5_way 5 (some .int) ∈ GW := gw_of 935 (by decide +kernel) (by decide +kernel)
theorem wd936 : Cond.methodLink RL 92 yX5_round ∈ GW := gw_of 936 (by decide +kernel) (by decide +kernel)
theorem wd937 : Cond.instanceMethod yX5_round ∈ GW := gw_of 937 (by decide +kernel) (by decide +kernel)
theorem wd938 : Cond.selects RX5 yX5_round yX5_round ∈ GW := gw_of 938 (by decide +kernel) (by decide +kernel)
theorem wd939 : Cond.code yX5_round cX5_round 4 (some .int) ∈ GW := gw_of 939 (by decide +kernel) (by decide +kernel)
theorem wd940 : Cond.methodLink RL 96 yX5_reach ∈ GW := gw_of 940 (by decide +kernel) (by decide +kernel)
theorem wd941 : Cond.instanceMethod yX5_reach ∈ GW := gw_of 941 (by decide +kernel) (by decide +kernel)
theorem wd942 : Cond.selects RX5 yX5_reach yX5_reach ∈ GW := gw_of 942 (by decide +kernel) (by decide +kernel)
theorem wd943 : Cond.code yX5_reach cX5_reach 4 (some .int) ∈ GW := gw_of 943 (by decide +kernel) (by decide +kernel)
theorem wd944 : Cond.methodLink RL 100 yX5_open ∈ GW := gw_of 944 (by decide +kernel) (by decide +kernel)
theorem wd945 : Cond.instanceMethod yX5_open ∈ GW := gw_of 945 (by decide +kernel) (by decide +kernel)
theorem wd946 : Cond.selects RX5 yX5_open yX5_open ∈ GW := gw_of 946 (by decide +kernel) (by decide +kernel)
theorem wd947 : Cond.code yX5_open cX5_open 3 (some .int) ∈ GW := gw_of 947 (by decide +kernel) (by decide +kernel)
theorem wd948 : Cond.methodLink RL 104 yX5_helper ∈ GW := gw_of 948 (by decide +kernel) (by decide +kernel)
theorem wd949 : Cond.instanceMethod yX5_helper ∈ GW := gw_of 949 (by decide +kernel) (by decide +kernel)
theorem wd950 : Cond.selects RX5 yX5_helper yX5_helper ∈ GW := gw_of 950 (by decide +kernel) (by decide +kernel)
theorem wd951 : Cond.code yX5_helper cX5_helper 8 (some .int) ∈ GW := gw_of 951 (by decide +kernel) (by decide +kernel)
theorem wd952 : Cond.methodLink RL 108 yX5_fewest ∈ GW := gw_of 952 (by decide +kernel) (by decide +kernel)
theorem wd953 : Cond.instanceMethod yX5_fewest ∈ GW := gw_of 953 (by decide +kernel) (by decide +kernel)
theorem wd954 : Cond.selects RX5 yX5_fewest yX5_fewest ∈ GW := gw_of 954 (by decide +kernel) (by decide +kernel)
theorem wd955 : Cond.code yX5_fewest cX5_fewest 7 (some .int) ∈ GW := gw_of 955 (by decide +kernel) (by decide +kernel)
theorem wd956 : Cond.methodLink RL 112 yX5_turn ∈ GW := gw_of 956 (by decide +kernel) (by decide +kernel)
theorem wd957 : Cond.instanceMethod yX5_turn ∈ GW := gw_of 957 (by decide +kernel) (by decide +kernel)
theorem wd958 : Cond.selects RX5 yX5_turn yX5_turn ∈ GW := gw_of 958 (by decide +kernel) (by decide +kernel)
theorem wd959 : Cond.code yX5_turn cX5_turn 3 (some .int) ∈ GW := gw_of 959 (by decide +kernel) (by decide +kernel)
theorem wd960 : Cond.methodLink RX5 178 yX5_bestDoor ∈ GW := gw_of 960 (by decide +kernel) (by decide +kernel)
theorem wd962 : Cond.instanceMethod yX5_bestDoor ∈ GW := gw_of 962 (by decide +kernel) (by decide +kernel)
theorem wd963 : Cond.code yX5_bestDoor cX5_bestDoor 6 (some .int) ∈ GW := gw_of 963 (by decide +kernel) (by decide +kernel)
theorem wd964 : Cond.methodLink RL 116 yX5_wedge ∈ GW := gw_of 964 (by decide +kernel) (by decide +kernel)
theorem wd965 : Cond.instanceMethod yX5_wedge ∈ GW := gw_of 965 (by decide +kernel) (by decide +kernel)
theorem wd966 : Cond.selects RX5 yX5_wedge yX5_wedge ∈ GW := gw_of 966 (by decide +kernel) (by decide +kernel)
theorem wd967 : Cond.code yX5_wedge cX5_wedge 3 (some .int) ∈ GW := gw_of 967 (by decide +kernel) (by decide +kernel)
theorem wd968 : Cond.methodLink RL 120 yX5_holds ∈ GW := gw_of 968 (by decide +kernel) (by decide +kernel)
theorem wd969 : Cond.instanceMethod yX5_holds ∈ GW := gw_of 969 (by decide +kernel) (by decide +kernel)
theorem wd970 : Cond.selects RX5 yX5_holds yX5_holds ∈ GW := gw_of 970 (by decide +kernel) (by decide +kernel)
theorem wd971 : Cond.code yX5_holds cX5_holds 8 (some .int) ∈ GW := gw_of 971 (by decide +kernel) (by decide +kernel)
theorem wd972 : Cond.constant RX5 182 (1000000000) ∈ GW := gw_of 972 (by decide +kernel) (by decide +kernel)
theorem wd973 : Cond.methodLink RL 124 yX5_crowd ∈ GW := gw_of 973 (by decide +kernel) (by decide +kernel)
theorem wd974 : Cond.instanceMethod yX5_crowd ∈ GW := gw_of 974 (by decide +kernel) (by decide +kernel)
theorem wd975 : Cond.selects RX5 yX5_crowd yX5_crowd ∈ GW := gw_of 975 (by decide +kernel) (by decide +kernel)
theorem wd976 : Cond.code yX5_crowd cX5_crowd 5 (some .int) ∈ GW := gw_of 976 (by decide +kernel) (by decide +kernel)
theorem wd977 : Cond.methodLink RX5 183 yX5_manyIn ∈ GW := gw_of 977 (by decide +kernel) (by decide +kernel)
theorem wd979 : Cond.instanceMethod yX5_manyIn ∈ GW := gw_of 979 (by decide +kernel) (by decide +kernel)
theorem wd980 : Cond.code yX5_manyIn cX5_manyIn 4 (some .int) ∈ GW := gw_of 980 (by decide +kernel) (by decide +kernel)
theorem wd981 : Cond.methodLink RX5 186 yX5_doorsBy ∈ GW := gw_of 981 (by decide +kernel) (by decide +kernel)
theorem wd983 : Cond.instanceMethod yX5_doorsBy ∈ GW := gw_of 983 (by decide +kernel) (by decide +kernel)
theorem wd984 : Cond.code yX5_doorsBy cX5_doorsBy 5 (some .int) ∈ GW := gw_of 984 (by decide +kernel) (by decide +kernel)
theorem wd985 : Cond.methodLink RL 128 yX5_handles ∈ GW := gw_of 985 (by decide +kernel) (by decide +kernel)
theorem wd986 : Cond.instanceMethod yX5_handles ∈ GW := gw_of 986 (by decide +kernel) (by decide +kernel)
theorem wd987 : Cond.selects RX5 yX5_handles yX5_handles ∈ GW := gw_of 987 (by decide +kernel) (by decide +kernel)
theorem wd988 : Cond.code yX5_handles cX5_handles 2 (some .int) ∈ GW := gw_of 988 (by decide +kernel) (by decide +kernel)
theorem wd989 : Cond.methodLink RL 132 yX5_meet ∈ GW := gw_of 989 (by decide +kernel) (by decide +kernel)
theorem wd990 : Cond.instanceMethod yX5_meet ∈ GW := gw_of 990 (by decide +kernel) (by decide +kernel)
theorem wd991 : Cond.selects RX5 yX5_meet yX5_meet ∈ GW := gw_of 991 (by decide +kernel) (by decide +kernel)
theorem wd992 : Cond.code yX5_meet cX5_meet 7 (some .int) ∈ GW := gw_of 992 (by decide +kernel) (by decide +kernel)
theorem wd993 : Cond.methodLink RL 136 yX5_two ∈ GW := gw_of 993 (by decide +kernel) (by decide +kernel)
theorem wd994 : Cond.instanceMethod yX5_two ∈ GW := gw_of 994 (by decide +kernel) (by decide +kernel)
theorem wd995 : Cond.selects RX5 yX5_two yX5_two ∈ GW := gw_of 995 (by decide +kernel) (by decide +kernel)
theorem wd996 : Cond.code yX5_two cX5_two 8 (some .int) ∈ GW := gw_of 996 (by decide +kernel) (by decide +kernel)
theorem wd997 : Cond.methodLink RX5 189 yX5_hasBy ∈ GW := gw_of 997 (by decide +kernel) (by decide +kernel)
theorem wd999 : Cond.instanceMethod yX5_hasBy ∈ GW := gw_of 999 (by decide +kernel) (by decide +kernel)
theorem wd1000 : Cond.code yX5_hasBy cX5_hasBy 7 (some .int) ∈ GW := gw_of 1000 (by decide +kernel) (by decide +kernel)
theorem wd1001 : Cond.methodLink RL 141 yX5_fire ∈ GW := gw_of 1001 (by decide +kernel) (by decide +kernel)
theorem wd1002 : Cond.instanceMethod yX5_fire ∈ GW := gw_of 1002 (by decide +kernel) (by decide +kernel)
theorem wd1003 : Cond.selects RX5 yX5_fire yX5_fire ∈ GW := gw_of 1003 (by decide +kernel) (by decide +kernel)
theorem wd1004 : Cond.code yX5_fire cX5_fire 14 (some .long) ∈ GW := gw_of 1004 (by decide +kernel) (by decide +kernel)
theorem wd1005 : Cond.methodLink RX5 197 yX5_noWide ∈ GW := gw_of 1005 (by decide +kernel) (by decide +kernel)
theorem wd1007 : Cond.instanceMethod yX5_noWide ∈ GW := gw_of 1007 (by decide +kernel) (by decide +kernel)
theorem wd1008 : Cond.code yX5_noWide cX5_noWide 2 (some .long) ∈ GW := gw_of 1008 (by decide +kernel) (by decide +kernel)
theorem wd1009 : Cond.constantLong RX5 37 (4000000000000000000) ∈ GW := gw_of 1009 (by decide +kernel) (by decide +kernel)
theorem wd1010 : Cond.methodLink RX5 201 yX5_hourBy ∈ GW := gw_of 1010 (by decide +kernel) (by decide +kernel)
theorem wd1012 : Cond.instanceMethod yX5_hourBy ∈ GW := gw_of 1012 (by decide +kernel) (by decide +kernel)
theorem wd1013 : Cond.code yX5_hourBy cX5_hourBy 3 none ∈ GW := gw_of 1013 (by decide +kernel) (by decide +kernel)
theorem wd1014 : Cond.methodLink RX5 205 yX5_partOf ∈ GW := gw_of 1014 (by decide +kernel) (by decide +kernel)
theorem wd1015 : Cond.static yX5_partOf ∈ GW := gw_of 1015 (by decide +kernel) (by decide +kernel)
theorem wd1016 : Cond.code yX5_partOf cX5_partOf 5 (some .long) ∈ GW := gw_of 1016 (by decide +kernel) (by decide +kernel)
theorem wd1017 : Cond.methodLink RX5 193 yX5_gcd ∈ GW := gw_of 1017 (by decide +kernel) (by decide +kernel)
theorem wd1018 : Cond.static yX5_gcd ∈ GW := gw_of 1018 (by decide +kernel) (by decide +kernel)
theorem wd1019 : Cond.code yX5_gcd cX5_gcd 10 (some .long) ∈ GW := gw_of 1019 (by decide +kernel) (by decide +kernel)
theorem wd1020 : Cond.methodLink RL 146 yX5_mean ∈ GW := gw_of 1020 (by decide +kernel) (by decide +kernel)
theorem wd1021 : Cond.instanceMethod yX5_mean ∈ GW := gw_of 1021 (by decide +kernel) (by decide +kernel)
theorem wd1022 : Cond.selects RX5 yX5_mean yX5_mean ∈ GW := gw_of 1022 (by decide +kernel) (by decide +kernel)
theorem wd1023 : Cond.code yX5_mean cX5_mean 2 (some .long) ∈ GW := gw_of 1023 (by decide +kernel) (by decide +kernel)
theorem wd1024 : Cond.methodLink RX5 209 yX5_allMoods ∈ GW := gw_of 1024 (by decide +kernel) (by decide +kernel)
theorem wd1026 : Cond.instanceMethod yX5_allMoods ∈ GW := gw_of 1026 (by decide +kernel) (by decide +kernel)
theorem wd1027 : Cond.code yX5_allMoods cX5_allMoods 3 (some .int) ∈ GW := gw_of 1027 (by decide +kernel) (by decide +kernel)
theorem wd1028 : Cond.methodLink RL 150 yX5_whatIs ∈ GW := gw_of 1028 (by decide +kernel) (by decide +kernel)
theorem wd1029 : Cond.instanceMethod yX5_whatIs ∈ GW := gw_of 1029 (by decide +kernel) (by decide +kernel)
theorem wd1030 : Cond.selects RX5 yX5_whatIs yX5_whatIs ∈ GW := gw_of 1030 (by decide +kernel) (by decide +kernel)
theorem wd1031 : Cond.code yX5_whatIs cX5_whatIs 8 (some .int) ∈ GW := gw_of 1031 (by decide +kernel) (by decide +kernel)
theorem wd1032 : Cond.methodLink RL 154 yX5_row ∈ GW := gw_of 1032 (by decide +kernel) (by decide +kernel)
theorem wd1033 : Cond.instanceMethod yX5_row ∈ GW := gw_of 1033 (by decide +kernel) (by decide +kernel)
theorem wd1034 : Cond.selects RX5 yX5_row yX5_row ∈ GW := gw_of 1034 (by decide +kernel) (by decide +kernel)
theorem wd1035 : Cond.code yX5_row cX5_row 3 (some .int) ∈ GW := gw_of 1035 (by decide +kernel) (by decide +kernel)
theorem wd1036 : Cond.methodLink RL 158 yX5_judge ∈ GW := gw_of 1036 (by decide +kernel) (by decide +kernel)
theorem wd1037 : Cond.instanceMethod yX5_judge ∈ GW := gw_of 1037 (by decide +kernel) (by decide +kernel)
theorem wd1038 : Cond.selects RX5 yX5_judge yX5_judge ∈ GW := gw_of 1038 (by decide +kernel) (by decide +kernel)
theorem wd1039 : Cond.code yX5_judge cX5_judge 3 (some .int) ∈ GW := gw_of 1039 (by decide +kernel) (by decide +kernel)
theorem wd1040 : Cond.methodLink RL 162 yX5_clear ∈ GW := gw_of 1040 (by decide +kernel) (by decide +kernel)
theorem wd1041 : Cond.instanceMethod yX5_clear ∈ GW := gw_of 1041 (by decide +kernel) (by decide +kernel)
theorem wd1042 : Cond.selects RX5 yX5_clear yX5_clear ∈ GW := gw_of 1042 (by decide +kernel) (by decide +kernel)
theorem wd1043 : Cond.code yX5_clear cX5_clear 2 (some .int) ∈ GW := gw_of 1043 (by decide +kernel) (by decide +kernel)
theorem wd1044 : Cond.methodLink RL 166 yX5_lots ∈ GW := gw_of 1044 (by decide +kernel) (by decide +kernel)
theorem wd1045 : Cond.instanceMethod yX5_lots ∈ GW := gw_of 1045 (by decide +kernel) (by decide +kernel)
theorem wd1046 : Cond.selects RX5 yX5_lots yX5_lots ∈ GW := gw_of 1046 (by decide +kernel) (by decide +kernel)
theorem wd1047 : Cond.code yX5_lots cX5_lots 7 (some .int) ∈ GW := gw_of 1047 (by decide +kernel) (by decide +kernel)
theorem wd1048 : Cond.methodLink RX5 221 yX5_drawn ∈ GW := gw_of 1048 (by decide +kernel) (by decide +kernel)
theorem wd1050 : Cond.instanceMethod yX5_drawn ∈ GW := gw_of 1050 (by decide +kernel) (by decide +kernel)
theorem wd1051 : Cond.code yX5_drawn cX5_drawn 2 (some .int) ∈ GW := gw_of 1051 (by decide +kernel) (by decide +kernel)
theorem wd1052 : Cond.constant RX5 218 (1664525) ∈ GW := gw_of 1052 (by decide +kernel) (by decide +kernel)
theorem wd1053 : Cond.constant RX5 219 (1013904223) ∈ GW := gw_of 1053 (by decide +kernel) (by decide +kernel)
theorem wd1054 : Cond.constant RX5 220 (2147483647) ∈ GW := gw_of 1054 (by decide +kernel) (by decide +kernel)
theorem wd1055 : Cond.methodLink RL 170 yX5_image ∈ GW := gw_of 1055 (by decide +kernel) (by decide +kernel)
theorem wd1056 : Cond.instanceMethod yX5_image ∈ GW := gw_of 1056 (by decide +kernel) (by decide +kernel)
theorem wd1057 : Cond.selects RX5 yX5_image yX5_image ∈ GW := gw_of 1057 (by decide +kernel) (by decide +kernel)
theorem wd1058 : Cond.code yX5_image cX5_image 1 (some .int) ∈ GW := gw_of 1058 (by decide +kernel) (by decide +kernel)
theorem wd1059 : Cond.methodLink RL 174 yX5_on ∈ GW := gw_of 1059 (by decide +kernel) (by decide +kernel)
theorem wd1060 : Cond.instanceMethod yX5_on ∈ GW := gw_of 1060 (by decide +kernel) (by decide +kernel)
theorem wd1061 : Cond.selects RX5 yX5_on yX5_on ∈ GW := gw_of 1061 (by decide +kernel) (by decide +kernel)
theorem wd1062 : Cond.code yX5_on cX5_on 1 (some .int) ∈ GW := gw_of 1062 (by decide +kernel) (by decide +kernel)
theorem wd1063 : Cond.methodLink RL 178 yX5_count ∈ GW := gw_of 1063 (by decide +kernel) (by decide +kernel)
theorem wd1064 : Cond.instanceMethod yX5_count ∈ GW := gw_of 1064 (by decide +kernel) (by decide +kernel)
theorem wd1065 : Cond.selects RX5 yX5_count yX5_count ∈ GW := gw_of 1065 (by decide +kernel) (by decide +kernel)
theorem wd1066 : Cond.code yX5_count cX5_count 2 (some .int) ∈ GW := gw_of 1066 (by decide +kernel) (by decide +kernel)
end
section
/-! A SMALL MACHINE over a pure world: cells are a list, a reference is a place in it ('ad' says at which address it lies). Ok: from here the method comes to its end with Post. PM: a method's contract. -/
abbrev PE : Type := (Nat × (Nat → Int32)) ⊕ (Nat × List Value)
abbrev PW : Type := List PE
def tv (ad : Nat → Nat) : Value → Value
  | .ref i => .ref (ad i)
  | v => v
def te (cI : ClassId) (ad : Nat → Nat) : PE → va_E
  | .inl x => .inl (cI, x.1, .inl x.2)
  | .inr o => .inr (o.1, o.2.map (tv ad))
def tw (cI : ClassId) (ad : Nat → Nat) (w : PW) : va_W := w.mapIdx (fun i e => (ad i, te cI ad e))
theorem tv_cat (ad : Nat → Nat) (v : Value) : (tv ad v).category = v.category := by cases v <;> rfl
theorem tw_get (cI : ClassId) (ad : Nat → Nat) (w : PW) (k : Nat) : (tw cI ad w)[k]? = (w[k]?).map (fun e => (ad k, te cI ad e)) := by simp [tw]
theorem tw_at {cI : ClassId} {ad : Nat → Nat} {w : PW} {k : Nat} {e : PE} (h : w[k]? = some e) : (tw cI ad w)[k]? = some (ad k, te cI ad e) := by rw [tw_get, h]; rfl
theorem tw_of {cI : ClassId} {ad : Nat → Nat} {w : PW} {k : Nat} {q : Nat × va_E} (h : (tw cI ad w)[k]? = some q) : ∃ e, w[k]? = some e ∧ q = (ad k, te cI ad e) := by
  rw [tw_get] at h
  cases hw : w[k]? with
  | none => rw [hw] at h; cases h
  | some e => rw [hw] at h; exact ⟨e, rfl, (Option.some.inj h).symm⟩
theorem tw_set (cI : ClassId) (ad : Nat → Nat) (w : PW) (k : Nat) (e : PE) : tw cI ad (w.set k e) = (tw cI ad w).set k (ad k, te cI ad e) := by
  apply List.ext_getElem?
  intro i
  rw [tw_get, List.getElem?_set, List.getElem?_set, tw_get]
  by_cases h : k = i
  · subst h
    by_cases h2 : k < w.length
    · simp [h2, tw]
    · simp [h2, tw]
  · simp [h]
theorem tw_len (cI : ClassId) (ad : Nat → Nat) (w : PW) : (tw cI ad w).length = w.length := by simp [tw]
-- locals
def lcl (ls : List (Option Value)) : Nat → List (Option Value)
  | 0 => ls
  | j + 1 => match ls[j]? with
    | some (some v) => if v.category = 2 then ls.set j none else ls
    | _ => ls
def st1 (ls : List (Option Value)) (i : Nat) (v : Value) : List (Option Value) := (lcl ls i).set i (some v)
def st2 (ls : List (Option Value)) (i : Nat) (v : Value) : List (Option Value) := ((lcl ls i).set i (some v)).set (i + 1) none
def fl (ad : Nat → Nat) (ls : List (Option Value)) : List (Nat × Value) := (List.range ls.length).filterMap (fun i => (ls[i]?).bind (fun o => o.map (fun v => (i, tv ad v))))
theorem fl_mem {ad : Nat → Nat} {ls : List (Option Value)} {i : Nat} {v : Value} (h : ls[i]? = some (some v)) : (i, tv ad v) ∈ fl ad ls := by
  refine List.mem_filterMap.mpr ⟨i, List.mem_range.mpr (List.getElem?_eq_some_iff.mp h).1, ?_⟩
  rw [h]; rfl
theorem fl_of {ad : Nat → Nat} {ls : List (Option Value)} {q : Nat × Value} (h : q ∈ fl ad ls) : ∃ v, ls[q.1]? = some (some v) ∧ q.2 = tv ad v := by
  obtain ⟨i, -, hi⟩ := List.mem_filterMap.mp h
  cases ho : ls[i]? with
  | none => rw [ho] at hi; cases hi
  | some o =>
    rw [ho] at hi
    cases o with
    | none => cases hi
    | some v =>
      have e : (i, tv ad v) = q := Option.some.inj hi
      subst e
      exact ⟨v, ho, rfl⟩
def lr (ad : Nat → Nat) (nL : Nat) (ls : List (Option Value)) (LS : Array Slot) : Prop := LS.size = nL ∧ lv_wf LS ∧ ∀ (i : Nat) (v : Value), ls[i]? = some (some v) → LS[i]? = some (.val (tv ad v))
theorem lr_has {ad : Nat → Nat} {nL : Nat} {ls : List (Option Value)} {LS : Array Slot} (h : lr ad nL ls LS) : lv_has LS nL (fl ad ls) := ⟨h.1, h.2.1, fun q hq => by
  obtain ⟨v, h1, h2⟩ := fl_of hq
  rw [h2]; exact h.2.2 _ _ h1⟩
theorem lcl_get {ls : List (Option Value)} {i j : Nat} {v : Value} (h : (lcl ls i)[j]? = some (some v)) : ls[j]? = some (some v) ∧ ¬ (j + 1 = i ∧ v.category = 2) := by
  cases i with
  | zero => exact ⟨h, fun e => by omega⟩
  | succ k =>
    simp only [lcl] at h
    by_cases hj : j = k
    · subst hj
      cases ho : ls[j]? with
      | none => simp [ho] at h
      | some o =>
        cases o with
        | none => simp [ho] at h
        | some u =>
          simp only [ho] at h
          by_cases hc : u.category = 2
          · rw [if_pos hc, List.getElem?_set] at h
            by_cases hl : j < ls.length
            · simp [hl] at h
            · simp [hl] at h
          · rw [if_neg hc, ho] at h
            have e : u = v := by simpa using h
            subst e
            exact ⟨rfl, fun e => hc e.2⟩
    · refine ⟨?_, fun e => hj (by omega)⟩
      have key : ∀ l : List (Option Value), (l.set k none)[j]? = l[j]? := fun l => by rw [List.getElem?_set, if_neg (fun e => hj e.symm)]
      split at h
      · split at h
        · rw [key] at h; exact h
        · exact h
      · exact h
theorem lr_st1 {ad : Nat → Nat} {nL i : Nat} {ls : List (Option Value)} {LS' : Array Slot} {x : Value}
    (h : lv_has LS' nL ((i, tv ad x) :: (fl ad ls).filter (fun q => !(q.1 == i) && !(q.1 + 1 == i && q.2.category == 2)))) : lr ad nL (st1 ls i x) LS' := by
  refine ⟨h.1, h.2.1, fun j v hj => ?_⟩
  unfold st1 at hj
  rw [List.getElem?_set] at hj
  by_cases hij : i = j
  · subst hij
    simp only [if_true] at hj
    split at hj
    · have e : x = v := by simpa using hj
      subst e
      exact h.2.2 (i, tv ad x) List.mem_cons_self
    · cases hj
  · rw [if_neg hij] at hj
    obtain ⟨h1, h2⟩ := lcl_get hj
    refine h.2.2 (j, tv ad v) (List.mem_cons_of_mem _ (List.mem_filter.mpr ⟨fl_mem h1, ?_⟩))
    have hji : ¬ j = i := fun e => hij e.symm
    by_cases hk : j + 1 = i
    · have hc : ¬ v.category = 2 := fun e => h2 ⟨hk, e⟩
      simp [hji, tv_cat, hc]
    · simp [hji, hk]
theorem lr_st2 {ad : Nat → Nat} {nL i : Nat} {ls : List (Option Value)} {LS' : Array Slot} {x : Value}
    (h : lv_has LS' nL ((i, tv ad x) :: (fl ad ls).filter (fun q => !(q.1 == i) && (!(q.1 == i + 1) && !(q.1 + 1 == i && q.2.category == 2))))) : lr ad nL (st2 ls i x) LS' := by
  refine ⟨h.1, h.2.1, fun j v hj => ?_⟩
  unfold st2 at hj
  rw [List.getElem?_set] at hj
  by_cases hi1 : i + 1 = j
  · rw [if_pos hi1] at hj
    split at hj
    · simp at hj
    · cases hj
  · rw [if_neg hi1, List.getElem?_set] at hj
    by_cases hij : i = j
    · subst hij
      simp only [if_true] at hj
      split at hj
      · have e : x = v := by simpa using hj
        subst e
        exact h.2.2 (i, tv ad x) List.mem_cons_self
      · cases hj
    · rw [if_neg hij] at hj
      obtain ⟨h1, h2⟩ := lcl_get hj
      refine h.2.2 (j, tv ad v) (List.mem_cons_of_mem _ (List.mem_filter.mpr ⟨fl_mem h1, ?_⟩))
      have hji : ¬ j = i := fun e => hij e.symm
      have hji1 : ¬ j = i + 1 := fun e => hi1 e.symm
      by_cases hk : j + 1 = i
      · have hc : ¬ v.category = 2 := fun e => h2 ⟨hk, e⟩
        simp [hji, hji1, tv_cat, hc]
      · simp [hji, hji1, hk]
-- a method: its name, its code, its locals, what it answers, its room
abbrev MI : Type := MethodName × ByteArray × Nat × Option FieldType × Room
abbrev mY (M : MI) : MethodName := M.1
abbrev mC (M : MI) : ByteArray := M.2.1
abbrev mL (M : MI) : Nat := M.2.2.1
abbrev mT (M : MI) : Option FieldType := M.2.2.2.1
abbrev mR (M : MI) : Room := M.2.2.2.2
def NWok (U : State) : Prop := ∀ w ∈ NWl, va_Nw w U
abbrev Scr : Type := Option (Nat × (Nat → Int32))
def Ctx (M : MI) (S : Scr) (p : Program) (s : State) (m : MethodId) (args : Array Value) (meth : Method) (c : Code) (D : va_G) (cI : ClassId) (A : Nat → Prop) (ad0 : Nat → Nat) : Prop :=
  (p.tables.exec = Jvm.exec ∧ c.code = mC M ∧ c.maxLocals = mL M ∧ s.vm.findClass (mY M).cls = some m.cls ∧ meth.name = (mY M).name) ∧ (∀ w ∈ GW, w.before args s = true) ∧ va_K D vwCl [(cI, .int)] s ∧ NWok s ∧ (∀ q, s.heap.size ≤ q → A q) ∧
  (∀ q, S = some q → va_X (ad0 999) q.1 q.2 s s.heap ∧ ad0 999 < s.heap.size ∧ ¬ A (ad0 999))
def Rel (D : va_G) (cI : ClassId) (R : Room) (A : Nat → Prop) (H0 : Heap) (ad0 : Nat → Nat) (n0 : Nat) (ad : Nat → Nat) (w : PW) (H : Heap) (locs : List Loc) : Prop :=
  va_P D vwCl (tw cI ad w) H ∧ va_D A (tw cI ad w) ∧ va_S A H0 H locs ∧ (R.cells = 0 → ad = ad0 ∧ w.length = n0) ∧ n0 ≤ w.length ∧ (∀ i, i < n0 → ad i = ad0 i) ∧ ad 999 = ad0 999
def retI (M : MI) (pc : Nat) : Option Value → Prop
  | none => mT M = none ∧ decode (mC M) pc = .ok (.return_, 1)
  | some (.int v) => decode (mC M) pc = .ok (.ireturn, 1) ∧ ∃ ty, mT M = some ty ∧ narrow ty (.int v) = .int v
  | some (.long _) => mT M = some .long ∧ decode (mC M) pc = .ok (.lreturn, 1)
  | _ => False
def RetQ (M : MI) (p : Program) (l : Launch) (e : Env) (s : State) (m : MethodId) (args : Array Value) (below : List Frame) (meth : Method) (c : Code) (D : va_G) (cI : ClassId) (A : Nat → Prop) (ad0 : Nat → Nat) (n0 : Nat) (Q : State → Prop) (Post : Option Value → PW → Prop) : Prop :=
  ∀ (pc : Nat) (LS : Array Slot) (r : Option Value) (w : PW) (ad : Nat → Nat) (H : Heap) (locs : List Loc), Rel D cI (mR M) A s.heap ad0 n0 ad w H locs → Post r w → retI M pc r →
    W p l e (mR M) s m args below meth c H locs (mR M).cells (mR M).slots Q (F0 m pc LS r.toList)
def Ok (M : MI) (S : Scr) (pc : Nat) (ls : List (Option Value)) (st : List Value) (w : PW) (k n : Nat) (Post : Option Value → PW → Prop) : Prop :=
  ∀ (p : Program) (l : Launch) (e : Env) (s : State) (m : MethodId) (args : Array Value) (below : List Frame) (meth : Method) (c : Code) (D : va_G) (cI : ClassId) (A : Nat → Prop) (ad0 : Nat → Nat) (n0 : Nat) (Q : State → Prop),
    Ctx M S p s m args meth c D cI A ad0 → RetQ M p l e s m args below meth c D cI A ad0 n0 Q Post →
    ∀ (ad : Nat → Nat) (H : Heap) (locs : List Loc) (LS : Array Slot), Rel D cI (mR M) A s.heap ad0 n0 ad w H locs → lr ad (mL M) ls LS →
      W p l e (mR M) s m args below meth c H locs k n Q (F0 m pc LS (st.map (tv ad)))
-- contracts
def PPc (D : va_G) (cI : ClassId) (ad : Nat → Nat) (w : PW) (sz : Nat) : State → Prop := fun U => U.heap.size = sz ∧ va_P D vwCl (tw cI ad w) U.heap ∧ va_K D vwCl [(cI, .int)] U ∧ va_D (fun _ => True) (tw cI ad w) ∧ NWok U
def PQ (M : MI) (D : va_G) (cI : ClassId) (ad : Nat → Nat) (w : PW) (sz : Nat) (Post : Option Value → PW → Prop) : Array Value → State → Outcome → State → Prop := fun _ st oc t =>
  (∃ (r : Option Value) (w' : PW) (ad' : Nat → Nat), oc = .returned r ∧ Post r w' ∧ (∀ v, r = some v → ∀ a : Nat → Nat, tv a v = v) ∧ ((mR M).cells = 0 → ad' = ad ∧ w'.length = w.length) ∧ w.length ≤ w'.length ∧ (∀ i, i < w.length → ad' i = ad i) ∧
    va_P D vwCl (tw cI ad' w') t.heap ∧ va_D (va_A (tw cI ad w) sz) (tw cI ad' w')) ∧ va_F (va_A (tw cI ad w) sz) st t
def PM (M : MI) (as : List Value) (w : PW) (Post : Option Value → PW → Prop) : Prop :=
  ∀ (l : Launch) (D : va_G) (cI : ClassId) (ad : Nat → Nat) (sz : Nat), Met l (mY M) (Cond.code (mY M) (mC M) (mL M) (mT M) :: GW) (mR M) (va_Pc (as.map (tv ad)) (PPc D cI ad w sz)) (PQ M D cI ad w sz Post) (mR M).cells (mR M).slots (va_A (tw cI ad w) sz)
-- the entry
def enl : List Value → List (Option Value)
  | [] => []
  | v :: vs => if v.category = 2 then some v :: none :: enl vs else some v :: enl vs
theorem enl_args {ad : Nat → Nat} : ∀ (as : List Value) (k j : Nat) (v : Value), (enl as)[j]? = some (some v) → (k + j, tv ad v) ∈ lv_args k (as.map (tv ad))
  | [], _, _, _, h => by simp [enl] at h
  | a :: as, k, j, v, h => by
    simp only [enl] at h
    simp only [List.map_cons, lv_args]
    by_cases hc : a.category = 2
    · rw [if_pos hc] at h
      match j, h with
      | 0, h =>
        have e : a = v := by simpa using h
        subst e
        exact List.mem_cons_self
      | 1, h => simp at h
      | j + 2, h =>
        have h' : (enl as)[j]? = some (some v) := by simpa using h
        have := enl_args (ad := ad) as (k + 2) j v h'
        rw [tv_cat, hc]
        refine List.mem_cons_of_mem _ ?_
        rwa [show k + (j + 2) = k + 2 + j by omega]
    · rw [if_neg hc] at h
      have hc1 : a.category = 1 := (lv_cat a).resolve_right hc
      match j, h with
      | 0, h =>
        have e : a = v := by simpa using h
        subst e
        exact List.mem_cons_self
      | j + 1, h =>
        have h' : (enl as)[j]? = some (some v) := by simpa using h
        have := enl_args (ad := ad) as (k + 1) j v h'
        rw [tv_cat, hc1]
        refine List.mem_cons_of_mem _ ?_
        rwa [show k + (j + 1) = k + 1 + j by omega]
theorem lgsl_len (ad : Nat → Nat) : ∀ as : List Value, (lg_sl (as.map (tv ad))).length = (enl as).length
  | [] => rfl
  | a :: as => by
    have ih := lgsl_len ad as
    simp only [lg_sl, List.map_cons, List.flatMap_cons, List.length_append, enl, tv_cat] at ih ⊢
    by_cases hc : a.category = 2
    · simp only [hc, if_true, List.length_cons, List.length_nil]; omega
    · simp only [if_neg hc, List.length_cons, List.length_nil]; omega
theorem rel_end {D : va_G} {cI : ClassId} {R : Room} {A : Nat → Prop} {s t : State} {ad0 : Nat → Nat} {n0 : Nat} {ad : Nat → Nat} {w : PW} {H : Heap} {locs : List Loc} (h : Rel D cI R A s.heap ad0 n0 ad w H locs) (ht : t.heap = H) : va_F A s t := h.2.2.1.F ht
theorem PM.of {M : MI} {as : List Value} {w : PW} {Post : Option Value → PW → Prop} (hy : plainName (mY M).cls = true) (hn : (enl as).length ≤ mL M) (hok : Ok M none 0 (enl as) [] w 0 0 Post) : PM M as w Post := by
  intro l D cI ad sz
  refine Met.ofW (cc := mC M) (maxL := mL M) (ret := mT M) hy rfl ?_
  intro p e s m args below meth c s₁ B hml hv
  obtain ⟨rfl, hsz, hP, hK, hD0, hN⟩ := hv
  have hts := atoms_spec (ws := Cond.code (mY M) (mC M) (mL M) (mT M) :: GW) B.pre
  have hown : s.vm.findClass (mY M).cls = some m.cls := findClass_of_methodNamed B.named
  have hnm : meth.name = (mY M).name := (name_of_methodNamed B.named B.method).1
  subst hsz
  have hD := hD0.self (sz := s.heap.size)
  have hl := lv_entry (as.map (tv ad)) (n := mL M) (by rw [lgsl_len]; exact hn)
  rw [lg_entry_eq]
  refine hok p l e s m _ below meth c D cI (va_A (tw cI ad w) s.heap.size) ad w.length _ ⟨⟨B.exec, B.bytes, hml, hown, hnm⟩, fun w hw => hts w (List.mem_cons_of_mem _ hw), hK, hN, fun q h => Or.inr h, fun q h => by cases h⟩ ?_ ad s.heap [] _ ⟨hP, hD, va_S.rf, fun _ => ⟨rfl, rfl⟩, Nat.le_refl _, fun _ _ => rfl, rfl⟩ ⟨hl.1, hl.2.1, fun i v hi => ?_⟩
  · intro pc LS r w' ad' H locs hR hp hr
    have hq : ∀ t : State, t.heap = H → (∀ v, r = some v → ∀ a : Nat → Nat, tv a v = v) → PQ M D cI ad w s.heap.size Post (as.map (tv ad)).toArray s (.returned r) t := fun t ht hv =>
      ⟨⟨r, w', ad', rfl, hp, hv, hR.2.2.2.1, hR.2.2.2.2.1, hR.2.2.2.2.2.1, by rw [ht]; exact hR.1, hR.2.1⟩, rel_end hR ht⟩
    match r, hr, hq with
    | none, hr, hq => exact W.vret B.exec B.bytes (B.returns.trans hr.1) (fun t ht _ => hq t ht (fun v h => by cases h)) hR.2.2.1.2.2 hr.2 B.notSynchronized
    | some (.int v), hr, hq =>
      obtain ⟨hd, ty, h1, h2⟩ := hr
      exact W.zret B.exec B.bytes (B.returns.trans h1) h2 (fun t ht _ => hq t ht (fun v h => by cases h; intro a; rfl)) hR.2.2.1.2.2 hd B.notSynchronized
    | some (.long v), hr, hq => exact W.lret B.exec B.bytes (B.returns.trans hr.1) (fun t ht _ => hq t ht (fun v h => by cases h; intro a; rfl)) hR.2.2.1.2.2 hr.2 B.notSynchronized
  · have := hl.2.2 (i, tv ad v) (by have := enl_args (ad := ad) as 0 i v hi; rwa [Nat.zero_add] at this)
    exact this
end
section
section ROWS
variable {M : MI} {S : Scr} {pc : Nat} {ls : List (Option Value)} {st : List Value} {w : PW} {k n : Nat} {P : Option Value → PW → Prop}
theorem o_iconst {a : Int} {v : Int32} (hd : decode (mC M) pc = .ok (.iconst a, 1)) (hv : Int32.ofInt a = v) (h : Ok M S (pc + 1) ls (.int v :: st) w k n P) : Ok M S pc ls st w k n P := by
  intro p l e s m args below meth c D cI A ad0 n0 Q C hr ad H locs LS hR hl
  exact lv_iconst C.1.1 C.1.2.1 hd hv (h p l e s m args below meth c D cI A ad0 n0 Q C hr ad H locs LS hR hl)
theorem o_bipush {a : Int} {v : Int32} (hd : decode (mC M) pc = .ok (.bipush a, 2)) (hv : (Int8.ofInt a).toInt32 = v) (h : Ok M S (pc + 2) ls (.int v :: st) w k n P) : Ok M S pc ls st w k n P := by
  intro p l e s m args below meth c D cI A ad0 n0 Q C hr ad H locs LS hR hl
  exact lv_bipush C.1.1 C.1.2.1 hd hv (h p l e s m args below meth c D cI A ad0 n0 Q C hr ad H locs LS hR hl)
theorem o_sipush {a : Int} {v : Int32} (hd : decode (mC M) pc = .ok (.sipush a, 3)) (hv : (Int16.ofInt a).toInt32 = v) (h : Ok M S (pc + 3) ls (.int v :: st) w k n P) : Ok M S pc ls st w k n P := by
  intro p l e s m args below meth c D cI A ad0 n0 Q C hr ad H locs LS hR hl
  exact lv_sipush C.1.1 C.1.2.1 hd hv (h p l e s m args below meth c D cI A ad0 n0 Q C hr ad H locs LS hR hl)
theorem o_lconst {a : Fin 2} {v : Int64} (hd : decode (mC M) pc = .ok (.lconst a, 1)) (hv : Int64.ofNat (a : Nat) = v) (h : Ok M S (pc + 1) ls (.long v :: st) w k n P) : Ok M S pc ls st w k n P := by
  intro p l e s m args below meth c D cI A ad0 n0 Q C hr ad H locs LS hR hl
  exact lv_lconst C.1.1 C.1.2.1 hd hv (h p l e s m args below meth c D cI A ad0 n0 Q C hr ad H locs LS hR hl)
theorem o_iload_n {j : Fin 4} {i : Nat} {x : Int32} (hd : decode (mC M) pc = .ok (.iload_n j, 1)) (hi : (j : Nat) = i) (hg : ls[i]? = some (some (.int x))) (h : Ok M S (pc + 1) ls (.int x :: st) w k n P) : Ok M S pc ls st w k n P := by
  intro p l e s m args below meth c D cI A ad0 n0 Q C hr ad H locs LS hR hl
  exact lv_iload_n C.1.1 C.1.2.1 hd hi (hl.2.2 _ _ hg) (h p l e s m args below meth c D cI A ad0 n0 Q C hr ad H locs LS hR hl)
theorem o_iload {i : Nat} {x : Int32} (hd : decode (mC M) pc = .ok (.iload i, 2)) (hg : ls[i]? = some (some (.int x))) (h : Ok M S (pc + 2) ls (.int x :: st) w k n P) : Ok M S pc ls st w k n P := by
  intro p l e s m args below meth c D cI A ad0 n0 Q C hr ad H locs LS hR hl
  exact lv_iload C.1.1 C.1.2.1 hd (hl.2.2 _ _ hg) (h p l e s m args below meth c D cI A ad0 n0 Q C hr ad H locs LS hR hl)
theorem o_lload_n {j : Fin 4} {i : Nat} {x : Int64} (hd : decode (mC M) pc = .ok (.lload_n j, 1)) (hi : (j : Nat) = i) (hg : ls[i]? = some (some (.long x))) (h : Ok M S (pc + 1) ls (.long x :: st) w k n P) : Ok M S pc ls st w k n P := by
  intro p l e s m args below meth c D cI A ad0 n0 Q C hr ad H locs LS hR hl
  exact lv_lload_n C.1.1 C.1.2.1 hd hi (hl.2.2 _ _ hg) (h p l e s m args below meth c D cI A ad0 n0 Q C hr ad H locs LS hR hl)
theorem o_lload {i : Nat} {x : Int64} (hd : decode (mC M) pc = .ok (.lload i, 2)) (hg : ls[i]? = some (some (.long x))) (h : Ok M S (pc + 2) ls (.long x :: st) w k n P) : Ok M S pc ls st w k n P := by
  intro p l e s m args below meth c D cI A ad0 n0 Q C hr ad H locs LS hR hl
  exact lv_lload C.1.1 C.1.2.1 hd (hl.2.2 _ _ hg) (h p l e s m args below meth c D cI A ad0 n0 Q C hr ad H locs LS hR hl)
theorem o_aload_n {j : Fin 4} {i : Nat} {x : Nat} (hd : decode (mC M) pc = .ok (.aload_n j, 1)) (hi : (j : Nat) = i) (hg : ls[i]? = some (some (.ref x))) (h : Ok M S (pc + 1) ls (.ref x :: st) w k n P) : Ok M S pc ls st w k n P := by
  intro p l e s m args below meth c D cI A ad0 n0 Q C hr ad H locs LS hR hl
  exact lv_aload_n C.1.1 C.1.2.1 hd hi (hl.2.2 _ _ hg) (h p l e s m args below meth c D cI A ad0 n0 Q C hr ad H locs LS hR hl)
theorem o_aload {i : Nat} {x : Nat} (hd : decode (mC M) pc = .ok (.aload i, 2)) (hg : ls[i]? = some (some (.ref x))) (h : Ok M S (pc + 2) ls (.ref x :: st) w k n P) : Ok M S pc ls st w k n P := by
  intro p l e s m args below meth c D cI A ad0 n0 Q C hr ad H locs LS hR hl
  exact lv_aload C.1.1 C.1.2.1 hd (hl.2.2 _ _ hg) (h p l e s m args below meth c D cI A ad0 n0 Q C hr ad H locs LS hR hl)
theorem o_istore_n {j : Fin 4} {i : Nat} {x : Int32} {ls2 : List (Option Value)} (hd : decode (mC M) pc = .ok (.istore_n j, 1)) (hi : (j : Nat) = i) (hn : i < mL M) (hs : st1 ls i (.int x) = ls2) (h : Ok M S (pc + 1) ls2 st w k n P) : Ok M S pc ls (.int x :: st) w k n P := by
  subst hs
  intro p l e s m args below meth c D cI A ad0 n0 Q C hr ad H locs LS hR hl
  exact lv_istore_n C.1.1 C.1.2.1 hd hi (lr_has hl) hn rfl (fun LS2 hl2 => h p l e s m args below meth c D cI A ad0 n0 Q C hr ad H locs LS2 hR (lr_st1 hl2))
theorem o_istore {i : Nat} {x : Int32} {ls2 : List (Option Value)} (hd : decode (mC M) pc = .ok (.istore i, 2)) (hn : i < mL M) (hs : st1 ls i (.int x) = ls2) (h : Ok M S (pc + 2) ls2 st w k n P) : Ok M S pc ls (.int x :: st) w k n P := by
  subst hs
  intro p l e s m args below meth c D cI A ad0 n0 Q C hr ad H locs LS hR hl
  exact lv_istore C.1.1 C.1.2.1 hd (lr_has hl) hn rfl (fun LS2 hl2 => h p l e s m args below meth c D cI A ad0 n0 Q C hr ad H locs LS2 hR (lr_st1 hl2))
theorem o_lstore_n {j : Fin 4} {i : Nat} {x : Int64} {ls2 : List (Option Value)} (hd : decode (mC M) pc = .ok (.lstore_n j, 1)) (hi : (j : Nat) = i) (hn : i + 1 < mL M) (hs : st2 ls i (.long x) = ls2) (h : Ok M S (pc + 1) ls2 st w k n P) : Ok M S pc ls (.long x :: st) w k n P := by
  subst hs
  intro p l e s m args below meth c D cI A ad0 n0 Q C hr ad H locs LS hR hl
  exact lv_lstore_n C.1.1 C.1.2.1 hd hi (lr_has hl) hn rfl (fun LS2 hl2 => h p l e s m args below meth c D cI A ad0 n0 Q C hr ad H locs LS2 hR (lr_st2 hl2))
theorem o_lstore {i : Nat} {x : Int64} {ls2 : List (Option Value)} (hd : decode (mC M) pc = .ok (.lstore i, 2)) (hn : i + 1 < mL M) (hs : st2 ls i (.long x) = ls2) (h : Ok M S (pc + 2) ls2 st w k n P) : Ok M S pc ls (.long x :: st) w k n P := by
  subst hs
  intro p l e s m args below meth c D cI A ad0 n0 Q C hr ad H locs LS hR hl
  exact lv_lstore C.1.1 C.1.2.1 hd (lr_has hl) hn rfl (fun LS2 hl2 => h p l e s m args below meth c D cI A ad0 n0 Q C hr ad H locs LS2 hR (lr_st2 hl2))
theorem o_astore_n {j : Fin 4} {i : Nat} {x : Nat} {ls2 : List (Option Value)} (hd : decode (mC M) pc = .ok (.astore_n j, 1)) (hi : (j : Nat) = i) (hn : i < mL M) (hs : st1 ls i (.ref x) = ls2) (h : Ok M S (pc + 1) ls2 st w k n P) : Ok M S pc ls (.ref x :: st) w k n P := by
  subst hs
  intro p l e s m args below meth c D cI A ad0 n0 Q C hr ad H locs LS hR hl
  exact lv_astore_n C.1.1 C.1.2.1 hd hi (lr_has hl) hn rfl (fun LS2 hl2 => h p l e s m args below meth c D cI A ad0 n0 Q C hr ad H locs LS2 hR (lr_st1 hl2))
theorem o_astore {i : Nat} {x : Nat} {ls2 : List (Option Value)} (hd : decode (mC M) pc = .ok (.astore i, 2)) (hn : i < mL M) (hs : st1 ls i (.ref x) = ls2) (h : Ok M S (pc + 2) ls2 st w k n P) : Ok M S pc ls (.ref x :: st) w k n P := by
  subst hs
  intro p l e s m args below meth c D cI A ad0 n0 Q C hr ad H locs LS hR hl
  exact lv_astore C.1.1 C.1.2.1 hd (lr_has hl) hn rfl (fun LS2 hl2 => h p l e s m args below meth c D cI A ad0 n0 Q C hr ad H locs LS2 hR (lr_st1 hl2))
theorem o_iinc {i : Nat} {a : Int} {x v : Int32} {ls2 : List (Option Value)} (hd : decode (mC M) pc = .ok (.iinc i a, 3)) (hg : ls[i]? = some (some (.int x))) (hv : x + Int32.ofInt a = v) (hn : i < mL M) (hs : st1 ls i (.int v) = ls2) (h : Ok M S (pc + 3) ls2 st w k n P) : Ok M S pc ls st w k n P := by
  subst hs
  intro p l e s m args below meth c D cI A ad0 n0 Q C hr ad H locs LS hR hl
  obtain ⟨j, hj⟩ := List.getElem?_of_mem (fl_mem (ad := ad) hg)
  exact lv_iinc C.1.1 C.1.2.1 hd (lr_has hl) (k := j) hj hv hn rfl (fun LS2 hl2 => h p l e s m args below meth c D cI A ad0 n0 Q C hr ad H locs LS2 hR (lr_st1 hl2))
theorem o_iadd {x y : Int32} (hd : decode (mC M) pc = .ok (.iadd, 1)) (h : Ok M S (pc + 1) ls (.int (x + y) :: st) w k n P) : Ok M S pc ls (.int y :: .int x :: st) w k n P := by
  intro p l e s m args below meth c D cI A ad0 n0 Q C hr ad H locs LS hR hl
  exact lv_iadd C.1.1 C.1.2.1 hd (h p l e s m args below meth c D cI A ad0 n0 Q C hr ad H locs LS hR hl)
theorem o_isub {x y : Int32} (hd : decode (mC M) pc = .ok (.isub, 1)) (h : Ok M S (pc + 1) ls (.int (x - y) :: st) w k n P) : Ok M S pc ls (.int y :: .int x :: st) w k n P := by
  intro p l e s m args below meth c D cI A ad0 n0 Q C hr ad H locs LS hR hl
  exact lv_isub C.1.1 C.1.2.1 hd (h p l e s m args below meth c D cI A ad0 n0 Q C hr ad H locs LS hR hl)
theorem o_imul {x y : Int32} (hd : decode (mC M) pc = .ok (.imul, 1)) (h : Ok M S (pc + 1) ls (.int (x * y) :: st) w k n P) : Ok M S pc ls (.int y :: .int x :: st) w k n P := by
  intro p l e s m args below meth c D cI A ad0 n0 Q C hr ad H locs LS hR hl
  exact lv_imul C.1.1 C.1.2.1 hd (h p l e s m args below meth c D cI A ad0 n0 Q C hr ad H locs LS hR hl)
theorem o_iand {x y : Int32} (hd : decode (mC M) pc = .ok (.iand, 1)) (h : Ok M S (pc + 1) ls (.int (x &&& y) :: st) w k n P) : Ok M S pc ls (.int y :: .int x :: st) w k n P := by
  intro p l e s m args below meth c D cI A ad0 n0 Q C hr ad H locs LS hR hl
  exact lv_iand C.1.1 C.1.2.1 hd (h p l e s m args below meth c D cI A ad0 n0 Q C hr ad H locs LS hR hl)
theorem o_ior {x y : Int32} (hd : decode (mC M) pc = .ok (.ior, 1)) (h : Ok M S (pc + 1) ls (.int (x ||| y) :: st) w k n P) : Ok M S pc ls (.int y :: .int x :: st) w k n P := by
  intro p l e s m args below meth c D cI A ad0 n0 Q C hr ad H locs LS hR hl
  exact lv_ior C.1.1 C.1.2.1 hd (h p l e s m args below meth c D cI A ad0 n0 Q C hr ad H locs LS hR hl)
theorem o_ixor {x y : Int32} (hd : decode (mC M) pc = .ok (.ixor, 1)) (h : Ok M S (pc + 1) ls (.int (x ^^^ y) :: st) w k n P) : Ok M S pc ls (.int y :: .int x :: st) w k n P := by
  intro p l e s m args below meth c D cI A ad0 n0 Q C hr ad H locs LS hR hl
  exact lv_ixor C.1.1 C.1.2.1 hd (h p l e s m args below meth c D cI A ad0 n0 Q C hr ad H locs LS hR hl)
theorem o_ishl {x y : Int32} (hd : decode (mC M) pc = .ok (.ishl, 1)) (h : Ok M S (pc + 1) ls (.int (x <<< (y &&& 31)) :: st) w k n P) : Ok M S pc ls (.int y :: .int x :: st) w k n P := by
  intro p l e s m args below meth c D cI A ad0 n0 Q C hr ad H locs LS hR hl
  exact lv_ishl C.1.1 C.1.2.1 hd (h p l e s m args below meth c D cI A ad0 n0 Q C hr ad H locs LS hR hl)
theorem o_ishr {x y : Int32} (hd : decode (mC M) pc = .ok (.ishr, 1)) (h : Ok M S (pc + 1) ls (.int (x >>> (y &&& 31)) :: st) w k n P) : Ok M S pc ls (.int y :: .int x :: st) w k n P := by
  intro p l e s m args below meth c D cI A ad0 n0 Q C hr ad H locs LS hR hl
  exact lv_ishr C.1.1 C.1.2.1 hd (h p l e s m args below meth c D cI A ad0 n0 Q C hr ad H locs LS hR hl)
theorem o_iushr {x y : Int32} (hd : decode (mC M) pc = .ok (.iushr, 1)) (h : Ok M S (pc + 1) ls (.int (x.toUInt32 >>> (y.toUInt32 &&& Int32.toUInt32 31)).toInt32 :: st) w k n P) : Ok M S pc ls (.int y :: .int x :: st) w k n P := by
  intro p l e s m args below meth c D cI A ad0 n0 Q C hr ad H locs LS hR hl
  exact lv_iushr C.1.1 C.1.2.1 hd rfl (h p l e s m args below meth c D cI A ad0 n0 Q C hr ad H locs LS hR hl)
theorem o_idiv {x y : Int32} (hd : decode (mC M) pc = .ok (.idiv, 1)) (hne : ¬ y = 0) (h : Ok M S (pc + 1) ls (.int (x / y) :: st) w k n P) : Ok M S pc ls (.int y :: .int x :: st) w k n P := by
  intro p l e s m args below meth c D cI A ad0 n0 Q C hr ad H locs LS hR hl
  exact lv_idiv C.1.1 C.1.2.1 hd hne (h p l e s m args below meth c D cI A ad0 n0 Q C hr ad H locs LS hR hl)
theorem o_irem {x y : Int32} (hd : decode (mC M) pc = .ok (.irem, 1)) (hne : ¬ y = 0) (h : Ok M S (pc + 1) ls (.int (x - x / y * y) :: st) w k n P) : Ok M S pc ls (.int y :: .int x :: st) w k n P := by
  intro p l e s m args below meth c D cI A ad0 n0 Q C hr ad H locs LS hR hl
  exact lv_irem C.1.1 C.1.2.1 hd hne (h p l e s m args below meth c D cI A ad0 n0 Q C hr ad H locs LS hR hl)
theorem o_ineg {x : Int32} (hd : decode (mC M) pc = .ok (.ineg, 1)) (h : Ok M S (pc + 1) ls (.int (-x) :: st) w k n P) : Ok M S pc ls (.int x :: st) w k n P := by
  intro p l e s m args below meth c D cI A ad0 n0 Q C hr ad H locs LS hR hl
  exact lv_ineg C.1.1 C.1.2.1 hd (h p l e s m args below meth c D cI A ad0 n0 Q C hr ad H locs LS hR hl)
theorem o_i2l {x : Int32} (hd : decode (mC M) pc = .ok (.i2l, 1)) (h : Ok M S (pc + 1) ls (.long x.toInt64 :: st) w k n P) : Ok M S pc ls (.int x :: st) w k n P := by
  intro p l e s m args below meth c D cI A ad0 n0 Q C hr ad H locs LS hR hl
  exact lv_i2l C.1.1 C.1.2.1 hd rfl (h p l e s m args below meth c D cI A ad0 n0 Q C hr ad H locs LS hR hl)
theorem o_ladd {x y : Int64} (hd : decode (mC M) pc = .ok (.ladd, 1)) (h : Ok M S (pc + 1) ls (.long (x + y) :: st) w k n P) : Ok M S pc ls (.long y :: .long x :: st) w k n P := by
  intro p l e s m args below meth c D cI A ad0 n0 Q C hr ad H locs LS hR hl
  exact lv_ladd C.1.1 C.1.2.1 hd (h p l e s m args below meth c D cI A ad0 n0 Q C hr ad H locs LS hR hl)
theorem o_lsub {x y : Int64} (hd : decode (mC M) pc = .ok (.lsub, 1)) (h : Ok M S (pc + 1) ls (.long (x - y) :: st) w k n P) : Ok M S pc ls (.long y :: .long x :: st) w k n P := by
  intro p l e s m args below meth c D cI A ad0 n0 Q C hr ad H locs LS hR hl
  exact lv_lsub C.1.1 C.1.2.1 hd (h p l e s m args below meth c D cI A ad0 n0 Q C hr ad H locs LS hR hl)
theorem o_lmul {x y : Int64} (hd : decode (mC M) pc = .ok (.lmul, 1)) (h : Ok M S (pc + 1) ls (.long (x * y) :: st) w k n P) : Ok M S pc ls (.long y :: .long x :: st) w k n P := by
  intro p l e s m args below meth c D cI A ad0 n0 Q C hr ad H locs LS hR hl
  exact lv_lmul C.1.1 C.1.2.1 hd (h p l e s m args below meth c D cI A ad0 n0 Q C hr ad H locs LS hR hl)
theorem o_ldiv {x y : Int64} (hd : decode (mC M) pc = .ok (.ldiv, 1)) (hne : ¬ y = 0) (h : Ok M S (pc + 1) ls (.long (x / y) :: st) w k n P) : Ok M S pc ls (.long y :: .long x :: st) w k n P := by
  intro p l e s m args below meth c D cI A ad0 n0 Q C hr ad H locs LS hR hl
  exact lv_ldiv C.1.1 C.1.2.1 hd hne (h p l e s m args below meth c D cI A ad0 n0 Q C hr ad H locs LS hR hl)
theorem o_lrem {x y : Int64} (hd : decode (mC M) pc = .ok (.lrem, 1)) (hne : ¬ y = 0) (h : Ok M S (pc + 1) ls (.long (x - x / y * y) :: st) w k n P) : Ok M S pc ls (.long y :: .long x :: st) w k n P := by
  intro p l e s m args below meth c D cI A ad0 n0 Q C hr ad H locs LS hR hl
  exact lv_lrem C.1.1 C.1.2.1 hd hne (h p l e s m args below meth c D cI A ad0 n0 Q C hr ad H locs LS hR hl)
theorem o_lcmp {x y : Int64} (hd : decode (mC M) pc = .ok (.lcmp, 1)) (h : Ok M S (pc + 1) ls (.int (lg_cmp x y) :: st) w k n P) : Ok M S pc ls (.long y :: .long x :: st) w k n P := by
  intro p l e s m args below meth c D cI A ad0 n0 Q C hr ad H locs LS hR hl
  exact W.lcmp C.1.1 C.1.2.1 hd (h p l e s m args below meth c D cI A ad0 n0 Q C hr ad H locs LS hR hl)
theorem o_dup {v : Value} (hd : decode (mC M) pc = .ok (.dup, 1)) (hc : v.category = 1) (h : Ok M S (pc + 1) ls (v :: v :: st) w k n P) : Ok M S pc ls (v :: st) w k n P := by
  intro p l e s m args below meth c D cI A ad0 n0 Q C hr ad H locs LS hR hl
  exact lv_dup C.1.1 C.1.2.1 hd ((tv_cat ad v).trans hc) (h p l e s m args below meth c D cI A ad0 n0 Q C hr ad H locs LS hR hl)
theorem o_pop {v : Value} (hd : decode (mC M) pc = .ok (.pop, 1)) (hc : v.category = 1) (h : Ok M S (pc + 1) ls st w k n P) : Ok M S pc ls (v :: st) w k n P := by
  intro p l e s m args below meth c D cI A ad0 n0 Q C hr ad H locs LS hR hl
  exact lv_pop C.1.1 C.1.2.1 hd ((tv_cat ad v).trans hc) (h p l e s m args below meth c D cI A ad0 n0 Q C hr ad H locs LS hR hl)
theorem o_dup2 {v u : Value} (hd : decode (mC M) pc = .ok (.dup2, 1)) (hc : v.category = 1) (hc2 : u.category = 1) (h : Ok M S (pc + 1) ls (v :: u :: v :: u :: st) w k n P) : Ok M S pc ls (v :: u :: st) w k n P := by
  intro p l e s m args below meth c D cI A ad0 n0 Q C hr ad H locs LS hR hl
  exact lv_dup2_11 C.1.1 C.1.2.1 hd ((tv_cat ad v).trans hc) ((tv_cat ad u).trans hc2) (h p l e s m args below meth c D cI A ad0 n0 Q C hr ad H locs LS hR hl)
theorem o_if_eq {x : Int32} {off : Int} {tgt : Nat} (hd : decode (mC M) pc = .ok (.ifCond .eq off, 3)) (ht : (pc : Int) + off = (tgt : Int)) (h1 : x = 0 → Ok M S tgt ls st w k n P) (h2 : ¬ x = 0 → Ok M S (pc + 3) ls st w k n P) : Ok M S pc ls (.int x :: st) w k n P := by
  intro p l e s m args below meth c D cI A ad0 n0 Q C hr ad H locs LS hR hl
  exact lv_if_eq C.1.1 C.1.2.1 hd ht (fun q => h1 q p l e s m args below meth c D cI A ad0 n0 Q C hr ad H locs LS hR hl) (fun q => h2 q p l e s m args below meth c D cI A ad0 n0 Q C hr ad H locs LS hR hl)
theorem o_if_ne {x : Int32} {off : Int} {tgt : Nat} (hd : decode (mC M) pc = .ok (.ifCond .ne off, 3)) (ht : (pc : Int) + off = (tgt : Int)) (h1 : ¬ x = 0 → Ok M S tgt ls st w k n P) (h2 : x = 0 → Ok M S (pc + 3) ls st w k n P) : Ok M S pc ls (.int x :: st) w k n P := by
  intro p l e s m args below meth c D cI A ad0 n0 Q C hr ad H locs LS hR hl
  exact lv_if_ne C.1.1 C.1.2.1 hd ht (fun q => h1 q p l e s m args below meth c D cI A ad0 n0 Q C hr ad H locs LS hR hl) (fun q => h2 q p l e s m args below meth c D cI A ad0 n0 Q C hr ad H locs LS hR hl)
theorem o_if_lt {x : Int32} {off : Int} {tgt : Nat} (hd : decode (mC M) pc = .ok (.ifCond .lt off, 3)) (ht : (pc : Int) + off = (tgt : Int)) (h1 : x < 0 → Ok M S tgt ls st w k n P) (h2 : ¬ x < 0 → Ok M S (pc + 3) ls st w k n P) : Ok M S pc ls (.int x :: st) w k n P := by
  intro p l e s m args below meth c D cI A ad0 n0 Q C hr ad H locs LS hR hl
  exact lv_if_lt C.1.1 C.1.2.1 hd ht (fun q => h1 q p l e s m args below meth c D cI A ad0 n0 Q C hr ad H locs LS hR hl) (fun q => h2 q p l e s m args below meth c D cI A ad0 n0 Q C hr ad H locs LS hR hl)
theorem o_if_ge {x : Int32} {off : Int} {tgt : Nat} (hd : decode (mC M) pc = .ok (.ifCond .ge off, 3)) (ht : (pc : Int) + off = (tgt : Int)) (h1 : 0 ≤ x → Ok M S tgt ls st w k n P) (h2 : ¬ 0 ≤ x → Ok M S (pc + 3) ls st w k n P) : Ok M S pc ls (.int x :: st) w k n P := by
  intro p l e s m args below meth c D cI A ad0 n0 Q C hr ad H locs LS hR hl
  exact lv_if_ge C.1.1 C.1.2.1 hd ht (fun q => h1 q p l e s m args below meth c D cI A ad0 n0 Q C hr ad H locs LS hR hl) (fun q => h2 q p l e s m args below meth c D cI A ad0 n0 Q C hr ad H locs LS hR hl)
theorem o_if_gt {x : Int32} {off : Int} {tgt : Nat} (hd : decode (mC M) pc = .ok (.ifCond .gt off, 3)) (ht : (pc : Int) + off = (tgt : Int)) (h1 : 0 < x → Ok M S tgt ls st w k n P) (h2 : ¬ 0 < x → Ok M S (pc + 3) ls st w k n P) : Ok M S pc ls (.int x :: st) w k n P := by
  intro p l e s m args below meth c D cI A ad0 n0 Q C hr ad H locs LS hR hl
  exact lv_if_gt C.1.1 C.1.2.1 hd ht (fun q => h1 q p l e s m args below meth c D cI A ad0 n0 Q C hr ad H locs LS hR hl) (fun q => h2 q p l e s m args below meth c D cI A ad0 n0 Q C hr ad H locs LS hR hl)
theorem o_if_le {x : Int32} {off : Int} {tgt : Nat} (hd : decode (mC M) pc = .ok (.ifCond .le off, 3)) (ht : (pc : Int) + off = (tgt : Int)) (h1 : x ≤ 0 → Ok M S tgt ls st w k n P) (h2 : ¬ x ≤ 0 → Ok M S (pc + 3) ls st w k n P) : Ok M S pc ls (.int x :: st) w k n P := by
  intro p l e s m args below meth c D cI A ad0 n0 Q C hr ad H locs LS hR hl
  exact lv_if_le C.1.1 C.1.2.1 hd ht (fun q => h1 q p l e s m args below meth c D cI A ad0 n0 Q C hr ad H locs LS hR hl) (fun q => h2 q p l e s m args below meth c D cI A ad0 n0 Q C hr ad H locs LS hR hl)
theorem o_icmp_eq {x y : Int32} {off : Int} {tgt : Nat} (hd : decode (mC M) pc = .ok (.if_icmp .eq off, 3)) (ht : (pc : Int) + off = (tgt : Int)) (h1 : x = y → Ok M S tgt ls st w k n P) (h2 : ¬ x = y → Ok M S (pc + 3) ls st w k n P) : Ok M S pc ls (.int y :: .int x :: st) w k n P := by
  intro p l e s m args below meth c D cI A ad0 n0 Q C hr ad H locs LS hR hl
  exact lv_icmp_eq C.1.1 C.1.2.1 hd ht (fun q => h1 q p l e s m args below meth c D cI A ad0 n0 Q C hr ad H locs LS hR hl) (fun q => h2 q p l e s m args below meth c D cI A ad0 n0 Q C hr ad H locs LS hR hl)
theorem o_icmp_ne {x y : Int32} {off : Int} {tgt : Nat} (hd : decode (mC M) pc = .ok (.if_icmp .ne off, 3)) (ht : (pc : Int) + off = (tgt : Int)) (h1 : ¬ x = y → Ok M S tgt ls st w k n P) (h2 : x = y → Ok M S (pc + 3) ls st w k n P) : Ok M S pc ls (.int y :: .int x :: st) w k n P := by
  intro p l e s m args below meth c D cI A ad0 n0 Q C hr ad H locs LS hR hl
  exact lv_icmp_ne C.1.1 C.1.2.1 hd ht (fun q => h1 q p l e s m args below meth c D cI A ad0 n0 Q C hr ad H locs LS hR hl) (fun q => h2 q p l e s m args below meth c D cI A ad0 n0 Q C hr ad H locs LS hR hl)
theorem o_icmp_lt {x y : Int32} {off : Int} {tgt : Nat} (hd : decode (mC M) pc = .ok (.if_icmp .lt off, 3)) (ht : (pc : Int) + off = (tgt : Int)) (h1 : x < y → Ok M S tgt ls st w k n P) (h2 : ¬ x < y → Ok M S (pc + 3) ls st w k n P) : Ok M S pc ls (.int y :: .int x :: st) w k n P := by
  intro p l e s m args below meth c D cI A ad0 n0 Q C hr ad H locs LS hR hl
  exact lv_icmp_lt C.1.1 C.1.2.1 hd ht (fun q => h1 q p l e s m args below meth c D cI A ad0 n0 Q C hr ad H locs LS hR hl) (fun q => h2 q p l e s m args below meth c D cI A ad0 n0 Q C hr ad H locs LS hR hl)
theorem o_icmp_ge {x y : Int32} {off : Int} {tgt : Nat} (hd : decode (mC M) pc = .ok (.if_icmp .ge off, 3)) (ht : (pc : Int) + off = (tgt : Int)) (h1 : y ≤ x → Ok M S tgt ls st w k n P) (h2 : ¬ y ≤ x → Ok M S (pc + 3) ls st w k n P) : Ok M S pc ls (.int y :: .int x :: st) w k n P := by
  intro p l e s m args below meth c D cI A ad0 n0 Q C hr ad H locs LS hR hl
  exact lv_icmp_ge C.1.1 C.1.2.1 hd ht (fun q => h1 q p l e s m args below meth c D cI A ad0 n0 Q C hr ad H locs LS hR hl) (fun q => h2 q p l e s m args below meth c D cI A ad0 n0 Q C hr ad H locs LS hR hl)
theorem o_icmp_gt {x y : Int32} {off : Int} {tgt : Nat} (hd : decode (mC M) pc = .ok (.if_icmp .gt off, 3)) (ht : (pc : Int) + off = (tgt : Int)) (h1 : y < x → Ok M S tgt ls st w k n P) (h2 : ¬ y < x → Ok M S (pc + 3) ls st w k n P) : Ok M S pc ls (.int y :: .int x :: st) w k n P := by
  intro p l e s m args below meth c D cI A ad0 n0 Q C hr ad H locs LS hR hl
  exact lv_icmp_gt C.1.1 C.1.2.1 hd ht (fun q => h1 q p l e s m args below meth c D cI A ad0 n0 Q C hr ad H locs LS hR hl) (fun q => h2 q p l e s m args below meth c D cI A ad0 n0 Q C hr ad H locs LS hR hl)
theorem o_icmp_le {x y : Int32} {off : Int} {tgt : Nat} (hd : decode (mC M) pc = .ok (.if_icmp .le off, 3)) (ht : (pc : Int) + off = (tgt : Int)) (h1 : x ≤ y → Ok M S tgt ls st w k n P) (h2 : ¬ x ≤ y → Ok M S (pc + 3) ls st w k n P) : Ok M S pc ls (.int y :: .int x :: st) w k n P := by
  intro p l e s m args below meth c D cI A ad0 n0 Q C hr ad H locs LS hR hl
  exact lv_icmp_le C.1.1 C.1.2.1 hd ht (fun q => h1 q p l e s m args below meth c D cI A ad0 n0 Q C hr ad H locs LS hR hl) (fun q => h2 q p l e s m args below meth c D cI A ad0 n0 Q C hr ad H locs LS hR hl)
theorem o_goto {off : Int} {tgt : Nat} (hd : decode (mC M) pc = .ok (.goto off, 3)) (ht : (pc : Int) + off = (tgt : Int)) (h : Ok M S tgt ls st w k n P) : Ok M S pc ls st w k n P := by
  intro p l e s m args below meth c D cI A ad0 n0 Q C hr ad H locs LS hR hl
  exact lv_goto C.1.1 C.1.2.1 hd ht (h p l e s m args below meth c D cI A ad0 n0 Q C hr ad H locs LS hR hl)
theorem o_tabOut {dflt lo hi : Int} {offs : Array Int} {len : Nat} {x : Int32} {tgt : Nat} (hd : decode (mC M) pc = .ok (.tableswitch dflt lo hi offs, len)) (hx : x.toInt < lo ∨ hi < x.toInt) (ht : (pc : Int) + dflt = (tgt : Int)) (h : Ok M S tgt ls st w k n P) : Ok M S pc ls (.int x :: st) w k n P := by
  intro p l e s m args below meth c D cI A ad0 n0 Q C hr ad H locs LS hR hl
  exact lv_tableOut C.1.1 C.1.2.1 hd hx ht (h p l e s m args below meth c D cI A ad0 n0 Q C hr ad H locs LS hR hl)
theorem o_tabIn {dflt lo hi : Int} {offs : Array Int} {len : Nat} {x : Int32} {off : Int} {tgt : Nat} (hd : decode (mC M) pc = .ok (.tableswitch dflt lo hi offs, len)) (h1 : ¬ x.toInt < lo) (h2 : ¬ hi < x.toInt) (ho : offs[(x.toInt - lo).toNat]? = some off) (ht : (pc : Int) + off = (tgt : Int)) (h : Ok M S tgt ls st w k n P) : Ok M S pc ls (.int x :: st) w k n P := by
  intro p l e s m args below meth c D cI A ad0 n0 Q C hr ad H locs LS hR hl
  exact lv_tableIn C.1.1 C.1.2.1 hd h1 h2 ho ht (h p l e s m args below meth c D cI A ad0 n0 Q C hr ad H locs LS hR hl)
theorem o_ldc {idx : Nat} {v : Int32} (hd : decode (mC M) pc = .ok (.ldc idx, 2)) (hq : Cond.constant (mY M).cls idx v ∈ GW) (h : Ok M S (pc + 2) ls (.int v :: st) w k n P) : Ok M S pc ls st w k n P := by
  intro p l e s m args below meth c D cI A ad0 n0 Q C hr ad H locs LS hR hl
  exact lv_ldc C.1.1 C.1.2.1 C.1.2.2.2.1 (C.2.1 _ hq) hd (h p l e s m args below meth c D cI A ad0 n0 Q C hr ad H locs LS hR hl)
theorem o_ldcw {idx : Nat} {v : Int32} (hd : decode (mC M) pc = .ok (.ldc_w idx, 3)) (hq : Cond.constant (mY M).cls idx v ∈ GW) (h : Ok M S (pc + 3) ls (.int v :: st) w k n P) : Ok M S pc ls st w k n P := by
  intro p l e s m args below meth c D cI A ad0 n0 Q C hr ad H locs LS hR hl
  exact lv_ldcw C.1.1 C.1.2.1 C.1.2.2.2.1 (C.2.1 _ hq) hd (h p l e s m args below meth c D cI A ad0 n0 Q C hr ad H locs LS hR hl)
theorem o_ldc2 {idx : Nat} {v : Int64} (hd : decode (mC M) pc = .ok (.ldc2_w idx, 3)) (hq : Cond.constantLong (mY M).cls idx v ∈ GW) (h : Ok M S (pc + 3) ls (.long v :: st) w k n P) : Ok M S pc ls st w k n P := by
  intro p l e s m args below meth c D cI A ad0 n0 Q C hr ad H locs LS hR hl
  exact lv_ldc2 C.1.1 C.1.2.1 C.1.2.2.2.1 (C.2.1 _ hq) hd (h p l e s m args below meth c D cI A ad0 n0 Q C hr ad H locs LS hR hl)
theorem o_iret {v : Int32} {ty : FieldType} (hd : decode (mC M) pc = .ok (.ireturn, 1)) (hT : mT M = some ty) (hn : narrow ty (.int v) = .int v) (hk : k ≤ (mR M).cells) (hk2 : n ≤ (mR M).slots) (h : P (some (.int v)) w) : Ok M S pc ls [.int v] w k n P := by
  intro p l e s m args below meth c D cI A ad0 n0 Q C hr ad H locs LS hR hl
  exact W.widen hk hk2 (hr pc LS (some (.int v)) w ad H locs hR h ⟨hd, ty, hT, hn⟩)
theorem o_lret {v : Int64} (hd : decode (mC M) pc = .ok (.lreturn, 1)) (hT : mT M = some .long) (hk : k ≤ (mR M).cells) (hk2 : n ≤ (mR M).slots) (h : P (some (.long v)) w) : Ok M S pc ls [.long v] w k n P := by
  intro p l e s m args below meth c D cI A ad0 n0 Q C hr ad H locs LS hR hl
  exact W.widen hk hk2 (hr pc LS (some (.long v)) w ad H locs hR h ⟨hT, hd⟩)
theorem o_vret (hd : decode (mC M) pc = .ok (.return_, 1)) (hT : mT M = none) (hk : k ≤ (mR M).cells) (hk2 : n ≤ (mR M).slots) (h : P none w) : Ok M S pc ls [] w k n P := by
  intro p l e s m args below meth c D cI A ad0 n0 Q C hr ad H locs LS hR hl
  exact W.widen hk hk2 (hr pc LS none w ad H locs hR h ⟨hT, hd⟩)
theorem rel_set {D : va_G} {cI : ClassId} {R : Room} {A : Nat → Prop} {H0 : Heap} {ad0 : Nat → Nat} {n0 : Nat} {ad : Nat → Nat} {H H1 : Heap} {locs locs1 : List Loc} {a : Nat} {e : PE} (h : Rel D cI R A H0 ad0 n0 ad w H locs)
    (hP : va_P D vwCl ((tw cI ad w).set a (ad a, te cI ad e)) H1) (hD : va_D A ((tw cI ad w).set a (ad a, te cI ad e))) (hS : va_S A H0 H1 locs1) : Rel D cI R A H0 ad0 n0 ad (w.set a e) H1 locs1 :=
  ⟨by rw [tw_set]; exact hP, by rw [tw_set]; exact hD, hS, fun z => ⟨(h.2.2.2.1 z).1, by rw [List.length_set]; exact (h.2.2.2.1 z).2⟩, by rw [List.length_set]; exact h.2.2.2.2.1, h.2.2.2.2.2⟩
theorem o_getf {a ci N j idx : Nat} {B : String} {T : u_T} {fs : List Value} {v : Value} (hd : decode (mC M) pc = .ok (.getfield idx, 3)) (hw : w[a]? = some (.inr (ci, fs))) (hc : vwCl[ci]? = some (B, T, N)) (hin : ∀ w ∈ u_ws B T N, w ∈ GW) (hj : j < N) (hlink : Cond.fieldLink (mY M).cls idx B (T j).2.1 (T j).2.2.1 ∈ GW) (ho : (T j).1 = B) (hv : fs[j]? = some v) (h : Ok M S (pc + 3) ls (v :: st) w k n P) : Ok M S pc ls (.ref a :: st) w k n P := by
  intro p l e s m args below meth c D cI A ad0 n0 Q C hr ad H locs LS hR hl
  exact va_get C.1.1 C.1.2.1 C.2.1 hin C.1.2.2.2.1 C.2.2.1 hR.1 a (tw_at hw) hc j hj (C.2.1 _ hlink) (fun x hx => by rw [ho] at hx; exact hx) (v := tv ad v) (by rw [List.getElem?_map, hv]; rfl) hd (h p l e s m args below meth c D cI A ad0 n0 Q C hr ad H locs LS hR hl)
theorem o_putf {a ci N j idx : Nat} {B : String} {T : u_T} {fs : List Value} {v : Value} {w2 : PW} (ty0 : Nat → FieldType) (hd : decode (mC M) pc = .ok (.putfield idx, 3)) (hw : w[a]? = some (.inr (ci, fs))) (hc : vwCl[ci]? = some (B, T, N)) (hin : ∀ w ∈ u_ws B T N, w ∈ GW) (hty : ∀ k, k < N → parseFieldDescriptor (T k).2.2.1 = some (ty0 k)) (hnm : ∀ a, a < N → ∀ b, b < N → a ≠ b → (T a).2.1 ≠ (T b).2.1) (hj : j < N) (hlink : Cond.fieldLink (mY M).cls idx B (T j).2.1 (T j).2.2.1 ∈ GW) (ho : (T j).1 = B) (hf : (T j).2.2.2 = false) (hnr : ∀ ad, narrow (ty0 j) (tv ad v) = tv ad v) (hft : ∀ ad, fits (ty0 j) (tv ad v) = true) (hlen : j < fs.length) (hw2 : w.set a (.inr (ci, fs.set j v)) = w2) (h : Ok M S (pc + 3) ls st w2 k n P) : Ok M S pc ls (v :: .ref a :: st) w k n P := by
  subst hw2
  intro p l e s m args below meth c D cI A ad0 n0 Q C hr ad H locs LS hR hl
  refine va_put C.1.1 C.1.2.1 C.2.1 hin ty0 hty hnm C.1.2.2.2.1 C.2.2.1 hR.1 hR.2.1 hR.2.2.1 a (tw_at hw) hc j hj (C.2.1 _ hlink) (fun x hx => by rw [ho] at hx; exact hx) hf (ty := ty0 j) (v := tv ad v) (hty j hj) (hnr ad) (hft ad) (by rw [List.length_map]; exact hlen) hd (fun H1 locs1 hP hD hS => ?_)
  have e1 : (fs.map (tv ad)).set j (tv ad v) = (fs.set j v).map (tv ad) := by rw [List.map_set]
  rw [e1] at hP hD
  exact h p l e s m args below meth c D cI A ad0 n0 Q C hr ad H1 locs1 LS (rel_set (e := .inr (ci, fs.set j v)) hR hP hD hS) hl
theorem o_putF {a ci N j idx : Nat} {B : String} {T : u_T} {fs : List Value} {v : Value} {w2 : PW} (ty0 : Nat → FieldType) (hd : decode (mC M) pc = .ok (.putfield idx, 3)) (hw : w[a]? = some (.inr (ci, fs))) (hc : vwCl[ci]? = some (B, T, N)) (hin : ∀ w ∈ u_ws B T N, w ∈ GW) (hty : ∀ k, k < N → parseFieldDescriptor (T k).2.2.1 = some (ty0 k)) (hnm : ∀ a, a < N → ∀ b, b < N → a ≠ b → (T a).2.1 ≠ (T b).2.1) (hj : j < N) (hlink : Cond.fieldLink (mY M).cls idx B (T j).2.1 (T j).2.2.1 ∈ GW) (ho : (T j).1 = B) (hf : (T j).2.2.2 = true) (hini : (mY M).name = "<init>") (hcls : (mY M).cls = B) (hnr : ∀ ad, narrow (ty0 j) (tv ad v) = tv ad v) (hft : ∀ ad, fits (ty0 j) (tv ad v) = true) (hlen : j < fs.length) (hw2 : w.set a (.inr (ci, fs.set j v)) = w2) (h : Ok M S (pc + 3) ls st w2 k n P) : Ok M S pc ls (v :: .ref a :: st) w k n P := by
  subst hw2
  intro p l e s m args below meth c D cI A ad0 n0 Q C hr ad H locs LS hR hl
  refine va_putF C.1.1 C.1.2.1 C.2.1 hin ty0 hty hnm C.1.2.2.2.1 C.2.2.1 hR.1 hR.2.1 hR.2.2.1 a (tw_at hw) hc j hj (C.2.1 _ hlink) (fun x hx => by rw [ho] at hx; exact hx) hf (C.1.2.2.2.2.trans hini) (ho.trans hcls.symm) (ty := ty0 j) (v := tv ad v) (hty j hj) (hnr ad) (hft ad) (by rw [List.length_map]; exact hlen) hd (fun H1 locs1 hP hD hS => ?_)
  have e1 : (fs.map (tv ad)).set j (tv ad v) = (fs.set j v).map (tv ad) := by rw [List.map_set]
  rw [e1] at hP hD
  exact h p l e s m args below meth c D cI A ad0 n0 Q C hr ad H1 locs1 LS (rel_set (e := .inr (ci, fs.set j v)) hR hP hD hS) hl
theorem o_iald {a N : Nat} {f : Nat → Int32} {i : Int32} (hd : decode (mC M) pc = .ok (.iaload, 1)) (hw : w[a]? = some (.inl (N, f))) (hin : vp_in i N) (h : Ok M S (pc + 1) ls (.int (f i.toNatClampNeg) :: st) w k n P) : Ok M S pc ls (.int i :: .ref a :: st) w k n P := by
  intro p l e s m args below meth c D cI A ad0 n0 Q C hr ad H locs LS hR hl
  exact va_iald C.1.1 C.1.2.1 C.2.2.1 hR.1 a 0 (tw_at hw) rfl hin hd (h p l e s m args below meth c D cI A ad0 n0 Q C hr ad H locs LS hR hl)
theorem o_iast {a N : Nat} {f : Nat → Int32} {i x : Int32} {w2 : PW} (hd : decode (mC M) pc = .ok (.iastore, 1)) (hw : w[a]? = some (.inl (N, f))) (hin : vp_in i N) (hw2 : w.set a (.inl (N, upd f i.toNatClampNeg x)) = w2) (h : Ok M S (pc + 1) ls st w2 k n P) : Ok M S pc ls (.int x :: .int i :: .ref a :: st) w k n P := by
  subst hw2
  intro p l e s m args below meth c D cI A ad0 n0 Q C hr ad H locs LS hR hl
  exact va_iast C.1.1 C.1.2.1 C.2.2.1 hR.1 hR.2.1 hR.2.2.1 a 0 (tw_at hw) rfl hin hd (fun H1 locs1 hP hD hS => h p l e s m args below meth c D cI A ad0 n0 Q C hr ad H1 locs1 LS (rel_set (e := .inl (N, upd f i.toNatClampNeg x)) hR hP hD hS) hl)
theorem o_alen {a N : Nat} {f : Nat → Int32} (hd : decode (mC M) pc = .ok (.arraylength, 1)) (hw : w[a]? = some (.inl (N, f))) (h : Ok M S (pc + 1) ls (.int (nI N) :: st) w k n P) : Ok M S pc ls (.ref a :: st) w k n P := by
  intro p l e s m args below meth c D cI A ad0 n0 Q C hr ad H locs LS hR hl
  exact va_alen C.1.1 C.1.2.1 C.2.2.1 hR.1 a 0 (tw_at hw) (ty := .int) rfl rfl hd (h p l e s m args below meth c D cI A ad0 n0 Q C hr ad H locs LS hR hl)
theorem o_sld {L : Nat} {xs : Nat → Int32} {i : Int32} (hd : decode (mC M) pc = .ok (.iaload, 1)) (hS : S = some (L, xs)) (hin : vp_in i L) (h : Ok M S (pc + 1) ls (.int (xs i.toNatClampNeg) :: st) w k n P) : Ok M S pc ls (.int i :: .ref 999 :: st) w k n P := by
  intro p l e s m args below meth c D cI A ad0 n0 Q C hr ad H locs LS hR hl
  obtain ⟨h1, h2, h3⟩ := C.2.2.2.2.2 _ hS
  have e9 : ad 999 = ad0 999 := hR.2.2.2.2.2.2
  have K := h p l e s m args below meth c D cI A ad0 n0 Q C hr ad H locs LS hR hl
  show W p l e (mR M) s m args below meth c H locs k n Q (F0 m pc LS (.int i :: .ref (ad 999) :: st.map (tv ad)))
  rw [e9]
  exact va_sld C.1.1 C.1.2.1 h1 h2 h3 hR.2.2.1 hin hd K
theorem o_slen {L : Nat} {xs : Nat → Int32} (hd : decode (mC M) pc = .ok (.arraylength, 1)) (hS : S = some (L, xs)) (h : Ok M S (pc + 1) ls (.int (nI L) :: st) w k n P) : Ok M S pc ls (.ref 999 :: st) w k n P := by
  intro p l e s m args below meth c D cI A ad0 n0 Q C hr ad H locs LS hR hl
  obtain ⟨h1, h2, h3⟩ := C.2.2.2.2.2 _ hS
  have e9 : ad 999 = ad0 999 := hR.2.2.2.2.2.2
  have K := h p l e s m args below meth c D cI A ad0 n0 Q C hr ad H locs LS hR hl
  show W p l e (mR M) s m args below meth c H locs k n Q (F0 m pc LS (.ref (ad 999) :: st.map (tv ad)))
  rw [e9]
  exact va_slen C.1.1 C.1.2.1 h1 h2 h3 hR.2.2.1 hd K
def catS (st : List Value) : Nat := (st.map fun v => v.category).sum
theorem catS_tv (ad : Nat → Nat) : ∀ st : List Value, ((st.map (tv ad)).map fun v => v.category).sum = catS st
  | [] => rfl
  | v :: st => by
    have ih := catS_tv ad st
    simp only [catS, List.map_cons, List.sum_cons, tv_cat] at ih ⊢
    rw [ih]
theorem o_objInit {a idx : Nat} (hd : decode (mC M) pc = .ok (.invokespecial idx, 3)) (hlink : Cond.methodLink (mY M).cls idx objectInit ∈ GW) (hinst : Cond.instanceMethod objectInit ∈ GW) (hcode : Cond.code objectInit ⟨#[0xb1]⟩ 1 none ∈ GW) (hf : 1 ≤ (mR M).frames) (hlo : catS st + 12 ≤ (mR M).locals) (h : Ok M S (pc + 3) ls st w k n P) : Ok M S pc ls (.ref a :: st) w k n P := by
  intro p l e s m args below meth c D cI A ad0 n0 Q C hr ad H locs LS hR hl
  exact W.objInit C.1.1 C.1.2.1 C.1.2.2.2.1 (C.2.1 _ hlink) (C.2.1 _ hinst) (C.2.1 _ hcode) (g := F0 m pc LS (.ref (ad a) :: st.map (tv ad))) rfl (hl.1.trans C.1.2.2.1.symm) rfl hd hf (by show 2 * 0 + _ + 12 ≤ _; rw [catS_tv]; omega) (h p l e s m args below meth c D cI A ad0 n0 Q C hr ad H locs LS hR hl)
theorem o_mmax {x y : Int32} {idx : Nat} (hd : decode (mC M) pc = .ok (.invokestatic idx, 3)) (hlink : Cond.methodLink (mY M).cls idx Lib.Math.max.name ∈ GW) (hst : Cond.static Lib.Math.max.name ∈ GW) (hini : Cond.initialized "java/lang/Math" ∈ GW) (hcode : Cond.code Lib.Math.max.name Lib.Math.max.code 2 (some .int) ∈ GW) (hf : 1 ≤ (mR M).frames) (hlo : catS st + 13 ≤ (mR M).locals) (hk : k ≤ (mR M).cells) (hk2 : n ≤ (mR M).slots) (h : Ok M S (pc + 3) ls (.int (if x < y then y else x) :: st) w k n P) : Ok M S pc ls (.int y :: .int x :: st) w k n P := by
  intro p l e s m args below meth c D cI A ad0 n0 Q C hr ad H locs LS hR hl
  exact va_mmax C.1.1 C.1.2.1 (C.1.2.2.1.trans hl.1.symm) C.1.2.2.2.1 (C.2.1 _ hlink) (C.2.1 _ hst) (C.2.1 _ hini) (C.2.1 _ hcode) hf (by rw [catS_tv]; exact hlo) hk hk2 hd (h p l e s m args below meth c D cI A ad0 n0 Q C hr ad H locs LS hR hl)
theorem o_mmin {x y : Int32} {idx : Nat} (hd : decode (mC M) pc = .ok (.invokestatic idx, 3)) (hlink : Cond.methodLink (mY M).cls idx Lib.Math.min.name ∈ GW) (hst : Cond.static Lib.Math.min.name ∈ GW) (hini : Cond.initialized "java/lang/Math" ∈ GW) (hcode : Cond.code Lib.Math.min.name Lib.Math.min.code 2 (some .int) ∈ GW) (hf : 1 ≤ (mR M).frames) (hlo : catS st + 13 ≤ (mR M).locals) (hk : k ≤ (mR M).cells) (hk2 : n ≤ (mR M).slots) (h : Ok M S (pc + 3) ls (.int (if y < x then y else x) :: st) w k n P) : Ok M S pc ls (.int y :: .int x :: st) w k n P := by
  intro p l e s m args below meth c D cI A ad0 n0 Q C hr ad H locs LS hR hl
  exact va_mmin C.1.1 C.1.2.1 (C.1.2.2.1.trans hl.1.symm) C.1.2.2.2.1 (C.2.1 _ hlink) (C.2.1 _ hst) (C.2.1 _ hini) (C.2.1 _ hcode) hf (by rw [catS_tv]; exact hlo) hk hk2 hd (h p l e s m args below meth c D cI A ad0 n0 Q C hr ad H locs LS hR hl)
theorem o_copyi {a b N0 N1 idx : Nat} {f g : Nat → Int32} {sp dp q : Int32} {w2 : PW} (hd : decode (mC M) pc = .ok (.invokestatic idx, 3)) (hlink : Cond.methodLink (mY M).cls idx arraycopyName ∈ GW) (hnat : Cond.native arraycopyName ∈ GW) (hst : Cond.static arraycopyName ∈ GW) (hini : Cond.initialized "java/lang/System" ∈ GW) (hw : w[b]? = some (.inl (N0, f))) (hw1 : w[a]? = some (.inl (N1, g))) (h1 : ¬ sp < 0) (h2 : ¬ dp < 0) (h3 : ¬ q < 0) (h4 : sp.toNatClampNeg + q.toNatClampNeg ≤ N0) (h5 : dp.toNatClampNeg + q.toNatClampNeg ≤ N1) (hf : 1 ≤ (mR M).frames) (hlo : catS st + (nativeFrameWords "java/lang/System" "arraycopy" 5 + 11) ≤ (mR M).locals) (hw2 : w.set a (.inl (N1, va_cpy f g sp.toNatClampNeg dp.toNatClampNeg q.toNatClampNeg)) = w2) (h : Ok M S (pc + 3) ls st w2 k n P) : Ok M S pc ls (.int q :: .int dp :: .ref a :: .int sp :: .ref b :: st) w k n P := by
  subst hw2
  intro p l e s m args below meth c D cI A ad0 n0 Q C hr ad H locs LS hR hl
  exact va_copyi C.1.1 C.1.2.1 (C.1.2.2.1.trans hl.1.symm) C.1.2.2.2.1 (C.2.1 _ hlink) (C.2.1 _ hnat) (C.2.1 _ hst) (C.2.1 _ hini) C.2.2.1 hR.1 hR.2.1 hR.2.2.1 b a 0 0 (ty := .int) (tw_at hw) (tw_at hw1) rfl rfl rfl h1 h2 h3 h4 h5 (fun _ _ => rfl) hf (by rw [catS_tv]; exact hlo) hd (fun H1 locs1 hP hD hS => h p l e s m args below meth c D cI A ad0 n0 Q C hr ad H1 locs1 LS (rel_set (e := .inl (N1, va_cpy f g sp.toNatClampNeg dp.toNatClampNeg q.toNatClampNeg)) hR hP hD hS) hl)
def peq : PE → PE → Prop
  | .inl x, .inl y => x.1 = y.1 ∧ ∀ j, j < x.1 → x.2 j = y.2 j
  | x, y => x = y
theorem te_peq {cI : ClassId} {ad : Nat → Nat} {x y : PE} {D : va_G} {a : Nat} {H : Heap} (h : peq x y) (hx : va_at D vwCl (a, te cI ad x) H) : va_at D vwCl (a, te cI ad y) H := by
  match x, y, h with
  | .inl (n1, f), .inl (n2, g), h =>
    obtain ⟨h1, h2⟩ := h
    simp only at h1 h2
    subst h1
    have e : arrV cI n1 (fun j => .int (f j)) = arrV cI n1 (fun j => .int (g j)) := by
      unfold arrV
      congr 1
      apply Array.ext
      · simp
      · intro i hi1 hi2
        simp only [Array.getElem_ofFn]
        have : i < n1 := by simpa using hi1
        rw [h2 i this]
    show H[a]? = some (arrV cI n1 (fun j => .int (g j)))
    rw [← e]
    exact hx
  | .inl _, .inr _, h => cases h
  | .inr _, .inl _, h => cases h
  | .inr u, .inr v, h =>
    have e : (Sum.inr u : PE) = Sum.inr v := h
    rw [← e]; exact hx
/-- another picture of the same cells -/
theorem o_same {w2 : PW} (hn : w2.length = w.length) (hq : ∀ (j : Nat) (x y : PE), w[j]? = some x → w2[j]? = some y → peq x y) (h : Ok M S pc ls st w2 k n P) : Ok M S pc ls st w k n P := by
  intro p l e s m args below meth c D cI A ad0 n0 Q C hr ad H locs LS hR hl
  refine h p l e s m args below meth c D cI A ad0 n0 Q C hr ad H locs LS ⟨fun j q hj => ?_, ⟨fun i j p q hi hj e => ?_, fun j q hj => ?_⟩, hR.2.2.1, fun z => ⟨(hR.2.2.2.1 z).1, hn.trans (hR.2.2.2.1 z).2⟩, by rw [hn]; exact hR.2.2.2.2.1, hR.2.2.2.2.2⟩ hl
  · obtain ⟨y, hy, rfl⟩ := tw_of hj
    have hlt : j < w.length := by rw [← hn]; exact (List.getElem?_eq_some_iff.mp hy).1
    have hx : w[j]? = some w[j] := List.getElem?_eq_getElem hlt
    exact te_peq (hq j _ _ hx hy) (hR.1 j _ (tw_at hx))
  · obtain ⟨x, hx, rfl⟩ := tw_of hi
    obtain ⟨y, hy, rfl⟩ := tw_of hj
    have hl1 : i < w.length := by rw [← hn]; exact (List.getElem?_eq_some_iff.mp hx).1
    have hl2 : j < w.length := by rw [← hn]; exact (List.getElem?_eq_some_iff.mp hy).1
    exact hR.2.1.1 i j _ _ (tw_at (List.getElem?_eq_getElem hl1)) (tw_at (List.getElem?_eq_getElem hl2)) e
  · obtain ⟨y, hy, rfl⟩ := tw_of hj
    have hlt : j < w.length := by rw [← hn]; exact (List.getElem?_eq_some_iff.mp hy).1
    have := hR.2.1.2 j (ad j, te cI ad w[j]) (tw_at (List.getElem?_eq_getElem hlt))
    exact this
theorem o_post {P2 : Option Value → PW → Prop} (hp : ∀ r w, P2 r w → P r w) (h : Ok M S pc ls st w k n P2) : Ok M S pc ls st w k n P := by
  intro p l e s m args below meth c D cI A ad0 n0 Q C hr ad H locs LS hR hl
  exact h p l e s m args below meth c D cI A ad0 n0 Q C (fun pc LS r w ad H locs h1 h2 h3 => hr pc LS r w ad H locs h1 (hp r w h2) h3) ad H locs LS hR hl
end ROWS
end
section
/-! CALLS: a callee's contract speaks of its own small world; 'is' says which cells of the caller's they are -/
def rv (is : List Nat) (v : Value) : Value := tv (fun j => is.getD j 0) v
def re (is : List Nat) : PE → PE
  | .inl x => .inl x
  | .inr o => .inr (o.1, o.2.map (rv is))
def pbk (ren : PE → PE) (w : PW) : List Nat → PW → PW
  | i :: is, e :: es => pbk ren (w.set i (ren e)) is es
  | _, _ => w
def pb (w : PW) (is : List Nat) (wc : PW) : PW := pbk (re is) w is wc
theorem pbk_len (ren : PE → PE) : ∀ (is : List Nat) (es w : PW), (pbk ren w is es).length = w.length
  | [], es, w => by cases es <;> rfl
  | i :: is, [], w => rfl
  | i :: is, e :: es, w => by rw [pbk, pbk_len, List.length_set]
theorem pbk_out (ren : PE → PE) : ∀ (is : List Nat) (es w : PW) (i : Nat), (∀ j, j < es.length → is[j]? ≠ some i) → (pbk ren w is es)[i]? = w[i]?
  | [], es, w, i, h => by cases es <;> rfl
  | i0 :: is, [], w, i, h => rfl
  | i0 :: is, e :: es, w, i, h => by
    rw [pbk, pbk_out ren is es _ i (fun j hj => by have := h (j + 1) (by simp; omega); simpa using this), List.getElem?_set, if_neg]
    have := h 0 (by simp)
    simpa using this
theorem pbk_in (ren : PE → PE) : ∀ (is : List Nat) (es w : PW) (i j : Nat) (e : PE), va_nd (is.take es.length) = true → is[j]? = some i → es[j]? = some e → i < w.length → (pbk ren w is es)[i]? = some (ren e)
  | [], es, w, i, j, e, _, h, _, _ => by simp at h
  | i0 :: is, [], w, i, j, e, _, _, h, _ => by simp at h
  | i0 :: is, e0 :: es, w, i, j, e, hn, hi, he, hl => by
    rw [pbk]
    cases j with
    | zero =>
      have e1 : i0 = i := by simpa using hi
      have e2 : e0 = e := by simpa using he
      subst e1; subst e2
      rw [pbk_out ren is es _ i0 (fun j hj hj2 => ?_), List.getElem?_set, if_pos rfl, if_pos hl]
      have a1 : ((i0 :: is).take (e0 :: es).length)[0]? = some i0 := by simp
      have a2 : ((i0 :: is).take (e0 :: es).length)[j + 1]? = some i0 := by
        rw [List.getElem?_take, if_pos (by simp; omega)]
        simpa using hj2
      have := va_nd_inj _ hn 0 (j + 1) i0 a1 a2
      omega
    | succ j =>
      refine pbk_in ren is es _ i j e ?_ (by simpa using hi) (by simpa using he) (by rw [List.length_set]; exact hl)
      have h2 : (i0 :: is).take (e0 :: es).length = i0 :: is.take es.length := by simp
      rw [h2, va_nd] at hn
      simp only [Bool.and_eq_true] at hn
      exact hn.2
theorem tv_rv (ad : Nat → Nat) (is : List Nat) (v : Value) : tv (fun j => ad (is.getD j 0)) v = tv ad (rv is v) := by cases v <;> rfl
theorem te_re (cI : ClassId) (ad : Nat → Nat) (is : List Nat) (e : PE) : te cI (fun j => ad (is.getD j 0)) e = te cI ad (re is e) := by
  cases e with
  | inl x => rfl
  | inr o =>
    show (Sum.inr (o.1, o.2.map (tv fun j => ad (is.getD j 0))) : va_E) = Sum.inr (o.1, (o.2.map (rv is)).map (tv ad))
    rw [List.map_map]
    congr 2
    exact List.map_congr_left (fun v _ => tv_rv ad is v)
/-- the callee's cells lie in the caller's world -/
def Emb (is : List Nat) (wc w : PW) : Prop := (is.take wc.length).map (fun i => w[i]?) = wc.map (fun e => some (re is e))
theorem Emb.at {is : List Nat} {wc w : PW} (h : Emb is wc w) {j : Nat} {e : PE} (he : wc[j]? = some e) : ∃ i, is[j]? = some i ∧ is.getD j 0 = i ∧ w[i]? = some (re is e) := by
  have hl : j < wc.length := (List.getElem?_eq_some_iff.mp he).1
  have h1 : ((is.take wc.length).map (fun i => w[i]?))[j]? = some (some (re is e)) := by rw [h, List.getElem?_map, he]; rfl
  rw [List.getElem?_map, List.getElem?_take, if_pos hl] at h1
  cases hi : is[j]? with
  | none => rw [hi] at h1; cases h1
  | some i =>
    rw [hi] at h1
    exact ⟨i, rfl, by simp [List.getD, hi], Option.some.inj h1⟩
section BACK
variable {M Mc : MI} {S : Scr} {pc : Nat} {ls : List (Option Value)} {st : List Value} {w wc : PW} {k n : Nat} {P Pc : Option Value → PW → Prop} {is : List Nat}
variable {p : Program} {l : Launch} {e : Env} {s : State} {m : MethodId} {args : Array Value} {below : List Frame} {meth : Method} {c : Code} {D : va_G} {cI : ClassId} {A : Nat → Prop} {ad0 ad : Nat → Nat} {n0 : Nat} {Q : State → Prop} {H : Heap} {locs : List Loc} {LS : Array Slot}
theorem sub_P (hR : Rel D cI (mR M) A s.heap ad0 n0 ad w H locs) (hE : Emb is wc w) : va_P D vwCl (tw cI (fun j => ad (is.getD j 0)) wc) H := by
  intro j q hq
  obtain ⟨x, hx, rfl⟩ := tw_of hq
  obtain ⟨i, h1, h2, h3⟩ := hE.at hx
  have := hR.1 i _ (tw_at h3)
  rw [te_re]
  simp only [h2]
  exact this
theorem sub_D (hR : Rel D cI (mR M) A s.heap ad0 n0 ad w H locs) (hE : Emb is wc w) (hnd : va_nd (is.take wc.length) = true) : va_D (fun _ => True) (tw cI (fun j => ad (is.getD j 0)) wc) := by
  refine ⟨fun a b x y ha hb hxy => ?_, fun _ _ _ => trivial⟩
  obtain ⟨x', hx, rfl⟩ := tw_of ha
  obtain ⟨y', hy, rfl⟩ := tw_of hb
  obtain ⟨i, h1, h2, h3⟩ := hE.at hx
  obtain ⟨i', g1, g2, g3⟩ := hE.at hy
  simp only [h2, g2] at hxy
  have e1 := hR.2.1.1 i i' _ _ (tw_at h3) (tw_at g3) hxy
  subst e1
  have la : a < wc.length := (List.getElem?_eq_some_iff.mp hx).1
  have lb : b < wc.length := (List.getElem?_eq_some_iff.mp hy).1
  exact va_nd_inj _ hnd a b i (by rw [List.getElem?_take, if_pos la]; exact h1) (by rw [List.getElem?_take, if_pos lb]; exact g1)
theorem sub_A (C : Ctx M S p s m args meth c D cI A ad0) (hR : Rel D cI (mR M) A s.heap ad0 n0 ad w H locs) (hE : Emb is wc w) : ∀ q, va_A (tw cI (fun j => ad (is.getD j 0)) wc) H.size q → A q := by
  intro q hq
  rcases hq with ⟨j, x, hx⟩ | hq
  · obtain ⟨y, hy, e1⟩ := tw_of hx
    obtain ⟨i, h1, h2, h3⟩ := hE.at hy
    have h4 := hR.2.1.2 i _ (tw_at h3)
    simp only [h2, Prod.mk.injEq] at e1
    rw [e1.1]; exact h4
  · exact C.2.2.2.2.1 q (Nat.le_trans hR.2.2.1.1 hq)
theorem rel_pb {H1 : Heap} {locs1 : List Loc} {wc2 : PW} (hR : Rel D cI (mR M) A s.heap ad0 n0 ad w H locs) (hE : Emb is wc w) (hnd : va_nd (is.take wc.length) = true) (hlen : wc2.length = wc.length)
    (hP : va_P D vwCl (tw cI (fun j => ad (is.getD j 0)) wc2) H1) (hk : ∀ q : Nat, q < H.size → ¬ va_A (tw cI (fun j => ad (is.getD j 0)) wc) H.size q → H1[q]? = H[q]?) (hS : va_S A s.heap H1 locs1) : Rel D cI (mR M) A s.heap ad0 n0 ad (pb w is wc2) H1 locs1 := by
  have hL : (pb w is wc2).length = w.length := pbk_len _ _ _ _
  refine ⟨fun i q hq => ?_, ⟨fun i j x y hi hj hxy => ?_, fun i q hq => ?_⟩, hS, fun z => ⟨(hR.2.2.2.1 z).1, hL.trans (hR.2.2.2.1 z).2⟩, by rw [hL]; exact hR.2.2.2.2.1, hR.2.2.2.2.2⟩
  · obtain ⟨x, hx, rfl⟩ := tw_of hq
    have hi : i < w.length := by rw [← hL]; exact (List.getElem?_eq_some_iff.mp hx).1
    by_cases hin : ∃ j, j < wc2.length ∧ is[j]? = some i
    · obtain ⟨j, hj, hji⟩ := hin
      have he : wc2[j]? = some wc2[j] := List.getElem?_eq_getElem hj
      have h1 := pbk_in (re is) is wc2 w i j wc2[j] (by rw [hlen]; exact hnd) hji he hi
      have h2 : (pb w is wc2)[i]? = some (re is wc2[j]) := h1
      rw [h2] at hx
      cases hx
      have h3 := hP j _ (tw_at he)
      rw [te_re] at h3
      have h4 : is.getD j 0 = i := by simp [List.getD, hji]
      simp only [h4] at h3
      exact h3
    · have h1 : (pb w is wc2)[i]? = w[i]? := pbk_out (re is) is wc2 w i (fun j hj hji => hin ⟨j, hj, hji⟩)
      rw [h1] at hx
      have h2 := hR.1 i _ (tw_at hx)
      refine h2.kept (hk _ h2.lt (fun hA => ?_))
      rcases hA with ⟨j, y, hy⟩ | hA
      · obtain ⟨z, hz, e1⟩ := tw_of hy
        obtain ⟨i', g1, g2, g3⟩ := hE.at hz
        simp only [g2, Prod.mk.injEq] at e1
        have := hR.2.1.1 i i' _ _ (tw_at hx) (tw_at g3) e1.1
        subst this
        exact hin ⟨j, by rw [hlen]; exact (List.getElem?_eq_some_iff.mp hz).1, g1⟩
      · exact absurd h2.lt (Nat.not_lt.mpr hA)
  · obtain ⟨x', hx, rfl⟩ := tw_of hi
    obtain ⟨y', hy, rfl⟩ := tw_of hj
    have hl1 : i < w.length := by rw [← hL]; exact (List.getElem?_eq_some_iff.mp hx).1
    have hl2 : j < w.length := by rw [← hL]; exact (List.getElem?_eq_some_iff.mp hy).1
    exact hR.2.1.1 i j _ _ (tw_at (List.getElem?_eq_getElem hl1)) (tw_at (List.getElem?_eq_getElem hl2)) hxy
  · obtain ⟨y, hy, rfl⟩ := tw_of hq
    have hlt : i < w.length := by rw [← hL]; exact (List.getElem?_eq_some_iff.mp hy).1
    have := hR.2.1.2 i (ad i, te cI ad w[i]) (tw_at (List.getElem?_eq_getElem hlt))
    exact this
theorem call_back {a : Array Value} {st0 : List Value} (hz : (mR Mc).cells = 0) (hz2 : (mR Mc).slots = 0) (C : Ctx M S p s m args meth c D cI A ad0) (hr : RetQ M p l e s m args below meth c D cI A ad0 n0 Q P) (hR : Rel D cI (mR M) A s.heap ad0 n0 ad w H locs) (hl : lr ad (mL M) ls LS) (hE : Emb is wc w) (hnd : va_nd (is.take wc.length) = true)
    (hrun : va_Run p l e (mR M) s m args below meth c H locs k n (mR Mc).cells (mR Mc).slots (F0 m pc LS st0) (st.map (tv ad)) (PQ Mc D cI (fun j => ad (is.getD j 0)) wc H.size Pc a) (va_A (tw cI (fun j => ad (is.getD j 0)) wc) H.size))
    (h : ∀ r wc2, Pc r wc2 → wc2.length = wc.length → Ok M S (pc + 3) ls (r.toList ++ st) (pb w is wc2) k n P) : W p l e (mR M) s m args below meth c H locs k n Q (F0 m pc LS st0) := by
  intro T hT X
  obtain ⟨v, st₀, t, T', L, h0, X', hL, e1, e2, hq, go⟩ := hrun T hT X
  obtain ⟨⟨r, wc2, ad2, hoc, hpost, hcl, hz', -, -, hP', hD'⟩, hF1, hF2⟩ := hq
  have ev : v = r := by cases hoc; rfl
  subst ev
  obtain ⟨rfl, hlen⟩ := hz' hz
  rw [h0] at hF1 hF2
  have hS : va_S A s.heap T'.heap (locs ++ L) := by
    refine ⟨Nat.le_trans hR.2.2.1.1 (by rw [e1]; exact hF1), fun q h1 h2 => ?_, fun q hq => ?_⟩
    · rw [e1, hF2 q (Nat.lt_of_lt_of_le h1 hR.2.2.1.1) (fun z => h2 (sub_A C hR hE q z))]
      exact hR.2.2.1.2.1 q h1 h2
    · rcases List.mem_append.mp hq with h | h
      · exact hR.2.2.1.2.2 q h
      · exact sub_A C hR hE _ (hL q h)
  have K := h v wc2 hpost hlen p l e s m args below meth c D cI A ad0 n0 Q C hr ad T'.heap (locs ++ L) LS (rel_pb hR hE hnd hlen (by rw [e1]; exact hP') (fun q h1 h2 => by rw [e1]; exact hF2 q h1 h2) hS) hl
  have e3 : (v.toList ++ st).map (tv ad) = v.toList ++ st.map (tv ad) := by
    rw [List.map_append]
    cases v with
    | none => rfl
    | some v => simp [hcl v rfl]
  rw [e3] at K
  rw [hz, hz2] at X'
  obtain ⟨t2, a1, b1⟩ := K T' rfl X'
  exact ⟨t2, go t2 a1, b1⟩
end BACK
theorem gw_good : ∀ w ∈ GW, goodWord w = true := fun w h => (List.mem_filter.mp h).2
theorem gw_in {y : MethodName} {cc : ByteArray} {nL : Nat} {rt : Option FieldType} (h : Cond.code y cc nL rt ∈ GW) : GoodIn GW (Cond.code y cc nL rt :: GW) := fun w hw => by
  rcases List.mem_cons.mp hw with rfl | hw
  · exact ⟨h, good_of_word (gw_good _ h)⟩
  · exact ⟨hw, good_of_word (gw_good _ hw)⟩
theorem nest_of : ∀ w, isNest w = true → ∃ a i x h, w = Cond.methodLinkNest a i x h := fun w h => by
  cases w <;> first | exact ⟨_, _, _, _, rfl⟩ | (simp [isNest] at h; done)
theorem NWok.warm {s U : State} (hW : s.WarmedH U.vm) (h : NWok s) : NWok U := fun w hw => by
  obtain ⟨a, i, x, g, rfl⟩ := nest_of w (List.mem_filter.mp hw).2
  exact va_Nw.warmM hW (h _ hw)
theorem ppc_blind {D : va_G} {cI : ClassId} {ad : Nat → Nat} {w : PW} {sz : Nat} {av : List Value} : FrameBlind (va_Pc av (PPc D cI ad w sz)) := fun a U g mk q => by
  obtain ⟨q0, q1, qP, qK, qD, qN⟩ := q
  refine ⟨q0, q1, qP, va_K.moved (u := U) (U := U.calling g mk a) (Vm.Alike.refl U.vm) qK, qD, fun w hw => ?_⟩
  obtain ⟨b, i, x, h, rfl⟩ := nest_of w (List.mem_filter.mp hw).2
  exact va_Nw.same rfl (rfl : U.vm = (U.calling g mk a).vm) (qN _ hw)
/-- what the tables say of a method that is called: of an object's, of a static one -/
def CV (M : MI) (nA : Nat) : Prop := Cond.instanceMethod (mY M) ∈ GW ∧ Cond.selects (mY M).cls (mY M) (mY M) ∈ GW ∧ Cond.initialized (mY M).cls ∈ GW ∧ Cond.code (mY M) (mC M) (mL M) (mT M) ∈ GW ∧ ((mY M).cls ≠ "java/lang/invoke/MethodHandle" ∧ (mY M).cls ≠ "java/lang/invoke/VarHandle" ∧ (parseMethodDescriptor (mY M).desc).map (fun d => d.parameters.length) = some nA)
def CS (M : MI) (nA : Nat) : Prop := Cond.static (mY M) ∈ GW ∧ Cond.initialized (mY M).cls ∈ GW ∧ Cond.code (mY M) (mC M) (mL M) (mT M) ∈ GW ∧ ((mY M).cls ≠ "java/lang/invoke/MethodHandle" ∧ (mY M).cls ≠ "java/lang/invoke/VarHandle" ∧ (parseMethodDescriptor (mY M).desc).map (fun d => d.parameters.length) = some nA)
def Rm (M Mc : MI) : Prop := (mR Mc).frames + 1 ≤ (mR M).frames ∧ 8 + (mL Mc + 11) + (mR Mc).locals ≤ (mR M).locals
section CALL
variable {M Mc : MI} {S : Scr} {pc : Nat} {ls : List (Option Value)} {st stk : List Value} {w wc : PW} {k n : Nat} {P Pc : Option Value → PW → Prop} {is : List Nat} {asc : List Value} {idx nA : Nat}
theorem map_rv (ad : Nat → Nat) (is : List Nat) (as : List Value) : as.map (tv (fun j => ad (is.getD j 0))) = (as.map (rv is)).map (tv ad) := by
  rw [List.map_map]
  exact List.map_congr_left (fun v _ => tv_rv ad is v)
theorem o_callS (hM : PM Mc asc wc Pc) (hz : (mR Mc).cells = 0 ∧ (mR Mc).slots = 0) (hd : decode (mC M) pc = .ok (.invokestatic idx, 3)) (hlink : Cond.methodLink (mY M).cls idx (mY Mc) ∈ GW) (cs : CS Mc nA) (hn : asc.length = nA) (hrm : Rm M Mc) (hE : Emb is wc w) (hnd : va_nd (is.take wc.length) = true) (hst : (asc.map (rv is)).reverse ++ st = stk) (hcat : catS st ≤ 8) (hk : k ≤ (mR M).cells) (hk2 : n ≤ (mR M).slots)
    (h : ∀ r wc2, Pc r wc2 → wc2.length = wc.length → Ok M S (pc + 3) ls (r.toList ++ st) (pb w is wc2) k n P) : Ok M S pc ls stk w k n P := by
  subst hst
  intro p l e s m args below meth c D cI A ad0 n0 Q C hr ad H locs LS hR hl
  refine call_back hz.1 hz.2 C hr hR hl hE hnd (va_runS (As := asc.map (tv (fun j => ad (is.getD j 0)))) (n := asc.length) ⟨C.1.1, C.1.2.1, C.1.2.2.1, C.1.2.2.2.1, C.2.1⟩ (hM l D cI (fun j => ad (is.getD j 0)) H.size) ⟨callB_of asc.length C.2.1 (gw_in cs.2.2.1) rfl rfl rfl (C.2.1 _ cs.2.1) (C.2.1 _ hlink) (by rw [hn]; exact cs.2.2.2) hrm, C.2.1 _ cs.1⟩ ⟨ppc_blind, fun U hU hW => ⟨rfl, by rw [hU], by rw [hU]; exact sub_P hR hE, va_K.moved hW.alike C.2.2.1, sub_D hR hE hnd, NWok.warm hW C.2.2.2.1⟩⟩ rfl (by rw [List.length_map]) hl.1 ?_ ?_ hd ⟨by rw [hz.1]; exact hk, by rw [hz.2]; exact hk2⟩) h
  · show ((asc.map (rv is)).reverse ++ st).map (tv ad) = _
    rw [List.map_append, List.map_reverse, map_rv]
  · exact lv_room (by rw [catS_tv]; exact hcat)
theorem o_callSN {host : String} (hM : PM Mc asc wc Pc) (hz : (mR Mc).cells = 0 ∧ (mR Mc).slots = 0) (hd : decode (mC M) pc = .ok (.invokestatic idx, 3)) (hlink : Cond.methodLinkNest (mY M).cls idx (mY Mc) host ∈ NWl) (cs : CS Mc nA) (hn : asc.length = nA) (hrm : Rm M Mc) (hE : Emb is wc w) (hnd : va_nd (is.take wc.length) = true) (hst : (asc.map (rv is)).reverse ++ st = stk) (hcat : catS st ≤ 8) (hk : k ≤ (mR M).cells) (hk2 : n ≤ (mR M).slots)
    (h : ∀ r wc2, Pc r wc2 → wc2.length = wc.length → Ok M S (pc + 3) ls (r.toList ++ st) (pb w is wc2) k n P) : Ok M S pc ls stk w k n P := by
  subst hst
  intro p l e s m args below meth c D cI A ad0 n0 Q C hr ad H locs LS hR hl
  refine call_back hz.1 hz.2 C hr hR hl hE hnd (va_runSN (As := asc.map (tv (fun j => ad (is.getD j 0)))) (n := asc.length) ⟨C.1.1, C.1.2.1, C.1.2.2.1, C.1.2.2.2.1, C.2.1⟩ (hM l D cI (fun j => ad (is.getD j 0)) H.size) ⟨va_cnB asc.length C.2.1 (gw_in cs.2.2.1) rfl rfl rfl (C.2.2.2.1 _ hlink) (C.2.1 _ cs.2.1) (by rw [hn]; exact cs.2.2.2) hrm, C.2.1 _ cs.1, trivial⟩ ⟨ppc_blind, fun U hU hW => ⟨rfl, by rw [hU], by rw [hU]; exact sub_P hR hE, va_K.moved hW.alike C.2.2.1, sub_D hR hE hnd, NWok.warm hW C.2.2.2.1⟩⟩ rfl (by rw [List.length_map]) hl.1 ?_ ?_ hd ⟨by rw [hz.1]; exact hk, by rw [hz.2]; exact hk2⟩) h
  · show ((asc.map (rv is)).reverse ++ st).map (tv ad) = _
    rw [List.map_append, List.map_reverse, map_rv]
  · exact lv_room (by rw [catS_tv]; exact hcat)
theorem o_callV {ci N j0 : Nat} {T : u_T} {fs : List Value} (hM : PM Mc (.ref j0 :: asc) wc Pc) (hz : (mR Mc).cells = 0 ∧ (mR Mc).slots = 0) (hd : decode (mC M) pc = .ok (.invokevirtual idx, 3)) (hlink : Cond.methodLink (mY M).cls idx (mY Mc) ∈ GW) (cs : CV Mc nA) (hn : asc.length = nA) (hrm : Rm M Mc) (hc : vwCl[ci]? = some ((mY Mc).cls, T, N)) (hw : wc[j0]? = some (.inr (ci, fs))) (hE : Emb is wc w) (hnd : va_nd (is.take wc.length) = true) (hst : (asc.map (rv is)).reverse ++ rv is (.ref j0) :: st = stk) (hcat : catS st ≤ 8) (hk : k ≤ (mR M).cells) (hk2 : n ≤ (mR M).slots)
    (h : ∀ r wc2, Pc r wc2 → wc2.length = wc.length → Ok M S (pc + 3) ls (r.toList ++ st) (pb w is wc2) k n P) : Ok M S pc ls stk w k n P := by
  subst hst
  intro p l e s m args below meth c D cI A ad0 n0 Q C hr ad H locs LS hR hl
  refine call_back hz.1 hz.2 C hr hR hl hE hnd (va_runV (b := ad (is.getD j0 0)) (C := (mY Mc).cls) (As := asc.map (tv (fun j => ad (is.getD j 0)))) (n := asc.length) ⟨C.1.1, C.1.2.1, C.1.2.2.1, C.1.2.2.2.1, C.2.1⟩ (hM l D cI (fun j => ad (is.getD j 0)) H.size) ⟨callB_of asc.length C.2.1 (gw_in cs.2.2.2.1) rfl rfl rfl (C.2.1 _ cs.2.2.1) (C.2.1 _ hlink) (by rw [hn]; exact cs.2.2.2.2) hrm, C.2.1 _ cs.1, C.2.1 _ cs.2.1⟩ ⟨ppc_blind, va_recv C.2.2.1 (sub_P hR hE) hc (q0 := j0) (tw_at hw), fun U hU hW => ⟨rfl, by rw [hU], by rw [hU]; exact sub_P hR hE, va_K.moved hW.alike C.2.2.1, sub_D hR hE hnd, NWok.warm hW C.2.2.2.1⟩⟩ rfl (by rw [List.length_map]) hl.1 ?_ ?_ hd ⟨by rw [hz.1]; exact hk, by rw [hz.2]; exact hk2⟩) h
  · show ((asc.map (rv is)).reverse ++ rv is (.ref j0) :: st).map (tv ad) = _
    rw [List.map_append, List.map_reverse, map_rv]
    rfl
  · exact lv_room (by rw [catS_tv]; exact hcat)
end CALL
/-- a contract that says just what comes back -/
def PD (M : MI) (as : List Value) (w : PW) (r : Option Value) (w2 : PW) : Prop := PM M as w (fun r' w' => r' = r ∧ w' = w2)
section CALLD
variable {M Mc : MI} {S : Scr} {pc : Nat} {ls : List (Option Value)} {st stk : List Value} {w wc wc2 w2 : PW} {r : Option Value} {k n : Nat} {P : Option Value → PW → Prop} {is : List Nat} {asc : List Value} {idx nA : Nat}
theorem o_callSd (hM : PD Mc asc wc r wc2) (hz : (mR Mc).cells = 0 ∧ (mR Mc).slots = 0) (hd : decode (mC M) pc = .ok (.invokestatic idx, 3)) (hlink : Cond.methodLink (mY M).cls idx (mY Mc) ∈ GW) (cs : CS Mc nA) (hn : asc.length = nA) (hrm : Rm M Mc) (hE : Emb is wc w) (hnd : va_nd (is.take wc.length) = true) (hst : (asc.map (rv is)).reverse ++ st = stk) (hcat : catS st ≤ 8) (hk : k ≤ (mR M).cells) (hk2 : n ≤ (mR M).slots) (hw2 : pb w is wc2 = w2)
    (h : Ok M S (pc + 3) ls (r.toList ++ st) w2 k n P) : Ok M S pc ls stk w k n P :=
  o_callS hM hz hd hlink cs hn hrm hE hnd hst hcat hk hk2 (fun _ _ q _ => by obtain ⟨rfl, rfl⟩ := q; rw [hw2]; exact h)
theorem o_callSNd {host : String} (hM : PD Mc asc wc r wc2) (hz : (mR Mc).cells = 0 ∧ (mR Mc).slots = 0) (hd : decode (mC M) pc = .ok (.invokestatic idx, 3)) (hlink : Cond.methodLinkNest (mY M).cls idx (mY Mc) host ∈ NWl) (cs : CS Mc nA) (hn : asc.length = nA) (hrm : Rm M Mc) (hE : Emb is wc w) (hnd : va_nd (is.take wc.length) = true) (hst : (asc.map (rv is)).reverse ++ st = stk) (hcat : catS st ≤ 8) (hk : k ≤ (mR M).cells) (hk2 : n ≤ (mR M).slots) (hw2 : pb w is wc2 = w2)
    (h : Ok M S (pc + 3) ls (r.toList ++ st) w2 k n P) : Ok M S pc ls stk w k n P :=
  o_callSN hM hz hd hlink cs hn hrm hE hnd hst hcat hk hk2 (fun _ _ q _ => by obtain ⟨rfl, rfl⟩ := q; rw [hw2]; exact h)
theorem o_callVd {ci N j0 : Nat} {T : u_T} {fs : List Value} (hM : PD Mc (.ref j0 :: asc) wc r wc2) (hz : (mR Mc).cells = 0 ∧ (mR Mc).slots = 0) (hd : decode (mC M) pc = .ok (.invokevirtual idx, 3)) (hlink : Cond.methodLink (mY M).cls idx (mY Mc) ∈ GW) (cs : CV Mc nA) (hn : asc.length = nA) (hrm : Rm M Mc) (hc : vwCl[ci]? = some ((mY Mc).cls, T, N)) (hw : wc[j0]? = some (.inr (ci, fs))) (hE : Emb is wc w) (hnd : va_nd (is.take wc.length) = true) (hst : (asc.map (rv is)).reverse ++ rv is (.ref j0) :: st = stk) (hcat : catS st ≤ 8) (hk : k ≤ (mR M).cells) (hk2 : n ≤ (mR M).slots) (hw2 : pb w is wc2 = w2)
    (h : Ok M S (pc + 3) ls (r.toList ++ st) w2 k n P) : Ok M S pc ls stk w k n P :=
  o_callV hM hz hd hlink cs hn hrm hc hw hE hnd hst hcat hk hk2 (fun _ _ q _ => by obtain ⟨rfl, rfl⟩ := q; rw [hw2]; exact h)
end CALLD
end
section
theorem hcX0 : vwCl[0]? = some (RX0, TX0, 8) := rfl
theorem inX0 : ∀ w ∈ u_ws RX0 TX0 8, w ∈ GW := by
  intro w hw
  obtain ⟨k, hk, rfl⟩ := List.mem_map.mp hw
  have hk := List.mem_range.mp hk
  match k, hk with
  | 0, _ => exact wd119
  | 1, _ => exact wd121
  | 2, _ => exact wd123
  | 3, _ => exact wd125
  | 4, _ => exact wd127
  | 5, _ => exact wd129
  | 6, _ => exact wd131
  | 7, _ => exact wd133
  | k + 8, h => omega
theorem hcX1 : vwCl[1]? = some (RX1, TX1, 1) := rfl
theorem inX1 : ∀ w ∈ u_ws RX1 TX1 1, w ∈ GW := by
  intro w hw
  obtain ⟨k, hk, rfl⟩ := List.mem_map.mp hw
  have hk := List.mem_range.mp hk
  match k, hk with
  | 0, _ => exact wd199
  | k + 1, h => omega
theorem hcX2 : vwCl[2]? = some (RX2, TX2, 2) := rfl
theorem inX2 : ∀ w ∈ u_ws RX2 TX2 2, w ∈ GW := by
  intro w hw
  obtain ⟨k, hk, rfl⟩ := List.mem_map.mp hw
  have hk := List.mem_range.mp hk
  match k, hk with
  | 0, _ => exact wd192
  | 1, _ => exact wd194
  | k + 2, h => omega
theorem hcX3 : vwCl[3]? = some (RX3, TX3, 7) := rfl
theorem inX3 : ∀ w ∈ u_ws RX3 TX3 7, w ∈ GW := by
  intro w hw
  obtain ⟨k, hk, rfl⟩ := List.mem_map.mp hw
  have hk := List.mem_range.mp hk
  match k, hk with
  | 0, _ => exact wd156
  | 1, _ => exact wd158
  | 2, _ => exact wd160
  | 3, _ => exact wd162
  | 4, _ => exact wd164
  | 5, _ => exact wd166
  | 6, _ => exact wd168
  | k + 7, h => omega
theorem hcX4 : vwCl[4]? = some (RX4, TX4, 8) := rfl
theorem inX4 : ∀ w ∈ u_ws RX4 TX4 8, w ∈ GW := by
  intro w hw
  obtain ⟨k, hk, rfl⟩ := List.mem_map.mp hw
  have hk := List.mem_range.mp hk
  match k, hk with
  | 0, _ => exact wd212
  | 1, _ => exact wd214
  | 2, _ => exact wd216
  | 3, _ => exact wd218
  | 4, _ => exact wd220
  | 5, _ => exact wd222
  | 6, _ => exact wd224
  | 7, _ => exact wd226
  | k + 8, h => omega
theorem hcX5 : vwCl[5]? = some (RX5, TX5, 14) := rfl
theorem inX5 : ∀ w ∈ u_ws RX5 TX5 14, w ∈ GW := by
  intro w hw
  obtain ⟨k, hk, rfl⟩ := List.mem_map.mp hw
  have hk := List.mem_range.mp hk
  match k, hk with
  | 0, _ => exact wd700
  | 1, _ => exact wd702
  | 2, _ => exact wd704
  | 3, _ => exact wd706
  | 4, _ => exact wd708
  | 5, _ => exact wd710
  | 6, _ => exact wd712
  | 7, _ => exact wd714
  | 8, _ => exact wd716
  | 9, _ => exact wd718
  | 10, _ => exact wd720
  | 11, _ => exact wd722
  | 12, _ => exact wd724
  | 13, _ => exact wd726
  | k + 14, h => omega
def mX0_init : MI := (yX0_init, cX0_init, 1, none, { frames := 3, cells := 7, slots := 173, locals := 70 })
def mX0_become : MI := (yX0_become, cX0_become, 2, none, { frames := 2, cells := 0, slots := 0, locals := 61 })
theorem cvX0_become : CV mX0_become 1 := ⟨wd278, wd279, wd57, wd280, by decide +kernel⟩
def mX0_has : MI := (yX0_has, cX0_has, 2, (some .boolean), { frames := 0, cells := 0, slots := 0, locals := 0 })
theorem cvX0_has : CV mX0_has 1 := ⟨wd327, wd328, wd57, wd329, by decide +kernel⟩
def mX0_addDoor : MI := (yX0_addDoor, cX0_addDoor, 5, (some .boolean), { frames := 3, cells := 0, slots := 0, locals := 70 })
theorem cvX0_addDoor : CV mX0_addDoor 4 := ⟨wd300, wd301, wd57, wd302, by decide +kernel⟩
def mX0_wedgeOrNot : MI := (yX0_wedgeOrNot, cX0_wedgeOrNot, 2, (some .int), { frames := 1, cells := 0, slots := 0, locals := 22 })
theorem cvX0_wedgeOrNot : CV mX0_wedgeOrNot 1 := ⟨wd335, wd336, wd57, wd337, by decide +kernel⟩
def mX0_changeSides : MI := (yX0_changeSides, cX0_changeSides, 3, (some .int), { frames := 3, cells := 0, slots := 0, locals := 70 })
theorem cvX0_changeSides : CV mX0_changeSides 1 := ⟨wd331, wd332, wd57, wd333, by decide +kernel⟩
def mX0_wayBetween : MI := (yX0_wayBetween, cX0_wayBetween, 3, (some .int), { frames := 1, cells := 0, slots := 0, locals := 21 })
theorem cvX0_wayBetween : CV mX0_wayBetween 2 := ⟨wd471, wd472, wd57, wd473, by decide +kernel⟩
def mX0_firstDoors : MI := (yX0_firstDoors, cX0_firstDoors, 3, (some .int), { frames := 1, cells := 0, slots := 0, locals := 21 })
theorem cvX0_firstDoors : CV mX0_firstDoors 2 := ⟨wd348, wd349, wd57, wd350, by decide +kernel⟩
def mX0_measureWays : MI := (yX0_measureWays, cX0_measureWays, 4, none, { frames := 2, cells := 0, slots := 0, locals := 47 })
theorem cvX0_measureWays : CV mX0_measureWays 0 := ⟨wd86, wd0, wd57, wd87, by decide +kernel⟩
def mX0_shortenWaysBy : MI := (yX0_shortenWaysBy, cX0_shortenWaysBy, 6, (some .boolean), { frames := 1, cells := 0, slots := 0, locals := 22 })
theorem cvX0_shortenWaysBy : CV mX0_shortenWaysBy 2 := ⟨wd96, wd1, wd57, wd97, by decide +kernel⟩
def mX0_findFirsts : MI := (yX0_findFirsts, cX0_findFirsts, 5, none, { frames := 1, cells := 0, slots := 0, locals := 22 })
theorem cvX0_findFirsts : CV mX0_findFirsts 0 := ⟨wd100, wd2, wd57, wd101, by decide +kernel⟩
def mX0_opensBy : MI := (yX0_opensBy, cX0_opensBy, 10, (some .boolean), { frames := 1, cells := 0, slots := 0, locals := 21 })
theorem cvX0_opensBy : CV mX0_opensBy 4 := ⟨wd360, wd361, wd57, wd362, by decide +kernel⟩
def mX1_init : MI := (yX1_init, cX1_init, 1, none, { frames := 2, cells := 2, slots := 98, locals := 42 })
def mX1_lengthAt : MI := (yX1_lengthAt, cX1_lengthAt, 2, (some .int), { frames := 1, cells := 0, slots := 0, locals := 21 })
theorem cvX1_lengthAt : CV mX1_lengthAt 1 := ⟨wd262, wd263, wd58, wd264, by decide +kernel⟩
def mX1_shapeFault : MI := (yX1_shapeFault, cX1_shapeFault, 3, (some .int), { frames := 3, cells := 0, slots := 0, locals := 66 })
theorem cvX1_shapeFault : CV mX1_shapeFault 0 := ⟨wd254, wd255, wd58, wd256, by decide +kernel⟩
def mX1_fitsShape : MI := (yX1_fitsShape, cX1_fitsShape, 5, (some .boolean), { frames := 2, cells := 0, slots := 0, locals := 42 })
theorem cvX1_fitsShape : CV mX1_fitsShape 2 := ⟨wd259, wd4, wd58, wd260, by decide +kernel⟩
def mX1_kindOf : MI := (yX1_kindOf, cX1_kindOf, 1, (some .int), { frames := 0, cells := 0, slots := 0, locals := 0 })
theorem csX1_kindOf : CS mX1_kindOf 1 := ⟨wd267, wd58, wd268, by decide +kernel⟩
def mX1_digitAt : MI := (yX1_digitAt, cX1_digitAt, 2, (some .int), { frames := 1, cells := 0, slots := 0, locals := 21 })
theorem cvX1_digitAt : CV mX1_digitAt 1 := ⟨wd297, wd6, wd58, wd298, by decide +kernel⟩
def mX1_tell : MI := (yX1_tell, cX1_tell, 8, (some .boolean), { frames := 5, cells := 0, slots := 0, locals := 127 })
theorem cvX1_tell : CV mX1_tell 2 := ⟨wd292, wd293, wd58, wd294, by decide +kernel⟩
def mX1_tellPerson : MI := (yX1_tellPerson, cX1_tellPerson, 4, (some .boolean), { frames := 2, cells := 0, slots := 0, locals := 45 })
theorem csX1_tellPerson : CS mX1_tellPerson 4 := ⟨wd307, wd58, wd308, by decide +kernel⟩
def mX1_tellRoom : MI := (yX1_tellRoom, cX1_tellRoom, 4, (some .boolean), { frames := 1, cells := 0, slots := 0, locals := 22 })
theorem csX1_tellRoom : CS mX1_tellRoom 4 := ⟨wd316, wd58, wd317, by decide +kernel⟩
def mX1_tellDoor : MI := (yX1_tellDoor, cX1_tellDoor, 3, (some .boolean), { frames := 4, cells := 0, slots := 0, locals := 92 })
theorem csX1_tellDoor : CS mX1_tellDoor 3 := ⟨wd324, wd58, wd325, by decide +kernel⟩
def mX2_init : MI := (yX2_init, cX2_init, 2, none, { frames := 1, cells := 1, slots := 96, locals := 21 })
def mX2_isFull : MI := (yX2_isFull, cX2_isFull, 1, (some .boolean), { frames := 0, cells := 0, slots := 0, locals := 0 })
theorem cvX2_isFull : CV mX2_isFull 0 := ⟨wd240, wd241, wd59, wd242, by decide +kernel⟩
def mX2_add : MI := (yX2_add, cX2_add, 2, (some .int), { frames := 1, cells := 0, slots := 0, locals := 22 })
theorem cvX2_add : CV mX2_add 1 := ⟨wd244, wd245, wd59, wd246, by decide +kernel⟩
def mX2_empty : MI := (yX2_empty, cX2_empty, 2, (some .int), { frames := 0, cells := 0, slots := 0, locals := 0 })
theorem cvX2_empty : CV mX2_empty 0 := ⟨wd372, wd373, wd59, wd374, by decide +kernel⟩
def mX3_init : MI := (yX3_init, cX3_init, 1, none, { frames := 4, cells := 11, slots := 202, locals := 90 })
def mX3_become : MI := (yX3_become, cX3_become, 2, none, { frames := 3, cells := 0, slots := 0, locals := 82 })
theorem cvX3_become : CV mX3_become 1 := ⟨wd274, wd275, wd56, wd276, by decide +kernel⟩
def mX3_has : MI := (yX3_has, cX3_has, 2, (some .boolean), { frames := 0, cells := 0, slots := 0, locals := 0 })
theorem cvX3_has : CV mX3_has 1 := ⟨wd319, wd320, wd56, wd321, by decide +kernel⟩
def mX3_isHome : MI := (yX3_isHome, cX3_isHome, 2, (some .boolean), { frames := 1, cells := 0, slots := 0, locals := 21 })
theorem cvX3_isHome : CV mX3_isHome 1 := ⟨wd366, wd367, wd56, wd368, by decide +kernel⟩
def mX3_addPerson : MI := (yX3_addPerson, cX3_addPerson, 4, none, { frames := 1, cells := 0, slots := 0, locals := 22 })
theorem cvX3_addPerson : CV mX3_addPerson 3 := ⟨wd311, wd312, wd56, wd313, by decide +kernel⟩
def mX3_removePerson : MI := (yX3_removePerson, cX3_removePerson, 3, none, { frames := 1, cells := 0, slots := 0, locals := 22 })
theorem cvX3_removePerson : CV mX3_removePerson 1 := ⟨wd540, wd541, wd56, wd542, by decide +kernel⟩
def mX3_stay : MI := (yX3_stay, cX3_stay, 2, none, { frames := 1, cells := 0, slots := 0, locals := 22 })
theorem cvX3_stay : CV mX3_stay 1 := ⟨wd519, wd520, wd56, wd521, by decide +kernel⟩
def mX3_goHours : MI := (yX3_goHours, cX3_goHours, 7, (some .int), { frames := 4, cells := 0, slots := 0, locals := 101 })
theorem cvX3_goHours : CV mX3_goHours 2 := ⟨wd339, wd340, wd56, wd341, by decide +kernel⟩
def mX3_doorFor : MI := (yX3_doorFor, cX3_doorFor, 6, (some .int), { frames := 3, cells := 0, slots := 0, locals := 76 })
theorem cvX3_doorFor : CV mX3_doorFor 3 := ⟨wd343, wd344, wd56, wd345, by decide +kernel⟩
def mX3_opens : MI := (yX3_opens, cX3_opens, 7, (some .boolean), { frames := 2, cells := 0, slots := 0, locals := 50 })
theorem cvX3_opens : CV mX3_opens 2 := ⟨wd355, wd356, wd56, wd357, by decide +kernel⟩
def mX3_countIn : MI := (yX3_countIn, cX3_countIn, 2, (some .int), { frames := 2, cells := 0, slots := 0, locals := 45 })
theorem cvX3_countIn : CV mX3_countIn 1 := ⟨wd553, wd554, wd56, wd555, by decide +kernel⟩
def mX3_homeBits : MI := (yX3_homeBits, cX3_homeBits, 3, (some .int), { frames := 2, cells := 0, slots := 0, locals := 42 })
theorem cvX3_homeBits : CV mX3_homeBits 0 := ⟨wd430, wd431, wd56, wd432, by decide +kernel⟩
def mX3_homeCount : MI := (yX3_homeCount, cX3_homeCount, 1, (some .int), { frames := 3, cells := 0, slots := 0, locals := 64 })
theorem cvX3_homeCount : CV mX3_homeCount 0 := ⟨wd426, wd427, wd56, wd428, by decide +kernel⟩
def mX3_moodsTogether : MI := (yX3_moodsTogether, cX3_moodsTogether, 3, (some .int), { frames := 1, cells := 0, slots := 0, locals := 21 })
theorem cvX3_moodsTogether : CV mX3_moodsTogether 0 := ⟨wd619, wd620, wd56, wd621, by decide +kernel⟩
def mX4_init : MI := (yX4_init, cX4_init, 1, none, { frames := 5, cells := 43, slots := 839, locals := 110 })
def mX4_letter : MI := (yX4_letter, cX4_letter, 2, (some .int), { frames := 2, cells := 0, slots := 0, locals := 43 })
theorem cvX4_letter : CV mX4_letter 1 := ⟨wd230, wd231, wd55, wd232, by decide +kernel⟩
def mX4_town : MI := (yX4_town, cX4_town, 3, (some .int), { frames := 7, cells := 0, slots := 0, locals := 176 })
theorem cvX4_town : CV mX4_town 0 := ⟨wd250, wd251, wd55, wd252, by decide +kernel⟩
def mX4_tellStatements : MI := (yX4_tellStatements, cX4_tellStatements, 3, (some .int), { frames := 6, cells := 0, slots := 0, locals := 154 })
theorem cvX4_tellStatements : CV mX4_tellStatements 0 := ⟨wd271, wd5, wd55, wd272, by decide +kernel⟩
def mX4_door : MI := (yX4_door, cX4_door, 3, (some .int), { frames := 2, cells := 0, slots := 0, locals := 43 })
theorem cvX4_door : CV mX4_door 2 := ⟨wd376, wd377, wd55, wd378, by decide +kernel⟩
def mX4_person : MI := (yX4_person, cX4_person, 3, (some .int), { frames := 4, cells := 0, slots := 0, locals := 101 })
theorem cvX4_person : CV mX4_person 2 := ⟨wd381, wd382, wd55, wd383, by decide +kernel⟩
def mX4_wedges : MI := (yX4_wedges, cX4_wedges, 2, (some .int), { frames := 2, cells := 0, slots := 0, locals := 43 })
theorem cvX4_wedges : CV mX4_wedges 1 := ⟨wd387, wd388, wd55, wd389, by decide +kernel⟩
def mX4_turns : MI := (yX4_turns, cX4_turns, 2, (some .int), { frames := 4, cells := 0, slots := 0, locals := 92 })
theorem cvX4_turns : CV mX4_turns 1 := ⟨wd392, wd393, wd55, wd394, by decide +kernel⟩
def mX4_stands : MI := (yX4_stands, cX4_stands, 3, (some .int), { frames := 2, cells := 0, slots := 0, locals := 45 })
theorem cvX4_stands : CV mX4_stands 2 := ⟨wd397, wd398, wd55, wd399, by decide +kernel⟩
def mX4_wants : MI := (yX4_wants, cX4_wants, 3, (some .int), { frames := 2, cells := 0, slots := 0, locals := 45 })
theorem cvX4_wants : CV mX4_wants 2 := ⟨wd405, wd406, wd55, wd407, by decide +kernel⟩
def mX4_moods : MI := (yX4_moods, cX4_moods, 3, (some .int), { frames := 3, cells := 0, slots := 0, locals := 64 })
theorem cvX4_moods : CV mX4_moods 2 := ⟨wd409, wd410, wd55, wd411, by decide +kernel⟩
def mX4_changes : MI := (yX4_changes, cX4_changes, 4, (some .int), { frames := 3, cells := 0, slots := 0, locals := 64 })
theorem cvX4_changes : CV mX4_changes 3 := ⟨wd417, wd418, wd55, wd419, by decide +kernel⟩
def mX4_hours : MI := (yX4_hours, cX4_hours, 2, (some .int), { frames := 5, cells := 0, slots := 0, locals := 127 })
theorem cvX4_hours : CV mX4_hours 1 := ⟨wd421, wd422, wd55, wd423, by decide +kernel⟩
def mX4_personThen : MI := (yX4_personThen, cX4_personThen, 4, (some .int), { frames := 5, cells := 0, slots := 0, locals := 127 })
theorem cvX4_personThen : CV mX4_personThen 3 := ⟨wd440, wd441, wd55, wd442, by decide +kernel⟩
def mX4_letThen : MI := (yX4_letThen, cX4_letThen, 2, (some .int), { frames := 5, cells := 0, slots := 0, locals := 127 })
theorem cvX4_letThen : CV mX4_letThen 1 := ⟨wd447, wd448, wd55, wd449, by decide +kernel⟩
def mX4_comes : MI := (yX4_comes, cX4_comes, 3, (some .int), { frames := 6, cells := 0, slots := 0, locals := 150 })
theorem cvX4_comes : CV mX4_comes 2 := ⟨wd451, wd452, wd55, wd453, by decide +kernel⟩
def mX4_home : MI := (yX4_home, cX4_home, 2, (some .int), { frames := 6, cells := 0, slots := 0, locals := 150 })
theorem cvX4_home : CV mX4_home 1 := ⟨wd459, wd460, wd55, wd461, by decide +kernel⟩
def mX4_firstHourIn : MI := (yX4_firstHourIn, cX4_firstHourIn, 4, (some .int), { frames := 5, cells := 0, slots := 0, locals := 127 })
theorem cvX4_firstHourIn : CV mX4_firstHourIn 2 := ⟨wd456, wd8, wd55, wd457, by decide +kernel⟩
def mX4_firstHourAllHome : MI := (yX4_firstHourAllHome, cX4_firstHourAllHome, 2, (some .int), { frames := 5, cells := 0, slots := 0, locals := 127 })
theorem cvX4_firstHourAllHome : CV mX4_firstHourAllHome 0 := ⟨wd464, wd9, wd55, wd465, by decide +kernel⟩
def mX4_shutIn : MI := (yX4_shutIn, cX4_shutIn, 3, (some .int), { frames := 2, cells := 0, slots := 0, locals := 43 })
theorem cvX4_shutIn : CV mX4_shutIn 0 := ⟨wd467, wd468, wd55, wd469, by decide +kernel⟩
def mX4_stuck : MI := (yX4_stuck, cX4_stuck, 3, (some .int), { frames := 5, cells := 0, slots := 0, locals := 127 })
theorem cvX4_stuck : CV mX4_stuck 0 := ⟨wd475, wd476, wd55, wd477, by decide +kernel⟩
def mX4_way : MI := (yX4_way, cX4_way, 6, (some .int), { frames := 2, cells := 0, slots := 0, locals := 43 })
theorem cvX4_way : CV mX4_way 3 := ⟨wd479, wd480, wd55, wd481, by decide +kernel⟩
def mX4_round : MI := (yX4_round, cX4_round, 4, (some .int), { frames := 2, cells := 0, slots := 0, locals := 43 })
theorem cvX4_round : CV mX4_round 1 := ⟨wd488, wd489, wd55, wd490, by decide +kernel⟩
def mX4_reach : MI := (yX4_reach, cX4_reach, 4, (some .int), { frames := 2, cells := 0, slots := 0, locals := 43 })
theorem cvX4_reach : CV mX4_reach 1 := ⟨wd492, wd493, wd55, wd494, by decide +kernel⟩
def mX4_open : MI := (yX4_open, cX4_open, 3, (some .int), { frames := 3, cells := 0, slots := 0, locals := 76 })
theorem cvX4_open : CV mX4_open 0 := ⟨wd496, wd497, wd55, wd498, by decide +kernel⟩
def mX4_helper : MI := (yX4_helper, cX4_helper, 7, (some .int), { frames := 6, cells := 0, slots := 0, locals := 149 })
theorem cvX4_helper : CV mX4_helper 2 := ⟨wd501, wd502, wd55, wd503, by decide +kernel⟩
def mX4_homeWithHelper : MI := (yX4_homeWithHelper, cX4_homeWithHelper, 3, (some .int), { frames := 5, cells := 0, slots := 0, locals := 127 })
theorem cvX4_homeWithHelper : CV mX4_homeWithHelper 2 := ⟨wd506, wd10, wd55, wd507, by decide +kernel⟩
def mX4_fewest : MI := (yX4_fewest, cX4_fewest, 6, (some .int), { frames := 6, cells := 0, slots := 0, locals := 151 })
theorem cvX4_fewest : CV mX4_fewest 2 := ⟨wd510, wd511, wd55, wd512, by decide +kernel⟩
def mX4_isHomeWhileStay : MI := (yX4_isHomeWhileStay, cX4_isHomeWhileStay, 5, (some .boolean), { frames := 5, cells := 0, slots := 0, locals := 127 })
theorem cvX4_isHomeWhileStay : CV mX4_isHomeWhileStay 3 := ⟨wd516, wd11, wd55, wd517, by decide +kernel⟩
def mX4_turn : MI := (yX4_turn, cX4_turn, 2, (some .int), { frames := 6, cells := 0, slots := 0, locals := 152 })
theorem cvX4_turn : CV mX4_turn 1 := ⟨wd524, wd525, wd55, wd526, by decide +kernel⟩
def mX4_wedge : MI := (yX4_wedge, cX4_wedge, 2, (some .int), { frames := 6, cells := 0, slots := 0, locals := 152 })
theorem cvX4_wedge : CV mX4_wedge 1 := ⟨wd532, wd533, wd55, wd534, by decide +kernel⟩
def mX4_doorToChange : MI := (yX4_doorToChange, cX4_doorToChange, 6, (some .int), { frames := 5, cells := 0, slots := 0, locals := 127 })
theorem cvX4_doorToChange : CV mX4_doorToChange 2 := ⟨wd529, wd12, wd55, wd530, by decide +kernel⟩
def mX4_holds : MI := (yX4_holds, cX4_holds, 6, (some .int), { frames := 5, cells := 0, slots := 0, locals := 127 })
theorem cvX4_holds : CV mX4_holds 2 := ⟨wd536, wd537, wd55, wd538, by decide +kernel⟩
def mX4_crowd : MI := (yX4_crowd, cX4_crowd, 2, (some .int), { frames := 4, cells := 0, slots := 0, locals := 88 })
theorem cvX4_crowd : CV mX4_crowd 1 := ⟨wd545, wd546, wd55, wd547, by decide +kernel⟩
def mX4_crowdedRoom : MI := (yX4_crowdedRoom, cX4_crowdedRoom, 3, (some .int), { frames := 3, cells := 0, slots := 0, locals := 66 })
theorem cvX4_crowdedRoom : CV mX4_crowdedRoom 0 := ⟨wd550, wd13, wd55, wd551, by decide +kernel⟩
def mX4_emptyRooms : MI := (yX4_emptyRooms, cX4_emptyRooms, 3, (some .int), { frames := 3, cells := 0, slots := 0, locals := 66 })
theorem cvX4_emptyRooms : CV mX4_emptyRooms 0 := ⟨wd561, wd14, wd55, wd562, by decide +kernel⟩
def mX4_deadRooms : MI := (yX4_deadRooms, cX4_deadRooms, 3, (some .int), { frames := 2, cells := 0, slots := 0, locals := 45 })
theorem cvX4_deadRooms : CV mX4_deadRooms 0 := ⟨wd565, wd15, wd55, wd566, by decide +kernel⟩
def mX4_handles : MI := (yX4_handles, cX4_handles, 2, (some .int), { frames := 2, cells := 0, slots := 0, locals := 45 })
theorem cvX4_handles : CV mX4_handles 1 := ⟨wd569, wd570, wd55, wd571, by decide +kernel⟩
def mX4_meet : MI := (yX4_meet, cX4_meet, 6, (some .int), { frames := 3, cells := 0, slots := 0, locals := 66 })
theorem cvX4_meet : CV mX4_meet 1 := ⟨wd573, wd574, wd55, wd575, by decide +kernel⟩
def mX4_waysOfAllTo : MI := (yX4_waysOfAllTo, cX4_waysOfAllTo, 4, (some .int), { frames := 2, cells := 0, slots := 0, locals := 43 })
theorem cvX4_waysOfAllTo : CV mX4_waysOfAllTo 1 := ⟨wd578, wd16, wd55, wd579, by decide +kernel⟩
def mX4_two : MI := (yX4_two, cX4_two, 7, (some .int), { frames := 6, cells := 0, slots := 0, locals := 151 })
theorem cvX4_two : CV mX4_two 3 := ⟨wd581, wd582, wd55, wd583, by decide +kernel⟩
def mX4_tryPair : MI := (yX4_tryPair, cX4_tryPair, 5, none, { frames := 5, cells := 0, slots := 0, locals := 127 })
theorem cvX4_tryPair : CV mX4_tryPair 4 := ⟨wd586, wd17, wd55, wd587, by decide +kernel⟩
def mX4_gainOf : MI := (yX4_gainOf, cX4_gainOf, 2, (some .int), { frames := 1, cells := 0, slots := 0, locals := 21 })
theorem cvX4_gainOf : CV mX4_gainOf 1 := ⟨wd590, wd18, wd55, wd591, by decide +kernel⟩
def mX4_fire : MI := (yX4_fire, cX4_fire, 9, (some .long), { frames := 6, cells := 0, slots := 0, locals := 152 })
theorem cvX4_fire : CV mX4_fire 5 := ⟨wd593, wd594, wd55, wd595, by decide +kernel⟩
def mX4_isInBehindFires : MI := (yX4_isInBehindFires, cX4_isInBehindFires, 6, (some .boolean), { frames := 5, cells := 0, slots := 0, locals := 127 })
theorem cvX4_isInBehindFires : CV mX4_isInBehindFires 4 := ⟨wd603, wd20, wd55, wd604, by decide +kernel⟩
def mX4_mean : MI := (yX4_mean, cX4_mean, 2, (some .long), { frames := 3, cells := 0, slots := 0, locals := 64 })
theorem cvX4_mean : CV mX4_mean 1 := ⟨wd615, wd616, wd55, wd617, by decide +kernel⟩
def mX4_whatIs : MI := (yX4_whatIs, cX4_whatIs, 4, (some .int), { frames := 7, cells := 0, slots := 0, locals := 173 })
theorem cvX4_whatIs : CV mX4_whatIs 3 := ⟨wd623, wd624, wd55, wd625, by decide +kernel⟩
def mX4_kindsByRow : MI := (yX4_kindsByRow, cX4_kindsByRow, 5, (some .int), { frames := 6, cells := 0, slots := 0, locals := 149 })
theorem cvX4_kindsByRow : CV mX4_kindsByRow 2 := ⟨wd628, wd21, wd55, wd629, by decide +kernel⟩
def mX4_goalsByRow : MI := (yX4_goalsByRow, cX4_goalsByRow, 4, (some .int), { frames := 6, cells := 0, slots := 0, locals := 149 })
theorem cvX4_goalsByRow : CV mX4_goalsByRow 1 := ⟨wd636, wd23, wd55, wd637, by decide +kernel⟩
def mX4_isMindAsRow : MI := (yX4_isMindAsRow, cX4_isMindAsRow, 3, (some .boolean), { frames := 5, cells := 0, slots := 0, locals := 127 })
theorem cvX4_isMindAsRow : CV mX4_isMindAsRow 1 := ⟨wd632, wd22, wd55, wd633, by decide +kernel⟩
def mX4_row : MI := (yX4_row, cX4_row, 2, (some .int), { frames := 2, cells := 0, slots := 0, locals := 43 })
theorem cvX4_row : CV mX4_row 1 := ⟨wd639, wd640, wd55, wd641, by decide +kernel⟩
def mX4_judge : MI := (yX4_judge, cX4_judge, 3, (some .int), { frames := 1, cells := 0, slots := 0, locals := 21 })
theorem cvX4_judge : CV mX4_judge 0 := ⟨wd643, wd644, wd55, wd645, by decide +kernel⟩
def mX4_clear : MI := (yX4_clear, cX4_clear, 1, (some .int), { frames := 1, cells := 0, slots := 0, locals := 21 })
theorem cvX4_clear : CV mX4_clear 0 := ⟨wd647, wd648, wd55, wd649, by decide +kernel⟩
def mX4_lots : MI := (yX4_lots, cX4_lots, 8, (some .int), { frames := 5, cells := 0, slots := 0, locals := 127 })
theorem cvX4_lots : CV mX4_lots 3 := ⟨wd651, wd652, wd55, wd653, by decide +kernel⟩
def mX4_placeByLot : MI := (yX4_placeByLot, cX4_placeByLot, 4, (some .int), { frames := 1, cells := 0, slots := 0, locals := 22 })
theorem cvX4_placeByLot : CV mX4_placeByLot 1 := ⟨wd656, wd24, wd55, wd657, by decide +kernel⟩
def mX4_nextSeed : MI := (yX4_nextSeed, cX4_nextSeed, 1, (some .int), { frames := 0, cells := 0, slots := 0, locals := 0 })
theorem csX4_nextSeed : CS mX4_nextSeed 1 := ⟨wd659, wd55, wd660, by decide +kernel⟩
def mX4_draw : MI := (yX4_draw, cX4_draw, 1, (some .int), { frames := 0, cells := 0, slots := 0, locals := 0 })
theorem csX4_draw : CS mX4_draw 1 := ⟨wd664, wd55, wd665, by decide +kernel⟩
def mX4_image : MI := (yX4_image, cX4_image, 1, (some .int), { frames := 4, cells := 0, slots := 0, locals := 103 })
theorem cvX4_image : CV mX4_image 0 := ⟨wd668, wd669, wd55, wd670, by decide +kernel⟩
def mX4_on : MI := (yX4_on, cX4_on, 1, (some .int), { frames := 4, cells := 0, slots := 0, locals := 103 })
theorem cvX4_on : CV mX4_on 0 := ⟨wd672, wd673, wd55, wd674, by decide +kernel⟩
def mX4_count : MI := (yX4_count, cX4_count, 2, (some .int), { frames := 3, cells := 0, slots := 0, locals := 64 })
theorem cvX4_count : CV mX4_count 1 := ⟨wd676, wd677, wd55, wd678, by decide +kernel⟩
def mX4_refused : MI := (yX4_refused, cX4_refused, 2, (some .int), { frames := 1, cells := 0, slots := 0, locals := 22 })
theorem cvX4_refused : CV mX4_refused 1 := ⟨wd235, wd3, wd55, wd236, by decide +kernel⟩
def mX4_refusedNumber : MI := (yX4_refusedNumber, cX4_refusedNumber, 2, (some .int), { frames := 2, cells := 0, slots := 0, locals := 43 })
theorem cvX4_refusedNumber : CV mX4_refusedNumber 1 := ⟨wd414, wd7, wd55, wd415, by decide +kernel⟩
def mX4_refusedLong : MI := (yX4_refusedLong, cX4_refusedLong, 2, (some .long), { frames := 2, cells := 0, slots := 0, locals := 43 })
theorem cvX4_refusedLong : CV mX4_refusedLong 1 := ⟨wd598, wd19, wd55, wd599, by decide +kernel⟩
def mX4_at : MI := (yX4_at, cX4_at, 2, (some .int), { frames := 0, cells := 0, slots := 0, locals := 0 })
theorem csX4_at : CS mX4_at 2 := ⟨wd92, wd55, wd93, by decide +kernel⟩
def mX4_put : MI := (yX4_put, cX4_put, 3, none, { frames := 0, cells := 0, slots := 0, locals := 0 })
theorem csX4_put : CS mX4_put 3 := ⟨wd89, wd55, wd90, by decide +kernel⟩
def mX4_exchange : MI := (yX4_exchange, cX4_exchange, 4, (some .int), { frames := 1, cells := 0, slots := 0, locals := 22 })
theorem csX4_exchange : CS mX4_exchange 3 := ⟨wd402, wd55, wd403, by decide +kernel⟩
def mX4_bitsOf : MI := (yX4_bitsOf, cX4_bitsOf, 5, (some .int), { frames := 1, cells := 0, slots := 0, locals := 21 })
theorem csX4_bitsOf : CS mX4_bitsOf 3 := ⟨wd557, wd55, wd558, by decide +kernel⟩
def mX4_copy : MI := (yX4_copy, cX4_copy, 2, none, { frames := 1, cells := 0, slots := 0, locals := 40 })
theorem csX4_copy : CS mX4_copy 2 := ⟨wd282, wd55, wd283, by decide +kernel⟩
def mX4_isRoom : MI := (yX4_isRoom, cX4_isRoom, 1, (some .boolean), { frames := 0, cells := 0, slots := 0, locals := 0 })
theorem csX4_isRoom : CS mX4_isRoom 1 := ⟨wd304, wd55, wd305, by decide +kernel⟩
def mX4_isHalf : MI := (yX4_isHalf, cX4_isHalf, 1, (some .boolean), { frames := 0, cells := 0, slots := 0, locals := 0 })
theorem csX4_isHalf : CS mX4_isHalf 1 := ⟨wd444, wd55, wd445, by decide +kernel⟩
def mX4_hasBit : MI := (yX4_hasBit, cX4_hasBit, 2, (some .boolean), { frames := 0, cells := 0, slots := 0, locals := 0 })
theorem csX4_hasBit : CS mX4_hasBit 2 := ⟨wd352, wd55, wd353, by decide +kernel⟩
def mX4_toldWay : MI := (yX4_toldWay, cX4_toldWay, 1, (some .int), { frames := 0, cells := 0, slots := 0, locals := 0 })
theorem csX4_toldWay : CS mX4_toldWay 1 := ⟨wd483, wd55, wd484, by decide +kernel⟩
def mX4_power : MI := (yX4_power, cX4_power, 5, (some .long), { frames := 0, cells := 0, slots := 0, locals := 0 })
theorem csX4_power : CS mX4_power 2 := ⟨wd606, wd55, wd607, by decide +kernel⟩
def mX4_partOf : MI := (yX4_partOf, cX4_partOf, 7, (some .long), { frames := 1, cells := 0, slots := 0, locals := 30 })
theorem csX4_partOf : CS mX4_partOf 3 := ⟨wd609, wd55, wd610, by decide +kernel⟩
def mX4_commonDivisor : MI := (yX4_commonDivisor, cX4_commonDivisor, 11, (some .long), { frames := 0, cells := 0, slots := 0, locals := 0 })
theorem csX4_commonDivisor : CS mX4_commonDivisor 2 := ⟨wd612, wd55, wd613, by decide +kernel⟩
def mX5_init : MI := (yX5_init, cX5_init, 1, none, { frames := 1, cells := 9, slots := 471, locals := 20 })
def mX5_isIn : MI := (yX5_isIn, cX5_isIn, 3, (some .boolean), { frames := 0, cells := 0, slots := 0, locals := 0 })
theorem csX5_isIn : CS mX5_isIn 3 := ⟨wd761, wd61, wd762, by decide +kernel⟩
def mX5_least : MI := (yX5_least, cX5_least, 2, (some .int), { frames := 0, cells := 0, slots := 0, locals := 0 })
theorem csX5_least : CS mX5_least 2 := ⟨wd806, wd61, wd807, by decide +kernel⟩
def mX5_copies : MI := (yX5_copies, cX5_copies, 3, none, { frames := 0, cells := 0, slots := 0, locals := 0 })
theorem csX5_copies : CS mX5_copies 2 := ⟨wd764, wd61, wd765, by decide +kernel⟩
def mX5_no : MI := (yX5_no, cX5_no, 2, (some .int), { frames := 0, cells := 0, slots := 0, locals := 0 })
theorem cvX5_no : CV mX5_no 1 := ⟨wd735, wd25, wd61, wd736, by decide +kernel⟩
def mX5_noWide : MI := (yX5_noWide, cX5_noWide, 2, (some .long), { frames := 1, cells := 0, slots := 0, locals := 21 })
theorem cvX5_noWide : CV mX5_noWide 1 := ⟨wd1007, wd50, wd61, wd1008, by decide +kernel⟩
def mX5_ofD : MI := (yX5_ofD, cX5_ofD, 2, (some .int), { frames := 0, cells := 0, slots := 0, locals := 0 })
theorem csX5_ofD : CS mX5_ofD 2 := ⟨wd778, wd61, wd779, by decide +kernel⟩
def mX5_ofP : MI := (yX5_ofP, cX5_ofP, 2, (some .int), { frames := 0, cells := 0, slots := 0, locals := 0 })
theorem csX5_ofP : CS mX5_ofP 2 := ⟨wd784, wd61, wd785, by decide +kernel⟩
def mX5_isDoor : MI := (yX5_isDoor, cX5_isDoor, 2, (some .boolean), { frames := 1, cells := 0, slots := 0, locals := 22 })
theorem cvX5_isDoor : CV mX5_isDoor 1 := ⟨wd792, wd33, wd61, wd793, by decide +kernel⟩
def mX5_isPerson : MI := (yX5_isPerson, cX5_isPerson, 2, (some .boolean), { frames := 1, cells := 0, slots := 0, locals := 22 })
theorem cvX5_isPerson : CV mX5_isPerson 1 := ⟨wd788, wd32, wd61, wd789, by decide +kernel⟩
def mX5_isRoom : MI := (yX5_isRoom, cX5_isRoom, 1, (some .boolean), { frames := 1, cells := 0, slots := 0, locals := 22 })
theorem csX5_isRoom : CS mX5_isRoom 1 := ⟨wd775, wd61, wd776, by decide +kernel⟩
def mX5_has : MI := (yX5_has, cX5_has, 2, (some .boolean), { frames := 0, cells := 0, slots := 0, locals := 0 })
theorem csX5_has : CS mX5_has 2 := ⟨wd813, wd61, wd814, by decide +kernel⟩
def mX5_bits : MI := (yX5_bits, cX5_bits, 3, (some .int), { frames := 0, cells := 0, slots := 0, locals := 0 })
theorem csX5_bits : CS mX5_bits 1 := ⟨wd887, wd61, wd888, by decide +kernel⟩
def mX5_opensBy : MI := (yX5_opensBy, cX5_opensBy, 7, (some .boolean), { frames := 0, cells := 0, slots := 0, locals := 0 })
theorem csX5_opensBy : CS mX5_opensBy 5 := ⟨wd834, wd61, wd835, by decide +kernel⟩
def mX5_isThere : MI := (yX5_isThere, cX5_isThere, 3, (some .boolean), { frames := 1, cells := 0, slots := 0, locals := 21 })
theorem csX5_isThere : CS mX5_isThere 3 := ⟨wd831, wd61, wd832, by decide +kernel⟩
def mX5_opens : MI := (yX5_opens, cX5_opens, 7, (some .boolean), { frames := 2, cells := 0, slots := 0, locals := 43 })
theorem csX5_opens : CS mX5_opens 4 := ⟨wd828, wd61, wd829, by decide +kernel⟩
def mX5_measures : MI := (yX5_measures, cX5_measures, 5, none, { frames := 1, cells := 0, slots := 0, locals := 21 })
theorem cvX5_measures : CV mX5_measures 1 := ⟨wd803, wd35, wd61, wd804, by decide +kernel⟩
def mX5_wayOf : MI := (yX5_wayOf, cX5_wayOf, 3, (some .int), { frames := 0, cells := 0, slots := 0, locals := 0 })
theorem cvX5_wayOf : CV mX5_wayOf 2 := ⟨wd825, wd39, wd61, wd826, by decide +kernel⟩
def mX5_isOnWay : MI := (yX5_isOnWay, cX5_isOnWay, 5, (some .boolean), { frames := 1, cells := 0, slots := 0, locals := 22 })
theorem cvX5_isOnWay : CV mX5_isOnWay 4 := ⟨wd821, wd38, wd61, wd822, by decide +kernel⟩
def mX5_doorOf : MI := (yX5_doorOf, cX5_doorOf, 7, (some .int), { frames := 3, cells := 0, slots := 0, locals := 69 })
theorem cvX5_doorOf : CV mX5_doorOf 3 := ⟨wd817, wd37, wd61, wd818, by decide +kernel⟩
def mX5_hour : MI := (yX5_hour, cX5_hour, 4, none, { frames := 4, cells := 0, slots := 0, locals := 95 })
theorem cvX5_hour : CV mX5_hour 1 := ⟨wd810, wd36, wd61, wd811, by decide +kernel⟩
def mX5_hoursOn : MI := (yX5_hoursOn, cX5_hoursOn, 4, none, { frames := 5, cells := 0, slots := 0, locals := 118 })
theorem cvX5_hoursOn : CV mX5_hoursOn 2 := ⟨wd799, wd34, wd61, wd800, by decide +kernel⟩
def mX5_homeIn : MI := (yX5_homeIn, cX5_homeIn, 3, (some .int), { frames := 1, cells := 0, slots := 0, locals := 21 })
theorem csX5_homeIn : CS mX5_homeIn 1 := ⟨wd884, wd61, wd885, by decide +kernel⟩
def mX5_letter : MI := (yX5_letter, cX5_letter, 2, (some .int), { frames := 1, cells := 0, slots := 0, locals := 21 })
theorem cvX5_letter : CV mX5_letter 1 := ⟨wd730, wd731, wd61, wd732, by decide +kernel⟩
def mX5_here : MI := (yX5_here, cX5_here, 1, (some .int), { frames := 0, cells := 0, slots := 0, locals := 0 })
theorem cvX5_here : CV mX5_here 0 := ⟨wd747, wd27, wd61, wd748, by decide +kernel⟩
def mX5_readsNumber : MI := (yX5_readsNumber, cX5_readsNumber, 4, (some .boolean), { frames := 1, cells := 0, slots := 0, locals := 22 })
theorem cvX5_readsNumber : CV mX5_readsNumber 2 := ⟨wd758, wd29, wd61, wd759, by decide +kernel⟩
def mX5_kindBy : MI := (yX5_kindBy, cX5_kindBy, 1, (some .int), { frames := 0, cells := 0, slots := 0, locals := 0 })
theorem csX5_kindBy : CS mX5_kindBy 1 := ⟨wd754, wd61, wd755, by decide +kernel⟩
def mX5_readsKind : MI := (yX5_readsKind, cX5_readsKind, 1, (some .boolean), { frames := 1, cells := 0, slots := 0, locals := 20 })
theorem cvX5_readsKind : CV mX5_readsKind 0 := ⟨wd751, wd28, wd61, wd752, by decide +kernel⟩
def mX5_readsStatement : MI := (yX5_readsStatement, cX5_readsStatement, 3, (some .boolean), { frames := 2, cells := 0, slots := 0, locals := 45 })
theorem cvX5_readsStatement : CV mX5_readsStatement 0 := ⟨wd743, wd26, wd61, wd744, by decide +kernel⟩
def mX5_addsDoor : MI := (yX5_addsDoor, cX5_addsDoor, 2, (some .boolean), { frames := 2, cells := 0, slots := 0, locals := 42 })
theorem cvX5_addsDoor : CV mX5_addsDoor 0 := ⟨wd772, wd31, wd61, wd773, by decide +kernel⟩
def mX5_adds : MI := (yX5_adds, cX5_adds, 5, none, { frames := 1, cells := 0, slots := 0, locals := 21 })
theorem csX5_adds : CS mX5_adds 4 := ⟨wd781, wd61, wd782, by decide +kernel⟩
def mX5_turnsIn : MI := (yX5_turnsIn, cX5_turnsIn, 3, none, { frames := 1, cells := 0, slots := 0, locals := 21 })
theorem csX5_turnsIn : CS mX5_turnsIn 2 := ⟨wd795, wd61, wd796, by decide +kernel⟩
def mX5_isDone : MI := (yX5_isDone, cX5_isDone, 4, (some .boolean), { frames := 6, cells := 0, slots := 0, locals := 141 })
theorem cvX5_isDone : CV mX5_isDone 1 := ⟨wd768, wd30, wd61, wd769, by decide +kernel⟩
def mX5_town : MI := (yX5_town, cX5_town, 6, (some .int), { frames := 7, cells := 0, slots := 0, locals := 164 })
theorem cvX5_town : CV mX5_town 0 := ⟨wd738, wd739, wd61, wd740, by decide +kernel⟩
def mX5_door : MI := (yX5_door, cX5_door, 3, (some .int), { frames := 2, cells := 0, slots := 0, locals := 43 })
theorem cvX5_door : CV mX5_door 2 := ⟨wd837, wd838, wd61, wd839, by decide +kernel⟩
def mX5_person : MI := (yX5_person, cX5_person, 3, (some .int), { frames := 4, cells := 0, slots := 0, locals := 95 })
theorem cvX5_person : CV mX5_person 2 := ⟨wd841, wd842, wd61, wd843, by decide +kernel⟩
def mX5_wedges : MI := (yX5_wedges, cX5_wedges, 2, (some .int), { frames := 2, cells := 0, slots := 0, locals := 43 })
theorem cvX5_wedges : CV mX5_wedges 1 := ⟨wd845, wd846, wd61, wd847, by decide +kernel⟩
def mX5_turns : MI := (yX5_turns, cX5_turns, 2, (some .int), { frames := 2, cells := 0, slots := 0, locals := 43 })
theorem cvX5_turns : CV mX5_turns 1 := ⟨wd849, wd850, wd61, wd851, by decide +kernel⟩
def mX5_areWrong : MI := (yX5_areWrong, cX5_areWrong, 3, (some .boolean), { frames := 2, cells := 0, slots := 0, locals := 43 })
theorem cvX5_areWrong : CV mX5_areWrong 2 := ⟨wd862, wd41, wd61, wd863, by decide +kernel⟩
def mX5_sets : MI := (yX5_sets, cX5_sets, 5, (some .int), { frames := 3, cells := 0, slots := 0, locals := 65 })
theorem cvX5_sets : CV mX5_sets 3 := ⟨wd858, wd40, wd61, wd859, by decide +kernel⟩
def mX5_stands : MI := (yX5_stands, cX5_stands, 3, (some .int), { frames := 4, cells := 0, slots := 0, locals := 89 })
theorem cvX5_stands : CV mX5_stands 2 := ⟨wd853, wd854, wd61, wd855, by decide +kernel⟩
def mX5_wants : MI := (yX5_wants, cX5_wants, 3, (some .int), { frames := 4, cells := 0, slots := 0, locals := 89 })
theorem cvX5_wants : CV mX5_wants 2 := ⟨wd865, wd866, wd61, wd867, by decide +kernel⟩
def mX5_wrongBy : MI := (yX5_wrongBy, cX5_wrongBy, 3, (some .int), { frames := 0, cells := 0, slots := 0, locals := 0 })
theorem csX5_wrongBy : CS mX5_wrongBy 3 := ⟨wd873, wd61, wd874, by decide +kernel⟩
def mX5_moods : MI := (yX5_moods, cX5_moods, 5, (some .int), { frames := 2, cells := 0, slots := 0, locals := 43 })
theorem cvX5_moods : CV mX5_moods 2 := ⟨wd869, wd870, wd61, wd871, by decide +kernel⟩
def mX5_changes : MI := (yX5_changes, cX5_changes, 6, (some .int), { frames := 2, cells := 0, slots := 0, locals := 43 })
theorem cvX5_changes : CV mX5_changes 3 := ⟨wd876, wd877, wd61, wd878, by decide +kernel⟩
def mX5_hours : MI := (yX5_hours, cX5_hours, 2, (some .int), { frames := 6, cells := 0, slots := 0, locals := 141 })
theorem cvX5_hours : CV mX5_hours 1 := ⟨wd880, wd881, wd61, wd882, by decide +kernel⟩
def mX5_takes : MI := (yX5_takes, cX5_takes, 2, none, { frames := 6, cells := 0, slots := 0, locals := 141 })
theorem cvX5_takes : CV mX5_takes 1 := ⟨wd895, wd42, wd61, wd896, by decide +kernel⟩
def mX5_personThen : MI := (yX5_personThen, cX5_personThen, 5, (some .int), { frames := 7, cells := 0, slots := 0, locals := 162 })
theorem cvX5_personThen : CV mX5_personThen 3 := ⟨wd890, wd891, wd61, wd892, by decide +kernel⟩
def mX5_letThen : MI := (yX5_letThen, cX5_letThen, 3, (some .int), { frames := 7, cells := 0, slots := 0, locals := 162 })
theorem cvX5_letThen : CV mX5_letThen 1 := ⟨wd898, wd899, wd61, wd900, by decide +kernel⟩
def mX5_comesTo : MI := (yX5_comesTo, cX5_comesTo, 4, (some .int), { frames := 7, cells := 0, slots := 0, locals := 162 })
theorem cvX5_comesTo : CV mX5_comesTo 2 := ⟨wd907, wd43, wd61, wd908, by decide +kernel⟩
def mX5_comes : MI := (yX5_comes, cX5_comes, 3, (some .int), { frames := 8, cells := 0, slots := 0, locals := 185 })
theorem cvX5_comes : CV mX5_comes 2 := ⟨wd902, wd903, wd61, wd904, by decide +kernel⟩
def mX5_allHome : MI := (yX5_allHome, cX5_allHome, 2, (some .int), { frames := 7, cells := 0, slots := 0, locals := 162 })
theorem cvX5_allHome : CV mX5_allHome 0 := ⟨wd915, wd44, wd61, wd916, by decide +kernel⟩
def mX5_home : MI := (yX5_home, cX5_home, 2, (some .int), { frames := 8, cells := 0, slots := 0, locals := 185 })
theorem cvX5_home : CV mX5_home 1 := ⟨wd910, wd911, wd61, wd912, by decide +kernel⟩
def mX5_shutIn : MI := (yX5_shutIn, cX5_shutIn, 3, (some .int), { frames := 2, cells := 0, slots := 0, locals := 45 })
theorem cvX5_shutIn : CV mX5_shutIn 0 := ⟨wd918, wd919, wd61, wd920, by decide +kernel⟩
def mX5_isStill : MI := (yX5_isStill, cX5_isStill, 5, (some .boolean), { frames := 7, cells := 0, slots := 0, locals := 162 })
theorem cvX5_isStill : CV mX5_isStill 1 := ⟨wd927, wd45, wd61, wd928, by decide +kernel⟩
def mX5_whereIn : MI := (yX5_whereIn, cX5_whereIn, 3, (some .int), { frames := 1, cells := 0, slots := 0, locals := 21 })
theorem csX5_whereIn : CS mX5_whereIn 1 := ⟨wd930, wd61, wd931, by decide +kernel⟩
def mX5_stuck : MI := (yX5_stuck, cX5_stuck, 2, (some .int), { frames := 8, cells := 0, slots := 0, locals := 186 })
theorem cvX5_stuck : CV mX5_stuck 0 := ⟨wd922, wd923, wd61, wd924, by decide +kernel⟩
def mX5_way : MI := (yX5_way, cX5_way, 5, (some .int), { frames := 2, cells := 0, slots := 0, locals := 46 })
theorem cvX5_way : CV mX5_way 3 := ⟨wd933, wd934, wd61, wd935, by decide +kernel⟩
def mX5_round : MI := (yX5_round, cX5_round, 4, (some .int), { frames := 2, cells := 0, slots := 0, locals := 45 })
theorem cvX5_round : CV mX5_round 1 := ⟨wd937, wd938, wd61, wd939, by decide +kernel⟩
def mX5_reach : MI := (yX5_reach, cX5_reach, 4, (some .int), { frames := 2, cells := 0, slots := 0, locals := 45 })
theorem cvX5_reach : CV mX5_reach 1 := ⟨wd941, wd942, wd61, wd943, by decide +kernel⟩
def mX5_open : MI := (yX5_open, cX5_open, 3, (some .int), { frames := 3, cells := 0, slots := 0, locals := 69 })
theorem cvX5_open : CV mX5_open 0 := ⟨wd945, wd946, wd61, wd947, by decide +kernel⟩
def mX5_helper : MI := (yX5_helper, cX5_helper, 8, (some .int), { frames := 6, cells := 0, slots := 0, locals := 141 })
theorem cvX5_helper : CV mX5_helper 2 := ⟨wd949, wd950, wd61, wd951, by decide +kernel⟩
def mX5_fewest : MI := (yX5_fewest, cX5_fewest, 7, (some .int), { frames := 6, cells := 0, slots := 0, locals := 141 })
theorem cvX5_fewest : CV mX5_fewest 2 := ⟨wd953, wd954, wd61, wd955, by decide +kernel⟩
def mX5_bestDoor : MI := (yX5_bestDoor, cX5_bestDoor, 6, (some .int), { frames := 7, cells := 0, slots := 0, locals := 162 })
theorem cvX5_bestDoor : CV mX5_bestDoor 2 := ⟨wd962, wd46, wd61, wd963, by decide +kernel⟩
def mX5_turn : MI := (yX5_turn, cX5_turn, 3, (some .int), { frames := 8, cells := 0, slots := 0, locals := 187 })
theorem cvX5_turn : CV mX5_turn 1 := ⟨wd957, wd958, wd61, wd959, by decide +kernel⟩
def mX5_wedge : MI := (yX5_wedge, cX5_wedge, 3, (some .int), { frames := 8, cells := 0, slots := 0, locals := 187 })
theorem cvX5_wedge : CV mX5_wedge 1 := ⟨wd965, wd966, wd61, wd967, by decide +kernel⟩
def mX5_holds : MI := (yX5_holds, cX5_holds, 8, (some .int), { frames := 6, cells := 0, slots := 0, locals := 141 })
theorem cvX5_holds : CV mX5_holds 2 := ⟨wd969, wd970, wd61, wd971, by decide +kernel⟩
def mX5_manyIn : MI := (yX5_manyIn, cX5_manyIn, 4, (some .int), { frames := 1, cells := 0, slots := 0, locals := 21 })
theorem cvX5_manyIn : CV mX5_manyIn 1 := ⟨wd979, wd47, wd61, wd980, by decide +kernel⟩
def mX5_doorsBy : MI := (yX5_doorsBy, cX5_doorsBy, 5, (some .int), { frames := 1, cells := 0, slots := 0, locals := 21 })
theorem cvX5_doorsBy : CV mX5_doorsBy 2 := ⟨wd983, wd48, wd61, wd984, by decide +kernel⟩
def mX5_crowd : MI := (yX5_crowd, cX5_crowd, 5, (some .int), { frames := 2, cells := 0, slots := 0, locals := 45 })
theorem cvX5_crowd : CV mX5_crowd 1 := ⟨wd974, wd975, wd61, wd976, by decide +kernel⟩
def mX5_handles : MI := (yX5_handles, cX5_handles, 2, (some .int), { frames := 2, cells := 0, slots := 0, locals := 45 })
theorem cvX5_handles : CV mX5_handles 1 := ⟨wd986, wd987, wd61, wd988, by decide +kernel⟩
def mX5_meet : MI := (yX5_meet, cX5_meet, 7, (some .int), { frames := 2, cells := 0, slots := 0, locals := 45 })
theorem cvX5_meet : CV mX5_meet 1 := ⟨wd990, wd991, wd61, wd992, by decide +kernel⟩
def mX5_hasBy : MI := (yX5_hasBy, cX5_hasBy, 7, (some .int), { frames := 6, cells := 0, slots := 0, locals := 141 })
theorem cvX5_hasBy : CV mX5_hasBy 6 := ⟨wd999, wd49, wd61, wd1000, by decide +kernel⟩
def mX5_two : MI := (yX5_two, cX5_two, 8, (some .int), { frames := 7, cells := 0, slots := 0, locals := 167 })
theorem cvX5_two : CV mX5_two 3 := ⟨wd994, wd995, wd61, wd996, by decide +kernel⟩
def mX5_gcd : MI := (yX5_gcd, cX5_gcd, 10, (some .long), { frames := 0, cells := 0, slots := 0, locals := 0 })
theorem csX5_gcd : CS mX5_gcd 2 := ⟨wd1018, wd61, wd1019, by decide +kernel⟩
def mX5_partOf : MI := (yX5_partOf, cX5_partOf, 5, (some .long), { frames := 1, cells := 0, slots := 0, locals := 29 })
theorem csX5_partOf : CS mX5_partOf 3 := ⟨wd1015, wd61, wd1016, by decide +kernel⟩
def mX5_hourBy : MI := (yX5_hourBy, cX5_hourBy, 3, none, { frames := 5, cells := 0, slots := 0, locals := 118 })
theorem cvX5_hourBy : CV mX5_hourBy 1 := ⟨wd1012, wd51, wd61, wd1013, by decide +kernel⟩
def mX5_fire : MI := (yX5_fire, cX5_fire, 14, (some .long), { frames := 7, cells := 0, slots := 0, locals := 162 })
theorem cvX5_fire : CV mX5_fire 5 := ⟨wd1002, wd1003, wd61, wd1004, by decide +kernel⟩
def mX5_allMoods : MI := (yX5_allMoods, cX5_allMoods, 3, (some .int), { frames := 1, cells := 0, slots := 0, locals := 21 })
theorem cvX5_allMoods : CV mX5_allMoods 0 := ⟨wd1026, wd52, wd61, wd1027, by decide +kernel⟩
def mX5_mean : MI := (yX5_mean, cX5_mean, 2, (some .long), { frames := 2, cells := 0, slots := 0, locals := 53 })
theorem cvX5_mean : CV mX5_mean 1 := ⟨wd1021, wd1022, wd61, wd1023, by decide +kernel⟩
def mX5_whatIs : MI := (yX5_whatIs, cX5_whatIs, 8, (some .int), { frames := 7, cells := 0, slots := 0, locals := 162 })
theorem cvX5_whatIs : CV mX5_whatIs 3 := ⟨wd1029, wd1030, wd61, wd1031, by decide +kernel⟩
def mX5_row : MI := (yX5_row, cX5_row, 3, (some .int), { frames := 1, cells := 0, slots := 0, locals := 22 })
theorem cvX5_row : CV mX5_row 1 := ⟨wd1033, wd1034, wd61, wd1035, by decide +kernel⟩
def mX5_judge : MI := (yX5_judge, cX5_judge, 3, (some .int), { frames := 2, cells := 0, slots := 0, locals := 43 })
theorem cvX5_judge : CV mX5_judge 0 := ⟨wd1037, wd1038, wd61, wd1039, by decide +kernel⟩
def mX5_clear : MI := (yX5_clear, cX5_clear, 2, (some .int), { frames := 0, cells := 0, slots := 0, locals := 0 })
theorem cvX5_clear : CV mX5_clear 0 := ⟨wd1041, wd1042, wd61, wd1043, by decide +kernel⟩
def mX5_drawn : MI := (yX5_drawn, cX5_drawn, 2, (some .int), { frames := 0, cells := 0, slots := 0, locals := 0 })
theorem cvX5_drawn : CV mX5_drawn 1 := ⟨wd1050, wd53, wd61, wd1051, by decide +kernel⟩
def mX5_lots : MI := (yX5_lots, cX5_lots, 7, (some .int), { frames := 6, cells := 0, slots := 0, locals := 141 })
theorem cvX5_lots : CV mX5_lots 3 := ⟨wd1045, wd1046, wd61, wd1047, by decide +kernel⟩
def mX5_image : MI := (yX5_image, cX5_image, 1, (some .int), { frames := 1, cells := 0, slots := 0, locals := 22 })
theorem cvX5_image : CV mX5_image 0 := ⟨wd1056, wd1057, wd61, wd1058, by decide +kernel⟩
def mX5_on : MI := (yX5_on, cX5_on, 1, (some .int), { frames := 1, cells := 0, slots := 0, locals := 22 })
theorem cvX5_on : CV mX5_on 0 := ⟨wd1060, wd1061, wd61, wd1062, by decide +kernel⟩
def mX5_count : MI := (yX5_count, cX5_count, 2, (some .int), { frames := 2, cells := 0, slots := 0, locals := 43 })
theorem cvX5_count : CV mX5_count 1 := ⟨wd1064, wd1065, wd61, wd1066, by decide +kernel⟩
def mJ6_bitCount_0f7a4 : MI := (yJ6_bitCount_0f7a4, cJ6_bitCount_0f7a4, 1, (some .int), { frames := 0, cells := 0, slots := 0, locals := 0 })
theorem csJ6_bitCount_0f7a4 : CS mJ6_bitCount_0f7a4 1 := ⟨wd434, wd63, wd435, by decide +kernel⟩
end
section
theorem dX0_init_0 : decode (mC mX0_init) 0 = .ok (.aload_n 0, 1) := by decide +kernel
theorem dX0_init_1 : decode (mC mX0_init) 1 = .ok (.invokespecial 3, 3) := by decide +kernel
theorem dX0_init_4 : decode (mC mX0_init) 4 = .ok (.aload_n 0, 1) := by decide +kernel
theorem dX0_init_5 : decode (mC mX0_init) 5 = .ok (.bipush 9, 2) := by decide +kernel
theorem dX0_init_7 : decode (mC mX0_init) 7 = .ok (.newarray .int, 2) := by decide +kernel
theorem dX0_init_9 : decode (mC mX0_init) 9 = .ok (.putfield 9, 3) := by decide +kernel
theorem dX0_init_12 : decode (mC mX0_init) 12 = .ok (.aload_n 0, 1) := by decide +kernel
theorem dX0_init_13 : decode (mC mX0_init) 13 = .ok (.bipush 9, 2) := by decide +kernel
theorem dX0_init_15 : decode (mC mX0_init) 15 = .ok (.newarray .int, 2) := by decide +kernel
theorem dX0_init_17 : decode (mC mX0_init) 17 = .ok (.putfield 15, 3) := by decide +kernel
theorem dX0_init_20 : decode (mC mX0_init) 20 = .ok (.aload_n 0, 1) := by decide +kernel
theorem dX0_init_21 : decode (mC mX0_init) 21 = .ok (.bipush 9, 2) := by decide +kernel
theorem dX0_init_23 : decode (mC mX0_init) 23 = .ok (.newarray .int, 2) := by decide +kernel
theorem dX0_init_25 : decode (mC mX0_init) 25 = .ok (.putfield 18, 3) := by decide +kernel
theorem dX0_init_28 : decode (mC mX0_init) 28 = .ok (.aload_n 0, 1) := by decide +kernel
theorem dX0_init_29 : decode (mC mX0_init) 29 = .ok (.bipush 9, 2) := by decide +kernel
theorem dX0_init_31 : decode (mC mX0_init) 31 = .ok (.newarray .int, 2) := by decide +kernel
theorem dX0_init_33 : decode (mC mX0_init) 33 = .ok (.putfield 21, 3) := by decide +kernel
theorem dX0_init_36 : decode (mC mX0_init) 36 = .ok (.aload_n 0, 1) := by decide +kernel
theorem dX0_init_37 : decode (mC mX0_init) 37 = .ok (.bipush 9, 2) := by decide +kernel
theorem dX0_init_39 : decode (mC mX0_init) 39 = .ok (.newarray .int, 2) := by decide +kernel
theorem dX0_init_41 : decode (mC mX0_init) 41 = .ok (.putfield 24, 3) := by decide +kernel
theorem dX0_init_44 : decode (mC mX0_init) 44 = .ok (.aload_n 0, 1) := by decide +kernel
theorem dX0_init_45 : decode (mC mX0_init) 45 = .ok (.bipush 64, 2) := by decide +kernel
theorem dX0_init_47 : decode (mC mX0_init) 47 = .ok (.newarray .int, 2) := by decide +kernel
theorem dX0_init_49 : decode (mC mX0_init) 49 = .ok (.putfield 27, 3) := by decide +kernel
theorem dX0_init_52 : decode (mC mX0_init) 52 = .ok (.aload_n 0, 1) := by decide +kernel
theorem dX0_init_53 : decode (mC mX0_init) 53 = .ok (.bipush 64, 2) := by decide +kernel
theorem dX0_init_55 : decode (mC mX0_init) 55 = .ok (.newarray .int, 2) := by decide +kernel
theorem dX0_init_57 : decode (mC mX0_init) 57 = .ok (.putfield 30, 3) := by decide +kernel
theorem dX0_init_60 : decode (mC mX0_init) 60 = .ok (.aload_n 0, 1) := by decide +kernel
theorem dX0_init_61 : decode (mC mX0_init) 61 = .ok (.invokevirtual 33, 3) := by decide +kernel
theorem dX0_init_64 : decode (mC mX0_init) 64 = .ok (.return_, 1) := by decide +kernel
theorem dX0_become_0 : decode (mC mX0_become) 0 = .ok (.aload_n 1, 1) := by decide +kernel
theorem dX0_become_1 : decode (mC mX0_become) 1 = .ok (.getfield 9, 3) := by decide +kernel
theorem dX0_become_4 : decode (mC mX0_become) 4 = .ok (.aload_n 0, 1) := by decide +kernel
theorem dX0_become_5 : decode (mC mX0_become) 5 = .ok (.getfield 9, 3) := by decide +kernel
theorem dX0_become_8 : decode (mC mX0_become) 8 = .ok (.invokestatic 36, 3) := by decide +kernel
theorem dX0_become_11 : decode (mC mX0_become) 11 = .ok (.aload_n 1, 1) := by decide +kernel
theorem dX0_become_12 : decode (mC mX0_become) 12 = .ok (.getfield 15, 3) := by decide +kernel
theorem dX0_become_15 : decode (mC mX0_become) 15 = .ok (.aload_n 0, 1) := by decide +kernel
theorem dX0_become_16 : decode (mC mX0_become) 16 = .ok (.getfield 15, 3) := by decide +kernel
theorem dX0_become_19 : decode (mC mX0_become) 19 = .ok (.invokestatic 36, 3) := by decide +kernel
theorem dX0_become_22 : decode (mC mX0_become) 22 = .ok (.aload_n 1, 1) := by decide +kernel
theorem dX0_become_23 : decode (mC mX0_become) 23 = .ok (.getfield 18, 3) := by decide +kernel
theorem dX0_become_26 : decode (mC mX0_become) 26 = .ok (.aload_n 0, 1) := by decide +kernel
theorem dX0_become_27 : decode (mC mX0_become) 27 = .ok (.getfield 18, 3) := by decide +kernel
theorem dX0_become_30 : decode (mC mX0_become) 30 = .ok (.invokestatic 36, 3) := by decide +kernel
theorem dX0_become_33 : decode (mC mX0_become) 33 = .ok (.aload_n 1, 1) := by decide +kernel
theorem dX0_become_34 : decode (mC mX0_become) 34 = .ok (.getfield 21, 3) := by decide +kernel
theorem dX0_become_37 : decode (mC mX0_become) 37 = .ok (.aload_n 0, 1) := by decide +kernel
theorem dX0_become_38 : decode (mC mX0_become) 38 = .ok (.getfield 21, 3) := by decide +kernel
theorem dX0_become_41 : decode (mC mX0_become) 41 = .ok (.invokestatic 36, 3) := by decide +kernel
theorem dX0_become_44 : decode (mC mX0_become) 44 = .ok (.aload_n 1, 1) := by decide +kernel
theorem dX0_become_45 : decode (mC mX0_become) 45 = .ok (.getfield 24, 3) := by decide +kernel
theorem dX0_become_48 : decode (mC mX0_become) 48 = .ok (.aload_n 0, 1) := by decide +kernel
theorem dX0_become_49 : decode (mC mX0_become) 49 = .ok (.getfield 24, 3) := by decide +kernel
theorem dX0_become_52 : decode (mC mX0_become) 52 = .ok (.invokestatic 36, 3) := by decide +kernel
theorem dX0_become_55 : decode (mC mX0_become) 55 = .ok (.aload_n 1, 1) := by decide +kernel
theorem dX0_become_56 : decode (mC mX0_become) 56 = .ok (.getfield 27, 3) := by decide +kernel
theorem dX0_become_59 : decode (mC mX0_become) 59 = .ok (.aload_n 0, 1) := by decide +kernel
theorem dX0_become_60 : decode (mC mX0_become) 60 = .ok (.getfield 27, 3) := by decide +kernel
theorem dX0_become_63 : decode (mC mX0_become) 63 = .ok (.invokestatic 36, 3) := by decide +kernel
theorem dX0_become_66 : decode (mC mX0_become) 66 = .ok (.aload_n 1, 1) := by decide +kernel
theorem dX0_become_67 : decode (mC mX0_become) 67 = .ok (.getfield 30, 3) := by decide +kernel
theorem dX0_become_70 : decode (mC mX0_become) 70 = .ok (.aload_n 0, 1) := by decide +kernel
theorem dX0_become_71 : decode (mC mX0_become) 71 = .ok (.getfield 30, 3) := by decide +kernel
theorem dX0_become_74 : decode (mC mX0_become) 74 = .ok (.invokestatic 36, 3) := by decide +kernel
theorem dX0_become_77 : decode (mC mX0_become) 77 = .ok (.aload_n 0, 1) := by decide +kernel
theorem dX0_become_78 : decode (mC mX0_become) 78 = .ok (.aload_n 1, 1) := by decide +kernel
theorem dX0_become_79 : decode (mC mX0_become) 79 = .ok (.getfield 40, 3) := by decide +kernel
theorem dX0_become_82 : decode (mC mX0_become) 82 = .ok (.putfield 40, 3) := by decide +kernel
theorem dX0_become_85 : decode (mC mX0_become) 85 = .ok (.return_, 1) := by decide +kernel
theorem dX0_has_0 : decode (mC mX0_has) 0 = .ok (.iload_n 1, 1) := by decide +kernel
theorem dX0_has_1 : decode (mC mX0_has) 1 = .ok (.ifCond .lt 15, 3) := by decide +kernel
theorem dX0_has_4 : decode (mC mX0_has) 4 = .ok (.iload_n 1, 1) := by decide +kernel
theorem dX0_has_5 : decode (mC mX0_has) 5 = .ok (.aload_n 0, 1) := by decide +kernel
theorem dX0_has_6 : decode (mC mX0_has) 6 = .ok (.getfield 40, 3) := by decide +kernel
theorem dX0_has_9 : decode (mC mX0_has) 9 = .ok (.if_icmp .ge 7, 3) := by decide +kernel
theorem dX0_has_12 : decode (mC mX0_has) 12 = .ok (.iconst 1, 1) := by decide +kernel
theorem dX0_has_13 : decode (mC mX0_has) 13 = .ok (.goto 4, 3) := by decide +kernel
theorem dX0_has_16 : decode (mC mX0_has) 16 = .ok (.iconst 0, 1) := by decide +kernel
theorem dX0_has_17 : decode (mC mX0_has) 17 = .ok (.ireturn, 1) := by decide +kernel
theorem dX0_addDoor_0 : decode (mC mX0_addDoor) 0 = .ok (.aload_n 0, 1) := by decide +kernel
theorem dX0_addDoor_1 : decode (mC mX0_addDoor) 1 = .ok (.getfield 40, 3) := by decide +kernel
theorem dX0_addDoor_4 : decode (mC mX0_addDoor) 4 = .ok (.bipush 9, 2) := by decide +kernel
theorem dX0_addDoor_6 : decode (mC mX0_addDoor) 6 = .ok (.if_icmp .ge 24, 3) := by decide +kernel
theorem dX0_addDoor_9 : decode (mC mX0_addDoor) 9 = .ok (.iload_n 3, 1) := by decide +kernel
theorem dX0_addDoor_10 : decode (mC mX0_addDoor) 10 = .ok (.invokestatic 44, 3) := by decide +kernel
theorem dX0_addDoor_13 : decode (mC mX0_addDoor) 13 = .ok (.ifCond .eq 17, 3) := by decide +kernel
theorem dX0_addDoor_16 : decode (mC mX0_addDoor) 16 = .ok (.iload 4, 2) := by decide +kernel
theorem dX0_addDoor_18 : decode (mC mX0_addDoor) 18 = .ok (.invokestatic 44, 3) := by decide +kernel
theorem dX0_addDoor_21 : decode (mC mX0_addDoor) 21 = .ok (.ifCond .eq 9, 3) := by decide +kernel
theorem dX0_addDoor_24 : decode (mC mX0_addDoor) 24 = .ok (.iload_n 3, 1) := by decide +kernel
theorem dX0_addDoor_25 : decode (mC mX0_addDoor) 25 = .ok (.iload 4, 2) := by decide +kernel
theorem dX0_addDoor_27 : decode (mC mX0_addDoor) 27 = .ok (.if_icmp .ne 5, 3) := by decide +kernel
theorem dX0_addDoor_30 : decode (mC mX0_addDoor) 30 = .ok (.iconst 0, 1) := by decide +kernel
theorem dX0_addDoor_31 : decode (mC mX0_addDoor) 31 = .ok (.ireturn, 1) := by decide +kernel
theorem dX0_addDoor_32 : decode (mC mX0_addDoor) 32 = .ok (.aload_n 0, 1) := by decide +kernel
theorem dX0_addDoor_33 : decode (mC mX0_addDoor) 33 = .ok (.getfield 9, 3) := by decide +kernel
theorem dX0_addDoor_36 : decode (mC mX0_addDoor) 36 = .ok (.aload_n 0, 1) := by decide +kernel
theorem dX0_addDoor_37 : decode (mC mX0_addDoor) 37 = .ok (.getfield 40, 3) := by decide +kernel
theorem dX0_addDoor_40 : decode (mC mX0_addDoor) 40 = .ok (.iload_n 1, 1) := by decide +kernel
theorem dX0_addDoor_41 : decode (mC mX0_addDoor) 41 = .ok (.invokestatic 48, 3) := by decide +kernel
theorem dX0_addDoor_44 : decode (mC mX0_addDoor) 44 = .ok (.aload_n 0, 1) := by decide +kernel
theorem dX0_addDoor_45 : decode (mC mX0_addDoor) 45 = .ok (.getfield 15, 3) := by decide +kernel
theorem dX0_addDoor_48 : decode (mC mX0_addDoor) 48 = .ok (.aload_n 0, 1) := by decide +kernel
theorem dX0_addDoor_49 : decode (mC mX0_addDoor) 49 = .ok (.getfield 40, 3) := by decide +kernel
theorem dX0_addDoor_52 : decode (mC mX0_addDoor) 52 = .ok (.iload_n 2, 1) := by decide +kernel
theorem dX0_addDoor_53 : decode (mC mX0_addDoor) 53 = .ok (.invokestatic 48, 3) := by decide +kernel
theorem dX0_addDoor_56 : decode (mC mX0_addDoor) 56 = .ok (.aload_n 0, 1) := by decide +kernel
theorem dX0_addDoor_57 : decode (mC mX0_addDoor) 57 = .ok (.getfield 18, 3) := by decide +kernel
theorem dX0_addDoor_60 : decode (mC mX0_addDoor) 60 = .ok (.aload_n 0, 1) := by decide +kernel
theorem dX0_addDoor_61 : decode (mC mX0_addDoor) 61 = .ok (.getfield 40, 3) := by decide +kernel
theorem dX0_addDoor_64 : decode (mC mX0_addDoor) 64 = .ok (.iload_n 3, 1) := by decide +kernel
theorem dX0_addDoor_65 : decode (mC mX0_addDoor) 65 = .ok (.invokestatic 48, 3) := by decide +kernel
theorem dX0_addDoor_68 : decode (mC mX0_addDoor) 68 = .ok (.aload_n 0, 1) := by decide +kernel
theorem dX0_addDoor_69 : decode (mC mX0_addDoor) 69 = .ok (.getfield 21, 3) := by decide +kernel
theorem dX0_addDoor_72 : decode (mC mX0_addDoor) 72 = .ok (.aload_n 0, 1) := by decide +kernel
theorem dX0_addDoor_73 : decode (mC mX0_addDoor) 73 = .ok (.getfield 40, 3) := by decide +kernel
theorem dX0_addDoor_76 : decode (mC mX0_addDoor) 76 = .ok (.iload 4, 2) := by decide +kernel
theorem dX0_addDoor_78 : decode (mC mX0_addDoor) 78 = .ok (.invokestatic 48, 3) := by decide +kernel
theorem dX0_addDoor_81 : decode (mC mX0_addDoor) 81 = .ok (.aload_n 0, 1) := by decide +kernel
theorem dX0_addDoor_82 : decode (mC mX0_addDoor) 82 = .ok (.getfield 24, 3) := by decide +kernel
theorem dX0_addDoor_85 : decode (mC mX0_addDoor) 85 = .ok (.aload_n 0, 1) := by decide +kernel
theorem dX0_addDoor_86 : decode (mC mX0_addDoor) 86 = .ok (.getfield 40, 3) := by decide +kernel
theorem dX0_addDoor_89 : decode (mC mX0_addDoor) 89 = .ok (.iconst 0, 1) := by decide +kernel
theorem dX0_addDoor_90 : decode (mC mX0_addDoor) 90 = .ok (.invokestatic 48, 3) := by decide +kernel
theorem dX0_addDoor_93 : decode (mC mX0_addDoor) 93 = .ok (.aload_n 0, 1) := by decide +kernel
theorem dX0_addDoor_94 : decode (mC mX0_addDoor) 94 = .ok (.dup, 1) := by decide +kernel
theorem dX0_addDoor_95 : decode (mC mX0_addDoor) 95 = .ok (.getfield 40, 3) := by decide +kernel
theorem dX0_addDoor_98 : decode (mC mX0_addDoor) 98 = .ok (.iconst 1, 1) := by decide +kernel
theorem dX0_addDoor_99 : decode (mC mX0_addDoor) 99 = .ok (.iadd, 1) := by decide +kernel
theorem dX0_addDoor_100 : decode (mC mX0_addDoor) 100 = .ok (.putfield 40, 3) := by decide +kernel
theorem dX0_addDoor_103 : decode (mC mX0_addDoor) 103 = .ok (.aload_n 0, 1) := by decide +kernel
theorem dX0_addDoor_104 : decode (mC mX0_addDoor) 104 = .ok (.invokevirtual 33, 3) := by decide +kernel
theorem dX0_addDoor_107 : decode (mC mX0_addDoor) 107 = .ok (.iconst 1, 1) := by decide +kernel
theorem dX0_addDoor_108 : decode (mC mX0_addDoor) 108 = .ok (.ireturn, 1) := by decide +kernel
theorem dX0_wedgeOrNot_0 : decode (mC mX0_wedgeOrNot) 0 = .ok (.aload_n 0, 1) := by decide +kernel
theorem dX0_wedgeOrNot_1 : decode (mC mX0_wedgeOrNot) 1 = .ok (.getfield 24, 3) := by decide +kernel
theorem dX0_wedgeOrNot_4 : decode (mC mX0_wedgeOrNot) 4 = .ok (.iload_n 1, 1) := by decide +kernel
theorem dX0_wedgeOrNot_5 : decode (mC mX0_wedgeOrNot) 5 = .ok (.iconst 1, 1) := by decide +kernel
theorem dX0_wedgeOrNot_6 : decode (mC mX0_wedgeOrNot) 6 = .ok (.aload_n 0, 1) := by decide +kernel
theorem dX0_wedgeOrNot_7 : decode (mC mX0_wedgeOrNot) 7 = .ok (.getfield 24, 3) := by decide +kernel
theorem dX0_wedgeOrNot_10 : decode (mC mX0_wedgeOrNot) 10 = .ok (.iload_n 1, 1) := by decide +kernel
theorem dX0_wedgeOrNot_11 : decode (mC mX0_wedgeOrNot) 11 = .ok (.invokestatic 52, 3) := by decide +kernel
theorem dX0_wedgeOrNot_14 : decode (mC mX0_wedgeOrNot) 14 = .ok (.isub, 1) := by decide +kernel
theorem dX0_wedgeOrNot_15 : decode (mC mX0_wedgeOrNot) 15 = .ok (.invokestatic 48, 3) := by decide +kernel
theorem dX0_wedgeOrNot_18 : decode (mC mX0_wedgeOrNot) 18 = .ok (.aload_n 0, 1) := by decide +kernel
theorem dX0_wedgeOrNot_19 : decode (mC mX0_wedgeOrNot) 19 = .ok (.getfield 24, 3) := by decide +kernel
theorem dX0_wedgeOrNot_22 : decode (mC mX0_wedgeOrNot) 22 = .ok (.iload_n 1, 1) := by decide +kernel
theorem dX0_wedgeOrNot_23 : decode (mC mX0_wedgeOrNot) 23 = .ok (.invokestatic 52, 3) := by decide +kernel
theorem dX0_wedgeOrNot_26 : decode (mC mX0_wedgeOrNot) 26 = .ok (.ireturn, 1) := by decide +kernel
theorem dX0_changeSides_0 : decode (mC mX0_changeSides) 0 = .ok (.aload_n 0, 1) := by decide +kernel
theorem dX0_changeSides_1 : decode (mC mX0_changeSides) 1 = .ok (.getfield 18, 3) := by decide +kernel
theorem dX0_changeSides_4 : decode (mC mX0_changeSides) 4 = .ok (.iload_n 1, 1) := by decide +kernel
theorem dX0_changeSides_5 : decode (mC mX0_changeSides) 5 = .ok (.invokestatic 52, 3) := by decide +kernel
theorem dX0_changeSides_8 : decode (mC mX0_changeSides) 8 = .ok (.istore_n 2, 1) := by decide +kernel
theorem dX0_changeSides_9 : decode (mC mX0_changeSides) 9 = .ok (.aload_n 0, 1) := by decide +kernel
theorem dX0_changeSides_10 : decode (mC mX0_changeSides) 10 = .ok (.getfield 18, 3) := by decide +kernel
theorem dX0_changeSides_13 : decode (mC mX0_changeSides) 13 = .ok (.iload_n 1, 1) := by decide +kernel
theorem dX0_changeSides_14 : decode (mC mX0_changeSides) 14 = .ok (.aload_n 0, 1) := by decide +kernel
theorem dX0_changeSides_15 : decode (mC mX0_changeSides) 15 = .ok (.getfield 21, 3) := by decide +kernel
theorem dX0_changeSides_18 : decode (mC mX0_changeSides) 18 = .ok (.iload_n 1, 1) := by decide +kernel
theorem dX0_changeSides_19 : decode (mC mX0_changeSides) 19 = .ok (.invokestatic 52, 3) := by decide +kernel
theorem dX0_changeSides_22 : decode (mC mX0_changeSides) 22 = .ok (.invokestatic 48, 3) := by decide +kernel
theorem dX0_changeSides_25 : decode (mC mX0_changeSides) 25 = .ok (.aload_n 0, 1) := by decide +kernel
theorem dX0_changeSides_26 : decode (mC mX0_changeSides) 26 = .ok (.getfield 21, 3) := by decide +kernel
theorem dX0_changeSides_29 : decode (mC mX0_changeSides) 29 = .ok (.iload_n 1, 1) := by decide +kernel
theorem dX0_changeSides_30 : decode (mC mX0_changeSides) 30 = .ok (.iload_n 2, 1) := by decide +kernel
theorem dX0_changeSides_31 : decode (mC mX0_changeSides) 31 = .ok (.invokestatic 48, 3) := by decide +kernel
theorem dX0_changeSides_34 : decode (mC mX0_changeSides) 34 = .ok (.aload_n 0, 1) := by decide +kernel
theorem dX0_changeSides_35 : decode (mC mX0_changeSides) 35 = .ok (.invokevirtual 33, 3) := by decide +kernel
theorem dX0_changeSides_38 : decode (mC mX0_changeSides) 38 = .ok (.iload_n 2, 1) := by decide +kernel
theorem dX0_changeSides_39 : decode (mC mX0_changeSides) 39 = .ok (.ireturn, 1) := by decide +kernel
theorem dX0_wayBetween_0 : decode (mC mX0_wayBetween) 0 = .ok (.iload_n 1, 1) := by decide +kernel
theorem dX0_wayBetween_1 : decode (mC mX0_wayBetween) 1 = .ok (.invokestatic 44, 3) := by decide +kernel
theorem dX0_wayBetween_4 : decode (mC mX0_wayBetween) 4 = .ok (.ifCond .eq 26, 3) := by decide +kernel
theorem dX0_wayBetween_7 : decode (mC mX0_wayBetween) 7 = .ok (.iload_n 2, 1) := by decide +kernel
theorem dX0_wayBetween_8 : decode (mC mX0_wayBetween) 8 = .ok (.invokestatic 44, 3) := by decide +kernel
theorem dX0_wayBetween_11 : decode (mC mX0_wayBetween) 11 = .ok (.ifCond .eq 19, 3) := by decide +kernel
theorem dX0_wayBetween_14 : decode (mC mX0_wayBetween) 14 = .ok (.aload_n 0, 1) := by decide +kernel
theorem dX0_wayBetween_15 : decode (mC mX0_wayBetween) 15 = .ok (.getfield 27, 3) := by decide +kernel
theorem dX0_wayBetween_18 : decode (mC mX0_wayBetween) 18 = .ok (.iload_n 1, 1) := by decide +kernel
theorem dX0_wayBetween_19 : decode (mC mX0_wayBetween) 19 = .ok (.bipush 8, 2) := by decide +kernel
theorem dX0_wayBetween_21 : decode (mC mX0_wayBetween) 21 = .ok (.imul, 1) := by decide +kernel
theorem dX0_wayBetween_22 : decode (mC mX0_wayBetween) 22 = .ok (.iload_n 2, 1) := by decide +kernel
theorem dX0_wayBetween_23 : decode (mC mX0_wayBetween) 23 = .ok (.iadd, 1) := by decide +kernel
theorem dX0_wayBetween_24 : decode (mC mX0_wayBetween) 24 = .ok (.invokestatic 52, 3) := by decide +kernel
theorem dX0_wayBetween_27 : decode (mC mX0_wayBetween) 27 = .ok (.goto 6, 3) := by decide +kernel
theorem dX0_wayBetween_30 : decode (mC mX0_wayBetween) 30 = .ok (.sipush 1000, 3) := by decide +kernel
theorem dX0_wayBetween_33 : decode (mC mX0_wayBetween) 33 = .ok (.ireturn, 1) := by decide +kernel
theorem dX0_firstDoors_0 : decode (mC mX0_firstDoors) 0 = .ok (.iload_n 1, 1) := by decide +kernel
theorem dX0_firstDoors_1 : decode (mC mX0_firstDoors) 1 = .ok (.invokestatic 44, 3) := by decide +kernel
theorem dX0_firstDoors_4 : decode (mC mX0_firstDoors) 4 = .ok (.ifCond .eq 26, 3) := by decide +kernel
theorem dX0_firstDoors_7 : decode (mC mX0_firstDoors) 7 = .ok (.iload_n 2, 1) := by decide +kernel
theorem dX0_firstDoors_8 : decode (mC mX0_firstDoors) 8 = .ok (.invokestatic 44, 3) := by decide +kernel
theorem dX0_firstDoors_11 : decode (mC mX0_firstDoors) 11 = .ok (.ifCond .eq 19, 3) := by decide +kernel
theorem dX0_firstDoors_14 : decode (mC mX0_firstDoors) 14 = .ok (.aload_n 0, 1) := by decide +kernel
theorem dX0_firstDoors_15 : decode (mC mX0_firstDoors) 15 = .ok (.getfield 30, 3) := by decide +kernel
theorem dX0_firstDoors_18 : decode (mC mX0_firstDoors) 18 = .ok (.iload_n 1, 1) := by decide +kernel
theorem dX0_firstDoors_19 : decode (mC mX0_firstDoors) 19 = .ok (.bipush 8, 2) := by decide +kernel
theorem dX0_firstDoors_21 : decode (mC mX0_firstDoors) 21 = .ok (.imul, 1) := by decide +kernel
theorem dX0_firstDoors_22 : decode (mC mX0_firstDoors) 22 = .ok (.iload_n 2, 1) := by decide +kernel
theorem dX0_firstDoors_23 : decode (mC mX0_firstDoors) 23 = .ok (.iadd, 1) := by decide +kernel
theorem dX0_firstDoors_24 : decode (mC mX0_firstDoors) 24 = .ok (.invokestatic 52, 3) := by decide +kernel
theorem dX0_firstDoors_27 : decode (mC mX0_firstDoors) 27 = .ok (.goto 4, 3) := by decide +kernel
theorem dX0_firstDoors_30 : decode (mC mX0_firstDoors) 30 = .ok (.iconst 0, 1) := by decide +kernel
theorem dX0_firstDoors_31 : decode (mC mX0_firstDoors) 31 = .ok (.ireturn, 1) := by decide +kernel
theorem dX0_measureWays_0 : decode (mC mX0_measureWays) 0 = .ok (.iconst 0, 1) := by decide +kernel
theorem dX0_measureWays_1 : decode (mC mX0_measureWays) 1 = .ok (.istore_n 1, 1) := by decide +kernel
theorem dX0_measureWays_2 : decode (mC mX0_measureWays) 2 = .ok (.iload_n 1, 1) := by decide +kernel
theorem dX0_measureWays_3 : decode (mC mX0_measureWays) 3 = .ok (.bipush 64, 2) := by decide +kernel
theorem dX0_measureWays_5 : decode (mC mX0_measureWays) 5 = .ok (.if_icmp .ge 35, 3) := by decide +kernel
theorem dX0_measureWays_8 : decode (mC mX0_measureWays) 8 = .ok (.aload_n 0, 1) := by decide +kernel
theorem dX0_measureWays_9 : decode (mC mX0_measureWays) 9 = .ok (.getfield 27, 3) := by decide +kernel
theorem dX0_measureWays_12 : decode (mC mX0_measureWays) 12 = .ok (.iload_n 1, 1) := by decide +kernel
theorem dX0_measureWays_13 : decode (mC mX0_measureWays) 13 = .ok (.iload_n 1, 1) := by decide +kernel
theorem dX0_measureWays_14 : decode (mC mX0_measureWays) 14 = .ok (.bipush 8, 2) := by decide +kernel
theorem dX0_measureWays_16 : decode (mC mX0_measureWays) 16 = .ok (.idiv, 1) := by decide +kernel
theorem dX0_measureWays_17 : decode (mC mX0_measureWays) 17 = .ok (.iload_n 1, 1) := by decide +kernel
theorem dX0_measureWays_18 : decode (mC mX0_measureWays) 18 = .ok (.bipush 8, 2) := by decide +kernel
theorem dX0_measureWays_20 : decode (mC mX0_measureWays) 20 = .ok (.irem, 1) := by decide +kernel
theorem dX0_measureWays_21 : decode (mC mX0_measureWays) 21 = .ok (.if_icmp .ne 7, 3) := by decide +kernel
theorem dX0_measureWays_24 : decode (mC mX0_measureWays) 24 = .ok (.iconst 0, 1) := by decide +kernel
theorem dX0_measureWays_25 : decode (mC mX0_measureWays) 25 = .ok (.goto 6, 3) := by decide +kernel
theorem dX0_measureWays_28 : decode (mC mX0_measureWays) 28 = .ok (.sipush 1000, 3) := by decide +kernel
theorem dX0_measureWays_31 : decode (mC mX0_measureWays) 31 = .ok (.invokestatic 48, 3) := by decide +kernel
theorem dX0_measureWays_34 : decode (mC mX0_measureWays) 34 = .ok (.iinc 1 1, 3) := by decide +kernel
theorem dX0_measureWays_37 : decode (mC mX0_measureWays) 37 = .ok (.goto (-35), 3) := by decide +kernel
theorem dX0_measureWays_40 : decode (mC mX0_measureWays) 40 = .ok (.iconst 1, 1) := by decide +kernel
theorem dX0_measureWays_41 : decode (mC mX0_measureWays) 41 = .ok (.istore_n 1, 1) := by decide +kernel
theorem dX0_measureWays_42 : decode (mC mX0_measureWays) 42 = .ok (.iconst 1, 1) := by decide +kernel
theorem dX0_measureWays_43 : decode (mC mX0_measureWays) 43 = .ok (.istore_n 2, 1) := by decide +kernel
theorem dX0_measureWays_44 : decode (mC mX0_measureWays) 44 = .ok (.iload_n 2, 1) := by decide +kernel
theorem dX0_measureWays_45 : decode (mC mX0_measureWays) 45 = .ok (.bipush 8, 2) := by decide +kernel
theorem dX0_measureWays_47 : decode (mC mX0_measureWays) 47 = .ok (.if_icmp .ge 54, 3) := by decide +kernel
theorem dX0_measureWays_50 : decode (mC mX0_measureWays) 50 = .ok (.iload_n 1, 1) := by decide +kernel
theorem dX0_measureWays_51 : decode (mC mX0_measureWays) 51 = .ok (.ifCond .eq 50, 3) := by decide +kernel
theorem dX0_measureWays_54 : decode (mC mX0_measureWays) 54 = .ok (.iconst 0, 1) := by decide +kernel
theorem dX0_measureWays_55 : decode (mC mX0_measureWays) 55 = .ok (.istore_n 1, 1) := by decide +kernel
theorem dX0_measureWays_56 : decode (mC mX0_measureWays) 56 = .ok (.iconst 0, 1) := by decide +kernel
theorem dX0_measureWays_57 : decode (mC mX0_measureWays) 57 = .ok (.istore_n 3, 1) := by decide +kernel
theorem dX0_measureWays_58 : decode (mC mX0_measureWays) 58 = .ok (.iload_n 3, 1) := by decide +kernel
theorem dX0_measureWays_59 : decode (mC mX0_measureWays) 59 = .ok (.aload_n 0, 1) := by decide +kernel
theorem dX0_measureWays_60 : decode (mC mX0_measureWays) 60 = .ok (.getfield 40, 3) := by decide +kernel
theorem dX0_measureWays_63 : decode (mC mX0_measureWays) 63 = .ok (.if_icmp .ge 32, 3) := by decide +kernel
theorem dX0_measureWays_66 : decode (mC mX0_measureWays) 66 = .ok (.iload_n 1, 1) := by decide +kernel
theorem dX0_measureWays_67 : decode (mC mX0_measureWays) 67 = .ok (.aload_n 0, 1) := by decide +kernel
theorem dX0_measureWays_68 : decode (mC mX0_measureWays) 68 = .ok (.aload_n 0, 1) := by decide +kernel
theorem dX0_measureWays_69 : decode (mC mX0_measureWays) 69 = .ok (.getfield 18, 3) := by decide +kernel
theorem dX0_measureWays_72 : decode (mC mX0_measureWays) 72 = .ok (.iload_n 3, 1) := by decide +kernel
theorem dX0_measureWays_73 : decode (mC mX0_measureWays) 73 = .ok (.invokestatic 52, 3) := by decide +kernel
theorem dX0_measureWays_76 : decode (mC mX0_measureWays) 76 = .ok (.aload_n 0, 1) := by decide +kernel
theorem dX0_measureWays_77 : decode (mC mX0_measureWays) 77 = .ok (.getfield 21, 3) := by decide +kernel
theorem dX0_measureWays_80 : decode (mC mX0_measureWays) 80 = .ok (.iload_n 3, 1) := by decide +kernel
theorem dX0_measureWays_81 : decode (mC mX0_measureWays) 81 = .ok (.invokestatic 52, 3) := by decide +kernel
theorem dX0_measureWays_84 : decode (mC mX0_measureWays) 84 = .ok (.invokevirtual 56, 3) := by decide +kernel
theorem dX0_measureWays_87 : decode (mC mX0_measureWays) 87 = .ok (.ior, 1) := by decide +kernel
theorem dX0_measureWays_88 : decode (mC mX0_measureWays) 88 = .ok (.istore_n 1, 1) := by decide +kernel
theorem dX0_measureWays_89 : decode (mC mX0_measureWays) 89 = .ok (.iinc 3 1, 3) := by decide +kernel
theorem dX0_measureWays_92 : decode (mC mX0_measureWays) 92 = .ok (.goto (-34), 3) := by decide +kernel
theorem dX0_measureWays_95 : decode (mC mX0_measureWays) 95 = .ok (.iinc 2 1, 3) := by decide +kernel
theorem dX0_measureWays_98 : decode (mC mX0_measureWays) 98 = .ok (.goto (-54), 3) := by decide +kernel
theorem dX0_measureWays_101 : decode (mC mX0_measureWays) 101 = .ok (.aload_n 0, 1) := by decide +kernel
theorem dX0_measureWays_102 : decode (mC mX0_measureWays) 102 = .ok (.invokevirtual 60, 3) := by decide +kernel
theorem dX0_measureWays_105 : decode (mC mX0_measureWays) 105 = .ok (.return_, 1) := by decide +kernel
theorem dX0_shortenWaysBy_0 : decode (mC mX0_shortenWaysBy) 0 = .ok (.iconst 0, 1) := by decide +kernel
theorem dX0_shortenWaysBy_1 : decode (mC mX0_shortenWaysBy) 1 = .ok (.istore_n 3, 1) := by decide +kernel
theorem dX0_shortenWaysBy_2 : decode (mC mX0_shortenWaysBy) 2 = .ok (.iconst 0, 1) := by decide +kernel
theorem dX0_shortenWaysBy_3 : decode (mC mX0_shortenWaysBy) 3 = .ok (.istore 4, 2) := by decide +kernel
theorem dX0_shortenWaysBy_5 : decode (mC mX0_shortenWaysBy) 5 = .ok (.iload 4, 2) := by decide +kernel
theorem dX0_shortenWaysBy_7 : decode (mC mX0_shortenWaysBy) 7 = .ok (.bipush 8, 2) := by decide +kernel
theorem dX0_shortenWaysBy_9 : decode (mC mX0_shortenWaysBy) 9 = .ok (.if_icmp .ge 64, 3) := by decide +kernel
theorem dX0_shortenWaysBy_12 : decode (mC mX0_shortenWaysBy) 12 = .ok (.iconst 1, 1) := by decide +kernel
theorem dX0_shortenWaysBy_13 : decode (mC mX0_shortenWaysBy) 13 = .ok (.aload_n 0, 1) := by decide +kernel
theorem dX0_shortenWaysBy_14 : decode (mC mX0_shortenWaysBy) 14 = .ok (.getfield 27, 3) := by decide +kernel
theorem dX0_shortenWaysBy_17 : decode (mC mX0_shortenWaysBy) 17 = .ok (.iload_n 2, 1) := by decide +kernel
theorem dX0_shortenWaysBy_18 : decode (mC mX0_shortenWaysBy) 18 = .ok (.bipush 8, 2) := by decide +kernel
theorem dX0_shortenWaysBy_20 : decode (mC mX0_shortenWaysBy) 20 = .ok (.imul, 1) := by decide +kernel
theorem dX0_shortenWaysBy_21 : decode (mC mX0_shortenWaysBy) 21 = .ok (.iload 4, 2) := by decide +kernel
theorem dX0_shortenWaysBy_23 : decode (mC mX0_shortenWaysBy) 23 = .ok (.iadd, 1) := by decide +kernel
theorem dX0_shortenWaysBy_24 : decode (mC mX0_shortenWaysBy) 24 = .ok (.invokestatic 52, 3) := by decide +kernel
theorem dX0_shortenWaysBy_27 : decode (mC mX0_shortenWaysBy) 27 = .ok (.iadd, 1) := by decide +kernel
theorem dX0_shortenWaysBy_28 : decode (mC mX0_shortenWaysBy) 28 = .ok (.istore 5, 2) := by decide +kernel
theorem dX0_shortenWaysBy_30 : decode (mC mX0_shortenWaysBy) 30 = .ok (.iload 5, 2) := by decide +kernel
theorem dX0_shortenWaysBy_32 : decode (mC mX0_shortenWaysBy) 32 = .ok (.aload_n 0, 1) := by decide +kernel
theorem dX0_shortenWaysBy_33 : decode (mC mX0_shortenWaysBy) 33 = .ok (.getfield 27, 3) := by decide +kernel
theorem dX0_shortenWaysBy_36 : decode (mC mX0_shortenWaysBy) 36 = .ok (.iload_n 1, 1) := by decide +kernel
theorem dX0_shortenWaysBy_37 : decode (mC mX0_shortenWaysBy) 37 = .ok (.bipush 8, 2) := by decide +kernel
theorem dX0_shortenWaysBy_39 : decode (mC mX0_shortenWaysBy) 39 = .ok (.imul, 1) := by decide +kernel
theorem dX0_shortenWaysBy_40 : decode (mC mX0_shortenWaysBy) 40 = .ok (.iload 4, 2) := by decide +kernel
theorem dX0_shortenWaysBy_42 : decode (mC mX0_shortenWaysBy) 42 = .ok (.iadd, 1) := by decide +kernel
theorem dX0_shortenWaysBy_43 : decode (mC mX0_shortenWaysBy) 43 = .ok (.invokestatic 52, 3) := by decide +kernel
theorem dX0_shortenWaysBy_46 : decode (mC mX0_shortenWaysBy) 46 = .ok (.if_icmp .ge 21, 3) := by decide +kernel
theorem dX0_shortenWaysBy_49 : decode (mC mX0_shortenWaysBy) 49 = .ok (.aload_n 0, 1) := by decide +kernel
theorem dX0_shortenWaysBy_50 : decode (mC mX0_shortenWaysBy) 50 = .ok (.getfield 27, 3) := by decide +kernel
theorem dX0_shortenWaysBy_53 : decode (mC mX0_shortenWaysBy) 53 = .ok (.iload_n 1, 1) := by decide +kernel
theorem dX0_shortenWaysBy_54 : decode (mC mX0_shortenWaysBy) 54 = .ok (.bipush 8, 2) := by decide +kernel
theorem dX0_shortenWaysBy_56 : decode (mC mX0_shortenWaysBy) 56 = .ok (.imul, 1) := by decide +kernel
theorem dX0_shortenWaysBy_57 : decode (mC mX0_shortenWaysBy) 57 = .ok (.iload 4, 2) := by decide +kernel
theorem dX0_shortenWaysBy_59 : decode (mC mX0_shortenWaysBy) 59 = .ok (.iadd, 1) := by decide +kernel
theorem dX0_shortenWaysBy_60 : decode (mC mX0_shortenWaysBy) 60 = .ok (.iload 5, 2) := by decide +kernel
theorem dX0_shortenWaysBy_62 : decode (mC mX0_shortenWaysBy) 62 = .ok (.invokestatic 48, 3) := by decide +kernel
theorem dX0_shortenWaysBy_65 : decode (mC mX0_shortenWaysBy) 65 = .ok (.iconst 1, 1) := by decide +kernel
theorem dX0_shortenWaysBy_66 : decode (mC mX0_shortenWaysBy) 66 = .ok (.istore_n 3, 1) := by decide +kernel
theorem dX0_shortenWaysBy_67 : decode (mC mX0_shortenWaysBy) 67 = .ok (.iinc 4 1, 3) := by decide +kernel
theorem dX0_shortenWaysBy_70 : decode (mC mX0_shortenWaysBy) 70 = .ok (.goto (-65), 3) := by decide +kernel
theorem dX0_shortenWaysBy_73 : decode (mC mX0_shortenWaysBy) 73 = .ok (.iload_n 3, 1) := by decide +kernel
theorem dX0_shortenWaysBy_74 : decode (mC mX0_shortenWaysBy) 74 = .ok (.ireturn, 1) := by decide +kernel
theorem dX0_findFirsts_0 : decode (mC mX0_findFirsts) 0 = .ok (.iconst 0, 1) := by decide +kernel
theorem dX0_findFirsts_1 : decode (mC mX0_findFirsts) 1 = .ok (.istore_n 1, 1) := by decide +kernel
theorem dX0_findFirsts_2 : decode (mC mX0_findFirsts) 2 = .ok (.iload_n 1, 1) := by decide +kernel
theorem dX0_findFirsts_3 : decode (mC mX0_findFirsts) 3 = .ok (.bipush 64, 2) := by decide +kernel
theorem dX0_findFirsts_5 : decode (mC mX0_findFirsts) 5 = .ok (.if_icmp .ge 18, 3) := by decide +kernel
theorem dX0_findFirsts_8 : decode (mC mX0_findFirsts) 8 = .ok (.aload_n 0, 1) := by decide +kernel
theorem dX0_findFirsts_9 : decode (mC mX0_findFirsts) 9 = .ok (.getfield 30, 3) := by decide +kernel
theorem dX0_findFirsts_12 : decode (mC mX0_findFirsts) 12 = .ok (.iload_n 1, 1) := by decide +kernel
theorem dX0_findFirsts_13 : decode (mC mX0_findFirsts) 13 = .ok (.iconst 0, 1) := by decide +kernel
theorem dX0_findFirsts_14 : decode (mC mX0_findFirsts) 14 = .ok (.invokestatic 48, 3) := by decide +kernel
theorem dX0_findFirsts_17 : decode (mC mX0_findFirsts) 17 = .ok (.iinc 1 1, 3) := by decide +kernel
theorem dX0_findFirsts_20 : decode (mC mX0_findFirsts) 20 = .ok (.goto (-18), 3) := by decide +kernel
theorem dX0_findFirsts_23 : decode (mC mX0_findFirsts) 23 = .ok (.iconst 0, 1) := by decide +kernel
theorem dX0_findFirsts_24 : decode (mC mX0_findFirsts) 24 = .ok (.istore_n 1, 1) := by decide +kernel
theorem dX0_findFirsts_25 : decode (mC mX0_findFirsts) 25 = .ok (.iload_n 1, 1) := by decide +kernel
theorem dX0_findFirsts_26 : decode (mC mX0_findFirsts) 26 = .ok (.aload_n 0, 1) := by decide +kernel
theorem dX0_findFirsts_27 : decode (mC mX0_findFirsts) 27 = .ok (.getfield 40, 3) := by decide +kernel
theorem dX0_findFirsts_30 : decode (mC mX0_findFirsts) 30 = .ok (.bipush 8, 2) := by decide +kernel
theorem dX0_findFirsts_32 : decode (mC mX0_findFirsts) 32 = .ok (.imul, 1) := by decide +kernel
theorem dX0_findFirsts_33 : decode (mC mX0_findFirsts) 33 = .ok (.if_icmp .ge 91, 3) := by decide +kernel
theorem dX0_findFirsts_36 : decode (mC mX0_findFirsts) 36 = .ok (.iload_n 1, 1) := by decide +kernel
theorem dX0_findFirsts_37 : decode (mC mX0_findFirsts) 37 = .ok (.bipush 8, 2) := by decide +kernel
theorem dX0_findFirsts_39 : decode (mC mX0_findFirsts) 39 = .ok (.idiv, 1) := by decide +kernel
theorem dX0_findFirsts_40 : decode (mC mX0_findFirsts) 40 = .ok (.istore_n 2, 1) := by decide +kernel
theorem dX0_findFirsts_41 : decode (mC mX0_findFirsts) 41 = .ok (.aload_n 0, 1) := by decide +kernel
theorem dX0_findFirsts_42 : decode (mC mX0_findFirsts) 42 = .ok (.getfield 18, 3) := by decide +kernel
theorem dX0_findFirsts_45 : decode (mC mX0_findFirsts) 45 = .ok (.iload_n 2, 1) := by decide +kernel
theorem dX0_findFirsts_46 : decode (mC mX0_findFirsts) 46 = .ok (.invokestatic 52, 3) := by decide +kernel
theorem dX0_findFirsts_49 : decode (mC mX0_findFirsts) 49 = .ok (.bipush 8, 2) := by decide +kernel
theorem dX0_findFirsts_51 : decode (mC mX0_findFirsts) 51 = .ok (.imul, 1) := by decide +kernel
theorem dX0_findFirsts_52 : decode (mC mX0_findFirsts) 52 = .ok (.iload_n 1, 1) := by decide +kernel
theorem dX0_findFirsts_53 : decode (mC mX0_findFirsts) 53 = .ok (.bipush 8, 2) := by decide +kernel
theorem dX0_findFirsts_55 : decode (mC mX0_findFirsts) 55 = .ok (.irem, 1) := by decide +kernel
theorem dX0_findFirsts_56 : decode (mC mX0_findFirsts) 56 = .ok (.iadd, 1) := by decide +kernel
theorem dX0_findFirsts_57 : decode (mC mX0_findFirsts) 57 = .ok (.istore_n 3, 1) := by decide +kernel
theorem dX0_findFirsts_58 : decode (mC mX0_findFirsts) 58 = .ok (.aload_n 0, 1) := by decide +kernel
theorem dX0_findFirsts_59 : decode (mC mX0_findFirsts) 59 = .ok (.getfield 21, 3) := by decide +kernel
theorem dX0_findFirsts_62 : decode (mC mX0_findFirsts) 62 = .ok (.iload_n 2, 1) := by decide +kernel
theorem dX0_findFirsts_63 : decode (mC mX0_findFirsts) 63 = .ok (.invokestatic 52, 3) := by decide +kernel
theorem dX0_findFirsts_66 : decode (mC mX0_findFirsts) 66 = .ok (.bipush 8, 2) := by decide +kernel
theorem dX0_findFirsts_68 : decode (mC mX0_findFirsts) 68 = .ok (.imul, 1) := by decide +kernel
theorem dX0_findFirsts_69 : decode (mC mX0_findFirsts) 69 = .ok (.iload_n 1, 1) := by decide +kernel
theorem dX0_findFirsts_70 : decode (mC mX0_findFirsts) 70 = .ok (.bipush 8, 2) := by decide +kernel
theorem dX0_findFirsts_72 : decode (mC mX0_findFirsts) 72 = .ok (.irem, 1) := by decide +kernel
theorem dX0_findFirsts_73 : decode (mC mX0_findFirsts) 73 = .ok (.iadd, 1) := by decide +kernel
theorem dX0_findFirsts_74 : decode (mC mX0_findFirsts) 74 = .ok (.istore 4, 2) := by decide +kernel
theorem dX0_findFirsts_76 : decode (mC mX0_findFirsts) 76 = .ok (.iconst 1, 1) := by decide +kernel
theorem dX0_findFirsts_77 : decode (mC mX0_findFirsts) 77 = .ok (.aload_n 0, 1) := by decide +kernel
theorem dX0_findFirsts_78 : decode (mC mX0_findFirsts) 78 = .ok (.getfield 27, 3) := by decide +kernel
theorem dX0_findFirsts_81 : decode (mC mX0_findFirsts) 81 = .ok (.iload 4, 2) := by decide +kernel
theorem dX0_findFirsts_83 : decode (mC mX0_findFirsts) 83 = .ok (.invokestatic 52, 3) := by decide +kernel
theorem dX0_findFirsts_86 : decode (mC mX0_findFirsts) 86 = .ok (.iadd, 1) := by decide +kernel
theorem dX0_findFirsts_87 : decode (mC mX0_findFirsts) 87 = .ok (.aload_n 0, 1) := by decide +kernel
theorem dX0_findFirsts_88 : decode (mC mX0_findFirsts) 88 = .ok (.getfield 27, 3) := by decide +kernel
theorem dX0_findFirsts_91 : decode (mC mX0_findFirsts) 91 = .ok (.iload_n 3, 1) := by decide +kernel
theorem dX0_findFirsts_92 : decode (mC mX0_findFirsts) 92 = .ok (.invokestatic 52, 3) := by decide +kernel
theorem dX0_findFirsts_95 : decode (mC mX0_findFirsts) 95 = .ok (.if_icmp .ne 23, 3) := by decide +kernel
theorem dX0_findFirsts_98 : decode (mC mX0_findFirsts) 98 = .ok (.aload_n 0, 1) := by decide +kernel
theorem dX0_findFirsts_99 : decode (mC mX0_findFirsts) 99 = .ok (.getfield 30, 3) := by decide +kernel
theorem dX0_findFirsts_102 : decode (mC mX0_findFirsts) 102 = .ok (.iload_n 3, 1) := by decide +kernel
theorem dX0_findFirsts_103 : decode (mC mX0_findFirsts) 103 = .ok (.aload_n 0, 1) := by decide +kernel
theorem dX0_findFirsts_104 : decode (mC mX0_findFirsts) 104 = .ok (.getfield 30, 3) := by decide +kernel
theorem dX0_findFirsts_107 : decode (mC mX0_findFirsts) 107 = .ok (.iload_n 3, 1) := by decide +kernel
theorem dX0_findFirsts_108 : decode (mC mX0_findFirsts) 108 = .ok (.invokestatic 52, 3) := by decide +kernel
theorem dX0_findFirsts_111 : decode (mC mX0_findFirsts) 111 = .ok (.iconst 1, 1) := by decide +kernel
theorem dX0_findFirsts_112 : decode (mC mX0_findFirsts) 112 = .ok (.iload_n 2, 1) := by decide +kernel
theorem dX0_findFirsts_113 : decode (mC mX0_findFirsts) 113 = .ok (.ishl, 1) := by decide +kernel
theorem dX0_findFirsts_114 : decode (mC mX0_findFirsts) 114 = .ok (.ior, 1) := by decide +kernel
theorem dX0_findFirsts_115 : decode (mC mX0_findFirsts) 115 = .ok (.invokestatic 48, 3) := by decide +kernel
theorem dX0_findFirsts_118 : decode (mC mX0_findFirsts) 118 = .ok (.iinc 1 1, 3) := by decide +kernel
theorem dX0_findFirsts_121 : decode (mC mX0_findFirsts) 121 = .ok (.goto (-96), 3) := by decide +kernel
theorem dX0_findFirsts_124 : decode (mC mX0_findFirsts) 124 = .ok (.return_, 1) := by decide +kernel
theorem dX0_opensBy_0 : decode (mC mX0_opensBy) 0 = .ok (.aload_n 0, 1) := by decide +kernel
theorem dX0_opensBy_1 : decode (mC mX0_opensBy) 1 = .ok (.getfield 15, 3) := by decide +kernel
theorem dX0_opensBy_4 : decode (mC mX0_opensBy) 4 = .ok (.iload_n 1, 1) := by decide +kernel
theorem dX0_opensBy_5 : decode (mC mX0_opensBy) 5 = .ok (.invokestatic 52, 3) := by decide +kernel
theorem dX0_opensBy_8 : decode (mC mX0_opensBy) 8 = .ok (.istore 5, 2) := by decide +kernel
theorem dX0_opensBy_10 : decode (mC mX0_opensBy) 10 = .ok (.iconst 1, 1) := by decide +kernel
theorem dX0_opensBy_11 : decode (mC mX0_opensBy) 11 = .ok (.iload 5, 2) := by decide +kernel
theorem dX0_opensBy_13 : decode (mC mX0_opensBy) 13 = .ok (.iconst 3, 1) := by decide +kernel
theorem dX0_opensBy_14 : decode (mC mX0_opensBy) 14 = .ok (.idiv, 1) := by decide +kernel
theorem dX0_opensBy_15 : decode (mC mX0_opensBy) 15 = .ok (.iconst 2, 1) := by decide +kernel
theorem dX0_opensBy_16 : decode (mC mX0_opensBy) 16 = .ok (.iadd, 1) := by decide +kernel
theorem dX0_opensBy_17 : decode (mC mX0_opensBy) 17 = .ok (.invokestatic 63, 3) := by decide +kernel
theorem dX0_opensBy_20 : decode (mC mX0_opensBy) 20 = .ok (.istore 6, 2) := by decide +kernel
theorem dX0_opensBy_22 : decode (mC mX0_opensBy) 22 = .ok (.iload_n 3, 1) := by decide +kernel
theorem dX0_opensBy_23 : decode (mC mX0_opensBy) 23 = .ok (.iconst 1, 1) := by decide +kernel
theorem dX0_opensBy_24 : decode (mC mX0_opensBy) 24 = .ok (.if_icmp .lt 7, 3) := by decide +kernel
theorem dX0_opensBy_27 : decode (mC mX0_opensBy) 27 = .ok (.iconst 1, 1) := by decide +kernel
theorem dX0_opensBy_28 : decode (mC mX0_opensBy) 28 = .ok (.goto 4, 3) := by decide +kernel
theorem dX0_opensBy_31 : decode (mC mX0_opensBy) 31 = .ok (.iconst 0, 1) := by decide +kernel
theorem dX0_opensBy_32 : decode (mC mX0_opensBy) 32 = .ok (.istore 7, 2) := by decide +kernel
theorem dX0_opensBy_34 : decode (mC mX0_opensBy) 34 = .ok (.iload 7, 2) := by decide +kernel
theorem dX0_opensBy_36 : decode (mC mX0_opensBy) 36 = .ok (.ifCond .eq 14, 3) := by decide +kernel
theorem dX0_opensBy_39 : decode (mC mX0_opensBy) 39 = .ok (.iload_n 2, 1) := by decide +kernel
theorem dX0_opensBy_40 : decode (mC mX0_opensBy) 40 = .ok (.iload 6, 2) := by decide +kernel
theorem dX0_opensBy_42 : decode (mC mX0_opensBy) 42 = .ok (.irem, 1) := by decide +kernel
theorem dX0_opensBy_43 : decode (mC mX0_opensBy) 43 = .ok (.ifCond .ne 7, 3) := by decide +kernel
theorem dX0_opensBy_46 : decode (mC mX0_opensBy) 46 = .ok (.iconst 1, 1) := by decide +kernel
theorem dX0_opensBy_47 : decode (mC mX0_opensBy) 47 = .ok (.goto 4, 3) := by decide +kernel
theorem dX0_opensBy_50 : decode (mC mX0_opensBy) 50 = .ok (.iconst 0, 1) := by decide +kernel
theorem dX0_opensBy_51 : decode (mC mX0_opensBy) 51 = .ok (.istore 8, 2) := by decide +kernel
theorem dX0_opensBy_53 : decode (mC mX0_opensBy) 53 = .ok (.iload 7, 2) := by decide +kernel
theorem dX0_opensBy_55 : decode (mC mX0_opensBy) 55 = .ok (.ifCond .ne 10, 3) := by decide +kernel
theorem dX0_opensBy_58 : decode (mC mX0_opensBy) 58 = .ok (.iload_n 2, 1) := by decide +kernel
theorem dX0_opensBy_59 : decode (mC mX0_opensBy) 59 = .ok (.iconst 2, 1) := by decide +kernel
theorem dX0_opensBy_60 : decode (mC mX0_opensBy) 60 = .ok (.irem, 1) := by decide +kernel
theorem dX0_opensBy_61 : decode (mC mX0_opensBy) 61 = .ok (.iconst 1, 1) := by decide +kernel
theorem dX0_opensBy_62 : decode (mC mX0_opensBy) 62 = .ok (.if_icmp .ne 7, 3) := by decide +kernel
theorem dX0_opensBy_65 : decode (mC mX0_opensBy) 65 = .ok (.iconst 1, 1) := by decide +kernel
theorem dX0_opensBy_66 : decode (mC mX0_opensBy) 66 = .ok (.goto 4, 3) := by decide +kernel
theorem dX0_opensBy_69 : decode (mC mX0_opensBy) 69 = .ok (.iconst 0, 1) := by decide +kernel
theorem dX0_opensBy_70 : decode (mC mX0_opensBy) 70 = .ok (.istore 9, 2) := by decide +kernel
theorem dX0_opensBy_72 : decode (mC mX0_opensBy) 72 = .ok (.aload_n 0, 1) := by decide +kernel
theorem dX0_opensBy_73 : decode (mC mX0_opensBy) 73 = .ok (.getfield 9, 3) := by decide +kernel
theorem dX0_opensBy_76 : decode (mC mX0_opensBy) 76 = .ok (.iload_n 1, 1) := by decide +kernel
theorem dX0_opensBy_77 : decode (mC mX0_opensBy) 77 = .ok (.invokestatic 52, 3) := by decide +kernel
theorem dX0_opensBy_80 : decode (mC mX0_opensBy) 80 = .ok (.tableswitch 100 0 5 #[40, 43, 46, 64, 67, 84], 40) := by decide +kernel
theorem dX0_opensBy_120 : decode (mC mX0_opensBy) 120 = .ok (.iload 7, 2) := by decide +kernel
theorem dX0_opensBy_122 : decode (mC mX0_opensBy) 122 = .ok (.ireturn, 1) := by decide +kernel
theorem dX0_opensBy_123 : decode (mC mX0_opensBy) 123 = .ok (.iload 8, 2) := by decide +kernel
theorem dX0_opensBy_125 : decode (mC mX0_opensBy) 125 = .ok (.ireturn, 1) := by decide +kernel
theorem dX0_opensBy_126 : decode (mC mX0_opensBy) 126 = .ok (.iload 7, 2) := by decide +kernel
theorem dX0_opensBy_128 : decode (mC mX0_opensBy) 128 = .ok (.ifCond .eq 14, 3) := by decide +kernel
theorem dX0_opensBy_131 : decode (mC mX0_opensBy) 131 = .ok (.iload 4, 2) := by decide +kernel
theorem dX0_opensBy_133 : decode (mC mX0_opensBy) 133 = .ok (.iload 5, 2) := by decide +kernel
theorem dX0_opensBy_135 : decode (mC mX0_opensBy) 135 = .ok (.if_icmp .lt 7, 3) := by decide +kernel
theorem dX0_opensBy_138 : decode (mC mX0_opensBy) 138 = .ok (.iconst 1, 1) := by decide +kernel
theorem dX0_opensBy_139 : decode (mC mX0_opensBy) 139 = .ok (.goto 4, 3) := by decide +kernel
theorem dX0_opensBy_142 : decode (mC mX0_opensBy) 142 = .ok (.iconst 0, 1) := by decide +kernel
theorem dX0_opensBy_143 : decode (mC mX0_opensBy) 143 = .ok (.ireturn, 1) := by decide +kernel
theorem dX0_opensBy_144 : decode (mC mX0_opensBy) 144 = .ok (.iload 9, 2) := by decide +kernel
theorem dX0_opensBy_146 : decode (mC mX0_opensBy) 146 = .ok (.ireturn, 1) := by decide +kernel
theorem dX0_opensBy_147 : decode (mC mX0_opensBy) 147 = .ok (.iload 9, 2) := by decide +kernel
theorem dX0_opensBy_149 : decode (mC mX0_opensBy) 149 = .ok (.ifCond .ne 9, 3) := by decide +kernel
theorem dX0_opensBy_152 : decode (mC mX0_opensBy) 152 = .ok (.iload_n 2, 1) := by decide +kernel
theorem dX0_opensBy_153 : decode (mC mX0_opensBy) 153 = .ok (.iconst 2, 1) := by decide +kernel
theorem dX0_opensBy_154 : decode (mC mX0_opensBy) 154 = .ok (.irem, 1) := by decide +kernel
theorem dX0_opensBy_155 : decode (mC mX0_opensBy) 155 = .ok (.ifCond .ne 7, 3) := by decide +kernel
theorem dX0_opensBy_158 : decode (mC mX0_opensBy) 158 = .ok (.iconst 1, 1) := by decide +kernel
theorem dX0_opensBy_159 : decode (mC mX0_opensBy) 159 = .ok (.goto 4, 3) := by decide +kernel
theorem dX0_opensBy_162 : decode (mC mX0_opensBy) 162 = .ok (.iconst 0, 1) := by decide +kernel
theorem dX0_opensBy_163 : decode (mC mX0_opensBy) 163 = .ok (.ireturn, 1) := by decide +kernel
theorem dX0_opensBy_164 : decode (mC mX0_opensBy) 164 = .ok (.iload 8, 2) := by decide +kernel
theorem dX0_opensBy_166 : decode (mC mX0_opensBy) 166 = .ok (.ifCond .eq 12, 3) := by decide +kernel
theorem dX0_opensBy_169 : decode (mC mX0_opensBy) 169 = .ok (.iload_n 3, 1) := by decide +kernel
theorem dX0_opensBy_170 : decode (mC mX0_opensBy) 170 = .ok (.iconst 2, 1) := by decide +kernel
theorem dX0_opensBy_171 : decode (mC mX0_opensBy) 171 = .ok (.if_icmp .lt 7, 3) := by decide +kernel
theorem dX0_opensBy_174 : decode (mC mX0_opensBy) 174 = .ok (.iconst 1, 1) := by decide +kernel
theorem dX0_opensBy_175 : decode (mC mX0_opensBy) 175 = .ok (.goto 4, 3) := by decide +kernel
theorem dX0_opensBy_178 : decode (mC mX0_opensBy) 178 = .ok (.iconst 0, 1) := by decide +kernel
theorem dX0_opensBy_179 : decode (mC mX0_opensBy) 179 = .ok (.ireturn, 1) := by decide +kernel
theorem dX0_opensBy_180 : decode (mC mX0_opensBy) 180 = .ok (.iconst 0, 1) := by decide +kernel
theorem dX0_opensBy_181 : decode (mC mX0_opensBy) 181 = .ok (.ireturn, 1) := by decide +kernel
theorem dX1_init_0 : decode (mC mX1_init) 0 = .ok (.aload_n 0, 1) := by decide +kernel
theorem dX1_init_1 : decode (mC mX1_init) 1 = .ok (.invokespecial 3, 3) := by decide +kernel
theorem dX1_init_4 : decode (mC mX1_init) 4 = .ok (.aload_n 0, 1) := by decide +kernel
theorem dX1_init_5 : decode (mC mX1_init) 5 = .ok (.new 9, 3) := by decide +kernel
theorem dX1_init_8 : decode (mC mX1_init) 8 = .ok (.dup, 1) := by decide +kernel
theorem dX1_init_9 : decode (mC mX1_init) 9 = .ok (.bipush 96, 2) := by decide +kernel
theorem dX1_init_11 : decode (mC mX1_init) 11 = .ok (.invokespecial 11, 3) := by decide +kernel
theorem dX1_init_14 : decode (mC mX1_init) 14 = .ok (.putfield 14, 3) := by decide +kernel
theorem dX1_init_17 : decode (mC mX1_init) 17 = .ok (.return_, 1) := by decide +kernel
theorem dX1_lengthAt_0 : decode (mC mX1_lengthAt) 0 = .ok (.aload_n 0, 1) := by decide +kernel
theorem dX1_lengthAt_1 : decode (mC mX1_lengthAt) 1 = .ok (.getfield 14, 3) := by decide +kernel
theorem dX1_lengthAt_4 : decode (mC mX1_lengthAt) 4 = .ok (.getfield 20, 3) := by decide +kernel
theorem dX1_lengthAt_7 : decode (mC mX1_lengthAt) 7 = .ok (.iload_n 1, 1) := by decide +kernel
theorem dX1_lengthAt_8 : decode (mC mX1_lengthAt) 8 = .ok (.invokestatic 24, 3) := by decide +kernel
theorem dX1_lengthAt_11 : decode (mC mX1_lengthAt) 11 = .ok (.tableswitch 102 100 119 #[93, 102, 102, 98, 98, 102, 102, 102, 102, 102, 102, 102, 96, 102, 98, 102, 100, 102, 102, 100], 93) := by decide +kernel
theorem dX1_lengthAt_104 : decode (mC mX1_lengthAt) 104 = .ok (.bipush 6, 2) := by decide +kernel
theorem dX1_lengthAt_106 : decode (mC mX1_lengthAt) 106 = .ok (.ireturn, 1) := by decide +kernel
theorem dX1_lengthAt_107 : decode (mC mX1_lengthAt) 107 = .ok (.iconst 5, 1) := by decide +kernel
theorem dX1_lengthAt_108 : decode (mC mX1_lengthAt) 108 = .ok (.ireturn, 1) := by decide +kernel
theorem dX1_lengthAt_109 : decode (mC mX1_lengthAt) 109 = .ok (.iconst 4, 1) := by decide +kernel
theorem dX1_lengthAt_110 : decode (mC mX1_lengthAt) 110 = .ok (.ireturn, 1) := by decide +kernel
theorem dX1_lengthAt_111 : decode (mC mX1_lengthAt) 111 = .ok (.iconst 3, 1) := by decide +kernel
theorem dX1_lengthAt_112 : decode (mC mX1_lengthAt) 112 = .ok (.ireturn, 1) := by decide +kernel
theorem dX1_lengthAt_113 : decode (mC mX1_lengthAt) 113 = .ok (.iconst 0, 1) := by decide +kernel
theorem dX1_lengthAt_114 : decode (mC mX1_lengthAt) 114 = .ok (.ireturn, 1) := by decide +kernel
theorem dX1_shapeFault_0 : decode (mC mX1_shapeFault) 0 = .ok (.iconst 0, 1) := by decide +kernel
theorem dX1_shapeFault_1 : decode (mC mX1_shapeFault) 1 = .ok (.istore_n 1, 1) := by decide +kernel
theorem dX1_shapeFault_2 : decode (mC mX1_shapeFault) 2 = .ok (.iconst 0, 1) := by decide +kernel
theorem dX1_shapeFault_3 : decode (mC mX1_shapeFault) 3 = .ok (.istore_n 2, 1) := by decide +kernel
theorem dX1_shapeFault_4 : decode (mC mX1_shapeFault) 4 = .ok (.iload_n 2, 1) := by decide +kernel
theorem dX1_shapeFault_5 : decode (mC mX1_shapeFault) 5 = .ok (.aload_n 0, 1) := by decide +kernel
theorem dX1_shapeFault_6 : decode (mC mX1_shapeFault) 6 = .ok (.getfield 14, 3) := by decide +kernel
theorem dX1_shapeFault_9 : decode (mC mX1_shapeFault) 9 = .ok (.getfield 28, 3) := by decide +kernel
theorem dX1_shapeFault_12 : decode (mC mX1_shapeFault) 12 = .ok (.if_icmp .ge 37, 3) := by decide +kernel
theorem dX1_shapeFault_15 : decode (mC mX1_shapeFault) 15 = .ok (.aload_n 0, 1) := by decide +kernel
theorem dX1_shapeFault_16 : decode (mC mX1_shapeFault) 16 = .ok (.iload_n 1, 1) := by decide +kernel
theorem dX1_shapeFault_17 : decode (mC mX1_shapeFault) 17 = .ok (.iload_n 2, 1) := by decide +kernel
theorem dX1_shapeFault_18 : decode (mC mX1_shapeFault) 18 = .ok (.invokevirtual 32, 3) := by decide +kernel
theorem dX1_shapeFault_21 : decode (mC mX1_shapeFault) 21 = .ok (.ifCond .ne 5, 3) := by decide +kernel
theorem dX1_shapeFault_24 : decode (mC mX1_shapeFault) 24 = .ok (.iload_n 2, 1) := by decide +kernel
theorem dX1_shapeFault_25 : decode (mC mX1_shapeFault) 25 = .ok (.ireturn, 1) := by decide +kernel
theorem dX1_shapeFault_26 : decode (mC mX1_shapeFault) 26 = .ok (.iload_n 2, 1) := by decide +kernel
theorem dX1_shapeFault_27 : decode (mC mX1_shapeFault) 27 = .ok (.iload_n 1, 1) := by decide +kernel
theorem dX1_shapeFault_28 : decode (mC mX1_shapeFault) 28 = .ok (.isub, 1) := by decide +kernel
theorem dX1_shapeFault_29 : decode (mC mX1_shapeFault) 29 = .ok (.iconst 1, 1) := by decide +kernel
theorem dX1_shapeFault_30 : decode (mC mX1_shapeFault) 30 = .ok (.iadd, 1) := by decide +kernel
theorem dX1_shapeFault_31 : decode (mC mX1_shapeFault) 31 = .ok (.aload_n 0, 1) := by decide +kernel
theorem dX1_shapeFault_32 : decode (mC mX1_shapeFault) 32 = .ok (.iload_n 1, 1) := by decide +kernel
theorem dX1_shapeFault_33 : decode (mC mX1_shapeFault) 33 = .ok (.invokevirtual 36, 3) := by decide +kernel
theorem dX1_shapeFault_36 : decode (mC mX1_shapeFault) 36 = .ok (.if_icmp .ne 7, 3) := by decide +kernel
theorem dX1_shapeFault_39 : decode (mC mX1_shapeFault) 39 = .ok (.iload_n 2, 1) := by decide +kernel
theorem dX1_shapeFault_40 : decode (mC mX1_shapeFault) 40 = .ok (.iconst 1, 1) := by decide +kernel
theorem dX1_shapeFault_41 : decode (mC mX1_shapeFault) 41 = .ok (.iadd, 1) := by decide +kernel
theorem dX1_shapeFault_42 : decode (mC mX1_shapeFault) 42 = .ok (.istore_n 1, 1) := by decide +kernel
theorem dX1_shapeFault_43 : decode (mC mX1_shapeFault) 43 = .ok (.iinc 2 1, 3) := by decide +kernel
theorem dX1_shapeFault_46 : decode (mC mX1_shapeFault) 46 = .ok (.goto (-42), 3) := by decide +kernel
theorem dX1_shapeFault_49 : decode (mC mX1_shapeFault) 49 = .ok (.aload_n 0, 1) := by decide +kernel
theorem dX1_shapeFault_50 : decode (mC mX1_shapeFault) 50 = .ok (.getfield 14, 3) := by decide +kernel
theorem dX1_shapeFault_53 : decode (mC mX1_shapeFault) 53 = .ok (.getfield 28, 3) := by decide +kernel
theorem dX1_shapeFault_56 : decode (mC mX1_shapeFault) 56 = .ok (.ifCond .eq 14, 3) := by decide +kernel
theorem dX1_shapeFault_59 : decode (mC mX1_shapeFault) 59 = .ok (.iload_n 1, 1) := by decide +kernel
theorem dX1_shapeFault_60 : decode (mC mX1_shapeFault) 60 = .ok (.aload_n 0, 1) := by decide +kernel
theorem dX1_shapeFault_61 : decode (mC mX1_shapeFault) 61 = .ok (.getfield 14, 3) := by decide +kernel
theorem dX1_shapeFault_64 : decode (mC mX1_shapeFault) 64 = .ok (.getfield 28, 3) := by decide +kernel
theorem dX1_shapeFault_67 : decode (mC mX1_shapeFault) 67 = .ok (.if_icmp .ge 13, 3) := by decide +kernel
theorem dX1_shapeFault_70 : decode (mC mX1_shapeFault) 70 = .ok (.aload_n 0, 1) := by decide +kernel
theorem dX1_shapeFault_71 : decode (mC mX1_shapeFault) 71 = .ok (.getfield 14, 3) := by decide +kernel
theorem dX1_shapeFault_74 : decode (mC mX1_shapeFault) 74 = .ok (.getfield 28, 3) := by decide +kernel
theorem dX1_shapeFault_77 : decode (mC mX1_shapeFault) 77 = .ok (.goto 5, 3) := by decide +kernel
theorem dX1_shapeFault_80 : decode (mC mX1_shapeFault) 80 = .ok (.bipush (-9), 2) := by decide +kernel
theorem dX1_shapeFault_82 : decode (mC mX1_shapeFault) 82 = .ok (.ireturn, 1) := by decide +kernel
theorem dX1_fitsShape_0 : decode (mC mX1_fitsShape) 0 = .ok (.aload_n 0, 1) := by decide +kernel
theorem dX1_fitsShape_1 : decode (mC mX1_fitsShape) 1 = .ok (.iload_n 1, 1) := by decide +kernel
theorem dX1_fitsShape_2 : decode (mC mX1_fitsShape) 2 = .ok (.invokevirtual 36, 3) := by decide +kernel
theorem dX1_fitsShape_5 : decode (mC mX1_fitsShape) 5 = .ok (.istore_n 3, 1) := by decide +kernel
theorem dX1_fitsShape_6 : decode (mC mX1_fitsShape) 6 = .ok (.iload_n 2, 1) := by decide +kernel
theorem dX1_fitsShape_7 : decode (mC mX1_fitsShape) 7 = .ok (.iload_n 1, 1) := by decide +kernel
theorem dX1_fitsShape_8 : decode (mC mX1_fitsShape) 8 = .ok (.if_icmp .ne 13, 3) := by decide +kernel
theorem dX1_fitsShape_11 : decode (mC mX1_fitsShape) 11 = .ok (.iload_n 3, 1) := by decide +kernel
theorem dX1_fitsShape_12 : decode (mC mX1_fitsShape) 12 = .ok (.ifCond .le 7, 3) := by decide +kernel
theorem dX1_fitsShape_15 : decode (mC mX1_fitsShape) 15 = .ok (.iconst 1, 1) := by decide +kernel
theorem dX1_fitsShape_16 : decode (mC mX1_fitsShape) 16 = .ok (.goto 4, 3) := by decide +kernel
theorem dX1_fitsShape_19 : decode (mC mX1_fitsShape) 19 = .ok (.iconst 0, 1) := by decide +kernel
theorem dX1_fitsShape_20 : decode (mC mX1_fitsShape) 20 = .ok (.ireturn, 1) := by decide +kernel
theorem dX1_fitsShape_21 : decode (mC mX1_fitsShape) 21 = .ok (.aload_n 0, 1) := by decide +kernel
theorem dX1_fitsShape_22 : decode (mC mX1_fitsShape) 22 = .ok (.getfield 14, 3) := by decide +kernel
theorem dX1_fitsShape_25 : decode (mC mX1_fitsShape) 25 = .ok (.getfield 20, 3) := by decide +kernel
theorem dX1_fitsShape_28 : decode (mC mX1_fitsShape) 28 = .ok (.iload_n 2, 1) := by decide +kernel
theorem dX1_fitsShape_29 : decode (mC mX1_fitsShape) 29 = .ok (.invokestatic 24, 3) := by decide +kernel
theorem dX1_fitsShape_32 : decode (mC mX1_fitsShape) 32 = .ok (.istore 4, 2) := by decide +kernel
theorem dX1_fitsShape_34 : decode (mC mX1_fitsShape) 34 = .ok (.iload_n 2, 1) := by decide +kernel
theorem dX1_fitsShape_35 : decode (mC mX1_fitsShape) 35 = .ok (.iload_n 1, 1) := by decide +kernel
theorem dX1_fitsShape_36 : decode (mC mX1_fitsShape) 36 = .ok (.isub, 1) := by decide +kernel
theorem dX1_fitsShape_37 : decode (mC mX1_fitsShape) 37 = .ok (.iload_n 3, 1) := by decide +kernel
theorem dX1_fitsShape_38 : decode (mC mX1_fitsShape) 38 = .ok (.iconst 1, 1) := by decide +kernel
theorem dX1_fitsShape_39 : decode (mC mX1_fitsShape) 39 = .ok (.isub, 1) := by decide +kernel
theorem dX1_fitsShape_40 : decode (mC mX1_fitsShape) 40 = .ok (.if_icmp .ne 16, 3) := by decide +kernel
theorem dX1_fitsShape_43 : decode (mC mX1_fitsShape) 43 = .ok (.iload 4, 2) := by decide +kernel
theorem dX1_fitsShape_45 : decode (mC mX1_fitsShape) 45 = .ok (.bipush 59, 2) := by decide +kernel
theorem dX1_fitsShape_47 : decode (mC mX1_fitsShape) 47 = .ok (.if_icmp .ne 7, 3) := by decide +kernel
theorem dX1_fitsShape_50 : decode (mC mX1_fitsShape) 50 = .ok (.iconst 1, 1) := by decide +kernel
theorem dX1_fitsShape_51 : decode (mC mX1_fitsShape) 51 = .ok (.goto 4, 3) := by decide +kernel
theorem dX1_fitsShape_54 : decode (mC mX1_fitsShape) 54 = .ok (.iconst 0, 1) := by decide +kernel
theorem dX1_fitsShape_55 : decode (mC mX1_fitsShape) 55 = .ok (.ireturn, 1) := by decide +kernel
theorem dX1_fitsShape_56 : decode (mC mX1_fitsShape) 56 = .ok (.iload_n 2, 1) := by decide +kernel
theorem dX1_fitsShape_57 : decode (mC mX1_fitsShape) 57 = .ok (.iload_n 1, 1) := by decide +kernel
theorem dX1_fitsShape_58 : decode (mC mX1_fitsShape) 58 = .ok (.isub, 1) := by decide +kernel
theorem dX1_fitsShape_59 : decode (mC mX1_fitsShape) 59 = .ok (.iconst 1, 1) := by decide +kernel
theorem dX1_fitsShape_60 : decode (mC mX1_fitsShape) 60 = .ok (.if_icmp .ne 35, 3) := by decide +kernel
theorem dX1_fitsShape_63 : decode (mC mX1_fitsShape) 63 = .ok (.aload_n 0, 1) := by decide +kernel
theorem dX1_fitsShape_64 : decode (mC mX1_fitsShape) 64 = .ok (.getfield 14, 3) := by decide +kernel
theorem dX1_fitsShape_67 : decode (mC mX1_fitsShape) 67 = .ok (.getfield 20, 3) := by decide +kernel
theorem dX1_fitsShape_70 : decode (mC mX1_fitsShape) 70 = .ok (.iload_n 1, 1) := by decide +kernel
theorem dX1_fitsShape_71 : decode (mC mX1_fitsShape) 71 = .ok (.invokestatic 24, 3) := by decide +kernel
theorem dX1_fitsShape_74 : decode (mC mX1_fitsShape) 74 = .ok (.bipush 100, 2) := by decide +kernel
theorem dX1_fitsShape_76 : decode (mC mX1_fitsShape) 76 = .ok (.if_icmp .ne 19, 3) := by decide +kernel
theorem dX1_fitsShape_79 : decode (mC mX1_fitsShape) 79 = .ok (.iload 4, 2) := by decide +kernel
theorem dX1_fitsShape_81 : decode (mC mX1_fitsShape) 81 = .ok (.invokestatic 40, 3) := by decide +kernel
theorem dX1_fitsShape_84 : decode (mC mX1_fitsShape) 84 = .ok (.bipush (-9), 2) := by decide +kernel
theorem dX1_fitsShape_86 : decode (mC mX1_fitsShape) 86 = .ok (.if_icmp .eq 7, 3) := by decide +kernel
theorem dX1_fitsShape_89 : decode (mC mX1_fitsShape) 89 = .ok (.iconst 1, 1) := by decide +kernel
theorem dX1_fitsShape_90 : decode (mC mX1_fitsShape) 90 = .ok (.goto 4, 3) := by decide +kernel
theorem dX1_fitsShape_93 : decode (mC mX1_fitsShape) 93 = .ok (.iconst 0, 1) := by decide +kernel
theorem dX1_fitsShape_94 : decode (mC mX1_fitsShape) 94 = .ok (.ireturn, 1) := by decide +kernel
theorem dX1_fitsShape_95 : decode (mC mX1_fitsShape) 95 = .ok (.iload 4, 2) := by decide +kernel
theorem dX1_fitsShape_97 : decode (mC mX1_fitsShape) 97 = .ok (.bipush 48, 2) := by decide +kernel
theorem dX1_fitsShape_99 : decode (mC mX1_fitsShape) 99 = .ok (.if_icmp .lt 14, 3) := by decide +kernel
theorem dX1_fitsShape_102 : decode (mC mX1_fitsShape) 102 = .ok (.iload 4, 2) := by decide +kernel
theorem dX1_fitsShape_104 : decode (mC mX1_fitsShape) 104 = .ok (.bipush 57, 2) := by decide +kernel
theorem dX1_fitsShape_106 : decode (mC mX1_fitsShape) 106 = .ok (.if_icmp .gt 7, 3) := by decide +kernel
theorem dX1_fitsShape_109 : decode (mC mX1_fitsShape) 109 = .ok (.iconst 1, 1) := by decide +kernel
theorem dX1_fitsShape_110 : decode (mC mX1_fitsShape) 110 = .ok (.goto 4, 3) := by decide +kernel
theorem dX1_fitsShape_113 : decode (mC mX1_fitsShape) 113 = .ok (.iconst 0, 1) := by decide +kernel
theorem dX1_fitsShape_114 : decode (mC mX1_fitsShape) 114 = .ok (.ireturn, 1) := by decide +kernel
theorem dX1_kindOf_0 : decode (mC mX1_kindOf) 0 = .ok (.iload_n 0, 1) := by decide +kernel
theorem dX1_kindOf_1 : decode (mC mX1_kindOf) 1 = .ok (.tableswitch 99 98 115 #[97, 93, 99, 99, 99, 99, 99, 99, 99, 91, 99, 99, 99, 95, 87, 99, 99, 89], 87) := by decide +kernel
theorem dX1_kindOf_88 : decode (mC mX1_kindOf) 88 = .ok (.iconst 0, 1) := by decide +kernel
theorem dX1_kindOf_89 : decode (mC mX1_kindOf) 89 = .ok (.ireturn, 1) := by decide +kernel
theorem dX1_kindOf_90 : decode (mC mX1_kindOf) 90 = .ok (.iconst 1, 1) := by decide +kernel
theorem dX1_kindOf_91 : decode (mC mX1_kindOf) 91 = .ok (.ireturn, 1) := by decide +kernel
theorem dX1_kindOf_92 : decode (mC mX1_kindOf) 92 = .ok (.iconst 2, 1) := by decide +kernel
theorem dX1_kindOf_93 : decode (mC mX1_kindOf) 93 = .ok (.ireturn, 1) := by decide +kernel
theorem dX1_kindOf_94 : decode (mC mX1_kindOf) 94 = .ok (.iconst 3, 1) := by decide +kernel
theorem dX1_kindOf_95 : decode (mC mX1_kindOf) 95 = .ok (.ireturn, 1) := by decide +kernel
theorem dX1_kindOf_96 : decode (mC mX1_kindOf) 96 = .ok (.iconst 4, 1) := by decide +kernel
theorem dX1_kindOf_97 : decode (mC mX1_kindOf) 97 = .ok (.ireturn, 1) := by decide +kernel
theorem dX1_kindOf_98 : decode (mC mX1_kindOf) 98 = .ok (.iconst 5, 1) := by decide +kernel
theorem dX1_kindOf_99 : decode (mC mX1_kindOf) 99 = .ok (.ireturn, 1) := by decide +kernel
theorem dX1_kindOf_100 : decode (mC mX1_kindOf) 100 = .ok (.bipush (-9), 2) := by decide +kernel
theorem dX1_kindOf_102 : decode (mC mX1_kindOf) 102 = .ok (.ireturn, 1) := by decide +kernel
theorem dX1_digitAt_0 : decode (mC mX1_digitAt) 0 = .ok (.aload_n 0, 1) := by decide +kernel
theorem dX1_digitAt_1 : decode (mC mX1_digitAt) 1 = .ok (.getfield 14, 3) := by decide +kernel
theorem dX1_digitAt_4 : decode (mC mX1_digitAt) 4 = .ok (.getfield 20, 3) := by decide +kernel
theorem dX1_digitAt_7 : decode (mC mX1_digitAt) 7 = .ok (.iload_n 1, 1) := by decide +kernel
theorem dX1_digitAt_8 : decode (mC mX1_digitAt) 8 = .ok (.invokestatic 24, 3) := by decide +kernel
theorem dX1_digitAt_11 : decode (mC mX1_digitAt) 11 = .ok (.bipush 48, 2) := by decide +kernel
theorem dX1_digitAt_13 : decode (mC mX1_digitAt) 13 = .ok (.isub, 1) := by decide +kernel
theorem dX1_digitAt_14 : decode (mC mX1_digitAt) 14 = .ok (.ireturn, 1) := by decide +kernel
theorem dX1_tell_0 : decode (mC mX1_tell) 0 = .ok (.aload_n 0, 1) := by decide +kernel
theorem dX1_tell_1 : decode (mC mX1_tell) 1 = .ok (.iload_n 1, 1) := by decide +kernel
theorem dX1_tell_2 : decode (mC mX1_tell) 2 = .ok (.iconst 1, 1) := by decide +kernel
theorem dX1_tell_3 : decode (mC mX1_tell) 3 = .ok (.iadd, 1) := by decide +kernel
theorem dX1_tell_4 : decode (mC mX1_tell) 4 = .ok (.invokevirtual 43, 3) := by decide +kernel
theorem dX1_tell_7 : decode (mC mX1_tell) 7 = .ok (.istore_n 3, 1) := by decide +kernel
theorem dX1_tell_8 : decode (mC mX1_tell) 8 = .ok (.aload_n 0, 1) := by decide +kernel
theorem dX1_tell_9 : decode (mC mX1_tell) 9 = .ok (.iload_n 1, 1) := by decide +kernel
theorem dX1_tell_10 : decode (mC mX1_tell) 10 = .ok (.iconst 2, 1) := by decide +kernel
theorem dX1_tell_11 : decode (mC mX1_tell) 11 = .ok (.iadd, 1) := by decide +kernel
theorem dX1_tell_12 : decode (mC mX1_tell) 12 = .ok (.invokevirtual 43, 3) := by decide +kernel
theorem dX1_tell_15 : decode (mC mX1_tell) 15 = .ok (.istore 4, 2) := by decide +kernel
theorem dX1_tell_17 : decode (mC mX1_tell) 17 = .ok (.aload_n 0, 1) := by decide +kernel
theorem dX1_tell_18 : decode (mC mX1_tell) 18 = .ok (.iload_n 1, 1) := by decide +kernel
theorem dX1_tell_19 : decode (mC mX1_tell) 19 = .ok (.iconst 3, 1) := by decide +kernel
theorem dX1_tell_20 : decode (mC mX1_tell) 20 = .ok (.iadd, 1) := by decide +kernel
theorem dX1_tell_21 : decode (mC mX1_tell) 21 = .ok (.invokevirtual 43, 3) := by decide +kernel
theorem dX1_tell_24 : decode (mC mX1_tell) 24 = .ok (.istore 5, 2) := by decide +kernel
theorem dX1_tell_26 : decode (mC mX1_tell) 26 = .ok (.aload_n 0, 1) := by decide +kernel
theorem dX1_tell_27 : decode (mC mX1_tell) 27 = .ok (.getfield 14, 3) := by decide +kernel
theorem dX1_tell_30 : decode (mC mX1_tell) 30 = .ok (.getfield 20, 3) := by decide +kernel
theorem dX1_tell_33 : decode (mC mX1_tell) 33 = .ok (.iload_n 1, 1) := by decide +kernel
theorem dX1_tell_34 : decode (mC mX1_tell) 34 = .ok (.invokestatic 24, 3) := by decide +kernel
theorem dX1_tell_37 : decode (mC mX1_tell) 37 = .ok (.tableswitch 253 100 119 #[95, 253, 253, 140, 191, 253, 253, 253, 253, 253, 253, 253, 130, 253, 152, 253, 164, 253, 253, 164], 95) := by decide +kernel
theorem dX1_tell_132 : decode (mC mX1_tell) 132 = .ok (.aload_n 2, 1) := by decide +kernel
theorem dX1_tell_133 : decode (mC mX1_tell) 133 = .ok (.getfield 46, 3) := by decide +kernel
theorem dX1_tell_136 : decode (mC mX1_tell) 136 = .ok (.aload_n 0, 1) := by decide +kernel
theorem dX1_tell_137 : decode (mC mX1_tell) 137 = .ok (.getfield 14, 3) := by decide +kernel
theorem dX1_tell_140 : decode (mC mX1_tell) 140 = .ok (.getfield 20, 3) := by decide +kernel
theorem dX1_tell_143 : decode (mC mX1_tell) 143 = .ok (.iload_n 1, 1) := by decide +kernel
theorem dX1_tell_144 : decode (mC mX1_tell) 144 = .ok (.iconst 1, 1) := by decide +kernel
theorem dX1_tell_145 : decode (mC mX1_tell) 145 = .ok (.iadd, 1) := by decide +kernel
theorem dX1_tell_146 : decode (mC mX1_tell) 146 = .ok (.invokestatic 24, 3) := by decide +kernel
theorem dX1_tell_149 : decode (mC mX1_tell) 149 = .ok (.invokestatic 40, 3) := by decide +kernel
theorem dX1_tell_152 : decode (mC mX1_tell) 152 = .ok (.iload 4, 2) := by decide +kernel
theorem dX1_tell_154 : decode (mC mX1_tell) 154 = .ok (.iload 5, 2) := by decide +kernel
theorem dX1_tell_156 : decode (mC mX1_tell) 156 = .ok (.aload_n 0, 1) := by decide +kernel
theorem dX1_tell_157 : decode (mC mX1_tell) 157 = .ok (.iload_n 1, 1) := by decide +kernel
theorem dX1_tell_158 : decode (mC mX1_tell) 158 = .ok (.iconst 4, 1) := by decide +kernel
theorem dX1_tell_159 : decode (mC mX1_tell) 159 = .ok (.iadd, 1) := by decide +kernel
theorem dX1_tell_160 : decode (mC mX1_tell) 160 = .ok (.invokevirtual 43, 3) := by decide +kernel
theorem dX1_tell_163 : decode (mC mX1_tell) 163 = .ok (.invokevirtual 52, 3) := by decide +kernel
theorem dX1_tell_166 : decode (mC mX1_tell) 166 = .ok (.ireturn, 1) := by decide +kernel
theorem dX1_tell_167 : decode (mC mX1_tell) 167 = .ok (.aload_n 2, 1) := by decide +kernel
theorem dX1_tell_168 : decode (mC mX1_tell) 168 = .ok (.iload_n 3, 1) := by decide +kernel
theorem dX1_tell_169 : decode (mC mX1_tell) 169 = .ok (.iload 4, 2) := by decide +kernel
theorem dX1_tell_171 : decode (mC mX1_tell) 171 = .ok (.iload 5, 2) := by decide +kernel
theorem dX1_tell_173 : decode (mC mX1_tell) 173 = .ok (.invokestatic 58, 3) := by decide +kernel
theorem dX1_tell_176 : decode (mC mX1_tell) 176 = .ok (.ireturn, 1) := by decide +kernel
theorem dX1_tell_177 : decode (mC mX1_tell) 177 = .ok (.aload_n 2, 1) := by decide +kernel
theorem dX1_tell_178 : decode (mC mX1_tell) 178 = .ok (.aload_n 2, 1) := by decide +kernel
theorem dX1_tell_179 : decode (mC mX1_tell) 179 = .ok (.getfield 62, 3) := by decide +kernel
theorem dX1_tell_182 : decode (mC mX1_tell) 182 = .ok (.iload_n 3, 1) := by decide +kernel
theorem dX1_tell_183 : decode (mC mX1_tell) 183 = .ok (.iload 4, 2) := by decide +kernel
theorem dX1_tell_185 : decode (mC mX1_tell) 185 = .ok (.invokestatic 65, 3) := by decide +kernel
theorem dX1_tell_188 : decode (mC mX1_tell) 188 = .ok (.ireturn, 1) := by decide +kernel
theorem dX1_tell_189 : decode (mC mX1_tell) 189 = .ok (.aload_n 2, 1) := by decide +kernel
theorem dX1_tell_190 : decode (mC mX1_tell) 190 = .ok (.aload_n 2, 1) := by decide +kernel
theorem dX1_tell_191 : decode (mC mX1_tell) 191 = .ok (.getfield 69, 3) := by decide +kernel
theorem dX1_tell_194 : decode (mC mX1_tell) 194 = .ok (.iload_n 3, 1) := by decide +kernel
theorem dX1_tell_195 : decode (mC mX1_tell) 195 = .ok (.iload 4, 2) := by decide +kernel
theorem dX1_tell_197 : decode (mC mX1_tell) 197 = .ok (.invokestatic 65, 3) := by decide +kernel
theorem dX1_tell_200 : decode (mC mX1_tell) 200 = .ok (.ireturn, 1) := by decide +kernel
theorem dX1_tell_201 : decode (mC mX1_tell) 201 = .ok (.aload_n 2, 1) := by decide +kernel
theorem dX1_tell_202 : decode (mC mX1_tell) 202 = .ok (.iload_n 3, 1) := by decide +kernel
theorem dX1_tell_203 : decode (mC mX1_tell) 203 = .ok (.aload_n 0, 1) := by decide +kernel
theorem dX1_tell_204 : decode (mC mX1_tell) 204 = .ok (.getfield 14, 3) := by decide +kernel
theorem dX1_tell_207 : decode (mC mX1_tell) 207 = .ok (.getfield 20, 3) := by decide +kernel
theorem dX1_tell_210 : decode (mC mX1_tell) 210 = .ok (.iload_n 1, 1) := by decide +kernel
theorem dX1_tell_211 : decode (mC mX1_tell) 211 = .ok (.invokestatic 24, 3) := by decide +kernel
theorem dX1_tell_214 : decode (mC mX1_tell) 214 = .ok (.bipush 116, 2) := by decide +kernel
theorem dX1_tell_216 : decode (mC mX1_tell) 216 = .ok (.if_icmp .ne 7, 3) := by decide +kernel
theorem dX1_tell_219 : decode (mC mX1_tell) 219 = .ok (.iconst 1, 1) := by decide +kernel
theorem dX1_tell_220 : decode (mC mX1_tell) 220 = .ok (.goto 4, 3) := by decide +kernel
theorem dX1_tell_223 : decode (mC mX1_tell) 223 = .ok (.iconst 0, 1) := by decide +kernel
theorem dX1_tell_224 : decode (mC mX1_tell) 224 = .ok (.invokestatic 72, 3) := by decide +kernel
theorem dX1_tell_227 : decode (mC mX1_tell) 227 = .ok (.ireturn, 1) := by decide +kernel
theorem dX1_tell_228 : decode (mC mX1_tell) 228 = .ok (.bipush 10, 2) := by decide +kernel
theorem dX1_tell_230 : decode (mC mX1_tell) 230 = .ok (.iload_n 3, 1) := by decide +kernel
theorem dX1_tell_231 : decode (mC mX1_tell) 231 = .ok (.imul, 1) := by decide +kernel
theorem dX1_tell_232 : decode (mC mX1_tell) 232 = .ok (.iload 4, 2) := by decide +kernel
theorem dX1_tell_234 : decode (mC mX1_tell) 234 = .ok (.iadd, 1) := by decide +kernel
theorem dX1_tell_235 : decode (mC mX1_tell) 235 = .ok (.istore 6, 2) := by decide +kernel
theorem dX1_tell_237 : decode (mC mX1_tell) 237 = .ok (.iload 6, 2) := by decide +kernel
theorem dX1_tell_239 : decode (mC mX1_tell) 239 = .ok (.iconst 1, 1) := by decide +kernel
theorem dX1_tell_240 : decode (mC mX1_tell) 240 = .ok (.if_icmp .lt 27, 3) := by decide +kernel
theorem dX1_tell_243 : decode (mC mX1_tell) 243 = .ok (.iload 6, 2) := by decide +kernel
theorem dX1_tell_245 : decode (mC mX1_tell) 245 = .ok (.bipush 60, 2) := by decide +kernel
theorem dX1_tell_247 : decode (mC mX1_tell) 247 = .ok (.if_icmp .gt 20, 3) := by decide +kernel
theorem dX1_tell_250 : decode (mC mX1_tell) 250 = .ok (.aload_n 2, 1) := by decide +kernel
theorem dX1_tell_251 : decode (mC mX1_tell) 251 = .ok (.getfield 76, 3) := by decide +kernel
theorem dX1_tell_254 : decode (mC mX1_tell) 254 = .ok (.iload 6, 2) := by decide +kernel
theorem dX1_tell_256 : decode (mC mX1_tell) 256 = .ok (.iadd, 1) := by decide +kernel
theorem dX1_tell_257 : decode (mC mX1_tell) 257 = .ok (.sipush 999, 3) := by decide +kernel
theorem dX1_tell_260 : decode (mC mX1_tell) 260 = .ok (.if_icmp .gt 7, 3) := by decide +kernel
theorem dX1_tell_263 : decode (mC mX1_tell) 263 = .ok (.iconst 1, 1) := by decide +kernel
theorem dX1_tell_264 : decode (mC mX1_tell) 264 = .ok (.goto 4, 3) := by decide +kernel
theorem dX1_tell_267 : decode (mC mX1_tell) 267 = .ok (.iconst 0, 1) := by decide +kernel
theorem dX1_tell_268 : decode (mC mX1_tell) 268 = .ok (.istore 7, 2) := by decide +kernel
theorem dX1_tell_270 : decode (mC mX1_tell) 270 = .ok (.aload_n 2, 1) := by decide +kernel
theorem dX1_tell_271 : decode (mC mX1_tell) 271 = .ok (.iload 7, 2) := by decide +kernel
theorem dX1_tell_273 : decode (mC mX1_tell) 273 = .ok (.ifCond .eq 8, 3) := by decide +kernel
theorem dX1_tell_276 : decode (mC mX1_tell) 276 = .ok (.iload 6, 2) := by decide +kernel
theorem dX1_tell_278 : decode (mC mX1_tell) 278 = .ok (.goto 4, 3) := by decide +kernel
theorem dX1_tell_281 : decode (mC mX1_tell) 281 = .ok (.iconst 0, 1) := by decide +kernel
theorem dX1_tell_282 : decode (mC mX1_tell) 282 = .ok (.iconst 0, 1) := by decide +kernel
theorem dX1_tell_283 : decode (mC mX1_tell) 283 = .ok (.invokevirtual 79, 3) := by decide +kernel
theorem dX1_tell_286 : decode (mC mX1_tell) 286 = .ok (.pop, 1) := by decide +kernel
theorem dX1_tell_287 : decode (mC mX1_tell) 287 = .ok (.iload 7, 2) := by decide +kernel
theorem dX1_tell_289 : decode (mC mX1_tell) 289 = .ok (.ireturn, 1) := by decide +kernel
theorem dX1_tell_290 : decode (mC mX1_tell) 290 = .ok (.iconst 0, 1) := by decide +kernel
theorem dX1_tell_291 : decode (mC mX1_tell) 291 = .ok (.ireturn, 1) := by decide +kernel
theorem dX1_tellPerson_0 : decode (mC mX1_tellPerson) 0 = .ok (.aload_n 0, 1) := by decide +kernel
theorem dX1_tellPerson_1 : decode (mC mX1_tellPerson) 1 = .ok (.getfield 83, 3) := by decide +kernel
theorem dX1_tellPerson_4 : decode (mC mX1_tellPerson) 4 = .ok (.bipush 6, 2) := by decide +kernel
theorem dX1_tellPerson_6 : decode (mC mX1_tellPerson) 6 = .ok (.if_icmp .ge 17, 3) := by decide +kernel
theorem dX1_tellPerson_9 : decode (mC mX1_tellPerson) 9 = .ok (.iload_n 1, 1) := by decide +kernel
theorem dX1_tellPerson_10 : decode (mC mX1_tellPerson) 10 = .ok (.invokestatic 84, 3) := by decide +kernel
theorem dX1_tellPerson_13 : decode (mC mX1_tellPerson) 13 = .ok (.ifCond .eq 10, 3) := by decide +kernel
theorem dX1_tellPerson_16 : decode (mC mX1_tellPerson) 16 = .ok (.iload_n 2, 1) := by decide +kernel
theorem dX1_tellPerson_17 : decode (mC mX1_tellPerson) 17 = .ok (.invokestatic 84, 3) := by decide +kernel
theorem dX1_tellPerson_20 : decode (mC mX1_tellPerson) 20 = .ok (.ifCond .ne 5, 3) := by decide +kernel
theorem dX1_tellPerson_23 : decode (mC mX1_tellPerson) 23 = .ok (.iconst 0, 1) := by decide +kernel
theorem dX1_tellPerson_24 : decode (mC mX1_tellPerson) 24 = .ok (.ireturn, 1) := by decide +kernel
theorem dX1_tellPerson_25 : decode (mC mX1_tellPerson) 25 = .ok (.aload_n 0, 1) := by decide +kernel
theorem dX1_tellPerson_26 : decode (mC mX1_tellPerson) 26 = .ok (.iload_n 1, 1) := by decide +kernel
theorem dX1_tellPerson_27 : decode (mC mX1_tellPerson) 27 = .ok (.iload_n 2, 1) := by decide +kernel
theorem dX1_tellPerson_28 : decode (mC mX1_tellPerson) 28 = .ok (.iload_n 3, 1) := by decide +kernel
theorem dX1_tellPerson_29 : decode (mC mX1_tellPerson) 29 = .ok (.invokevirtual 88, 3) := by decide +kernel
theorem dX1_tellPerson_32 : decode (mC mX1_tellPerson) 32 = .ok (.iconst 1, 1) := by decide +kernel
theorem dX1_tellPerson_33 : decode (mC mX1_tellPerson) 33 = .ok (.ireturn, 1) := by decide +kernel
theorem dX1_tellRoom_0 : decode (mC mX1_tellRoom) 0 = .ok (.aload_n 0, 1) := by decide +kernel
theorem dX1_tellRoom_1 : decode (mC mX1_tellRoom) 1 = .ok (.iload_n 2, 1) := by decide +kernel
theorem dX1_tellRoom_2 : decode (mC mX1_tellRoom) 2 = .ok (.invokevirtual 92, 3) := by decide +kernel
theorem dX1_tellRoom_5 : decode (mC mX1_tellRoom) 5 = .ok (.ifCond .eq 10, 3) := by decide +kernel
theorem dX1_tellRoom_8 : decode (mC mX1_tellRoom) 8 = .ok (.iload_n 3, 1) := by decide +kernel
theorem dX1_tellRoom_9 : decode (mC mX1_tellRoom) 9 = .ok (.invokestatic 84, 3) := by decide +kernel
theorem dX1_tellRoom_12 : decode (mC mX1_tellRoom) 12 = .ok (.ifCond .ne 5, 3) := by decide +kernel
theorem dX1_tellRoom_15 : decode (mC mX1_tellRoom) 15 = .ok (.iconst 0, 1) := by decide +kernel
theorem dX1_tellRoom_16 : decode (mC mX1_tellRoom) 16 = .ok (.ireturn, 1) := by decide +kernel
theorem dX1_tellRoom_17 : decode (mC mX1_tellRoom) 17 = .ok (.aload_n 1, 1) := by decide +kernel
theorem dX1_tellRoom_18 : decode (mC mX1_tellRoom) 18 = .ok (.iload_n 2, 1) := by decide +kernel
theorem dX1_tellRoom_19 : decode (mC mX1_tellRoom) 19 = .ok (.iload_n 3, 1) := by decide +kernel
theorem dX1_tellRoom_20 : decode (mC mX1_tellRoom) 20 = .ok (.invokestatic 95, 3) := by decide +kernel
theorem dX1_tellRoom_23 : decode (mC mX1_tellRoom) 23 = .ok (.iconst 1, 1) := by decide +kernel
theorem dX1_tellRoom_24 : decode (mC mX1_tellRoom) 24 = .ok (.ireturn, 1) := by decide +kernel
theorem dX1_tellDoor_0 : decode (mC mX1_tellDoor) 0 = .ok (.aload_n 0, 1) := by decide +kernel
theorem dX1_tellDoor_1 : decode (mC mX1_tellDoor) 1 = .ok (.getfield 46, 3) := by decide +kernel
theorem dX1_tellDoor_4 : decode (mC mX1_tellDoor) 4 = .ok (.iload_n 1, 1) := by decide +kernel
theorem dX1_tellDoor_5 : decode (mC mX1_tellDoor) 5 = .ok (.invokevirtual 99, 3) := by decide +kernel
theorem dX1_tellDoor_8 : decode (mC mX1_tellDoor) 8 = .ok (.ifCond .ne 5, 3) := by decide +kernel
theorem dX1_tellDoor_11 : decode (mC mX1_tellDoor) 11 = .ok (.iconst 0, 1) := by decide +kernel
theorem dX1_tellDoor_12 : decode (mC mX1_tellDoor) 12 = .ok (.ireturn, 1) := by decide +kernel
theorem dX1_tellDoor_13 : decode (mC mX1_tellDoor) 13 = .ok (.iload_n 2, 1) := by decide +kernel
theorem dX1_tellDoor_14 : decode (mC mX1_tellDoor) 14 = .ok (.ifCond .eq 15, 3) := by decide +kernel
theorem dX1_tellDoor_17 : decode (mC mX1_tellDoor) 17 = .ok (.aload_n 0, 1) := by decide +kernel
theorem dX1_tellDoor_18 : decode (mC mX1_tellDoor) 18 = .ok (.getfield 46, 3) := by decide +kernel
theorem dX1_tellDoor_21 : decode (mC mX1_tellDoor) 21 = .ok (.iload_n 1, 1) := by decide +kernel
theorem dX1_tellDoor_22 : decode (mC mX1_tellDoor) 22 = .ok (.invokevirtual 100, 3) := by decide +kernel
theorem dX1_tellDoor_25 : decode (mC mX1_tellDoor) 25 = .ok (.pop, 1) := by decide +kernel
theorem dX1_tellDoor_26 : decode (mC mX1_tellDoor) 26 = .ok (.goto 12, 3) := by decide +kernel
theorem dX1_tellDoor_29 : decode (mC mX1_tellDoor) 29 = .ok (.aload_n 0, 1) := by decide +kernel
theorem dX1_tellDoor_30 : decode (mC mX1_tellDoor) 30 = .ok (.getfield 46, 3) := by decide +kernel
theorem dX1_tellDoor_33 : decode (mC mX1_tellDoor) 33 = .ok (.iload_n 1, 1) := by decide +kernel
theorem dX1_tellDoor_34 : decode (mC mX1_tellDoor) 34 = .ok (.invokevirtual 103, 3) := by decide +kernel
theorem dX1_tellDoor_37 : decode (mC mX1_tellDoor) 37 = .ok (.pop, 1) := by decide +kernel
theorem dX1_tellDoor_38 : decode (mC mX1_tellDoor) 38 = .ok (.iconst 1, 1) := by decide +kernel
theorem dX1_tellDoor_39 : decode (mC mX1_tellDoor) 39 = .ok (.ireturn, 1) := by decide +kernel
theorem dX2_init_0 : decode (mC mX2_init) 0 = .ok (.aload_n 0, 1) := by decide +kernel
theorem dX2_init_1 : decode (mC mX2_init) 1 = .ok (.invokespecial 1, 3) := by decide +kernel
theorem dX2_init_4 : decode (mC mX2_init) 4 = .ok (.aload_n 0, 1) := by decide +kernel
theorem dX2_init_5 : decode (mC mX2_init) 5 = .ok (.iconst 0, 1) := by decide +kernel
theorem dX2_init_6 : decode (mC mX2_init) 6 = .ok (.iload_n 1, 1) := by decide +kernel
theorem dX2_init_7 : decode (mC mX2_init) 7 = .ok (.invokestatic 7, 3) := by decide +kernel
theorem dX2_init_10 : decode (mC mX2_init) 10 = .ok (.newarray .int, 2) := by decide +kernel
theorem dX2_init_12 : decode (mC mX2_init) 12 = .ok (.putfield 13, 3) := by decide +kernel
theorem dX2_init_15 : decode (mC mX2_init) 15 = .ok (.return_, 1) := by decide +kernel
theorem dX2_isFull_0 : decode (mC mX2_isFull) 0 = .ok (.aload_n 0, 1) := by decide +kernel
theorem dX2_isFull_1 : decode (mC mX2_isFull) 1 = .ok (.getfield 19, 3) := by decide +kernel
theorem dX2_isFull_4 : decode (mC mX2_isFull) 4 = .ok (.aload_n 0, 1) := by decide +kernel
theorem dX2_isFull_5 : decode (mC mX2_isFull) 5 = .ok (.getfield 13, 3) := by decide +kernel
theorem dX2_isFull_8 : decode (mC mX2_isFull) 8 = .ok (.arraylength, 1) := by decide +kernel
theorem dX2_isFull_9 : decode (mC mX2_isFull) 9 = .ok (.if_icmp .lt 7, 3) := by decide +kernel
theorem dX2_isFull_12 : decode (mC mX2_isFull) 12 = .ok (.iconst 1, 1) := by decide +kernel
theorem dX2_isFull_13 : decode (mC mX2_isFull) 13 = .ok (.goto 4, 3) := by decide +kernel
theorem dX2_isFull_16 : decode (mC mX2_isFull) 16 = .ok (.iconst 0, 1) := by decide +kernel
theorem dX2_isFull_17 : decode (mC mX2_isFull) 17 = .ok (.ireturn, 1) := by decide +kernel
theorem dX2_add_0 : decode (mC mX2_add) 0 = .ok (.aload_n 0, 1) := by decide +kernel
theorem dX2_add_1 : decode (mC mX2_add) 1 = .ok (.invokevirtual 23, 3) := by decide +kernel
theorem dX2_add_4 : decode (mC mX2_add) 4 = .ok (.ifCond .ne 25, 3) := by decide +kernel
theorem dX2_add_7 : decode (mC mX2_add) 7 = .ok (.aload_n 0, 1) := by decide +kernel
theorem dX2_add_8 : decode (mC mX2_add) 8 = .ok (.getfield 13, 3) := by decide +kernel
theorem dX2_add_11 : decode (mC mX2_add) 11 = .ok (.aload_n 0, 1) := by decide +kernel
theorem dX2_add_12 : decode (mC mX2_add) 12 = .ok (.getfield 19, 3) := by decide +kernel
theorem dX2_add_15 : decode (mC mX2_add) 15 = .ok (.iload_n 1, 1) := by decide +kernel
theorem dX2_add_16 : decode (mC mX2_add) 16 = .ok (.invokestatic 27, 3) := by decide +kernel
theorem dX2_add_19 : decode (mC mX2_add) 19 = .ok (.aload_n 0, 1) := by decide +kernel
theorem dX2_add_20 : decode (mC mX2_add) 20 = .ok (.dup, 1) := by decide +kernel
theorem dX2_add_21 : decode (mC mX2_add) 21 = .ok (.getfield 19, 3) := by decide +kernel
theorem dX2_add_24 : decode (mC mX2_add) 24 = .ok (.iconst 1, 1) := by decide +kernel
theorem dX2_add_25 : decode (mC mX2_add) 25 = .ok (.iadd, 1) := by decide +kernel
theorem dX2_add_26 : decode (mC mX2_add) 26 = .ok (.putfield 19, 3) := by decide +kernel
theorem dX2_add_29 : decode (mC mX2_add) 29 = .ok (.aload_n 0, 1) := by decide +kernel
theorem dX2_add_30 : decode (mC mX2_add) 30 = .ok (.getfield 19, 3) := by decide +kernel
theorem dX2_add_33 : decode (mC mX2_add) 33 = .ok (.ireturn, 1) := by decide +kernel
theorem dX2_empty_0 : decode (mC mX2_empty) 0 = .ok (.aload_n 0, 1) := by decide +kernel
theorem dX2_empty_1 : decode (mC mX2_empty) 1 = .ok (.getfield 19, 3) := by decide +kernel
theorem dX2_empty_4 : decode (mC mX2_empty) 4 = .ok (.istore_n 1, 1) := by decide +kernel
theorem dX2_empty_5 : decode (mC mX2_empty) 5 = .ok (.aload_n 0, 1) := by decide +kernel
theorem dX2_empty_6 : decode (mC mX2_empty) 6 = .ok (.iconst 0, 1) := by decide +kernel
theorem dX2_empty_7 : decode (mC mX2_empty) 7 = .ok (.putfield 19, 3) := by decide +kernel
theorem dX2_empty_10 : decode (mC mX2_empty) 10 = .ok (.iload_n 1, 1) := by decide +kernel
theorem dX2_empty_11 : decode (mC mX2_empty) 11 = .ok (.ireturn, 1) := by decide +kernel
theorem dX3_init_0 : decode (mC mX3_init) 0 = .ok (.aload_n 0, 1) := by decide +kernel
theorem dX3_init_1 : decode (mC mX3_init) 1 = .ok (.invokespecial 3, 3) := by decide +kernel
theorem dX3_init_4 : decode (mC mX3_init) 4 = .ok (.aload_n 0, 1) := by decide +kernel
theorem dX3_init_5 : decode (mC mX3_init) 5 = .ok (.new 9, 3) := by decide +kernel
theorem dX3_init_8 : decode (mC mX3_init) 8 = .ok (.dup, 1) := by decide +kernel
theorem dX3_init_9 : decode (mC mX3_init) 9 = .ok (.invokespecial 11, 3) := by decide +kernel
theorem dX3_init_12 : decode (mC mX3_init) 12 = .ok (.putfield 12, 3) := by decide +kernel
theorem dX3_init_15 : decode (mC mX3_init) 15 = .ok (.aload_n 0, 1) := by decide +kernel
theorem dX3_init_16 : decode (mC mX3_init) 16 = .ok (.bipush 7, 2) := by decide +kernel
theorem dX3_init_18 : decode (mC mX3_init) 18 = .ok (.newarray .int, 2) := by decide +kernel
theorem dX3_init_20 : decode (mC mX3_init) 20 = .ok (.putfield 18, 3) := by decide +kernel
theorem dX3_init_23 : decode (mC mX3_init) 23 = .ok (.aload_n 0, 1) := by decide +kernel
theorem dX3_init_24 : decode (mC mX3_init) 24 = .ok (.bipush 7, 2) := by decide +kernel
theorem dX3_init_26 : decode (mC mX3_init) 26 = .ok (.newarray .int, 2) := by decide +kernel
theorem dX3_init_28 : decode (mC mX3_init) 28 = .ok (.putfield 22, 3) := by decide +kernel
theorem dX3_init_31 : decode (mC mX3_init) 31 = .ok (.aload_n 0, 1) := by decide +kernel
theorem dX3_init_32 : decode (mC mX3_init) 32 = .ok (.bipush 7, 2) := by decide +kernel
theorem dX3_init_34 : decode (mC mX3_init) 34 = .ok (.newarray .int, 2) := by decide +kernel
theorem dX3_init_36 : decode (mC mX3_init) 36 = .ok (.putfield 25, 3) := by decide +kernel
theorem dX3_init_39 : decode (mC mX3_init) 39 = .ok (.return_, 1) := by decide +kernel
theorem dX3_become_0 : decode (mC mX3_become) 0 = .ok (.aload_n 0, 1) := by decide +kernel
theorem dX3_become_1 : decode (mC mX3_become) 1 = .ok (.getfield 12, 3) := by decide +kernel
theorem dX3_become_4 : decode (mC mX3_become) 4 = .ok (.aload_n 1, 1) := by decide +kernel
theorem dX3_become_5 : decode (mC mX3_become) 5 = .ok (.getfield 12, 3) := by decide +kernel
theorem dX3_become_8 : decode (mC mX3_become) 8 = .ok (.invokevirtual 28, 3) := by decide +kernel
theorem dX3_become_11 : decode (mC mX3_become) 11 = .ok (.aload_n 1, 1) := by decide +kernel
theorem dX3_become_12 : decode (mC mX3_become) 12 = .ok (.getfield 18, 3) := by decide +kernel
theorem dX3_become_15 : decode (mC mX3_become) 15 = .ok (.aload_n 0, 1) := by decide +kernel
theorem dX3_become_16 : decode (mC mX3_become) 16 = .ok (.getfield 18, 3) := by decide +kernel
theorem dX3_become_19 : decode (mC mX3_become) 19 = .ok (.invokestatic 32, 3) := by decide +kernel
theorem dX3_become_22 : decode (mC mX3_become) 22 = .ok (.aload_n 1, 1) := by decide +kernel
theorem dX3_become_23 : decode (mC mX3_become) 23 = .ok (.getfield 22, 3) := by decide +kernel
theorem dX3_become_26 : decode (mC mX3_become) 26 = .ok (.aload_n 0, 1) := by decide +kernel
theorem dX3_become_27 : decode (mC mX3_become) 27 = .ok (.getfield 22, 3) := by decide +kernel
theorem dX3_become_30 : decode (mC mX3_become) 30 = .ok (.invokestatic 32, 3) := by decide +kernel
theorem dX3_become_33 : decode (mC mX3_become) 33 = .ok (.aload_n 1, 1) := by decide +kernel
theorem dX3_become_34 : decode (mC mX3_become) 34 = .ok (.getfield 25, 3) := by decide +kernel
theorem dX3_become_37 : decode (mC mX3_become) 37 = .ok (.aload_n 0, 1) := by decide +kernel
theorem dX3_become_38 : decode (mC mX3_become) 38 = .ok (.getfield 25, 3) := by decide +kernel
theorem dX3_become_41 : decode (mC mX3_become) 41 = .ok (.invokestatic 32, 3) := by decide +kernel
theorem dX3_become_44 : decode (mC mX3_become) 44 = .ok (.aload_n 0, 1) := by decide +kernel
theorem dX3_become_45 : decode (mC mX3_become) 45 = .ok (.aload_n 1, 1) := by decide +kernel
theorem dX3_become_46 : decode (mC mX3_become) 46 = .ok (.getfield 36, 3) := by decide +kernel
theorem dX3_become_49 : decode (mC mX3_become) 49 = .ok (.putfield 36, 3) := by decide +kernel
theorem dX3_become_52 : decode (mC mX3_become) 52 = .ok (.aload_n 0, 1) := by decide +kernel
theorem dX3_become_53 : decode (mC mX3_become) 53 = .ok (.aload_n 1, 1) := by decide +kernel
theorem dX3_become_54 : decode (mC mX3_become) 54 = .ok (.getfield 40, 3) := by decide +kernel
theorem dX3_become_57 : decode (mC mX3_become) 57 = .ok (.putfield 40, 3) := by decide +kernel
theorem dX3_become_60 : decode (mC mX3_become) 60 = .ok (.aload_n 0, 1) := by decide +kernel
theorem dX3_become_61 : decode (mC mX3_become) 61 = .ok (.aload_n 1, 1) := by decide +kernel
theorem dX3_become_62 : decode (mC mX3_become) 62 = .ok (.getfield 43, 3) := by decide +kernel
theorem dX3_become_65 : decode (mC mX3_become) 65 = .ok (.putfield 43, 3) := by decide +kernel
theorem dX3_become_68 : decode (mC mX3_become) 68 = .ok (.return_, 1) := by decide +kernel
theorem dX3_has_0 : decode (mC mX3_has) 0 = .ok (.iload_n 1, 1) := by decide +kernel
theorem dX3_has_1 : decode (mC mX3_has) 1 = .ok (.ifCond .lt 15, 3) := by decide +kernel
theorem dX3_has_4 : decode (mC mX3_has) 4 = .ok (.iload_n 1, 1) := by decide +kernel
theorem dX3_has_5 : decode (mC mX3_has) 5 = .ok (.aload_n 0, 1) := by decide +kernel
theorem dX3_has_6 : decode (mC mX3_has) 6 = .ok (.getfield 36, 3) := by decide +kernel
theorem dX3_has_9 : decode (mC mX3_has) 9 = .ok (.if_icmp .ge 7, 3) := by decide +kernel
theorem dX3_has_12 : decode (mC mX3_has) 12 = .ok (.iconst 1, 1) := by decide +kernel
theorem dX3_has_13 : decode (mC mX3_has) 13 = .ok (.goto 4, 3) := by decide +kernel
theorem dX3_has_16 : decode (mC mX3_has) 16 = .ok (.iconst 0, 1) := by decide +kernel
theorem dX3_has_17 : decode (mC mX3_has) 17 = .ok (.ireturn, 1) := by decide +kernel
theorem dX3_isHome_0 : decode (mC mX3_isHome) 0 = .ok (.aload_n 0, 1) := by decide +kernel
theorem dX3_isHome_1 : decode (mC mX3_isHome) 1 = .ok (.getfield 18, 3) := by decide +kernel
theorem dX3_isHome_4 : decode (mC mX3_isHome) 4 = .ok (.iload_n 1, 1) := by decide +kernel
theorem dX3_isHome_5 : decode (mC mX3_isHome) 5 = .ok (.invokestatic 46, 3) := by decide +kernel
theorem dX3_isHome_8 : decode (mC mX3_isHome) 8 = .ok (.aload_n 0, 1) := by decide +kernel
theorem dX3_isHome_9 : decode (mC mX3_isHome) 9 = .ok (.getfield 22, 3) := by decide +kernel
theorem dX3_isHome_12 : decode (mC mX3_isHome) 12 = .ok (.iload_n 1, 1) := by decide +kernel
theorem dX3_isHome_13 : decode (mC mX3_isHome) 13 = .ok (.invokestatic 46, 3) := by decide +kernel
theorem dX3_isHome_16 : decode (mC mX3_isHome) 16 = .ok (.if_icmp .ne 7, 3) := by decide +kernel
theorem dX3_isHome_19 : decode (mC mX3_isHome) 19 = .ok (.iconst 1, 1) := by decide +kernel
theorem dX3_isHome_20 : decode (mC mX3_isHome) 20 = .ok (.goto 4, 3) := by decide +kernel
theorem dX3_isHome_23 : decode (mC mX3_isHome) 23 = .ok (.iconst 0, 1) := by decide +kernel
theorem dX3_isHome_24 : decode (mC mX3_isHome) 24 = .ok (.ireturn, 1) := by decide +kernel
theorem dX3_addPerson_0 : decode (mC mX3_addPerson) 0 = .ok (.aload_n 0, 1) := by decide +kernel
theorem dX3_addPerson_1 : decode (mC mX3_addPerson) 1 = .ok (.getfield 36, 3) := by decide +kernel
theorem dX3_addPerson_4 : decode (mC mX3_addPerson) 4 = .ok (.bipush 6, 2) := by decide +kernel
theorem dX3_addPerson_6 : decode (mC mX3_addPerson) 6 = .ok (.if_icmp .gt 49, 3) := by decide +kernel
theorem dX3_addPerson_9 : decode (mC mX3_addPerson) 9 = .ok (.aload_n 0, 1) := by decide +kernel
theorem dX3_addPerson_10 : decode (mC mX3_addPerson) 10 = .ok (.getfield 18, 3) := by decide +kernel
theorem dX3_addPerson_13 : decode (mC mX3_addPerson) 13 = .ok (.aload_n 0, 1) := by decide +kernel
theorem dX3_addPerson_14 : decode (mC mX3_addPerson) 14 = .ok (.getfield 36, 3) := by decide +kernel
theorem dX3_addPerson_17 : decode (mC mX3_addPerson) 17 = .ok (.iload_n 1, 1) := by decide +kernel
theorem dX3_addPerson_18 : decode (mC mX3_addPerson) 18 = .ok (.invokestatic 50, 3) := by decide +kernel
theorem dX3_addPerson_21 : decode (mC mX3_addPerson) 21 = .ok (.aload_n 0, 1) := by decide +kernel
theorem dX3_addPerson_22 : decode (mC mX3_addPerson) 22 = .ok (.getfield 22, 3) := by decide +kernel
theorem dX3_addPerson_25 : decode (mC mX3_addPerson) 25 = .ok (.aload_n 0, 1) := by decide +kernel
theorem dX3_addPerson_26 : decode (mC mX3_addPerson) 26 = .ok (.getfield 36, 3) := by decide +kernel
theorem dX3_addPerson_29 : decode (mC mX3_addPerson) 29 = .ok (.iload_n 2, 1) := by decide +kernel
theorem dX3_addPerson_30 : decode (mC mX3_addPerson) 30 = .ok (.invokestatic 50, 3) := by decide +kernel
theorem dX3_addPerson_33 : decode (mC mX3_addPerson) 33 = .ok (.aload_n 0, 1) := by decide +kernel
theorem dX3_addPerson_34 : decode (mC mX3_addPerson) 34 = .ok (.getfield 25, 3) := by decide +kernel
theorem dX3_addPerson_37 : decode (mC mX3_addPerson) 37 = .ok (.aload_n 0, 1) := by decide +kernel
theorem dX3_addPerson_38 : decode (mC mX3_addPerson) 38 = .ok (.getfield 36, 3) := by decide +kernel
theorem dX3_addPerson_41 : decode (mC mX3_addPerson) 41 = .ok (.iload_n 3, 1) := by decide +kernel
theorem dX3_addPerson_42 : decode (mC mX3_addPerson) 42 = .ok (.invokestatic 50, 3) := by decide +kernel
theorem dX3_addPerson_45 : decode (mC mX3_addPerson) 45 = .ok (.aload_n 0, 1) := by decide +kernel
theorem dX3_addPerson_46 : decode (mC mX3_addPerson) 46 = .ok (.dup, 1) := by decide +kernel
theorem dX3_addPerson_47 : decode (mC mX3_addPerson) 47 = .ok (.getfield 36, 3) := by decide +kernel
theorem dX3_addPerson_50 : decode (mC mX3_addPerson) 50 = .ok (.iconst 1, 1) := by decide +kernel
theorem dX3_addPerson_51 : decode (mC mX3_addPerson) 51 = .ok (.iadd, 1) := by decide +kernel
theorem dX3_addPerson_52 : decode (mC mX3_addPerson) 52 = .ok (.putfield 36, 3) := by decide +kernel
theorem dX3_addPerson_55 : decode (mC mX3_addPerson) 55 = .ok (.return_, 1) := by decide +kernel
theorem dX3_removePerson_0 : decode (mC mX3_removePerson) 0 = .ok (.aload_n 0, 1) := by decide +kernel
theorem dX3_removePerson_1 : decode (mC mX3_removePerson) 1 = .ok (.iload_n 1, 1) := by decide +kernel
theorem dX3_removePerson_2 : decode (mC mX3_removePerson) 2 = .ok (.invokevirtual 54, 3) := by decide +kernel
theorem dX3_removePerson_5 : decode (mC mX3_removePerson) 5 = .ok (.ifCond .ne 4, 3) := by decide +kernel
theorem dX3_removePerson_8 : decode (mC mX3_removePerson) 8 = .ok (.return_, 1) := by decide +kernel
theorem dX3_removePerson_9 : decode (mC mX3_removePerson) 9 = .ok (.iload_n 1, 1) := by decide +kernel
theorem dX3_removePerson_10 : decode (mC mX3_removePerson) 10 = .ok (.istore_n 2, 1) := by decide +kernel
theorem dX3_removePerson_11 : decode (mC mX3_removePerson) 11 = .ok (.iload_n 2, 1) := by decide +kernel
theorem dX3_removePerson_12 : decode (mC mX3_removePerson) 12 = .ok (.iconst 1, 1) := by decide +kernel
theorem dX3_removePerson_13 : decode (mC mX3_removePerson) 13 = .ok (.iadd, 1) := by decide +kernel
theorem dX3_removePerson_14 : decode (mC mX3_removePerson) 14 = .ok (.aload_n 0, 1) := by decide +kernel
theorem dX3_removePerson_15 : decode (mC mX3_removePerson) 15 = .ok (.getfield 36, 3) := by decide +kernel
theorem dX3_removePerson_18 : decode (mC mX3_removePerson) 18 = .ok (.if_icmp .ge 63, 3) := by decide +kernel
theorem dX3_removePerson_21 : decode (mC mX3_removePerson) 21 = .ok (.aload_n 0, 1) := by decide +kernel
theorem dX3_removePerson_22 : decode (mC mX3_removePerson) 22 = .ok (.getfield 18, 3) := by decide +kernel
theorem dX3_removePerson_25 : decode (mC mX3_removePerson) 25 = .ok (.iload_n 2, 1) := by decide +kernel
theorem dX3_removePerson_26 : decode (mC mX3_removePerson) 26 = .ok (.aload_n 0, 1) := by decide +kernel
theorem dX3_removePerson_27 : decode (mC mX3_removePerson) 27 = .ok (.getfield 18, 3) := by decide +kernel
theorem dX3_removePerson_30 : decode (mC mX3_removePerson) 30 = .ok (.iload_n 2, 1) := by decide +kernel
theorem dX3_removePerson_31 : decode (mC mX3_removePerson) 31 = .ok (.iconst 1, 1) := by decide +kernel
theorem dX3_removePerson_32 : decode (mC mX3_removePerson) 32 = .ok (.iadd, 1) := by decide +kernel
theorem dX3_removePerson_33 : decode (mC mX3_removePerson) 33 = .ok (.invokestatic 46, 3) := by decide +kernel
theorem dX3_removePerson_36 : decode (mC mX3_removePerson) 36 = .ok (.invokestatic 50, 3) := by decide +kernel
theorem dX3_removePerson_39 : decode (mC mX3_removePerson) 39 = .ok (.aload_n 0, 1) := by decide +kernel
theorem dX3_removePerson_40 : decode (mC mX3_removePerson) 40 = .ok (.getfield 22, 3) := by decide +kernel
theorem dX3_removePerson_43 : decode (mC mX3_removePerson) 43 = .ok (.iload_n 2, 1) := by decide +kernel
theorem dX3_removePerson_44 : decode (mC mX3_removePerson) 44 = .ok (.aload_n 0, 1) := by decide +kernel
theorem dX3_removePerson_45 : decode (mC mX3_removePerson) 45 = .ok (.getfield 22, 3) := by decide +kernel
theorem dX3_removePerson_48 : decode (mC mX3_removePerson) 48 = .ok (.iload_n 2, 1) := by decide +kernel
theorem dX3_removePerson_49 : decode (mC mX3_removePerson) 49 = .ok (.iconst 1, 1) := by decide +kernel
theorem dX3_removePerson_50 : decode (mC mX3_removePerson) 50 = .ok (.iadd, 1) := by decide +kernel
theorem dX3_removePerson_51 : decode (mC mX3_removePerson) 51 = .ok (.invokestatic 46, 3) := by decide +kernel
theorem dX3_removePerson_54 : decode (mC mX3_removePerson) 54 = .ok (.invokestatic 50, 3) := by decide +kernel
theorem dX3_removePerson_57 : decode (mC mX3_removePerson) 57 = .ok (.aload_n 0, 1) := by decide +kernel
theorem dX3_removePerson_58 : decode (mC mX3_removePerson) 58 = .ok (.getfield 25, 3) := by decide +kernel
theorem dX3_removePerson_61 : decode (mC mX3_removePerson) 61 = .ok (.iload_n 2, 1) := by decide +kernel
theorem dX3_removePerson_62 : decode (mC mX3_removePerson) 62 = .ok (.aload_n 0, 1) := by decide +kernel
theorem dX3_removePerson_63 : decode (mC mX3_removePerson) 63 = .ok (.getfield 25, 3) := by decide +kernel
theorem dX3_removePerson_66 : decode (mC mX3_removePerson) 66 = .ok (.iload_n 2, 1) := by decide +kernel
theorem dX3_removePerson_67 : decode (mC mX3_removePerson) 67 = .ok (.iconst 1, 1) := by decide +kernel
theorem dX3_removePerson_68 : decode (mC mX3_removePerson) 68 = .ok (.iadd, 1) := by decide +kernel
theorem dX3_removePerson_69 : decode (mC mX3_removePerson) 69 = .ok (.invokestatic 46, 3) := by decide +kernel
theorem dX3_removePerson_72 : decode (mC mX3_removePerson) 72 = .ok (.invokestatic 50, 3) := by decide +kernel
theorem dX3_removePerson_75 : decode (mC mX3_removePerson) 75 = .ok (.iinc 2 1, 3) := by decide +kernel
theorem dX3_removePerson_78 : decode (mC mX3_removePerson) 78 = .ok (.goto (-67), 3) := by decide +kernel
theorem dX3_removePerson_81 : decode (mC mX3_removePerson) 81 = .ok (.aload_n 0, 1) := by decide +kernel
theorem dX3_removePerson_82 : decode (mC mX3_removePerson) 82 = .ok (.dup, 1) := by decide +kernel
theorem dX3_removePerson_83 : decode (mC mX3_removePerson) 83 = .ok (.getfield 36, 3) := by decide +kernel
theorem dX3_removePerson_86 : decode (mC mX3_removePerson) 86 = .ok (.iconst 1, 1) := by decide +kernel
theorem dX3_removePerson_87 : decode (mC mX3_removePerson) 87 = .ok (.isub, 1) := by decide +kernel
theorem dX3_removePerson_88 : decode (mC mX3_removePerson) 88 = .ok (.putfield 36, 3) := by decide +kernel
theorem dX3_removePerson_91 : decode (mC mX3_removePerson) 91 = .ok (.return_, 1) := by decide +kernel
theorem dX3_stay_0 : decode (mC mX3_stay) 0 = .ok (.aload_n 0, 1) := by decide +kernel
theorem dX3_stay_1 : decode (mC mX3_stay) 1 = .ok (.getfield 22, 3) := by decide +kernel
theorem dX3_stay_4 : decode (mC mX3_stay) 4 = .ok (.iload_n 1, 1) := by decide +kernel
theorem dX3_stay_5 : decode (mC mX3_stay) 5 = .ok (.aload_n 0, 1) := by decide +kernel
theorem dX3_stay_6 : decode (mC mX3_stay) 6 = .ok (.getfield 18, 3) := by decide +kernel
theorem dX3_stay_9 : decode (mC mX3_stay) 9 = .ok (.iload_n 1, 1) := by decide +kernel
theorem dX3_stay_10 : decode (mC mX3_stay) 10 = .ok (.invokestatic 46, 3) := by decide +kernel
theorem dX3_stay_13 : decode (mC mX3_stay) 13 = .ok (.invokestatic 50, 3) := by decide +kernel
theorem dX3_stay_16 : decode (mC mX3_stay) 16 = .ok (.return_, 1) := by decide +kernel
theorem dX3_goHours_0 : decode (mC mX3_goHours) 0 = .ok (.iconst 0, 1) := by decide +kernel
theorem dX3_goHours_1 : decode (mC mX3_goHours) 1 = .ok (.istore_n 3, 1) := by decide +kernel
theorem dX3_goHours_2 : decode (mC mX3_goHours) 2 = .ok (.iconst 0, 1) := by decide +kernel
theorem dX3_goHours_3 : decode (mC mX3_goHours) 3 = .ok (.istore 4, 2) := by decide +kernel
theorem dX3_goHours_5 : decode (mC mX3_goHours) 5 = .ok (.iload 4, 2) := by decide +kernel
theorem dX3_goHours_7 : decode (mC mX3_goHours) 7 = .ok (.iload_n 1, 1) := by decide +kernel
theorem dX3_goHours_8 : decode (mC mX3_goHours) 8 = .ok (.if_icmp .ge 131, 3) := by decide +kernel
theorem dX3_goHours_11 : decode (mC mX3_goHours) 11 = .ok (.aload_n 0, 1) := by decide +kernel
theorem dX3_goHours_12 : decode (mC mX3_goHours) 12 = .ok (.dup, 1) := by decide +kernel
theorem dX3_goHours_13 : decode (mC mX3_goHours) 13 = .ok (.getfield 40, 3) := by decide +kernel
theorem dX3_goHours_16 : decode (mC mX3_goHours) 16 = .ok (.iconst 1, 1) := by decide +kernel
theorem dX3_goHours_17 : decode (mC mX3_goHours) 17 = .ok (.iadd, 1) := by decide +kernel
theorem dX3_goHours_18 : decode (mC mX3_goHours) 18 = .ok (.putfield 40, 3) := by decide +kernel
theorem dX3_goHours_21 : decode (mC mX3_goHours) 21 = .ok (.iconst 0, 1) := by decide +kernel
theorem dX3_goHours_22 : decode (mC mX3_goHours) 22 = .ok (.istore 5, 2) := by decide +kernel
theorem dX3_goHours_24 : decode (mC mX3_goHours) 24 = .ok (.iload 5, 2) := by decide +kernel
theorem dX3_goHours_26 : decode (mC mX3_goHours) 26 = .ok (.aload_n 0, 1) := by decide +kernel
theorem dX3_goHours_27 : decode (mC mX3_goHours) 27 = .ok (.getfield 36, 3) := by decide +kernel
theorem dX3_goHours_30 : decode (mC mX3_goHours) 30 = .ok (.if_icmp .ge 103, 3) := by decide +kernel
theorem dX3_goHours_33 : decode (mC mX3_goHours) 33 = .ok (.aload_n 0, 1) := by decide +kernel
theorem dX3_goHours_34 : decode (mC mX3_goHours) 34 = .ok (.iload 5, 2) := by decide +kernel
theorem dX3_goHours_36 : decode (mC mX3_goHours) 36 = .ok (.aload_n 0, 1) := by decide +kernel
theorem dX3_goHours_37 : decode (mC mX3_goHours) 37 = .ok (.getfield 40, 3) := by decide +kernel
theorem dX3_goHours_40 : decode (mC mX3_goHours) 40 = .ok (.iload_n 2, 1) := by decide +kernel
theorem dX3_goHours_41 : decode (mC mX3_goHours) 41 = .ok (.invokevirtual 58, 3) := by decide +kernel
theorem dX3_goHours_44 : decode (mC mX3_goHours) 44 = .ok (.istore 6, 2) := by decide +kernel
theorem dX3_goHours_46 : decode (mC mX3_goHours) 46 = .ok (.iload 6, 2) := by decide +kernel
theorem dX3_goHours_48 : decode (mC mX3_goHours) 48 = .ok (.ifCond .lt 46, 3) := by decide +kernel
theorem dX3_goHours_51 : decode (mC mX3_goHours) 51 = .ok (.aload_n 0, 1) := by decide +kernel
theorem dX3_goHours_52 : decode (mC mX3_goHours) 52 = .ok (.getfield 18, 3) := by decide +kernel
theorem dX3_goHours_55 : decode (mC mX3_goHours) 55 = .ok (.iload 5, 2) := by decide +kernel
theorem dX3_goHours_57 : decode (mC mX3_goHours) 57 = .ok (.aload_n 0, 1) := by decide +kernel
theorem dX3_goHours_58 : decode (mC mX3_goHours) 58 = .ok (.getfield 12, 3) := by decide +kernel
theorem dX3_goHours_61 : decode (mC mX3_goHours) 61 = .ok (.getfield 62, 3) := by decide +kernel
theorem dX3_goHours_64 : decode (mC mX3_goHours) 64 = .ok (.iload 6, 2) := by decide +kernel
theorem dX3_goHours_66 : decode (mC mX3_goHours) 66 = .ok (.invokestatic 46, 3) := by decide +kernel
theorem dX3_goHours_69 : decode (mC mX3_goHours) 69 = .ok (.invokestatic 50, 3) := by decide +kernel
theorem dX3_goHours_72 : decode (mC mX3_goHours) 72 = .ok (.aload_n 0, 1) := by decide +kernel
theorem dX3_goHours_73 : decode (mC mX3_goHours) 73 = .ok (.sipush 9999, 3) := by decide +kernel
theorem dX3_goHours_76 : decode (mC mX3_goHours) 76 = .ok (.aload_n 0, 1) := by decide +kernel
theorem dX3_goHours_77 : decode (mC mX3_goHours) 77 = .ok (.getfield 43, 3) := by decide +kernel
theorem dX3_goHours_80 : decode (mC mX3_goHours) 80 = .ok (.iconst 1, 1) := by decide +kernel
theorem dX3_goHours_81 : decode (mC mX3_goHours) 81 = .ok (.iadd, 1) := by decide +kernel
theorem dX3_goHours_82 : decode (mC mX3_goHours) 82 = .ok (.invokestatic 65, 3) := by decide +kernel
theorem dX3_goHours_85 : decode (mC mX3_goHours) 85 = .ok (.putfield 43, 3) := by decide +kernel
theorem dX3_goHours_88 : decode (mC mX3_goHours) 88 = .ok (.iinc 3 1, 3) := by decide +kernel
theorem dX3_goHours_91 : decode (mC mX3_goHours) 91 = .ok (.goto 36, 3) := by decide +kernel
theorem dX3_goHours_94 : decode (mC mX3_goHours) 94 = .ok (.aload_n 0, 1) := by decide +kernel
theorem dX3_goHours_95 : decode (mC mX3_goHours) 95 = .ok (.iload 5, 2) := by decide +kernel
theorem dX3_goHours_97 : decode (mC mX3_goHours) 97 = .ok (.invokevirtual 71, 3) := by decide +kernel
theorem dX3_goHours_100 : decode (mC mX3_goHours) 100 = .ok (.ifCond .ne 27, 3) := by decide +kernel
theorem dX3_goHours_103 : decode (mC mX3_goHours) 103 = .ok (.aload_n 0, 1) := by decide +kernel
theorem dX3_goHours_104 : decode (mC mX3_goHours) 104 = .ok (.getfield 25, 3) := by decide +kernel
theorem dX3_goHours_107 : decode (mC mX3_goHours) 107 = .ok (.iload 5, 2) := by decide +kernel
theorem dX3_goHours_109 : decode (mC mX3_goHours) 109 = .ok (.iconst 0, 1) := by decide +kernel
theorem dX3_goHours_110 : decode (mC mX3_goHours) 110 = .ok (.aload_n 0, 1) := by decide +kernel
theorem dX3_goHours_111 : decode (mC mX3_goHours) 111 = .ok (.getfield 25, 3) := by decide +kernel
theorem dX3_goHours_114 : decode (mC mX3_goHours) 114 = .ok (.iload 5, 2) := by decide +kernel
theorem dX3_goHours_116 : decode (mC mX3_goHours) 116 = .ok (.invokestatic 46, 3) := by decide +kernel
theorem dX3_goHours_119 : decode (mC mX3_goHours) 119 = .ok (.iconst 1, 1) := by decide +kernel
theorem dX3_goHours_120 : decode (mC mX3_goHours) 120 = .ok (.isub, 1) := by decide +kernel
theorem dX3_goHours_121 : decode (mC mX3_goHours) 121 = .ok (.invokestatic 74, 3) := by decide +kernel
theorem dX3_goHours_124 : decode (mC mX3_goHours) 124 = .ok (.invokestatic 50, 3) := by decide +kernel
theorem dX3_goHours_127 : decode (mC mX3_goHours) 127 = .ok (.iinc 5 1, 3) := by decide +kernel
theorem dX3_goHours_130 : decode (mC mX3_goHours) 130 = .ok (.goto (-106), 3) := by decide +kernel
theorem dX3_goHours_133 : decode (mC mX3_goHours) 133 = .ok (.iinc 4 1, 3) := by decide +kernel
theorem dX3_goHours_136 : decode (mC mX3_goHours) 136 = .ok (.goto (-131), 3) := by decide +kernel
theorem dX3_goHours_139 : decode (mC mX3_goHours) 139 = .ok (.iload_n 3, 1) := by decide +kernel
theorem dX3_goHours_140 : decode (mC mX3_goHours) 140 = .ok (.ireturn, 1) := by decide +kernel
theorem dX3_doorFor_0 : decode (mC mX3_doorFor) 0 = .ok (.aload_n 0, 1) := by decide +kernel
theorem dX3_doorFor_1 : decode (mC mX3_doorFor) 1 = .ok (.getfield 12, 3) := by decide +kernel
theorem dX3_doorFor_4 : decode (mC mX3_doorFor) 4 = .ok (.aload_n 0, 1) := by decide +kernel
theorem dX3_doorFor_5 : decode (mC mX3_doorFor) 5 = .ok (.getfield 18, 3) := by decide +kernel
theorem dX3_doorFor_8 : decode (mC mX3_doorFor) 8 = .ok (.iload_n 1, 1) := by decide +kernel
theorem dX3_doorFor_9 : decode (mC mX3_doorFor) 9 = .ok (.invokestatic 46, 3) := by decide +kernel
theorem dX3_doorFor_12 : decode (mC mX3_doorFor) 12 = .ok (.aload_n 0, 1) := by decide +kernel
theorem dX3_doorFor_13 : decode (mC mX3_doorFor) 13 = .ok (.getfield 22, 3) := by decide +kernel
theorem dX3_doorFor_16 : decode (mC mX3_doorFor) 16 = .ok (.iload_n 1, 1) := by decide +kernel
theorem dX3_doorFor_17 : decode (mC mX3_doorFor) 17 = .ok (.invokestatic 46, 3) := by decide +kernel
theorem dX3_doorFor_20 : decode (mC mX3_doorFor) 20 = .ok (.invokevirtual 77, 3) := by decide +kernel
theorem dX3_doorFor_23 : decode (mC mX3_doorFor) 23 = .ok (.istore 4, 2) := by decide +kernel
theorem dX3_doorFor_25 : decode (mC mX3_doorFor) 25 = .ok (.iconst 0, 1) := by decide +kernel
theorem dX3_doorFor_26 : decode (mC mX3_doorFor) 26 = .ok (.istore 5, 2) := by decide +kernel
theorem dX3_doorFor_28 : decode (mC mX3_doorFor) 28 = .ok (.iload 5, 2) := by decide +kernel
theorem dX3_doorFor_30 : decode (mC mX3_doorFor) 30 = .ok (.aload_n 0, 1) := by decide +kernel
theorem dX3_doorFor_31 : decode (mC mX3_doorFor) 31 = .ok (.getfield 12, 3) := by decide +kernel
theorem dX3_doorFor_34 : decode (mC mX3_doorFor) 34 = .ok (.getfield 80, 3) := by decide +kernel
theorem dX3_doorFor_37 : decode (mC mX3_doorFor) 37 = .ok (.if_icmp .ge 44, 3) := by decide +kernel
theorem dX3_doorFor_40 : decode (mC mX3_doorFor) 40 = .ok (.iload 4, 2) := by decide +kernel
theorem dX3_doorFor_42 : decode (mC mX3_doorFor) 42 = .ok (.iload 5, 2) := by decide +kernel
theorem dX3_doorFor_44 : decode (mC mX3_doorFor) 44 = .ok (.ishr, 1) := by decide +kernel
theorem dX3_doorFor_45 : decode (mC mX3_doorFor) 45 = .ok (.ifCond .eq 36, 3) := by decide +kernel
theorem dX3_doorFor_48 : decode (mC mX3_doorFor) 48 = .ok (.iload 4, 2) := by decide +kernel
theorem dX3_doorFor_50 : decode (mC mX3_doorFor) 50 = .ok (.iload 5, 2) := by decide +kernel
theorem dX3_doorFor_52 : decode (mC mX3_doorFor) 52 = .ok (.invokestatic 81, 3) := by decide +kernel
theorem dX3_doorFor_55 : decode (mC mX3_doorFor) 55 = .ok (.ifCond .eq 20, 3) := by decide +kernel
theorem dX3_doorFor_58 : decode (mC mX3_doorFor) 58 = .ok (.iload_n 3, 1) := by decide +kernel
theorem dX3_doorFor_59 : decode (mC mX3_doorFor) 59 = .ok (.ifCond .ne 13, 3) := by decide +kernel
theorem dX3_doorFor_62 : decode (mC mX3_doorFor) 62 = .ok (.aload_n 0, 1) := by decide +kernel
theorem dX3_doorFor_63 : decode (mC mX3_doorFor) 63 = .ok (.iload 5, 2) := by decide +kernel
theorem dX3_doorFor_65 : decode (mC mX3_doorFor) 65 = .ok (.iload_n 2, 1) := by decide +kernel
theorem dX3_doorFor_66 : decode (mC mX3_doorFor) 66 = .ok (.invokevirtual 85, 3) := by decide +kernel
theorem dX3_doorFor_69 : decode (mC mX3_doorFor) 69 = .ok (.ifCond .eq 6, 3) := by decide +kernel
theorem dX3_doorFor_72 : decode (mC mX3_doorFor) 72 = .ok (.iload 5, 2) := by decide +kernel
theorem dX3_doorFor_74 : decode (mC mX3_doorFor) 74 = .ok (.ireturn, 1) := by decide +kernel
theorem dX3_doorFor_75 : decode (mC mX3_doorFor) 75 = .ok (.iinc 5 1, 3) := by decide +kernel
theorem dX3_doorFor_78 : decode (mC mX3_doorFor) 78 = .ok (.goto (-50), 3) := by decide +kernel
theorem dX3_doorFor_81 : decode (mC mX3_doorFor) 81 = .ok (.bipush (-9), 2) := by decide +kernel
theorem dX3_doorFor_83 : decode (mC mX3_doorFor) 83 = .ok (.ireturn, 1) := by decide +kernel
theorem dX3_opens_0 : decode (mC mX3_opens) 0 = .ok (.aload_n 0, 1) := by decide +kernel
theorem dX3_opens_1 : decode (mC mX3_opens) 1 = .ok (.getfield 12, 3) := by decide +kernel
theorem dX3_opens_4 : decode (mC mX3_opens) 4 = .ok (.getfield 88, 3) := by decide +kernel
theorem dX3_opens_7 : decode (mC mX3_opens) 7 = .ok (.iload_n 1, 1) := by decide +kernel
theorem dX3_opens_8 : decode (mC mX3_opens) 8 = .ok (.invokestatic 46, 3) := by decide +kernel
theorem dX3_opens_11 : decode (mC mX3_opens) 11 = .ok (.iconst 1, 1) := by decide +kernel
theorem dX3_opens_12 : decode (mC mX3_opens) 12 = .ok (.if_icmp .ne 5, 3) := by decide +kernel
theorem dX3_opens_15 : decode (mC mX3_opens) 15 = .ok (.iconst 1, 1) := by decide +kernel
theorem dX3_opens_16 : decode (mC mX3_opens) 16 = .ok (.ireturn, 1) := by decide +kernel
theorem dX3_opens_17 : decode (mC mX3_opens) 17 = .ok (.aload_n 0, 1) := by decide +kernel
theorem dX3_opens_18 : decode (mC mX3_opens) 18 = .ok (.getfield 12, 3) := by decide +kernel
theorem dX3_opens_21 : decode (mC mX3_opens) 21 = .ok (.getfield 62, 3) := by decide +kernel
theorem dX3_opens_24 : decode (mC mX3_opens) 24 = .ok (.iload_n 1, 1) := by decide +kernel
theorem dX3_opens_25 : decode (mC mX3_opens) 25 = .ok (.invokestatic 46, 3) := by decide +kernel
theorem dX3_opens_28 : decode (mC mX3_opens) 28 = .ok (.istore_n 3, 1) := by decide +kernel
theorem dX3_opens_29 : decode (mC mX3_opens) 29 = .ok (.iconst 0, 1) := by decide +kernel
theorem dX3_opens_30 : decode (mC mX3_opens) 30 = .ok (.istore 4, 2) := by decide +kernel
theorem dX3_opens_32 : decode (mC mX3_opens) 32 = .ok (.iconst 0, 1) := by decide +kernel
theorem dX3_opens_33 : decode (mC mX3_opens) 33 = .ok (.istore 5, 2) := by decide +kernel
theorem dX3_opens_35 : decode (mC mX3_opens) 35 = .ok (.iconst 0, 1) := by decide +kernel
theorem dX3_opens_36 : decode (mC mX3_opens) 36 = .ok (.istore 6, 2) := by decide +kernel
theorem dX3_opens_38 : decode (mC mX3_opens) 38 = .ok (.iload 6, 2) := by decide +kernel
theorem dX3_opens_40 : decode (mC mX3_opens) 40 = .ok (.aload_n 0, 1) := by decide +kernel
theorem dX3_opens_41 : decode (mC mX3_opens) 41 = .ok (.getfield 36, 3) := by decide +kernel
theorem dX3_opens_44 : decode (mC mX3_opens) 44 = .ok (.if_icmp .ge 41, 3) := by decide +kernel
theorem dX3_opens_47 : decode (mC mX3_opens) 47 = .ok (.aload_n 0, 1) := by decide +kernel
theorem dX3_opens_48 : decode (mC mX3_opens) 48 = .ok (.getfield 18, 3) := by decide +kernel
theorem dX3_opens_51 : decode (mC mX3_opens) 51 = .ok (.iload 6, 2) := by decide +kernel
theorem dX3_opens_53 : decode (mC mX3_opens) 53 = .ok (.invokestatic 46, 3) := by decide +kernel
theorem dX3_opens_56 : decode (mC mX3_opens) 56 = .ok (.iload_n 3, 1) := by decide +kernel
theorem dX3_opens_57 : decode (mC mX3_opens) 57 = .ok (.if_icmp .ne 22, 3) := by decide +kernel
theorem dX3_opens_60 : decode (mC mX3_opens) 60 = .ok (.iinc 4 1, 3) := by decide +kernel
theorem dX3_opens_63 : decode (mC mX3_opens) 63 = .ok (.iload 5, 2) := by decide +kernel
theorem dX3_opens_65 : decode (mC mX3_opens) 65 = .ok (.aload_n 0, 1) := by decide +kernel
theorem dX3_opens_66 : decode (mC mX3_opens) 66 = .ok (.getfield 25, 3) := by decide +kernel
theorem dX3_opens_69 : decode (mC mX3_opens) 69 = .ok (.iload 6, 2) := by decide +kernel
theorem dX3_opens_71 : decode (mC mX3_opens) 71 = .ok (.invokestatic 46, 3) := by decide +kernel
theorem dX3_opens_74 : decode (mC mX3_opens) 74 = .ok (.invokestatic 74, 3) := by decide +kernel
theorem dX3_opens_77 : decode (mC mX3_opens) 77 = .ok (.istore 5, 2) := by decide +kernel
theorem dX3_opens_79 : decode (mC mX3_opens) 79 = .ok (.iinc 6 1, 3) := by decide +kernel
theorem dX3_opens_82 : decode (mC mX3_opens) 82 = .ok (.goto (-44), 3) := by decide +kernel
theorem dX3_opens_85 : decode (mC mX3_opens) 85 = .ok (.aload_n 0, 1) := by decide +kernel
theorem dX3_opens_86 : decode (mC mX3_opens) 86 = .ok (.getfield 12, 3) := by decide +kernel
theorem dX3_opens_89 : decode (mC mX3_opens) 89 = .ok (.iload_n 1, 1) := by decide +kernel
theorem dX3_opens_90 : decode (mC mX3_opens) 90 = .ok (.iload_n 2, 1) := by decide +kernel
theorem dX3_opens_91 : decode (mC mX3_opens) 91 = .ok (.iload 4, 2) := by decide +kernel
theorem dX3_opens_93 : decode (mC mX3_opens) 93 = .ok (.iload 5, 2) := by decide +kernel
theorem dX3_opens_95 : decode (mC mX3_opens) 95 = .ok (.invokevirtual 91, 3) := by decide +kernel
theorem dX3_opens_98 : decode (mC mX3_opens) 98 = .ok (.ireturn, 1) := by decide +kernel
theorem dX3_countIn_0 : decode (mC mX3_countIn) 0 = .ok (.aload_n 0, 1) := by decide +kernel
theorem dX3_countIn_1 : decode (mC mX3_countIn) 1 = .ok (.getfield 18, 3) := by decide +kernel
theorem dX3_countIn_4 : decode (mC mX3_countIn) 4 = .ok (.aload_n 0, 1) := by decide +kernel
theorem dX3_countIn_5 : decode (mC mX3_countIn) 5 = .ok (.getfield 36, 3) := by decide +kernel
theorem dX3_countIn_8 : decode (mC mX3_countIn) 8 = .ok (.iload_n 1, 1) := by decide +kernel
theorem dX3_countIn_9 : decode (mC mX3_countIn) 9 = .ok (.invokestatic 95, 3) := by decide +kernel
theorem dX3_countIn_12 : decode (mC mX3_countIn) 12 = .ok (.invokestatic 99, 3) := by decide +kernel
theorem dX3_countIn_15 : decode (mC mX3_countIn) 15 = .ok (.ireturn, 1) := by decide +kernel
theorem dX3_homeBits_0 : decode (mC mX3_homeBits) 0 = .ok (.iconst 0, 1) := by decide +kernel
theorem dX3_homeBits_1 : decode (mC mX3_homeBits) 1 = .ok (.istore_n 1, 1) := by decide +kernel
theorem dX3_homeBits_2 : decode (mC mX3_homeBits) 2 = .ok (.iconst 0, 1) := by decide +kernel
theorem dX3_homeBits_3 : decode (mC mX3_homeBits) 3 = .ok (.istore_n 2, 1) := by decide +kernel
theorem dX3_homeBits_4 : decode (mC mX3_homeBits) 4 = .ok (.iload_n 2, 1) := by decide +kernel
theorem dX3_homeBits_5 : decode (mC mX3_homeBits) 5 = .ok (.aload_n 0, 1) := by decide +kernel
theorem dX3_homeBits_6 : decode (mC mX3_homeBits) 6 = .ok (.getfield 36, 3) := by decide +kernel
theorem dX3_homeBits_9 : decode (mC mX3_homeBits) 9 = .ok (.if_icmp .ge 23, 3) := by decide +kernel
theorem dX3_homeBits_12 : decode (mC mX3_homeBits) 12 = .ok (.aload_n 0, 1) := by decide +kernel
theorem dX3_homeBits_13 : decode (mC mX3_homeBits) 13 = .ok (.iload_n 2, 1) := by decide +kernel
theorem dX3_homeBits_14 : decode (mC mX3_homeBits) 14 = .ok (.invokevirtual 71, 3) := by decide +kernel
theorem dX3_homeBits_17 : decode (mC mX3_homeBits) 17 = .ok (.ifCond .eq 9, 3) := by decide +kernel
theorem dX3_homeBits_20 : decode (mC mX3_homeBits) 20 = .ok (.iload_n 1, 1) := by decide +kernel
theorem dX3_homeBits_21 : decode (mC mX3_homeBits) 21 = .ok (.iconst 1, 1) := by decide +kernel
theorem dX3_homeBits_22 : decode (mC mX3_homeBits) 22 = .ok (.iload_n 2, 1) := by decide +kernel
theorem dX3_homeBits_23 : decode (mC mX3_homeBits) 23 = .ok (.ishl, 1) := by decide +kernel
theorem dX3_homeBits_24 : decode (mC mX3_homeBits) 24 = .ok (.ior, 1) := by decide +kernel
theorem dX3_homeBits_25 : decode (mC mX3_homeBits) 25 = .ok (.istore_n 1, 1) := by decide +kernel
theorem dX3_homeBits_26 : decode (mC mX3_homeBits) 26 = .ok (.iinc 2 1, 3) := by decide +kernel
theorem dX3_homeBits_29 : decode (mC mX3_homeBits) 29 = .ok (.goto (-25), 3) := by decide +kernel
theorem dX3_homeBits_32 : decode (mC mX3_homeBits) 32 = .ok (.iload_n 1, 1) := by decide +kernel
theorem dX3_homeBits_33 : decode (mC mX3_homeBits) 33 = .ok (.ireturn, 1) := by decide +kernel
theorem dX3_homeCount_0 : decode (mC mX3_homeCount) 0 = .ok (.aload_n 0, 1) := by decide +kernel
theorem dX3_homeCount_1 : decode (mC mX3_homeCount) 1 = .ok (.invokevirtual 105, 3) := by decide +kernel
theorem dX3_homeCount_4 : decode (mC mX3_homeCount) 4 = .ok (.invokestatic 99, 3) := by decide +kernel
theorem dX3_homeCount_7 : decode (mC mX3_homeCount) 7 = .ok (.ireturn, 1) := by decide +kernel
theorem dX3_moodsTogether_0 : decode (mC mX3_moodsTogether) 0 = .ok (.iconst 0, 1) := by decide +kernel
theorem dX3_moodsTogether_1 : decode (mC mX3_moodsTogether) 1 = .ok (.istore_n 1, 1) := by decide +kernel
theorem dX3_moodsTogether_2 : decode (mC mX3_moodsTogether) 2 = .ok (.iconst 0, 1) := by decide +kernel
theorem dX3_moodsTogether_3 : decode (mC mX3_moodsTogether) 3 = .ok (.istore_n 2, 1) := by decide +kernel
theorem dX3_moodsTogether_4 : decode (mC mX3_moodsTogether) 4 = .ok (.iload_n 2, 1) := by decide +kernel
theorem dX3_moodsTogether_5 : decode (mC mX3_moodsTogether) 5 = .ok (.aload_n 0, 1) := by decide +kernel
theorem dX3_moodsTogether_6 : decode (mC mX3_moodsTogether) 6 = .ok (.getfield 36, 3) := by decide +kernel
theorem dX3_moodsTogether_9 : decode (mC mX3_moodsTogether) 9 = .ok (.if_icmp .ge 20, 3) := by decide +kernel
theorem dX3_moodsTogether_12 : decode (mC mX3_moodsTogether) 12 = .ok (.iload_n 1, 1) := by decide +kernel
theorem dX3_moodsTogether_13 : decode (mC mX3_moodsTogether) 13 = .ok (.aload_n 0, 1) := by decide +kernel
theorem dX3_moodsTogether_14 : decode (mC mX3_moodsTogether) 14 = .ok (.getfield 25, 3) := by decide +kernel
theorem dX3_moodsTogether_17 : decode (mC mX3_moodsTogether) 17 = .ok (.iload_n 2, 1) := by decide +kernel
theorem dX3_moodsTogether_18 : decode (mC mX3_moodsTogether) 18 = .ok (.invokestatic 46, 3) := by decide +kernel
theorem dX3_moodsTogether_21 : decode (mC mX3_moodsTogether) 21 = .ok (.iadd, 1) := by decide +kernel
theorem dX3_moodsTogether_22 : decode (mC mX3_moodsTogether) 22 = .ok (.istore_n 1, 1) := by decide +kernel
theorem dX3_moodsTogether_23 : decode (mC mX3_moodsTogether) 23 = .ok (.iinc 2 1, 3) := by decide +kernel
theorem dX3_moodsTogether_26 : decode (mC mX3_moodsTogether) 26 = .ok (.goto (-22), 3) := by decide +kernel
theorem dX3_moodsTogether_29 : decode (mC mX3_moodsTogether) 29 = .ok (.iload_n 1, 1) := by decide +kernel
theorem dX3_moodsTogether_30 : decode (mC mX3_moodsTogether) 30 = .ok (.ireturn, 1) := by decide +kernel
theorem dJ6_bitCount_0f7a4_0 : decode (mC mJ6_bitCount_0f7a4) 0 = .ok (.iload_n 0, 1) := by decide +kernel
theorem dJ6_bitCount_0f7a4_1 : decode (mC mJ6_bitCount_0f7a4) 1 = .ok (.iload_n 0, 1) := by decide +kernel
theorem dJ6_bitCount_0f7a4_2 : decode (mC mJ6_bitCount_0f7a4) 2 = .ok (.iconst 1, 1) := by decide +kernel
theorem dJ6_bitCount_0f7a4_3 : decode (mC mJ6_bitCount_0f7a4) 3 = .ok (.iushr, 1) := by decide +kernel
theorem dJ6_bitCount_0f7a4_4 : decode (mC mJ6_bitCount_0f7a4) 4 = .ok (.ldc_w 265, 3) := by decide +kernel
theorem dJ6_bitCount_0f7a4_7 : decode (mC mJ6_bitCount_0f7a4) 7 = .ok (.iand, 1) := by decide +kernel
theorem dJ6_bitCount_0f7a4_8 : decode (mC mJ6_bitCount_0f7a4) 8 = .ok (.isub, 1) := by decide +kernel
theorem dJ6_bitCount_0f7a4_9 : decode (mC mJ6_bitCount_0f7a4) 9 = .ok (.istore_n 0, 1) := by decide +kernel
theorem dJ6_bitCount_0f7a4_10 : decode (mC mJ6_bitCount_0f7a4) 10 = .ok (.iload_n 0, 1) := by decide +kernel
theorem dJ6_bitCount_0f7a4_11 : decode (mC mJ6_bitCount_0f7a4) 11 = .ok (.ldc_w 266, 3) := by decide +kernel
theorem dJ6_bitCount_0f7a4_14 : decode (mC mJ6_bitCount_0f7a4) 14 = .ok (.iand, 1) := by decide +kernel
theorem dJ6_bitCount_0f7a4_15 : decode (mC mJ6_bitCount_0f7a4) 15 = .ok (.iload_n 0, 1) := by decide +kernel
theorem dJ6_bitCount_0f7a4_16 : decode (mC mJ6_bitCount_0f7a4) 16 = .ok (.iconst 2, 1) := by decide +kernel
theorem dJ6_bitCount_0f7a4_17 : decode (mC mJ6_bitCount_0f7a4) 17 = .ok (.iushr, 1) := by decide +kernel
theorem dJ6_bitCount_0f7a4_18 : decode (mC mJ6_bitCount_0f7a4) 18 = .ok (.ldc_w 266, 3) := by decide +kernel
theorem dJ6_bitCount_0f7a4_21 : decode (mC mJ6_bitCount_0f7a4) 21 = .ok (.iand, 1) := by decide +kernel
theorem dJ6_bitCount_0f7a4_22 : decode (mC mJ6_bitCount_0f7a4) 22 = .ok (.iadd, 1) := by decide +kernel
theorem dJ6_bitCount_0f7a4_23 : decode (mC mJ6_bitCount_0f7a4) 23 = .ok (.istore_n 0, 1) := by decide +kernel
theorem dJ6_bitCount_0f7a4_24 : decode (mC mJ6_bitCount_0f7a4) 24 = .ok (.iload_n 0, 1) := by decide +kernel
theorem dJ6_bitCount_0f7a4_25 : decode (mC mJ6_bitCount_0f7a4) 25 = .ok (.iload_n 0, 1) := by decide +kernel
theorem dJ6_bitCount_0f7a4_26 : decode (mC mJ6_bitCount_0f7a4) 26 = .ok (.iconst 4, 1) := by decide +kernel
theorem dJ6_bitCount_0f7a4_27 : decode (mC mJ6_bitCount_0f7a4) 27 = .ok (.iushr, 1) := by decide +kernel
theorem dJ6_bitCount_0f7a4_28 : decode (mC mJ6_bitCount_0f7a4) 28 = .ok (.iadd, 1) := by decide +kernel
theorem dJ6_bitCount_0f7a4_29 : decode (mC mJ6_bitCount_0f7a4) 29 = .ok (.ldc_w 267, 3) := by decide +kernel
theorem dJ6_bitCount_0f7a4_32 : decode (mC mJ6_bitCount_0f7a4) 32 = .ok (.iand, 1) := by decide +kernel
theorem dJ6_bitCount_0f7a4_33 : decode (mC mJ6_bitCount_0f7a4) 33 = .ok (.istore_n 0, 1) := by decide +kernel
theorem dJ6_bitCount_0f7a4_34 : decode (mC mJ6_bitCount_0f7a4) 34 = .ok (.iload_n 0, 1) := by decide +kernel
theorem dJ6_bitCount_0f7a4_35 : decode (mC mJ6_bitCount_0f7a4) 35 = .ok (.iload_n 0, 1) := by decide +kernel
theorem dJ6_bitCount_0f7a4_36 : decode (mC mJ6_bitCount_0f7a4) 36 = .ok (.bipush 8, 2) := by decide +kernel
theorem dJ6_bitCount_0f7a4_38 : decode (mC mJ6_bitCount_0f7a4) 38 = .ok (.iushr, 1) := by decide +kernel
theorem dJ6_bitCount_0f7a4_39 : decode (mC mJ6_bitCount_0f7a4) 39 = .ok (.iadd, 1) := by decide +kernel
theorem dJ6_bitCount_0f7a4_40 : decode (mC mJ6_bitCount_0f7a4) 40 = .ok (.istore_n 0, 1) := by decide +kernel
theorem dJ6_bitCount_0f7a4_41 : decode (mC mJ6_bitCount_0f7a4) 41 = .ok (.iload_n 0, 1) := by decide +kernel
theorem dJ6_bitCount_0f7a4_42 : decode (mC mJ6_bitCount_0f7a4) 42 = .ok (.iload_n 0, 1) := by decide +kernel
theorem dJ6_bitCount_0f7a4_43 : decode (mC mJ6_bitCount_0f7a4) 43 = .ok (.bipush 16, 2) := by decide +kernel
theorem dJ6_bitCount_0f7a4_45 : decode (mC mJ6_bitCount_0f7a4) 45 = .ok (.iushr, 1) := by decide +kernel
theorem dJ6_bitCount_0f7a4_46 : decode (mC mJ6_bitCount_0f7a4) 46 = .ok (.iadd, 1) := by decide +kernel
theorem dJ6_bitCount_0f7a4_47 : decode (mC mJ6_bitCount_0f7a4) 47 = .ok (.istore_n 0, 1) := by decide +kernel
theorem dJ6_bitCount_0f7a4_48 : decode (mC mJ6_bitCount_0f7a4) 48 = .ok (.iload_n 0, 1) := by decide +kernel
theorem dJ6_bitCount_0f7a4_49 : decode (mC mJ6_bitCount_0f7a4) 49 = .ok (.bipush 63, 2) := by decide +kernel
theorem dJ6_bitCount_0f7a4_51 : decode (mC mJ6_bitCount_0f7a4) 51 = .ok (.iand, 1) := by decide +kernel
theorem dJ6_bitCount_0f7a4_52 : decode (mC mJ6_bitCount_0f7a4) 52 = .ok (.ireturn, 1) := by decide +kernel
end
section
theorem dX4_init_0 : decode (mC mX4_init) 0 = .ok (.aload_n 0, 1) := by decide +kernel
theorem dX4_init_1 : decode (mC mX4_init) 1 = .ok (.invokespecial 1, 3) := by decide +kernel
theorem dX4_init_4 : decode (mC mX4_init) 4 = .ok (.aload_n 0, 1) := by decide +kernel
theorem dX4_init_5 : decode (mC mX4_init) 5 = .ok (.new 7, 3) := by decide +kernel
theorem dX4_init_8 : decode (mC mX4_init) 8 = .ok (.dup, 1) := by decide +kernel
theorem dX4_init_9 : decode (mC mX4_init) 9 = .ok (.invokespecial 9, 3) := by decide +kernel
theorem dX4_init_12 : decode (mC mX4_init) 12 = .ok (.putfield 10, 3) := by decide +kernel
theorem dX4_init_15 : decode (mC mX4_init) 15 = .ok (.aload_n 0, 1) := by decide +kernel
theorem dX4_init_16 : decode (mC mX4_init) 16 = .ok (.new 7, 3) := by decide +kernel
theorem dX4_init_19 : decode (mC mX4_init) 19 = .ok (.dup, 1) := by decide +kernel
theorem dX4_init_20 : decode (mC mX4_init) 20 = .ok (.invokespecial 9, 3) := by decide +kernel
theorem dX4_init_23 : decode (mC mX4_init) 23 = .ok (.putfield 16, 3) := by decide +kernel
theorem dX4_init_26 : decode (mC mX4_init) 26 = .ok (.aload_n 0, 1) := by decide +kernel
theorem dX4_init_27 : decode (mC mX4_init) 27 = .ok (.new 7, 3) := by decide +kernel
theorem dX4_init_30 : decode (mC mX4_init) 30 = .ok (.dup, 1) := by decide +kernel
theorem dX4_init_31 : decode (mC mX4_init) 31 = .ok (.invokespecial 9, 3) := by decide +kernel
theorem dX4_init_34 : decode (mC mX4_init) 34 = .ok (.putfield 19, 3) := by decide +kernel
theorem dX4_init_37 : decode (mC mX4_init) 37 = .ok (.aload_n 0, 1) := by decide +kernel
theorem dX4_init_38 : decode (mC mX4_init) 38 = .ok (.new 22, 3) := by decide +kernel
theorem dX4_init_41 : decode (mC mX4_init) 41 = .ok (.dup, 1) := by decide +kernel
theorem dX4_init_42 : decode (mC mX4_init) 42 = .ok (.invokespecial 24, 3) := by decide +kernel
theorem dX4_init_45 : decode (mC mX4_init) 45 = .ok (.putfield 25, 3) := by decide +kernel
theorem dX4_init_48 : decode (mC mX4_init) 48 = .ok (.aload_n 0, 1) := by decide +kernel
theorem dX4_init_49 : decode (mC mX4_init) 49 = .ok (.new 29, 3) := by decide +kernel
theorem dX4_init_52 : decode (mC mX4_init) 52 = .ok (.dup, 1) := by decide +kernel
theorem dX4_init_53 : decode (mC mX4_init) 53 = .ok (.bipush 16, 2) := by decide +kernel
theorem dX4_init_55 : decode (mC mX4_init) 55 = .ok (.invokespecial 31, 3) := by decide +kernel
theorem dX4_init_58 : decode (mC mX4_init) 58 = .ok (.putfield 34, 3) := by decide +kernel
theorem dX4_init_61 : decode (mC mX4_init) 61 = .ok (.aload_n 0, 1) := by decide +kernel
theorem dX4_init_62 : decode (mC mX4_init) 62 = .ok (.bipush 7, 2) := by decide +kernel
theorem dX4_init_64 : decode (mC mX4_init) 64 = .ok (.newarray .int, 2) := by decide +kernel
theorem dX4_init_66 : decode (mC mX4_init) 66 = .ok (.putfield 38, 3) := by decide +kernel
theorem dX4_init_69 : decode (mC mX4_init) 69 = .ok (.aload_n 0, 1) := by decide +kernel
theorem dX4_init_70 : decode (mC mX4_init) 70 = .ok (.bipush 8, 2) := by decide +kernel
theorem dX4_init_72 : decode (mC mX4_init) 72 = .ok (.newarray .int, 2) := by decide +kernel
theorem dX4_init_74 : decode (mC mX4_init) 74 = .ok (.putfield 42, 3) := by decide +kernel
theorem dX4_init_77 : decode (mC mX4_init) 77 = .ok (.return_, 1) := by decide +kernel
theorem dX4_letter_0 : decode (mC mX4_letter) 0 = .ok (.iload_n 1, 1) := by decide +kernel
theorem dX4_letter_1 : decode (mC mX4_letter) 1 = .ok (.ifCond .ge 10, 3) := by decide +kernel
theorem dX4_letter_4 : decode (mC mX4_letter) 4 = .ok (.aload_n 0, 1) := by decide +kernel
theorem dX4_letter_5 : decode (mC mX4_letter) 5 = .ok (.bipush (-4), 2) := by decide +kernel
theorem dX4_letter_7 : decode (mC mX4_letter) 7 = .ok (.invokevirtual 45, 3) := by decide +kernel
theorem dX4_letter_10 : decode (mC mX4_letter) 10 = .ok (.ireturn, 1) := by decide +kernel
theorem dX4_letter_11 : decode (mC mX4_letter) 11 = .ok (.iload_n 1, 1) := by decide +kernel
theorem dX4_letter_12 : decode (mC mX4_letter) 12 = .ok (.sipush 255, 3) := by decide +kernel
theorem dX4_letter_15 : decode (mC mX4_letter) 15 = .ok (.if_icmp .gt 16, 3) := by decide +kernel
theorem dX4_letter_18 : decode (mC mX4_letter) 18 = .ok (.aload_n 0, 1) := by decide +kernel
theorem dX4_letter_19 : decode (mC mX4_letter) 19 = .ok (.getfield 25, 3) := by decide +kernel
theorem dX4_letter_22 : decode (mC mX4_letter) 22 = .ok (.getfield 49, 3) := by decide +kernel
theorem dX4_letter_25 : decode (mC mX4_letter) 25 = .ok (.invokevirtual 52, 3) := by decide +kernel
theorem dX4_letter_28 : decode (mC mX4_letter) 28 = .ok (.ifCond .eq 10, 3) := by decide +kernel
theorem dX4_letter_31 : decode (mC mX4_letter) 31 = .ok (.aload_n 0, 1) := by decide +kernel
theorem dX4_letter_32 : decode (mC mX4_letter) 32 = .ok (.bipush (-6), 2) := by decide +kernel
theorem dX4_letter_34 : decode (mC mX4_letter) 34 = .ok (.invokevirtual 45, 3) := by decide +kernel
theorem dX4_letter_37 : decode (mC mX4_letter) 37 = .ok (.ireturn, 1) := by decide +kernel
theorem dX4_letter_38 : decode (mC mX4_letter) 38 = .ok (.aload_n 0, 1) := by decide +kernel
theorem dX4_letter_39 : decode (mC mX4_letter) 39 = .ok (.getfield 25, 3) := by decide +kernel
theorem dX4_letter_42 : decode (mC mX4_letter) 42 = .ok (.getfield 49, 3) := by decide +kernel
theorem dX4_letter_45 : decode (mC mX4_letter) 45 = .ok (.iload_n 1, 1) := by decide +kernel
theorem dX4_letter_46 : decode (mC mX4_letter) 46 = .ok (.invokevirtual 56, 3) := by decide +kernel
theorem dX4_letter_49 : decode (mC mX4_letter) 49 = .ok (.ireturn, 1) := by decide +kernel
theorem dX4_town_0 : decode (mC mX4_town) 0 = .ok (.aload_n 0, 1) := by decide +kernel
theorem dX4_town_1 : decode (mC mX4_town) 1 = .ok (.getfield 25, 3) := by decide +kernel
theorem dX4_town_4 : decode (mC mX4_town) 4 = .ok (.invokevirtual 59, 3) := by decide +kernel
theorem dX4_town_7 : decode (mC mX4_town) 7 = .ok (.istore_n 1, 1) := by decide +kernel
theorem dX4_town_8 : decode (mC mX4_town) 8 = .ok (.iload_n 1, 1) := by decide +kernel
theorem dX4_town_9 : decode (mC mX4_town) 9 = .ok (.ifCond .lt 11, 3) := by decide +kernel
theorem dX4_town_12 : decode (mC mX4_town) 12 = .ok (.sipush (-1000), 3) := by decide +kernel
theorem dX4_town_15 : decode (mC mX4_town) 15 = .ok (.iload_n 1, 1) := by decide +kernel
theorem dX4_town_16 : decode (mC mX4_town) 16 = .ok (.isub, 1) := by decide +kernel
theorem dX4_town_17 : decode (mC mX4_town) 17 = .ok (.goto 7, 3) := by decide +kernel
theorem dX4_town_20 : decode (mC mX4_town) 20 = .ok (.aload_n 0, 1) := by decide +kernel
theorem dX4_town_21 : decode (mC mX4_town) 21 = .ok (.invokevirtual 63, 3) := by decide +kernel
theorem dX4_town_24 : decode (mC mX4_town) 24 = .ok (.istore_n 2, 1) := by decide +kernel
theorem dX4_town_25 : decode (mC mX4_town) 25 = .ok (.aload_n 0, 1) := by decide +kernel
theorem dX4_town_26 : decode (mC mX4_town) 26 = .ok (.getfield 25, 3) := by decide +kernel
theorem dX4_town_29 : decode (mC mX4_town) 29 = .ok (.getfield 49, 3) := by decide +kernel
theorem dX4_town_32 : decode (mC mX4_town) 32 = .ok (.invokevirtual 66, 3) := by decide +kernel
theorem dX4_town_35 : decode (mC mX4_town) 35 = .ok (.pop, 1) := by decide +kernel
theorem dX4_town_36 : decode (mC mX4_town) 36 = .ok (.iload_n 2, 1) := by decide +kernel
theorem dX4_town_37 : decode (mC mX4_town) 37 = .ok (.ireturn, 1) := by decide +kernel
theorem dX4_tellStatements_0 : decode (mC mX4_tellStatements) 0 = .ok (.aload_n 0, 1) := by decide +kernel
theorem dX4_tellStatements_1 : decode (mC mX4_tellStatements) 1 = .ok (.getfield 16, 3) := by decide +kernel
theorem dX4_tellStatements_4 : decode (mC mX4_tellStatements) 4 = .ok (.aload_n 0, 1) := by decide +kernel
theorem dX4_tellStatements_5 : decode (mC mX4_tellStatements) 5 = .ok (.getfield 10, 3) := by decide +kernel
theorem dX4_tellStatements_8 : decode (mC mX4_tellStatements) 8 = .ok (.invokevirtual 69, 3) := by decide +kernel
theorem dX4_tellStatements_11 : decode (mC mX4_tellStatements) 11 = .ok (.iconst 0, 1) := by decide +kernel
theorem dX4_tellStatements_12 : decode (mC mX4_tellStatements) 12 = .ok (.istore_n 1, 1) := by decide +kernel
theorem dX4_tellStatements_13 : decode (mC mX4_tellStatements) 13 = .ok (.iconst 0, 1) := by decide +kernel
theorem dX4_tellStatements_14 : decode (mC mX4_tellStatements) 14 = .ok (.istore_n 2, 1) := by decide +kernel
theorem dX4_tellStatements_15 : decode (mC mX4_tellStatements) 15 = .ok (.iload_n 2, 1) := by decide +kernel
theorem dX4_tellStatements_16 : decode (mC mX4_tellStatements) 16 = .ok (.aload_n 0, 1) := by decide +kernel
theorem dX4_tellStatements_17 : decode (mC mX4_tellStatements) 17 = .ok (.getfield 25, 3) := by decide +kernel
theorem dX4_tellStatements_20 : decode (mC mX4_tellStatements) 20 = .ok (.getfield 49, 3) := by decide +kernel
theorem dX4_tellStatements_23 : decode (mC mX4_tellStatements) 23 = .ok (.getfield 73, 3) := by decide +kernel
theorem dX4_tellStatements_26 : decode (mC mX4_tellStatements) 26 = .ok (.if_icmp .ge 45, 3) := by decide +kernel
theorem dX4_tellStatements_29 : decode (mC mX4_tellStatements) 29 = .ok (.aload_n 0, 1) := by decide +kernel
theorem dX4_tellStatements_30 : decode (mC mX4_tellStatements) 30 = .ok (.getfield 25, 3) := by decide +kernel
theorem dX4_tellStatements_33 : decode (mC mX4_tellStatements) 33 = .ok (.iload_n 2, 1) := by decide +kernel
theorem dX4_tellStatements_34 : decode (mC mX4_tellStatements) 34 = .ok (.aload_n 0, 1) := by decide +kernel
theorem dX4_tellStatements_35 : decode (mC mX4_tellStatements) 35 = .ok (.getfield 16, 3) := by decide +kernel
theorem dX4_tellStatements_38 : decode (mC mX4_tellStatements) 38 = .ok (.invokevirtual 77, 3) := by decide +kernel
theorem dX4_tellStatements_41 : decode (mC mX4_tellStatements) 41 = .ok (.ifCond .ne 9, 3) := by decide +kernel
theorem dX4_tellStatements_44 : decode (mC mX4_tellStatements) 44 = .ok (.sipush (-2000), 3) := by decide +kernel
theorem dX4_tellStatements_47 : decode (mC mX4_tellStatements) 47 = .ok (.iload_n 2, 1) := by decide +kernel
theorem dX4_tellStatements_48 : decode (mC mX4_tellStatements) 48 = .ok (.isub, 1) := by decide +kernel
theorem dX4_tellStatements_49 : decode (mC mX4_tellStatements) 49 = .ok (.ireturn, 1) := by decide +kernel
theorem dX4_tellStatements_50 : decode (mC mX4_tellStatements) 50 = .ok (.iinc 1 1, 3) := by decide +kernel
theorem dX4_tellStatements_53 : decode (mC mX4_tellStatements) 53 = .ok (.iload_n 2, 1) := by decide +kernel
theorem dX4_tellStatements_54 : decode (mC mX4_tellStatements) 54 = .ok (.iconst 1, 1) := by decide +kernel
theorem dX4_tellStatements_55 : decode (mC mX4_tellStatements) 55 = .ok (.aload_n 0, 1) := by decide +kernel
theorem dX4_tellStatements_56 : decode (mC mX4_tellStatements) 56 = .ok (.getfield 25, 3) := by decide +kernel
theorem dX4_tellStatements_59 : decode (mC mX4_tellStatements) 59 = .ok (.iload_n 2, 1) := by decide +kernel
theorem dX4_tellStatements_60 : decode (mC mX4_tellStatements) 60 = .ok (.invokevirtual 81, 3) := by decide +kernel
theorem dX4_tellStatements_63 : decode (mC mX4_tellStatements) 63 = .ok (.invokestatic 84, 3) := by decide +kernel
theorem dX4_tellStatements_66 : decode (mC mX4_tellStatements) 66 = .ok (.iadd, 1) := by decide +kernel
theorem dX4_tellStatements_67 : decode (mC mX4_tellStatements) 67 = .ok (.istore_n 2, 1) := by decide +kernel
theorem dX4_tellStatements_68 : decode (mC mX4_tellStatements) 68 = .ok (.goto (-53), 3) := by decide +kernel
theorem dX4_tellStatements_71 : decode (mC mX4_tellStatements) 71 = .ok (.aload_n 0, 1) := by decide +kernel
theorem dX4_tellStatements_72 : decode (mC mX4_tellStatements) 72 = .ok (.getfield 10, 3) := by decide +kernel
theorem dX4_tellStatements_75 : decode (mC mX4_tellStatements) 75 = .ok (.aload_n 0, 1) := by decide +kernel
theorem dX4_tellStatements_76 : decode (mC mX4_tellStatements) 76 = .ok (.getfield 16, 3) := by decide +kernel
theorem dX4_tellStatements_79 : decode (mC mX4_tellStatements) 79 = .ok (.invokevirtual 69, 3) := by decide +kernel
theorem dX4_tellStatements_82 : decode (mC mX4_tellStatements) 82 = .ok (.iload_n 1, 1) := by decide +kernel
theorem dX4_tellStatements_83 : decode (mC mX4_tellStatements) 83 = .ok (.ireturn, 1) := by decide +kernel
theorem dX4_door_0 : decode (mC mX4_door) 0 = .ok (.aload_n 0, 1) := by decide +kernel
theorem dX4_door_1 : decode (mC mX4_door) 1 = .ok (.getfield 10, 3) := by decide +kernel
theorem dX4_door_4 : decode (mC mX4_door) 4 = .ok (.getfield 90, 3) := by decide +kernel
theorem dX4_door_7 : decode (mC mX4_door) 7 = .ok (.iload_n 1, 1) := by decide +kernel
theorem dX4_door_8 : decode (mC mX4_door) 8 = .ok (.invokevirtual 94, 3) := by decide +kernel
theorem dX4_door_11 : decode (mC mX4_door) 11 = .ok (.ifCond .ne 9, 3) := by decide +kernel
theorem dX4_door_14 : decode (mC mX4_door) 14 = .ok (.aload_n 0, 1) := by decide +kernel
theorem dX4_door_15 : decode (mC mX4_door) 15 = .ok (.iconst (-1), 1) := by decide +kernel
theorem dX4_door_16 : decode (mC mX4_door) 16 = .ok (.invokevirtual 45, 3) := by decide +kernel
theorem dX4_door_19 : decode (mC mX4_door) 19 = .ok (.ireturn, 1) := by decide +kernel
theorem dX4_door_20 : decode (mC mX4_door) 20 = .ok (.iload_n 2, 1) := by decide +kernel
theorem dX4_door_21 : decode (mC mX4_door) 21 = .ok (.tableswitch 110 0 4 #[35, 50, 65, 80, 95], 35) := by decide +kernel
theorem dX4_door_56 : decode (mC mX4_door) 56 = .ok (.aload_n 0, 1) := by decide +kernel
theorem dX4_door_57 : decode (mC mX4_door) 57 = .ok (.getfield 10, 3) := by decide +kernel
theorem dX4_door_60 : decode (mC mX4_door) 60 = .ok (.getfield 90, 3) := by decide +kernel
theorem dX4_door_63 : decode (mC mX4_door) 63 = .ok (.getfield 100, 3) := by decide +kernel
theorem dX4_door_66 : decode (mC mX4_door) 66 = .ok (.iload_n 1, 1) := by decide +kernel
theorem dX4_door_67 : decode (mC mX4_door) 67 = .ok (.invokestatic 103, 3) := by decide +kernel
theorem dX4_door_70 : decode (mC mX4_door) 70 = .ok (.ireturn, 1) := by decide +kernel
theorem dX4_door_71 : decode (mC mX4_door) 71 = .ok (.aload_n 0, 1) := by decide +kernel
theorem dX4_door_72 : decode (mC mX4_door) 72 = .ok (.getfield 10, 3) := by decide +kernel
theorem dX4_door_75 : decode (mC mX4_door) 75 = .ok (.getfield 90, 3) := by decide +kernel
theorem dX4_door_78 : decode (mC mX4_door) 78 = .ok (.getfield 107, 3) := by decide +kernel
theorem dX4_door_81 : decode (mC mX4_door) 81 = .ok (.iload_n 1, 1) := by decide +kernel
theorem dX4_door_82 : decode (mC mX4_door) 82 = .ok (.invokestatic 103, 3) := by decide +kernel
theorem dX4_door_85 : decode (mC mX4_door) 85 = .ok (.ireturn, 1) := by decide +kernel
theorem dX4_door_86 : decode (mC mX4_door) 86 = .ok (.aload_n 0, 1) := by decide +kernel
theorem dX4_door_87 : decode (mC mX4_door) 87 = .ok (.getfield 10, 3) := by decide +kernel
theorem dX4_door_90 : decode (mC mX4_door) 90 = .ok (.getfield 90, 3) := by decide +kernel
theorem dX4_door_93 : decode (mC mX4_door) 93 = .ok (.getfield 110, 3) := by decide +kernel
theorem dX4_door_96 : decode (mC mX4_door) 96 = .ok (.iload_n 1, 1) := by decide +kernel
theorem dX4_door_97 : decode (mC mX4_door) 97 = .ok (.invokestatic 103, 3) := by decide +kernel
theorem dX4_door_100 : decode (mC mX4_door) 100 = .ok (.ireturn, 1) := by decide +kernel
theorem dX4_door_101 : decode (mC mX4_door) 101 = .ok (.aload_n 0, 1) := by decide +kernel
theorem dX4_door_102 : decode (mC mX4_door) 102 = .ok (.getfield 10, 3) := by decide +kernel
theorem dX4_door_105 : decode (mC mX4_door) 105 = .ok (.getfield 90, 3) := by decide +kernel
theorem dX4_door_108 : decode (mC mX4_door) 108 = .ok (.getfield 113, 3) := by decide +kernel
theorem dX4_door_111 : decode (mC mX4_door) 111 = .ok (.iload_n 1, 1) := by decide +kernel
theorem dX4_door_112 : decode (mC mX4_door) 112 = .ok (.invokestatic 103, 3) := by decide +kernel
theorem dX4_door_115 : decode (mC mX4_door) 115 = .ok (.ireturn, 1) := by decide +kernel
theorem dX4_door_116 : decode (mC mX4_door) 116 = .ok (.aload_n 0, 1) := by decide +kernel
theorem dX4_door_117 : decode (mC mX4_door) 117 = .ok (.getfield 10, 3) := by decide +kernel
theorem dX4_door_120 : decode (mC mX4_door) 120 = .ok (.getfield 90, 3) := by decide +kernel
theorem dX4_door_123 : decode (mC mX4_door) 123 = .ok (.getfield 116, 3) := by decide +kernel
theorem dX4_door_126 : decode (mC mX4_door) 126 = .ok (.iload_n 1, 1) := by decide +kernel
theorem dX4_door_127 : decode (mC mX4_door) 127 = .ok (.invokestatic 103, 3) := by decide +kernel
theorem dX4_door_130 : decode (mC mX4_door) 130 = .ok (.ireturn, 1) := by decide +kernel
theorem dX4_door_131 : decode (mC mX4_door) 131 = .ok (.aload_n 0, 1) := by decide +kernel
theorem dX4_door_132 : decode (mC mX4_door) 132 = .ok (.bipush (-2), 2) := by decide +kernel
theorem dX4_door_134 : decode (mC mX4_door) 134 = .ok (.invokevirtual 45, 3) := by decide +kernel
theorem dX4_door_137 : decode (mC mX4_door) 137 = .ok (.ireturn, 1) := by decide +kernel
theorem dX4_person_0 : decode (mC mX4_person) 0 = .ok (.aload_n 0, 1) := by decide +kernel
theorem dX4_person_1 : decode (mC mX4_person) 1 = .ok (.getfield 10, 3) := by decide +kernel
theorem dX4_person_4 : decode (mC mX4_person) 4 = .ok (.iload_n 1, 1) := by decide +kernel
theorem dX4_person_5 : decode (mC mX4_person) 5 = .ok (.invokevirtual 119, 3) := by decide +kernel
theorem dX4_person_8 : decode (mC mX4_person) 8 = .ok (.ifCond .ne 9, 3) := by decide +kernel
theorem dX4_person_11 : decode (mC mX4_person) 11 = .ok (.aload_n 0, 1) := by decide +kernel
theorem dX4_person_12 : decode (mC mX4_person) 12 = .ok (.iconst (-1), 1) := by decide +kernel
theorem dX4_person_13 : decode (mC mX4_person) 13 = .ok (.invokevirtual 45, 3) := by decide +kernel
theorem dX4_person_16 : decode (mC mX4_person) 16 = .ok (.ireturn, 1) := by decide +kernel
theorem dX4_person_17 : decode (mC mX4_person) 17 = .ok (.iload_n 2, 1) := by decide +kernel
theorem dX4_person_18 : decode (mC mX4_person) 18 = .ok (.tableswitch 85 0 3 #[30, 42, 54, 66], 30) := by decide +kernel
theorem dX4_person_48 : decode (mC mX4_person) 48 = .ok (.aload_n 0, 1) := by decide +kernel
theorem dX4_person_49 : decode (mC mX4_person) 49 = .ok (.getfield 10, 3) := by decide +kernel
theorem dX4_person_52 : decode (mC mX4_person) 52 = .ok (.getfield 120, 3) := by decide +kernel
theorem dX4_person_55 : decode (mC mX4_person) 55 = .ok (.iload_n 1, 1) := by decide +kernel
theorem dX4_person_56 : decode (mC mX4_person) 56 = .ok (.invokestatic 103, 3) := by decide +kernel
theorem dX4_person_59 : decode (mC mX4_person) 59 = .ok (.ireturn, 1) := by decide +kernel
theorem dX4_person_60 : decode (mC mX4_person) 60 = .ok (.aload_n 0, 1) := by decide +kernel
theorem dX4_person_61 : decode (mC mX4_person) 61 = .ok (.getfield 10, 3) := by decide +kernel
theorem dX4_person_64 : decode (mC mX4_person) 64 = .ok (.getfield 123, 3) := by decide +kernel
theorem dX4_person_67 : decode (mC mX4_person) 67 = .ok (.iload_n 1, 1) := by decide +kernel
theorem dX4_person_68 : decode (mC mX4_person) 68 = .ok (.invokestatic 103, 3) := by decide +kernel
theorem dX4_person_71 : decode (mC mX4_person) 71 = .ok (.ireturn, 1) := by decide +kernel
theorem dX4_person_72 : decode (mC mX4_person) 72 = .ok (.aload_n 0, 1) := by decide +kernel
theorem dX4_person_73 : decode (mC mX4_person) 73 = .ok (.getfield 10, 3) := by decide +kernel
theorem dX4_person_76 : decode (mC mX4_person) 76 = .ok (.getfield 126, 3) := by decide +kernel
theorem dX4_person_79 : decode (mC mX4_person) 79 = .ok (.iload_n 1, 1) := by decide +kernel
theorem dX4_person_80 : decode (mC mX4_person) 80 = .ok (.invokestatic 103, 3) := by decide +kernel
theorem dX4_person_83 : decode (mC mX4_person) 83 = .ok (.ireturn, 1) := by decide +kernel
theorem dX4_person_84 : decode (mC mX4_person) 84 = .ok (.aload_n 0, 1) := by decide +kernel
theorem dX4_person_85 : decode (mC mX4_person) 85 = .ok (.getfield 10, 3) := by decide +kernel
theorem dX4_person_88 : decode (mC mX4_person) 88 = .ok (.iload_n 1, 1) := by decide +kernel
theorem dX4_person_89 : decode (mC mX4_person) 89 = .ok (.aload_n 0, 1) := by decide +kernel
theorem dX4_person_90 : decode (mC mX4_person) 90 = .ok (.getfield 10, 3) := by decide +kernel
theorem dX4_person_93 : decode (mC mX4_person) 93 = .ok (.getfield 129, 3) := by decide +kernel
theorem dX4_person_96 : decode (mC mX4_person) 96 = .ok (.iconst 1, 1) := by decide +kernel
theorem dX4_person_97 : decode (mC mX4_person) 97 = .ok (.iadd, 1) := by decide +kernel
theorem dX4_person_98 : decode (mC mX4_person) 98 = .ok (.iconst 0, 1) := by decide +kernel
theorem dX4_person_99 : decode (mC mX4_person) 99 = .ok (.invokevirtual 132, 3) := by decide +kernel
theorem dX4_person_102 : decode (mC mX4_person) 102 = .ok (.ireturn, 1) := by decide +kernel
theorem dX4_person_103 : decode (mC mX4_person) 103 = .ok (.aload_n 0, 1) := by decide +kernel
theorem dX4_person_104 : decode (mC mX4_person) 104 = .ok (.bipush (-2), 2) := by decide +kernel
theorem dX4_person_106 : decode (mC mX4_person) 106 = .ok (.invokevirtual 45, 3) := by decide +kernel
theorem dX4_person_109 : decode (mC mX4_person) 109 = .ok (.ireturn, 1) := by decide +kernel
theorem dX4_wedges_0 : decode (mC mX4_wedges) 0 = .ok (.aload_n 0, 1) := by decide +kernel
theorem dX4_wedges_1 : decode (mC mX4_wedges) 1 = .ok (.getfield 10, 3) := by decide +kernel
theorem dX4_wedges_4 : decode (mC mX4_wedges) 4 = .ok (.getfield 90, 3) := by decide +kernel
theorem dX4_wedges_7 : decode (mC mX4_wedges) 7 = .ok (.iload_n 1, 1) := by decide +kernel
theorem dX4_wedges_8 : decode (mC mX4_wedges) 8 = .ok (.invokevirtual 94, 3) := by decide +kernel
theorem dX4_wedges_11 : decode (mC mX4_wedges) 11 = .ok (.ifCond .ne 9, 3) := by decide +kernel
theorem dX4_wedges_14 : decode (mC mX4_wedges) 14 = .ok (.aload_n 0, 1) := by decide +kernel
theorem dX4_wedges_15 : decode (mC mX4_wedges) 15 = .ok (.iconst (-1), 1) := by decide +kernel
theorem dX4_wedges_16 : decode (mC mX4_wedges) 16 = .ok (.invokevirtual 45, 3) := by decide +kernel
theorem dX4_wedges_19 : decode (mC mX4_wedges) 19 = .ok (.ireturn, 1) := by decide +kernel
theorem dX4_wedges_20 : decode (mC mX4_wedges) 20 = .ok (.aload_n 0, 1) := by decide +kernel
theorem dX4_wedges_21 : decode (mC mX4_wedges) 21 = .ok (.getfield 10, 3) := by decide +kernel
theorem dX4_wedges_24 : decode (mC mX4_wedges) 24 = .ok (.getfield 90, 3) := by decide +kernel
theorem dX4_wedges_27 : decode (mC mX4_wedges) 27 = .ok (.iload_n 1, 1) := by decide +kernel
theorem dX4_wedges_28 : decode (mC mX4_wedges) 28 = .ok (.invokevirtual 136, 3) := by decide +kernel
theorem dX4_wedges_31 : decode (mC mX4_wedges) 31 = .ok (.ireturn, 1) := by decide +kernel
theorem dX4_turns_0 : decode (mC mX4_turns) 0 = .ok (.aload_n 0, 1) := by decide +kernel
theorem dX4_turns_1 : decode (mC mX4_turns) 1 = .ok (.getfield 10, 3) := by decide +kernel
theorem dX4_turns_4 : decode (mC mX4_turns) 4 = .ok (.getfield 90, 3) := by decide +kernel
theorem dX4_turns_7 : decode (mC mX4_turns) 7 = .ok (.iload_n 1, 1) := by decide +kernel
theorem dX4_turns_8 : decode (mC mX4_turns) 8 = .ok (.invokevirtual 94, 3) := by decide +kernel
theorem dX4_turns_11 : decode (mC mX4_turns) 11 = .ok (.ifCond .ne 9, 3) := by decide +kernel
theorem dX4_turns_14 : decode (mC mX4_turns) 14 = .ok (.aload_n 0, 1) := by decide +kernel
theorem dX4_turns_15 : decode (mC mX4_turns) 15 = .ok (.iconst (-1), 1) := by decide +kernel
theorem dX4_turns_16 : decode (mC mX4_turns) 16 = .ok (.invokevirtual 45, 3) := by decide +kernel
theorem dX4_turns_19 : decode (mC mX4_turns) 19 = .ok (.ireturn, 1) := by decide +kernel
theorem dX4_turns_20 : decode (mC mX4_turns) 20 = .ok (.aload_n 0, 1) := by decide +kernel
theorem dX4_turns_21 : decode (mC mX4_turns) 21 = .ok (.getfield 10, 3) := by decide +kernel
theorem dX4_turns_24 : decode (mC mX4_turns) 24 = .ok (.getfield 90, 3) := by decide +kernel
theorem dX4_turns_27 : decode (mC mX4_turns) 27 = .ok (.iload_n 1, 1) := by decide +kernel
theorem dX4_turns_28 : decode (mC mX4_turns) 28 = .ok (.invokevirtual 139, 3) := by decide +kernel
theorem dX4_turns_31 : decode (mC mX4_turns) 31 = .ok (.ireturn, 1) := by decide +kernel
theorem dX4_stands_0 : decode (mC mX4_stands) 0 = .ok (.aload_n 0, 1) := by decide +kernel
theorem dX4_stands_1 : decode (mC mX4_stands) 1 = .ok (.getfield 10, 3) := by decide +kernel
theorem dX4_stands_4 : decode (mC mX4_stands) 4 = .ok (.iload_n 1, 1) := by decide +kernel
theorem dX4_stands_5 : decode (mC mX4_stands) 5 = .ok (.invokevirtual 119, 3) := by decide +kernel
theorem dX4_stands_8 : decode (mC mX4_stands) 8 = .ok (.ifCond .eq 10, 3) := by decide +kernel
theorem dX4_stands_11 : decode (mC mX4_stands) 11 = .ok (.iload_n 2, 1) := by decide +kernel
theorem dX4_stands_12 : decode (mC mX4_stands) 12 = .ok (.invokestatic 142, 3) := by decide +kernel
theorem dX4_stands_15 : decode (mC mX4_stands) 15 = .ok (.ifCond .ne 9, 3) := by decide +kernel
theorem dX4_stands_18 : decode (mC mX4_stands) 18 = .ok (.aload_n 0, 1) := by decide +kernel
theorem dX4_stands_19 : decode (mC mX4_stands) 19 = .ok (.iconst (-1), 1) := by decide +kernel
theorem dX4_stands_20 : decode (mC mX4_stands) 20 = .ok (.invokevirtual 45, 3) := by decide +kernel
theorem dX4_stands_23 : decode (mC mX4_stands) 23 = .ok (.ireturn, 1) := by decide +kernel
theorem dX4_stands_24 : decode (mC mX4_stands) 24 = .ok (.aload_n 0, 1) := by decide +kernel
theorem dX4_stands_25 : decode (mC mX4_stands) 25 = .ok (.getfield 10, 3) := by decide +kernel
theorem dX4_stands_28 : decode (mC mX4_stands) 28 = .ok (.getfield 120, 3) := by decide +kernel
theorem dX4_stands_31 : decode (mC mX4_stands) 31 = .ok (.iload_n 1, 1) := by decide +kernel
theorem dX4_stands_32 : decode (mC mX4_stands) 32 = .ok (.iload_n 2, 1) := by decide +kernel
theorem dX4_stands_33 : decode (mC mX4_stands) 33 = .ok (.invokestatic 145, 3) := by decide +kernel
theorem dX4_stands_36 : decode (mC mX4_stands) 36 = .ok (.ireturn, 1) := by decide +kernel
theorem dX4_wants_0 : decode (mC mX4_wants) 0 = .ok (.aload_n 0, 1) := by decide +kernel
theorem dX4_wants_1 : decode (mC mX4_wants) 1 = .ok (.getfield 10, 3) := by decide +kernel
theorem dX4_wants_4 : decode (mC mX4_wants) 4 = .ok (.iload_n 1, 1) := by decide +kernel
theorem dX4_wants_5 : decode (mC mX4_wants) 5 = .ok (.invokevirtual 119, 3) := by decide +kernel
theorem dX4_wants_8 : decode (mC mX4_wants) 8 = .ok (.ifCond .eq 10, 3) := by decide +kernel
theorem dX4_wants_11 : decode (mC mX4_wants) 11 = .ok (.iload_n 2, 1) := by decide +kernel
theorem dX4_wants_12 : decode (mC mX4_wants) 12 = .ok (.invokestatic 142, 3) := by decide +kernel
theorem dX4_wants_15 : decode (mC mX4_wants) 15 = .ok (.ifCond .ne 9, 3) := by decide +kernel
theorem dX4_wants_18 : decode (mC mX4_wants) 18 = .ok (.aload_n 0, 1) := by decide +kernel
theorem dX4_wants_19 : decode (mC mX4_wants) 19 = .ok (.iconst (-1), 1) := by decide +kernel
theorem dX4_wants_20 : decode (mC mX4_wants) 20 = .ok (.invokevirtual 45, 3) := by decide +kernel
theorem dX4_wants_23 : decode (mC mX4_wants) 23 = .ok (.ireturn, 1) := by decide +kernel
theorem dX4_wants_24 : decode (mC mX4_wants) 24 = .ok (.aload_n 0, 1) := by decide +kernel
theorem dX4_wants_25 : decode (mC mX4_wants) 25 = .ok (.getfield 10, 3) := by decide +kernel
theorem dX4_wants_28 : decode (mC mX4_wants) 28 = .ok (.getfield 123, 3) := by decide +kernel
theorem dX4_wants_31 : decode (mC mX4_wants) 31 = .ok (.iload_n 1, 1) := by decide +kernel
theorem dX4_wants_32 : decode (mC mX4_wants) 32 = .ok (.iload_n 2, 1) := by decide +kernel
theorem dX4_wants_33 : decode (mC mX4_wants) 33 = .ok (.invokestatic 145, 3) := by decide +kernel
theorem dX4_wants_36 : decode (mC mX4_wants) 36 = .ok (.ireturn, 1) := by decide +kernel
theorem dX4_moods_0 : decode (mC mX4_moods) 0 = .ok (.aload_n 0, 1) := by decide +kernel
theorem dX4_moods_1 : decode (mC mX4_moods) 1 = .ok (.getfield 10, 3) := by decide +kernel
theorem dX4_moods_4 : decode (mC mX4_moods) 4 = .ok (.iload_n 1, 1) := by decide +kernel
theorem dX4_moods_5 : decode (mC mX4_moods) 5 = .ok (.invokevirtual 119, 3) := by decide +kernel
theorem dX4_moods_8 : decode (mC mX4_moods) 8 = .ok (.ifCond .ne 9, 3) := by decide +kernel
theorem dX4_moods_11 : decode (mC mX4_moods) 11 = .ok (.aload_n 0, 1) := by decide +kernel
theorem dX4_moods_12 : decode (mC mX4_moods) 12 = .ok (.iconst (-1), 1) := by decide +kernel
theorem dX4_moods_13 : decode (mC mX4_moods) 13 = .ok (.invokevirtual 45, 3) := by decide +kernel
theorem dX4_moods_16 : decode (mC mX4_moods) 16 = .ok (.ireturn, 1) := by decide +kernel
theorem dX4_moods_17 : decode (mC mX4_moods) 17 = .ok (.iload_n 2, 1) := by decide +kernel
theorem dX4_moods_18 : decode (mC mX4_moods) 18 = .ok (.ifCond .lt 9, 3) := by decide +kernel
theorem dX4_moods_21 : decode (mC mX4_moods) 21 = .ok (.iload_n 2, 1) := by decide +kernel
theorem dX4_moods_22 : decode (mC mX4_moods) 22 = .ok (.bipush 9, 2) := by decide +kernel
theorem dX4_moods_24 : decode (mC mX4_moods) 24 = .ok (.if_icmp .le 9, 3) := by decide +kernel
theorem dX4_moods_27 : decode (mC mX4_moods) 27 = .ok (.aload_n 0, 1) := by decide +kernel
theorem dX4_moods_28 : decode (mC mX4_moods) 28 = .ok (.iload_n 2, 1) := by decide +kernel
theorem dX4_moods_29 : decode (mC mX4_moods) 29 = .ok (.invokevirtual 149, 3) := by decide +kernel
theorem dX4_moods_32 : decode (mC mX4_moods) 32 = .ok (.ireturn, 1) := by decide +kernel
theorem dX4_moods_33 : decode (mC mX4_moods) 33 = .ok (.aload_n 0, 1) := by decide +kernel
theorem dX4_moods_34 : decode (mC mX4_moods) 34 = .ok (.getfield 10, 3) := by decide +kernel
theorem dX4_moods_37 : decode (mC mX4_moods) 37 = .ok (.getfield 126, 3) := by decide +kernel
theorem dX4_moods_40 : decode (mC mX4_moods) 40 = .ok (.iload_n 1, 1) := by decide +kernel
theorem dX4_moods_41 : decode (mC mX4_moods) 41 = .ok (.iload_n 2, 1) := by decide +kernel
theorem dX4_moods_42 : decode (mC mX4_moods) 42 = .ok (.invokestatic 145, 3) := by decide +kernel
theorem dX4_moods_45 : decode (mC mX4_moods) 45 = .ok (.ireturn, 1) := by decide +kernel
theorem dX4_changes_0 : decode (mC mX4_changes) 0 = .ok (.aload_n 0, 1) := by decide +kernel
theorem dX4_changes_1 : decode (mC mX4_changes) 1 = .ok (.getfield 10, 3) := by decide +kernel
theorem dX4_changes_4 : decode (mC mX4_changes) 4 = .ok (.getfield 90, 3) := by decide +kernel
theorem dX4_changes_7 : decode (mC mX4_changes) 7 = .ok (.iload_n 1, 1) := by decide +kernel
theorem dX4_changes_8 : decode (mC mX4_changes) 8 = .ok (.invokevirtual 94, 3) := by decide +kernel
theorem dX4_changes_11 : decode (mC mX4_changes) 11 = .ok (.ifCond .ne 9, 3) := by decide +kernel
theorem dX4_changes_14 : decode (mC mX4_changes) 14 = .ok (.aload_n 0, 1) := by decide +kernel
theorem dX4_changes_15 : decode (mC mX4_changes) 15 = .ok (.iconst (-1), 1) := by decide +kernel
theorem dX4_changes_16 : decode (mC mX4_changes) 16 = .ok (.invokevirtual 45, 3) := by decide +kernel
theorem dX4_changes_19 : decode (mC mX4_changes) 19 = .ok (.ireturn, 1) := by decide +kernel
theorem dX4_changes_20 : decode (mC mX4_changes) 20 = .ok (.iload_n 2, 1) := by decide +kernel
theorem dX4_changes_21 : decode (mC mX4_changes) 21 = .ok (.ifCond .lt 9, 3) := by decide +kernel
theorem dX4_changes_24 : decode (mC mX4_changes) 24 = .ok (.iload_n 2, 1) := by decide +kernel
theorem dX4_changes_25 : decode (mC mX4_changes) 25 = .ok (.bipush 6, 2) := by decide +kernel
theorem dX4_changes_27 : decode (mC mX4_changes) 27 = .ok (.if_icmp .lt 10, 3) := by decide +kernel
theorem dX4_changes_30 : decode (mC mX4_changes) 30 = .ok (.aload_n 0, 1) := by decide +kernel
theorem dX4_changes_31 : decode (mC mX4_changes) 31 = .ok (.bipush (-2), 2) := by decide +kernel
theorem dX4_changes_33 : decode (mC mX4_changes) 33 = .ok (.invokevirtual 45, 3) := by decide +kernel
theorem dX4_changes_36 : decode (mC mX4_changes) 36 = .ok (.ireturn, 1) := by decide +kernel
theorem dX4_changes_37 : decode (mC mX4_changes) 37 = .ok (.iload_n 3, 1) := by decide +kernel
theorem dX4_changes_38 : decode (mC mX4_changes) 38 = .ok (.ifCond .lt 9, 3) := by decide +kernel
theorem dX4_changes_41 : decode (mC mX4_changes) 41 = .ok (.iload_n 3, 1) := by decide +kernel
theorem dX4_changes_42 : decode (mC mX4_changes) 42 = .ok (.bipush 9, 2) := by decide +kernel
theorem dX4_changes_44 : decode (mC mX4_changes) 44 = .ok (.if_icmp .le 9, 3) := by decide +kernel
theorem dX4_changes_47 : decode (mC mX4_changes) 47 = .ok (.aload_n 0, 1) := by decide +kernel
theorem dX4_changes_48 : decode (mC mX4_changes) 48 = .ok (.iload_n 3, 1) := by decide +kernel
theorem dX4_changes_49 : decode (mC mX4_changes) 49 = .ok (.invokevirtual 149, 3) := by decide +kernel
theorem dX4_changes_52 : decode (mC mX4_changes) 52 = .ok (.ireturn, 1) := by decide +kernel
theorem dX4_changes_53 : decode (mC mX4_changes) 53 = .ok (.bipush 10, 2) := by decide +kernel
theorem dX4_changes_55 : decode (mC mX4_changes) 55 = .ok (.aload_n 0, 1) := by decide +kernel
theorem dX4_changes_56 : decode (mC mX4_changes) 56 = .ok (.getfield 10, 3) := by decide +kernel
theorem dX4_changes_59 : decode (mC mX4_changes) 59 = .ok (.getfield 90, 3) := by decide +kernel
theorem dX4_changes_62 : decode (mC mX4_changes) 62 = .ok (.getfield 100, 3) := by decide +kernel
theorem dX4_changes_65 : decode (mC mX4_changes) 65 = .ok (.iload_n 1, 1) := by decide +kernel
theorem dX4_changes_66 : decode (mC mX4_changes) 66 = .ok (.iload_n 2, 1) := by decide +kernel
theorem dX4_changes_67 : decode (mC mX4_changes) 67 = .ok (.invokestatic 145, 3) := by decide +kernel
theorem dX4_changes_70 : decode (mC mX4_changes) 70 = .ok (.imul, 1) := by decide +kernel
theorem dX4_changes_71 : decode (mC mX4_changes) 71 = .ok (.aload_n 0, 1) := by decide +kernel
theorem dX4_changes_72 : decode (mC mX4_changes) 72 = .ok (.getfield 10, 3) := by decide +kernel
theorem dX4_changes_75 : decode (mC mX4_changes) 75 = .ok (.getfield 90, 3) := by decide +kernel
theorem dX4_changes_78 : decode (mC mX4_changes) 78 = .ok (.getfield 107, 3) := by decide +kernel
theorem dX4_changes_81 : decode (mC mX4_changes) 81 = .ok (.iload_n 1, 1) := by decide +kernel
theorem dX4_changes_82 : decode (mC mX4_changes) 82 = .ok (.iload_n 3, 1) := by decide +kernel
theorem dX4_changes_83 : decode (mC mX4_changes) 83 = .ok (.invokestatic 145, 3) := by decide +kernel
theorem dX4_changes_86 : decode (mC mX4_changes) 86 = .ok (.iadd, 1) := by decide +kernel
theorem dX4_changes_87 : decode (mC mX4_changes) 87 = .ok (.ireturn, 1) := by decide +kernel
theorem dX4_hours_0 : decode (mC mX4_hours) 0 = .ok (.iload_n 1, 1) := by decide +kernel
theorem dX4_hours_1 : decode (mC mX4_hours) 1 = .ok (.iconst 1, 1) := by decide +kernel
theorem dX4_hours_2 : decode (mC mX4_hours) 2 = .ok (.if_icmp .ge 10, 3) := by decide +kernel
theorem dX4_hours_5 : decode (mC mX4_hours) 5 = .ok (.aload_n 0, 1) := by decide +kernel
theorem dX4_hours_6 : decode (mC mX4_hours) 6 = .ok (.bipush (-4), 2) := by decide +kernel
theorem dX4_hours_8 : decode (mC mX4_hours) 8 = .ok (.invokevirtual 45, 3) := by decide +kernel
theorem dX4_hours_11 : decode (mC mX4_hours) 11 = .ok (.ireturn, 1) := by decide +kernel
theorem dX4_hours_12 : decode (mC mX4_hours) 12 = .ok (.iload_n 1, 1) := by decide +kernel
theorem dX4_hours_13 : decode (mC mX4_hours) 13 = .ok (.bipush 60, 2) := by decide +kernel
theorem dX4_hours_15 : decode (mC mX4_hours) 15 = .ok (.if_icmp .gt 18, 3) := by decide +kernel
theorem dX4_hours_18 : decode (mC mX4_hours) 18 = .ok (.aload_n 0, 1) := by decide +kernel
theorem dX4_hours_19 : decode (mC mX4_hours) 19 = .ok (.getfield 10, 3) := by decide +kernel
theorem dX4_hours_22 : decode (mC mX4_hours) 22 = .ok (.getfield 129, 3) := by decide +kernel
theorem dX4_hours_25 : decode (mC mX4_hours) 25 = .ok (.iload_n 1, 1) := by decide +kernel
theorem dX4_hours_26 : decode (mC mX4_hours) 26 = .ok (.iadd, 1) := by decide +kernel
theorem dX4_hours_27 : decode (mC mX4_hours) 27 = .ok (.sipush 999, 3) := by decide +kernel
theorem dX4_hours_30 : decode (mC mX4_hours) 30 = .ok (.if_icmp .le 10, 3) := by decide +kernel
theorem dX4_hours_33 : decode (mC mX4_hours) 33 = .ok (.aload_n 0, 1) := by decide +kernel
theorem dX4_hours_34 : decode (mC mX4_hours) 34 = .ok (.bipush (-6), 2) := by decide +kernel
theorem dX4_hours_36 : decode (mC mX4_hours) 36 = .ok (.invokevirtual 45, 3) := by decide +kernel
theorem dX4_hours_39 : decode (mC mX4_hours) 39 = .ok (.ireturn, 1) := by decide +kernel
theorem dX4_hours_40 : decode (mC mX4_hours) 40 = .ok (.aload_n 0, 1) := by decide +kernel
theorem dX4_hours_41 : decode (mC mX4_hours) 41 = .ok (.getfield 10, 3) := by decide +kernel
theorem dX4_hours_44 : decode (mC mX4_hours) 44 = .ok (.iload_n 1, 1) := by decide +kernel
theorem dX4_hours_45 : decode (mC mX4_hours) 45 = .ok (.iconst 0, 1) := by decide +kernel
theorem dX4_hours_46 : decode (mC mX4_hours) 46 = .ok (.invokevirtual 152, 3) := by decide +kernel
theorem dX4_hours_49 : decode (mC mX4_hours) 49 = .ok (.pop, 1) := by decide +kernel
theorem dX4_hours_50 : decode (mC mX4_hours) 50 = .ok (.aload_n 0, 1) := by decide +kernel
theorem dX4_hours_51 : decode (mC mX4_hours) 51 = .ok (.getfield 10, 3) := by decide +kernel
theorem dX4_hours_54 : decode (mC mX4_hours) 54 = .ok (.invokevirtual 156, 3) := by decide +kernel
theorem dX4_hours_57 : decode (mC mX4_hours) 57 = .ok (.ireturn, 1) := by decide +kernel
theorem dX4_personThen_0 : decode (mC mX4_personThen) 0 = .ok (.aload_n 0, 1) := by decide +kernel
theorem dX4_personThen_1 : decode (mC mX4_personThen) 1 = .ok (.getfield 10, 3) := by decide +kernel
theorem dX4_personThen_4 : decode (mC mX4_personThen) 4 = .ok (.iload_n 1, 1) := by decide +kernel
theorem dX4_personThen_5 : decode (mC mX4_personThen) 5 = .ok (.invokevirtual 119, 3) := by decide +kernel
theorem dX4_personThen_8 : decode (mC mX4_personThen) 8 = .ok (.ifCond .ne 9, 3) := by decide +kernel
theorem dX4_personThen_11 : decode (mC mX4_personThen) 11 = .ok (.aload_n 0, 1) := by decide +kernel
theorem dX4_personThen_12 : decode (mC mX4_personThen) 12 = .ok (.iconst (-1), 1) := by decide +kernel
theorem dX4_personThen_13 : decode (mC mX4_personThen) 13 = .ok (.invokevirtual 45, 3) := by decide +kernel
theorem dX4_personThen_16 : decode (mC mX4_personThen) 16 = .ok (.ireturn, 1) := by decide +kernel
theorem dX4_personThen_17 : decode (mC mX4_personThen) 17 = .ok (.iload_n 2, 1) := by decide +kernel
theorem dX4_personThen_18 : decode (mC mX4_personThen) 18 = .ok (.ifCond .lt 9, 3) := by decide +kernel
theorem dX4_personThen_21 : decode (mC mX4_personThen) 21 = .ok (.iload_n 2, 1) := by decide +kernel
theorem dX4_personThen_22 : decode (mC mX4_personThen) 22 = .ok (.bipush 60, 2) := by decide +kernel
theorem dX4_personThen_24 : decode (mC mX4_personThen) 24 = .ok (.if_icmp .le 9, 3) := by decide +kernel
theorem dX4_personThen_27 : decode (mC mX4_personThen) 27 = .ok (.aload_n 0, 1) := by decide +kernel
theorem dX4_personThen_28 : decode (mC mX4_personThen) 28 = .ok (.iload_n 2, 1) := by decide +kernel
theorem dX4_personThen_29 : decode (mC mX4_personThen) 29 = .ok (.invokevirtual 149, 3) := by decide +kernel
theorem dX4_personThen_32 : decode (mC mX4_personThen) 32 = .ok (.ireturn, 1) := by decide +kernel
theorem dX4_personThen_33 : decode (mC mX4_personThen) 33 = .ok (.iload_n 3, 1) := by decide +kernel
theorem dX4_personThen_34 : decode (mC mX4_personThen) 34 = .ok (.invokestatic 159, 3) := by decide +kernel
theorem dX4_personThen_37 : decode (mC mX4_personThen) 37 = .ok (.ifCond .ne 10, 3) := by decide +kernel
theorem dX4_personThen_40 : decode (mC mX4_personThen) 40 = .ok (.aload_n 0, 1) := by decide +kernel
theorem dX4_personThen_41 : decode (mC mX4_personThen) 41 = .ok (.bipush (-2), 2) := by decide +kernel
theorem dX4_personThen_43 : decode (mC mX4_personThen) 43 = .ok (.invokevirtual 45, 3) := by decide +kernel
theorem dX4_personThen_46 : decode (mC mX4_personThen) 46 = .ok (.ireturn, 1) := by decide +kernel
theorem dX4_personThen_47 : decode (mC mX4_personThen) 47 = .ok (.aload_n 0, 1) := by decide +kernel
theorem dX4_personThen_48 : decode (mC mX4_personThen) 48 = .ok (.getfield 16, 3) := by decide +kernel
theorem dX4_personThen_51 : decode (mC mX4_personThen) 51 = .ok (.aload_n 0, 1) := by decide +kernel
theorem dX4_personThen_52 : decode (mC mX4_personThen) 52 = .ok (.getfield 10, 3) := by decide +kernel
theorem dX4_personThen_55 : decode (mC mX4_personThen) 55 = .ok (.invokevirtual 69, 3) := by decide +kernel
theorem dX4_personThen_58 : decode (mC mX4_personThen) 58 = .ok (.aload_n 0, 1) := by decide +kernel
theorem dX4_personThen_59 : decode (mC mX4_personThen) 59 = .ok (.getfield 16, 3) := by decide +kernel
theorem dX4_personThen_62 : decode (mC mX4_personThen) 62 = .ok (.iload_n 2, 1) := by decide +kernel
theorem dX4_personThen_63 : decode (mC mX4_personThen) 63 = .ok (.iconst 0, 1) := by decide +kernel
theorem dX4_personThen_64 : decode (mC mX4_personThen) 64 = .ok (.invokevirtual 152, 3) := by decide +kernel
theorem dX4_personThen_67 : decode (mC mX4_personThen) 67 = .ok (.pop, 1) := by decide +kernel
theorem dX4_personThen_68 : decode (mC mX4_personThen) 68 = .ok (.iload_n 3, 1) := by decide +kernel
theorem dX4_personThen_69 : decode (mC mX4_personThen) 69 = .ok (.ifCond .ne 13, 3) := by decide +kernel
theorem dX4_personThen_72 : decode (mC mX4_personThen) 72 = .ok (.aload_n 0, 1) := by decide +kernel
theorem dX4_personThen_73 : decode (mC mX4_personThen) 73 = .ok (.getfield 16, 3) := by decide +kernel
theorem dX4_personThen_76 : decode (mC mX4_personThen) 76 = .ok (.getfield 120, 3) := by decide +kernel
theorem dX4_personThen_79 : decode (mC mX4_personThen) 79 = .ok (.goto 10, 3) := by decide +kernel
theorem dX4_personThen_82 : decode (mC mX4_personThen) 82 = .ok (.aload_n 0, 1) := by decide +kernel
theorem dX4_personThen_83 : decode (mC mX4_personThen) 83 = .ok (.getfield 16, 3) := by decide +kernel
theorem dX4_personThen_86 : decode (mC mX4_personThen) 86 = .ok (.getfield 126, 3) := by decide +kernel
theorem dX4_personThen_89 : decode (mC mX4_personThen) 89 = .ok (.iload_n 1, 1) := by decide +kernel
theorem dX4_personThen_90 : decode (mC mX4_personThen) 90 = .ok (.invokestatic 103, 3) := by decide +kernel
theorem dX4_personThen_93 : decode (mC mX4_personThen) 93 = .ok (.ireturn, 1) := by decide +kernel
theorem dX4_letThen_0 : decode (mC mX4_letThen) 0 = .ok (.iload_n 1, 1) := by decide +kernel
theorem dX4_letThen_1 : decode (mC mX4_letThen) 1 = .ok (.ifCond .lt 9, 3) := by decide +kernel
theorem dX4_letThen_4 : decode (mC mX4_letThen) 4 = .ok (.iload_n 1, 1) := by decide +kernel
theorem dX4_letThen_5 : decode (mC mX4_letThen) 5 = .ok (.bipush 60, 2) := by decide +kernel
theorem dX4_letThen_7 : decode (mC mX4_letThen) 7 = .ok (.if_icmp .le 9, 3) := by decide +kernel
theorem dX4_letThen_10 : decode (mC mX4_letThen) 10 = .ok (.aload_n 0, 1) := by decide +kernel
theorem dX4_letThen_11 : decode (mC mX4_letThen) 11 = .ok (.iload_n 1, 1) := by decide +kernel
theorem dX4_letThen_12 : decode (mC mX4_letThen) 12 = .ok (.invokevirtual 149, 3) := by decide +kernel
theorem dX4_letThen_15 : decode (mC mX4_letThen) 15 = .ok (.ireturn, 1) := by decide +kernel
theorem dX4_letThen_16 : decode (mC mX4_letThen) 16 = .ok (.aload_n 0, 1) := by decide +kernel
theorem dX4_letThen_17 : decode (mC mX4_letThen) 17 = .ok (.getfield 16, 3) := by decide +kernel
theorem dX4_letThen_20 : decode (mC mX4_letThen) 20 = .ok (.aload_n 0, 1) := by decide +kernel
theorem dX4_letThen_21 : decode (mC mX4_letThen) 21 = .ok (.getfield 10, 3) := by decide +kernel
theorem dX4_letThen_24 : decode (mC mX4_letThen) 24 = .ok (.invokevirtual 69, 3) := by decide +kernel
theorem dX4_letThen_27 : decode (mC mX4_letThen) 27 = .ok (.aload_n 0, 1) := by decide +kernel
theorem dX4_letThen_28 : decode (mC mX4_letThen) 28 = .ok (.getfield 16, 3) := by decide +kernel
theorem dX4_letThen_31 : decode (mC mX4_letThen) 31 = .ok (.iload_n 1, 1) := by decide +kernel
theorem dX4_letThen_32 : decode (mC mX4_letThen) 32 = .ok (.iconst 0, 1) := by decide +kernel
theorem dX4_letThen_33 : decode (mC mX4_letThen) 33 = .ok (.invokevirtual 152, 3) := by decide +kernel
theorem dX4_letThen_36 : decode (mC mX4_letThen) 36 = .ok (.pop, 1) := by decide +kernel
theorem dX4_letThen_37 : decode (mC mX4_letThen) 37 = .ok (.aload_n 0, 1) := by decide +kernel
theorem dX4_letThen_38 : decode (mC mX4_letThen) 38 = .ok (.getfield 16, 3) := by decide +kernel
theorem dX4_letThen_41 : decode (mC mX4_letThen) 41 = .ok (.getfield 162, 3) := by decide +kernel
theorem dX4_letThen_44 : decode (mC mX4_letThen) 44 = .ok (.ireturn, 1) := by decide +kernel
theorem dX4_comes_0 : decode (mC mX4_comes) 0 = .ok (.aload_n 0, 1) := by decide +kernel
theorem dX4_comes_1 : decode (mC mX4_comes) 1 = .ok (.getfield 10, 3) := by decide +kernel
theorem dX4_comes_4 : decode (mC mX4_comes) 4 = .ok (.iload_n 1, 1) := by decide +kernel
theorem dX4_comes_5 : decode (mC mX4_comes) 5 = .ok (.invokevirtual 119, 3) := by decide +kernel
theorem dX4_comes_8 : decode (mC mX4_comes) 8 = .ok (.ifCond .eq 10, 3) := by decide +kernel
theorem dX4_comes_11 : decode (mC mX4_comes) 11 = .ok (.iload_n 2, 1) := by decide +kernel
theorem dX4_comes_12 : decode (mC mX4_comes) 12 = .ok (.invokestatic 142, 3) := by decide +kernel
theorem dX4_comes_15 : decode (mC mX4_comes) 15 = .ok (.ifCond .ne 9, 3) := by decide +kernel
theorem dX4_comes_18 : decode (mC mX4_comes) 18 = .ok (.aload_n 0, 1) := by decide +kernel
theorem dX4_comes_19 : decode (mC mX4_comes) 19 = .ok (.iconst (-1), 1) := by decide +kernel
theorem dX4_comes_20 : decode (mC mX4_comes) 20 = .ok (.invokevirtual 45, 3) := by decide +kernel
theorem dX4_comes_23 : decode (mC mX4_comes) 23 = .ok (.ireturn, 1) := by decide +kernel
theorem dX4_comes_24 : decode (mC mX4_comes) 24 = .ok (.aload_n 0, 1) := by decide +kernel
theorem dX4_comes_25 : decode (mC mX4_comes) 25 = .ok (.iload_n 1, 1) := by decide +kernel
theorem dX4_comes_26 : decode (mC mX4_comes) 26 = .ok (.iload_n 2, 1) := by decide +kernel
theorem dX4_comes_27 : decode (mC mX4_comes) 27 = .ok (.invokevirtual 165, 3) := by decide +kernel
theorem dX4_comes_30 : decode (mC mX4_comes) 30 = .ok (.ireturn, 1) := by decide +kernel
theorem dX4_home_0 : decode (mC mX4_home) 0 = .ok (.iload_n 1, 1) := by decide +kernel
theorem dX4_home_1 : decode (mC mX4_home) 1 = .ok (.iconst (-1), 1) := by decide +kernel
theorem dX4_home_2 : decode (mC mX4_home) 2 = .ok (.if_icmp .ne 8, 3) := by decide +kernel
theorem dX4_home_5 : decode (mC mX4_home) 5 = .ok (.aload_n 0, 1) := by decide +kernel
theorem dX4_home_6 : decode (mC mX4_home) 6 = .ok (.invokevirtual 168, 3) := by decide +kernel
theorem dX4_home_9 : decode (mC mX4_home) 9 = .ok (.ireturn, 1) := by decide +kernel
theorem dX4_home_10 : decode (mC mX4_home) 10 = .ok (.aload_n 0, 1) := by decide +kernel
theorem dX4_home_11 : decode (mC mX4_home) 11 = .ok (.getfield 10, 3) := by decide +kernel
theorem dX4_home_14 : decode (mC mX4_home) 14 = .ok (.iload_n 1, 1) := by decide +kernel
theorem dX4_home_15 : decode (mC mX4_home) 15 = .ok (.invokevirtual 119, 3) := by decide +kernel
theorem dX4_home_18 : decode (mC mX4_home) 18 = .ok (.ifCond .ne 9, 3) := by decide +kernel
theorem dX4_home_21 : decode (mC mX4_home) 21 = .ok (.aload_n 0, 1) := by decide +kernel
theorem dX4_home_22 : decode (mC mX4_home) 22 = .ok (.iconst (-1), 1) := by decide +kernel
theorem dX4_home_23 : decode (mC mX4_home) 23 = .ok (.invokevirtual 45, 3) := by decide +kernel
theorem dX4_home_26 : decode (mC mX4_home) 26 = .ok (.ireturn, 1) := by decide +kernel
theorem dX4_home_27 : decode (mC mX4_home) 27 = .ok (.aload_n 0, 1) := by decide +kernel
theorem dX4_home_28 : decode (mC mX4_home) 28 = .ok (.iload_n 1, 1) := by decide +kernel
theorem dX4_home_29 : decode (mC mX4_home) 29 = .ok (.aload_n 0, 1) := by decide +kernel
theorem dX4_home_30 : decode (mC mX4_home) 30 = .ok (.getfield 10, 3) := by decide +kernel
theorem dX4_home_33 : decode (mC mX4_home) 33 = .ok (.getfield 123, 3) := by decide +kernel
theorem dX4_home_36 : decode (mC mX4_home) 36 = .ok (.iload_n 1, 1) := by decide +kernel
theorem dX4_home_37 : decode (mC mX4_home) 37 = .ok (.invokestatic 103, 3) := by decide +kernel
theorem dX4_home_40 : decode (mC mX4_home) 40 = .ok (.invokevirtual 165, 3) := by decide +kernel
theorem dX4_home_43 : decode (mC mX4_home) 43 = .ok (.ireturn, 1) := by decide +kernel
theorem dX4_firstHourIn_0 : decode (mC mX4_firstHourIn) 0 = .ok (.aload_n 0, 1) := by decide +kernel
theorem dX4_firstHourIn_1 : decode (mC mX4_firstHourIn) 1 = .ok (.getfield 16, 3) := by decide +kernel
theorem dX4_firstHourIn_4 : decode (mC mX4_firstHourIn) 4 = .ok (.aload_n 0, 1) := by decide +kernel
theorem dX4_firstHourIn_5 : decode (mC mX4_firstHourIn) 5 = .ok (.getfield 10, 3) := by decide +kernel
theorem dX4_firstHourIn_8 : decode (mC mX4_firstHourIn) 8 = .ok (.invokevirtual 69, 3) := by decide +kernel
theorem dX4_firstHourIn_11 : decode (mC mX4_firstHourIn) 11 = .ok (.iconst 0, 1) := by decide +kernel
theorem dX4_firstHourIn_12 : decode (mC mX4_firstHourIn) 12 = .ok (.istore_n 3, 1) := by decide +kernel
theorem dX4_firstHourIn_13 : decode (mC mX4_firstHourIn) 13 = .ok (.iload_n 3, 1) := by decide +kernel
theorem dX4_firstHourIn_14 : decode (mC mX4_firstHourIn) 14 = .ok (.bipush 60, 2) := by decide +kernel
theorem dX4_firstHourIn_16 : decode (mC mX4_firstHourIn) 16 = .ok (.if_icmp .gt 36, 3) := by decide +kernel
theorem dX4_firstHourIn_19 : decode (mC mX4_firstHourIn) 19 = .ok (.aload_n 0, 1) := by decide +kernel
theorem dX4_firstHourIn_20 : decode (mC mX4_firstHourIn) 20 = .ok (.getfield 16, 3) := by decide +kernel
theorem dX4_firstHourIn_23 : decode (mC mX4_firstHourIn) 23 = .ok (.getfield 120, 3) := by decide +kernel
theorem dX4_firstHourIn_26 : decode (mC mX4_firstHourIn) 26 = .ok (.iload_n 1, 1) := by decide +kernel
theorem dX4_firstHourIn_27 : decode (mC mX4_firstHourIn) 27 = .ok (.invokestatic 103, 3) := by decide +kernel
theorem dX4_firstHourIn_30 : decode (mC mX4_firstHourIn) 30 = .ok (.iload_n 2, 1) := by decide +kernel
theorem dX4_firstHourIn_31 : decode (mC mX4_firstHourIn) 31 = .ok (.if_icmp .ne 5, 3) := by decide +kernel
theorem dX4_firstHourIn_34 : decode (mC mX4_firstHourIn) 34 = .ok (.iload_n 3, 1) := by decide +kernel
theorem dX4_firstHourIn_35 : decode (mC mX4_firstHourIn) 35 = .ok (.ireturn, 1) := by decide +kernel
theorem dX4_firstHourIn_36 : decode (mC mX4_firstHourIn) 36 = .ok (.aload_n 0, 1) := by decide +kernel
theorem dX4_firstHourIn_37 : decode (mC mX4_firstHourIn) 37 = .ok (.getfield 16, 3) := by decide +kernel
theorem dX4_firstHourIn_40 : decode (mC mX4_firstHourIn) 40 = .ok (.iconst 1, 1) := by decide +kernel
theorem dX4_firstHourIn_41 : decode (mC mX4_firstHourIn) 41 = .ok (.iconst 0, 1) := by decide +kernel
theorem dX4_firstHourIn_42 : decode (mC mX4_firstHourIn) 42 = .ok (.invokevirtual 152, 3) := by decide +kernel
theorem dX4_firstHourIn_45 : decode (mC mX4_firstHourIn) 45 = .ok (.pop, 1) := by decide +kernel
theorem dX4_firstHourIn_46 : decode (mC mX4_firstHourIn) 46 = .ok (.iinc 3 1, 3) := by decide +kernel
theorem dX4_firstHourIn_49 : decode (mC mX4_firstHourIn) 49 = .ok (.goto (-36), 3) := by decide +kernel
theorem dX4_firstHourIn_52 : decode (mC mX4_firstHourIn) 52 = .ok (.bipush (-9), 2) := by decide +kernel
theorem dX4_firstHourIn_54 : decode (mC mX4_firstHourIn) 54 = .ok (.ireturn, 1) := by decide +kernel
theorem dX4_firstHourAllHome_0 : decode (mC mX4_firstHourAllHome) 0 = .ok (.aload_n 0, 1) := by decide +kernel
theorem dX4_firstHourAllHome_1 : decode (mC mX4_firstHourAllHome) 1 = .ok (.getfield 16, 3) := by decide +kernel
theorem dX4_firstHourAllHome_4 : decode (mC mX4_firstHourAllHome) 4 = .ok (.aload_n 0, 1) := by decide +kernel
theorem dX4_firstHourAllHome_5 : decode (mC mX4_firstHourAllHome) 5 = .ok (.getfield 10, 3) := by decide +kernel
theorem dX4_firstHourAllHome_8 : decode (mC mX4_firstHourAllHome) 8 = .ok (.invokevirtual 69, 3) := by decide +kernel
theorem dX4_firstHourAllHome_11 : decode (mC mX4_firstHourAllHome) 11 = .ok (.iconst 0, 1) := by decide +kernel
theorem dX4_firstHourAllHome_12 : decode (mC mX4_firstHourAllHome) 12 = .ok (.istore_n 1, 1) := by decide +kernel
theorem dX4_firstHourAllHome_13 : decode (mC mX4_firstHourAllHome) 13 = .ok (.iload_n 1, 1) := by decide +kernel
theorem dX4_firstHourAllHome_14 : decode (mC mX4_firstHourAllHome) 14 = .ok (.bipush 60, 2) := by decide +kernel
theorem dX4_firstHourAllHome_16 : decode (mC mX4_firstHourAllHome) 16 = .ok (.if_icmp .gt 38, 3) := by decide +kernel
theorem dX4_firstHourAllHome_19 : decode (mC mX4_firstHourAllHome) 19 = .ok (.aload_n 0, 1) := by decide +kernel
theorem dX4_firstHourAllHome_20 : decode (mC mX4_firstHourAllHome) 20 = .ok (.getfield 16, 3) := by decide +kernel
theorem dX4_firstHourAllHome_23 : decode (mC mX4_firstHourAllHome) 23 = .ok (.invokevirtual 156, 3) := by decide +kernel
theorem dX4_firstHourAllHome_26 : decode (mC mX4_firstHourAllHome) 26 = .ok (.aload_n 0, 1) := by decide +kernel
theorem dX4_firstHourAllHome_27 : decode (mC mX4_firstHourAllHome) 27 = .ok (.getfield 16, 3) := by decide +kernel
theorem dX4_firstHourAllHome_30 : decode (mC mX4_firstHourAllHome) 30 = .ok (.getfield 171, 3) := by decide +kernel
theorem dX4_firstHourAllHome_33 : decode (mC mX4_firstHourAllHome) 33 = .ok (.if_icmp .ne 5, 3) := by decide +kernel
theorem dX4_firstHourAllHome_36 : decode (mC mX4_firstHourAllHome) 36 = .ok (.iload_n 1, 1) := by decide +kernel
theorem dX4_firstHourAllHome_37 : decode (mC mX4_firstHourAllHome) 37 = .ok (.ireturn, 1) := by decide +kernel
theorem dX4_firstHourAllHome_38 : decode (mC mX4_firstHourAllHome) 38 = .ok (.aload_n 0, 1) := by decide +kernel
theorem dX4_firstHourAllHome_39 : decode (mC mX4_firstHourAllHome) 39 = .ok (.getfield 16, 3) := by decide +kernel
theorem dX4_firstHourAllHome_42 : decode (mC mX4_firstHourAllHome) 42 = .ok (.iconst 1, 1) := by decide +kernel
theorem dX4_firstHourAllHome_43 : decode (mC mX4_firstHourAllHome) 43 = .ok (.iconst 0, 1) := by decide +kernel
theorem dX4_firstHourAllHome_44 : decode (mC mX4_firstHourAllHome) 44 = .ok (.invokevirtual 152, 3) := by decide +kernel
theorem dX4_firstHourAllHome_47 : decode (mC mX4_firstHourAllHome) 47 = .ok (.pop, 1) := by decide +kernel
theorem dX4_firstHourAllHome_48 : decode (mC mX4_firstHourAllHome) 48 = .ok (.iinc 1 1, 3) := by decide +kernel
theorem dX4_firstHourAllHome_51 : decode (mC mX4_firstHourAllHome) 51 = .ok (.goto (-38), 3) := by decide +kernel
theorem dX4_firstHourAllHome_54 : decode (mC mX4_firstHourAllHome) 54 = .ok (.bipush (-9), 2) := by decide +kernel
theorem dX4_firstHourAllHome_56 : decode (mC mX4_firstHourAllHome) 56 = .ok (.ireturn, 1) := by decide +kernel
theorem dX4_shutIn_0 : decode (mC mX4_shutIn) 0 = .ok (.iconst 0, 1) := by decide +kernel
theorem dX4_shutIn_1 : decode (mC mX4_shutIn) 1 = .ok (.istore_n 1, 1) := by decide +kernel
theorem dX4_shutIn_2 : decode (mC mX4_shutIn) 2 = .ok (.iconst 0, 1) := by decide +kernel
theorem dX4_shutIn_3 : decode (mC mX4_shutIn) 3 = .ok (.istore_n 2, 1) := by decide +kernel
theorem dX4_shutIn_4 : decode (mC mX4_shutIn) 4 = .ok (.iload_n 2, 1) := by decide +kernel
theorem dX4_shutIn_5 : decode (mC mX4_shutIn) 5 = .ok (.aload_n 0, 1) := by decide +kernel
theorem dX4_shutIn_6 : decode (mC mX4_shutIn) 6 = .ok (.getfield 10, 3) := by decide +kernel
theorem dX4_shutIn_9 : decode (mC mX4_shutIn) 9 = .ok (.getfield 171, 3) := by decide +kernel
theorem dX4_shutIn_12 : decode (mC mX4_shutIn) 12 = .ok (.if_icmp .ge 53, 3) := by decide +kernel
theorem dX4_shutIn_15 : decode (mC mX4_shutIn) 15 = .ok (.aload_n 0, 1) := by decide +kernel
theorem dX4_shutIn_16 : decode (mC mX4_shutIn) 16 = .ok (.getfield 10, 3) := by decide +kernel
theorem dX4_shutIn_19 : decode (mC mX4_shutIn) 19 = .ok (.getfield 90, 3) := by decide +kernel
theorem dX4_shutIn_22 : decode (mC mX4_shutIn) 22 = .ok (.aload_n 0, 1) := by decide +kernel
theorem dX4_shutIn_23 : decode (mC mX4_shutIn) 23 = .ok (.getfield 10, 3) := by decide +kernel
theorem dX4_shutIn_26 : decode (mC mX4_shutIn) 26 = .ok (.getfield 120, 3) := by decide +kernel
theorem dX4_shutIn_29 : decode (mC mX4_shutIn) 29 = .ok (.iload_n 2, 1) := by decide +kernel
theorem dX4_shutIn_30 : decode (mC mX4_shutIn) 30 = .ok (.invokestatic 103, 3) := by decide +kernel
theorem dX4_shutIn_33 : decode (mC mX4_shutIn) 33 = .ok (.aload_n 0, 1) := by decide +kernel
theorem dX4_shutIn_34 : decode (mC mX4_shutIn) 34 = .ok (.getfield 10, 3) := by decide +kernel
theorem dX4_shutIn_37 : decode (mC mX4_shutIn) 37 = .ok (.getfield 123, 3) := by decide +kernel
theorem dX4_shutIn_40 : decode (mC mX4_shutIn) 40 = .ok (.iload_n 2, 1) := by decide +kernel
theorem dX4_shutIn_41 : decode (mC mX4_shutIn) 41 = .ok (.invokestatic 103, 3) := by decide +kernel
theorem dX4_shutIn_44 : decode (mC mX4_shutIn) 44 = .ok (.invokevirtual 172, 3) := by decide +kernel
theorem dX4_shutIn_47 : decode (mC mX4_shutIn) 47 = .ok (.sipush 1000, 3) := by decide +kernel
theorem dX4_shutIn_50 : decode (mC mX4_shutIn) 50 = .ok (.if_icmp .ne 9, 3) := by decide +kernel
theorem dX4_shutIn_53 : decode (mC mX4_shutIn) 53 = .ok (.iload_n 1, 1) := by decide +kernel
theorem dX4_shutIn_54 : decode (mC mX4_shutIn) 54 = .ok (.iconst 1, 1) := by decide +kernel
theorem dX4_shutIn_55 : decode (mC mX4_shutIn) 55 = .ok (.iload_n 2, 1) := by decide +kernel
theorem dX4_shutIn_56 : decode (mC mX4_shutIn) 56 = .ok (.ishl, 1) := by decide +kernel
theorem dX4_shutIn_57 : decode (mC mX4_shutIn) 57 = .ok (.ior, 1) := by decide +kernel
theorem dX4_shutIn_58 : decode (mC mX4_shutIn) 58 = .ok (.istore_n 1, 1) := by decide +kernel
theorem dX4_shutIn_59 : decode (mC mX4_shutIn) 59 = .ok (.iinc 2 1, 3) := by decide +kernel
theorem dX4_shutIn_62 : decode (mC mX4_shutIn) 62 = .ok (.goto (-58), 3) := by decide +kernel
theorem dX4_shutIn_65 : decode (mC mX4_shutIn) 65 = .ok (.iload_n 1, 1) := by decide +kernel
theorem dX4_shutIn_66 : decode (mC mX4_shutIn) 66 = .ok (.ireturn, 1) := by decide +kernel
theorem dX4_stuck_0 : decode (mC mX4_stuck) 0 = .ok (.aload_n 0, 1) := by decide +kernel
theorem dX4_stuck_1 : decode (mC mX4_stuck) 1 = .ok (.getfield 16, 3) := by decide +kernel
theorem dX4_stuck_4 : decode (mC mX4_stuck) 4 = .ok (.aload_n 0, 1) := by decide +kernel
theorem dX4_stuck_5 : decode (mC mX4_stuck) 5 = .ok (.getfield 10, 3) := by decide +kernel
theorem dX4_stuck_8 : decode (mC mX4_stuck) 8 = .ok (.invokevirtual 69, 3) := by decide +kernel
theorem dX4_stuck_11 : decode (mC mX4_stuck) 11 = .ok (.iconst 0, 1) := by decide +kernel
theorem dX4_stuck_12 : decode (mC mX4_stuck) 12 = .ok (.istore_n 1, 1) := by decide +kernel
theorem dX4_stuck_13 : decode (mC mX4_stuck) 13 = .ok (.iconst 1, 1) := by decide +kernel
theorem dX4_stuck_14 : decode (mC mX4_stuck) 14 = .ok (.istore_n 2, 1) := by decide +kernel
theorem dX4_stuck_15 : decode (mC mX4_stuck) 15 = .ok (.iload_n 2, 1) := by decide +kernel
theorem dX4_stuck_16 : decode (mC mX4_stuck) 16 = .ok (.bipush 72, 2) := by decide +kernel
theorem dX4_stuck_18 : decode (mC mX4_stuck) 18 = .ok (.if_icmp .gt 40, 3) := by decide +kernel
theorem dX4_stuck_21 : decode (mC mX4_stuck) 21 = .ok (.aload_n 0, 1) := by decide +kernel
theorem dX4_stuck_22 : decode (mC mX4_stuck) 22 = .ok (.getfield 16, 3) := by decide +kernel
theorem dX4_stuck_25 : decode (mC mX4_stuck) 25 = .ok (.iconst 1, 1) := by decide +kernel
theorem dX4_stuck_26 : decode (mC mX4_stuck) 26 = .ok (.iconst 0, 1) := by decide +kernel
theorem dX4_stuck_27 : decode (mC mX4_stuck) 27 = .ok (.invokevirtual 152, 3) := by decide +kernel
theorem dX4_stuck_30 : decode (mC mX4_stuck) 30 = .ok (.ifCond .ne 9, 3) := by decide +kernel
theorem dX4_stuck_33 : decode (mC mX4_stuck) 33 = .ok (.iload_n 1, 1) := by decide +kernel
theorem dX4_stuck_34 : decode (mC mX4_stuck) 34 = .ok (.iconst 1, 1) := by decide +kernel
theorem dX4_stuck_35 : decode (mC mX4_stuck) 35 = .ok (.iadd, 1) := by decide +kernel
theorem dX4_stuck_36 : decode (mC mX4_stuck) 36 = .ok (.goto 4, 3) := by decide +kernel
theorem dX4_stuck_39 : decode (mC mX4_stuck) 39 = .ok (.iconst 0, 1) := by decide +kernel
theorem dX4_stuck_40 : decode (mC mX4_stuck) 40 = .ok (.istore_n 1, 1) := by decide +kernel
theorem dX4_stuck_41 : decode (mC mX4_stuck) 41 = .ok (.iload_n 1, 1) := by decide +kernel
theorem dX4_stuck_42 : decode (mC mX4_stuck) 42 = .ok (.bipush 12, 2) := by decide +kernel
theorem dX4_stuck_44 : decode (mC mX4_stuck) 44 = .ok (.if_icmp .ne 8, 3) := by decide +kernel
theorem dX4_stuck_47 : decode (mC mX4_stuck) 47 = .ok (.iload_n 2, 1) := by decide +kernel
theorem dX4_stuck_48 : decode (mC mX4_stuck) 48 = .ok (.bipush 12, 2) := by decide +kernel
theorem dX4_stuck_50 : decode (mC mX4_stuck) 50 = .ok (.isub, 1) := by decide +kernel
theorem dX4_stuck_51 : decode (mC mX4_stuck) 51 = .ok (.ireturn, 1) := by decide +kernel
theorem dX4_stuck_52 : decode (mC mX4_stuck) 52 = .ok (.iinc 2 1, 3) := by decide +kernel
theorem dX4_stuck_55 : decode (mC mX4_stuck) 55 = .ok (.goto (-40), 3) := by decide +kernel
theorem dX4_stuck_58 : decode (mC mX4_stuck) 58 = .ok (.bipush (-9), 2) := by decide +kernel
theorem dX4_stuck_60 : decode (mC mX4_stuck) 60 = .ok (.ireturn, 1) := by decide +kernel
theorem dX4_way_0 : decode (mC mX4_way) 0 = .ok (.iload_n 1, 1) := by decide +kernel
theorem dX4_way_1 : decode (mC mX4_way) 1 = .ok (.invokestatic 142, 3) := by decide +kernel
theorem dX4_way_4 : decode (mC mX4_way) 4 = .ok (.ifCond .eq 10, 3) := by decide +kernel
theorem dX4_way_7 : decode (mC mX4_way) 7 = .ok (.iload_n 2, 1) := by decide +kernel
theorem dX4_way_8 : decode (mC mX4_way) 8 = .ok (.invokestatic 142, 3) := by decide +kernel
theorem dX4_way_11 : decode (mC mX4_way) 11 = .ok (.ifCond .ne 9, 3) := by decide +kernel
theorem dX4_way_14 : decode (mC mX4_way) 14 = .ok (.aload_n 0, 1) := by decide +kernel
theorem dX4_way_15 : decode (mC mX4_way) 15 = .ok (.iconst (-1), 1) := by decide +kernel
theorem dX4_way_16 : decode (mC mX4_way) 16 = .ok (.invokevirtual 45, 3) := by decide +kernel
theorem dX4_way_19 : decode (mC mX4_way) 19 = .ok (.ireturn, 1) := by decide +kernel
theorem dX4_way_20 : decode (mC mX4_way) 20 = .ok (.iload_n 3, 1) := by decide +kernel
theorem dX4_way_21 : decode (mC mX4_way) 21 = .ok (.invokestatic 159, 3) := by decide +kernel
theorem dX4_way_24 : decode (mC mX4_way) 24 = .ok (.ifCond .ne 10, 3) := by decide +kernel
theorem dX4_way_27 : decode (mC mX4_way) 27 = .ok (.aload_n 0, 1) := by decide +kernel
theorem dX4_way_28 : decode (mC mX4_way) 28 = .ok (.bipush (-2), 2) := by decide +kernel
theorem dX4_way_30 : decode (mC mX4_way) 30 = .ok (.invokevirtual 45, 3) := by decide +kernel
theorem dX4_way_33 : decode (mC mX4_way) 33 = .ok (.ireturn, 1) := by decide +kernel
theorem dX4_way_34 : decode (mC mX4_way) 34 = .ok (.iload_n 3, 1) := by decide +kernel
theorem dX4_way_35 : decode (mC mX4_way) 35 = .ok (.ifCond .ne 19, 3) := by decide +kernel
theorem dX4_way_38 : decode (mC mX4_way) 38 = .ok (.aload_n 0, 1) := by decide +kernel
theorem dX4_way_39 : decode (mC mX4_way) 39 = .ok (.getfield 10, 3) := by decide +kernel
theorem dX4_way_42 : decode (mC mX4_way) 42 = .ok (.getfield 90, 3) := by decide +kernel
theorem dX4_way_45 : decode (mC mX4_way) 45 = .ok (.iload_n 1, 1) := by decide +kernel
theorem dX4_way_46 : decode (mC mX4_way) 46 = .ok (.iload_n 2, 1) := by decide +kernel
theorem dX4_way_47 : decode (mC mX4_way) 47 = .ok (.invokevirtual 172, 3) := by decide +kernel
theorem dX4_way_50 : decode (mC mX4_way) 50 = .ok (.invokestatic 175, 3) := by decide +kernel
theorem dX4_way_53 : decode (mC mX4_way) 53 = .ok (.ireturn, 1) := by decide +kernel
theorem dX4_way_54 : decode (mC mX4_way) 54 = .ok (.aload_n 0, 1) := by decide +kernel
theorem dX4_way_55 : decode (mC mX4_way) 55 = .ok (.getfield 10, 3) := by decide +kernel
theorem dX4_way_58 : decode (mC mX4_way) 58 = .ok (.getfield 90, 3) := by decide +kernel
theorem dX4_way_61 : decode (mC mX4_way) 61 = .ok (.iload_n 1, 1) := by decide +kernel
theorem dX4_way_62 : decode (mC mX4_way) 62 = .ok (.iload_n 2, 1) := by decide +kernel
theorem dX4_way_63 : decode (mC mX4_way) 63 = .ok (.invokevirtual 178, 3) := by decide +kernel
theorem dX4_way_66 : decode (mC mX4_way) 66 = .ok (.istore 4, 2) := by decide +kernel
theorem dX4_way_68 : decode (mC mX4_way) 68 = .ok (.iconst 0, 1) := by decide +kernel
theorem dX4_way_69 : decode (mC mX4_way) 69 = .ok (.istore 5, 2) := by decide +kernel
theorem dX4_way_71 : decode (mC mX4_way) 71 = .ok (.iload 5, 2) := by decide +kernel
theorem dX4_way_73 : decode (mC mX4_way) 73 = .ok (.aload_n 0, 1) := by decide +kernel
theorem dX4_way_74 : decode (mC mX4_way) 74 = .ok (.getfield 10, 3) := by decide +kernel
theorem dX4_way_77 : decode (mC mX4_way) 77 = .ok (.getfield 90, 3) := by decide +kernel
theorem dX4_way_80 : decode (mC mX4_way) 80 = .ok (.getfield 181, 3) := by decide +kernel
theorem dX4_way_83 : decode (mC mX4_way) 83 = .ok (.if_icmp .ge 22, 3) := by decide +kernel
theorem dX4_way_86 : decode (mC mX4_way) 86 = .ok (.iload 4, 2) := by decide +kernel
theorem dX4_way_88 : decode (mC mX4_way) 88 = .ok (.iload 5, 2) := by decide +kernel
theorem dX4_way_90 : decode (mC mX4_way) 90 = .ok (.invokestatic 182, 3) := by decide +kernel
theorem dX4_way_93 : decode (mC mX4_way) 93 = .ok (.ifCond .eq 6, 3) := by decide +kernel
theorem dX4_way_96 : decode (mC mX4_way) 96 = .ok (.iload 5, 2) := by decide +kernel
theorem dX4_way_98 : decode (mC mX4_way) 98 = .ok (.ireturn, 1) := by decide +kernel
theorem dX4_way_99 : decode (mC mX4_way) 99 = .ok (.iinc 5 1, 3) := by decide +kernel
theorem dX4_way_102 : decode (mC mX4_way) 102 = .ok (.goto (-31), 3) := by decide +kernel
theorem dX4_way_105 : decode (mC mX4_way) 105 = .ok (.bipush (-9), 2) := by decide +kernel
theorem dX4_way_107 : decode (mC mX4_way) 107 = .ok (.ireturn, 1) := by decide +kernel
theorem dX4_round_0 : decode (mC mX4_round) 0 = .ok (.iload_n 1, 1) := by decide +kernel
theorem dX4_round_1 : decode (mC mX4_round) 1 = .ok (.invokestatic 142, 3) := by decide +kernel
theorem dX4_round_4 : decode (mC mX4_round) 4 = .ok (.ifCond .ne 9, 3) := by decide +kernel
theorem dX4_round_7 : decode (mC mX4_round) 7 = .ok (.aload_n 0, 1) := by decide +kernel
theorem dX4_round_8 : decode (mC mX4_round) 8 = .ok (.iconst (-1), 1) := by decide +kernel
theorem dX4_round_9 : decode (mC mX4_round) 9 = .ok (.invokevirtual 45, 3) := by decide +kernel
theorem dX4_round_12 : decode (mC mX4_round) 12 = .ok (.ireturn, 1) := by decide +kernel
theorem dX4_round_13 : decode (mC mX4_round) 13 = .ok (.sipush 1000, 3) := by decide +kernel
theorem dX4_round_16 : decode (mC mX4_round) 16 = .ok (.istore_n 2, 1) := by decide +kernel
theorem dX4_round_17 : decode (mC mX4_round) 17 = .ok (.iconst 0, 1) := by decide +kernel
theorem dX4_round_18 : decode (mC mX4_round) 18 = .ok (.istore_n 3, 1) := by decide +kernel
theorem dX4_round_19 : decode (mC mX4_round) 19 = .ok (.iload_n 3, 1) := by decide +kernel
theorem dX4_round_20 : decode (mC mX4_round) 20 = .ok (.aload_n 0, 1) := by decide +kernel
theorem dX4_round_21 : decode (mC mX4_round) 21 = .ok (.getfield 10, 3) := by decide +kernel
theorem dX4_round_24 : decode (mC mX4_round) 24 = .ok (.getfield 90, 3) := by decide +kernel
theorem dX4_round_27 : decode (mC mX4_round) 27 = .ok (.getfield 181, 3) := by decide +kernel
theorem dX4_round_30 : decode (mC mX4_round) 30 = .ok (.if_icmp .ge 59, 3) := by decide +kernel
theorem dX4_round_33 : decode (mC mX4_round) 33 = .ok (.aload_n 0, 1) := by decide +kernel
theorem dX4_round_34 : decode (mC mX4_round) 34 = .ok (.getfield 10, 3) := by decide +kernel
theorem dX4_round_37 : decode (mC mX4_round) 37 = .ok (.getfield 90, 3) := by decide +kernel
theorem dX4_round_40 : decode (mC mX4_round) 40 = .ok (.getfield 110, 3) := by decide +kernel
theorem dX4_round_43 : decode (mC mX4_round) 43 = .ok (.iload_n 3, 1) := by decide +kernel
theorem dX4_round_44 : decode (mC mX4_round) 44 = .ok (.invokestatic 103, 3) := by decide +kernel
theorem dX4_round_47 : decode (mC mX4_round) 47 = .ok (.iload_n 1, 1) := by decide +kernel
theorem dX4_round_48 : decode (mC mX4_round) 48 = .ok (.if_icmp .ne 35, 3) := by decide +kernel
theorem dX4_round_51 : decode (mC mX4_round) 51 = .ok (.iload_n 2, 1) := by decide +kernel
theorem dX4_round_52 : decode (mC mX4_round) 52 = .ok (.iconst 1, 1) := by decide +kernel
theorem dX4_round_53 : decode (mC mX4_round) 53 = .ok (.aload_n 0, 1) := by decide +kernel
theorem dX4_round_54 : decode (mC mX4_round) 54 = .ok (.getfield 10, 3) := by decide +kernel
theorem dX4_round_57 : decode (mC mX4_round) 57 = .ok (.getfield 90, 3) := by decide +kernel
theorem dX4_round_60 : decode (mC mX4_round) 60 = .ok (.aload_n 0, 1) := by decide +kernel
theorem dX4_round_61 : decode (mC mX4_round) 61 = .ok (.getfield 10, 3) := by decide +kernel
theorem dX4_round_64 : decode (mC mX4_round) 64 = .ok (.getfield 90, 3) := by decide +kernel
theorem dX4_round_67 : decode (mC mX4_round) 67 = .ok (.getfield 113, 3) := by decide +kernel
theorem dX4_round_70 : decode (mC mX4_round) 70 = .ok (.iload_n 3, 1) := by decide +kernel
theorem dX4_round_71 : decode (mC mX4_round) 71 = .ok (.invokestatic 103, 3) := by decide +kernel
theorem dX4_round_74 : decode (mC mX4_round) 74 = .ok (.iload_n 1, 1) := by decide +kernel
theorem dX4_round_75 : decode (mC mX4_round) 75 = .ok (.invokevirtual 172, 3) := by decide +kernel
theorem dX4_round_78 : decode (mC mX4_round) 78 = .ok (.iadd, 1) := by decide +kernel
theorem dX4_round_79 : decode (mC mX4_round) 79 = .ok (.invokestatic 186, 3) := by decide +kernel
theorem dX4_round_82 : decode (mC mX4_round) 82 = .ok (.istore_n 2, 1) := by decide +kernel
theorem dX4_round_83 : decode (mC mX4_round) 83 = .ok (.iinc 3 1, 3) := by decide +kernel
theorem dX4_round_86 : decode (mC mX4_round) 86 = .ok (.goto (-67), 3) := by decide +kernel
theorem dX4_round_89 : decode (mC mX4_round) 89 = .ok (.iload_n 2, 1) := by decide +kernel
theorem dX4_round_90 : decode (mC mX4_round) 90 = .ok (.invokestatic 175, 3) := by decide +kernel
theorem dX4_round_93 : decode (mC mX4_round) 93 = .ok (.ireturn, 1) := by decide +kernel
theorem dX4_reach_0 : decode (mC mX4_reach) 0 = .ok (.iload_n 1, 1) := by decide +kernel
theorem dX4_reach_1 : decode (mC mX4_reach) 1 = .ok (.invokestatic 142, 3) := by decide +kernel
theorem dX4_reach_4 : decode (mC mX4_reach) 4 = .ok (.ifCond .ne 9, 3) := by decide +kernel
theorem dX4_reach_7 : decode (mC mX4_reach) 7 = .ok (.aload_n 0, 1) := by decide +kernel
theorem dX4_reach_8 : decode (mC mX4_reach) 8 = .ok (.iconst (-1), 1) := by decide +kernel
theorem dX4_reach_9 : decode (mC mX4_reach) 9 = .ok (.invokevirtual 45, 3) := by decide +kernel
theorem dX4_reach_12 : decode (mC mX4_reach) 12 = .ok (.ireturn, 1) := by decide +kernel
theorem dX4_reach_13 : decode (mC mX4_reach) 13 = .ok (.iconst 0, 1) := by decide +kernel
theorem dX4_reach_14 : decode (mC mX4_reach) 14 = .ok (.istore_n 2, 1) := by decide +kernel
theorem dX4_reach_15 : decode (mC mX4_reach) 15 = .ok (.iconst 0, 1) := by decide +kernel
theorem dX4_reach_16 : decode (mC mX4_reach) 16 = .ok (.istore_n 3, 1) := by decide +kernel
theorem dX4_reach_17 : decode (mC mX4_reach) 17 = .ok (.iload_n 3, 1) := by decide +kernel
theorem dX4_reach_18 : decode (mC mX4_reach) 18 = .ok (.bipush 8, 2) := by decide +kernel
theorem dX4_reach_20 : decode (mC mX4_reach) 20 = .ok (.if_icmp .ge 33, 3) := by decide +kernel
theorem dX4_reach_23 : decode (mC mX4_reach) 23 = .ok (.aload_n 0, 1) := by decide +kernel
theorem dX4_reach_24 : decode (mC mX4_reach) 24 = .ok (.getfield 10, 3) := by decide +kernel
theorem dX4_reach_27 : decode (mC mX4_reach) 27 = .ok (.getfield 90, 3) := by decide +kernel
theorem dX4_reach_30 : decode (mC mX4_reach) 30 = .ok (.iload_n 1, 1) := by decide +kernel
theorem dX4_reach_31 : decode (mC mX4_reach) 31 = .ok (.iload_n 3, 1) := by decide +kernel
theorem dX4_reach_32 : decode (mC mX4_reach) 32 = .ok (.invokevirtual 172, 3) := by decide +kernel
theorem dX4_reach_35 : decode (mC mX4_reach) 35 = .ok (.sipush 1000, 3) := by decide +kernel
theorem dX4_reach_38 : decode (mC mX4_reach) 38 = .ok (.if_icmp .eq 9, 3) := by decide +kernel
theorem dX4_reach_41 : decode (mC mX4_reach) 41 = .ok (.iload_n 2, 1) := by decide +kernel
theorem dX4_reach_42 : decode (mC mX4_reach) 42 = .ok (.iconst 1, 1) := by decide +kernel
theorem dX4_reach_43 : decode (mC mX4_reach) 43 = .ok (.iload_n 3, 1) := by decide +kernel
theorem dX4_reach_44 : decode (mC mX4_reach) 44 = .ok (.ishl, 1) := by decide +kernel
theorem dX4_reach_45 : decode (mC mX4_reach) 45 = .ok (.ior, 1) := by decide +kernel
theorem dX4_reach_46 : decode (mC mX4_reach) 46 = .ok (.istore_n 2, 1) := by decide +kernel
theorem dX4_reach_47 : decode (mC mX4_reach) 47 = .ok (.iinc 3 1, 3) := by decide +kernel
theorem dX4_reach_50 : decode (mC mX4_reach) 50 = .ok (.goto (-33), 3) := by decide +kernel
theorem dX4_reach_53 : decode (mC mX4_reach) 53 = .ok (.iload_n 2, 1) := by decide +kernel
theorem dX4_reach_54 : decode (mC mX4_reach) 54 = .ok (.ireturn, 1) := by decide +kernel
theorem dX4_open_0 : decode (mC mX4_open) 0 = .ok (.iconst 0, 1) := by decide +kernel
theorem dX4_open_1 : decode (mC mX4_open) 1 = .ok (.istore_n 1, 1) := by decide +kernel
theorem dX4_open_2 : decode (mC mX4_open) 2 = .ok (.iconst 0, 1) := by decide +kernel
theorem dX4_open_3 : decode (mC mX4_open) 3 = .ok (.istore_n 2, 1) := by decide +kernel
theorem dX4_open_4 : decode (mC mX4_open) 4 = .ok (.iload_n 2, 1) := by decide +kernel
theorem dX4_open_5 : decode (mC mX4_open) 5 = .ok (.aload_n 0, 1) := by decide +kernel
theorem dX4_open_6 : decode (mC mX4_open) 6 = .ok (.getfield 10, 3) := by decide +kernel
theorem dX4_open_9 : decode (mC mX4_open) 9 = .ok (.getfield 90, 3) := by decide +kernel
theorem dX4_open_12 : decode (mC mX4_open) 12 = .ok (.getfield 181, 3) := by decide +kernel
theorem dX4_open_15 : decode (mC mX4_open) 15 = .ok (.if_icmp .ge 35, 3) := by decide +kernel
theorem dX4_open_18 : decode (mC mX4_open) 18 = .ok (.aload_n 0, 1) := by decide +kernel
theorem dX4_open_19 : decode (mC mX4_open) 19 = .ok (.getfield 10, 3) := by decide +kernel
theorem dX4_open_22 : decode (mC mX4_open) 22 = .ok (.iload_n 2, 1) := by decide +kernel
theorem dX4_open_23 : decode (mC mX4_open) 23 = .ok (.aload_n 0, 1) := by decide +kernel
theorem dX4_open_24 : decode (mC mX4_open) 24 = .ok (.getfield 10, 3) := by decide +kernel
theorem dX4_open_27 : decode (mC mX4_open) 27 = .ok (.getfield 129, 3) := by decide +kernel
theorem dX4_open_30 : decode (mC mX4_open) 30 = .ok (.iconst 1, 1) := by decide +kernel
theorem dX4_open_31 : decode (mC mX4_open) 31 = .ok (.iadd, 1) := by decide +kernel
theorem dX4_open_32 : decode (mC mX4_open) 32 = .ok (.invokevirtual 189, 3) := by decide +kernel
theorem dX4_open_35 : decode (mC mX4_open) 35 = .ok (.ifCond .eq 9, 3) := by decide +kernel
theorem dX4_open_38 : decode (mC mX4_open) 38 = .ok (.iload_n 1, 1) := by decide +kernel
theorem dX4_open_39 : decode (mC mX4_open) 39 = .ok (.iconst 1, 1) := by decide +kernel
theorem dX4_open_40 : decode (mC mX4_open) 40 = .ok (.iload_n 2, 1) := by decide +kernel
theorem dX4_open_41 : decode (mC mX4_open) 41 = .ok (.ishl, 1) := by decide +kernel
theorem dX4_open_42 : decode (mC mX4_open) 42 = .ok (.ior, 1) := by decide +kernel
theorem dX4_open_43 : decode (mC mX4_open) 43 = .ok (.istore_n 1, 1) := by decide +kernel
theorem dX4_open_44 : decode (mC mX4_open) 44 = .ok (.iinc 2 1, 3) := by decide +kernel
theorem dX4_open_47 : decode (mC mX4_open) 47 = .ok (.goto (-43), 3) := by decide +kernel
theorem dX4_open_50 : decode (mC mX4_open) 50 = .ok (.iload_n 1, 1) := by decide +kernel
theorem dX4_open_51 : decode (mC mX4_open) 51 = .ok (.ireturn, 1) := by decide +kernel
theorem dX4_helper_0 : decode (mC mX4_helper) 0 = .ok (.iload_n 1, 1) := by decide +kernel
theorem dX4_helper_1 : decode (mC mX4_helper) 1 = .ok (.ifCond .lt 9, 3) := by decide +kernel
theorem dX4_helper_4 : decode (mC mX4_helper) 4 = .ok (.iload_n 1, 1) := by decide +kernel
theorem dX4_helper_5 : decode (mC mX4_helper) 5 = .ok (.bipush 30, 2) := by decide +kernel
theorem dX4_helper_7 : decode (mC mX4_helper) 7 = .ok (.if_icmp .le 9, 3) := by decide +kernel
theorem dX4_helper_10 : decode (mC mX4_helper) 10 = .ok (.aload_n 0, 1) := by decide +kernel
theorem dX4_helper_11 : decode (mC mX4_helper) 11 = .ok (.iload_n 1, 1) := by decide +kernel
theorem dX4_helper_12 : decode (mC mX4_helper) 12 = .ok (.invokevirtual 149, 3) := by decide +kernel
theorem dX4_helper_15 : decode (mC mX4_helper) 15 = .ok (.ireturn, 1) := by decide +kernel
theorem dX4_helper_16 : decode (mC mX4_helper) 16 = .ok (.iload_n 2, 1) := by decide +kernel
theorem dX4_helper_17 : decode (mC mX4_helper) 17 = .ok (.invokestatic 159, 3) := by decide +kernel
theorem dX4_helper_20 : decode (mC mX4_helper) 20 = .ok (.ifCond .ne 10, 3) := by decide +kernel
theorem dX4_helper_23 : decode (mC mX4_helper) 23 = .ok (.aload_n 0, 1) := by decide +kernel
theorem dX4_helper_24 : decode (mC mX4_helper) 24 = .ok (.bipush (-2), 2) := by decide +kernel
theorem dX4_helper_26 : decode (mC mX4_helper) 26 = .ok (.invokevirtual 45, 3) := by decide +kernel
theorem dX4_helper_29 : decode (mC mX4_helper) 29 = .ok (.ireturn, 1) := by decide +kernel
theorem dX4_helper_30 : decode (mC mX4_helper) 30 = .ok (.bipush (-9), 2) := by decide +kernel
theorem dX4_helper_32 : decode (mC mX4_helper) 32 = .ok (.istore_n 3, 1) := by decide +kernel
theorem dX4_helper_33 : decode (mC mX4_helper) 33 = .ok (.iconst (-1), 1) := by decide +kernel
theorem dX4_helper_34 : decode (mC mX4_helper) 34 = .ok (.istore 4, 2) := by decide +kernel
theorem dX4_helper_36 : decode (mC mX4_helper) 36 = .ok (.iconst 0, 1) := by decide +kernel
theorem dX4_helper_37 : decode (mC mX4_helper) 37 = .ok (.istore 5, 2) := by decide +kernel
theorem dX4_helper_39 : decode (mC mX4_helper) 39 = .ok (.iload 5, 2) := by decide +kernel
theorem dX4_helper_41 : decode (mC mX4_helper) 41 = .ok (.bipush 8, 2) := by decide +kernel
theorem dX4_helper_43 : decode (mC mX4_helper) 43 = .ok (.if_icmp .ge 32, 3) := by decide +kernel
theorem dX4_helper_46 : decode (mC mX4_helper) 46 = .ok (.aload_n 0, 1) := by decide +kernel
theorem dX4_helper_47 : decode (mC mX4_helper) 47 = .ok (.iload 5, 2) := by decide +kernel
theorem dX4_helper_49 : decode (mC mX4_helper) 49 = .ok (.iload_n 1, 1) := by decide +kernel
theorem dX4_helper_50 : decode (mC mX4_helper) 50 = .ok (.invokevirtual 192, 3) := by decide +kernel
theorem dX4_helper_53 : decode (mC mX4_helper) 53 = .ok (.istore 6, 2) := by decide +kernel
theorem dX4_helper_55 : decode (mC mX4_helper) 55 = .ok (.iload 6, 2) := by decide +kernel
theorem dX4_helper_57 : decode (mC mX4_helper) 57 = .ok (.iload 4, 2) := by decide +kernel
theorem dX4_helper_59 : decode (mC mX4_helper) 59 = .ok (.if_icmp .le 10, 3) := by decide +kernel
theorem dX4_helper_62 : decode (mC mX4_helper) 62 = .ok (.iload 6, 2) := by decide +kernel
theorem dX4_helper_64 : decode (mC mX4_helper) 64 = .ok (.istore 4, 2) := by decide +kernel
theorem dX4_helper_66 : decode (mC mX4_helper) 66 = .ok (.iload 5, 2) := by decide +kernel
theorem dX4_helper_68 : decode (mC mX4_helper) 68 = .ok (.istore_n 3, 1) := by decide +kernel
theorem dX4_helper_69 : decode (mC mX4_helper) 69 = .ok (.iinc 5 1, 3) := by decide +kernel
theorem dX4_helper_72 : decode (mC mX4_helper) 72 = .ok (.goto (-33), 3) := by decide +kernel
theorem dX4_helper_75 : decode (mC mX4_helper) 75 = .ok (.iload_n 2, 1) := by decide +kernel
theorem dX4_helper_76 : decode (mC mX4_helper) 76 = .ok (.ifCond .ne 7, 3) := by decide +kernel
theorem dX4_helper_79 : decode (mC mX4_helper) 79 = .ok (.iload_n 3, 1) := by decide +kernel
theorem dX4_helper_80 : decode (mC mX4_helper) 80 = .ok (.goto 5, 3) := by decide +kernel
theorem dX4_helper_83 : decode (mC mX4_helper) 83 = .ok (.iload 4, 2) := by decide +kernel
theorem dX4_helper_85 : decode (mC mX4_helper) 85 = .ok (.ireturn, 1) := by decide +kernel
theorem dX4_homeWithHelper_0 : decode (mC mX4_homeWithHelper) 0 = .ok (.aload_n 0, 1) := by decide +kernel
theorem dX4_homeWithHelper_1 : decode (mC mX4_homeWithHelper) 1 = .ok (.getfield 16, 3) := by decide +kernel
theorem dX4_homeWithHelper_4 : decode (mC mX4_homeWithHelper) 4 = .ok (.aload_n 0, 1) := by decide +kernel
theorem dX4_homeWithHelper_5 : decode (mC mX4_homeWithHelper) 5 = .ok (.getfield 10, 3) := by decide +kernel
theorem dX4_homeWithHelper_8 : decode (mC mX4_homeWithHelper) 8 = .ok (.invokevirtual 69, 3) := by decide +kernel
theorem dX4_homeWithHelper_11 : decode (mC mX4_homeWithHelper) 11 = .ok (.aload_n 0, 1) := by decide +kernel
theorem dX4_homeWithHelper_12 : decode (mC mX4_homeWithHelper) 12 = .ok (.getfield 16, 3) := by decide +kernel
theorem dX4_homeWithHelper_15 : decode (mC mX4_homeWithHelper) 15 = .ok (.iload_n 1, 1) := by decide +kernel
theorem dX4_homeWithHelper_16 : decode (mC mX4_homeWithHelper) 16 = .ok (.iload_n 1, 1) := by decide +kernel
theorem dX4_homeWithHelper_17 : decode (mC mX4_homeWithHelper) 17 = .ok (.bipush 9, 2) := by decide +kernel
theorem dX4_homeWithHelper_19 : decode (mC mX4_homeWithHelper) 19 = .ok (.invokevirtual 195, 3) := by decide +kernel
theorem dX4_homeWithHelper_22 : decode (mC mX4_homeWithHelper) 22 = .ok (.aload_n 0, 1) := by decide +kernel
theorem dX4_homeWithHelper_23 : decode (mC mX4_homeWithHelper) 23 = .ok (.getfield 16, 3) := by decide +kernel
theorem dX4_homeWithHelper_26 : decode (mC mX4_homeWithHelper) 26 = .ok (.iload_n 2, 1) := by decide +kernel
theorem dX4_homeWithHelper_27 : decode (mC mX4_homeWithHelper) 27 = .ok (.iconst 0, 1) := by decide +kernel
theorem dX4_homeWithHelper_28 : decode (mC mX4_homeWithHelper) 28 = .ok (.invokevirtual 152, 3) := by decide +kernel
theorem dX4_homeWithHelper_31 : decode (mC mX4_homeWithHelper) 31 = .ok (.pop, 1) := by decide +kernel
theorem dX4_homeWithHelper_32 : decode (mC mX4_homeWithHelper) 32 = .ok (.aload_n 0, 1) := by decide +kernel
theorem dX4_homeWithHelper_33 : decode (mC mX4_homeWithHelper) 33 = .ok (.getfield 16, 3) := by decide +kernel
theorem dX4_homeWithHelper_36 : decode (mC mX4_homeWithHelper) 36 = .ok (.invokevirtual 156, 3) := by decide +kernel
theorem dX4_homeWithHelper_39 : decode (mC mX4_homeWithHelper) 39 = .ok (.iconst 1, 1) := by decide +kernel
theorem dX4_homeWithHelper_40 : decode (mC mX4_homeWithHelper) 40 = .ok (.isub, 1) := by decide +kernel
theorem dX4_homeWithHelper_41 : decode (mC mX4_homeWithHelper) 41 = .ok (.ireturn, 1) := by decide +kernel
theorem dX4_fewest_0 : decode (mC mX4_fewest) 0 = .ok (.aload_n 0, 1) := by decide +kernel
theorem dX4_fewest_1 : decode (mC mX4_fewest) 1 = .ok (.getfield 10, 3) := by decide +kernel
theorem dX4_fewest_4 : decode (mC mX4_fewest) 4 = .ok (.iload_n 1, 1) := by decide +kernel
theorem dX4_fewest_5 : decode (mC mX4_fewest) 5 = .ok (.invokevirtual 119, 3) := by decide +kernel
theorem dX4_fewest_8 : decode (mC mX4_fewest) 8 = .ok (.ifCond .ne 9, 3) := by decide +kernel
theorem dX4_fewest_11 : decode (mC mX4_fewest) 11 = .ok (.aload_n 0, 1) := by decide +kernel
theorem dX4_fewest_12 : decode (mC mX4_fewest) 12 = .ok (.iconst (-1), 1) := by decide +kernel
theorem dX4_fewest_13 : decode (mC mX4_fewest) 13 = .ok (.invokevirtual 45, 3) := by decide +kernel
theorem dX4_fewest_16 : decode (mC mX4_fewest) 16 = .ok (.ireturn, 1) := by decide +kernel
theorem dX4_fewest_17 : decode (mC mX4_fewest) 17 = .ok (.iload_n 2, 1) := by decide +kernel
theorem dX4_fewest_18 : decode (mC mX4_fewest) 18 = .ok (.ifCond .lt 9, 3) := by decide +kernel
theorem dX4_fewest_21 : decode (mC mX4_fewest) 21 = .ok (.iload_n 2, 1) := by decide +kernel
theorem dX4_fewest_22 : decode (mC mX4_fewest) 22 = .ok (.bipush 30, 2) := by decide +kernel
theorem dX4_fewest_24 : decode (mC mX4_fewest) 24 = .ok (.if_icmp .le 9, 3) := by decide +kernel
theorem dX4_fewest_27 : decode (mC mX4_fewest) 27 = .ok (.aload_n 0, 1) := by decide +kernel
theorem dX4_fewest_28 : decode (mC mX4_fewest) 28 = .ok (.iload_n 2, 1) := by decide +kernel
theorem dX4_fewest_29 : decode (mC mX4_fewest) 29 = .ok (.invokevirtual 149, 3) := by decide +kernel
theorem dX4_fewest_32 : decode (mC mX4_fewest) 32 = .ok (.ireturn, 1) := by decide +kernel
theorem dX4_fewest_33 : decode (mC mX4_fewest) 33 = .ok (.bipush (-9), 2) := by decide +kernel
theorem dX4_fewest_35 : decode (mC mX4_fewest) 35 = .ok (.istore_n 3, 1) := by decide +kernel
theorem dX4_fewest_36 : decode (mC mX4_fewest) 36 = .ok (.iconst 0, 1) := by decide +kernel
theorem dX4_fewest_37 : decode (mC mX4_fewest) 37 = .ok (.istore 4, 2) := by decide +kernel
theorem dX4_fewest_39 : decode (mC mX4_fewest) 39 = .ok (.iload 4, 2) := by decide +kernel
theorem dX4_fewest_41 : decode (mC mX4_fewest) 41 = .ok (.iconst 1, 1) := by decide +kernel
theorem dX4_fewest_42 : decode (mC mX4_fewest) 42 = .ok (.aload_n 0, 1) := by decide +kernel
theorem dX4_fewest_43 : decode (mC mX4_fewest) 43 = .ok (.getfield 10, 3) := by decide +kernel
theorem dX4_fewest_46 : decode (mC mX4_fewest) 46 = .ok (.getfield 171, 3) := by decide +kernel
theorem dX4_fewest_49 : decode (mC mX4_fewest) 49 = .ok (.ishl, 1) := by decide +kernel
theorem dX4_fewest_50 : decode (mC mX4_fewest) 50 = .ok (.if_icmp .ge 62, 3) := by decide +kernel
theorem dX4_fewest_53 : decode (mC mX4_fewest) 53 = .ok (.iload_n 3, 1) := by decide +kernel
theorem dX4_fewest_54 : decode (mC mX4_fewest) 54 = .ok (.bipush (-9), 2) := by decide +kernel
theorem dX4_fewest_56 : decode (mC mX4_fewest) 56 = .ok (.if_icmp .eq 15, 3) := by decide +kernel
theorem dX4_fewest_59 : decode (mC mX4_fewest) 59 = .ok (.iload 4, 2) := by decide +kernel
theorem dX4_fewest_61 : decode (mC mX4_fewest) 61 = .ok (.invokestatic 199, 3) := by decide +kernel
theorem dX4_fewest_64 : decode (mC mX4_fewest) 64 = .ok (.iload_n 3, 1) := by decide +kernel
theorem dX4_fewest_65 : decode (mC mX4_fewest) 65 = .ok (.invokestatic 199, 3) := by decide +kernel
theorem dX4_fewest_68 : decode (mC mX4_fewest) 68 = .ok (.if_icmp .ge 7, 3) := by decide +kernel
theorem dX4_fewest_71 : decode (mC mX4_fewest) 71 = .ok (.iconst 1, 1) := by decide +kernel
theorem dX4_fewest_72 : decode (mC mX4_fewest) 72 = .ok (.goto 4, 3) := by decide +kernel
theorem dX4_fewest_75 : decode (mC mX4_fewest) 75 = .ok (.iconst 0, 1) := by decide +kernel
theorem dX4_fewest_76 : decode (mC mX4_fewest) 76 = .ok (.istore 5, 2) := by decide +kernel
theorem dX4_fewest_78 : decode (mC mX4_fewest) 78 = .ok (.iload 5, 2) := by decide +kernel
theorem dX4_fewest_80 : decode (mC mX4_fewest) 80 = .ok (.ifCond .eq 26, 3) := by decide +kernel
theorem dX4_fewest_83 : decode (mC mX4_fewest) 83 = .ok (.iload 4, 2) := by decide +kernel
theorem dX4_fewest_85 : decode (mC mX4_fewest) 85 = .ok (.iload_n 1, 1) := by decide +kernel
theorem dX4_fewest_86 : decode (mC mX4_fewest) 86 = .ok (.invokestatic 182, 3) := by decide +kernel
theorem dX4_fewest_89 : decode (mC mX4_fewest) 89 = .ok (.ifCond .ne 17, 3) := by decide +kernel
theorem dX4_fewest_92 : decode (mC mX4_fewest) 92 = .ok (.aload_n 0, 1) := by decide +kernel
theorem dX4_fewest_93 : decode (mC mX4_fewest) 93 = .ok (.iload_n 1, 1) := by decide +kernel
theorem dX4_fewest_94 : decode (mC mX4_fewest) 94 = .ok (.iload 4, 2) := by decide +kernel
theorem dX4_fewest_96 : decode (mC mX4_fewest) 96 = .ok (.iload_n 2, 1) := by decide +kernel
theorem dX4_fewest_97 : decode (mC mX4_fewest) 97 = .ok (.invokevirtual 204, 3) := by decide +kernel
theorem dX4_fewest_100 : decode (mC mX4_fewest) 100 = .ok (.ifCond .eq 6, 3) := by decide +kernel
theorem dX4_fewest_103 : decode (mC mX4_fewest) 103 = .ok (.iload 4, 2) := by decide +kernel
theorem dX4_fewest_105 : decode (mC mX4_fewest) 105 = .ok (.istore_n 3, 1) := by decide +kernel
theorem dX4_fewest_106 : decode (mC mX4_fewest) 106 = .ok (.iinc 4 1, 3) := by decide +kernel
theorem dX4_fewest_109 : decode (mC mX4_fewest) 109 = .ok (.goto (-70), 3) := by decide +kernel
theorem dX4_fewest_112 : decode (mC mX4_fewest) 112 = .ok (.iload_n 3, 1) := by decide +kernel
theorem dX4_fewest_113 : decode (mC mX4_fewest) 113 = .ok (.ireturn, 1) := by decide +kernel
theorem dX4_isHomeWhileStay_0 : decode (mC mX4_isHomeWhileStay) 0 = .ok (.aload_n 0, 1) := by decide +kernel
theorem dX4_isHomeWhileStay_1 : decode (mC mX4_isHomeWhileStay) 1 = .ok (.getfield 16, 3) := by decide +kernel
theorem dX4_isHomeWhileStay_4 : decode (mC mX4_isHomeWhileStay) 4 = .ok (.aload_n 0, 1) := by decide +kernel
theorem dX4_isHomeWhileStay_5 : decode (mC mX4_isHomeWhileStay) 5 = .ok (.getfield 10, 3) := by decide +kernel
theorem dX4_isHomeWhileStay_8 : decode (mC mX4_isHomeWhileStay) 8 = .ok (.invokevirtual 69, 3) := by decide +kernel
theorem dX4_isHomeWhileStay_11 : decode (mC mX4_isHomeWhileStay) 11 = .ok (.iconst 0, 1) := by decide +kernel
theorem dX4_isHomeWhileStay_12 : decode (mC mX4_isHomeWhileStay) 12 = .ok (.istore 4, 2) := by decide +kernel
theorem dX4_isHomeWhileStay_14 : decode (mC mX4_isHomeWhileStay) 14 = .ok (.iload 4, 2) := by decide +kernel
theorem dX4_isHomeWhileStay_16 : decode (mC mX4_isHomeWhileStay) 16 = .ok (.aload_n 0, 1) := by decide +kernel
theorem dX4_isHomeWhileStay_17 : decode (mC mX4_isHomeWhileStay) 17 = .ok (.getfield 16, 3) := by decide +kernel
theorem dX4_isHomeWhileStay_20 : decode (mC mX4_isHomeWhileStay) 20 = .ok (.getfield 171, 3) := by decide +kernel
theorem dX4_isHomeWhileStay_23 : decode (mC mX4_isHomeWhileStay) 23 = .ok (.if_icmp .ge 27, 3) := by decide +kernel
theorem dX4_isHomeWhileStay_26 : decode (mC mX4_isHomeWhileStay) 26 = .ok (.iload_n 2, 1) := by decide +kernel
theorem dX4_isHomeWhileStay_27 : decode (mC mX4_isHomeWhileStay) 27 = .ok (.iload 4, 2) := by decide +kernel
theorem dX4_isHomeWhileStay_29 : decode (mC mX4_isHomeWhileStay) 29 = .ok (.invokestatic 182, 3) := by decide +kernel
theorem dX4_isHomeWhileStay_32 : decode (mC mX4_isHomeWhileStay) 32 = .ok (.ifCond .eq 12, 3) := by decide +kernel
theorem dX4_isHomeWhileStay_35 : decode (mC mX4_isHomeWhileStay) 35 = .ok (.aload_n 0, 1) := by decide +kernel
theorem dX4_isHomeWhileStay_36 : decode (mC mX4_isHomeWhileStay) 36 = .ok (.getfield 16, 3) := by decide +kernel
theorem dX4_isHomeWhileStay_39 : decode (mC mX4_isHomeWhileStay) 39 = .ok (.iload 4, 2) := by decide +kernel
theorem dX4_isHomeWhileStay_41 : decode (mC mX4_isHomeWhileStay) 41 = .ok (.invokevirtual 208, 3) := by decide +kernel
theorem dX4_isHomeWhileStay_44 : decode (mC mX4_isHomeWhileStay) 44 = .ok (.iinc 4 1, 3) := by decide +kernel
theorem dX4_isHomeWhileStay_47 : decode (mC mX4_isHomeWhileStay) 47 = .ok (.goto (-33), 3) := by decide +kernel
theorem dX4_isHomeWhileStay_50 : decode (mC mX4_isHomeWhileStay) 50 = .ok (.aload_n 0, 1) := by decide +kernel
theorem dX4_isHomeWhileStay_51 : decode (mC mX4_isHomeWhileStay) 51 = .ok (.getfield 16, 3) := by decide +kernel
theorem dX4_isHomeWhileStay_54 : decode (mC mX4_isHomeWhileStay) 54 = .ok (.iload_n 3, 1) := by decide +kernel
theorem dX4_isHomeWhileStay_55 : decode (mC mX4_isHomeWhileStay) 55 = .ok (.iconst 0, 1) := by decide +kernel
theorem dX4_isHomeWhileStay_56 : decode (mC mX4_isHomeWhileStay) 56 = .ok (.invokevirtual 152, 3) := by decide +kernel
theorem dX4_isHomeWhileStay_59 : decode (mC mX4_isHomeWhileStay) 59 = .ok (.pop, 1) := by decide +kernel
theorem dX4_isHomeWhileStay_60 : decode (mC mX4_isHomeWhileStay) 60 = .ok (.aload_n 0, 1) := by decide +kernel
theorem dX4_isHomeWhileStay_61 : decode (mC mX4_isHomeWhileStay) 61 = .ok (.getfield 16, 3) := by decide +kernel
theorem dX4_isHomeWhileStay_64 : decode (mC mX4_isHomeWhileStay) 64 = .ok (.iload_n 1, 1) := by decide +kernel
theorem dX4_isHomeWhileStay_65 : decode (mC mX4_isHomeWhileStay) 65 = .ok (.invokevirtual 211, 3) := by decide +kernel
theorem dX4_isHomeWhileStay_68 : decode (mC mX4_isHomeWhileStay) 68 = .ok (.ireturn, 1) := by decide +kernel
theorem dX4_turn_0 : decode (mC mX4_turn) 0 = .ok (.iload_n 1, 1) := by decide +kernel
theorem dX4_turn_1 : decode (mC mX4_turn) 1 = .ok (.ifCond .lt 9, 3) := by decide +kernel
theorem dX4_turn_4 : decode (mC mX4_turn) 4 = .ok (.iload_n 1, 1) := by decide +kernel
theorem dX4_turn_5 : decode (mC mX4_turn) 5 = .ok (.bipush 30, 2) := by decide +kernel
theorem dX4_turn_7 : decode (mC mX4_turn) 7 = .ok (.if_icmp .le 9, 3) := by decide +kernel
theorem dX4_turn_10 : decode (mC mX4_turn) 10 = .ok (.aload_n 0, 1) := by decide +kernel
theorem dX4_turn_11 : decode (mC mX4_turn) 11 = .ok (.iload_n 1, 1) := by decide +kernel
theorem dX4_turn_12 : decode (mC mX4_turn) 12 = .ok (.invokevirtual 149, 3) := by decide +kernel
theorem dX4_turn_15 : decode (mC mX4_turn) 15 = .ok (.ireturn, 1) := by decide +kernel
theorem dX4_turn_16 : decode (mC mX4_turn) 16 = .ok (.aload_n 0, 1) := by decide +kernel
theorem dX4_turn_17 : decode (mC mX4_turn) 17 = .ok (.iload_n 1, 1) := by decide +kernel
theorem dX4_turn_18 : decode (mC mX4_turn) 18 = .ok (.iconst 1, 1) := by decide +kernel
theorem dX4_turn_19 : decode (mC mX4_turn) 19 = .ok (.invokevirtual 214, 3) := by decide +kernel
theorem dX4_turn_22 : decode (mC mX4_turn) 22 = .ok (.ireturn, 1) := by decide +kernel
theorem dX4_wedge_0 : decode (mC mX4_wedge) 0 = .ok (.iload_n 1, 1) := by decide +kernel
theorem dX4_wedge_1 : decode (mC mX4_wedge) 1 = .ok (.ifCond .lt 9, 3) := by decide +kernel
theorem dX4_wedge_4 : decode (mC mX4_wedge) 4 = .ok (.iload_n 1, 1) := by decide +kernel
theorem dX4_wedge_5 : decode (mC mX4_wedge) 5 = .ok (.bipush 30, 2) := by decide +kernel
theorem dX4_wedge_7 : decode (mC mX4_wedge) 7 = .ok (.if_icmp .le 9, 3) := by decide +kernel
theorem dX4_wedge_10 : decode (mC mX4_wedge) 10 = .ok (.aload_n 0, 1) := by decide +kernel
theorem dX4_wedge_11 : decode (mC mX4_wedge) 11 = .ok (.iload_n 1, 1) := by decide +kernel
theorem dX4_wedge_12 : decode (mC mX4_wedge) 12 = .ok (.invokevirtual 149, 3) := by decide +kernel
theorem dX4_wedge_15 : decode (mC mX4_wedge) 15 = .ok (.ireturn, 1) := by decide +kernel
theorem dX4_wedge_16 : decode (mC mX4_wedge) 16 = .ok (.aload_n 0, 1) := by decide +kernel
theorem dX4_wedge_17 : decode (mC mX4_wedge) 17 = .ok (.iload_n 1, 1) := by decide +kernel
theorem dX4_wedge_18 : decode (mC mX4_wedge) 18 = .ok (.iconst 0, 1) := by decide +kernel
theorem dX4_wedge_19 : decode (mC mX4_wedge) 19 = .ok (.invokevirtual 214, 3) := by decide +kernel
theorem dX4_wedge_22 : decode (mC mX4_wedge) 22 = .ok (.ireturn, 1) := by decide +kernel
theorem dX4_doorToChange_0 : decode (mC mX4_doorToChange) 0 = .ok (.aload_n 0, 1) := by decide +kernel
theorem dX4_doorToChange_1 : decode (mC mX4_doorToChange) 1 = .ok (.getfield 16, 3) := by decide +kernel
theorem dX4_doorToChange_4 : decode (mC mX4_doorToChange) 4 = .ok (.aload_n 0, 1) := by decide +kernel
theorem dX4_doorToChange_5 : decode (mC mX4_doorToChange) 5 = .ok (.getfield 10, 3) := by decide +kernel
theorem dX4_doorToChange_8 : decode (mC mX4_doorToChange) 8 = .ok (.invokevirtual 69, 3) := by decide +kernel
theorem dX4_doorToChange_11 : decode (mC mX4_doorToChange) 11 = .ok (.aload_n 0, 1) := by decide +kernel
theorem dX4_doorToChange_12 : decode (mC mX4_doorToChange) 12 = .ok (.getfield 16, 3) := by decide +kernel
theorem dX4_doorToChange_15 : decode (mC mX4_doorToChange) 15 = .ok (.iload_n 1, 1) := by decide +kernel
theorem dX4_doorToChange_16 : decode (mC mX4_doorToChange) 16 = .ok (.iconst 0, 1) := by decide +kernel
theorem dX4_doorToChange_17 : decode (mC mX4_doorToChange) 17 = .ok (.invokevirtual 152, 3) := by decide +kernel
theorem dX4_doorToChange_20 : decode (mC mX4_doorToChange) 20 = .ok (.pop, 1) := by decide +kernel
theorem dX4_doorToChange_21 : decode (mC mX4_doorToChange) 21 = .ok (.aload_n 0, 1) := by decide +kernel
theorem dX4_doorToChange_22 : decode (mC mX4_doorToChange) 22 = .ok (.getfield 16, 3) := by decide +kernel
theorem dX4_doorToChange_25 : decode (mC mX4_doorToChange) 25 = .ok (.invokevirtual 156, 3) := by decide +kernel
theorem dX4_doorToChange_28 : decode (mC mX4_doorToChange) 28 = .ok (.istore_n 3, 1) := by decide +kernel
theorem dX4_doorToChange_29 : decode (mC mX4_doorToChange) 29 = .ok (.bipush (-9), 2) := by decide +kernel
theorem dX4_doorToChange_31 : decode (mC mX4_doorToChange) 31 = .ok (.istore 4, 2) := by decide +kernel
theorem dX4_doorToChange_33 : decode (mC mX4_doorToChange) 33 = .ok (.iconst 0, 1) := by decide +kernel
theorem dX4_doorToChange_34 : decode (mC mX4_doorToChange) 34 = .ok (.istore 5, 2) := by decide +kernel
theorem dX4_doorToChange_36 : decode (mC mX4_doorToChange) 36 = .ok (.iload 5, 2) := by decide +kernel
theorem dX4_doorToChange_38 : decode (mC mX4_doorToChange) 38 = .ok (.aload_n 0, 1) := by decide +kernel
theorem dX4_doorToChange_39 : decode (mC mX4_doorToChange) 39 = .ok (.getfield 10, 3) := by decide +kernel
theorem dX4_doorToChange_42 : decode (mC mX4_doorToChange) 42 = .ok (.getfield 90, 3) := by decide +kernel
theorem dX4_doorToChange_45 : decode (mC mX4_doorToChange) 45 = .ok (.getfield 181, 3) := by decide +kernel
theorem dX4_doorToChange_48 : decode (mC mX4_doorToChange) 48 = .ok (.if_icmp .ge 89, 3) := by decide +kernel
theorem dX4_doorToChange_51 : decode (mC mX4_doorToChange) 51 = .ok (.aload_n 0, 1) := by decide +kernel
theorem dX4_doorToChange_52 : decode (mC mX4_doorToChange) 52 = .ok (.getfield 16, 3) := by decide +kernel
theorem dX4_doorToChange_55 : decode (mC mX4_doorToChange) 55 = .ok (.aload_n 0, 1) := by decide +kernel
theorem dX4_doorToChange_56 : decode (mC mX4_doorToChange) 56 = .ok (.getfield 10, 3) := by decide +kernel
theorem dX4_doorToChange_59 : decode (mC mX4_doorToChange) 59 = .ok (.invokevirtual 69, 3) := by decide +kernel
theorem dX4_doorToChange_62 : decode (mC mX4_doorToChange) 62 = .ok (.iload_n 2, 1) := by decide +kernel
theorem dX4_doorToChange_63 : decode (mC mX4_doorToChange) 63 = .ok (.ifCond .eq 19, 3) := by decide +kernel
theorem dX4_doorToChange_66 : decode (mC mX4_doorToChange) 66 = .ok (.aload_n 0, 1) := by decide +kernel
theorem dX4_doorToChange_67 : decode (mC mX4_doorToChange) 67 = .ok (.getfield 16, 3) := by decide +kernel
theorem dX4_doorToChange_70 : decode (mC mX4_doorToChange) 70 = .ok (.getfield 90, 3) := by decide +kernel
theorem dX4_doorToChange_73 : decode (mC mX4_doorToChange) 73 = .ok (.iload 5, 2) := by decide +kernel
theorem dX4_doorToChange_75 : decode (mC mX4_doorToChange) 75 = .ok (.invokevirtual 139, 3) := by decide +kernel
theorem dX4_doorToChange_78 : decode (mC mX4_doorToChange) 78 = .ok (.pop, 1) := by decide +kernel
theorem dX4_doorToChange_79 : decode (mC mX4_doorToChange) 79 = .ok (.goto 19, 3) := by decide +kernel
theorem dX4_doorToChange_82 : decode (mC mX4_doorToChange) 82 = .ok (.aload_n 0, 1) := by decide +kernel
theorem dX4_doorToChange_83 : decode (mC mX4_doorToChange) 83 = .ok (.getfield 16, 3) := by decide +kernel
theorem dX4_doorToChange_86 : decode (mC mX4_doorToChange) 86 = .ok (.getfield 90, 3) := by decide +kernel
theorem dX4_doorToChange_89 : decode (mC mX4_doorToChange) 89 = .ok (.getfield 116, 3) := by decide +kernel
theorem dX4_doorToChange_92 : decode (mC mX4_doorToChange) 92 = .ok (.iload 5, 2) := by decide +kernel
theorem dX4_doorToChange_94 : decode (mC mX4_doorToChange) 94 = .ok (.iconst 1, 1) := by decide +kernel
theorem dX4_doorToChange_95 : decode (mC mX4_doorToChange) 95 = .ok (.invokestatic 217, 3) := by decide +kernel
theorem dX4_doorToChange_98 : decode (mC mX4_doorToChange) 98 = .ok (.aload_n 0, 1) := by decide +kernel
theorem dX4_doorToChange_99 : decode (mC mX4_doorToChange) 99 = .ok (.getfield 16, 3) := by decide +kernel
theorem dX4_doorToChange_102 : decode (mC mX4_doorToChange) 102 = .ok (.iload_n 1, 1) := by decide +kernel
theorem dX4_doorToChange_103 : decode (mC mX4_doorToChange) 103 = .ok (.iconst 0, 1) := by decide +kernel
theorem dX4_doorToChange_104 : decode (mC mX4_doorToChange) 104 = .ok (.invokevirtual 152, 3) := by decide +kernel
theorem dX4_doorToChange_107 : decode (mC mX4_doorToChange) 107 = .ok (.pop, 1) := by decide +kernel
theorem dX4_doorToChange_108 : decode (mC mX4_doorToChange) 108 = .ok (.aload_n 0, 1) := by decide +kernel
theorem dX4_doorToChange_109 : decode (mC mX4_doorToChange) 109 = .ok (.getfield 16, 3) := by decide +kernel
theorem dX4_doorToChange_112 : decode (mC mX4_doorToChange) 112 = .ok (.invokevirtual 156, 3) := by decide +kernel
theorem dX4_doorToChange_115 : decode (mC mX4_doorToChange) 115 = .ok (.iload_n 3, 1) := by decide +kernel
theorem dX4_doorToChange_116 : decode (mC mX4_doorToChange) 116 = .ok (.if_icmp .le 15, 3) := by decide +kernel
theorem dX4_doorToChange_119 : decode (mC mX4_doorToChange) 119 = .ok (.aload_n 0, 1) := by decide +kernel
theorem dX4_doorToChange_120 : decode (mC mX4_doorToChange) 120 = .ok (.getfield 16, 3) := by decide +kernel
theorem dX4_doorToChange_123 : decode (mC mX4_doorToChange) 123 = .ok (.invokevirtual 156, 3) := by decide +kernel
theorem dX4_doorToChange_126 : decode (mC mX4_doorToChange) 126 = .ok (.istore_n 3, 1) := by decide +kernel
theorem dX4_doorToChange_127 : decode (mC mX4_doorToChange) 127 = .ok (.iload 5, 2) := by decide +kernel
theorem dX4_doorToChange_129 : decode (mC mX4_doorToChange) 129 = .ok (.istore 4, 2) := by decide +kernel
theorem dX4_doorToChange_131 : decode (mC mX4_doorToChange) 131 = .ok (.iinc 5 1, 3) := by decide +kernel
theorem dX4_doorToChange_134 : decode (mC mX4_doorToChange) 134 = .ok (.goto (-98), 3) := by decide +kernel
theorem dX4_doorToChange_137 : decode (mC mX4_doorToChange) 137 = .ok (.iload 4, 2) := by decide +kernel
theorem dX4_doorToChange_139 : decode (mC mX4_doorToChange) 139 = .ok (.ireturn, 1) := by decide +kernel
theorem dX4_holds_0 : decode (mC mX4_holds) 0 = .ok (.iload_n 1, 1) := by decide +kernel
theorem dX4_holds_1 : decode (mC mX4_holds) 1 = .ok (.ifCond .lt 9, 3) := by decide +kernel
theorem dX4_holds_4 : decode (mC mX4_holds) 4 = .ok (.iload_n 1, 1) := by decide +kernel
theorem dX4_holds_5 : decode (mC mX4_holds) 5 = .ok (.bipush 30, 2) := by decide +kernel
theorem dX4_holds_7 : decode (mC mX4_holds) 7 = .ok (.if_icmp .le 9, 3) := by decide +kernel
theorem dX4_holds_10 : decode (mC mX4_holds) 10 = .ok (.aload_n 0, 1) := by decide +kernel
theorem dX4_holds_11 : decode (mC mX4_holds) 11 = .ok (.iload_n 1, 1) := by decide +kernel
theorem dX4_holds_12 : decode (mC mX4_holds) 12 = .ok (.invokevirtual 149, 3) := by decide +kernel
theorem dX4_holds_15 : decode (mC mX4_holds) 15 = .ok (.ireturn, 1) := by decide +kernel
theorem dX4_holds_16 : decode (mC mX4_holds) 16 = .ok (.iload_n 2, 1) := by decide +kernel
theorem dX4_holds_17 : decode (mC mX4_holds) 17 = .ok (.invokestatic 159, 3) := by decide +kernel
theorem dX4_holds_20 : decode (mC mX4_holds) 20 = .ok (.ifCond .ne 10, 3) := by decide +kernel
theorem dX4_holds_23 : decode (mC mX4_holds) 23 = .ok (.aload_n 0, 1) := by decide +kernel
theorem dX4_holds_24 : decode (mC mX4_holds) 24 = .ok (.bipush (-2), 2) := by decide +kernel
theorem dX4_holds_26 : decode (mC mX4_holds) 26 = .ok (.invokevirtual 45, 3) := by decide +kernel
theorem dX4_holds_29 : decode (mC mX4_holds) 29 = .ok (.ireturn, 1) := by decide +kernel
theorem dX4_holds_30 : decode (mC mX4_holds) 30 = .ok (.bipush (-9), 2) := by decide +kernel
theorem dX4_holds_32 : decode (mC mX4_holds) 32 = .ok (.istore_n 3, 1) := by decide +kernel
theorem dX4_holds_33 : decode (mC mX4_holds) 33 = .ok (.bipush (-9), 2) := by decide +kernel
theorem dX4_holds_35 : decode (mC mX4_holds) 35 = .ok (.istore 4, 2) := by decide +kernel
theorem dX4_holds_37 : decode (mC mX4_holds) 37 = .ok (.iconst 0, 1) := by decide +kernel
theorem dX4_holds_38 : decode (mC mX4_holds) 38 = .ok (.istore 5, 2) := by decide +kernel
theorem dX4_holds_40 : decode (mC mX4_holds) 40 = .ok (.iload 5, 2) := by decide +kernel
theorem dX4_holds_42 : decode (mC mX4_holds) 42 = .ok (.aload_n 0, 1) := by decide +kernel
theorem dX4_holds_43 : decode (mC mX4_holds) 43 = .ok (.getfield 10, 3) := by decide +kernel
theorem dX4_holds_46 : decode (mC mX4_holds) 46 = .ok (.getfield 171, 3) := by decide +kernel
theorem dX4_holds_49 : decode (mC mX4_holds) 49 = .ok (.if_icmp .ge 69, 3) := by decide +kernel
theorem dX4_holds_52 : decode (mC mX4_holds) 52 = .ok (.aload_n 0, 1) := by decide +kernel
theorem dX4_holds_53 : decode (mC mX4_holds) 53 = .ok (.getfield 16, 3) := by decide +kernel
theorem dX4_holds_56 : decode (mC mX4_holds) 56 = .ok (.aload_n 0, 1) := by decide +kernel
theorem dX4_holds_57 : decode (mC mX4_holds) 57 = .ok (.getfield 10, 3) := by decide +kernel
theorem dX4_holds_60 : decode (mC mX4_holds) 60 = .ok (.invokevirtual 69, 3) := by decide +kernel
theorem dX4_holds_63 : decode (mC mX4_holds) 63 = .ok (.aload_n 0, 1) := by decide +kernel
theorem dX4_holds_64 : decode (mC mX4_holds) 64 = .ok (.getfield 16, 3) := by decide +kernel
theorem dX4_holds_67 : decode (mC mX4_holds) 67 = .ok (.iload 5, 2) := by decide +kernel
theorem dX4_holds_69 : decode (mC mX4_holds) 69 = .ok (.invokevirtual 221, 3) := by decide +kernel
theorem dX4_holds_72 : decode (mC mX4_holds) 72 = .ok (.aload_n 0, 1) := by decide +kernel
theorem dX4_holds_73 : decode (mC mX4_holds) 73 = .ok (.getfield 16, 3) := by decide +kernel
theorem dX4_holds_76 : decode (mC mX4_holds) 76 = .ok (.iload_n 1, 1) := by decide +kernel
theorem dX4_holds_77 : decode (mC mX4_holds) 77 = .ok (.iconst 0, 1) := by decide +kernel
theorem dX4_holds_78 : decode (mC mX4_holds) 78 = .ok (.invokevirtual 152, 3) := by decide +kernel
theorem dX4_holds_81 : decode (mC mX4_holds) 81 = .ok (.pop, 1) := by decide +kernel
theorem dX4_holds_82 : decode (mC mX4_holds) 82 = .ok (.iload_n 3, 1) := by decide +kernel
theorem dX4_holds_83 : decode (mC mX4_holds) 83 = .ok (.bipush (-9), 2) := by decide +kernel
theorem dX4_holds_85 : decode (mC mX4_holds) 85 = .ok (.if_icmp .eq 15, 3) := by decide +kernel
theorem dX4_holds_88 : decode (mC mX4_holds) 88 = .ok (.aload_n 0, 1) := by decide +kernel
theorem dX4_holds_89 : decode (mC mX4_holds) 89 = .ok (.getfield 16, 3) := by decide +kernel
theorem dX4_holds_92 : decode (mC mX4_holds) 92 = .ok (.invokevirtual 156, 3) := by decide +kernel
theorem dX4_holds_95 : decode (mC mX4_holds) 95 = .ok (.iload 4, 2) := by decide +kernel
theorem dX4_holds_97 : decode (mC mX4_holds) 97 = .ok (.if_icmp .ge 15, 3) := by decide +kernel
theorem dX4_holds_100 : decode (mC mX4_holds) 100 = .ok (.aload_n 0, 1) := by decide +kernel
theorem dX4_holds_101 : decode (mC mX4_holds) 101 = .ok (.getfield 16, 3) := by decide +kernel
theorem dX4_holds_104 : decode (mC mX4_holds) 104 = .ok (.invokevirtual 156, 3) := by decide +kernel
theorem dX4_holds_107 : decode (mC mX4_holds) 107 = .ok (.istore 4, 2) := by decide +kernel
theorem dX4_holds_109 : decode (mC mX4_holds) 109 = .ok (.iload 5, 2) := by decide +kernel
theorem dX4_holds_111 : decode (mC mX4_holds) 111 = .ok (.istore_n 3, 1) := by decide +kernel
theorem dX4_holds_112 : decode (mC mX4_holds) 112 = .ok (.iinc 5 1, 3) := by decide +kernel
theorem dX4_holds_115 : decode (mC mX4_holds) 115 = .ok (.goto (-75), 3) := by decide +kernel
theorem dX4_holds_118 : decode (mC mX4_holds) 118 = .ok (.iload_n 2, 1) := by decide +kernel
theorem dX4_holds_119 : decode (mC mX4_holds) 119 = .ok (.ifCond .ne 7, 3) := by decide +kernel
theorem dX4_holds_122 : decode (mC mX4_holds) 122 = .ok (.iload_n 3, 1) := by decide +kernel
theorem dX4_holds_123 : decode (mC mX4_holds) 123 = .ok (.goto 5, 3) := by decide +kernel
theorem dX4_holds_126 : decode (mC mX4_holds) 126 = .ok (.iload 4, 2) := by decide +kernel
theorem dX4_holds_128 : decode (mC mX4_holds) 128 = .ok (.ireturn, 1) := by decide +kernel
theorem dX4_crowd_0 : decode (mC mX4_crowd) 0 = .ok (.iload_n 1, 1) := by decide +kernel
theorem dX4_crowd_1 : decode (mC mX4_crowd) 1 = .ok (.tableswitch 58 0 3 #[31, 36, 48, 53], 31) := by decide +kernel
theorem dX4_crowd_32 : decode (mC mX4_crowd) 32 = .ok (.aload_n 0, 1) := by decide +kernel
theorem dX4_crowd_33 : decode (mC mX4_crowd) 33 = .ok (.invokevirtual 224, 3) := by decide +kernel
theorem dX4_crowd_36 : decode (mC mX4_crowd) 36 = .ok (.ireturn, 1) := by decide +kernel
theorem dX4_crowd_37 : decode (mC mX4_crowd) 37 = .ok (.aload_n 0, 1) := by decide +kernel
theorem dX4_crowd_38 : decode (mC mX4_crowd) 38 = .ok (.getfield 10, 3) := by decide +kernel
theorem dX4_crowd_41 : decode (mC mX4_crowd) 41 = .ok (.aload_n 0, 1) := by decide +kernel
theorem dX4_crowd_42 : decode (mC mX4_crowd) 42 = .ok (.invokevirtual 224, 3) := by decide +kernel
theorem dX4_crowd_45 : decode (mC mX4_crowd) 45 = .ok (.invokevirtual 227, 3) := by decide +kernel
theorem dX4_crowd_48 : decode (mC mX4_crowd) 48 = .ok (.ireturn, 1) := by decide +kernel
theorem dX4_crowd_49 : decode (mC mX4_crowd) 49 = .ok (.aload_n 0, 1) := by decide +kernel
theorem dX4_crowd_50 : decode (mC mX4_crowd) 50 = .ok (.invokevirtual 230, 3) := by decide +kernel
theorem dX4_crowd_53 : decode (mC mX4_crowd) 53 = .ok (.ireturn, 1) := by decide +kernel
theorem dX4_crowd_54 : decode (mC mX4_crowd) 54 = .ok (.aload_n 0, 1) := by decide +kernel
theorem dX4_crowd_55 : decode (mC mX4_crowd) 55 = .ok (.invokevirtual 233, 3) := by decide +kernel
theorem dX4_crowd_58 : decode (mC mX4_crowd) 58 = .ok (.ireturn, 1) := by decide +kernel
theorem dX4_crowd_59 : decode (mC mX4_crowd) 59 = .ok (.aload_n 0, 1) := by decide +kernel
theorem dX4_crowd_60 : decode (mC mX4_crowd) 60 = .ok (.bipush (-2), 2) := by decide +kernel
theorem dX4_crowd_62 : decode (mC mX4_crowd) 62 = .ok (.invokevirtual 45, 3) := by decide +kernel
theorem dX4_crowd_65 : decode (mC mX4_crowd) 65 = .ok (.ireturn, 1) := by decide +kernel
theorem dX4_crowdedRoom_0 : decode (mC mX4_crowdedRoom) 0 = .ok (.iconst 0, 1) := by decide +kernel
theorem dX4_crowdedRoom_1 : decode (mC mX4_crowdedRoom) 1 = .ok (.istore_n 1, 1) := by decide +kernel
theorem dX4_crowdedRoom_2 : decode (mC mX4_crowdedRoom) 2 = .ok (.iconst 1, 1) := by decide +kernel
theorem dX4_crowdedRoom_3 : decode (mC mX4_crowdedRoom) 3 = .ok (.istore_n 2, 1) := by decide +kernel
theorem dX4_crowdedRoom_4 : decode (mC mX4_crowdedRoom) 4 = .ok (.iload_n 2, 1) := by decide +kernel
theorem dX4_crowdedRoom_5 : decode (mC mX4_crowdedRoom) 5 = .ok (.bipush 8, 2) := by decide +kernel
theorem dX4_crowdedRoom_7 : decode (mC mX4_crowdedRoom) 7 = .ok (.if_icmp .ge 30, 3) := by decide +kernel
theorem dX4_crowdedRoom_10 : decode (mC mX4_crowdedRoom) 10 = .ok (.aload_n 0, 1) := by decide +kernel
theorem dX4_crowdedRoom_11 : decode (mC mX4_crowdedRoom) 11 = .ok (.getfield 10, 3) := by decide +kernel
theorem dX4_crowdedRoom_14 : decode (mC mX4_crowdedRoom) 14 = .ok (.iload_n 2, 1) := by decide +kernel
theorem dX4_crowdedRoom_15 : decode (mC mX4_crowdedRoom) 15 = .ok (.invokevirtual 227, 3) := by decide +kernel
theorem dX4_crowdedRoom_18 : decode (mC mX4_crowdedRoom) 18 = .ok (.aload_n 0, 1) := by decide +kernel
theorem dX4_crowdedRoom_19 : decode (mC mX4_crowdedRoom) 19 = .ok (.getfield 10, 3) := by decide +kernel
theorem dX4_crowdedRoom_22 : decode (mC mX4_crowdedRoom) 22 = .ok (.iload_n 1, 1) := by decide +kernel
theorem dX4_crowdedRoom_23 : decode (mC mX4_crowdedRoom) 23 = .ok (.invokevirtual 227, 3) := by decide +kernel
theorem dX4_crowdedRoom_26 : decode (mC mX4_crowdedRoom) 26 = .ok (.if_icmp .le 5, 3) := by decide +kernel
theorem dX4_crowdedRoom_29 : decode (mC mX4_crowdedRoom) 29 = .ok (.iload_n 2, 1) := by decide +kernel
theorem dX4_crowdedRoom_30 : decode (mC mX4_crowdedRoom) 30 = .ok (.istore_n 1, 1) := by decide +kernel
theorem dX4_crowdedRoom_31 : decode (mC mX4_crowdedRoom) 31 = .ok (.iinc 2 1, 3) := by decide +kernel
theorem dX4_crowdedRoom_34 : decode (mC mX4_crowdedRoom) 34 = .ok (.goto (-30), 3) := by decide +kernel
theorem dX4_crowdedRoom_37 : decode (mC mX4_crowdedRoom) 37 = .ok (.iload_n 1, 1) := by decide +kernel
theorem dX4_crowdedRoom_38 : decode (mC mX4_crowdedRoom) 38 = .ok (.ireturn, 1) := by decide +kernel
theorem dX4_emptyRooms_0 : decode (mC mX4_emptyRooms) 0 = .ok (.iconst 0, 1) := by decide +kernel
theorem dX4_emptyRooms_1 : decode (mC mX4_emptyRooms) 1 = .ok (.istore_n 1, 1) := by decide +kernel
theorem dX4_emptyRooms_2 : decode (mC mX4_emptyRooms) 2 = .ok (.iconst 0, 1) := by decide +kernel
theorem dX4_emptyRooms_3 : decode (mC mX4_emptyRooms) 3 = .ok (.istore_n 2, 1) := by decide +kernel
theorem dX4_emptyRooms_4 : decode (mC mX4_emptyRooms) 4 = .ok (.iload_n 2, 1) := by decide +kernel
theorem dX4_emptyRooms_5 : decode (mC mX4_emptyRooms) 5 = .ok (.bipush 8, 2) := by decide +kernel
theorem dX4_emptyRooms_7 : decode (mC mX4_emptyRooms) 7 = .ok (.if_icmp .ge 26, 3) := by decide +kernel
theorem dX4_emptyRooms_10 : decode (mC mX4_emptyRooms) 10 = .ok (.aload_n 0, 1) := by decide +kernel
theorem dX4_emptyRooms_11 : decode (mC mX4_emptyRooms) 11 = .ok (.getfield 10, 3) := by decide +kernel
theorem dX4_emptyRooms_14 : decode (mC mX4_emptyRooms) 14 = .ok (.iload_n 2, 1) := by decide +kernel
theorem dX4_emptyRooms_15 : decode (mC mX4_emptyRooms) 15 = .ok (.invokevirtual 227, 3) := by decide +kernel
theorem dX4_emptyRooms_18 : decode (mC mX4_emptyRooms) 18 = .ok (.ifCond .ne 9, 3) := by decide +kernel
theorem dX4_emptyRooms_21 : decode (mC mX4_emptyRooms) 21 = .ok (.iload_n 1, 1) := by decide +kernel
theorem dX4_emptyRooms_22 : decode (mC mX4_emptyRooms) 22 = .ok (.iconst 1, 1) := by decide +kernel
theorem dX4_emptyRooms_23 : decode (mC mX4_emptyRooms) 23 = .ok (.iload_n 2, 1) := by decide +kernel
theorem dX4_emptyRooms_24 : decode (mC mX4_emptyRooms) 24 = .ok (.ishl, 1) := by decide +kernel
theorem dX4_emptyRooms_25 : decode (mC mX4_emptyRooms) 25 = .ok (.ior, 1) := by decide +kernel
theorem dX4_emptyRooms_26 : decode (mC mX4_emptyRooms) 26 = .ok (.istore_n 1, 1) := by decide +kernel
theorem dX4_emptyRooms_27 : decode (mC mX4_emptyRooms) 27 = .ok (.iinc 2 1, 3) := by decide +kernel
theorem dX4_emptyRooms_30 : decode (mC mX4_emptyRooms) 30 = .ok (.goto (-26), 3) := by decide +kernel
theorem dX4_emptyRooms_33 : decode (mC mX4_emptyRooms) 33 = .ok (.iload_n 1, 1) := by decide +kernel
theorem dX4_emptyRooms_34 : decode (mC mX4_emptyRooms) 34 = .ok (.ireturn, 1) := by decide +kernel
theorem dX4_deadRooms_0 : decode (mC mX4_deadRooms) 0 = .ok (.iconst 0, 1) := by decide +kernel
theorem dX4_deadRooms_1 : decode (mC mX4_deadRooms) 1 = .ok (.istore_n 1, 1) := by decide +kernel
theorem dX4_deadRooms_2 : decode (mC mX4_deadRooms) 2 = .ok (.iconst 0, 1) := by decide +kernel
theorem dX4_deadRooms_3 : decode (mC mX4_deadRooms) 3 = .ok (.istore_n 2, 1) := by decide +kernel
theorem dX4_deadRooms_4 : decode (mC mX4_deadRooms) 4 = .ok (.iload_n 2, 1) := by decide +kernel
theorem dX4_deadRooms_5 : decode (mC mX4_deadRooms) 5 = .ok (.bipush 8, 2) := by decide +kernel
theorem dX4_deadRooms_7 : decode (mC mX4_deadRooms) 7 = .ok (.if_icmp .ge 42, 3) := by decide +kernel
theorem dX4_deadRooms_10 : decode (mC mX4_deadRooms) 10 = .ok (.aload_n 0, 1) := by decide +kernel
theorem dX4_deadRooms_11 : decode (mC mX4_deadRooms) 11 = .ok (.getfield 10, 3) := by decide +kernel
theorem dX4_deadRooms_14 : decode (mC mX4_deadRooms) 14 = .ok (.getfield 90, 3) := by decide +kernel
theorem dX4_deadRooms_17 : decode (mC mX4_deadRooms) 17 = .ok (.getfield 110, 3) := by decide +kernel
theorem dX4_deadRooms_20 : decode (mC mX4_deadRooms) 20 = .ok (.aload_n 0, 1) := by decide +kernel
theorem dX4_deadRooms_21 : decode (mC mX4_deadRooms) 21 = .ok (.getfield 10, 3) := by decide +kernel
theorem dX4_deadRooms_24 : decode (mC mX4_deadRooms) 24 = .ok (.getfield 90, 3) := by decide +kernel
theorem dX4_deadRooms_27 : decode (mC mX4_deadRooms) 27 = .ok (.getfield 181, 3) := by decide +kernel
theorem dX4_deadRooms_30 : decode (mC mX4_deadRooms) 30 = .ok (.iload_n 2, 1) := by decide +kernel
theorem dX4_deadRooms_31 : decode (mC mX4_deadRooms) 31 = .ok (.invokestatic 236, 3) := by decide +kernel
theorem dX4_deadRooms_34 : decode (mC mX4_deadRooms) 34 = .ok (.ifCond .ne 9, 3) := by decide +kernel
theorem dX4_deadRooms_37 : decode (mC mX4_deadRooms) 37 = .ok (.iload_n 1, 1) := by decide +kernel
theorem dX4_deadRooms_38 : decode (mC mX4_deadRooms) 38 = .ok (.iconst 1, 1) := by decide +kernel
theorem dX4_deadRooms_39 : decode (mC mX4_deadRooms) 39 = .ok (.iload_n 2, 1) := by decide +kernel
theorem dX4_deadRooms_40 : decode (mC mX4_deadRooms) 40 = .ok (.ishl, 1) := by decide +kernel
theorem dX4_deadRooms_41 : decode (mC mX4_deadRooms) 41 = .ok (.ior, 1) := by decide +kernel
theorem dX4_deadRooms_42 : decode (mC mX4_deadRooms) 42 = .ok (.istore_n 1, 1) := by decide +kernel
theorem dX4_deadRooms_43 : decode (mC mX4_deadRooms) 43 = .ok (.iinc 2 1, 3) := by decide +kernel
theorem dX4_deadRooms_46 : decode (mC mX4_deadRooms) 46 = .ok (.goto (-42), 3) := by decide +kernel
theorem dX4_deadRooms_49 : decode (mC mX4_deadRooms) 49 = .ok (.iload_n 1, 1) := by decide +kernel
theorem dX4_deadRooms_50 : decode (mC mX4_deadRooms) 50 = .ok (.ireturn, 1) := by decide +kernel
theorem dX4_handles_0 : decode (mC mX4_handles) 0 = .ok (.iload_n 1, 1) := by decide +kernel
theorem dX4_handles_1 : decode (mC mX4_handles) 1 = .ok (.invokestatic 142, 3) := by decide +kernel
theorem dX4_handles_4 : decode (mC mX4_handles) 4 = .ok (.ifCond .ne 9, 3) := by decide +kernel
theorem dX4_handles_7 : decode (mC mX4_handles) 7 = .ok (.aload_n 0, 1) := by decide +kernel
theorem dX4_handles_8 : decode (mC mX4_handles) 8 = .ok (.iconst (-1), 1) := by decide +kernel
theorem dX4_handles_9 : decode (mC mX4_handles) 9 = .ok (.invokevirtual 45, 3) := by decide +kernel
theorem dX4_handles_12 : decode (mC mX4_handles) 12 = .ok (.ireturn, 1) := by decide +kernel
theorem dX4_handles_13 : decode (mC mX4_handles) 13 = .ok (.aload_n 0, 1) := by decide +kernel
theorem dX4_handles_14 : decode (mC mX4_handles) 14 = .ok (.getfield 10, 3) := by decide +kernel
theorem dX4_handles_17 : decode (mC mX4_handles) 17 = .ok (.getfield 90, 3) := by decide +kernel
theorem dX4_handles_20 : decode (mC mX4_handles) 20 = .ok (.getfield 113, 3) := by decide +kernel
theorem dX4_handles_23 : decode (mC mX4_handles) 23 = .ok (.aload_n 0, 1) := by decide +kernel
theorem dX4_handles_24 : decode (mC mX4_handles) 24 = .ok (.getfield 10, 3) := by decide +kernel
theorem dX4_handles_27 : decode (mC mX4_handles) 27 = .ok (.getfield 90, 3) := by decide +kernel
theorem dX4_handles_30 : decode (mC mX4_handles) 30 = .ok (.getfield 181, 3) := by decide +kernel
theorem dX4_handles_33 : decode (mC mX4_handles) 33 = .ok (.iload_n 1, 1) := by decide +kernel
theorem dX4_handles_34 : decode (mC mX4_handles) 34 = .ok (.invokestatic 236, 3) := by decide +kernel
theorem dX4_handles_37 : decode (mC mX4_handles) 37 = .ok (.ireturn, 1) := by decide +kernel
theorem dX4_meet_0 : decode (mC mX4_meet) 0 = .ok (.iload_n 1, 1) := by decide +kernel
theorem dX4_meet_1 : decode (mC mX4_meet) 1 = .ok (.invokestatic 159, 3) := by decide +kernel
theorem dX4_meet_4 : decode (mC mX4_meet) 4 = .ok (.ifCond .ne 10, 3) := by decide +kernel
theorem dX4_meet_7 : decode (mC mX4_meet) 7 = .ok (.aload_n 0, 1) := by decide +kernel
theorem dX4_meet_8 : decode (mC mX4_meet) 8 = .ok (.bipush (-2), 2) := by decide +kernel
theorem dX4_meet_10 : decode (mC mX4_meet) 10 = .ok (.invokevirtual 45, 3) := by decide +kernel
theorem dX4_meet_13 : decode (mC mX4_meet) 13 = .ok (.ireturn, 1) := by decide +kernel
theorem dX4_meet_14 : decode (mC mX4_meet) 14 = .ok (.bipush (-9), 2) := by decide +kernel
theorem dX4_meet_16 : decode (mC mX4_meet) 16 = .ok (.istore_n 2, 1) := by decide +kernel
theorem dX4_meet_17 : decode (mC mX4_meet) 17 = .ok (.sipush 1000, 3) := by decide +kernel
theorem dX4_meet_20 : decode (mC mX4_meet) 20 = .ok (.istore_n 3, 1) := by decide +kernel
theorem dX4_meet_21 : decode (mC mX4_meet) 21 = .ok (.iconst 0, 1) := by decide +kernel
theorem dX4_meet_22 : decode (mC mX4_meet) 22 = .ok (.istore 4, 2) := by decide +kernel
theorem dX4_meet_24 : decode (mC mX4_meet) 24 = .ok (.iload 4, 2) := by decide +kernel
theorem dX4_meet_26 : decode (mC mX4_meet) 26 = .ok (.bipush 8, 2) := by decide +kernel
theorem dX4_meet_28 : decode (mC mX4_meet) 28 = .ok (.if_icmp .ge 29, 3) := by decide +kernel
theorem dX4_meet_31 : decode (mC mX4_meet) 31 = .ok (.aload_n 0, 1) := by decide +kernel
theorem dX4_meet_32 : decode (mC mX4_meet) 32 = .ok (.iload 4, 2) := by decide +kernel
theorem dX4_meet_34 : decode (mC mX4_meet) 34 = .ok (.invokevirtual 239, 3) := by decide +kernel
theorem dX4_meet_37 : decode (mC mX4_meet) 37 = .ok (.istore 5, 2) := by decide +kernel
theorem dX4_meet_39 : decode (mC mX4_meet) 39 = .ok (.iload 5, 2) := by decide +kernel
theorem dX4_meet_41 : decode (mC mX4_meet) 41 = .ok (.iload_n 3, 1) := by decide +kernel
theorem dX4_meet_42 : decode (mC mX4_meet) 42 = .ok (.if_icmp .ge 9, 3) := by decide +kernel
theorem dX4_meet_45 : decode (mC mX4_meet) 45 = .ok (.iload 5, 2) := by decide +kernel
theorem dX4_meet_47 : decode (mC mX4_meet) 47 = .ok (.istore_n 3, 1) := by decide +kernel
theorem dX4_meet_48 : decode (mC mX4_meet) 48 = .ok (.iload 4, 2) := by decide +kernel
theorem dX4_meet_50 : decode (mC mX4_meet) 50 = .ok (.istore_n 2, 1) := by decide +kernel
theorem dX4_meet_51 : decode (mC mX4_meet) 51 = .ok (.iinc 4 1, 3) := by decide +kernel
theorem dX4_meet_54 : decode (mC mX4_meet) 54 = .ok (.goto (-30), 3) := by decide +kernel
theorem dX4_meet_57 : decode (mC mX4_meet) 57 = .ok (.iload_n 1, 1) := by decide +kernel
theorem dX4_meet_58 : decode (mC mX4_meet) 58 = .ok (.ifCond .ne 7, 3) := by decide +kernel
theorem dX4_meet_61 : decode (mC mX4_meet) 61 = .ok (.iload_n 2, 1) := by decide +kernel
theorem dX4_meet_62 : decode (mC mX4_meet) 62 = .ok (.goto 7, 3) := by decide +kernel
theorem dX4_meet_65 : decode (mC mX4_meet) 65 = .ok (.iload_n 3, 1) := by decide +kernel
theorem dX4_meet_66 : decode (mC mX4_meet) 66 = .ok (.invokestatic 175, 3) := by decide +kernel
theorem dX4_meet_69 : decode (mC mX4_meet) 69 = .ok (.ireturn, 1) := by decide +kernel
theorem dX4_waysOfAllTo_0 : decode (mC mX4_waysOfAllTo) 0 = .ok (.iconst 0, 1) := by decide +kernel
theorem dX4_waysOfAllTo_1 : decode (mC mX4_waysOfAllTo) 1 = .ok (.istore_n 2, 1) := by decide +kernel
theorem dX4_waysOfAllTo_2 : decode (mC mX4_waysOfAllTo) 2 = .ok (.iconst 0, 1) := by decide +kernel
theorem dX4_waysOfAllTo_3 : decode (mC mX4_waysOfAllTo) 3 = .ok (.istore_n 3, 1) := by decide +kernel
theorem dX4_waysOfAllTo_4 : decode (mC mX4_waysOfAllTo) 4 = .ok (.iload_n 3, 1) := by decide +kernel
theorem dX4_waysOfAllTo_5 : decode (mC mX4_waysOfAllTo) 5 = .ok (.aload_n 0, 1) := by decide +kernel
theorem dX4_waysOfAllTo_6 : decode (mC mX4_waysOfAllTo) 6 = .ok (.getfield 10, 3) := by decide +kernel
theorem dX4_waysOfAllTo_9 : decode (mC mX4_waysOfAllTo) 9 = .ok (.getfield 171, 3) := by decide +kernel
theorem dX4_waysOfAllTo_12 : decode (mC mX4_waysOfAllTo) 12 = .ok (.if_icmp .ge 34, 3) := by decide +kernel
theorem dX4_waysOfAllTo_15 : decode (mC mX4_waysOfAllTo) 15 = .ok (.iload_n 2, 1) := by decide +kernel
theorem dX4_waysOfAllTo_16 : decode (mC mX4_waysOfAllTo) 16 = .ok (.aload_n 0, 1) := by decide +kernel
theorem dX4_waysOfAllTo_17 : decode (mC mX4_waysOfAllTo) 17 = .ok (.getfield 10, 3) := by decide +kernel
theorem dX4_waysOfAllTo_20 : decode (mC mX4_waysOfAllTo) 20 = .ok (.getfield 90, 3) := by decide +kernel
theorem dX4_waysOfAllTo_23 : decode (mC mX4_waysOfAllTo) 23 = .ok (.aload_n 0, 1) := by decide +kernel
theorem dX4_waysOfAllTo_24 : decode (mC mX4_waysOfAllTo) 24 = .ok (.getfield 10, 3) := by decide +kernel
theorem dX4_waysOfAllTo_27 : decode (mC mX4_waysOfAllTo) 27 = .ok (.getfield 120, 3) := by decide +kernel
theorem dX4_waysOfAllTo_30 : decode (mC mX4_waysOfAllTo) 30 = .ok (.iload_n 3, 1) := by decide +kernel
theorem dX4_waysOfAllTo_31 : decode (mC mX4_waysOfAllTo) 31 = .ok (.invokestatic 103, 3) := by decide +kernel
theorem dX4_waysOfAllTo_34 : decode (mC mX4_waysOfAllTo) 34 = .ok (.iload_n 1, 1) := by decide +kernel
theorem dX4_waysOfAllTo_35 : decode (mC mX4_waysOfAllTo) 35 = .ok (.invokevirtual 172, 3) := by decide +kernel
theorem dX4_waysOfAllTo_38 : decode (mC mX4_waysOfAllTo) 38 = .ok (.iadd, 1) := by decide +kernel
theorem dX4_waysOfAllTo_39 : decode (mC mX4_waysOfAllTo) 39 = .ok (.istore_n 2, 1) := by decide +kernel
theorem dX4_waysOfAllTo_40 : decode (mC mX4_waysOfAllTo) 40 = .ok (.iinc 3 1, 3) := by decide +kernel
theorem dX4_waysOfAllTo_43 : decode (mC mX4_waysOfAllTo) 43 = .ok (.goto (-39), 3) := by decide +kernel
theorem dX4_waysOfAllTo_46 : decode (mC mX4_waysOfAllTo) 46 = .ok (.iload_n 2, 1) := by decide +kernel
theorem dX4_waysOfAllTo_47 : decode (mC mX4_waysOfAllTo) 47 = .ok (.sipush 1000, 3) := by decide +kernel
theorem dX4_waysOfAllTo_50 : decode (mC mX4_waysOfAllTo) 50 = .ok (.invokestatic 186, 3) := by decide +kernel
theorem dX4_waysOfAllTo_53 : decode (mC mX4_waysOfAllTo) 53 = .ok (.ireturn, 1) := by decide +kernel
theorem dX4_two_0 : decode (mC mX4_two) 0 = .ok (.aload_n 0, 1) := by decide +kernel
theorem dX4_two_1 : decode (mC mX4_two) 1 = .ok (.getfield 10, 3) := by decide +kernel
theorem dX4_two_4 : decode (mC mX4_two) 4 = .ok (.iload_n 1, 1) := by decide +kernel
theorem dX4_two_5 : decode (mC mX4_two) 5 = .ok (.invokevirtual 119, 3) := by decide +kernel
theorem dX4_two_8 : decode (mC mX4_two) 8 = .ok (.ifCond .eq 19, 3) := by decide +kernel
theorem dX4_two_11 : decode (mC mX4_two) 11 = .ok (.aload_n 0, 1) := by decide +kernel
theorem dX4_two_12 : decode (mC mX4_two) 12 = .ok (.getfield 10, 3) := by decide +kernel
theorem dX4_two_15 : decode (mC mX4_two) 15 = .ok (.iload_n 2, 1) := by decide +kernel
theorem dX4_two_16 : decode (mC mX4_two) 16 = .ok (.invokevirtual 119, 3) := by decide +kernel
theorem dX4_two_19 : decode (mC mX4_two) 19 = .ok (.ifCond .eq 8, 3) := by decide +kernel
theorem dX4_two_22 : decode (mC mX4_two) 22 = .ok (.iload_n 1, 1) := by decide +kernel
theorem dX4_two_23 : decode (mC mX4_two) 23 = .ok (.iload_n 2, 1) := by decide +kernel
theorem dX4_two_24 : decode (mC mX4_two) 24 = .ok (.if_icmp .ne 9, 3) := by decide +kernel
theorem dX4_two_27 : decode (mC mX4_two) 27 = .ok (.aload_n 0, 1) := by decide +kernel
theorem dX4_two_28 : decode (mC mX4_two) 28 = .ok (.iconst (-1), 1) := by decide +kernel
theorem dX4_two_29 : decode (mC mX4_two) 29 = .ok (.invokevirtual 45, 3) := by decide +kernel
theorem dX4_two_32 : decode (mC mX4_two) 32 = .ok (.ireturn, 1) := by decide +kernel
theorem dX4_two_33 : decode (mC mX4_two) 33 = .ok (.iload_n 3, 1) := by decide +kernel
theorem dX4_two_34 : decode (mC mX4_two) 34 = .ok (.ifCond .lt 9, 3) := by decide +kernel
theorem dX4_two_37 : decode (mC mX4_two) 37 = .ok (.iload_n 3, 1) := by decide +kernel
theorem dX4_two_38 : decode (mC mX4_two) 38 = .ok (.bipush 30, 2) := by decide +kernel
theorem dX4_two_40 : decode (mC mX4_two) 40 = .ok (.if_icmp .le 9, 3) := by decide +kernel
theorem dX4_two_43 : decode (mC mX4_two) 43 = .ok (.aload_n 0, 1) := by decide +kernel
theorem dX4_two_44 : decode (mC mX4_two) 44 = .ok (.iload_n 3, 1) := by decide +kernel
theorem dX4_two_45 : decode (mC mX4_two) 45 = .ok (.invokevirtual 149, 3) := by decide +kernel
theorem dX4_two_48 : decode (mC mX4_two) 48 = .ok (.ireturn, 1) := by decide +kernel
theorem dX4_two_49 : decode (mC mX4_two) 49 = .ok (.iconst 0, 1) := by decide +kernel
theorem dX4_two_50 : decode (mC mX4_two) 50 = .ok (.istore 4, 2) := by decide +kernel
theorem dX4_two_52 : decode (mC mX4_two) 52 = .ok (.iload 4, 2) := by decide +kernel
theorem dX4_two_54 : decode (mC mX4_two) 54 = .ok (.iconst 4, 1) := by decide +kernel
theorem dX4_two_55 : decode (mC mX4_two) 55 = .ok (.if_icmp .ge 18, 3) := by decide +kernel
theorem dX4_two_58 : decode (mC mX4_two) 58 = .ok (.aload_n 0, 1) := by decide +kernel
theorem dX4_two_59 : decode (mC mX4_two) 59 = .ok (.iload_n 1, 1) := by decide +kernel
theorem dX4_two_60 : decode (mC mX4_two) 60 = .ok (.iload_n 2, 1) := by decide +kernel
theorem dX4_two_61 : decode (mC mX4_two) 61 = .ok (.iload 4, 2) := by decide +kernel
theorem dX4_two_63 : decode (mC mX4_two) 63 = .ok (.iload_n 3, 1) := by decide +kernel
theorem dX4_two_64 : decode (mC mX4_two) 64 = .ok (.invokevirtual 242, 3) := by decide +kernel
theorem dX4_two_67 : decode (mC mX4_two) 67 = .ok (.iinc 4 1, 3) := by decide +kernel
theorem dX4_two_70 : decode (mC mX4_two) 70 = .ok (.goto (-18), 3) := by decide +kernel
theorem dX4_two_73 : decode (mC mX4_two) 73 = .ok (.iconst 0, 1) := by decide +kernel
theorem dX4_two_74 : decode (mC mX4_two) 74 = .ok (.istore 4, 2) := by decide +kernel
theorem dX4_two_76 : decode (mC mX4_two) 76 = .ok (.iload 4, 2) := by decide +kernel
theorem dX4_two_78 : decode (mC mX4_two) 78 = .ok (.iconst 4, 1) := by decide +kernel
theorem dX4_two_79 : decode (mC mX4_two) 79 = .ok (.if_icmp .ge 96, 3) := by decide +kernel
theorem dX4_two_82 : decode (mC mX4_two) 82 = .ok (.aload_n 0, 1) := by decide +kernel
theorem dX4_two_83 : decode (mC mX4_two) 83 = .ok (.getfield 42, 3) := by decide +kernel
theorem dX4_two_86 : decode (mC mX4_two) 86 = .ok (.iload 4, 2) := by decide +kernel
theorem dX4_two_88 : decode (mC mX4_two) 88 = .ok (.invokestatic 103, 3) := by decide +kernel
theorem dX4_two_91 : decode (mC mX4_two) 91 = .ok (.aload_n 0, 1) := by decide +kernel
theorem dX4_two_92 : decode (mC mX4_two) 92 = .ok (.getfield 42, 3) := by decide +kernel
theorem dX4_two_95 : decode (mC mX4_two) 95 = .ok (.iload 4, 2) := by decide +kernel
theorem dX4_two_97 : decode (mC mX4_two) 97 = .ok (.iconst 2, 1) := by decide +kernel
theorem dX4_two_98 : decode (mC mX4_two) 98 = .ok (.ixor, 1) := by decide +kernel
theorem dX4_two_99 : decode (mC mX4_two) 99 = .ok (.invokestatic 103, 3) := by decide +kernel
theorem dX4_two_102 : decode (mC mX4_two) 102 = .ok (.if_icmp .lt 7, 3) := by decide +kernel
theorem dX4_two_105 : decode (mC mX4_two) 105 = .ok (.iconst 1, 1) := by decide +kernel
theorem dX4_two_106 : decode (mC mX4_two) 106 = .ok (.goto 4, 3) := by decide +kernel
theorem dX4_two_109 : decode (mC mX4_two) 109 = .ok (.iconst 0, 1) := by decide +kernel
theorem dX4_two_110 : decode (mC mX4_two) 110 = .ok (.istore 5, 2) := by decide +kernel
theorem dX4_two_112 : decode (mC mX4_two) 112 = .ok (.aload_n 0, 1) := by decide +kernel
theorem dX4_two_113 : decode (mC mX4_two) 113 = .ok (.getfield 42, 3) := by decide +kernel
theorem dX4_two_116 : decode (mC mX4_two) 116 = .ok (.iconst 4, 1) := by decide +kernel
theorem dX4_two_117 : decode (mC mX4_two) 117 = .ok (.iload 4, 2) := by decide +kernel
theorem dX4_two_119 : decode (mC mX4_two) 119 = .ok (.iadd, 1) := by decide +kernel
theorem dX4_two_120 : decode (mC mX4_two) 120 = .ok (.invokestatic 103, 3) := by decide +kernel
theorem dX4_two_123 : decode (mC mX4_two) 123 = .ok (.aload_n 0, 1) := by decide +kernel
theorem dX4_two_124 : decode (mC mX4_two) 124 = .ok (.getfield 42, 3) := by decide +kernel
theorem dX4_two_127 : decode (mC mX4_two) 127 = .ok (.iconst 4, 1) := by decide +kernel
theorem dX4_two_128 : decode (mC mX4_two) 128 = .ok (.iload 4, 2) := by decide +kernel
theorem dX4_two_130 : decode (mC mX4_two) 130 = .ok (.iconst 1, 1) := by decide +kernel
theorem dX4_two_131 : decode (mC mX4_two) 131 = .ok (.ixor, 1) := by decide +kernel
theorem dX4_two_132 : decode (mC mX4_two) 132 = .ok (.iadd, 1) := by decide +kernel
theorem dX4_two_133 : decode (mC mX4_two) 133 = .ok (.invokestatic 103, 3) := by decide +kernel
theorem dX4_two_136 : decode (mC mX4_two) 136 = .ok (.if_icmp .lt 7, 3) := by decide +kernel
theorem dX4_two_139 : decode (mC mX4_two) 139 = .ok (.iconst 1, 1) := by decide +kernel
theorem dX4_two_140 : decode (mC mX4_two) 140 = .ok (.goto 4, 3) := by decide +kernel
theorem dX4_two_143 : decode (mC mX4_two) 143 = .ok (.iconst 0, 1) := by decide +kernel
theorem dX4_two_144 : decode (mC mX4_two) 144 = .ok (.istore 6, 2) := by decide +kernel
theorem dX4_two_146 : decode (mC mX4_two) 146 = .ok (.iload 5, 2) := by decide +kernel
theorem dX4_two_148 : decode (mC mX4_two) 148 = .ok (.ifCond .eq 21, 3) := by decide +kernel
theorem dX4_two_151 : decode (mC mX4_two) 151 = .ok (.iload 6, 2) := by decide +kernel
theorem dX4_two_153 : decode (mC mX4_two) 153 = .ok (.ifCond .eq 16, 3) := by decide +kernel
theorem dX4_two_156 : decode (mC mX4_two) 156 = .ok (.bipush 10, 2) := by decide +kernel
theorem dX4_two_158 : decode (mC mX4_two) 158 = .ok (.iload 4, 2) := by decide +kernel
theorem dX4_two_160 : decode (mC mX4_two) 160 = .ok (.iconst 2, 1) := by decide +kernel
theorem dX4_two_161 : decode (mC mX4_two) 161 = .ok (.idiv, 1) := by decide +kernel
theorem dX4_two_162 : decode (mC mX4_two) 162 = .ok (.imul, 1) := by decide +kernel
theorem dX4_two_163 : decode (mC mX4_two) 163 = .ok (.iload 4, 2) := by decide +kernel
theorem dX4_two_165 : decode (mC mX4_two) 165 = .ok (.iconst 2, 1) := by decide +kernel
theorem dX4_two_166 : decode (mC mX4_two) 166 = .ok (.irem, 1) := by decide +kernel
theorem dX4_two_167 : decode (mC mX4_two) 167 = .ok (.iadd, 1) := by decide +kernel
theorem dX4_two_168 : decode (mC mX4_two) 168 = .ok (.ireturn, 1) := by decide +kernel
theorem dX4_two_169 : decode (mC mX4_two) 169 = .ok (.iinc 4 1, 3) := by decide +kernel
theorem dX4_two_172 : decode (mC mX4_two) 172 = .ok (.goto (-96), 3) := by decide +kernel
theorem dX4_two_175 : decode (mC mX4_two) 175 = .ok (.bipush (-9), 2) := by decide +kernel
theorem dX4_two_177 : decode (mC mX4_two) 177 = .ok (.ireturn, 1) := by decide +kernel
theorem dX4_tryPair_0 : decode (mC mX4_tryPair) 0 = .ok (.aload_n 0, 1) := by decide +kernel
theorem dX4_tryPair_1 : decode (mC mX4_tryPair) 1 = .ok (.getfield 16, 3) := by decide +kernel
theorem dX4_tryPair_4 : decode (mC mX4_tryPair) 4 = .ok (.aload_n 0, 1) := by decide +kernel
theorem dX4_tryPair_5 : decode (mC mX4_tryPair) 5 = .ok (.getfield 10, 3) := by decide +kernel
theorem dX4_tryPair_8 : decode (mC mX4_tryPair) 8 = .ok (.invokevirtual 69, 3) := by decide +kernel
theorem dX4_tryPair_11 : decode (mC mX4_tryPair) 11 = .ok (.iload_n 3, 1) := by decide +kernel
theorem dX4_tryPair_12 : decode (mC mX4_tryPair) 12 = .ok (.iconst 1, 1) := by decide +kernel
theorem dX4_tryPair_13 : decode (mC mX4_tryPair) 13 = .ok (.invokestatic 182, 3) := by decide +kernel
theorem dX4_tryPair_16 : decode (mC mX4_tryPair) 16 = .ok (.ifCond .eq 11, 3) := by decide +kernel
theorem dX4_tryPair_19 : decode (mC mX4_tryPair) 19 = .ok (.aload_n 0, 1) := by decide +kernel
theorem dX4_tryPair_20 : decode (mC mX4_tryPair) 20 = .ok (.getfield 16, 3) := by decide +kernel
theorem dX4_tryPair_23 : decode (mC mX4_tryPair) 23 = .ok (.iload_n 1, 1) := by decide +kernel
theorem dX4_tryPair_24 : decode (mC mX4_tryPair) 24 = .ok (.invokevirtual 208, 3) := by decide +kernel
theorem dX4_tryPair_27 : decode (mC mX4_tryPair) 27 = .ok (.iload_n 3, 1) := by decide +kernel
theorem dX4_tryPair_28 : decode (mC mX4_tryPair) 28 = .ok (.iconst 0, 1) := by decide +kernel
theorem dX4_tryPair_29 : decode (mC mX4_tryPair) 29 = .ok (.invokestatic 182, 3) := by decide +kernel
theorem dX4_tryPair_32 : decode (mC mX4_tryPair) 32 = .ok (.ifCond .eq 11, 3) := by decide +kernel
theorem dX4_tryPair_35 : decode (mC mX4_tryPair) 35 = .ok (.aload_n 0, 1) := by decide +kernel
theorem dX4_tryPair_36 : decode (mC mX4_tryPair) 36 = .ok (.getfield 16, 3) := by decide +kernel
theorem dX4_tryPair_39 : decode (mC mX4_tryPair) 39 = .ok (.iload_n 2, 1) := by decide +kernel
theorem dX4_tryPair_40 : decode (mC mX4_tryPair) 40 = .ok (.invokevirtual 208, 3) := by decide +kernel
theorem dX4_tryPair_43 : decode (mC mX4_tryPair) 43 = .ok (.aload_n 0, 1) := by decide +kernel
theorem dX4_tryPair_44 : decode (mC mX4_tryPair) 44 = .ok (.getfield 16, 3) := by decide +kernel
theorem dX4_tryPair_47 : decode (mC mX4_tryPair) 47 = .ok (.iload 4, 2) := by decide +kernel
theorem dX4_tryPair_49 : decode (mC mX4_tryPair) 49 = .ok (.iconst 0, 1) := by decide +kernel
theorem dX4_tryPair_50 : decode (mC mX4_tryPair) 50 = .ok (.invokevirtual 152, 3) := by decide +kernel
theorem dX4_tryPair_53 : decode (mC mX4_tryPair) 53 = .ok (.pop, 1) := by decide +kernel
theorem dX4_tryPair_54 : decode (mC mX4_tryPair) 54 = .ok (.aload_n 0, 1) := by decide +kernel
theorem dX4_tryPair_55 : decode (mC mX4_tryPair) 55 = .ok (.getfield 42, 3) := by decide +kernel
theorem dX4_tryPair_58 : decode (mC mX4_tryPair) 58 = .ok (.iload_n 3, 1) := by decide +kernel
theorem dX4_tryPair_59 : decode (mC mX4_tryPair) 59 = .ok (.aload_n 0, 1) := by decide +kernel
theorem dX4_tryPair_60 : decode (mC mX4_tryPair) 60 = .ok (.iload_n 1, 1) := by decide +kernel
theorem dX4_tryPair_61 : decode (mC mX4_tryPair) 61 = .ok (.invokevirtual 246, 3) := by decide +kernel
theorem dX4_tryPair_64 : decode (mC mX4_tryPair) 64 = .ok (.invokestatic 217, 3) := by decide +kernel
theorem dX4_tryPair_67 : decode (mC mX4_tryPair) 67 = .ok (.aload_n 0, 1) := by decide +kernel
theorem dX4_tryPair_68 : decode (mC mX4_tryPair) 68 = .ok (.getfield 42, 3) := by decide +kernel
theorem dX4_tryPair_71 : decode (mC mX4_tryPair) 71 = .ok (.iconst 4, 1) := by decide +kernel
theorem dX4_tryPair_72 : decode (mC mX4_tryPair) 72 = .ok (.iload_n 3, 1) := by decide +kernel
theorem dX4_tryPair_73 : decode (mC mX4_tryPair) 73 = .ok (.iadd, 1) := by decide +kernel
theorem dX4_tryPair_74 : decode (mC mX4_tryPair) 74 = .ok (.aload_n 0, 1) := by decide +kernel
theorem dX4_tryPair_75 : decode (mC mX4_tryPair) 75 = .ok (.iload_n 2, 1) := by decide +kernel
theorem dX4_tryPair_76 : decode (mC mX4_tryPair) 76 = .ok (.invokevirtual 246, 3) := by decide +kernel
theorem dX4_tryPair_79 : decode (mC mX4_tryPair) 79 = .ok (.invokestatic 217, 3) := by decide +kernel
theorem dX4_tryPair_82 : decode (mC mX4_tryPair) 82 = .ok (.return_, 1) := by decide +kernel
theorem dX4_gainOf_0 : decode (mC mX4_gainOf) 0 = .ok (.aload_n 0, 1) := by decide +kernel
theorem dX4_gainOf_1 : decode (mC mX4_gainOf) 1 = .ok (.getfield 16, 3) := by decide +kernel
theorem dX4_gainOf_4 : decode (mC mX4_gainOf) 4 = .ok (.getfield 120, 3) := by decide +kernel
theorem dX4_gainOf_7 : decode (mC mX4_gainOf) 7 = .ok (.iload_n 1, 1) := by decide +kernel
theorem dX4_gainOf_8 : decode (mC mX4_gainOf) 8 = .ok (.invokestatic 103, 3) := by decide +kernel
theorem dX4_gainOf_11 : decode (mC mX4_gainOf) 11 = .ok (.aload_n 0, 1) := by decide +kernel
theorem dX4_gainOf_12 : decode (mC mX4_gainOf) 12 = .ok (.getfield 10, 3) := by decide +kernel
theorem dX4_gainOf_15 : decode (mC mX4_gainOf) 15 = .ok (.getfield 123, 3) := by decide +kernel
theorem dX4_gainOf_18 : decode (mC mX4_gainOf) 18 = .ok (.iload_n 1, 1) := by decide +kernel
theorem dX4_gainOf_19 : decode (mC mX4_gainOf) 19 = .ok (.invokestatic 103, 3) := by decide +kernel
theorem dX4_gainOf_22 : decode (mC mX4_gainOf) 22 = .ok (.if_icmp .ne 7, 3) := by decide +kernel
theorem dX4_gainOf_25 : decode (mC mX4_gainOf) 25 = .ok (.iconst 3, 1) := by decide +kernel
theorem dX4_gainOf_26 : decode (mC mX4_gainOf) 26 = .ok (.goto 16, 3) := by decide +kernel
theorem dX4_gainOf_29 : decode (mC mX4_gainOf) 29 = .ok (.aload_n 0, 1) := by decide +kernel
theorem dX4_gainOf_30 : decode (mC mX4_gainOf) 30 = .ok (.getfield 16, 3) := by decide +kernel
theorem dX4_gainOf_33 : decode (mC mX4_gainOf) 33 = .ok (.getfield 126, 3) := by decide +kernel
theorem dX4_gainOf_36 : decode (mC mX4_gainOf) 36 = .ok (.iload_n 1, 1) := by decide +kernel
theorem dX4_gainOf_37 : decode (mC mX4_gainOf) 37 = .ok (.invokestatic 103, 3) := by decide +kernel
theorem dX4_gainOf_40 : decode (mC mX4_gainOf) 40 = .ok (.iconst 4, 1) := by decide +kernel
theorem dX4_gainOf_41 : decode (mC mX4_gainOf) 41 = .ok (.idiv, 1) := by decide +kernel
theorem dX4_gainOf_42 : decode (mC mX4_gainOf) 42 = .ok (.ireturn, 1) := by decide +kernel
theorem dX4_fire_0 : decode (mC mX4_fire) 0 = .ok (.aload_n 0, 1) := by decide +kernel
theorem dX4_fire_1 : decode (mC mX4_fire) 1 = .ok (.getfield 10, 3) := by decide +kernel
theorem dX4_fire_4 : decode (mC mX4_fire) 4 = .ok (.iload_n 1, 1) := by decide +kernel
theorem dX4_fire_5 : decode (mC mX4_fire) 5 = .ok (.invokevirtual 119, 3) := by decide +kernel
theorem dX4_fire_8 : decode (mC mX4_fire) 8 = .ok (.ifCond .eq 10, 3) := by decide +kernel
theorem dX4_fire_11 : decode (mC mX4_fire) 11 = .ok (.iload_n 2, 1) := by decide +kernel
theorem dX4_fire_12 : decode (mC mX4_fire) 12 = .ok (.invokestatic 142, 3) := by decide +kernel
theorem dX4_fire_15 : decode (mC mX4_fire) 15 = .ok (.ifCond .ne 9, 3) := by decide +kernel
theorem dX4_fire_18 : decode (mC mX4_fire) 18 = .ok (.aload_n 0, 1) := by decide +kernel
theorem dX4_fire_19 : decode (mC mX4_fire) 19 = .ok (.iconst (-1), 1) := by decide +kernel
theorem dX4_fire_20 : decode (mC mX4_fire) 20 = .ok (.invokevirtual 249, 3) := by decide +kernel
theorem dX4_fire_23 : decode (mC mX4_fire) 23 = .ok (.lreturn, 1) := by decide +kernel
theorem dX4_fire_24 : decode (mC mX4_fire) 24 = .ok (.iload_n 3, 1) := by decide +kernel
theorem dX4_fire_25 : decode (mC mX4_fire) 25 = .ok (.ifCond .lt 9, 3) := by decide +kernel
theorem dX4_fire_28 : decode (mC mX4_fire) 28 = .ok (.iload 4, 2) := by decide +kernel
theorem dX4_fire_30 : decode (mC mX4_fire) 30 = .ok (.iconst 2, 1) := by decide +kernel
theorem dX4_fire_31 : decode (mC mX4_fire) 31 = .ok (.if_icmp .ge 10, 3) := by decide +kernel
theorem dX4_fire_34 : decode (mC mX4_fire) 34 = .ok (.aload_n 0, 1) := by decide +kernel
theorem dX4_fire_35 : decode (mC mX4_fire) 35 = .ok (.bipush (-4), 2) := by decide +kernel
theorem dX4_fire_37 : decode (mC mX4_fire) 37 = .ok (.invokevirtual 249, 3) := by decide +kernel
theorem dX4_fire_40 : decode (mC mX4_fire) 40 = .ok (.lreturn, 1) := by decide +kernel
theorem dX4_fire_41 : decode (mC mX4_fire) 41 = .ok (.iload_n 3, 1) := by decide +kernel
theorem dX4_fire_42 : decode (mC mX4_fire) 42 = .ok (.bipush 7, 2) := by decide +kernel
theorem dX4_fire_44 : decode (mC mX4_fire) 44 = .ok (.if_icmp .gt 10, 3) := by decide +kernel
theorem dX4_fire_47 : decode (mC mX4_fire) 47 = .ok (.iload 4, 2) := by decide +kernel
theorem dX4_fire_49 : decode (mC mX4_fire) 49 = .ok (.bipush 20, 2) := by decide +kernel
theorem dX4_fire_51 : decode (mC mX4_fire) 51 = .ok (.if_icmp .le 10, 3) := by decide +kernel
theorem dX4_fire_54 : decode (mC mX4_fire) 54 = .ok (.aload_n 0, 1) := by decide +kernel
theorem dX4_fire_55 : decode (mC mX4_fire) 55 = .ok (.bipush (-6), 2) := by decide +kernel
theorem dX4_fire_57 : decode (mC mX4_fire) 57 = .ok (.invokevirtual 249, 3) := by decide +kernel
theorem dX4_fire_60 : decode (mC mX4_fire) 60 = .ok (.lreturn, 1) := by decide +kernel
theorem dX4_fire_61 : decode (mC mX4_fire) 61 = .ok (.iload 5, 2) := by decide +kernel
theorem dX4_fire_63 : decode (mC mX4_fire) 63 = .ok (.invokestatic 159, 3) := by decide +kernel
theorem dX4_fire_66 : decode (mC mX4_fire) 66 = .ok (.ifCond .ne 10, 3) := by decide +kernel
theorem dX4_fire_69 : decode (mC mX4_fire) 69 = .ok (.aload_n 0, 1) := by decide +kernel
theorem dX4_fire_70 : decode (mC mX4_fire) 70 = .ok (.bipush (-2), 2) := by decide +kernel
theorem dX4_fire_72 : decode (mC mX4_fire) 72 = .ok (.invokevirtual 249, 3) := by decide +kernel
theorem dX4_fire_75 : decode (mC mX4_fire) 75 = .ok (.lreturn, 1) := by decide +kernel
theorem dX4_fire_76 : decode (mC mX4_fire) 76 = .ok (.lconst 0, 1) := by decide +kernel
theorem dX4_fire_77 : decode (mC mX4_fire) 77 = .ok (.lstore 6, 2) := by decide +kernel
theorem dX4_fire_79 : decode (mC mX4_fire) 79 = .ok (.iconst 0, 1) := by decide +kernel
theorem dX4_fire_80 : decode (mC mX4_fire) 80 = .ok (.istore 8, 2) := by decide +kernel
theorem dX4_fire_82 : decode (mC mX4_fire) 82 = .ok (.iload 8, 2) := by decide +kernel
theorem dX4_fire_84 : decode (mC mX4_fire) 84 = .ok (.iconst 1, 1) := by decide +kernel
theorem dX4_fire_85 : decode (mC mX4_fire) 85 = .ok (.iload_n 3, 1) := by decide +kernel
theorem dX4_fire_86 : decode (mC mX4_fire) 86 = .ok (.ishl, 1) := by decide +kernel
theorem dX4_fire_87 : decode (mC mX4_fire) 87 = .ok (.if_icmp .ge 40, 3) := by decide +kernel
theorem dX4_fire_90 : decode (mC mX4_fire) 90 = .ok (.aload_n 0, 1) := by decide +kernel
theorem dX4_fire_91 : decode (mC mX4_fire) 91 = .ok (.iload_n 1, 1) := by decide +kernel
theorem dX4_fire_92 : decode (mC mX4_fire) 92 = .ok (.iload_n 2, 1) := by decide +kernel
theorem dX4_fire_93 : decode (mC mX4_fire) 93 = .ok (.iload_n 3, 1) := by decide +kernel
theorem dX4_fire_94 : decode (mC mX4_fire) 94 = .ok (.iload 8, 2) := by decide +kernel
theorem dX4_fire_96 : decode (mC mX4_fire) 96 = .ok (.invokevirtual 253, 3) := by decide +kernel
theorem dX4_fire_99 : decode (mC mX4_fire) 99 = .ok (.ifCond .eq 22, 3) := by decide +kernel
theorem dX4_fire_102 : decode (mC mX4_fire) 102 = .ok (.lload 6, 2) := by decide +kernel
theorem dX4_fire_104 : decode (mC mX4_fire) 104 = .ok (.iload 4, 2) := by decide +kernel
theorem dX4_fire_106 : decode (mC mX4_fire) 106 = .ok (.iconst 1, 1) := by decide +kernel
theorem dX4_fire_107 : decode (mC mX4_fire) 107 = .ok (.isub, 1) := by decide +kernel
theorem dX4_fire_108 : decode (mC mX4_fire) 108 = .ok (.iload_n 3, 1) := by decide +kernel
theorem dX4_fire_109 : decode (mC mX4_fire) 109 = .ok (.iload 8, 2) := by decide +kernel
theorem dX4_fire_111 : decode (mC mX4_fire) 111 = .ok (.invokestatic 199, 3) := by decide +kernel
theorem dX4_fire_114 : decode (mC mX4_fire) 114 = .ok (.isub, 1) := by decide +kernel
theorem dX4_fire_115 : decode (mC mX4_fire) 115 = .ok (.invokestatic 257, 3) := by decide +kernel
theorem dX4_fire_118 : decode (mC mX4_fire) 118 = .ok (.ladd, 1) := by decide +kernel
theorem dX4_fire_119 : decode (mC mX4_fire) 119 = .ok (.lstore 6, 2) := by decide +kernel
theorem dX4_fire_121 : decode (mC mX4_fire) 121 = .ok (.iinc 8 1, 3) := by decide +kernel
theorem dX4_fire_124 : decode (mC mX4_fire) 124 = .ok (.goto (-42), 3) := by decide +kernel
theorem dX4_fire_127 : decode (mC mX4_fire) 127 = .ok (.lload 6, 2) := by decide +kernel
theorem dX4_fire_129 : decode (mC mX4_fire) 129 = .ok (.iload 4, 2) := by decide +kernel
theorem dX4_fire_131 : decode (mC mX4_fire) 131 = .ok (.iload_n 3, 1) := by decide +kernel
theorem dX4_fire_132 : decode (mC mX4_fire) 132 = .ok (.invokestatic 257, 3) := by decide +kernel
theorem dX4_fire_135 : decode (mC mX4_fire) 135 = .ok (.iload 5, 2) := by decide +kernel
theorem dX4_fire_137 : decode (mC mX4_fire) 137 = .ok (.invokestatic 261, 3) := by decide +kernel
theorem dX4_fire_140 : decode (mC mX4_fire) 140 = .ok (.lreturn, 1) := by decide +kernel
theorem dX4_isInBehindFires_0 : decode (mC mX4_isInBehindFires) 0 = .ok (.aload_n 0, 1) := by decide +kernel
theorem dX4_isInBehindFires_1 : decode (mC mX4_isInBehindFires) 1 = .ok (.getfield 16, 3) := by decide +kernel
theorem dX4_isInBehindFires_4 : decode (mC mX4_isInBehindFires) 4 = .ok (.aload_n 0, 1) := by decide +kernel
theorem dX4_isInBehindFires_5 : decode (mC mX4_isInBehindFires) 5 = .ok (.getfield 10, 3) := by decide +kernel
theorem dX4_isInBehindFires_8 : decode (mC mX4_isInBehindFires) 8 = .ok (.invokevirtual 69, 3) := by decide +kernel
theorem dX4_isInBehindFires_11 : decode (mC mX4_isInBehindFires) 11 = .ok (.iconst 0, 1) := by decide +kernel
theorem dX4_isInBehindFires_12 : decode (mC mX4_isInBehindFires) 12 = .ok (.istore 5, 2) := by decide +kernel
theorem dX4_isInBehindFires_14 : decode (mC mX4_isInBehindFires) 14 = .ok (.iload 5, 2) := by decide +kernel
theorem dX4_isInBehindFires_16 : decode (mC mX4_isInBehindFires) 16 = .ok (.iload_n 3, 1) := by decide +kernel
theorem dX4_isInBehindFires_17 : decode (mC mX4_isInBehindFires) 17 = .ok (.if_icmp .ge 25, 3) := by decide +kernel
theorem dX4_isInBehindFires_20 : decode (mC mX4_isInBehindFires) 20 = .ok (.aload_n 0, 1) := by decide +kernel
theorem dX4_isInBehindFires_21 : decode (mC mX4_isInBehindFires) 21 = .ok (.getfield 16, 3) := by decide +kernel
theorem dX4_isInBehindFires_24 : decode (mC mX4_isInBehindFires) 24 = .ok (.iconst 1, 1) := by decide +kernel
theorem dX4_isInBehindFires_25 : decode (mC mX4_isInBehindFires) 25 = .ok (.iload 4, 2) := by decide +kernel
theorem dX4_isInBehindFires_27 : decode (mC mX4_isInBehindFires) 27 = .ok (.iload 5, 2) := by decide +kernel
theorem dX4_isInBehindFires_29 : decode (mC mX4_isInBehindFires) 29 = .ok (.invokestatic 182, 3) := by decide +kernel
theorem dX4_isInBehindFires_32 : decode (mC mX4_isInBehindFires) 32 = .ok (.invokevirtual 152, 3) := by decide +kernel
theorem dX4_isInBehindFires_35 : decode (mC mX4_isInBehindFires) 35 = .ok (.pop, 1) := by decide +kernel
theorem dX4_isInBehindFires_36 : decode (mC mX4_isInBehindFires) 36 = .ok (.iinc 5 1, 3) := by decide +kernel
theorem dX4_isInBehindFires_39 : decode (mC mX4_isInBehindFires) 39 = .ok (.goto (-25), 3) := by decide +kernel
theorem dX4_isInBehindFires_42 : decode (mC mX4_isInBehindFires) 42 = .ok (.aload_n 0, 1) := by decide +kernel
theorem dX4_isInBehindFires_43 : decode (mC mX4_isInBehindFires) 43 = .ok (.getfield 16, 3) := by decide +kernel
theorem dX4_isInBehindFires_46 : decode (mC mX4_isInBehindFires) 46 = .ok (.getfield 120, 3) := by decide +kernel
theorem dX4_isInBehindFires_49 : decode (mC mX4_isInBehindFires) 49 = .ok (.iload_n 1, 1) := by decide +kernel
theorem dX4_isInBehindFires_50 : decode (mC mX4_isInBehindFires) 50 = .ok (.invokestatic 103, 3) := by decide +kernel
theorem dX4_isInBehindFires_53 : decode (mC mX4_isInBehindFires) 53 = .ok (.iload_n 2, 1) := by decide +kernel
theorem dX4_isInBehindFires_54 : decode (mC mX4_isInBehindFires) 54 = .ok (.if_icmp .ne 7, 3) := by decide +kernel
theorem dX4_isInBehindFires_57 : decode (mC mX4_isInBehindFires) 57 = .ok (.iconst 1, 1) := by decide +kernel
theorem dX4_isInBehindFires_58 : decode (mC mX4_isInBehindFires) 58 = .ok (.goto 4, 3) := by decide +kernel
theorem dX4_isInBehindFires_61 : decode (mC mX4_isInBehindFires) 61 = .ok (.iconst 0, 1) := by decide +kernel
theorem dX4_isInBehindFires_62 : decode (mC mX4_isInBehindFires) 62 = .ok (.ireturn, 1) := by decide +kernel
theorem dX4_mean_0 : decode (mC mX4_mean) 0 = .ok (.iload_n 1, 1) := by decide +kernel
theorem dX4_mean_1 : decode (mC mX4_mean) 1 = .ok (.invokestatic 159, 3) := by decide +kernel
theorem dX4_mean_4 : decode (mC mX4_mean) 4 = .ok (.ifCond .ne 10, 3) := by decide +kernel
theorem dX4_mean_7 : decode (mC mX4_mean) 7 = .ok (.aload_n 0, 1) := by decide +kernel
theorem dX4_mean_8 : decode (mC mX4_mean) 8 = .ok (.bipush (-2), 2) := by decide +kernel
theorem dX4_mean_10 : decode (mC mX4_mean) 10 = .ok (.invokevirtual 249, 3) := by decide +kernel
theorem dX4_mean_13 : decode (mC mX4_mean) 13 = .ok (.lreturn, 1) := by decide +kernel
theorem dX4_mean_14 : decode (mC mX4_mean) 14 = .ok (.aload_n 0, 1) := by decide +kernel
theorem dX4_mean_15 : decode (mC mX4_mean) 15 = .ok (.getfield 10, 3) := by decide +kernel
theorem dX4_mean_18 : decode (mC mX4_mean) 18 = .ok (.invokevirtual 265, 3) := by decide +kernel
theorem dX4_mean_21 : decode (mC mX4_mean) 21 = .ok (.i2l, 1) := by decide +kernel
theorem dX4_mean_22 : decode (mC mX4_mean) 22 = .ok (.iconst 1, 1) := by decide +kernel
theorem dX4_mean_23 : decode (mC mX4_mean) 23 = .ok (.aload_n 0, 1) := by decide +kernel
theorem dX4_mean_24 : decode (mC mX4_mean) 24 = .ok (.getfield 10, 3) := by decide +kernel
theorem dX4_mean_27 : decode (mC mX4_mean) 27 = .ok (.getfield 171, 3) := by decide +kernel
theorem dX4_mean_30 : decode (mC mX4_mean) 30 = .ok (.invokestatic 84, 3) := by decide +kernel
theorem dX4_mean_33 : decode (mC mX4_mean) 33 = .ok (.i2l, 1) := by decide +kernel
theorem dX4_mean_34 : decode (mC mX4_mean) 34 = .ok (.iload_n 1, 1) := by decide +kernel
theorem dX4_mean_35 : decode (mC mX4_mean) 35 = .ok (.invokestatic 261, 3) := by decide +kernel
theorem dX4_mean_38 : decode (mC mX4_mean) 38 = .ok (.lreturn, 1) := by decide +kernel
theorem dX4_whatIs_0 : decode (mC mX4_whatIs) 0 = .ok (.aload_n 0, 1) := by decide +kernel
theorem dX4_whatIs_1 : decode (mC mX4_whatIs) 1 = .ok (.getfield 10, 3) := by decide +kernel
theorem dX4_whatIs_4 : decode (mC mX4_whatIs) 4 = .ok (.iload_n 1, 1) := by decide +kernel
theorem dX4_whatIs_5 : decode (mC mX4_whatIs) 5 = .ok (.invokevirtual 119, 3) := by decide +kernel
theorem dX4_whatIs_8 : decode (mC mX4_whatIs) 8 = .ok (.ifCond .eq 17, 3) := by decide +kernel
theorem dX4_whatIs_11 : decode (mC mX4_whatIs) 11 = .ok (.aload_n 0, 1) := by decide +kernel
theorem dX4_whatIs_12 : decode (mC mX4_whatIs) 12 = .ok (.getfield 10, 3) := by decide +kernel
theorem dX4_whatIs_15 : decode (mC mX4_whatIs) 15 = .ok (.getfield 90, 3) := by decide +kernel
theorem dX4_whatIs_18 : decode (mC mX4_whatIs) 18 = .ok (.iload_n 2, 1) := by decide +kernel
theorem dX4_whatIs_19 : decode (mC mX4_whatIs) 19 = .ok (.invokevirtual 94, 3) := by decide +kernel
theorem dX4_whatIs_22 : decode (mC mX4_whatIs) 22 = .ok (.ifCond .ne 9, 3) := by decide +kernel
theorem dX4_whatIs_25 : decode (mC mX4_whatIs) 25 = .ok (.aload_n 0, 1) := by decide +kernel
theorem dX4_whatIs_26 : decode (mC mX4_whatIs) 26 = .ok (.iconst (-1), 1) := by decide +kernel
theorem dX4_whatIs_27 : decode (mC mX4_whatIs) 27 = .ok (.invokevirtual 45, 3) := by decide +kernel
theorem dX4_whatIs_30 : decode (mC mX4_whatIs) 30 = .ok (.ireturn, 1) := by decide +kernel
theorem dX4_whatIs_31 : decode (mC mX4_whatIs) 31 = .ok (.iload_n 3, 1) := by decide +kernel
theorem dX4_whatIs_32 : decode (mC mX4_whatIs) 32 = .ok (.invokestatic 159, 3) := by decide +kernel
theorem dX4_whatIs_35 : decode (mC mX4_whatIs) 35 = .ok (.ifCond .ne 10, 3) := by decide +kernel
theorem dX4_whatIs_38 : decode (mC mX4_whatIs) 38 = .ok (.aload_n 0, 1) := by decide +kernel
theorem dX4_whatIs_39 : decode (mC mX4_whatIs) 39 = .ok (.bipush (-2), 2) := by decide +kernel
theorem dX4_whatIs_41 : decode (mC mX4_whatIs) 41 = .ok (.invokevirtual 45, 3) := by decide +kernel
theorem dX4_whatIs_44 : decode (mC mX4_whatIs) 44 = .ok (.ireturn, 1) := by decide +kernel
theorem dX4_whatIs_45 : decode (mC mX4_whatIs) 45 = .ok (.iload_n 3, 1) := by decide +kernel
theorem dX4_whatIs_46 : decode (mC mX4_whatIs) 46 = .ok (.ifCond .ne 12, 3) := by decide +kernel
theorem dX4_whatIs_49 : decode (mC mX4_whatIs) 49 = .ok (.aload_n 0, 1) := by decide +kernel
theorem dX4_whatIs_50 : decode (mC mX4_whatIs) 50 = .ok (.iload_n 1, 1) := by decide +kernel
theorem dX4_whatIs_51 : decode (mC mX4_whatIs) 51 = .ok (.iload_n 2, 1) := by decide +kernel
theorem dX4_whatIs_52 : decode (mC mX4_whatIs) 52 = .ok (.invokevirtual 268, 3) := by decide +kernel
theorem dX4_whatIs_55 : decode (mC mX4_whatIs) 55 = .ok (.goto 8, 3) := by decide +kernel
theorem dX4_whatIs_58 : decode (mC mX4_whatIs) 58 = .ok (.aload_n 0, 1) := by decide +kernel
theorem dX4_whatIs_59 : decode (mC mX4_whatIs) 59 = .ok (.iload_n 1, 1) := by decide +kernel
theorem dX4_whatIs_60 : decode (mC mX4_whatIs) 60 = .ok (.invokevirtual 271, 3) := by decide +kernel
theorem dX4_whatIs_63 : decode (mC mX4_whatIs) 63 = .ok (.ireturn, 1) := by decide +kernel
theorem dX4_kindsByRow_0 : decode (mC mX4_kindsByRow) 0 = .ok (.iconst 0, 1) := by decide +kernel
theorem dX4_kindsByRow_1 : decode (mC mX4_kindsByRow) 1 = .ok (.istore_n 3, 1) := by decide +kernel
theorem dX4_kindsByRow_2 : decode (mC mX4_kindsByRow) 2 = .ok (.iconst 0, 1) := by decide +kernel
theorem dX4_kindsByRow_3 : decode (mC mX4_kindsByRow) 3 = .ok (.istore 4, 2) := by decide +kernel
theorem dX4_kindsByRow_5 : decode (mC mX4_kindsByRow) 5 = .ok (.iload 4, 2) := by decide +kernel
theorem dX4_kindsByRow_7 : decode (mC mX4_kindsByRow) 7 = .ok (.bipush 6, 2) := by decide +kernel
theorem dX4_kindsByRow_9 : decode (mC mX4_kindsByRow) 9 = .ok (.if_icmp .ge 51, 3) := by decide +kernel
theorem dX4_kindsByRow_12 : decode (mC mX4_kindsByRow) 12 = .ok (.aload_n 0, 1) := by decide +kernel
theorem dX4_kindsByRow_13 : decode (mC mX4_kindsByRow) 13 = .ok (.getfield 16, 3) := by decide +kernel
theorem dX4_kindsByRow_16 : decode (mC mX4_kindsByRow) 16 = .ok (.aload_n 0, 1) := by decide +kernel
theorem dX4_kindsByRow_17 : decode (mC mX4_kindsByRow) 17 = .ok (.getfield 10, 3) := by decide +kernel
theorem dX4_kindsByRow_20 : decode (mC mX4_kindsByRow) 20 = .ok (.invokevirtual 69, 3) := by decide +kernel
theorem dX4_kindsByRow_23 : decode (mC mX4_kindsByRow) 23 = .ok (.aload_n 0, 1) := by decide +kernel
theorem dX4_kindsByRow_24 : decode (mC mX4_kindsByRow) 24 = .ok (.getfield 16, 3) := by decide +kernel
theorem dX4_kindsByRow_27 : decode (mC mX4_kindsByRow) 27 = .ok (.getfield 90, 3) := by decide +kernel
theorem dX4_kindsByRow_30 : decode (mC mX4_kindsByRow) 30 = .ok (.getfield 100, 3) := by decide +kernel
theorem dX4_kindsByRow_33 : decode (mC mX4_kindsByRow) 33 = .ok (.iload_n 2, 1) := by decide +kernel
theorem dX4_kindsByRow_34 : decode (mC mX4_kindsByRow) 34 = .ok (.iload 4, 2) := by decide +kernel
theorem dX4_kindsByRow_36 : decode (mC mX4_kindsByRow) 36 = .ok (.invokestatic 217, 3) := by decide +kernel
theorem dX4_kindsByRow_39 : decode (mC mX4_kindsByRow) 39 = .ok (.aload_n 0, 1) := by decide +kernel
theorem dX4_kindsByRow_40 : decode (mC mX4_kindsByRow) 40 = .ok (.iload_n 1, 1) := by decide +kernel
theorem dX4_kindsByRow_41 : decode (mC mX4_kindsByRow) 41 = .ok (.invokevirtual 274, 3) := by decide +kernel
theorem dX4_kindsByRow_44 : decode (mC mX4_kindsByRow) 44 = .ok (.ifCond .eq 10, 3) := by decide +kernel
theorem dX4_kindsByRow_47 : decode (mC mX4_kindsByRow) 47 = .ok (.iload_n 3, 1) := by decide +kernel
theorem dX4_kindsByRow_48 : decode (mC mX4_kindsByRow) 48 = .ok (.iconst 1, 1) := by decide +kernel
theorem dX4_kindsByRow_49 : decode (mC mX4_kindsByRow) 49 = .ok (.iload 4, 2) := by decide +kernel
theorem dX4_kindsByRow_51 : decode (mC mX4_kindsByRow) 51 = .ok (.ishl, 1) := by decide +kernel
theorem dX4_kindsByRow_52 : decode (mC mX4_kindsByRow) 52 = .ok (.ior, 1) := by decide +kernel
theorem dX4_kindsByRow_53 : decode (mC mX4_kindsByRow) 53 = .ok (.istore_n 3, 1) := by decide +kernel
theorem dX4_kindsByRow_54 : decode (mC mX4_kindsByRow) 54 = .ok (.iinc 4 1, 3) := by decide +kernel
theorem dX4_kindsByRow_57 : decode (mC mX4_kindsByRow) 57 = .ok (.goto (-52), 3) := by decide +kernel
theorem dX4_kindsByRow_60 : decode (mC mX4_kindsByRow) 60 = .ok (.iload_n 3, 1) := by decide +kernel
theorem dX4_kindsByRow_61 : decode (mC mX4_kindsByRow) 61 = .ok (.ireturn, 1) := by decide +kernel
theorem dX4_goalsByRow_0 : decode (mC mX4_goalsByRow) 0 = .ok (.iconst 0, 1) := by decide +kernel
theorem dX4_goalsByRow_1 : decode (mC mX4_goalsByRow) 1 = .ok (.istore_n 2, 1) := by decide +kernel
theorem dX4_goalsByRow_2 : decode (mC mX4_goalsByRow) 2 = .ok (.iconst 0, 1) := by decide +kernel
theorem dX4_goalsByRow_3 : decode (mC mX4_goalsByRow) 3 = .ok (.istore_n 3, 1) := by decide +kernel
theorem dX4_goalsByRow_4 : decode (mC mX4_goalsByRow) 4 = .ok (.iload_n 3, 1) := by decide +kernel
theorem dX4_goalsByRow_5 : decode (mC mX4_goalsByRow) 5 = .ok (.bipush 8, 2) := by decide +kernel
theorem dX4_goalsByRow_7 : decode (mC mX4_goalsByRow) 7 = .ok (.if_icmp .ge 46, 3) := by decide +kernel
theorem dX4_goalsByRow_10 : decode (mC mX4_goalsByRow) 10 = .ok (.aload_n 0, 1) := by decide +kernel
theorem dX4_goalsByRow_11 : decode (mC mX4_goalsByRow) 11 = .ok (.getfield 16, 3) := by decide +kernel
theorem dX4_goalsByRow_14 : decode (mC mX4_goalsByRow) 14 = .ok (.aload_n 0, 1) := by decide +kernel
theorem dX4_goalsByRow_15 : decode (mC mX4_goalsByRow) 15 = .ok (.getfield 10, 3) := by decide +kernel
theorem dX4_goalsByRow_18 : decode (mC mX4_goalsByRow) 18 = .ok (.invokevirtual 69, 3) := by decide +kernel
theorem dX4_goalsByRow_21 : decode (mC mX4_goalsByRow) 21 = .ok (.aload_n 0, 1) := by decide +kernel
theorem dX4_goalsByRow_22 : decode (mC mX4_goalsByRow) 22 = .ok (.getfield 16, 3) := by decide +kernel
theorem dX4_goalsByRow_25 : decode (mC mX4_goalsByRow) 25 = .ok (.getfield 123, 3) := by decide +kernel
theorem dX4_goalsByRow_28 : decode (mC mX4_goalsByRow) 28 = .ok (.iload_n 1, 1) := by decide +kernel
theorem dX4_goalsByRow_29 : decode (mC mX4_goalsByRow) 29 = .ok (.iload_n 3, 1) := by decide +kernel
theorem dX4_goalsByRow_30 : decode (mC mX4_goalsByRow) 30 = .ok (.invokestatic 217, 3) := by decide +kernel
theorem dX4_goalsByRow_33 : decode (mC mX4_goalsByRow) 33 = .ok (.aload_n 0, 1) := by decide +kernel
theorem dX4_goalsByRow_34 : decode (mC mX4_goalsByRow) 34 = .ok (.iload_n 1, 1) := by decide +kernel
theorem dX4_goalsByRow_35 : decode (mC mX4_goalsByRow) 35 = .ok (.invokevirtual 274, 3) := by decide +kernel
theorem dX4_goalsByRow_38 : decode (mC mX4_goalsByRow) 38 = .ok (.ifCond .eq 9, 3) := by decide +kernel
theorem dX4_goalsByRow_41 : decode (mC mX4_goalsByRow) 41 = .ok (.iload_n 2, 1) := by decide +kernel
theorem dX4_goalsByRow_42 : decode (mC mX4_goalsByRow) 42 = .ok (.iconst 1, 1) := by decide +kernel
theorem dX4_goalsByRow_43 : decode (mC mX4_goalsByRow) 43 = .ok (.iload_n 3, 1) := by decide +kernel
theorem dX4_goalsByRow_44 : decode (mC mX4_goalsByRow) 44 = .ok (.ishl, 1) := by decide +kernel
theorem dX4_goalsByRow_45 : decode (mC mX4_goalsByRow) 45 = .ok (.ior, 1) := by decide +kernel
theorem dX4_goalsByRow_46 : decode (mC mX4_goalsByRow) 46 = .ok (.istore_n 2, 1) := by decide +kernel
theorem dX4_goalsByRow_47 : decode (mC mX4_goalsByRow) 47 = .ok (.iinc 3 1, 3) := by decide +kernel
theorem dX4_goalsByRow_50 : decode (mC mX4_goalsByRow) 50 = .ok (.goto (-46), 3) := by decide +kernel
theorem dX4_goalsByRow_53 : decode (mC mX4_goalsByRow) 53 = .ok (.iload_n 2, 1) := by decide +kernel
theorem dX4_goalsByRow_54 : decode (mC mX4_goalsByRow) 54 = .ok (.ireturn, 1) := by decide +kernel
theorem dX4_isMindAsRow_0 : decode (mC mX4_isMindAsRow) 0 = .ok (.iconst 0, 1) := by decide +kernel
theorem dX4_isMindAsRow_1 : decode (mC mX4_isMindAsRow) 1 = .ok (.istore_n 2, 1) := by decide +kernel
theorem dX4_isMindAsRow_2 : decode (mC mX4_isMindAsRow) 2 = .ok (.iload_n 2, 1) := by decide +kernel
theorem dX4_isMindAsRow_3 : decode (mC mX4_isMindAsRow) 3 = .ok (.aload_n 0, 1) := by decide +kernel
theorem dX4_isMindAsRow_4 : decode (mC mX4_isMindAsRow) 4 = .ok (.getfield 34, 3) := by decide +kernel
theorem dX4_isMindAsRow_7 : decode (mC mX4_isMindAsRow) 7 = .ok (.getfield 73, 3) := by decide +kernel
theorem dX4_isMindAsRow_10 : decode (mC mX4_isMindAsRow) 10 = .ok (.if_icmp .ge 46, 3) := by decide +kernel
theorem dX4_isMindAsRow_13 : decode (mC mX4_isMindAsRow) 13 = .ok (.aload_n 0, 1) := by decide +kernel
theorem dX4_isMindAsRow_14 : decode (mC mX4_isMindAsRow) 14 = .ok (.getfield 16, 3) := by decide +kernel
theorem dX4_isMindAsRow_17 : decode (mC mX4_isMindAsRow) 17 = .ok (.getfield 120, 3) := by decide +kernel
theorem dX4_isMindAsRow_20 : decode (mC mX4_isMindAsRow) 20 = .ok (.iload_n 1, 1) := by decide +kernel
theorem dX4_isMindAsRow_21 : decode (mC mX4_isMindAsRow) 21 = .ok (.invokestatic 103, 3) := by decide +kernel
theorem dX4_isMindAsRow_24 : decode (mC mX4_isMindAsRow) 24 = .ok (.aload_n 0, 1) := by decide +kernel
theorem dX4_isMindAsRow_25 : decode (mC mX4_isMindAsRow) 25 = .ok (.getfield 34, 3) := by decide +kernel
theorem dX4_isMindAsRow_28 : decode (mC mX4_isMindAsRow) 28 = .ok (.getfield 277, 3) := by decide +kernel
theorem dX4_isMindAsRow_31 : decode (mC mX4_isMindAsRow) 31 = .ok (.iload_n 2, 1) := by decide +kernel
theorem dX4_isMindAsRow_32 : decode (mC mX4_isMindAsRow) 32 = .ok (.invokestatic 103, 3) := by decide +kernel
theorem dX4_isMindAsRow_35 : decode (mC mX4_isMindAsRow) 35 = .ok (.if_icmp .eq 5, 3) := by decide +kernel
theorem dX4_isMindAsRow_38 : decode (mC mX4_isMindAsRow) 38 = .ok (.iconst 0, 1) := by decide +kernel
theorem dX4_isMindAsRow_39 : decode (mC mX4_isMindAsRow) 39 = .ok (.ireturn, 1) := by decide +kernel
theorem dX4_isMindAsRow_40 : decode (mC mX4_isMindAsRow) 40 = .ok (.aload_n 0, 1) := by decide +kernel
theorem dX4_isMindAsRow_41 : decode (mC mX4_isMindAsRow) 41 = .ok (.getfield 16, 3) := by decide +kernel
theorem dX4_isMindAsRow_44 : decode (mC mX4_isMindAsRow) 44 = .ok (.iconst 1, 1) := by decide +kernel
theorem dX4_isMindAsRow_45 : decode (mC mX4_isMindAsRow) 45 = .ok (.iconst 0, 1) := by decide +kernel
theorem dX4_isMindAsRow_46 : decode (mC mX4_isMindAsRow) 46 = .ok (.invokevirtual 152, 3) := by decide +kernel
theorem dX4_isMindAsRow_49 : decode (mC mX4_isMindAsRow) 49 = .ok (.pop, 1) := by decide +kernel
theorem dX4_isMindAsRow_50 : decode (mC mX4_isMindAsRow) 50 = .ok (.iinc 2 1, 3) := by decide +kernel
theorem dX4_isMindAsRow_53 : decode (mC mX4_isMindAsRow) 53 = .ok (.goto (-51), 3) := by decide +kernel
theorem dX4_isMindAsRow_56 : decode (mC mX4_isMindAsRow) 56 = .ok (.iconst 1, 1) := by decide +kernel
theorem dX4_isMindAsRow_57 : decode (mC mX4_isMindAsRow) 57 = .ok (.ireturn, 1) := by decide +kernel
theorem dX4_row_0 : decode (mC mX4_row) 0 = .ok (.iload_n 1, 1) := by decide +kernel
theorem dX4_row_1 : decode (mC mX4_row) 1 = .ok (.ifCond .ge 10, 3) := by decide +kernel
theorem dX4_row_4 : decode (mC mX4_row) 4 = .ok (.aload_n 0, 1) := by decide +kernel
theorem dX4_row_5 : decode (mC mX4_row) 5 = .ok (.bipush (-4), 2) := by decide +kernel
theorem dX4_row_7 : decode (mC mX4_row) 7 = .ok (.invokevirtual 45, 3) := by decide +kernel
theorem dX4_row_10 : decode (mC mX4_row) 10 = .ok (.ireturn, 1) := by decide +kernel
theorem dX4_row_11 : decode (mC mX4_row) 11 = .ok (.iload_n 1, 1) := by decide +kernel
theorem dX4_row_12 : decode (mC mX4_row) 12 = .ok (.bipush 99, 2) := by decide +kernel
theorem dX4_row_14 : decode (mC mX4_row) 14 = .ok (.if_icmp .gt 13, 3) := by decide +kernel
theorem dX4_row_17 : decode (mC mX4_row) 17 = .ok (.aload_n 0, 1) := by decide +kernel
theorem dX4_row_18 : decode (mC mX4_row) 18 = .ok (.getfield 34, 3) := by decide +kernel
theorem dX4_row_21 : decode (mC mX4_row) 21 = .ok (.invokevirtual 52, 3) := by decide +kernel
theorem dX4_row_24 : decode (mC mX4_row) 24 = .ok (.ifCond .eq 10, 3) := by decide +kernel
theorem dX4_row_27 : decode (mC mX4_row) 27 = .ok (.aload_n 0, 1) := by decide +kernel
theorem dX4_row_28 : decode (mC mX4_row) 28 = .ok (.bipush (-6), 2) := by decide +kernel
theorem dX4_row_30 : decode (mC mX4_row) 30 = .ok (.invokevirtual 45, 3) := by decide +kernel
theorem dX4_row_33 : decode (mC mX4_row) 33 = .ok (.ireturn, 1) := by decide +kernel
theorem dX4_row_34 : decode (mC mX4_row) 34 = .ok (.aload_n 0, 1) := by decide +kernel
theorem dX4_row_35 : decode (mC mX4_row) 35 = .ok (.getfield 34, 3) := by decide +kernel
theorem dX4_row_38 : decode (mC mX4_row) 38 = .ok (.iload_n 1, 1) := by decide +kernel
theorem dX4_row_39 : decode (mC mX4_row) 39 = .ok (.invokevirtual 56, 3) := by decide +kernel
theorem dX4_row_42 : decode (mC mX4_row) 42 = .ok (.ireturn, 1) := by decide +kernel
theorem dX4_judge_0 : decode (mC mX4_judge) 0 = .ok (.aload_n 0, 1) := by decide +kernel
theorem dX4_judge_1 : decode (mC mX4_judge) 1 = .ok (.getfield 34, 3) := by decide +kernel
theorem dX4_judge_4 : decode (mC mX4_judge) 4 = .ok (.invokevirtual 66, 3) := by decide +kernel
theorem dX4_judge_7 : decode (mC mX4_judge) 7 = .ok (.istore_n 1, 1) := by decide +kernel
theorem dX4_judge_8 : decode (mC mX4_judge) 8 = .ok (.iconst 0, 1) := by decide +kernel
theorem dX4_judge_9 : decode (mC mX4_judge) 9 = .ok (.istore_n 2, 1) := by decide +kernel
theorem dX4_judge_10 : decode (mC mX4_judge) 10 = .ok (.iload_n 2, 1) := by decide +kernel
theorem dX4_judge_11 : decode (mC mX4_judge) 11 = .ok (.iload_n 1, 1) := by decide +kernel
theorem dX4_judge_12 : decode (mC mX4_judge) 12 = .ok (.if_icmp .ge 47, 3) := by decide +kernel
theorem dX4_judge_15 : decode (mC mX4_judge) 15 = .ok (.aload_n 0, 1) := by decide +kernel
theorem dX4_judge_16 : decode (mC mX4_judge) 16 = .ok (.getfield 10, 3) := by decide +kernel
theorem dX4_judge_19 : decode (mC mX4_judge) 19 = .ok (.iload_n 2, 1) := by decide +kernel
theorem dX4_judge_20 : decode (mC mX4_judge) 20 = .ok (.invokevirtual 119, 3) := by decide +kernel
theorem dX4_judge_23 : decode (mC mX4_judge) 23 = .ok (.ifCond .eq 28, 3) := by decide +kernel
theorem dX4_judge_26 : decode (mC mX4_judge) 26 = .ok (.aload_n 0, 1) := by decide +kernel
theorem dX4_judge_27 : decode (mC mX4_judge) 27 = .ok (.getfield 10, 3) := by decide +kernel
theorem dX4_judge_30 : decode (mC mX4_judge) 30 = .ok (.getfield 120, 3) := by decide +kernel
theorem dX4_judge_33 : decode (mC mX4_judge) 33 = .ok (.iload_n 2, 1) := by decide +kernel
theorem dX4_judge_34 : decode (mC mX4_judge) 34 = .ok (.invokestatic 103, 3) := by decide +kernel
theorem dX4_judge_37 : decode (mC mX4_judge) 37 = .ok (.aload_n 0, 1) := by decide +kernel
theorem dX4_judge_38 : decode (mC mX4_judge) 38 = .ok (.getfield 34, 3) := by decide +kernel
theorem dX4_judge_41 : decode (mC mX4_judge) 41 = .ok (.getfield 277, 3) := by decide +kernel
theorem dX4_judge_44 : decode (mC mX4_judge) 44 = .ok (.iload_n 2, 1) := by decide +kernel
theorem dX4_judge_45 : decode (mC mX4_judge) 45 = .ok (.invokestatic 103, 3) := by decide +kernel
theorem dX4_judge_48 : decode (mC mX4_judge) 48 = .ok (.if_icmp .eq 5, 3) := by decide +kernel
theorem dX4_judge_51 : decode (mC mX4_judge) 51 = .ok (.iload_n 2, 1) := by decide +kernel
theorem dX4_judge_52 : decode (mC mX4_judge) 52 = .ok (.ireturn, 1) := by decide +kernel
theorem dX4_judge_53 : decode (mC mX4_judge) 53 = .ok (.iinc 2 1, 3) := by decide +kernel
theorem dX4_judge_56 : decode (mC mX4_judge) 56 = .ok (.goto (-46), 3) := by decide +kernel
theorem dX4_judge_59 : decode (mC mX4_judge) 59 = .ok (.bipush (-9), 2) := by decide +kernel
theorem dX4_judge_61 : decode (mC mX4_judge) 61 = .ok (.ireturn, 1) := by decide +kernel
theorem dX4_clear_0 : decode (mC mX4_clear) 0 = .ok (.aload_n 0, 1) := by decide +kernel
theorem dX4_clear_1 : decode (mC mX4_clear) 1 = .ok (.getfield 34, 3) := by decide +kernel
theorem dX4_clear_4 : decode (mC mX4_clear) 4 = .ok (.invokevirtual 66, 3) := by decide +kernel
theorem dX4_clear_7 : decode (mC mX4_clear) 7 = .ok (.ireturn, 1) := by decide +kernel
theorem dX4_lots_0 : decode (mC mX4_lots) 0 = .ok (.iload_n 1, 1) := by decide +kernel
theorem dX4_lots_1 : decode (mC mX4_lots) 1 = .ok (.iconst 1, 1) := by decide +kernel
theorem dX4_lots_2 : decode (mC mX4_lots) 2 = .ok (.if_icmp .ge 10, 3) := by decide +kernel
theorem dX4_lots_5 : decode (mC mX4_lots) 5 = .ok (.aload_n 0, 1) := by decide +kernel
theorem dX4_lots_6 : decode (mC mX4_lots) 6 = .ok (.bipush (-4), 2) := by decide +kernel
theorem dX4_lots_8 : decode (mC mX4_lots) 8 = .ok (.invokevirtual 45, 3) := by decide +kernel
theorem dX4_lots_11 : decode (mC mX4_lots) 11 = .ok (.ireturn, 1) := by decide +kernel
theorem dX4_lots_12 : decode (mC mX4_lots) 12 = .ok (.iload_n 1, 1) := by decide +kernel
theorem dX4_lots_13 : decode (mC mX4_lots) 13 = .ok (.bipush 20, 2) := by decide +kernel
theorem dX4_lots_15 : decode (mC mX4_lots) 15 = .ok (.if_icmp .le 10, 3) := by decide +kernel
theorem dX4_lots_18 : decode (mC mX4_lots) 18 = .ok (.aload_n 0, 1) := by decide +kernel
theorem dX4_lots_19 : decode (mC mX4_lots) 19 = .ok (.bipush (-6), 2) := by decide +kernel
theorem dX4_lots_21 : decode (mC mX4_lots) 21 = .ok (.invokevirtual 45, 3) := by decide +kernel
theorem dX4_lots_24 : decode (mC mX4_lots) 24 = .ok (.ireturn, 1) := by decide +kernel
theorem dX4_lots_25 : decode (mC mX4_lots) 25 = .ok (.iload_n 3, 1) := by decide +kernel
theorem dX4_lots_26 : decode (mC mX4_lots) 26 = .ok (.invokestatic 159, 3) := by decide +kernel
theorem dX4_lots_29 : decode (mC mX4_lots) 29 = .ok (.ifCond .ne 10, 3) := by decide +kernel
theorem dX4_lots_32 : decode (mC mX4_lots) 32 = .ok (.aload_n 0, 1) := by decide +kernel
theorem dX4_lots_33 : decode (mC mX4_lots) 33 = .ok (.bipush (-2), 2) := by decide +kernel
theorem dX4_lots_35 : decode (mC mX4_lots) 35 = .ok (.invokevirtual 45, 3) := by decide +kernel
theorem dX4_lots_38 : decode (mC mX4_lots) 38 = .ok (.ireturn, 1) := by decide +kernel
theorem dX4_lots_39 : decode (mC mX4_lots) 39 = .ok (.iload_n 2, 1) := by decide +kernel
theorem dX4_lots_40 : decode (mC mX4_lots) 40 = .ok (.istore 4, 2) := by decide +kernel
theorem dX4_lots_42 : decode (mC mX4_lots) 42 = .ok (.iconst 0, 1) := by decide +kernel
theorem dX4_lots_43 : decode (mC mX4_lots) 43 = .ok (.istore 5, 2) := by decide +kernel
theorem dX4_lots_45 : decode (mC mX4_lots) 45 = .ok (.iconst 0, 1) := by decide +kernel
theorem dX4_lots_46 : decode (mC mX4_lots) 46 = .ok (.istore 6, 2) := by decide +kernel
theorem dX4_lots_48 : decode (mC mX4_lots) 48 = .ok (.iconst 0, 1) := by decide +kernel
theorem dX4_lots_49 : decode (mC mX4_lots) 49 = .ok (.istore 7, 2) := by decide +kernel
theorem dX4_lots_51 : decode (mC mX4_lots) 51 = .ok (.iload 7, 2) := by decide +kernel
theorem dX4_lots_53 : decode (mC mX4_lots) 53 = .ok (.iload_n 1, 1) := by decide +kernel
theorem dX4_lots_54 : decode (mC mX4_lots) 54 = .ok (.if_icmp .ge 71, 3) := by decide +kernel
theorem dX4_lots_57 : decode (mC mX4_lots) 57 = .ok (.aload_n 0, 1) := by decide +kernel
theorem dX4_lots_58 : decode (mC mX4_lots) 58 = .ok (.getfield 16, 3) := by decide +kernel
theorem dX4_lots_61 : decode (mC mX4_lots) 61 = .ok (.aload_n 0, 1) := by decide +kernel
theorem dX4_lots_62 : decode (mC mX4_lots) 62 = .ok (.getfield 10, 3) := by decide +kernel
theorem dX4_lots_65 : decode (mC mX4_lots) 65 = .ok (.invokevirtual 69, 3) := by decide +kernel
theorem dX4_lots_68 : decode (mC mX4_lots) 68 = .ok (.aload_n 0, 1) := by decide +kernel
theorem dX4_lots_69 : decode (mC mX4_lots) 69 = .ok (.iload 4, 2) := by decide +kernel
theorem dX4_lots_71 : decode (mC mX4_lots) 71 = .ok (.invokevirtual 280, 3) := by decide +kernel
theorem dX4_lots_74 : decode (mC mX4_lots) 74 = .ok (.istore 4, 2) := by decide +kernel
theorem dX4_lots_76 : decode (mC mX4_lots) 76 = .ok (.aload_n 0, 1) := by decide +kernel
theorem dX4_lots_77 : decode (mC mX4_lots) 77 = .ok (.getfield 16, 3) := by decide +kernel
theorem dX4_lots_80 : decode (mC mX4_lots) 80 = .ok (.bipush 8, 2) := by decide +kernel
theorem dX4_lots_82 : decode (mC mX4_lots) 82 = .ok (.iconst 0, 1) := by decide +kernel
theorem dX4_lots_83 : decode (mC mX4_lots) 83 = .ok (.invokevirtual 152, 3) := by decide +kernel
theorem dX4_lots_86 : decode (mC mX4_lots) 86 = .ok (.pop, 1) := by decide +kernel
theorem dX4_lots_87 : decode (mC mX4_lots) 87 = .ok (.iload 5, 2) := by decide +kernel
theorem dX4_lots_89 : decode (mC mX4_lots) 89 = .ok (.aload_n 0, 1) := by decide +kernel
theorem dX4_lots_90 : decode (mC mX4_lots) 90 = .ok (.getfield 16, 3) := by decide +kernel
theorem dX4_lots_93 : decode (mC mX4_lots) 93 = .ok (.invokevirtual 156, 3) := by decide +kernel
theorem dX4_lots_96 : decode (mC mX4_lots) 96 = .ok (.iadd, 1) := by decide +kernel
theorem dX4_lots_97 : decode (mC mX4_lots) 97 = .ok (.istore 5, 2) := by decide +kernel
theorem dX4_lots_99 : decode (mC mX4_lots) 99 = .ok (.iload 6, 2) := by decide +kernel
theorem dX4_lots_101 : decode (mC mX4_lots) 101 = .ok (.aload_n 0, 1) := by decide +kernel
theorem dX4_lots_102 : decode (mC mX4_lots) 102 = .ok (.getfield 16, 3) := by decide +kernel
theorem dX4_lots_105 : decode (mC mX4_lots) 105 = .ok (.getfield 162, 3) := by decide +kernel
theorem dX4_lots_108 : decode (mC mX4_lots) 108 = .ok (.aload_n 0, 1) := by decide +kernel
theorem dX4_lots_109 : decode (mC mX4_lots) 109 = .ok (.getfield 10, 3) := by decide +kernel
theorem dX4_lots_112 : decode (mC mX4_lots) 112 = .ok (.getfield 162, 3) := by decide +kernel
theorem dX4_lots_115 : decode (mC mX4_lots) 115 = .ok (.isub, 1) := by decide +kernel
theorem dX4_lots_116 : decode (mC mX4_lots) 116 = .ok (.iadd, 1) := by decide +kernel
theorem dX4_lots_117 : decode (mC mX4_lots) 117 = .ok (.istore 6, 2) := by decide +kernel
theorem dX4_lots_119 : decode (mC mX4_lots) 119 = .ok (.iinc 7 1, 3) := by decide +kernel
theorem dX4_lots_122 : decode (mC mX4_lots) 122 = .ok (.goto (-71), 3) := by decide +kernel
theorem dX4_lots_125 : decode (mC mX4_lots) 125 = .ok (.iload_n 3, 1) := by decide +kernel
theorem dX4_lots_126 : decode (mC mX4_lots) 126 = .ok (.ifCond .ne 8, 3) := by decide +kernel
theorem dX4_lots_129 : decode (mC mX4_lots) 129 = .ok (.iload 5, 2) := by decide +kernel
theorem dX4_lots_131 : decode (mC mX4_lots) 131 = .ok (.goto 5, 3) := by decide +kernel
theorem dX4_lots_134 : decode (mC mX4_lots) 134 = .ok (.iload 6, 2) := by decide +kernel
theorem dX4_lots_136 : decode (mC mX4_lots) 136 = .ok (.ireturn, 1) := by decide +kernel
theorem dX4_placeByLot_0 : decode (mC mX4_placeByLot) 0 = .ok (.iload_n 1, 1) := by decide +kernel
theorem dX4_placeByLot_1 : decode (mC mX4_placeByLot) 1 = .ok (.istore_n 2, 1) := by decide +kernel
theorem dX4_placeByLot_2 : decode (mC mX4_placeByLot) 2 = .ok (.iconst 0, 1) := by decide +kernel
theorem dX4_placeByLot_3 : decode (mC mX4_placeByLot) 3 = .ok (.istore_n 3, 1) := by decide +kernel
theorem dX4_placeByLot_4 : decode (mC mX4_placeByLot) 4 = .ok (.iload_n 3, 1) := by decide +kernel
theorem dX4_placeByLot_5 : decode (mC mX4_placeByLot) 5 = .ok (.aload_n 0, 1) := by decide +kernel
theorem dX4_placeByLot_6 : decode (mC mX4_placeByLot) 6 = .ok (.getfield 16, 3) := by decide +kernel
theorem dX4_placeByLot_9 : decode (mC mX4_placeByLot) 9 = .ok (.getfield 171, 3) := by decide +kernel
theorem dX4_placeByLot_12 : decode (mC mX4_placeByLot) 12 = .ok (.if_icmp .ge 49, 3) := by decide +kernel
theorem dX4_placeByLot_15 : decode (mC mX4_placeByLot) 15 = .ok (.iload_n 2, 1) := by decide +kernel
theorem dX4_placeByLot_16 : decode (mC mX4_placeByLot) 16 = .ok (.invokestatic 283, 3) := by decide +kernel
theorem dX4_placeByLot_19 : decode (mC mX4_placeByLot) 19 = .ok (.istore_n 2, 1) := by decide +kernel
theorem dX4_placeByLot_20 : decode (mC mX4_placeByLot) 20 = .ok (.aload_n 0, 1) := by decide +kernel
theorem dX4_placeByLot_21 : decode (mC mX4_placeByLot) 21 = .ok (.getfield 16, 3) := by decide +kernel
theorem dX4_placeByLot_24 : decode (mC mX4_placeByLot) 24 = .ok (.getfield 120, 3) := by decide +kernel
theorem dX4_placeByLot_27 : decode (mC mX4_placeByLot) 27 = .ok (.iload_n 3, 1) := by decide +kernel
theorem dX4_placeByLot_28 : decode (mC mX4_placeByLot) 28 = .ok (.iload_n 2, 1) := by decide +kernel
theorem dX4_placeByLot_29 : decode (mC mX4_placeByLot) 29 = .ok (.invokestatic 286, 3) := by decide +kernel
theorem dX4_placeByLot_32 : decode (mC mX4_placeByLot) 32 = .ok (.invokestatic 217, 3) := by decide +kernel
theorem dX4_placeByLot_35 : decode (mC mX4_placeByLot) 35 = .ok (.iload_n 2, 1) := by decide +kernel
theorem dX4_placeByLot_36 : decode (mC mX4_placeByLot) 36 = .ok (.invokestatic 283, 3) := by decide +kernel
theorem dX4_placeByLot_39 : decode (mC mX4_placeByLot) 39 = .ok (.istore_n 2, 1) := by decide +kernel
theorem dX4_placeByLot_40 : decode (mC mX4_placeByLot) 40 = .ok (.aload_n 0, 1) := by decide +kernel
theorem dX4_placeByLot_41 : decode (mC mX4_placeByLot) 41 = .ok (.getfield 16, 3) := by decide +kernel
theorem dX4_placeByLot_44 : decode (mC mX4_placeByLot) 44 = .ok (.getfield 123, 3) := by decide +kernel
theorem dX4_placeByLot_47 : decode (mC mX4_placeByLot) 47 = .ok (.iload_n 3, 1) := by decide +kernel
theorem dX4_placeByLot_48 : decode (mC mX4_placeByLot) 48 = .ok (.iload_n 2, 1) := by decide +kernel
theorem dX4_placeByLot_49 : decode (mC mX4_placeByLot) 49 = .ok (.invokestatic 286, 3) := by decide +kernel
theorem dX4_placeByLot_52 : decode (mC mX4_placeByLot) 52 = .ok (.invokestatic 217, 3) := by decide +kernel
theorem dX4_placeByLot_55 : decode (mC mX4_placeByLot) 55 = .ok (.iinc 3 1, 3) := by decide +kernel
theorem dX4_placeByLot_58 : decode (mC mX4_placeByLot) 58 = .ok (.goto (-54), 3) := by decide +kernel
theorem dX4_placeByLot_61 : decode (mC mX4_placeByLot) 61 = .ok (.iload_n 2, 1) := by decide +kernel
theorem dX4_placeByLot_62 : decode (mC mX4_placeByLot) 62 = .ok (.ireturn, 1) := by decide +kernel
theorem dX4_nextSeed_0 : decode (mC mX4_nextSeed) 0 = .ok (.iload_n 0, 1) := by decide +kernel
theorem dX4_nextSeed_1 : decode (mC mX4_nextSeed) 1 = .ok (.ldc_w 289, 3) := by decide +kernel
theorem dX4_nextSeed_4 : decode (mC mX4_nextSeed) 4 = .ok (.imul, 1) := by decide +kernel
theorem dX4_nextSeed_5 : decode (mC mX4_nextSeed) 5 = .ok (.ldc_w 290, 3) := by decide +kernel
theorem dX4_nextSeed_8 : decode (mC mX4_nextSeed) 8 = .ok (.iadd, 1) := by decide +kernel
theorem dX4_nextSeed_9 : decode (mC mX4_nextSeed) 9 = .ok (.ireturn, 1) := by decide +kernel
theorem dX4_draw_0 : decode (mC mX4_draw) 0 = .ok (.iload_n 0, 1) := by decide +kernel
theorem dX4_draw_1 : decode (mC mX4_draw) 1 = .ok (.ldc_w 291, 3) := by decide +kernel
theorem dX4_draw_4 : decode (mC mX4_draw) 4 = .ok (.iand, 1) := by decide +kernel
theorem dX4_draw_5 : decode (mC mX4_draw) 5 = .ok (.sipush 256, 3) := by decide +kernel
theorem dX4_draw_8 : decode (mC mX4_draw) 8 = .ok (.idiv, 1) := by decide +kernel
theorem dX4_draw_9 : decode (mC mX4_draw) 9 = .ok (.bipush 8, 2) := by decide +kernel
theorem dX4_draw_11 : decode (mC mX4_draw) 11 = .ok (.irem, 1) := by decide +kernel
theorem dX4_draw_12 : decode (mC mX4_draw) 12 = .ok (.ireturn, 1) := by decide +kernel
theorem dX4_image_0 : decode (mC mX4_image) 0 = .ok (.aload_n 0, 1) := by decide +kernel
theorem dX4_image_1 : decode (mC mX4_image) 1 = .ok (.getfield 19, 3) := by decide +kernel
theorem dX4_image_4 : decode (mC mX4_image) 4 = .ok (.aload_n 0, 1) := by decide +kernel
theorem dX4_image_5 : decode (mC mX4_image) 5 = .ok (.getfield 10, 3) := by decide +kernel
theorem dX4_image_8 : decode (mC mX4_image) 8 = .ok (.invokevirtual 69, 3) := by decide +kernel
theorem dX4_image_11 : decode (mC mX4_image) 11 = .ok (.aload_n 0, 1) := by decide +kernel
theorem dX4_image_12 : decode (mC mX4_image) 12 = .ok (.iconst 1, 1) := by decide +kernel
theorem dX4_image_13 : decode (mC mX4_image) 13 = .ok (.putfield 292, 3) := by decide +kernel
theorem dX4_image_16 : decode (mC mX4_image) 16 = .ok (.aload_n 0, 1) := by decide +kernel
theorem dX4_image_17 : decode (mC mX4_image) 17 = .ok (.getfield 10, 3) := by decide +kernel
theorem dX4_image_20 : decode (mC mX4_image) 20 = .ok (.getfield 129, 3) := by decide +kernel
theorem dX4_image_23 : decode (mC mX4_image) 23 = .ok (.ireturn, 1) := by decide +kernel
theorem dX4_on_0 : decode (mC mX4_on) 0 = .ok (.aload_n 0, 1) := by decide +kernel
theorem dX4_on_1 : decode (mC mX4_on) 1 = .ok (.getfield 292, 3) := by decide +kernel
theorem dX4_on_4 : decode (mC mX4_on) 4 = .ok (.ifCond .ne 10, 3) := by decide +kernel
theorem dX4_on_7 : decode (mC mX4_on) 7 = .ok (.aload_n 0, 1) := by decide +kernel
theorem dX4_on_8 : decode (mC mX4_on) 8 = .ok (.bipush (-3), 2) := by decide +kernel
theorem dX4_on_10 : decode (mC mX4_on) 10 = .ok (.invokevirtual 45, 3) := by decide +kernel
theorem dX4_on_13 : decode (mC mX4_on) 13 = .ok (.ireturn, 1) := by decide +kernel
theorem dX4_on_14 : decode (mC mX4_on) 14 = .ok (.aload_n 0, 1) := by decide +kernel
theorem dX4_on_15 : decode (mC mX4_on) 15 = .ok (.getfield 10, 3) := by decide +kernel
theorem dX4_on_18 : decode (mC mX4_on) 18 = .ok (.aload_n 0, 1) := by decide +kernel
theorem dX4_on_19 : decode (mC mX4_on) 19 = .ok (.getfield 19, 3) := by decide +kernel
theorem dX4_on_22 : decode (mC mX4_on) 22 = .ok (.invokevirtual 69, 3) := by decide +kernel
theorem dX4_on_25 : decode (mC mX4_on) 25 = .ok (.aload_n 0, 1) := by decide +kernel
theorem dX4_on_26 : decode (mC mX4_on) 26 = .ok (.getfield 10, 3) := by decide +kernel
theorem dX4_on_29 : decode (mC mX4_on) 29 = .ok (.getfield 129, 3) := by decide +kernel
theorem dX4_on_32 : decode (mC mX4_on) 32 = .ok (.ireturn, 1) := by decide +kernel
theorem dX4_count_0 : decode (mC mX4_count) 0 = .ok (.iload_n 1, 1) := by decide +kernel
theorem dX4_count_1 : decode (mC mX4_count) 1 = .ok (.tableswitch 117 0 7 #[47, 58, 66, 74, 82, 90, 98, 106], 47) := by decide +kernel
theorem dX4_count_48 : decode (mC mX4_count) 48 = .ok (.aload_n 0, 1) := by decide +kernel
theorem dX4_count_49 : decode (mC mX4_count) 49 = .ok (.getfield 10, 3) := by decide +kernel
theorem dX4_count_52 : decode (mC mX4_count) 52 = .ok (.getfield 90, 3) := by decide +kernel
theorem dX4_count_55 : decode (mC mX4_count) 55 = .ok (.getfield 181, 3) := by decide +kernel
theorem dX4_count_58 : decode (mC mX4_count) 58 = .ok (.ireturn, 1) := by decide +kernel
theorem dX4_count_59 : decode (mC mX4_count) 59 = .ok (.aload_n 0, 1) := by decide +kernel
theorem dX4_count_60 : decode (mC mX4_count) 60 = .ok (.getfield 10, 3) := by decide +kernel
theorem dX4_count_63 : decode (mC mX4_count) 63 = .ok (.getfield 171, 3) := by decide +kernel
theorem dX4_count_66 : decode (mC mX4_count) 66 = .ok (.ireturn, 1) := by decide +kernel
theorem dX4_count_67 : decode (mC mX4_count) 67 = .ok (.aload_n 0, 1) := by decide +kernel
theorem dX4_count_68 : decode (mC mX4_count) 68 = .ok (.getfield 10, 3) := by decide +kernel
theorem dX4_count_71 : decode (mC mX4_count) 71 = .ok (.getfield 129, 3) := by decide +kernel
theorem dX4_count_74 : decode (mC mX4_count) 74 = .ok (.ireturn, 1) := by decide +kernel
theorem dX4_count_75 : decode (mC mX4_count) 75 = .ok (.aload_n 0, 1) := by decide +kernel
theorem dX4_count_76 : decode (mC mX4_count) 76 = .ok (.getfield 10, 3) := by decide +kernel
theorem dX4_count_79 : decode (mC mX4_count) 79 = .ok (.getfield 162, 3) := by decide +kernel
theorem dX4_count_82 : decode (mC mX4_count) 82 = .ok (.ireturn, 1) := by decide +kernel
theorem dX4_count_83 : decode (mC mX4_count) 83 = .ok (.aload_n 0, 1) := by decide +kernel
theorem dX4_count_84 : decode (mC mX4_count) 84 = .ok (.getfield 10, 3) := by decide +kernel
theorem dX4_count_87 : decode (mC mX4_count) 87 = .ok (.invokevirtual 296, 3) := by decide +kernel
theorem dX4_count_90 : decode (mC mX4_count) 90 = .ok (.ireturn, 1) := by decide +kernel
theorem dX4_count_91 : decode (mC mX4_count) 91 = .ok (.aload_n 0, 1) := by decide +kernel
theorem dX4_count_92 : decode (mC mX4_count) 92 = .ok (.getfield 10, 3) := by decide +kernel
theorem dX4_count_95 : decode (mC mX4_count) 95 = .ok (.invokevirtual 265, 3) := by decide +kernel
theorem dX4_count_98 : decode (mC mX4_count) 98 = .ok (.ireturn, 1) := by decide +kernel
theorem dX4_count_99 : decode (mC mX4_count) 99 = .ok (.aload_n 0, 1) := by decide +kernel
theorem dX4_count_100 : decode (mC mX4_count) 100 = .ok (.getfield 34, 3) := by decide +kernel
theorem dX4_count_103 : decode (mC mX4_count) 103 = .ok (.getfield 73, 3) := by decide +kernel
theorem dX4_count_106 : decode (mC mX4_count) 106 = .ok (.ireturn, 1) := by decide +kernel
theorem dX4_count_107 : decode (mC mX4_count) 107 = .ok (.aload_n 0, 1) := by decide +kernel
theorem dX4_count_108 : decode (mC mX4_count) 108 = .ok (.getfield 25, 3) := by decide +kernel
theorem dX4_count_111 : decode (mC mX4_count) 111 = .ok (.getfield 49, 3) := by decide +kernel
theorem dX4_count_114 : decode (mC mX4_count) 114 = .ok (.getfield 73, 3) := by decide +kernel
theorem dX4_count_117 : decode (mC mX4_count) 117 = .ok (.ireturn, 1) := by decide +kernel
theorem dX4_count_118 : decode (mC mX4_count) 118 = .ok (.iload_n 1, 1) := by decide +kernel
theorem dX4_count_119 : decode (mC mX4_count) 119 = .ok (.bipush 10, 2) := by decide +kernel
theorem dX4_count_121 : decode (mC mX4_count) 121 = .ok (.if_icmp .le 23, 3) := by decide +kernel
theorem dX4_count_124 : decode (mC mX4_count) 124 = .ok (.iload_n 1, 1) := by decide +kernel
theorem dX4_count_125 : decode (mC mX4_count) 125 = .ok (.bipush 16, 2) := by decide +kernel
theorem dX4_count_127 : decode (mC mX4_count) 127 = .ok (.if_icmp .gt 17, 3) := by decide +kernel
theorem dX4_count_130 : decode (mC mX4_count) 130 = .ok (.aload_n 0, 1) := by decide +kernel
theorem dX4_count_131 : decode (mC mX4_count) 131 = .ok (.getfield 38, 3) := by decide +kernel
theorem dX4_count_134 : decode (mC mX4_count) 134 = .ok (.iload_n 1, 1) := by decide +kernel
theorem dX4_count_135 : decode (mC mX4_count) 135 = .ok (.bipush 10, 2) := by decide +kernel
theorem dX4_count_137 : decode (mC mX4_count) 137 = .ok (.isub, 1) := by decide +kernel
theorem dX4_count_138 : decode (mC mX4_count) 138 = .ok (.invokestatic 103, 3) := by decide +kernel
theorem dX4_count_141 : decode (mC mX4_count) 141 = .ok (.goto 5, 3) := by decide +kernel
theorem dX4_count_144 : decode (mC mX4_count) 144 = .ok (.bipush (-9), 2) := by decide +kernel
theorem dX4_count_146 : decode (mC mX4_count) 146 = .ok (.ireturn, 1) := by decide +kernel
theorem dX4_refused_0 : decode (mC mX4_refused) 0 = .ok (.aload_n 0, 1) := by decide +kernel
theorem dX4_refused_1 : decode (mC mX4_refused) 1 = .ok (.getfield 38, 3) := by decide +kernel
theorem dX4_refused_4 : decode (mC mX4_refused) 4 = .ok (.iload_n 1, 1) := by decide +kernel
theorem dX4_refused_5 : decode (mC mX4_refused) 5 = .ok (.ineg, 1) := by decide +kernel
theorem dX4_refused_6 : decode (mC mX4_refused) 6 = .ok (.aload_n 0, 1) := by decide +kernel
theorem dX4_refused_7 : decode (mC mX4_refused) 7 = .ok (.getfield 38, 3) := by decide +kernel
theorem dX4_refused_10 : decode (mC mX4_refused) 10 = .ok (.iload_n 1, 1) := by decide +kernel
theorem dX4_refused_11 : decode (mC mX4_refused) 11 = .ok (.ineg, 1) := by decide +kernel
theorem dX4_refused_12 : decode (mC mX4_refused) 12 = .ok (.invokestatic 103, 3) := by decide +kernel
theorem dX4_refused_15 : decode (mC mX4_refused) 15 = .ok (.iconst 1, 1) := by decide +kernel
theorem dX4_refused_16 : decode (mC mX4_refused) 16 = .ok (.iadd, 1) := by decide +kernel
theorem dX4_refused_17 : decode (mC mX4_refused) 17 = .ok (.invokestatic 217, 3) := by decide +kernel
theorem dX4_refused_20 : decode (mC mX4_refused) 20 = .ok (.iload_n 1, 1) := by decide +kernel
theorem dX4_refused_21 : decode (mC mX4_refused) 21 = .ok (.ireturn, 1) := by decide +kernel
theorem dX4_refusedNumber_0 : decode (mC mX4_refusedNumber) 0 = .ok (.aload_n 0, 1) := by decide +kernel
theorem dX4_refusedNumber_1 : decode (mC mX4_refusedNumber) 1 = .ok (.iload_n 1, 1) := by decide +kernel
theorem dX4_refusedNumber_2 : decode (mC mX4_refusedNumber) 2 = .ok (.ifCond .ge 8, 3) := by decide +kernel
theorem dX4_refusedNumber_5 : decode (mC mX4_refusedNumber) 5 = .ok (.bipush (-4), 2) := by decide +kernel
theorem dX4_refusedNumber_7 : decode (mC mX4_refusedNumber) 7 = .ok (.goto 5, 3) := by decide +kernel
theorem dX4_refusedNumber_10 : decode (mC mX4_refusedNumber) 10 = .ok (.bipush (-6), 2) := by decide +kernel
theorem dX4_refusedNumber_12 : decode (mC mX4_refusedNumber) 12 = .ok (.invokevirtual 45, 3) := by decide +kernel
theorem dX4_refusedNumber_15 : decode (mC mX4_refusedNumber) 15 = .ok (.ireturn, 1) := by decide +kernel
theorem dX4_refusedLong_0 : decode (mC mX4_refusedLong) 0 = .ok (.ldc2_w 299, 3) := by decide +kernel
theorem dX4_refusedLong_3 : decode (mC mX4_refusedLong) 3 = .ok (.aload_n 0, 1) := by decide +kernel
theorem dX4_refusedLong_4 : decode (mC mX4_refusedLong) 4 = .ok (.iload_n 1, 1) := by decide +kernel
theorem dX4_refusedLong_5 : decode (mC mX4_refusedLong) 5 = .ok (.invokevirtual 45, 3) := by decide +kernel
theorem dX4_refusedLong_8 : decode (mC mX4_refusedLong) 8 = .ok (.i2l, 1) := by decide +kernel
theorem dX4_refusedLong_9 : decode (mC mX4_refusedLong) 9 = .ok (.lsub, 1) := by decide +kernel
theorem dX4_refusedLong_10 : decode (mC mX4_refusedLong) 10 = .ok (.lreturn, 1) := by decide +kernel
theorem dX4_at_0 : decode (mC mX4_at) 0 = .ok (.iload_n 1, 1) := by decide +kernel
theorem dX4_at_1 : decode (mC mX4_at) 1 = .ok (.ifCond .lt 15, 3) := by decide +kernel
theorem dX4_at_4 : decode (mC mX4_at) 4 = .ok (.iload_n 1, 1) := by decide +kernel
theorem dX4_at_5 : decode (mC mX4_at) 5 = .ok (.aload_n 0, 1) := by decide +kernel
theorem dX4_at_6 : decode (mC mX4_at) 6 = .ok (.arraylength, 1) := by decide +kernel
theorem dX4_at_7 : decode (mC mX4_at) 7 = .ok (.if_icmp .ge 9, 3) := by decide +kernel
theorem dX4_at_10 : decode (mC mX4_at) 10 = .ok (.aload_n 0, 1) := by decide +kernel
theorem dX4_at_11 : decode (mC mX4_at) 11 = .ok (.iload_n 1, 1) := by decide +kernel
theorem dX4_at_12 : decode (mC mX4_at) 12 = .ok (.iaload, 1) := by decide +kernel
theorem dX4_at_13 : decode (mC mX4_at) 13 = .ok (.goto 5, 3) := by decide +kernel
theorem dX4_at_16 : decode (mC mX4_at) 16 = .ok (.bipush (-9), 2) := by decide +kernel
theorem dX4_at_18 : decode (mC mX4_at) 18 = .ok (.ireturn, 1) := by decide +kernel
theorem dX4_put_0 : decode (mC mX4_put) 0 = .ok (.iload_n 1, 1) := by decide +kernel
theorem dX4_put_1 : decode (mC mX4_put) 1 = .ok (.ifCond .lt 13, 3) := by decide +kernel
theorem dX4_put_4 : decode (mC mX4_put) 4 = .ok (.iload_n 1, 1) := by decide +kernel
theorem dX4_put_5 : decode (mC mX4_put) 5 = .ok (.aload_n 0, 1) := by decide +kernel
theorem dX4_put_6 : decode (mC mX4_put) 6 = .ok (.arraylength, 1) := by decide +kernel
theorem dX4_put_7 : decode (mC mX4_put) 7 = .ok (.if_icmp .ge 7, 3) := by decide +kernel
theorem dX4_put_10 : decode (mC mX4_put) 10 = .ok (.aload_n 0, 1) := by decide +kernel
theorem dX4_put_11 : decode (mC mX4_put) 11 = .ok (.iload_n 1, 1) := by decide +kernel
theorem dX4_put_12 : decode (mC mX4_put) 12 = .ok (.iload_n 2, 1) := by decide +kernel
theorem dX4_put_13 : decode (mC mX4_put) 13 = .ok (.iastore, 1) := by decide +kernel
theorem dX4_put_14 : decode (mC mX4_put) 14 = .ok (.return_, 1) := by decide +kernel
theorem dX4_exchange_0 : decode (mC mX4_exchange) 0 = .ok (.aload_n 0, 1) := by decide +kernel
theorem dX4_exchange_1 : decode (mC mX4_exchange) 1 = .ok (.iload_n 1, 1) := by decide +kernel
theorem dX4_exchange_2 : decode (mC mX4_exchange) 2 = .ok (.invokestatic 103, 3) := by decide +kernel
theorem dX4_exchange_5 : decode (mC mX4_exchange) 5 = .ok (.istore_n 3, 1) := by decide +kernel
theorem dX4_exchange_6 : decode (mC mX4_exchange) 6 = .ok (.aload_n 0, 1) := by decide +kernel
theorem dX4_exchange_7 : decode (mC mX4_exchange) 7 = .ok (.iload_n 1, 1) := by decide +kernel
theorem dX4_exchange_8 : decode (mC mX4_exchange) 8 = .ok (.iload_n 2, 1) := by decide +kernel
theorem dX4_exchange_9 : decode (mC mX4_exchange) 9 = .ok (.invokestatic 217, 3) := by decide +kernel
theorem dX4_exchange_12 : decode (mC mX4_exchange) 12 = .ok (.iload_n 3, 1) := by decide +kernel
theorem dX4_exchange_13 : decode (mC mX4_exchange) 13 = .ok (.ireturn, 1) := by decide +kernel
theorem dX4_bitsOf_0 : decode (mC mX4_bitsOf) 0 = .ok (.iconst 0, 1) := by decide +kernel
theorem dX4_bitsOf_1 : decode (mC mX4_bitsOf) 1 = .ok (.istore_n 3, 1) := by decide +kernel
theorem dX4_bitsOf_2 : decode (mC mX4_bitsOf) 2 = .ok (.iconst 0, 1) := by decide +kernel
theorem dX4_bitsOf_3 : decode (mC mX4_bitsOf) 3 = .ok (.istore 4, 2) := by decide +kernel
theorem dX4_bitsOf_5 : decode (mC mX4_bitsOf) 5 = .ok (.iload 4, 2) := by decide +kernel
theorem dX4_bitsOf_7 : decode (mC mX4_bitsOf) 7 = .ok (.iload_n 1, 1) := by decide +kernel
theorem dX4_bitsOf_8 : decode (mC mX4_bitsOf) 8 = .ok (.if_icmp .ge 26, 3) := by decide +kernel
theorem dX4_bitsOf_11 : decode (mC mX4_bitsOf) 11 = .ok (.aload_n 0, 1) := by decide +kernel
theorem dX4_bitsOf_12 : decode (mC mX4_bitsOf) 12 = .ok (.iload 4, 2) := by decide +kernel
theorem dX4_bitsOf_14 : decode (mC mX4_bitsOf) 14 = .ok (.invokestatic 103, 3) := by decide +kernel
theorem dX4_bitsOf_17 : decode (mC mX4_bitsOf) 17 = .ok (.iload_n 2, 1) := by decide +kernel
theorem dX4_bitsOf_18 : decode (mC mX4_bitsOf) 18 = .ok (.if_icmp .ne 10, 3) := by decide +kernel
theorem dX4_bitsOf_21 : decode (mC mX4_bitsOf) 21 = .ok (.iload_n 3, 1) := by decide +kernel
theorem dX4_bitsOf_22 : decode (mC mX4_bitsOf) 22 = .ok (.iconst 1, 1) := by decide +kernel
theorem dX4_bitsOf_23 : decode (mC mX4_bitsOf) 23 = .ok (.iload 4, 2) := by decide +kernel
theorem dX4_bitsOf_25 : decode (mC mX4_bitsOf) 25 = .ok (.ishl, 1) := by decide +kernel
theorem dX4_bitsOf_26 : decode (mC mX4_bitsOf) 26 = .ok (.ior, 1) := by decide +kernel
theorem dX4_bitsOf_27 : decode (mC mX4_bitsOf) 27 = .ok (.istore_n 3, 1) := by decide +kernel
theorem dX4_bitsOf_28 : decode (mC mX4_bitsOf) 28 = .ok (.iinc 4 1, 3) := by decide +kernel
theorem dX4_bitsOf_31 : decode (mC mX4_bitsOf) 31 = .ok (.goto (-26), 3) := by decide +kernel
theorem dX4_bitsOf_34 : decode (mC mX4_bitsOf) 34 = .ok (.iload_n 3, 1) := by decide +kernel
theorem dX4_bitsOf_35 : decode (mC mX4_bitsOf) 35 = .ok (.ireturn, 1) := by decide +kernel
theorem dX4_copy_0 : decode (mC mX4_copy) 0 = .ok (.aload_n 0, 1) := by decide +kernel
theorem dX4_copy_1 : decode (mC mX4_copy) 1 = .ok (.iconst 0, 1) := by decide +kernel
theorem dX4_copy_2 : decode (mC mX4_copy) 2 = .ok (.aload_n 1, 1) := by decide +kernel
theorem dX4_copy_3 : decode (mC mX4_copy) 3 = .ok (.iconst 0, 1) := by decide +kernel
theorem dX4_copy_4 : decode (mC mX4_copy) 4 = .ok (.aload_n 0, 1) := by decide +kernel
theorem dX4_copy_5 : decode (mC mX4_copy) 5 = .ok (.arraylength, 1) := by decide +kernel
theorem dX4_copy_6 : decode (mC mX4_copy) 6 = .ok (.aload_n 1, 1) := by decide +kernel
theorem dX4_copy_7 : decode (mC mX4_copy) 7 = .ok (.arraylength, 1) := by decide +kernel
theorem dX4_copy_8 : decode (mC mX4_copy) 8 = .ok (.invokestatic 186, 3) := by decide +kernel
theorem dX4_copy_11 : decode (mC mX4_copy) 11 = .ok (.invokestatic 301, 3) := by decide +kernel
theorem dX4_copy_14 : decode (mC mX4_copy) 14 = .ok (.return_, 1) := by decide +kernel
theorem dX4_isRoom_0 : decode (mC mX4_isRoom) 0 = .ok (.iload_n 0, 1) := by decide +kernel
theorem dX4_isRoom_1 : decode (mC mX4_isRoom) 1 = .ok (.ifCond .lt 13, 3) := by decide +kernel
theorem dX4_isRoom_4 : decode (mC mX4_isRoom) 4 = .ok (.iload_n 0, 1) := by decide +kernel
theorem dX4_isRoom_5 : decode (mC mX4_isRoom) 5 = .ok (.bipush 8, 2) := by decide +kernel
theorem dX4_isRoom_7 : decode (mC mX4_isRoom) 7 = .ok (.if_icmp .ge 7, 3) := by decide +kernel
theorem dX4_isRoom_10 : decode (mC mX4_isRoom) 10 = .ok (.iconst 1, 1) := by decide +kernel
theorem dX4_isRoom_11 : decode (mC mX4_isRoom) 11 = .ok (.goto 4, 3) := by decide +kernel
theorem dX4_isRoom_14 : decode (mC mX4_isRoom) 14 = .ok (.iconst 0, 1) := by decide +kernel
theorem dX4_isRoom_15 : decode (mC mX4_isRoom) 15 = .ok (.ireturn, 1) := by decide +kernel
theorem dX4_isHalf_0 : decode (mC mX4_isHalf) 0 = .ok (.iload_n 0, 1) := by decide +kernel
theorem dX4_isHalf_1 : decode (mC mX4_isHalf) 1 = .ok (.ifCond .eq 8, 3) := by decide +kernel
theorem dX4_isHalf_4 : decode (mC mX4_isHalf) 4 = .ok (.iload_n 0, 1) := by decide +kernel
theorem dX4_isHalf_5 : decode (mC mX4_isHalf) 5 = .ok (.iconst 1, 1) := by decide +kernel
theorem dX4_isHalf_6 : decode (mC mX4_isHalf) 6 = .ok (.if_icmp .ne 7, 3) := by decide +kernel
theorem dX4_isHalf_9 : decode (mC mX4_isHalf) 9 = .ok (.iconst 1, 1) := by decide +kernel
theorem dX4_isHalf_10 : decode (mC mX4_isHalf) 10 = .ok (.goto 4, 3) := by decide +kernel
theorem dX4_isHalf_13 : decode (mC mX4_isHalf) 13 = .ok (.iconst 0, 1) := by decide +kernel
theorem dX4_isHalf_14 : decode (mC mX4_isHalf) 14 = .ok (.ireturn, 1) := by decide +kernel
theorem dX4_hasBit_0 : decode (mC mX4_hasBit) 0 = .ok (.iload_n 0, 1) := by decide +kernel
theorem dX4_hasBit_1 : decode (mC mX4_hasBit) 1 = .ok (.iload_n 1, 1) := by decide +kernel
theorem dX4_hasBit_2 : decode (mC mX4_hasBit) 2 = .ok (.ishr, 1) := by decide +kernel
theorem dX4_hasBit_3 : decode (mC mX4_hasBit) 3 = .ok (.iconst 1, 1) := by decide +kernel
theorem dX4_hasBit_4 : decode (mC mX4_hasBit) 4 = .ok (.iand, 1) := by decide +kernel
theorem dX4_hasBit_5 : decode (mC mX4_hasBit) 5 = .ok (.iconst 1, 1) := by decide +kernel
theorem dX4_hasBit_6 : decode (mC mX4_hasBit) 6 = .ok (.if_icmp .ne 7, 3) := by decide +kernel
theorem dX4_hasBit_9 : decode (mC mX4_hasBit) 9 = .ok (.iconst 1, 1) := by decide +kernel
theorem dX4_hasBit_10 : decode (mC mX4_hasBit) 10 = .ok (.goto 4, 3) := by decide +kernel
theorem dX4_hasBit_13 : decode (mC mX4_hasBit) 13 = .ok (.iconst 0, 1) := by decide +kernel
theorem dX4_hasBit_14 : decode (mC mX4_hasBit) 14 = .ok (.ireturn, 1) := by decide +kernel
theorem dX4_toldWay_0 : decode (mC mX4_toldWay) 0 = .ok (.iload_n 0, 1) := by decide +kernel
theorem dX4_toldWay_1 : decode (mC mX4_toldWay) 1 = .ok (.sipush 1000, 3) := by decide +kernel
theorem dX4_toldWay_4 : decode (mC mX4_toldWay) 4 = .ok (.if_icmp .lt 8, 3) := by decide +kernel
theorem dX4_toldWay_7 : decode (mC mX4_toldWay) 7 = .ok (.bipush (-9), 2) := by decide +kernel
theorem dX4_toldWay_9 : decode (mC mX4_toldWay) 9 = .ok (.goto 4, 3) := by decide +kernel
theorem dX4_toldWay_12 : decode (mC mX4_toldWay) 12 = .ok (.iload_n 0, 1) := by decide +kernel
theorem dX4_toldWay_13 : decode (mC mX4_toldWay) 13 = .ok (.ireturn, 1) := by decide +kernel
theorem dX4_power_0 : decode (mC mX4_power) 0 = .ok (.lconst 1, 1) := by decide +kernel
theorem dX4_power_1 : decode (mC mX4_power) 1 = .ok (.lstore_n 2, 1) := by decide +kernel
theorem dX4_power_2 : decode (mC mX4_power) 2 = .ok (.iconst 0, 1) := by decide +kernel
theorem dX4_power_3 : decode (mC mX4_power) 3 = .ok (.istore 4, 2) := by decide +kernel
theorem dX4_power_5 : decode (mC mX4_power) 5 = .ok (.iload 4, 2) := by decide +kernel
theorem dX4_power_7 : decode (mC mX4_power) 7 = .ok (.iload_n 1, 1) := by decide +kernel
theorem dX4_power_8 : decode (mC mX4_power) 8 = .ok (.if_icmp .ge 14, 3) := by decide +kernel
theorem dX4_power_11 : decode (mC mX4_power) 11 = .ok (.lload_n 2, 1) := by decide +kernel
theorem dX4_power_12 : decode (mC mX4_power) 12 = .ok (.iload_n 0, 1) := by decide +kernel
theorem dX4_power_13 : decode (mC mX4_power) 13 = .ok (.i2l, 1) := by decide +kernel
theorem dX4_power_14 : decode (mC mX4_power) 14 = .ok (.lmul, 1) := by decide +kernel
theorem dX4_power_15 : decode (mC mX4_power) 15 = .ok (.lstore_n 2, 1) := by decide +kernel
theorem dX4_power_16 : decode (mC mX4_power) 16 = .ok (.iinc 4 1, 3) := by decide +kernel
theorem dX4_power_19 : decode (mC mX4_power) 19 = .ok (.goto (-14), 3) := by decide +kernel
theorem dX4_power_22 : decode (mC mX4_power) 22 = .ok (.lload_n 2, 1) := by decide +kernel
theorem dX4_power_23 : decode (mC mX4_power) 23 = .ok (.lreturn, 1) := by decide +kernel
theorem dX4_partOf_0 : decode (mC mX4_partOf) 0 = .ok (.lload_n 0, 1) := by decide +kernel
theorem dX4_partOf_1 : decode (mC mX4_partOf) 1 = .ok (.lload_n 2, 1) := by decide +kernel
theorem dX4_partOf_2 : decode (mC mX4_partOf) 2 = .ok (.invokestatic 307, 3) := by decide +kernel
theorem dX4_partOf_5 : decode (mC mX4_partOf) 5 = .ok (.lstore 5, 2) := by decide +kernel
theorem dX4_partOf_7 : decode (mC mX4_partOf) 7 = .ok (.lload 5, 2) := by decide +kernel
theorem dX4_partOf_9 : decode (mC mX4_partOf) 9 = .ok (.lconst 1, 1) := by decide +kernel
theorem dX4_partOf_10 : decode (mC mX4_partOf) 10 = .ok (.lcmp, 1) := by decide +kernel
theorem dX4_partOf_11 : decode (mC mX4_partOf) 11 = .ok (.ifCond .ge 7, 3) := by decide +kernel
theorem dX4_partOf_14 : decode (mC mX4_partOf) 14 = .ok (.iload 4, 2) := by decide +kernel
theorem dX4_partOf_16 : decode (mC mX4_partOf) 16 = .ok (.i2l, 1) := by decide +kernel
theorem dX4_partOf_17 : decode (mC mX4_partOf) 17 = .ok (.lreturn, 1) := by decide +kernel
theorem dX4_partOf_18 : decode (mC mX4_partOf) 18 = .ok (.iload 4, 2) := by decide +kernel
theorem dX4_partOf_20 : decode (mC mX4_partOf) 20 = .ok (.ifCond .ne 7, 3) := by decide +kernel
theorem dX4_partOf_23 : decode (mC mX4_partOf) 23 = .ok (.lload_n 0, 1) := by decide +kernel
theorem dX4_partOf_24 : decode (mC mX4_partOf) 24 = .ok (.goto 4, 3) := by decide +kernel
theorem dX4_partOf_27 : decode (mC mX4_partOf) 27 = .ok (.lload_n 2, 1) := by decide +kernel
theorem dX4_partOf_28 : decode (mC mX4_partOf) 28 = .ok (.lload 5, 2) := by decide +kernel
theorem dX4_partOf_30 : decode (mC mX4_partOf) 30 = .ok (.ldiv, 1) := by decide +kernel
theorem dX4_partOf_31 : decode (mC mX4_partOf) 31 = .ok (.lreturn, 1) := by decide +kernel
theorem dX4_commonDivisor_0 : decode (mC mX4_commonDivisor) 0 = .ok (.lload_n 0, 1) := by decide +kernel
theorem dX4_commonDivisor_1 : decode (mC mX4_commonDivisor) 1 = .ok (.lstore 4, 2) := by decide +kernel
theorem dX4_commonDivisor_3 : decode (mC mX4_commonDivisor) 3 = .ok (.lload_n 2, 1) := by decide +kernel
theorem dX4_commonDivisor_4 : decode (mC mX4_commonDivisor) 4 = .ok (.lstore 6, 2) := by decide +kernel
theorem dX4_commonDivisor_6 : decode (mC mX4_commonDivisor) 6 = .ok (.iconst 0, 1) := by decide +kernel
theorem dX4_commonDivisor_7 : decode (mC mX4_commonDivisor) 7 = .ok (.istore 8, 2) := by decide +kernel
theorem dX4_commonDivisor_9 : decode (mC mX4_commonDivisor) 9 = .ok (.iload 8, 2) := by decide +kernel
theorem dX4_commonDivisor_11 : decode (mC mX4_commonDivisor) 11 = .ok (.sipush 200, 3) := by decide +kernel
theorem dX4_commonDivisor_14 : decode (mC mX4_commonDivisor) 14 = .ok (.if_icmp .ge 31, 3) := by decide +kernel
theorem dX4_commonDivisor_17 : decode (mC mX4_commonDivisor) 17 = .ok (.lload 6, 2) := by decide +kernel
theorem dX4_commonDivisor_19 : decode (mC mX4_commonDivisor) 19 = .ok (.lconst 0, 1) := by decide +kernel
theorem dX4_commonDivisor_20 : decode (mC mX4_commonDivisor) 20 = .ok (.lcmp, 1) := by decide +kernel
theorem dX4_commonDivisor_21 : decode (mC mX4_commonDivisor) 21 = .ok (.ifCond .eq 24, 3) := by decide +kernel
theorem dX4_commonDivisor_24 : decode (mC mX4_commonDivisor) 24 = .ok (.lload 4, 2) := by decide +kernel
theorem dX4_commonDivisor_26 : decode (mC mX4_commonDivisor) 26 = .ok (.lload 6, 2) := by decide +kernel
theorem dX4_commonDivisor_28 : decode (mC mX4_commonDivisor) 28 = .ok (.lrem, 1) := by decide +kernel
theorem dX4_commonDivisor_29 : decode (mC mX4_commonDivisor) 29 = .ok (.lstore 9, 2) := by decide +kernel
theorem dX4_commonDivisor_31 : decode (mC mX4_commonDivisor) 31 = .ok (.lload 6, 2) := by decide +kernel
theorem dX4_commonDivisor_33 : decode (mC mX4_commonDivisor) 33 = .ok (.lstore 4, 2) := by decide +kernel
theorem dX4_commonDivisor_35 : decode (mC mX4_commonDivisor) 35 = .ok (.lload 9, 2) := by decide +kernel
theorem dX4_commonDivisor_37 : decode (mC mX4_commonDivisor) 37 = .ok (.lstore 6, 2) := by decide +kernel
theorem dX4_commonDivisor_39 : decode (mC mX4_commonDivisor) 39 = .ok (.iinc 8 1, 3) := by decide +kernel
theorem dX4_commonDivisor_42 : decode (mC mX4_commonDivisor) 42 = .ok (.goto (-33), 3) := by decide +kernel
theorem dX4_commonDivisor_45 : decode (mC mX4_commonDivisor) 45 = .ok (.lload 4, 2) := by decide +kernel
theorem dX4_commonDivisor_47 : decode (mC mX4_commonDivisor) 47 = .ok (.lreturn, 1) := by decide +kernel
end
section
theorem dX5_init_0 : decode (mC mX5_init) 0 = .ok (.aload_n 0, 1) := by decide +kernel
theorem dX5_init_1 : decode (mC mX5_init) 1 = .ok (.invokespecial 1, 3) := by decide +kernel
theorem dX5_init_4 : decode (mC mX5_init) 4 = .ok (.aload_n 0, 1) := by decide +kernel
theorem dX5_init_5 : decode (mC mX5_init) 5 = .ok (.bipush 71, 2) := by decide +kernel
theorem dX5_init_7 : decode (mC mX5_init) 7 = .ok (.newarray .int, 2) := by decide +kernel
theorem dX5_init_9 : decode (mC mX5_init) 9 = .ok (.putfield 9, 3) := by decide +kernel
theorem dX5_init_12 : decode (mC mX5_init) 12 = .ok (.aload_n 0, 1) := by decide +kernel
theorem dX5_init_13 : decode (mC mX5_init) 13 = .ok (.bipush 71, 2) := by decide +kernel
theorem dX5_init_15 : decode (mC mX5_init) 15 = .ok (.newarray .int, 2) := by decide +kernel
theorem dX5_init_17 : decode (mC mX5_init) 17 = .ok (.putfield 13, 3) := by decide +kernel
theorem dX5_init_20 : decode (mC mX5_init) 20 = .ok (.aload_n 0, 1) := by decide +kernel
theorem dX5_init_21 : decode (mC mX5_init) 21 = .ok (.bipush 71, 2) := by decide +kernel
theorem dX5_init_23 : decode (mC mX5_init) 23 = .ok (.newarray .int, 2) := by decide +kernel
theorem dX5_init_25 : decode (mC mX5_init) 25 = .ok (.putfield 16, 3) := by decide +kernel
theorem dX5_init_28 : decode (mC mX5_init) 28 = .ok (.aload_n 0, 1) := by decide +kernel
theorem dX5_init_29 : decode (mC mX5_init) 29 = .ok (.bipush 71, 2) := by decide +kernel
theorem dX5_init_31 : decode (mC mX5_init) 31 = .ok (.newarray .int, 2) := by decide +kernel
theorem dX5_init_33 : decode (mC mX5_init) 33 = .ok (.putfield 19, 3) := by decide +kernel
theorem dX5_init_36 : decode (mC mX5_init) 36 = .ok (.aload_n 0, 1) := by decide +kernel
theorem dX5_init_37 : decode (mC mX5_init) 37 = .ok (.bipush 64, 2) := by decide +kernel
theorem dX5_init_39 : decode (mC mX5_init) 39 = .ok (.newarray .int, 2) := by decide +kernel
theorem dX5_init_41 : decode (mC mX5_init) 41 = .ok (.putfield 22, 3) := by decide +kernel
theorem dX5_init_44 : decode (mC mX5_init) 44 = .ok (.aload_n 0, 1) := by decide +kernel
theorem dX5_init_45 : decode (mC mX5_init) 45 = .ok (.bipush 96, 2) := by decide +kernel
theorem dX5_init_47 : decode (mC mX5_init) 47 = .ok (.newarray .int, 2) := by decide +kernel
theorem dX5_init_49 : decode (mC mX5_init) 49 = .ok (.putfield 25, 3) := by decide +kernel
theorem dX5_init_52 : decode (mC mX5_init) 52 = .ok (.aload_n 0, 1) := by decide +kernel
theorem dX5_init_53 : decode (mC mX5_init) 53 = .ok (.bipush 16, 2) := by decide +kernel
theorem dX5_init_55 : decode (mC mX5_init) 55 = .ok (.newarray .int, 2) := by decide +kernel
theorem dX5_init_57 : decode (mC mX5_init) 57 = .ok (.putfield 28, 3) := by decide +kernel
theorem dX5_init_60 : decode (mC mX5_init) 60 = .ok (.aload_n 0, 1) := by decide +kernel
theorem dX5_init_61 : decode (mC mX5_init) 61 = .ok (.bipush 7, 2) := by decide +kernel
theorem dX5_init_63 : decode (mC mX5_init) 63 = .ok (.newarray .int, 2) := by decide +kernel
theorem dX5_init_65 : decode (mC mX5_init) 65 = .ok (.putfield 31, 3) := by decide +kernel
theorem dX5_init_68 : decode (mC mX5_init) 68 = .ok (.aload_n 0, 1) := by decide +kernel
theorem dX5_init_69 : decode (mC mX5_init) 69 = .ok (.iconst 4, 1) := by decide +kernel
theorem dX5_init_70 : decode (mC mX5_init) 70 = .ok (.newarray .int, 2) := by decide +kernel
theorem dX5_init_72 : decode (mC mX5_init) 72 = .ok (.putfield 34, 3) := by decide +kernel
theorem dX5_init_75 : decode (mC mX5_init) 75 = .ok (.return_, 1) := by decide +kernel
theorem dX5_isIn_0 : decode (mC mX5_isIn) 0 = .ok (.iload_n 0, 1) := by decide +kernel
theorem dX5_isIn_1 : decode (mC mX5_isIn) 1 = .ok (.iload_n 1, 1) := by decide +kernel
theorem dX5_isIn_2 : decode (mC mX5_isIn) 2 = .ok (.if_icmp .lt 12, 3) := by decide +kernel
theorem dX5_isIn_5 : decode (mC mX5_isIn) 5 = .ok (.iload_n 0, 1) := by decide +kernel
theorem dX5_isIn_6 : decode (mC mX5_isIn) 6 = .ok (.iload_n 2, 1) := by decide +kernel
theorem dX5_isIn_7 : decode (mC mX5_isIn) 7 = .ok (.if_icmp .gt 7, 3) := by decide +kernel
theorem dX5_isIn_10 : decode (mC mX5_isIn) 10 = .ok (.iconst 1, 1) := by decide +kernel
theorem dX5_isIn_11 : decode (mC mX5_isIn) 11 = .ok (.goto 4, 3) := by decide +kernel
theorem dX5_isIn_14 : decode (mC mX5_isIn) 14 = .ok (.iconst 0, 1) := by decide +kernel
theorem dX5_isIn_15 : decode (mC mX5_isIn) 15 = .ok (.ireturn, 1) := by decide +kernel
theorem dX5_least_0 : decode (mC mX5_least) 0 = .ok (.iload_n 0, 1) := by decide +kernel
theorem dX5_least_1 : decode (mC mX5_least) 1 = .ok (.iload_n 1, 1) := by decide +kernel
theorem dX5_least_2 : decode (mC mX5_least) 2 = .ok (.if_icmp .ge 7, 3) := by decide +kernel
theorem dX5_least_5 : decode (mC mX5_least) 5 = .ok (.iload_n 0, 1) := by decide +kernel
theorem dX5_least_6 : decode (mC mX5_least) 6 = .ok (.goto 4, 3) := by decide +kernel
theorem dX5_least_9 : decode (mC mX5_least) 9 = .ok (.iload_n 1, 1) := by decide +kernel
theorem dX5_least_10 : decode (mC mX5_least) 10 = .ok (.ireturn, 1) := by decide +kernel
theorem dX5_copies_0 : decode (mC mX5_copies) 0 = .ok (.iconst 0, 1) := by decide +kernel
theorem dX5_copies_1 : decode (mC mX5_copies) 1 = .ok (.istore_n 2, 1) := by decide +kernel
theorem dX5_copies_2 : decode (mC mX5_copies) 2 = .ok (.iload_n 2, 1) := by decide +kernel
theorem dX5_copies_3 : decode (mC mX5_copies) 3 = .ok (.bipush 71, 2) := by decide +kernel
theorem dX5_copies_5 : decode (mC mX5_copies) 5 = .ok (.if_icmp .ge 15, 3) := by decide +kernel
theorem dX5_copies_8 : decode (mC mX5_copies) 8 = .ok (.aload_n 1, 1) := by decide +kernel
theorem dX5_copies_9 : decode (mC mX5_copies) 9 = .ok (.iload_n 2, 1) := by decide +kernel
theorem dX5_copies_10 : decode (mC mX5_copies) 10 = .ok (.aload_n 0, 1) := by decide +kernel
theorem dX5_copies_11 : decode (mC mX5_copies) 11 = .ok (.iload_n 2, 1) := by decide +kernel
theorem dX5_copies_12 : decode (mC mX5_copies) 12 = .ok (.iaload, 1) := by decide +kernel
theorem dX5_copies_13 : decode (mC mX5_copies) 13 = .ok (.iastore, 1) := by decide +kernel
theorem dX5_copies_14 : decode (mC mX5_copies) 14 = .ok (.iinc 2 1, 3) := by decide +kernel
theorem dX5_copies_17 : decode (mC mX5_copies) 17 = .ok (.goto (-15), 3) := by decide +kernel
theorem dX5_copies_20 : decode (mC mX5_copies) 20 = .ok (.return_, 1) := by decide +kernel
theorem dX5_no_0 : decode (mC mX5_no) 0 = .ok (.aload_n 0, 1) := by decide +kernel
theorem dX5_no_1 : decode (mC mX5_no) 1 = .ok (.getfield 31, 3) := by decide +kernel
theorem dX5_no_4 : decode (mC mX5_no) 4 = .ok (.iload_n 1, 1) := by decide +kernel
theorem dX5_no_5 : decode (mC mX5_no) 5 = .ok (.ineg, 1) := by decide +kernel
theorem dX5_no_6 : decode (mC mX5_no) 6 = .ok (.dup2, 1) := by decide +kernel
theorem dX5_no_7 : decode (mC mX5_no) 7 = .ok (.iaload, 1) := by decide +kernel
theorem dX5_no_8 : decode (mC mX5_no) 8 = .ok (.iconst 1, 1) := by decide +kernel
theorem dX5_no_9 : decode (mC mX5_no) 9 = .ok (.iadd, 1) := by decide +kernel
theorem dX5_no_10 : decode (mC mX5_no) 10 = .ok (.iastore, 1) := by decide +kernel
theorem dX5_no_11 : decode (mC mX5_no) 11 = .ok (.iload_n 1, 1) := by decide +kernel
theorem dX5_no_12 : decode (mC mX5_no) 12 = .ok (.ireturn, 1) := by decide +kernel
theorem dX5_noWide_0 : decode (mC mX5_noWide) 0 = .ok (.ldc2_w 37, 3) := by decide +kernel
theorem dX5_noWide_3 : decode (mC mX5_noWide) 3 = .ok (.aload_n 0, 1) := by decide +kernel
theorem dX5_noWide_4 : decode (mC mX5_noWide) 4 = .ok (.iload_n 1, 1) := by decide +kernel
theorem dX5_noWide_5 : decode (mC mX5_noWide) 5 = .ok (.invokevirtual 39, 3) := by decide +kernel
theorem dX5_noWide_8 : decode (mC mX5_noWide) 8 = .ok (.i2l, 1) := by decide +kernel
theorem dX5_noWide_9 : decode (mC mX5_noWide) 9 = .ok (.lsub, 1) := by decide +kernel
theorem dX5_noWide_10 : decode (mC mX5_noWide) 10 = .ok (.lreturn, 1) := by decide +kernel
theorem dX5_ofD_0 : decode (mC mX5_ofD) 0 = .ok (.iconst 5, 1) := by decide +kernel
theorem dX5_ofD_1 : decode (mC mX5_ofD) 1 = .ok (.iconst 5, 1) := by decide +kernel
theorem dX5_ofD_2 : decode (mC mX5_ofD) 2 = .ok (.iload_n 0, 1) := by decide +kernel
theorem dX5_ofD_3 : decode (mC mX5_ofD) 3 = .ok (.imul, 1) := by decide +kernel
theorem dX5_ofD_4 : decode (mC mX5_ofD) 4 = .ok (.iadd, 1) := by decide +kernel
theorem dX5_ofD_5 : decode (mC mX5_ofD) 5 = .ok (.iload_n 1, 1) := by decide +kernel
theorem dX5_ofD_6 : decode (mC mX5_ofD) 6 = .ok (.iadd, 1) := by decide +kernel
theorem dX5_ofD_7 : decode (mC mX5_ofD) 7 = .ok (.ireturn, 1) := by decide +kernel
theorem dX5_ofP_0 : decode (mC mX5_ofP) 0 = .ok (.bipush 50, 2) := by decide +kernel
theorem dX5_ofP_2 : decode (mC mX5_ofP) 2 = .ok (.iconst 3, 1) := by decide +kernel
theorem dX5_ofP_3 : decode (mC mX5_ofP) 3 = .ok (.iload_n 0, 1) := by decide +kernel
theorem dX5_ofP_4 : decode (mC mX5_ofP) 4 = .ok (.imul, 1) := by decide +kernel
theorem dX5_ofP_5 : decode (mC mX5_ofP) 5 = .ok (.iadd, 1) := by decide +kernel
theorem dX5_ofP_6 : decode (mC mX5_ofP) 6 = .ok (.iload_n 1, 1) := by decide +kernel
theorem dX5_ofP_7 : decode (mC mX5_ofP) 7 = .ok (.iadd, 1) := by decide +kernel
theorem dX5_ofP_8 : decode (mC mX5_ofP) 8 = .ok (.ireturn, 1) := by decide +kernel
theorem dX5_isDoor_0 : decode (mC mX5_isDoor) 0 = .ok (.iload_n 1, 1) := by decide +kernel
theorem dX5_isDoor_1 : decode (mC mX5_isDoor) 1 = .ok (.iconst 0, 1) := by decide +kernel
theorem dX5_isDoor_2 : decode (mC mX5_isDoor) 2 = .ok (.aload_n 0, 1) := by decide +kernel
theorem dX5_isDoor_3 : decode (mC mX5_isDoor) 3 = .ok (.getfield 9, 3) := by decide +kernel
theorem dX5_isDoor_6 : decode (mC mX5_isDoor) 6 = .ok (.iconst 0, 1) := by decide +kernel
theorem dX5_isDoor_7 : decode (mC mX5_isDoor) 7 = .ok (.iaload, 1) := by decide +kernel
theorem dX5_isDoor_8 : decode (mC mX5_isDoor) 8 = .ok (.iconst 1, 1) := by decide +kernel
theorem dX5_isDoor_9 : decode (mC mX5_isDoor) 9 = .ok (.isub, 1) := by decide +kernel
theorem dX5_isDoor_10 : decode (mC mX5_isDoor) 10 = .ok (.invokestatic 43, 3) := by decide +kernel
theorem dX5_isDoor_13 : decode (mC mX5_isDoor) 13 = .ok (.ireturn, 1) := by decide +kernel
theorem dX5_isPerson_0 : decode (mC mX5_isPerson) 0 = .ok (.iload_n 1, 1) := by decide +kernel
theorem dX5_isPerson_1 : decode (mC mX5_isPerson) 1 = .ok (.iconst 0, 1) := by decide +kernel
theorem dX5_isPerson_2 : decode (mC mX5_isPerson) 2 = .ok (.aload_n 0, 1) := by decide +kernel
theorem dX5_isPerson_3 : decode (mC mX5_isPerson) 3 = .ok (.getfield 9, 3) := by decide +kernel
theorem dX5_isPerson_6 : decode (mC mX5_isPerson) 6 = .ok (.iconst 1, 1) := by decide +kernel
theorem dX5_isPerson_7 : decode (mC mX5_isPerson) 7 = .ok (.iaload, 1) := by decide +kernel
theorem dX5_isPerson_8 : decode (mC mX5_isPerson) 8 = .ok (.iconst 1, 1) := by decide +kernel
theorem dX5_isPerson_9 : decode (mC mX5_isPerson) 9 = .ok (.isub, 1) := by decide +kernel
theorem dX5_isPerson_10 : decode (mC mX5_isPerson) 10 = .ok (.invokestatic 43, 3) := by decide +kernel
theorem dX5_isPerson_13 : decode (mC mX5_isPerson) 13 = .ok (.ireturn, 1) := by decide +kernel
theorem dX5_isRoom_0 : decode (mC mX5_isRoom) 0 = .ok (.iload_n 0, 1) := by decide +kernel
theorem dX5_isRoom_1 : decode (mC mX5_isRoom) 1 = .ok (.iconst 0, 1) := by decide +kernel
theorem dX5_isRoom_2 : decode (mC mX5_isRoom) 2 = .ok (.bipush 7, 2) := by decide +kernel
theorem dX5_isRoom_4 : decode (mC mX5_isRoom) 4 = .ok (.invokestatic 43, 3) := by decide +kernel
theorem dX5_isRoom_7 : decode (mC mX5_isRoom) 7 = .ok (.ireturn, 1) := by decide +kernel
theorem dX5_has_0 : decode (mC mX5_has) 0 = .ok (.iload_n 0, 1) := by decide +kernel
theorem dX5_has_1 : decode (mC mX5_has) 1 = .ok (.iload_n 1, 1) := by decide +kernel
theorem dX5_has_2 : decode (mC mX5_has) 2 = .ok (.ishr, 1) := by decide +kernel
theorem dX5_has_3 : decode (mC mX5_has) 3 = .ok (.iconst 1, 1) := by decide +kernel
theorem dX5_has_4 : decode (mC mX5_has) 4 = .ok (.iand, 1) := by decide +kernel
theorem dX5_has_5 : decode (mC mX5_has) 5 = .ok (.iconst 1, 1) := by decide +kernel
theorem dX5_has_6 : decode (mC mX5_has) 6 = .ok (.if_icmp .ne 7, 3) := by decide +kernel
theorem dX5_has_9 : decode (mC mX5_has) 9 = .ok (.iconst 1, 1) := by decide +kernel
theorem dX5_has_10 : decode (mC mX5_has) 10 = .ok (.goto 4, 3) := by decide +kernel
theorem dX5_has_13 : decode (mC mX5_has) 13 = .ok (.iconst 0, 1) := by decide +kernel
theorem dX5_has_14 : decode (mC mX5_has) 14 = .ok (.ireturn, 1) := by decide +kernel
theorem dX5_bits_0 : decode (mC mX5_bits) 0 = .ok (.iconst 0, 1) := by decide +kernel
theorem dX5_bits_1 : decode (mC mX5_bits) 1 = .ok (.istore_n 1, 1) := by decide +kernel
theorem dX5_bits_2 : decode (mC mX5_bits) 2 = .ok (.iconst 0, 1) := by decide +kernel
theorem dX5_bits_3 : decode (mC mX5_bits) 3 = .ok (.istore_n 2, 1) := by decide +kernel
theorem dX5_bits_4 : decode (mC mX5_bits) 4 = .ok (.iload_n 2, 1) := by decide +kernel
theorem dX5_bits_5 : decode (mC mX5_bits) 5 = .ok (.bipush 9, 2) := by decide +kernel
theorem dX5_bits_7 : decode (mC mX5_bits) 7 = .ok (.if_icmp .ge 17, 3) := by decide +kernel
theorem dX5_bits_10 : decode (mC mX5_bits) 10 = .ok (.iload_n 1, 1) := by decide +kernel
theorem dX5_bits_11 : decode (mC mX5_bits) 11 = .ok (.iload_n 0, 1) := by decide +kernel
theorem dX5_bits_12 : decode (mC mX5_bits) 12 = .ok (.iload_n 2, 1) := by decide +kernel
theorem dX5_bits_13 : decode (mC mX5_bits) 13 = .ok (.ishr, 1) := by decide +kernel
theorem dX5_bits_14 : decode (mC mX5_bits) 14 = .ok (.iconst 1, 1) := by decide +kernel
theorem dX5_bits_15 : decode (mC mX5_bits) 15 = .ok (.iand, 1) := by decide +kernel
theorem dX5_bits_16 : decode (mC mX5_bits) 16 = .ok (.iadd, 1) := by decide +kernel
theorem dX5_bits_17 : decode (mC mX5_bits) 17 = .ok (.istore_n 1, 1) := by decide +kernel
theorem dX5_bits_18 : decode (mC mX5_bits) 18 = .ok (.iinc 2 1, 3) := by decide +kernel
theorem dX5_bits_21 : decode (mC mX5_bits) 21 = .ok (.goto (-17), 3) := by decide +kernel
theorem dX5_bits_24 : decode (mC mX5_bits) 24 = .ok (.iload_n 1, 1) := by decide +kernel
theorem dX5_bits_25 : decode (mC mX5_bits) 25 = .ok (.ireturn, 1) := by decide +kernel
theorem dX5_opensBy_0 : decode (mC mX5_opensBy) 0 = .ok (.iload_n 3, 1) := by decide +kernel
theorem dX5_opensBy_1 : decode (mC mX5_opensBy) 1 = .ok (.iconst 1, 1) := by decide +kernel
theorem dX5_opensBy_2 : decode (mC mX5_opensBy) 2 = .ok (.if_icmp .lt 7, 3) := by decide +kernel
theorem dX5_opensBy_5 : decode (mC mX5_opensBy) 5 = .ok (.iconst 1, 1) := by decide +kernel
theorem dX5_opensBy_6 : decode (mC mX5_opensBy) 6 = .ok (.goto 4, 3) := by decide +kernel
theorem dX5_opensBy_9 : decode (mC mX5_opensBy) 9 = .ok (.iconst 0, 1) := by decide +kernel
theorem dX5_opensBy_10 : decode (mC mX5_opensBy) 10 = .ok (.istore 5, 2) := by decide +kernel
theorem dX5_opensBy_12 : decode (mC mX5_opensBy) 12 = .ok (.iload 5, 2) := by decide +kernel
theorem dX5_opensBy_14 : decode (mC mX5_opensBy) 14 = .ok (.ifCond .eq 17, 3) := by decide +kernel
theorem dX5_opensBy_17 : decode (mC mX5_opensBy) 17 = .ok (.iload_n 2, 1) := by decide +kernel
theorem dX5_opensBy_18 : decode (mC mX5_opensBy) 18 = .ok (.iload_n 1, 1) := by decide +kernel
theorem dX5_opensBy_19 : decode (mC mX5_opensBy) 19 = .ok (.iconst 3, 1) := by decide +kernel
theorem dX5_opensBy_20 : decode (mC mX5_opensBy) 20 = .ok (.idiv, 1) := by decide +kernel
theorem dX5_opensBy_21 : decode (mC mX5_opensBy) 21 = .ok (.iconst 2, 1) := by decide +kernel
theorem dX5_opensBy_22 : decode (mC mX5_opensBy) 22 = .ok (.iadd, 1) := by decide +kernel
theorem dX5_opensBy_23 : decode (mC mX5_opensBy) 23 = .ok (.irem, 1) := by decide +kernel
theorem dX5_opensBy_24 : decode (mC mX5_opensBy) 24 = .ok (.ifCond .ne 7, 3) := by decide +kernel
theorem dX5_opensBy_27 : decode (mC mX5_opensBy) 27 = .ok (.iconst 1, 1) := by decide +kernel
theorem dX5_opensBy_28 : decode (mC mX5_opensBy) 28 = .ok (.goto 4, 3) := by decide +kernel
theorem dX5_opensBy_31 : decode (mC mX5_opensBy) 31 = .ok (.iconst 0, 1) := by decide +kernel
theorem dX5_opensBy_32 : decode (mC mX5_opensBy) 32 = .ok (.istore 6, 2) := by decide +kernel
theorem dX5_opensBy_34 : decode (mC mX5_opensBy) 34 = .ok (.iload_n 0, 1) := by decide +kernel
theorem dX5_opensBy_35 : decode (mC mX5_opensBy) 35 = .ok (.tableswitch 89 1 5 #[33, 36, 53, 71, 73], 33) := by decide +kernel
theorem dX5_opensBy_68 : decode (mC mX5_opensBy) 68 = .ok (.iload 6, 2) := by decide +kernel
theorem dX5_opensBy_70 : decode (mC mX5_opensBy) 70 = .ok (.ireturn, 1) := by decide +kernel
theorem dX5_opensBy_71 : decode (mC mX5_opensBy) 71 = .ok (.iload 5, 2) := by decide +kernel
theorem dX5_opensBy_73 : decode (mC mX5_opensBy) 73 = .ok (.ifCond .eq 13, 3) := by decide +kernel
theorem dX5_opensBy_76 : decode (mC mX5_opensBy) 76 = .ok (.iload 4, 2) := by decide +kernel
theorem dX5_opensBy_78 : decode (mC mX5_opensBy) 78 = .ok (.iload_n 1, 1) := by decide +kernel
theorem dX5_opensBy_79 : decode (mC mX5_opensBy) 79 = .ok (.if_icmp .lt 7, 3) := by decide +kernel
theorem dX5_opensBy_82 : decode (mC mX5_opensBy) 82 = .ok (.iconst 1, 1) := by decide +kernel
theorem dX5_opensBy_83 : decode (mC mX5_opensBy) 83 = .ok (.goto 4, 3) := by decide +kernel
theorem dX5_opensBy_86 : decode (mC mX5_opensBy) 86 = .ok (.iconst 0, 1) := by decide +kernel
theorem dX5_opensBy_87 : decode (mC mX5_opensBy) 87 = .ok (.ireturn, 1) := by decide +kernel
theorem dX5_opensBy_88 : decode (mC mX5_opensBy) 88 = .ok (.iload_n 2, 1) := by decide +kernel
theorem dX5_opensBy_89 : decode (mC mX5_opensBy) 89 = .ok (.iconst 2, 1) := by decide +kernel
theorem dX5_opensBy_90 : decode (mC mX5_opensBy) 90 = .ok (.irem, 1) := by decide +kernel
theorem dX5_opensBy_91 : decode (mC mX5_opensBy) 91 = .ok (.iconst 1, 1) := by decide +kernel
theorem dX5_opensBy_92 : decode (mC mX5_opensBy) 92 = .ok (.if_icmp .eq 8, 3) := by decide +kernel
theorem dX5_opensBy_95 : decode (mC mX5_opensBy) 95 = .ok (.iload 5, 2) := by decide +kernel
theorem dX5_opensBy_97 : decode (mC mX5_opensBy) 97 = .ok (.ifCond .eq 7, 3) := by decide +kernel
theorem dX5_opensBy_100 : decode (mC mX5_opensBy) 100 = .ok (.iconst 1, 1) := by decide +kernel
theorem dX5_opensBy_101 : decode (mC mX5_opensBy) 101 = .ok (.goto 4, 3) := by decide +kernel
theorem dX5_opensBy_104 : decode (mC mX5_opensBy) 104 = .ok (.iconst 0, 1) := by decide +kernel
theorem dX5_opensBy_105 : decode (mC mX5_opensBy) 105 = .ok (.ireturn, 1) := by decide +kernel
theorem dX5_opensBy_106 : decode (mC mX5_opensBy) 106 = .ok (.iconst 1, 1) := by decide +kernel
theorem dX5_opensBy_107 : decode (mC mX5_opensBy) 107 = .ok (.ireturn, 1) := by decide +kernel
theorem dX5_opensBy_108 : decode (mC mX5_opensBy) 108 = .ok (.iload 6, 2) := by decide +kernel
theorem dX5_opensBy_110 : decode (mC mX5_opensBy) 110 = .ok (.ifCond .eq 12, 3) := by decide +kernel
theorem dX5_opensBy_113 : decode (mC mX5_opensBy) 113 = .ok (.iload_n 3, 1) := by decide +kernel
theorem dX5_opensBy_114 : decode (mC mX5_opensBy) 114 = .ok (.iconst 2, 1) := by decide +kernel
theorem dX5_opensBy_115 : decode (mC mX5_opensBy) 115 = .ok (.if_icmp .lt 7, 3) := by decide +kernel
theorem dX5_opensBy_118 : decode (mC mX5_opensBy) 118 = .ok (.iconst 1, 1) := by decide +kernel
theorem dX5_opensBy_119 : decode (mC mX5_opensBy) 119 = .ok (.goto 4, 3) := by decide +kernel
theorem dX5_opensBy_122 : decode (mC mX5_opensBy) 122 = .ok (.iconst 0, 1) := by decide +kernel
theorem dX5_opensBy_123 : decode (mC mX5_opensBy) 123 = .ok (.ireturn, 1) := by decide +kernel
theorem dX5_opensBy_124 : decode (mC mX5_opensBy) 124 = .ok (.iload 5, 2) := by decide +kernel
theorem dX5_opensBy_126 : decode (mC mX5_opensBy) 126 = .ok (.ireturn, 1) := by decide +kernel
theorem dX5_isThere_0 : decode (mC mX5_isThere) 0 = .ok (.aload_n 0, 1) := by decide +kernel
theorem dX5_isThere_1 : decode (mC mX5_isThere) 1 = .ok (.iconst 4, 1) := by decide +kernel
theorem dX5_isThere_2 : decode (mC mX5_isThere) 2 = .ok (.iaload, 1) := by decide +kernel
theorem dX5_isThere_3 : decode (mC mX5_isThere) 3 = .ok (.iload_n 1, 1) := by decide +kernel
theorem dX5_isThere_4 : decode (mC mX5_isThere) 4 = .ok (.invokestatic 47, 3) := by decide +kernel
theorem dX5_isThere_7 : decode (mC mX5_isThere) 7 = .ok (.ifCond .ne 18, 3) := by decide +kernel
theorem dX5_isThere_10 : decode (mC mX5_isThere) 10 = .ok (.aload_n 0, 1) := by decide +kernel
theorem dX5_isThere_11 : decode (mC mX5_isThere) 11 = .ok (.iload_n 1, 1) := by decide +kernel
theorem dX5_isThere_12 : decode (mC mX5_isThere) 12 = .ok (.iconst 0, 1) := by decide +kernel
theorem dX5_isThere_13 : decode (mC mX5_isThere) 13 = .ok (.invokestatic 51, 3) := by decide +kernel
theorem dX5_isThere_16 : decode (mC mX5_isThere) 16 = .ok (.iaload, 1) := by decide +kernel
theorem dX5_isThere_17 : decode (mC mX5_isThere) 17 = .ok (.iload_n 2, 1) := by decide +kernel
theorem dX5_isThere_18 : decode (mC mX5_isThere) 18 = .ok (.if_icmp .ne 7, 3) := by decide +kernel
theorem dX5_isThere_21 : decode (mC mX5_isThere) 21 = .ok (.iconst 1, 1) := by decide +kernel
theorem dX5_isThere_22 : decode (mC mX5_isThere) 22 = .ok (.goto 4, 3) := by decide +kernel
theorem dX5_isThere_25 : decode (mC mX5_isThere) 25 = .ok (.iconst 0, 1) := by decide +kernel
theorem dX5_isThere_26 : decode (mC mX5_isThere) 26 = .ok (.ireturn, 1) := by decide +kernel
theorem dX5_opens_0 : decode (mC mX5_opens) 0 = .ok (.aload_n 0, 1) := by decide +kernel
theorem dX5_opens_1 : decode (mC mX5_opens) 1 = .ok (.iload_n 1, 1) := by decide +kernel
theorem dX5_opens_2 : decode (mC mX5_opens) 2 = .ok (.iconst 4, 1) := by decide +kernel
theorem dX5_opens_3 : decode (mC mX5_opens) 3 = .ok (.invokestatic 55, 3) := by decide +kernel
theorem dX5_opens_6 : decode (mC mX5_opens) 6 = .ok (.iaload, 1) := by decide +kernel
theorem dX5_opens_7 : decode (mC mX5_opens) 7 = .ok (.iconst 1, 1) := by decide +kernel
theorem dX5_opens_8 : decode (mC mX5_opens) 8 = .ok (.if_icmp .ne 5, 3) := by decide +kernel
theorem dX5_opens_11 : decode (mC mX5_opens) 11 = .ok (.iconst 1, 1) := by decide +kernel
theorem dX5_opens_12 : decode (mC mX5_opens) 12 = .ok (.ireturn, 1) := by decide +kernel
theorem dX5_opens_13 : decode (mC mX5_opens) 13 = .ok (.iconst 0, 1) := by decide +kernel
theorem dX5_opens_14 : decode (mC mX5_opens) 14 = .ok (.istore 4, 2) := by decide +kernel
theorem dX5_opens_16 : decode (mC mX5_opens) 16 = .ok (.iconst 0, 1) := by decide +kernel
theorem dX5_opens_17 : decode (mC mX5_opens) 17 = .ok (.istore 5, 2) := by decide +kernel
theorem dX5_opens_19 : decode (mC mX5_opens) 19 = .ok (.iconst 0, 1) := by decide +kernel
theorem dX5_opens_20 : decode (mC mX5_opens) 20 = .ok (.istore 6, 2) := by decide +kernel
theorem dX5_opens_22 : decode (mC mX5_opens) 22 = .ok (.iload 6, 2) := by decide +kernel
theorem dX5_opens_24 : decode (mC mX5_opens) 24 = .ok (.aload_n 0, 1) := by decide +kernel
theorem dX5_opens_25 : decode (mC mX5_opens) 25 = .ok (.iconst 1, 1) := by decide +kernel
theorem dX5_opens_26 : decode (mC mX5_opens) 26 = .ok (.iaload, 1) := by decide +kernel
theorem dX5_opens_27 : decode (mC mX5_opens) 27 = .ok (.if_icmp .ge 65, 3) := by decide +kernel
theorem dX5_opens_30 : decode (mC mX5_opens) 30 = .ok (.iload 6, 2) := by decide +kernel
theorem dX5_opens_32 : decode (mC mX5_opens) 32 = .ok (.iload_n 2, 1) := by decide +kernel
theorem dX5_opens_33 : decode (mC mX5_opens) 33 = .ok (.if_icmp .eq 53, 3) := by decide +kernel
theorem dX5_opens_36 : decode (mC mX5_opens) 36 = .ok (.aload_n 0, 1) := by decide +kernel
theorem dX5_opens_37 : decode (mC mX5_opens) 37 = .ok (.iload 6, 2) := by decide +kernel
theorem dX5_opens_39 : decode (mC mX5_opens) 39 = .ok (.aload_n 0, 1) := by decide +kernel
theorem dX5_opens_40 : decode (mC mX5_opens) 40 = .ok (.iload_n 1, 1) := by decide +kernel
theorem dX5_opens_41 : decode (mC mX5_opens) 41 = .ok (.iconst 3, 1) := by decide +kernel
theorem dX5_opens_42 : decode (mC mX5_opens) 42 = .ok (.invokestatic 55, 3) := by decide +kernel
theorem dX5_opens_45 : decode (mC mX5_opens) 45 = .ok (.iaload, 1) := by decide +kernel
theorem dX5_opens_46 : decode (mC mX5_opens) 46 = .ok (.invokestatic 58, 3) := by decide +kernel
theorem dX5_opens_49 : decode (mC mX5_opens) 49 = .ok (.ifCond .ne 6, 3) := by decide +kernel
theorem dX5_opens_52 : decode (mC mX5_opens) 52 = .ok (.goto 34, 3) := by decide +kernel
theorem dX5_opens_55 : decode (mC mX5_opens) 55 = .ok (.iinc 4 1, 3) := by decide +kernel
theorem dX5_opens_58 : decode (mC mX5_opens) 58 = .ok (.aload_n 0, 1) := by decide +kernel
theorem dX5_opens_59 : decode (mC mX5_opens) 59 = .ok (.iload 6, 2) := by decide +kernel
theorem dX5_opens_61 : decode (mC mX5_opens) 61 = .ok (.iconst 2, 1) := by decide +kernel
theorem dX5_opens_62 : decode (mC mX5_opens) 62 = .ok (.invokestatic 51, 3) := by decide +kernel
theorem dX5_opens_65 : decode (mC mX5_opens) 65 = .ok (.iaload, 1) := by decide +kernel
theorem dX5_opens_66 : decode (mC mX5_opens) 66 = .ok (.iload 5, 2) := by decide +kernel
theorem dX5_opens_68 : decode (mC mX5_opens) 68 = .ok (.if_icmp .le 14, 3) := by decide +kernel
theorem dX5_opens_71 : decode (mC mX5_opens) 71 = .ok (.aload_n 0, 1) := by decide +kernel
theorem dX5_opens_72 : decode (mC mX5_opens) 72 = .ok (.iload 6, 2) := by decide +kernel
theorem dX5_opens_74 : decode (mC mX5_opens) 74 = .ok (.iconst 2, 1) := by decide +kernel
theorem dX5_opens_75 : decode (mC mX5_opens) 75 = .ok (.invokestatic 51, 3) := by decide +kernel
theorem dX5_opens_78 : decode (mC mX5_opens) 78 = .ok (.iaload, 1) := by decide +kernel
theorem dX5_opens_79 : decode (mC mX5_opens) 79 = .ok (.goto 5, 3) := by decide +kernel
theorem dX5_opens_82 : decode (mC mX5_opens) 82 = .ok (.iload 5, 2) := by decide +kernel
theorem dX5_opens_84 : decode (mC mX5_opens) 84 = .ok (.istore 5, 2) := by decide +kernel
theorem dX5_opens_86 : decode (mC mX5_opens) 86 = .ok (.iinc 6 1, 3) := by decide +kernel
theorem dX5_opens_89 : decode (mC mX5_opens) 89 = .ok (.goto (-67), 3) := by decide +kernel
theorem dX5_opens_92 : decode (mC mX5_opens) 92 = .ok (.aload_n 0, 1) := by decide +kernel
theorem dX5_opens_93 : decode (mC mX5_opens) 93 = .ok (.iload_n 1, 1) := by decide +kernel
theorem dX5_opens_94 : decode (mC mX5_opens) 94 = .ok (.iconst 0, 1) := by decide +kernel
theorem dX5_opens_95 : decode (mC mX5_opens) 95 = .ok (.invokestatic 55, 3) := by decide +kernel
theorem dX5_opens_98 : decode (mC mX5_opens) 98 = .ok (.iaload, 1) := by decide +kernel
theorem dX5_opens_99 : decode (mC mX5_opens) 99 = .ok (.aload_n 0, 1) := by decide +kernel
theorem dX5_opens_100 : decode (mC mX5_opens) 100 = .ok (.iload_n 1, 1) := by decide +kernel
theorem dX5_opens_101 : decode (mC mX5_opens) 101 = .ok (.iconst 1, 1) := by decide +kernel
theorem dX5_opens_102 : decode (mC mX5_opens) 102 = .ok (.invokestatic 55, 3) := by decide +kernel
theorem dX5_opens_105 : decode (mC mX5_opens) 105 = .ok (.iaload, 1) := by decide +kernel
theorem dX5_opens_106 : decode (mC mX5_opens) 106 = .ok (.iload_n 3, 1) := by decide +kernel
theorem dX5_opens_107 : decode (mC mX5_opens) 107 = .ok (.iload 4, 2) := by decide +kernel
theorem dX5_opens_109 : decode (mC mX5_opens) 109 = .ok (.iload 5, 2) := by decide +kernel
theorem dX5_opens_111 : decode (mC mX5_opens) 111 = .ok (.invokestatic 62, 3) := by decide +kernel
theorem dX5_opens_114 : decode (mC mX5_opens) 114 = .ok (.ireturn, 1) := by decide +kernel
theorem dX5_measures_0 : decode (mC mX5_measures) 0 = .ok (.iconst 0, 1) := by decide +kernel
theorem dX5_measures_1 : decode (mC mX5_measures) 1 = .ok (.istore_n 2, 1) := by decide +kernel
theorem dX5_measures_2 : decode (mC mX5_measures) 2 = .ok (.iload_n 2, 1) := by decide +kernel
theorem dX5_measures_3 : decode (mC mX5_measures) 3 = .ok (.bipush 64, 2) := by decide +kernel
theorem dX5_measures_5 : decode (mC mX5_measures) 5 = .ok (.if_icmp .ge 28, 3) := by decide +kernel
theorem dX5_measures_8 : decode (mC mX5_measures) 8 = .ok (.aload_n 0, 1) := by decide +kernel
theorem dX5_measures_9 : decode (mC mX5_measures) 9 = .ok (.getfield 22, 3) := by decide +kernel
theorem dX5_measures_12 : decode (mC mX5_measures) 12 = .ok (.iload_n 2, 1) := by decide +kernel
theorem dX5_measures_13 : decode (mC mX5_measures) 13 = .ok (.iload_n 2, 1) := by decide +kernel
theorem dX5_measures_14 : decode (mC mX5_measures) 14 = .ok (.bipush 9, 2) := by decide +kernel
theorem dX5_measures_16 : decode (mC mX5_measures) 16 = .ok (.irem, 1) := by decide +kernel
theorem dX5_measures_17 : decode (mC mX5_measures) 17 = .ok (.ifCond .ne 7, 3) := by decide +kernel
theorem dX5_measures_20 : decode (mC mX5_measures) 20 = .ok (.iconst 0, 1) := by decide +kernel
theorem dX5_measures_21 : decode (mC mX5_measures) 21 = .ok (.goto 5, 3) := by decide +kernel
theorem dX5_measures_24 : decode (mC mX5_measures) 24 = .ok (.bipush 99, 2) := by decide +kernel
theorem dX5_measures_26 : decode (mC mX5_measures) 26 = .ok (.iastore, 1) := by decide +kernel
theorem dX5_measures_27 : decode (mC mX5_measures) 27 = .ok (.iinc 2 1, 3) := by decide +kernel
theorem dX5_measures_30 : decode (mC mX5_measures) 30 = .ok (.goto (-28), 3) := by decide +kernel
theorem dX5_measures_33 : decode (mC mX5_measures) 33 = .ok (.iconst 0, 1) := by decide +kernel
theorem dX5_measures_34 : decode (mC mX5_measures) 34 = .ok (.istore_n 2, 1) := by decide +kernel
theorem dX5_measures_35 : decode (mC mX5_measures) 35 = .ok (.iload_n 2, 1) := by decide +kernel
theorem dX5_measures_36 : decode (mC mX5_measures) 36 = .ok (.aload_n 1, 1) := by decide +kernel
theorem dX5_measures_37 : decode (mC mX5_measures) 37 = .ok (.iconst 0, 1) := by decide +kernel
theorem dX5_measures_38 : decode (mC mX5_measures) 38 = .ok (.iaload, 1) := by decide +kernel
theorem dX5_measures_39 : decode (mC mX5_measures) 39 = .ok (.if_icmp .ge 33, 3) := by decide +kernel
theorem dX5_measures_42 : decode (mC mX5_measures) 42 = .ok (.aload_n 0, 1) := by decide +kernel
theorem dX5_measures_43 : decode (mC mX5_measures) 43 = .ok (.getfield 22, 3) := by decide +kernel
theorem dX5_measures_46 : decode (mC mX5_measures) 46 = .ok (.bipush 8, 2) := by decide +kernel
theorem dX5_measures_48 : decode (mC mX5_measures) 48 = .ok (.aload_n 1, 1) := by decide +kernel
theorem dX5_measures_49 : decode (mC mX5_measures) 49 = .ok (.iload_n 2, 1) := by decide +kernel
theorem dX5_measures_50 : decode (mC mX5_measures) 50 = .ok (.iconst 2, 1) := by decide +kernel
theorem dX5_measures_51 : decode (mC mX5_measures) 51 = .ok (.invokestatic 55, 3) := by decide +kernel
theorem dX5_measures_54 : decode (mC mX5_measures) 54 = .ok (.iaload, 1) := by decide +kernel
theorem dX5_measures_55 : decode (mC mX5_measures) 55 = .ok (.imul, 1) := by decide +kernel
theorem dX5_measures_56 : decode (mC mX5_measures) 56 = .ok (.aload_n 1, 1) := by decide +kernel
theorem dX5_measures_57 : decode (mC mX5_measures) 57 = .ok (.iload_n 2, 1) := by decide +kernel
theorem dX5_measures_58 : decode (mC mX5_measures) 58 = .ok (.iconst 3, 1) := by decide +kernel
theorem dX5_measures_59 : decode (mC mX5_measures) 59 = .ok (.invokestatic 55, 3) := by decide +kernel
theorem dX5_measures_62 : decode (mC mX5_measures) 62 = .ok (.iaload, 1) := by decide +kernel
theorem dX5_measures_63 : decode (mC mX5_measures) 63 = .ok (.iadd, 1) := by decide +kernel
theorem dX5_measures_64 : decode (mC mX5_measures) 64 = .ok (.iconst 1, 1) := by decide +kernel
theorem dX5_measures_65 : decode (mC mX5_measures) 65 = .ok (.iastore, 1) := by decide +kernel
theorem dX5_measures_66 : decode (mC mX5_measures) 66 = .ok (.iinc 2 1, 3) := by decide +kernel
theorem dX5_measures_69 : decode (mC mX5_measures) 69 = .ok (.goto (-34), 3) := by decide +kernel
theorem dX5_measures_72 : decode (mC mX5_measures) 72 = .ok (.iconst 0, 1) := by decide +kernel
theorem dX5_measures_73 : decode (mC mX5_measures) 73 = .ok (.istore_n 2, 1) := by decide +kernel
theorem dX5_measures_74 : decode (mC mX5_measures) 74 = .ok (.iload_n 2, 1) := by decide +kernel
theorem dX5_measures_75 : decode (mC mX5_measures) 75 = .ok (.bipush 8, 2) := by decide +kernel
theorem dX5_measures_77 : decode (mC mX5_measures) 77 = .ok (.if_icmp .ge 90, 3) := by decide +kernel
theorem dX5_measures_80 : decode (mC mX5_measures) 80 = .ok (.iconst 0, 1) := by decide +kernel
theorem dX5_measures_81 : decode (mC mX5_measures) 81 = .ok (.istore_n 3, 1) := by decide +kernel
theorem dX5_measures_82 : decode (mC mX5_measures) 82 = .ok (.iload_n 3, 1) := by decide +kernel
theorem dX5_measures_83 : decode (mC mX5_measures) 83 = .ok (.bipush 8, 2) := by decide +kernel
theorem dX5_measures_85 : decode (mC mX5_measures) 85 = .ok (.if_icmp .ge 76, 3) := by decide +kernel
theorem dX5_measures_88 : decode (mC mX5_measures) 88 = .ok (.iconst 0, 1) := by decide +kernel
theorem dX5_measures_89 : decode (mC mX5_measures) 89 = .ok (.istore 4, 2) := by decide +kernel
theorem dX5_measures_91 : decode (mC mX5_measures) 91 = .ok (.iload 4, 2) := by decide +kernel
theorem dX5_measures_93 : decode (mC mX5_measures) 93 = .ok (.bipush 8, 2) := by decide +kernel
theorem dX5_measures_95 : decode (mC mX5_measures) 95 = .ok (.if_icmp .ge 60, 3) := by decide +kernel
theorem dX5_measures_98 : decode (mC mX5_measures) 98 = .ok (.aload_n 0, 1) := by decide +kernel
theorem dX5_measures_99 : decode (mC mX5_measures) 99 = .ok (.getfield 22, 3) := by decide +kernel
theorem dX5_measures_102 : decode (mC mX5_measures) 102 = .ok (.bipush 8, 2) := by decide +kernel
theorem dX5_measures_104 : decode (mC mX5_measures) 104 = .ok (.iload_n 3, 1) := by decide +kernel
theorem dX5_measures_105 : decode (mC mX5_measures) 105 = .ok (.imul, 1) := by decide +kernel
theorem dX5_measures_106 : decode (mC mX5_measures) 106 = .ok (.iload 4, 2) := by decide +kernel
theorem dX5_measures_108 : decode (mC mX5_measures) 108 = .ok (.iadd, 1) := by decide +kernel
theorem dX5_measures_109 : decode (mC mX5_measures) 109 = .ok (.aload_n 0, 1) := by decide +kernel
theorem dX5_measures_110 : decode (mC mX5_measures) 110 = .ok (.getfield 22, 3) := by decide +kernel
theorem dX5_measures_113 : decode (mC mX5_measures) 113 = .ok (.bipush 8, 2) := by decide +kernel
theorem dX5_measures_115 : decode (mC mX5_measures) 115 = .ok (.iload_n 3, 1) := by decide +kernel
theorem dX5_measures_116 : decode (mC mX5_measures) 116 = .ok (.imul, 1) := by decide +kernel
theorem dX5_measures_117 : decode (mC mX5_measures) 117 = .ok (.iload 4, 2) := by decide +kernel
theorem dX5_measures_119 : decode (mC mX5_measures) 119 = .ok (.iadd, 1) := by decide +kernel
theorem dX5_measures_120 : decode (mC mX5_measures) 120 = .ok (.iaload, 1) := by decide +kernel
theorem dX5_measures_121 : decode (mC mX5_measures) 121 = .ok (.aload_n 0, 1) := by decide +kernel
theorem dX5_measures_122 : decode (mC mX5_measures) 122 = .ok (.getfield 22, 3) := by decide +kernel
theorem dX5_measures_125 : decode (mC mX5_measures) 125 = .ok (.bipush 8, 2) := by decide +kernel
theorem dX5_measures_127 : decode (mC mX5_measures) 127 = .ok (.iload_n 3, 1) := by decide +kernel
theorem dX5_measures_128 : decode (mC mX5_measures) 128 = .ok (.imul, 1) := by decide +kernel
theorem dX5_measures_129 : decode (mC mX5_measures) 129 = .ok (.iload_n 2, 1) := by decide +kernel
theorem dX5_measures_130 : decode (mC mX5_measures) 130 = .ok (.iadd, 1) := by decide +kernel
theorem dX5_measures_131 : decode (mC mX5_measures) 131 = .ok (.iaload, 1) := by decide +kernel
theorem dX5_measures_132 : decode (mC mX5_measures) 132 = .ok (.aload_n 0, 1) := by decide +kernel
theorem dX5_measures_133 : decode (mC mX5_measures) 133 = .ok (.getfield 22, 3) := by decide +kernel
theorem dX5_measures_136 : decode (mC mX5_measures) 136 = .ok (.bipush 8, 2) := by decide +kernel
theorem dX5_measures_138 : decode (mC mX5_measures) 138 = .ok (.iload_n 2, 1) := by decide +kernel
theorem dX5_measures_139 : decode (mC mX5_measures) 139 = .ok (.imul, 1) := by decide +kernel
theorem dX5_measures_140 : decode (mC mX5_measures) 140 = .ok (.iload 4, 2) := by decide +kernel
theorem dX5_measures_142 : decode (mC mX5_measures) 142 = .ok (.iadd, 1) := by decide +kernel
theorem dX5_measures_143 : decode (mC mX5_measures) 143 = .ok (.iaload, 1) := by decide +kernel
theorem dX5_measures_144 : decode (mC mX5_measures) 144 = .ok (.iadd, 1) := by decide +kernel
theorem dX5_measures_145 : decode (mC mX5_measures) 145 = .ok (.invokestatic 66, 3) := by decide +kernel
theorem dX5_measures_148 : decode (mC mX5_measures) 148 = .ok (.iastore, 1) := by decide +kernel
theorem dX5_measures_149 : decode (mC mX5_measures) 149 = .ok (.iinc 4 1, 3) := by decide +kernel
theorem dX5_measures_152 : decode (mC mX5_measures) 152 = .ok (.goto (-61), 3) := by decide +kernel
theorem dX5_measures_155 : decode (mC mX5_measures) 155 = .ok (.iinc 3 1, 3) := by decide +kernel
theorem dX5_measures_158 : decode (mC mX5_measures) 158 = .ok (.goto (-76), 3) := by decide +kernel
theorem dX5_measures_161 : decode (mC mX5_measures) 161 = .ok (.iinc 2 1, 3) := by decide +kernel
theorem dX5_measures_164 : decode (mC mX5_measures) 164 = .ok (.goto (-90), 3) := by decide +kernel
theorem dX5_measures_167 : decode (mC mX5_measures) 167 = .ok (.return_, 1) := by decide +kernel
theorem dX5_wayOf_0 : decode (mC mX5_wayOf) 0 = .ok (.aload_n 0, 1) := by decide +kernel
theorem dX5_wayOf_1 : decode (mC mX5_wayOf) 1 = .ok (.getfield 22, 3) := by decide +kernel
theorem dX5_wayOf_4 : decode (mC mX5_wayOf) 4 = .ok (.bipush 8, 2) := by decide +kernel
theorem dX5_wayOf_6 : decode (mC mX5_wayOf) 6 = .ok (.iload_n 1, 1) := by decide +kernel
theorem dX5_wayOf_7 : decode (mC mX5_wayOf) 7 = .ok (.imul, 1) := by decide +kernel
theorem dX5_wayOf_8 : decode (mC mX5_wayOf) 8 = .ok (.iload_n 2, 1) := by decide +kernel
theorem dX5_wayOf_9 : decode (mC mX5_wayOf) 9 = .ok (.iadd, 1) := by decide +kernel
theorem dX5_wayOf_10 : decode (mC mX5_wayOf) 10 = .ok (.iaload, 1) := by decide +kernel
theorem dX5_wayOf_11 : decode (mC mX5_wayOf) 11 = .ok (.ireturn, 1) := by decide +kernel
theorem dX5_isOnWay_0 : decode (mC mX5_isOnWay) 0 = .ok (.aload_n 1, 1) := by decide +kernel
theorem dX5_isOnWay_1 : decode (mC mX5_isOnWay) 1 = .ok (.iload_n 2, 1) := by decide +kernel
theorem dX5_isOnWay_2 : decode (mC mX5_isOnWay) 2 = .ok (.iconst 2, 1) := by decide +kernel
theorem dX5_isOnWay_3 : decode (mC mX5_isOnWay) 3 = .ok (.invokestatic 55, 3) := by decide +kernel
theorem dX5_isOnWay_6 : decode (mC mX5_isOnWay) 6 = .ok (.iaload, 1) := by decide +kernel
theorem dX5_isOnWay_7 : decode (mC mX5_isOnWay) 7 = .ok (.iload_n 3, 1) := by decide +kernel
theorem dX5_isOnWay_8 : decode (mC mX5_isOnWay) 8 = .ok (.if_icmp .ne 44, 3) := by decide +kernel
theorem dX5_isOnWay_11 : decode (mC mX5_isOnWay) 11 = .ok (.aload_n 0, 1) := by decide +kernel
theorem dX5_isOnWay_12 : decode (mC mX5_isOnWay) 12 = .ok (.iload_n 3, 1) := by decide +kernel
theorem dX5_isOnWay_13 : decode (mC mX5_isOnWay) 13 = .ok (.iload 4, 2) := by decide +kernel
theorem dX5_isOnWay_15 : decode (mC mX5_isOnWay) 15 = .ok (.invokevirtual 69, 3) := by decide +kernel
theorem dX5_isOnWay_18 : decode (mC mX5_isOnWay) 18 = .ok (.bipush 99, 2) := by decide +kernel
theorem dX5_isOnWay_20 : decode (mC mX5_isOnWay) 20 = .ok (.if_icmp .ge 32, 3) := by decide +kernel
theorem dX5_isOnWay_23 : decode (mC mX5_isOnWay) 23 = .ok (.aload_n 0, 1) := by decide +kernel
theorem dX5_isOnWay_24 : decode (mC mX5_isOnWay) 24 = .ok (.aload_n 1, 1) := by decide +kernel
theorem dX5_isOnWay_25 : decode (mC mX5_isOnWay) 25 = .ok (.iload_n 2, 1) := by decide +kernel
theorem dX5_isOnWay_26 : decode (mC mX5_isOnWay) 26 = .ok (.iconst 3, 1) := by decide +kernel
theorem dX5_isOnWay_27 : decode (mC mX5_isOnWay) 27 = .ok (.invokestatic 55, 3) := by decide +kernel
theorem dX5_isOnWay_30 : decode (mC mX5_isOnWay) 30 = .ok (.iaload, 1) := by decide +kernel
theorem dX5_isOnWay_31 : decode (mC mX5_isOnWay) 31 = .ok (.iload 4, 2) := by decide +kernel
theorem dX5_isOnWay_33 : decode (mC mX5_isOnWay) 33 = .ok (.invokevirtual 69, 3) := by decide +kernel
theorem dX5_isOnWay_36 : decode (mC mX5_isOnWay) 36 = .ok (.aload_n 0, 1) := by decide +kernel
theorem dX5_isOnWay_37 : decode (mC mX5_isOnWay) 37 = .ok (.iload_n 3, 1) := by decide +kernel
theorem dX5_isOnWay_38 : decode (mC mX5_isOnWay) 38 = .ok (.iload 4, 2) := by decide +kernel
theorem dX5_isOnWay_40 : decode (mC mX5_isOnWay) 40 = .ok (.invokevirtual 69, 3) := by decide +kernel
theorem dX5_isOnWay_43 : decode (mC mX5_isOnWay) 43 = .ok (.iconst 1, 1) := by decide +kernel
theorem dX5_isOnWay_44 : decode (mC mX5_isOnWay) 44 = .ok (.isub, 1) := by decide +kernel
theorem dX5_isOnWay_45 : decode (mC mX5_isOnWay) 45 = .ok (.if_icmp .ne 7, 3) := by decide +kernel
theorem dX5_isOnWay_48 : decode (mC mX5_isOnWay) 48 = .ok (.iconst 1, 1) := by decide +kernel
theorem dX5_isOnWay_49 : decode (mC mX5_isOnWay) 49 = .ok (.goto 4, 3) := by decide +kernel
theorem dX5_isOnWay_52 : decode (mC mX5_isOnWay) 52 = .ok (.iconst 0, 1) := by decide +kernel
theorem dX5_isOnWay_53 : decode (mC mX5_isOnWay) 53 = .ok (.ireturn, 1) := by decide +kernel
theorem dX5_doorOf_0 : decode (mC mX5_doorOf) 0 = .ok (.aload_n 1, 1) := by decide +kernel
theorem dX5_doorOf_1 : decode (mC mX5_doorOf) 1 = .ok (.iload_n 2, 1) := by decide +kernel
theorem dX5_doorOf_2 : decode (mC mX5_doorOf) 2 = .ok (.iconst 0, 1) := by decide +kernel
theorem dX5_doorOf_3 : decode (mC mX5_doorOf) 3 = .ok (.invokestatic 51, 3) := by decide +kernel
theorem dX5_doorOf_6 : decode (mC mX5_doorOf) 6 = .ok (.iaload, 1) := by decide +kernel
theorem dX5_doorOf_7 : decode (mC mX5_doorOf) 7 = .ok (.istore 4, 2) := by decide +kernel
theorem dX5_doorOf_9 : decode (mC mX5_doorOf) 9 = .ok (.aload_n 1, 1) := by decide +kernel
theorem dX5_doorOf_10 : decode (mC mX5_doorOf) 10 = .ok (.iload_n 2, 1) := by decide +kernel
theorem dX5_doorOf_11 : decode (mC mX5_doorOf) 11 = .ok (.iconst 1, 1) := by decide +kernel
theorem dX5_doorOf_12 : decode (mC mX5_doorOf) 12 = .ok (.invokestatic 51, 3) := by decide +kernel
theorem dX5_doorOf_15 : decode (mC mX5_doorOf) 15 = .ok (.iaload, 1) := by decide +kernel
theorem dX5_doorOf_16 : decode (mC mX5_doorOf) 16 = .ok (.istore 5, 2) := by decide +kernel
theorem dX5_doorOf_18 : decode (mC mX5_doorOf) 18 = .ok (.iconst 0, 1) := by decide +kernel
theorem dX5_doorOf_19 : decode (mC mX5_doorOf) 19 = .ok (.istore 6, 2) := by decide +kernel
theorem dX5_doorOf_21 : decode (mC mX5_doorOf) 21 = .ok (.iload 6, 2) := by decide +kernel
theorem dX5_doorOf_23 : decode (mC mX5_doorOf) 23 = .ok (.aload_n 1, 1) := by decide +kernel
theorem dX5_doorOf_24 : decode (mC mX5_doorOf) 24 = .ok (.iconst 0, 1) := by decide +kernel
theorem dX5_doorOf_25 : decode (mC mX5_doorOf) 25 = .ok (.iaload, 1) := by decide +kernel
theorem dX5_doorOf_26 : decode (mC mX5_doorOf) 26 = .ok (.if_icmp .ge 44, 3) := by decide +kernel
theorem dX5_doorOf_29 : decode (mC mX5_doorOf) 29 = .ok (.iload 4, 2) := by decide +kernel
theorem dX5_doorOf_31 : decode (mC mX5_doorOf) 31 = .ok (.iload 5, 2) := by decide +kernel
theorem dX5_doorOf_33 : decode (mC mX5_doorOf) 33 = .ok (.if_icmp .eq 31, 3) := by decide +kernel
theorem dX5_doorOf_36 : decode (mC mX5_doorOf) 36 = .ok (.aload_n 0, 1) := by decide +kernel
theorem dX5_doorOf_37 : decode (mC mX5_doorOf) 37 = .ok (.aload_n 1, 1) := by decide +kernel
theorem dX5_doorOf_38 : decode (mC mX5_doorOf) 38 = .ok (.iload 6, 2) := by decide +kernel
theorem dX5_doorOf_40 : decode (mC mX5_doorOf) 40 = .ok (.iload 4, 2) := by decide +kernel
theorem dX5_doorOf_42 : decode (mC mX5_doorOf) 42 = .ok (.iload 5, 2) := by decide +kernel
theorem dX5_doorOf_44 : decode (mC mX5_doorOf) 44 = .ok (.invokevirtual 72, 3) := by decide +kernel
theorem dX5_doorOf_47 : decode (mC mX5_doorOf) 47 = .ok (.ifCond .eq 17, 3) := by decide +kernel
theorem dX5_doorOf_50 : decode (mC mX5_doorOf) 50 = .ok (.aload_n 1, 1) := by decide +kernel
theorem dX5_doorOf_51 : decode (mC mX5_doorOf) 51 = .ok (.iload 6, 2) := by decide +kernel
theorem dX5_doorOf_53 : decode (mC mX5_doorOf) 53 = .ok (.iload_n 2, 1) := by decide +kernel
theorem dX5_doorOf_54 : decode (mC mX5_doorOf) 54 = .ok (.iload_n 3, 1) := by decide +kernel
theorem dX5_doorOf_55 : decode (mC mX5_doorOf) 55 = .ok (.invokestatic 76, 3) := by decide +kernel
theorem dX5_doorOf_58 : decode (mC mX5_doorOf) 58 = .ok (.ifCond .eq 6, 3) := by decide +kernel
theorem dX5_doorOf_61 : decode (mC mX5_doorOf) 61 = .ok (.iload 6, 2) := by decide +kernel
theorem dX5_doorOf_63 : decode (mC mX5_doorOf) 63 = .ok (.ireturn, 1) := by decide +kernel
theorem dX5_doorOf_64 : decode (mC mX5_doorOf) 64 = .ok (.iinc 6 1, 3) := by decide +kernel
theorem dX5_doorOf_67 : decode (mC mX5_doorOf) 67 = .ok (.goto (-46), 3) := by decide +kernel
theorem dX5_doorOf_70 : decode (mC mX5_doorOf) 70 = .ok (.bipush (-9), 2) := by decide +kernel
theorem dX5_doorOf_72 : decode (mC mX5_doorOf) 72 = .ok (.ireturn, 1) := by decide +kernel
theorem dX5_hour_0 : decode (mC mX5_hour) 0 = .ok (.aload_n 1, 1) := by decide +kernel
theorem dX5_hour_1 : decode (mC mX5_hour) 1 = .ok (.iconst 2, 1) := by decide +kernel
theorem dX5_hour_2 : decode (mC mX5_hour) 2 = .ok (.dup2, 1) := by decide +kernel
theorem dX5_hour_3 : decode (mC mX5_hour) 3 = .ok (.iaload, 1) := by decide +kernel
theorem dX5_hour_4 : decode (mC mX5_hour) 4 = .ok (.iconst 1, 1) := by decide +kernel
theorem dX5_hour_5 : decode (mC mX5_hour) 5 = .ok (.iadd, 1) := by decide +kernel
theorem dX5_hour_6 : decode (mC mX5_hour) 6 = .ok (.iastore, 1) := by decide +kernel
theorem dX5_hour_7 : decode (mC mX5_hour) 7 = .ok (.iconst 0, 1) := by decide +kernel
theorem dX5_hour_8 : decode (mC mX5_hour) 8 = .ok (.istore_n 2, 1) := by decide +kernel
theorem dX5_hour_9 : decode (mC mX5_hour) 9 = .ok (.iload_n 2, 1) := by decide +kernel
theorem dX5_hour_10 : decode (mC mX5_hour) 10 = .ok (.aload_n 1, 1) := by decide +kernel
theorem dX5_hour_11 : decode (mC mX5_hour) 11 = .ok (.iconst 1, 1) := by decide +kernel
theorem dX5_hour_12 : decode (mC mX5_hour) 12 = .ok (.iaload, 1) := by decide +kernel
theorem dX5_hour_13 : decode (mC mX5_hour) 13 = .ok (.if_icmp .ge 105, 3) := by decide +kernel
theorem dX5_hour_16 : decode (mC mX5_hour) 16 = .ok (.aload_n 1, 1) := by decide +kernel
theorem dX5_hour_17 : decode (mC mX5_hour) 17 = .ok (.iconst 4, 1) := by decide +kernel
theorem dX5_hour_18 : decode (mC mX5_hour) 18 = .ok (.iaload, 1) := by decide +kernel
theorem dX5_hour_19 : decode (mC mX5_hour) 19 = .ok (.iload_n 2, 1) := by decide +kernel
theorem dX5_hour_20 : decode (mC mX5_hour) 20 = .ok (.invokestatic 47, 3) := by decide +kernel
theorem dX5_hour_23 : decode (mC mX5_hour) 23 = .ok (.ifCond .ne 89, 3) := by decide +kernel
theorem dX5_hour_26 : decode (mC mX5_hour) 26 = .ok (.aload_n 1, 1) := by decide +kernel
theorem dX5_hour_27 : decode (mC mX5_hour) 27 = .ok (.iload_n 2, 1) := by decide +kernel
theorem dX5_hour_28 : decode (mC mX5_hour) 28 = .ok (.iconst 0, 1) := by decide +kernel
theorem dX5_hour_29 : decode (mC mX5_hour) 29 = .ok (.invokestatic 51, 3) := by decide +kernel
theorem dX5_hour_32 : decode (mC mX5_hour) 32 = .ok (.iaload, 1) := by decide +kernel
theorem dX5_hour_33 : decode (mC mX5_hour) 33 = .ok (.aload_n 1, 1) := by decide +kernel
theorem dX5_hour_34 : decode (mC mX5_hour) 34 = .ok (.iload_n 2, 1) := by decide +kernel
theorem dX5_hour_35 : decode (mC mX5_hour) 35 = .ok (.iconst 1, 1) := by decide +kernel
theorem dX5_hour_36 : decode (mC mX5_hour) 36 = .ok (.invokestatic 51, 3) := by decide +kernel
theorem dX5_hour_39 : decode (mC mX5_hour) 39 = .ok (.iaload, 1) := by decide +kernel
theorem dX5_hour_40 : decode (mC mX5_hour) 40 = .ok (.if_icmp .ne 6, 3) := by decide +kernel
theorem dX5_hour_43 : decode (mC mX5_hour) 43 = .ok (.goto 69, 3) := by decide +kernel
theorem dX5_hour_46 : decode (mC mX5_hour) 46 = .ok (.aload_n 0, 1) := by decide +kernel
theorem dX5_hour_47 : decode (mC mX5_hour) 47 = .ok (.aload_n 1, 1) := by decide +kernel
theorem dX5_hour_48 : decode (mC mX5_hour) 48 = .ok (.iload_n 2, 1) := by decide +kernel
theorem dX5_hour_49 : decode (mC mX5_hour) 49 = .ok (.aload_n 1, 1) := by decide +kernel
theorem dX5_hour_50 : decode (mC mX5_hour) 50 = .ok (.iconst 2, 1) := by decide +kernel
theorem dX5_hour_51 : decode (mC mX5_hour) 51 = .ok (.iaload, 1) := by decide +kernel
theorem dX5_hour_52 : decode (mC mX5_hour) 52 = .ok (.invokevirtual 79, 3) := by decide +kernel
theorem dX5_hour_55 : decode (mC mX5_hour) 55 = .ok (.istore_n 3, 1) := by decide +kernel
theorem dX5_hour_56 : decode (mC mX5_hour) 56 = .ok (.iload_n 3, 1) := by decide +kernel
theorem dX5_hour_57 : decode (mC mX5_hour) 57 = .ok (.ifCond .lt 34, 3) := by decide +kernel
theorem dX5_hour_60 : decode (mC mX5_hour) 60 = .ok (.aload_n 1, 1) := by decide +kernel
theorem dX5_hour_61 : decode (mC mX5_hour) 61 = .ok (.iload_n 2, 1) := by decide +kernel
theorem dX5_hour_62 : decode (mC mX5_hour) 62 = .ok (.iconst 0, 1) := by decide +kernel
theorem dX5_hour_63 : decode (mC mX5_hour) 63 = .ok (.invokestatic 51, 3) := by decide +kernel
theorem dX5_hour_66 : decode (mC mX5_hour) 66 = .ok (.aload_n 1, 1) := by decide +kernel
theorem dX5_hour_67 : decode (mC mX5_hour) 67 = .ok (.iload_n 3, 1) := by decide +kernel
theorem dX5_hour_68 : decode (mC mX5_hour) 68 = .ok (.iconst 3, 1) := by decide +kernel
theorem dX5_hour_69 : decode (mC mX5_hour) 69 = .ok (.invokestatic 55, 3) := by decide +kernel
theorem dX5_hour_72 : decode (mC mX5_hour) 72 = .ok (.iaload, 1) := by decide +kernel
theorem dX5_hour_73 : decode (mC mX5_hour) 73 = .ok (.iastore, 1) := by decide +kernel
theorem dX5_hour_74 : decode (mC mX5_hour) 74 = .ok (.aload_n 1, 1) := by decide +kernel
theorem dX5_hour_75 : decode (mC mX5_hour) 75 = .ok (.iconst 3, 1) := by decide +kernel
theorem dX5_hour_76 : decode (mC mX5_hour) 76 = .ok (.sipush 9999, 3) := by decide +kernel
theorem dX5_hour_79 : decode (mC mX5_hour) 79 = .ok (.aload_n 1, 1) := by decide +kernel
theorem dX5_hour_80 : decode (mC mX5_hour) 80 = .ok (.iconst 3, 1) := by decide +kernel
theorem dX5_hour_81 : decode (mC mX5_hour) 81 = .ok (.iaload, 1) := by decide +kernel
theorem dX5_hour_82 : decode (mC mX5_hour) 82 = .ok (.iconst 1, 1) := by decide +kernel
theorem dX5_hour_83 : decode (mC mX5_hour) 83 = .ok (.iadd, 1) := by decide +kernel
theorem dX5_hour_84 : decode (mC mX5_hour) 84 = .ok (.invokestatic 66, 3) := by decide +kernel
theorem dX5_hour_87 : decode (mC mX5_hour) 87 = .ok (.iastore, 1) := by decide +kernel
theorem dX5_hour_88 : decode (mC mX5_hour) 88 = .ok (.goto 24, 3) := by decide +kernel
theorem dX5_hour_91 : decode (mC mX5_hour) 91 = .ok (.aload_n 1, 1) := by decide +kernel
theorem dX5_hour_92 : decode (mC mX5_hour) 92 = .ok (.iload_n 2, 1) := by decide +kernel
theorem dX5_hour_93 : decode (mC mX5_hour) 93 = .ok (.iconst 2, 1) := by decide +kernel
theorem dX5_hour_94 : decode (mC mX5_hour) 94 = .ok (.invokestatic 51, 3) := by decide +kernel
theorem dX5_hour_97 : decode (mC mX5_hour) 97 = .ok (.iaload, 1) := by decide +kernel
theorem dX5_hour_98 : decode (mC mX5_hour) 98 = .ok (.ifCond .le 14, 3) := by decide +kernel
theorem dX5_hour_101 : decode (mC mX5_hour) 101 = .ok (.aload_n 1, 1) := by decide +kernel
theorem dX5_hour_102 : decode (mC mX5_hour) 102 = .ok (.iload_n 2, 1) := by decide +kernel
theorem dX5_hour_103 : decode (mC mX5_hour) 103 = .ok (.iconst 2, 1) := by decide +kernel
theorem dX5_hour_104 : decode (mC mX5_hour) 104 = .ok (.invokestatic 51, 3) := by decide +kernel
theorem dX5_hour_107 : decode (mC mX5_hour) 107 = .ok (.dup2, 1) := by decide +kernel
theorem dX5_hour_108 : decode (mC mX5_hour) 108 = .ok (.iaload, 1) := by decide +kernel
theorem dX5_hour_109 : decode (mC mX5_hour) 109 = .ok (.iconst 1, 1) := by decide +kernel
theorem dX5_hour_110 : decode (mC mX5_hour) 110 = .ok (.isub, 1) := by decide +kernel
theorem dX5_hour_111 : decode (mC mX5_hour) 111 = .ok (.iastore, 1) := by decide +kernel
theorem dX5_hour_112 : decode (mC mX5_hour) 112 = .ok (.iinc 2 1, 3) := by decide +kernel
theorem dX5_hour_115 : decode (mC mX5_hour) 115 = .ok (.goto (-106), 3) := by decide +kernel
theorem dX5_hour_118 : decode (mC mX5_hour) 118 = .ok (.return_, 1) := by decide +kernel
theorem dX5_hoursOn_0 : decode (mC mX5_hoursOn) 0 = .ok (.aload_n 0, 1) := by decide +kernel
theorem dX5_hoursOn_1 : decode (mC mX5_hoursOn) 1 = .ok (.aload_n 1, 1) := by decide +kernel
theorem dX5_hoursOn_2 : decode (mC mX5_hoursOn) 2 = .ok (.invokevirtual 83, 3) := by decide +kernel
theorem dX5_hoursOn_5 : decode (mC mX5_hoursOn) 5 = .ok (.iconst 0, 1) := by decide +kernel
theorem dX5_hoursOn_6 : decode (mC mX5_hoursOn) 6 = .ok (.istore_n 3, 1) := by decide +kernel
theorem dX5_hoursOn_7 : decode (mC mX5_hoursOn) 7 = .ok (.iload_n 3, 1) := by decide +kernel
theorem dX5_hoursOn_8 : decode (mC mX5_hoursOn) 8 = .ok (.iload_n 2, 1) := by decide +kernel
theorem dX5_hoursOn_9 : decode (mC mX5_hoursOn) 9 = .ok (.if_icmp .ge 14, 3) := by decide +kernel
theorem dX5_hoursOn_12 : decode (mC mX5_hoursOn) 12 = .ok (.aload_n 0, 1) := by decide +kernel
theorem dX5_hoursOn_13 : decode (mC mX5_hoursOn) 13 = .ok (.aload_n 1, 1) := by decide +kernel
theorem dX5_hoursOn_14 : decode (mC mX5_hoursOn) 14 = .ok (.invokevirtual 87, 3) := by decide +kernel
theorem dX5_hoursOn_17 : decode (mC mX5_hoursOn) 17 = .ok (.iinc 3 1, 3) := by decide +kernel
theorem dX5_hoursOn_20 : decode (mC mX5_hoursOn) 20 = .ok (.goto (-13), 3) := by decide +kernel
theorem dX5_hoursOn_23 : decode (mC mX5_hoursOn) 23 = .ok (.return_, 1) := by decide +kernel
theorem dX5_homeIn_0 : decode (mC mX5_homeIn) 0 = .ok (.iconst 0, 1) := by decide +kernel
theorem dX5_homeIn_1 : decode (mC mX5_homeIn) 1 = .ok (.istore_n 1, 1) := by decide +kernel
theorem dX5_homeIn_2 : decode (mC mX5_homeIn) 2 = .ok (.iconst 0, 1) := by decide +kernel
theorem dX5_homeIn_3 : decode (mC mX5_homeIn) 3 = .ok (.istore_n 2, 1) := by decide +kernel
theorem dX5_homeIn_4 : decode (mC mX5_homeIn) 4 = .ok (.iload_n 2, 1) := by decide +kernel
theorem dX5_homeIn_5 : decode (mC mX5_homeIn) 5 = .ok (.aload_n 0, 1) := by decide +kernel
theorem dX5_homeIn_6 : decode (mC mX5_homeIn) 6 = .ok (.iconst 1, 1) := by decide +kernel
theorem dX5_homeIn_7 : decode (mC mX5_homeIn) 7 = .ok (.iaload, 1) := by decide +kernel
theorem dX5_homeIn_8 : decode (mC mX5_homeIn) 8 = .ok (.if_icmp .ge 46, 3) := by decide +kernel
theorem dX5_homeIn_11 : decode (mC mX5_homeIn) 11 = .ok (.iload_n 1, 1) := by decide +kernel
theorem dX5_homeIn_12 : decode (mC mX5_homeIn) 12 = .ok (.aload_n 0, 1) := by decide +kernel
theorem dX5_homeIn_13 : decode (mC mX5_homeIn) 13 = .ok (.iconst 4, 1) := by decide +kernel
theorem dX5_homeIn_14 : decode (mC mX5_homeIn) 14 = .ok (.iaload, 1) := by decide +kernel
theorem dX5_homeIn_15 : decode (mC mX5_homeIn) 15 = .ok (.iload_n 2, 1) := by decide +kernel
theorem dX5_homeIn_16 : decode (mC mX5_homeIn) 16 = .ok (.invokestatic 47, 3) := by decide +kernel
theorem dX5_homeIn_19 : decode (mC mX5_homeIn) 19 = .ok (.ifCond .ne 26, 3) := by decide +kernel
theorem dX5_homeIn_22 : decode (mC mX5_homeIn) 22 = .ok (.aload_n 0, 1) := by decide +kernel
theorem dX5_homeIn_23 : decode (mC mX5_homeIn) 23 = .ok (.iload_n 2, 1) := by decide +kernel
theorem dX5_homeIn_24 : decode (mC mX5_homeIn) 24 = .ok (.iconst 0, 1) := by decide +kernel
theorem dX5_homeIn_25 : decode (mC mX5_homeIn) 25 = .ok (.invokestatic 51, 3) := by decide +kernel
theorem dX5_homeIn_28 : decode (mC mX5_homeIn) 28 = .ok (.iaload, 1) := by decide +kernel
theorem dX5_homeIn_29 : decode (mC mX5_homeIn) 29 = .ok (.aload_n 0, 1) := by decide +kernel
theorem dX5_homeIn_30 : decode (mC mX5_homeIn) 30 = .ok (.iload_n 2, 1) := by decide +kernel
theorem dX5_homeIn_31 : decode (mC mX5_homeIn) 31 = .ok (.iconst 1, 1) := by decide +kernel
theorem dX5_homeIn_32 : decode (mC mX5_homeIn) 32 = .ok (.invokestatic 51, 3) := by decide +kernel
theorem dX5_homeIn_35 : decode (mC mX5_homeIn) 35 = .ok (.iaload, 1) := by decide +kernel
theorem dX5_homeIn_36 : decode (mC mX5_homeIn) 36 = .ok (.if_icmp .ne 9, 3) := by decide +kernel
theorem dX5_homeIn_39 : decode (mC mX5_homeIn) 39 = .ok (.iconst 1, 1) := by decide +kernel
theorem dX5_homeIn_40 : decode (mC mX5_homeIn) 40 = .ok (.iload_n 2, 1) := by decide +kernel
theorem dX5_homeIn_41 : decode (mC mX5_homeIn) 41 = .ok (.ishl, 1) := by decide +kernel
theorem dX5_homeIn_42 : decode (mC mX5_homeIn) 42 = .ok (.goto 4, 3) := by decide +kernel
theorem dX5_homeIn_45 : decode (mC mX5_homeIn) 45 = .ok (.iconst 0, 1) := by decide +kernel
theorem dX5_homeIn_46 : decode (mC mX5_homeIn) 46 = .ok (.ior, 1) := by decide +kernel
theorem dX5_homeIn_47 : decode (mC mX5_homeIn) 47 = .ok (.istore_n 1, 1) := by decide +kernel
theorem dX5_homeIn_48 : decode (mC mX5_homeIn) 48 = .ok (.iinc 2 1, 3) := by decide +kernel
theorem dX5_homeIn_51 : decode (mC mX5_homeIn) 51 = .ok (.goto (-47), 3) := by decide +kernel
theorem dX5_homeIn_54 : decode (mC mX5_homeIn) 54 = .ok (.iload_n 1, 1) := by decide +kernel
theorem dX5_homeIn_55 : decode (mC mX5_homeIn) 55 = .ok (.ireturn, 1) := by decide +kernel
theorem dX5_letter_0 : decode (mC mX5_letter) 0 = .ok (.iload_n 1, 1) := by decide +kernel
theorem dX5_letter_1 : decode (mC mX5_letter) 1 = .ok (.ifCond .ge 10, 3) := by decide +kernel
theorem dX5_letter_4 : decode (mC mX5_letter) 4 = .ok (.aload_n 0, 1) := by decide +kernel
theorem dX5_letter_5 : decode (mC mX5_letter) 5 = .ok (.bipush (-4), 2) := by decide +kernel
theorem dX5_letter_7 : decode (mC mX5_letter) 7 = .ok (.invokevirtual 39, 3) := by decide +kernel
theorem dX5_letter_10 : decode (mC mX5_letter) 10 = .ok (.ireturn, 1) := by decide +kernel
theorem dX5_letter_11 : decode (mC mX5_letter) 11 = .ok (.iload_n 1, 1) := by decide +kernel
theorem dX5_letter_12 : decode (mC mX5_letter) 12 = .ok (.sipush 255, 3) := by decide +kernel
theorem dX5_letter_15 : decode (mC mX5_letter) 15 = .ok (.if_icmp .gt 12, 3) := by decide +kernel
theorem dX5_letter_18 : decode (mC mX5_letter) 18 = .ok (.aload_n 0, 1) := by decide +kernel
theorem dX5_letter_19 : decode (mC mX5_letter) 19 = .ok (.getfield 90, 3) := by decide +kernel
theorem dX5_letter_22 : decode (mC mX5_letter) 22 = .ok (.bipush 96, 2) := by decide +kernel
theorem dX5_letter_24 : decode (mC mX5_letter) 24 = .ok (.if_icmp .ne 10, 3) := by decide +kernel
theorem dX5_letter_27 : decode (mC mX5_letter) 27 = .ok (.aload_n 0, 1) := by decide +kernel
theorem dX5_letter_28 : decode (mC mX5_letter) 28 = .ok (.bipush (-6), 2) := by decide +kernel
theorem dX5_letter_30 : decode (mC mX5_letter) 30 = .ok (.invokevirtual 39, 3) := by decide +kernel
theorem dX5_letter_33 : decode (mC mX5_letter) 33 = .ok (.ireturn, 1) := by decide +kernel
theorem dX5_letter_34 : decode (mC mX5_letter) 34 = .ok (.aload_n 0, 1) := by decide +kernel
theorem dX5_letter_35 : decode (mC mX5_letter) 35 = .ok (.getfield 25, 3) := by decide +kernel
theorem dX5_letter_38 : decode (mC mX5_letter) 38 = .ok (.aload_n 0, 1) := by decide +kernel
theorem dX5_letter_39 : decode (mC mX5_letter) 39 = .ok (.getfield 90, 3) := by decide +kernel
theorem dX5_letter_42 : decode (mC mX5_letter) 42 = .ok (.iload_n 1, 1) := by decide +kernel
theorem dX5_letter_43 : decode (mC mX5_letter) 43 = .ok (.iastore, 1) := by decide +kernel
theorem dX5_letter_44 : decode (mC mX5_letter) 44 = .ok (.aload_n 0, 1) := by decide +kernel
theorem dX5_letter_45 : decode (mC mX5_letter) 45 = .ok (.dup, 1) := by decide +kernel
theorem dX5_letter_46 : decode (mC mX5_letter) 46 = .ok (.getfield 90, 3) := by decide +kernel
theorem dX5_letter_49 : decode (mC mX5_letter) 49 = .ok (.iconst 1, 1) := by decide +kernel
theorem dX5_letter_50 : decode (mC mX5_letter) 50 = .ok (.iadd, 1) := by decide +kernel
theorem dX5_letter_51 : decode (mC mX5_letter) 51 = .ok (.putfield 90, 3) := by decide +kernel
theorem dX5_letter_54 : decode (mC mX5_letter) 54 = .ok (.aload_n 0, 1) := by decide +kernel
theorem dX5_letter_55 : decode (mC mX5_letter) 55 = .ok (.getfield 90, 3) := by decide +kernel
theorem dX5_letter_58 : decode (mC mX5_letter) 58 = .ok (.ireturn, 1) := by decide +kernel
theorem dX5_here_0 : decode (mC mX5_here) 0 = .ok (.aload_n 0, 1) := by decide +kernel
theorem dX5_here_1 : decode (mC mX5_here) 1 = .ok (.getfield 94, 3) := by decide +kernel
theorem dX5_here_4 : decode (mC mX5_here) 4 = .ok (.aload_n 0, 1) := by decide +kernel
theorem dX5_here_5 : decode (mC mX5_here) 5 = .ok (.getfield 90, 3) := by decide +kernel
theorem dX5_here_8 : decode (mC mX5_here) 8 = .ok (.if_icmp .ge 15, 3) := by decide +kernel
theorem dX5_here_11 : decode (mC mX5_here) 11 = .ok (.aload_n 0, 1) := by decide +kernel
theorem dX5_here_12 : decode (mC mX5_here) 12 = .ok (.getfield 25, 3) := by decide +kernel
theorem dX5_here_15 : decode (mC mX5_here) 15 = .ok (.aload_n 0, 1) := by decide +kernel
theorem dX5_here_16 : decode (mC mX5_here) 16 = .ok (.getfield 94, 3) := by decide +kernel
theorem dX5_here_19 : decode (mC mX5_here) 19 = .ok (.iaload, 1) := by decide +kernel
theorem dX5_here_20 : decode (mC mX5_here) 20 = .ok (.goto 4, 3) := by decide +kernel
theorem dX5_here_23 : decode (mC mX5_here) 23 = .ok (.iconst (-1), 1) := by decide +kernel
theorem dX5_here_24 : decode (mC mX5_here) 24 = .ok (.ireturn, 1) := by decide +kernel
theorem dX5_readsNumber_0 : decode (mC mX5_readsNumber) 0 = .ok (.aload_n 0, 1) := by decide +kernel
theorem dX5_readsNumber_1 : decode (mC mX5_readsNumber) 1 = .ok (.getfield 34, 3) := by decide +kernel
theorem dX5_readsNumber_4 : decode (mC mX5_readsNumber) 4 = .ok (.iload_n 1, 1) := by decide +kernel
theorem dX5_readsNumber_5 : decode (mC mX5_readsNumber) 5 = .ok (.iconst 0, 1) := by decide +kernel
theorem dX5_readsNumber_6 : decode (mC mX5_readsNumber) 6 = .ok (.iastore, 1) := by decide +kernel
theorem dX5_readsNumber_7 : decode (mC mX5_readsNumber) 7 = .ok (.iconst 0, 1) := by decide +kernel
theorem dX5_readsNumber_8 : decode (mC mX5_readsNumber) 8 = .ok (.istore_n 3, 1) := by decide +kernel
theorem dX5_readsNumber_9 : decode (mC mX5_readsNumber) 9 = .ok (.iload_n 3, 1) := by decide +kernel
theorem dX5_readsNumber_10 : decode (mC mX5_readsNumber) 10 = .ok (.iload_n 2, 1) := by decide +kernel
theorem dX5_readsNumber_11 : decode (mC mX5_readsNumber) 11 = .ok (.if_icmp .ge 58, 3) := by decide +kernel
theorem dX5_readsNumber_14 : decode (mC mX5_readsNumber) 14 = .ok (.aload_n 0, 1) := by decide +kernel
theorem dX5_readsNumber_15 : decode (mC mX5_readsNumber) 15 = .ok (.invokevirtual 97, 3) := by decide +kernel
theorem dX5_readsNumber_18 : decode (mC mX5_readsNumber) 18 = .ok (.bipush 48, 2) := by decide +kernel
theorem dX5_readsNumber_20 : decode (mC mX5_readsNumber) 20 = .ok (.bipush 57, 2) := by decide +kernel
theorem dX5_readsNumber_22 : decode (mC mX5_readsNumber) 22 = .ok (.invokestatic 43, 3) := by decide +kernel
theorem dX5_readsNumber_25 : decode (mC mX5_readsNumber) 25 = .ok (.ifCond .ne 5, 3) := by decide +kernel
theorem dX5_readsNumber_28 : decode (mC mX5_readsNumber) 28 = .ok (.iconst 0, 1) := by decide +kernel
theorem dX5_readsNumber_29 : decode (mC mX5_readsNumber) 29 = .ok (.ireturn, 1) := by decide +kernel
theorem dX5_readsNumber_30 : decode (mC mX5_readsNumber) 30 = .ok (.aload_n 0, 1) := by decide +kernel
theorem dX5_readsNumber_31 : decode (mC mX5_readsNumber) 31 = .ok (.getfield 34, 3) := by decide +kernel
theorem dX5_readsNumber_34 : decode (mC mX5_readsNumber) 34 = .ok (.iload_n 1, 1) := by decide +kernel
theorem dX5_readsNumber_35 : decode (mC mX5_readsNumber) 35 = .ok (.bipush 10, 2) := by decide +kernel
theorem dX5_readsNumber_37 : decode (mC mX5_readsNumber) 37 = .ok (.aload_n 0, 1) := by decide +kernel
theorem dX5_readsNumber_38 : decode (mC mX5_readsNumber) 38 = .ok (.getfield 34, 3) := by decide +kernel
theorem dX5_readsNumber_41 : decode (mC mX5_readsNumber) 41 = .ok (.iload_n 1, 1) := by decide +kernel
theorem dX5_readsNumber_42 : decode (mC mX5_readsNumber) 42 = .ok (.iaload, 1) := by decide +kernel
theorem dX5_readsNumber_43 : decode (mC mX5_readsNumber) 43 = .ok (.imul, 1) := by decide +kernel
theorem dX5_readsNumber_44 : decode (mC mX5_readsNumber) 44 = .ok (.aload_n 0, 1) := by decide +kernel
theorem dX5_readsNumber_45 : decode (mC mX5_readsNumber) 45 = .ok (.invokevirtual 97, 3) := by decide +kernel
theorem dX5_readsNumber_48 : decode (mC mX5_readsNumber) 48 = .ok (.iadd, 1) := by decide +kernel
theorem dX5_readsNumber_49 : decode (mC mX5_readsNumber) 49 = .ok (.bipush 48, 2) := by decide +kernel
theorem dX5_readsNumber_51 : decode (mC mX5_readsNumber) 51 = .ok (.isub, 1) := by decide +kernel
theorem dX5_readsNumber_52 : decode (mC mX5_readsNumber) 52 = .ok (.iastore, 1) := by decide +kernel
theorem dX5_readsNumber_53 : decode (mC mX5_readsNumber) 53 = .ok (.aload_n 0, 1) := by decide +kernel
theorem dX5_readsNumber_54 : decode (mC mX5_readsNumber) 54 = .ok (.dup, 1) := by decide +kernel
theorem dX5_readsNumber_55 : decode (mC mX5_readsNumber) 55 = .ok (.getfield 94, 3) := by decide +kernel
theorem dX5_readsNumber_58 : decode (mC mX5_readsNumber) 58 = .ok (.iconst 1, 1) := by decide +kernel
theorem dX5_readsNumber_59 : decode (mC mX5_readsNumber) 59 = .ok (.iadd, 1) := by decide +kernel
theorem dX5_readsNumber_60 : decode (mC mX5_readsNumber) 60 = .ok (.putfield 94, 3) := by decide +kernel
theorem dX5_readsNumber_63 : decode (mC mX5_readsNumber) 63 = .ok (.iinc 3 1, 3) := by decide +kernel
theorem dX5_readsNumber_66 : decode (mC mX5_readsNumber) 66 = .ok (.goto (-57), 3) := by decide +kernel
theorem dX5_readsNumber_69 : decode (mC mX5_readsNumber) 69 = .ok (.iconst 1, 1) := by decide +kernel
theorem dX5_readsNumber_70 : decode (mC mX5_readsNumber) 70 = .ok (.ireturn, 1) := by decide +kernel
theorem dX5_kindBy_0 : decode (mC mX5_kindBy) 0 = .ok (.iload_n 0, 1) := by decide +kernel
theorem dX5_kindBy_1 : decode (mC mX5_kindBy) 1 = .ok (.tableswitch 99 98 115 #[97, 93, 99, 99, 99, 99, 99, 99, 99, 91, 99, 99, 99, 95, 87, 99, 99, 89], 87) := by decide +kernel
theorem dX5_kindBy_88 : decode (mC mX5_kindBy) 88 = .ok (.iconst 0, 1) := by decide +kernel
theorem dX5_kindBy_89 : decode (mC mX5_kindBy) 89 = .ok (.ireturn, 1) := by decide +kernel
theorem dX5_kindBy_90 : decode (mC mX5_kindBy) 90 = .ok (.iconst 1, 1) := by decide +kernel
theorem dX5_kindBy_91 : decode (mC mX5_kindBy) 91 = .ok (.ireturn, 1) := by decide +kernel
theorem dX5_kindBy_92 : decode (mC mX5_kindBy) 92 = .ok (.iconst 2, 1) := by decide +kernel
theorem dX5_kindBy_93 : decode (mC mX5_kindBy) 93 = .ok (.ireturn, 1) := by decide +kernel
theorem dX5_kindBy_94 : decode (mC mX5_kindBy) 94 = .ok (.iconst 3, 1) := by decide +kernel
theorem dX5_kindBy_95 : decode (mC mX5_kindBy) 95 = .ok (.ireturn, 1) := by decide +kernel
theorem dX5_kindBy_96 : decode (mC mX5_kindBy) 96 = .ok (.iconst 4, 1) := by decide +kernel
theorem dX5_kindBy_97 : decode (mC mX5_kindBy) 97 = .ok (.ireturn, 1) := by decide +kernel
theorem dX5_kindBy_98 : decode (mC mX5_kindBy) 98 = .ok (.iconst 5, 1) := by decide +kernel
theorem dX5_kindBy_99 : decode (mC mX5_kindBy) 99 = .ok (.ireturn, 1) := by decide +kernel
theorem dX5_kindBy_100 : decode (mC mX5_kindBy) 100 = .ok (.bipush (-9), 2) := by decide +kernel
theorem dX5_kindBy_102 : decode (mC mX5_kindBy) 102 = .ok (.ireturn, 1) := by decide +kernel
theorem dX5_readsKind_0 : decode (mC mX5_readsKind) 0 = .ok (.aload_n 0, 1) := by decide +kernel
theorem dX5_readsKind_1 : decode (mC mX5_readsKind) 1 = .ok (.getfield 34, 3) := by decide +kernel
theorem dX5_readsKind_4 : decode (mC mX5_readsKind) 4 = .ok (.iconst 0, 1) := by decide +kernel
theorem dX5_readsKind_5 : decode (mC mX5_readsKind) 5 = .ok (.aload_n 0, 1) := by decide +kernel
theorem dX5_readsKind_6 : decode (mC mX5_readsKind) 6 = .ok (.invokevirtual 97, 3) := by decide +kernel
theorem dX5_readsKind_9 : decode (mC mX5_readsKind) 9 = .ok (.invokestatic 101, 3) := by decide +kernel
theorem dX5_readsKind_12 : decode (mC mX5_readsKind) 12 = .ok (.iastore, 1) := by decide +kernel
theorem dX5_readsKind_13 : decode (mC mX5_readsKind) 13 = .ok (.aload_n 0, 1) := by decide +kernel
theorem dX5_readsKind_14 : decode (mC mX5_readsKind) 14 = .ok (.dup, 1) := by decide +kernel
theorem dX5_readsKind_15 : decode (mC mX5_readsKind) 15 = .ok (.getfield 94, 3) := by decide +kernel
theorem dX5_readsKind_18 : decode (mC mX5_readsKind) 18 = .ok (.aload_n 0, 1) := by decide +kernel
theorem dX5_readsKind_19 : decode (mC mX5_readsKind) 19 = .ok (.getfield 34, 3) := by decide +kernel
theorem dX5_readsKind_22 : decode (mC mX5_readsKind) 22 = .ok (.iconst 0, 1) := by decide +kernel
theorem dX5_readsKind_23 : decode (mC mX5_readsKind) 23 = .ok (.iaload, 1) := by decide +kernel
theorem dX5_readsKind_24 : decode (mC mX5_readsKind) 24 = .ok (.ifCond .ge 7, 3) := by decide +kernel
theorem dX5_readsKind_27 : decode (mC mX5_readsKind) 27 = .ok (.iconst 0, 1) := by decide +kernel
theorem dX5_readsKind_28 : decode (mC mX5_readsKind) 28 = .ok (.goto 4, 3) := by decide +kernel
theorem dX5_readsKind_31 : decode (mC mX5_readsKind) 31 = .ok (.iconst 1, 1) := by decide +kernel
theorem dX5_readsKind_32 : decode (mC mX5_readsKind) 32 = .ok (.iadd, 1) := by decide +kernel
theorem dX5_readsKind_33 : decode (mC mX5_readsKind) 33 = .ok (.putfield 94, 3) := by decide +kernel
theorem dX5_readsKind_36 : decode (mC mX5_readsKind) 36 = .ok (.aload_n 0, 1) := by decide +kernel
theorem dX5_readsKind_37 : decode (mC mX5_readsKind) 37 = .ok (.getfield 34, 3) := by decide +kernel
theorem dX5_readsKind_40 : decode (mC mX5_readsKind) 40 = .ok (.iconst 0, 1) := by decide +kernel
theorem dX5_readsKind_41 : decode (mC mX5_readsKind) 41 = .ok (.iaload, 1) := by decide +kernel
theorem dX5_readsKind_42 : decode (mC mX5_readsKind) 42 = .ok (.ifCond .lt 7, 3) := by decide +kernel
theorem dX5_readsKind_45 : decode (mC mX5_readsKind) 45 = .ok (.iconst 1, 1) := by decide +kernel
theorem dX5_readsKind_46 : decode (mC mX5_readsKind) 46 = .ok (.goto 4, 3) := by decide +kernel
theorem dX5_readsKind_49 : decode (mC mX5_readsKind) 49 = .ok (.iconst 0, 1) := by decide +kernel
theorem dX5_readsKind_50 : decode (mC mX5_readsKind) 50 = .ok (.ireturn, 1) := by decide +kernel
theorem dX5_readsStatement_0 : decode (mC mX5_readsStatement) 0 = .ok (.aload_n 0, 1) := by decide +kernel
theorem dX5_readsStatement_1 : decode (mC mX5_readsStatement) 1 = .ok (.invokevirtual 97, 3) := by decide +kernel
theorem dX5_readsStatement_4 : decode (mC mX5_readsStatement) 4 = .ok (.istore_n 1, 1) := by decide +kernel
theorem dX5_readsStatement_5 : decode (mC mX5_readsStatement) 5 = .ok (.aload_n 0, 1) := by decide +kernel
theorem dX5_readsStatement_6 : decode (mC mX5_readsStatement) 6 = .ok (.dup, 1) := by decide +kernel
theorem dX5_readsStatement_7 : decode (mC mX5_readsStatement) 7 = .ok (.getfield 94, 3) := by decide +kernel
theorem dX5_readsStatement_10 : decode (mC mX5_readsStatement) 10 = .ok (.iconst 1, 1) := by decide +kernel
theorem dX5_readsStatement_11 : decode (mC mX5_readsStatement) 11 = .ok (.iadd, 1) := by decide +kernel
theorem dX5_readsStatement_12 : decode (mC mX5_readsStatement) 12 = .ok (.putfield 94, 3) := by decide +kernel
theorem dX5_readsStatement_15 : decode (mC mX5_readsStatement) 15 = .ok (.iload_n 1, 1) := by decide +kernel
theorem dX5_readsStatement_16 : decode (mC mX5_readsStatement) 16 = .ok (.tableswitch 222 100 119 #[96, 222, 222, 175, 212, 222, 222, 222, 222, 222, 222, 222, 139, 222, 175, 222, 202, 222, 222, 202], 96) := by decide +kernel
theorem dX5_readsStatement_112 : decode (mC mX5_readsStatement) 112 = .ok (.aload_n 0, 1) := by decide +kernel
theorem dX5_readsStatement_113 : decode (mC mX5_readsStatement) 113 = .ok (.invokevirtual 104, 3) := by decide +kernel
theorem dX5_readsStatement_116 : decode (mC mX5_readsStatement) 116 = .ok (.ifCond .eq 34, 3) := by decide +kernel
theorem dX5_readsStatement_119 : decode (mC mX5_readsStatement) 119 = .ok (.aload_n 0, 1) := by decide +kernel
theorem dX5_readsStatement_120 : decode (mC mX5_readsStatement) 120 = .ok (.iconst 1, 1) := by decide +kernel
theorem dX5_readsStatement_121 : decode (mC mX5_readsStatement) 121 = .ok (.iconst 1, 1) := by decide +kernel
theorem dX5_readsStatement_122 : decode (mC mX5_readsStatement) 122 = .ok (.invokevirtual 108, 3) := by decide +kernel
theorem dX5_readsStatement_125 : decode (mC mX5_readsStatement) 125 = .ok (.ifCond .eq 25, 3) := by decide +kernel
theorem dX5_readsStatement_128 : decode (mC mX5_readsStatement) 128 = .ok (.aload_n 0, 1) := by decide +kernel
theorem dX5_readsStatement_129 : decode (mC mX5_readsStatement) 129 = .ok (.iconst 2, 1) := by decide +kernel
theorem dX5_readsStatement_130 : decode (mC mX5_readsStatement) 130 = .ok (.iconst 1, 1) := by decide +kernel
theorem dX5_readsStatement_131 : decode (mC mX5_readsStatement) 131 = .ok (.invokevirtual 108, 3) := by decide +kernel
theorem dX5_readsStatement_134 : decode (mC mX5_readsStatement) 134 = .ok (.ifCond .eq 16, 3) := by decide +kernel
theorem dX5_readsStatement_137 : decode (mC mX5_readsStatement) 137 = .ok (.aload_n 0, 1) := by decide +kernel
theorem dX5_readsStatement_138 : decode (mC mX5_readsStatement) 138 = .ok (.iconst 3, 1) := by decide +kernel
theorem dX5_readsStatement_139 : decode (mC mX5_readsStatement) 139 = .ok (.iconst 1, 1) := by decide +kernel
theorem dX5_readsStatement_140 : decode (mC mX5_readsStatement) 140 = .ok (.invokevirtual 108, 3) := by decide +kernel
theorem dX5_readsStatement_143 : decode (mC mX5_readsStatement) 143 = .ok (.ifCond .eq 7, 3) := by decide +kernel
theorem dX5_readsStatement_146 : decode (mC mX5_readsStatement) 146 = .ok (.iconst 1, 1) := by decide +kernel
theorem dX5_readsStatement_147 : decode (mC mX5_readsStatement) 147 = .ok (.goto 4, 3) := by decide +kernel
theorem dX5_readsStatement_150 : decode (mC mX5_readsStatement) 150 = .ok (.iconst 0, 1) := by decide +kernel
theorem dX5_readsStatement_151 : decode (mC mX5_readsStatement) 151 = .ok (.istore_n 2, 1) := by decide +kernel
theorem dX5_readsStatement_152 : decode (mC mX5_readsStatement) 152 = .ok (.goto 98, 3) := by decide +kernel
theorem dX5_readsStatement_155 : decode (mC mX5_readsStatement) 155 = .ok (.aload_n 0, 1) := by decide +kernel
theorem dX5_readsStatement_156 : decode (mC mX5_readsStatement) 156 = .ok (.iconst 0, 1) := by decide +kernel
theorem dX5_readsStatement_157 : decode (mC mX5_readsStatement) 157 = .ok (.iconst 1, 1) := by decide +kernel
theorem dX5_readsStatement_158 : decode (mC mX5_readsStatement) 158 = .ok (.invokevirtual 108, 3) := by decide +kernel
theorem dX5_readsStatement_161 : decode (mC mX5_readsStatement) 161 = .ok (.ifCond .eq 25, 3) := by decide +kernel
theorem dX5_readsStatement_164 : decode (mC mX5_readsStatement) 164 = .ok (.aload_n 0, 1) := by decide +kernel
theorem dX5_readsStatement_165 : decode (mC mX5_readsStatement) 165 = .ok (.iconst 1, 1) := by decide +kernel
theorem dX5_readsStatement_166 : decode (mC mX5_readsStatement) 166 = .ok (.iconst 1, 1) := by decide +kernel
theorem dX5_readsStatement_167 : decode (mC mX5_readsStatement) 167 = .ok (.invokevirtual 108, 3) := by decide +kernel
theorem dX5_readsStatement_170 : decode (mC mX5_readsStatement) 170 = .ok (.ifCond .eq 16, 3) := by decide +kernel
theorem dX5_readsStatement_173 : decode (mC mX5_readsStatement) 173 = .ok (.aload_n 0, 1) := by decide +kernel
theorem dX5_readsStatement_174 : decode (mC mX5_readsStatement) 174 = .ok (.iconst 2, 1) := by decide +kernel
theorem dX5_readsStatement_175 : decode (mC mX5_readsStatement) 175 = .ok (.iconst 1, 1) := by decide +kernel
theorem dX5_readsStatement_176 : decode (mC mX5_readsStatement) 176 = .ok (.invokevirtual 108, 3) := by decide +kernel
theorem dX5_readsStatement_179 : decode (mC mX5_readsStatement) 179 = .ok (.ifCond .eq 7, 3) := by decide +kernel
theorem dX5_readsStatement_182 : decode (mC mX5_readsStatement) 182 = .ok (.iconst 1, 1) := by decide +kernel
theorem dX5_readsStatement_183 : decode (mC mX5_readsStatement) 183 = .ok (.goto 4, 3) := by decide +kernel
theorem dX5_readsStatement_186 : decode (mC mX5_readsStatement) 186 = .ok (.iconst 0, 1) := by decide +kernel
theorem dX5_readsStatement_187 : decode (mC mX5_readsStatement) 187 = .ok (.istore_n 2, 1) := by decide +kernel
theorem dX5_readsStatement_188 : decode (mC mX5_readsStatement) 188 = .ok (.goto 62, 3) := by decide +kernel
theorem dX5_readsStatement_191 : decode (mC mX5_readsStatement) 191 = .ok (.aload_n 0, 1) := by decide +kernel
theorem dX5_readsStatement_192 : decode (mC mX5_readsStatement) 192 = .ok (.iconst 0, 1) := by decide +kernel
theorem dX5_readsStatement_193 : decode (mC mX5_readsStatement) 193 = .ok (.iconst 1, 1) := by decide +kernel
theorem dX5_readsStatement_194 : decode (mC mX5_readsStatement) 194 = .ok (.invokevirtual 108, 3) := by decide +kernel
theorem dX5_readsStatement_197 : decode (mC mX5_readsStatement) 197 = .ok (.ifCond .eq 16, 3) := by decide +kernel
theorem dX5_readsStatement_200 : decode (mC mX5_readsStatement) 200 = .ok (.aload_n 0, 1) := by decide +kernel
theorem dX5_readsStatement_201 : decode (mC mX5_readsStatement) 201 = .ok (.iconst 1, 1) := by decide +kernel
theorem dX5_readsStatement_202 : decode (mC mX5_readsStatement) 202 = .ok (.iconst 1, 1) := by decide +kernel
theorem dX5_readsStatement_203 : decode (mC mX5_readsStatement) 203 = .ok (.invokevirtual 108, 3) := by decide +kernel
theorem dX5_readsStatement_206 : decode (mC mX5_readsStatement) 206 = .ok (.ifCond .eq 7, 3) := by decide +kernel
theorem dX5_readsStatement_209 : decode (mC mX5_readsStatement) 209 = .ok (.iconst 1, 1) := by decide +kernel
theorem dX5_readsStatement_210 : decode (mC mX5_readsStatement) 210 = .ok (.goto 4, 3) := by decide +kernel
theorem dX5_readsStatement_213 : decode (mC mX5_readsStatement) 213 = .ok (.iconst 0, 1) := by decide +kernel
theorem dX5_readsStatement_214 : decode (mC mX5_readsStatement) 214 = .ok (.istore_n 2, 1) := by decide +kernel
theorem dX5_readsStatement_215 : decode (mC mX5_readsStatement) 215 = .ok (.goto 35, 3) := by decide +kernel
theorem dX5_readsStatement_218 : decode (mC mX5_readsStatement) 218 = .ok (.aload_n 0, 1) := by decide +kernel
theorem dX5_readsStatement_219 : decode (mC mX5_readsStatement) 219 = .ok (.iconst 0, 1) := by decide +kernel
theorem dX5_readsStatement_220 : decode (mC mX5_readsStatement) 220 = .ok (.iconst 1, 1) := by decide +kernel
theorem dX5_readsStatement_221 : decode (mC mX5_readsStatement) 221 = .ok (.invokevirtual 108, 3) := by decide +kernel
theorem dX5_readsStatement_224 : decode (mC mX5_readsStatement) 224 = .ok (.istore_n 2, 1) := by decide +kernel
theorem dX5_readsStatement_225 : decode (mC mX5_readsStatement) 225 = .ok (.goto 25, 3) := by decide +kernel
theorem dX5_readsStatement_228 : decode (mC mX5_readsStatement) 228 = .ok (.aload_n 0, 1) := by decide +kernel
theorem dX5_readsStatement_229 : decode (mC mX5_readsStatement) 229 = .ok (.iconst 0, 1) := by decide +kernel
theorem dX5_readsStatement_230 : decode (mC mX5_readsStatement) 230 = .ok (.iconst 2, 1) := by decide +kernel
theorem dX5_readsStatement_231 : decode (mC mX5_readsStatement) 231 = .ok (.invokevirtual 108, 3) := by decide +kernel
theorem dX5_readsStatement_234 : decode (mC mX5_readsStatement) 234 = .ok (.istore_n 2, 1) := by decide +kernel
theorem dX5_readsStatement_235 : decode (mC mX5_readsStatement) 235 = .ok (.goto 15, 3) := by decide +kernel
theorem dX5_readsStatement_238 : decode (mC mX5_readsStatement) 238 = .ok (.aload_n 0, 1) := by decide +kernel
theorem dX5_readsStatement_239 : decode (mC mX5_readsStatement) 239 = .ok (.dup, 1) := by decide +kernel
theorem dX5_readsStatement_240 : decode (mC mX5_readsStatement) 240 = .ok (.getfield 94, 3) := by decide +kernel
theorem dX5_readsStatement_243 : decode (mC mX5_readsStatement) 243 = .ok (.iconst 1, 1) := by decide +kernel
theorem dX5_readsStatement_244 : decode (mC mX5_readsStatement) 244 = .ok (.isub, 1) := by decide +kernel
theorem dX5_readsStatement_245 : decode (mC mX5_readsStatement) 245 = .ok (.putfield 94, 3) := by decide +kernel
theorem dX5_readsStatement_248 : decode (mC mX5_readsStatement) 248 = .ok (.iconst 0, 1) := by decide +kernel
theorem dX5_readsStatement_249 : decode (mC mX5_readsStatement) 249 = .ok (.ireturn, 1) := by decide +kernel
theorem dX5_readsStatement_250 : decode (mC mX5_readsStatement) 250 = .ok (.iload_n 2, 1) := by decide +kernel
theorem dX5_readsStatement_251 : decode (mC mX5_readsStatement) 251 = .ok (.ifCond .eq 12, 3) := by decide +kernel
theorem dX5_readsStatement_254 : decode (mC mX5_readsStatement) 254 = .ok (.aload_n 0, 1) := by decide +kernel
theorem dX5_readsStatement_255 : decode (mC mX5_readsStatement) 255 = .ok (.invokevirtual 97, 3) := by decide +kernel
theorem dX5_readsStatement_258 : decode (mC mX5_readsStatement) 258 = .ok (.bipush 59, 2) := by decide +kernel
theorem dX5_readsStatement_260 : decode (mC mX5_readsStatement) 260 = .ok (.if_icmp .eq 5, 3) := by decide +kernel
theorem dX5_readsStatement_263 : decode (mC mX5_readsStatement) 263 = .ok (.iconst 0, 1) := by decide +kernel
theorem dX5_readsStatement_264 : decode (mC mX5_readsStatement) 264 = .ok (.ireturn, 1) := by decide +kernel
theorem dX5_readsStatement_265 : decode (mC mX5_readsStatement) 265 = .ok (.aload_n 0, 1) := by decide +kernel
theorem dX5_readsStatement_266 : decode (mC mX5_readsStatement) 266 = .ok (.dup, 1) := by decide +kernel
theorem dX5_readsStatement_267 : decode (mC mX5_readsStatement) 267 = .ok (.getfield 94, 3) := by decide +kernel
theorem dX5_readsStatement_270 : decode (mC mX5_readsStatement) 270 = .ok (.iconst 1, 1) := by decide +kernel
theorem dX5_readsStatement_271 : decode (mC mX5_readsStatement) 271 = .ok (.iadd, 1) := by decide +kernel
theorem dX5_readsStatement_272 : decode (mC mX5_readsStatement) 272 = .ok (.putfield 94, 3) := by decide +kernel
theorem dX5_readsStatement_275 : decode (mC mX5_readsStatement) 275 = .ok (.iconst 1, 1) := by decide +kernel
theorem dX5_readsStatement_276 : decode (mC mX5_readsStatement) 276 = .ok (.ireturn, 1) := by decide +kernel
theorem dX5_addsDoor_0 : decode (mC mX5_addsDoor) 0 = .ok (.aload_n 0, 1) := by decide +kernel
theorem dX5_addsDoor_1 : decode (mC mX5_addsDoor) 1 = .ok (.getfield 34, 3) := by decide +kernel
theorem dX5_addsDoor_4 : decode (mC mX5_addsDoor) 4 = .ok (.iconst 2, 1) := by decide +kernel
theorem dX5_addsDoor_5 : decode (mC mX5_addsDoor) 5 = .ok (.iaload, 1) := by decide +kernel
theorem dX5_addsDoor_6 : decode (mC mX5_addsDoor) 6 = .ok (.invokestatic 111, 3) := by decide +kernel
theorem dX5_addsDoor_9 : decode (mC mX5_addsDoor) 9 = .ok (.ifCond .eq 41, 3) := by decide +kernel
theorem dX5_addsDoor_12 : decode (mC mX5_addsDoor) 12 = .ok (.aload_n 0, 1) := by decide +kernel
theorem dX5_addsDoor_13 : decode (mC mX5_addsDoor) 13 = .ok (.getfield 34, 3) := by decide +kernel
theorem dX5_addsDoor_16 : decode (mC mX5_addsDoor) 16 = .ok (.iconst 3, 1) := by decide +kernel
theorem dX5_addsDoor_17 : decode (mC mX5_addsDoor) 17 = .ok (.iaload, 1) := by decide +kernel
theorem dX5_addsDoor_18 : decode (mC mX5_addsDoor) 18 = .ok (.invokestatic 111, 3) := by decide +kernel
theorem dX5_addsDoor_21 : decode (mC mX5_addsDoor) 21 = .ok (.ifCond .eq 29, 3) := by decide +kernel
theorem dX5_addsDoor_24 : decode (mC mX5_addsDoor) 24 = .ok (.aload_n 0, 1) := by decide +kernel
theorem dX5_addsDoor_25 : decode (mC mX5_addsDoor) 25 = .ok (.getfield 34, 3) := by decide +kernel
theorem dX5_addsDoor_28 : decode (mC mX5_addsDoor) 28 = .ok (.iconst 2, 1) := by decide +kernel
theorem dX5_addsDoor_29 : decode (mC mX5_addsDoor) 29 = .ok (.iaload, 1) := by decide +kernel
theorem dX5_addsDoor_30 : decode (mC mX5_addsDoor) 30 = .ok (.aload_n 0, 1) := by decide +kernel
theorem dX5_addsDoor_31 : decode (mC mX5_addsDoor) 31 = .ok (.getfield 34, 3) := by decide +kernel
theorem dX5_addsDoor_34 : decode (mC mX5_addsDoor) 34 = .ok (.iconst 3, 1) := by decide +kernel
theorem dX5_addsDoor_35 : decode (mC mX5_addsDoor) 35 = .ok (.iaload, 1) := by decide +kernel
theorem dX5_addsDoor_36 : decode (mC mX5_addsDoor) 36 = .ok (.if_icmp .eq 14, 3) := by decide +kernel
theorem dX5_addsDoor_39 : decode (mC mX5_addsDoor) 39 = .ok (.aload_n 0, 1) := by decide +kernel
theorem dX5_addsDoor_40 : decode (mC mX5_addsDoor) 40 = .ok (.getfield 9, 3) := by decide +kernel
theorem dX5_addsDoor_43 : decode (mC mX5_addsDoor) 43 = .ok (.iconst 0, 1) := by decide +kernel
theorem dX5_addsDoor_44 : decode (mC mX5_addsDoor) 44 = .ok (.iaload, 1) := by decide +kernel
theorem dX5_addsDoor_45 : decode (mC mX5_addsDoor) 45 = .ok (.bipush 9, 2) := by decide +kernel
theorem dX5_addsDoor_47 : decode (mC mX5_addsDoor) 47 = .ok (.if_icmp .ne 5, 3) := by decide +kernel
theorem dX5_addsDoor_50 : decode (mC mX5_addsDoor) 50 = .ok (.iconst 0, 1) := by decide +kernel
theorem dX5_addsDoor_51 : decode (mC mX5_addsDoor) 51 = .ok (.ireturn, 1) := by decide +kernel
theorem dX5_addsDoor_52 : decode (mC mX5_addsDoor) 52 = .ok (.iconst 0, 1) := by decide +kernel
theorem dX5_addsDoor_53 : decode (mC mX5_addsDoor) 53 = .ok (.istore_n 1, 1) := by decide +kernel
theorem dX5_addsDoor_54 : decode (mC mX5_addsDoor) 54 = .ok (.iload_n 1, 1) := by decide +kernel
theorem dX5_addsDoor_55 : decode (mC mX5_addsDoor) 55 = .ok (.iconst 4, 1) := by decide +kernel
theorem dX5_addsDoor_56 : decode (mC mX5_addsDoor) 56 = .ok (.if_icmp .ge 30, 3) := by decide +kernel
theorem dX5_addsDoor_59 : decode (mC mX5_addsDoor) 59 = .ok (.aload_n 0, 1) := by decide +kernel
theorem dX5_addsDoor_60 : decode (mC mX5_addsDoor) 60 = .ok (.getfield 9, 3) := by decide +kernel
theorem dX5_addsDoor_63 : decode (mC mX5_addsDoor) 63 = .ok (.aload_n 0, 1) := by decide +kernel
theorem dX5_addsDoor_64 : decode (mC mX5_addsDoor) 64 = .ok (.getfield 9, 3) := by decide +kernel
theorem dX5_addsDoor_67 : decode (mC mX5_addsDoor) 67 = .ok (.iconst 0, 1) := by decide +kernel
theorem dX5_addsDoor_68 : decode (mC mX5_addsDoor) 68 = .ok (.iaload, 1) := by decide +kernel
theorem dX5_addsDoor_69 : decode (mC mX5_addsDoor) 69 = .ok (.iload_n 1, 1) := by decide +kernel
theorem dX5_addsDoor_70 : decode (mC mX5_addsDoor) 70 = .ok (.invokestatic 55, 3) := by decide +kernel
theorem dX5_addsDoor_73 : decode (mC mX5_addsDoor) 73 = .ok (.aload_n 0, 1) := by decide +kernel
theorem dX5_addsDoor_74 : decode (mC mX5_addsDoor) 74 = .ok (.getfield 34, 3) := by decide +kernel
theorem dX5_addsDoor_77 : decode (mC mX5_addsDoor) 77 = .ok (.iload_n 1, 1) := by decide +kernel
theorem dX5_addsDoor_78 : decode (mC mX5_addsDoor) 78 = .ok (.iaload, 1) := by decide +kernel
theorem dX5_addsDoor_79 : decode (mC mX5_addsDoor) 79 = .ok (.iastore, 1) := by decide +kernel
theorem dX5_addsDoor_80 : decode (mC mX5_addsDoor) 80 = .ok (.iinc 1 1, 3) := by decide +kernel
theorem dX5_addsDoor_83 : decode (mC mX5_addsDoor) 83 = .ok (.goto (-29), 3) := by decide +kernel
theorem dX5_addsDoor_86 : decode (mC mX5_addsDoor) 86 = .ok (.aload_n 0, 1) := by decide +kernel
theorem dX5_addsDoor_87 : decode (mC mX5_addsDoor) 87 = .ok (.getfield 9, 3) := by decide +kernel
theorem dX5_addsDoor_90 : decode (mC mX5_addsDoor) 90 = .ok (.aload_n 0, 1) := by decide +kernel
theorem dX5_addsDoor_91 : decode (mC mX5_addsDoor) 91 = .ok (.getfield 9, 3) := by decide +kernel
theorem dX5_addsDoor_94 : decode (mC mX5_addsDoor) 94 = .ok (.iconst 0, 1) := by decide +kernel
theorem dX5_addsDoor_95 : decode (mC mX5_addsDoor) 95 = .ok (.iaload, 1) := by decide +kernel
theorem dX5_addsDoor_96 : decode (mC mX5_addsDoor) 96 = .ok (.iconst 4, 1) := by decide +kernel
theorem dX5_addsDoor_97 : decode (mC mX5_addsDoor) 97 = .ok (.invokestatic 55, 3) := by decide +kernel
theorem dX5_addsDoor_100 : decode (mC mX5_addsDoor) 100 = .ok (.iconst 0, 1) := by decide +kernel
theorem dX5_addsDoor_101 : decode (mC mX5_addsDoor) 101 = .ok (.iastore, 1) := by decide +kernel
theorem dX5_addsDoor_102 : decode (mC mX5_addsDoor) 102 = .ok (.aload_n 0, 1) := by decide +kernel
theorem dX5_addsDoor_103 : decode (mC mX5_addsDoor) 103 = .ok (.getfield 9, 3) := by decide +kernel
theorem dX5_addsDoor_106 : decode (mC mX5_addsDoor) 106 = .ok (.iconst 0, 1) := by decide +kernel
theorem dX5_addsDoor_107 : decode (mC mX5_addsDoor) 107 = .ok (.dup2, 1) := by decide +kernel
theorem dX5_addsDoor_108 : decode (mC mX5_addsDoor) 108 = .ok (.iaload, 1) := by decide +kernel
theorem dX5_addsDoor_109 : decode (mC mX5_addsDoor) 109 = .ok (.iconst 1, 1) := by decide +kernel
theorem dX5_addsDoor_110 : decode (mC mX5_addsDoor) 110 = .ok (.iadd, 1) := by decide +kernel
theorem dX5_addsDoor_111 : decode (mC mX5_addsDoor) 111 = .ok (.iastore, 1) := by decide +kernel
theorem dX5_addsDoor_112 : decode (mC mX5_addsDoor) 112 = .ok (.iconst 1, 1) := by decide +kernel
theorem dX5_addsDoor_113 : decode (mC mX5_addsDoor) 113 = .ok (.ireturn, 1) := by decide +kernel
theorem dX5_adds_0 : decode (mC mX5_adds) 0 = .ok (.aload_n 0, 1) := by decide +kernel
theorem dX5_adds_1 : decode (mC mX5_adds) 1 = .ok (.iconst 1, 1) := by decide +kernel
theorem dX5_adds_2 : decode (mC mX5_adds) 2 = .ok (.iaload, 1) := by decide +kernel
theorem dX5_adds_3 : decode (mC mX5_adds) 3 = .ok (.istore 4, 2) := by decide +kernel
theorem dX5_adds_5 : decode (mC mX5_adds) 5 = .ok (.aload_n 0, 1) := by decide +kernel
theorem dX5_adds_6 : decode (mC mX5_adds) 6 = .ok (.iload 4, 2) := by decide +kernel
theorem dX5_adds_8 : decode (mC mX5_adds) 8 = .ok (.iconst 0, 1) := by decide +kernel
theorem dX5_adds_9 : decode (mC mX5_adds) 9 = .ok (.invokestatic 51, 3) := by decide +kernel
theorem dX5_adds_12 : decode (mC mX5_adds) 12 = .ok (.iload_n 1, 1) := by decide +kernel
theorem dX5_adds_13 : decode (mC mX5_adds) 13 = .ok (.iastore, 1) := by decide +kernel
theorem dX5_adds_14 : decode (mC mX5_adds) 14 = .ok (.aload_n 0, 1) := by decide +kernel
theorem dX5_adds_15 : decode (mC mX5_adds) 15 = .ok (.iload 4, 2) := by decide +kernel
theorem dX5_adds_17 : decode (mC mX5_adds) 17 = .ok (.iconst 1, 1) := by decide +kernel
theorem dX5_adds_18 : decode (mC mX5_adds) 18 = .ok (.invokestatic 51, 3) := by decide +kernel
theorem dX5_adds_21 : decode (mC mX5_adds) 21 = .ok (.iload_n 2, 1) := by decide +kernel
theorem dX5_adds_22 : decode (mC mX5_adds) 22 = .ok (.iastore, 1) := by decide +kernel
theorem dX5_adds_23 : decode (mC mX5_adds) 23 = .ok (.aload_n 0, 1) := by decide +kernel
theorem dX5_adds_24 : decode (mC mX5_adds) 24 = .ok (.iload 4, 2) := by decide +kernel
theorem dX5_adds_26 : decode (mC mX5_adds) 26 = .ok (.iconst 2, 1) := by decide +kernel
theorem dX5_adds_27 : decode (mC mX5_adds) 27 = .ok (.invokestatic 51, 3) := by decide +kernel
theorem dX5_adds_30 : decode (mC mX5_adds) 30 = .ok (.iload_n 3, 1) := by decide +kernel
theorem dX5_adds_31 : decode (mC mX5_adds) 31 = .ok (.iastore, 1) := by decide +kernel
theorem dX5_adds_32 : decode (mC mX5_adds) 32 = .ok (.aload_n 0, 1) := by decide +kernel
theorem dX5_adds_33 : decode (mC mX5_adds) 33 = .ok (.iconst 1, 1) := by decide +kernel
theorem dX5_adds_34 : decode (mC mX5_adds) 34 = .ok (.dup2, 1) := by decide +kernel
theorem dX5_adds_35 : decode (mC mX5_adds) 35 = .ok (.iaload, 1) := by decide +kernel
theorem dX5_adds_36 : decode (mC mX5_adds) 36 = .ok (.iconst 1, 1) := by decide +kernel
theorem dX5_adds_37 : decode (mC mX5_adds) 37 = .ok (.iadd, 1) := by decide +kernel
theorem dX5_adds_38 : decode (mC mX5_adds) 38 = .ok (.iastore, 1) := by decide +kernel
theorem dX5_adds_39 : decode (mC mX5_adds) 39 = .ok (.return_, 1) := by decide +kernel
theorem dX5_turnsIn_0 : decode (mC mX5_turnsIn) 0 = .ok (.aload_n 0, 1) := by decide +kernel
theorem dX5_turnsIn_1 : decode (mC mX5_turnsIn) 1 = .ok (.iload_n 1, 1) := by decide +kernel
theorem dX5_turnsIn_2 : decode (mC mX5_turnsIn) 2 = .ok (.iconst 2, 1) := by decide +kernel
theorem dX5_turnsIn_3 : decode (mC mX5_turnsIn) 3 = .ok (.invokestatic 55, 3) := by decide +kernel
theorem dX5_turnsIn_6 : decode (mC mX5_turnsIn) 6 = .ok (.iaload, 1) := by decide +kernel
theorem dX5_turnsIn_7 : decode (mC mX5_turnsIn) 7 = .ok (.istore_n 2, 1) := by decide +kernel
theorem dX5_turnsIn_8 : decode (mC mX5_turnsIn) 8 = .ok (.aload_n 0, 1) := by decide +kernel
theorem dX5_turnsIn_9 : decode (mC mX5_turnsIn) 9 = .ok (.iload_n 1, 1) := by decide +kernel
theorem dX5_turnsIn_10 : decode (mC mX5_turnsIn) 10 = .ok (.iconst 2, 1) := by decide +kernel
theorem dX5_turnsIn_11 : decode (mC mX5_turnsIn) 11 = .ok (.invokestatic 55, 3) := by decide +kernel
theorem dX5_turnsIn_14 : decode (mC mX5_turnsIn) 14 = .ok (.aload_n 0, 1) := by decide +kernel
theorem dX5_turnsIn_15 : decode (mC mX5_turnsIn) 15 = .ok (.iload_n 1, 1) := by decide +kernel
theorem dX5_turnsIn_16 : decode (mC mX5_turnsIn) 16 = .ok (.iconst 3, 1) := by decide +kernel
theorem dX5_turnsIn_17 : decode (mC mX5_turnsIn) 17 = .ok (.invokestatic 55, 3) := by decide +kernel
theorem dX5_turnsIn_20 : decode (mC mX5_turnsIn) 20 = .ok (.iaload, 1) := by decide +kernel
theorem dX5_turnsIn_21 : decode (mC mX5_turnsIn) 21 = .ok (.iastore, 1) := by decide +kernel
theorem dX5_turnsIn_22 : decode (mC mX5_turnsIn) 22 = .ok (.aload_n 0, 1) := by decide +kernel
theorem dX5_turnsIn_23 : decode (mC mX5_turnsIn) 23 = .ok (.iload_n 1, 1) := by decide +kernel
theorem dX5_turnsIn_24 : decode (mC mX5_turnsIn) 24 = .ok (.iconst 3, 1) := by decide +kernel
theorem dX5_turnsIn_25 : decode (mC mX5_turnsIn) 25 = .ok (.invokestatic 55, 3) := by decide +kernel
theorem dX5_turnsIn_28 : decode (mC mX5_turnsIn) 28 = .ok (.iload_n 2, 1) := by decide +kernel
theorem dX5_turnsIn_29 : decode (mC mX5_turnsIn) 29 = .ok (.iastore, 1) := by decide +kernel
theorem dX5_turnsIn_30 : decode (mC mX5_turnsIn) 30 = .ok (.return_, 1) := by decide +kernel
theorem dX5_isDone_0 : decode (mC mX5_isDone) 0 = .ok (.aload_n 0, 1) := by decide +kernel
theorem dX5_isDone_1 : decode (mC mX5_isDone) 1 = .ok (.getfield 34, 3) := by decide +kernel
theorem dX5_isDone_4 : decode (mC mX5_isDone) 4 = .ok (.iconst 0, 1) := by decide +kernel
theorem dX5_isDone_5 : decode (mC mX5_isDone) 5 = .ok (.iaload, 1) := by decide +kernel
theorem dX5_isDone_6 : decode (mC mX5_isDone) 6 = .ok (.istore_n 2, 1) := by decide +kernel
theorem dX5_isDone_7 : decode (mC mX5_isDone) 7 = .ok (.aload_n 0, 1) := by decide +kernel
theorem dX5_isDone_8 : decode (mC mX5_isDone) 8 = .ok (.getfield 34, 3) := by decide +kernel
theorem dX5_isDone_11 : decode (mC mX5_isDone) 11 = .ok (.iconst 1, 1) := by decide +kernel
theorem dX5_isDone_12 : decode (mC mX5_isDone) 12 = .ok (.iaload, 1) := by decide +kernel
theorem dX5_isDone_13 : decode (mC mX5_isDone) 13 = .ok (.istore_n 3, 1) := by decide +kernel
theorem dX5_isDone_14 : decode (mC mX5_isDone) 14 = .ok (.iload_n 1, 1) := by decide +kernel
theorem dX5_isDone_15 : decode (mC mX5_isDone) 15 = .ok (.tableswitch 228 100 119 #[93, 228, 228, 142, 228, 228, 228, 228, 228, 228, 228, 228, 98, 228, 142, 228, 208, 228, 228, 182], 93) := by decide +kernel
theorem dX5_isDone_108 : decode (mC mX5_isDone) 108 = .ok (.aload_n 0, 1) := by decide +kernel
theorem dX5_isDone_109 : decode (mC mX5_isDone) 109 = .ok (.invokevirtual 115, 3) := by decide +kernel
theorem dX5_isDone_112 : decode (mC mX5_isDone) 112 = .ok (.ireturn, 1) := by decide +kernel
theorem dX5_isDone_113 : decode (mC mX5_isDone) 113 = .ok (.iload_n 2, 1) := by decide +kernel
theorem dX5_isDone_114 : decode (mC mX5_isDone) 114 = .ok (.invokestatic 111, 3) := by decide +kernel
theorem dX5_isDone_117 : decode (mC mX5_isDone) 117 = .ok (.ifCond .eq 21, 3) := by decide +kernel
theorem dX5_isDone_120 : decode (mC mX5_isDone) 120 = .ok (.iload_n 3, 1) := by decide +kernel
theorem dX5_isDone_121 : decode (mC mX5_isDone) 121 = .ok (.invokestatic 111, 3) := by decide +kernel
theorem dX5_isDone_124 : decode (mC mX5_isDone) 124 = .ok (.ifCond .eq 14, 3) := by decide +kernel
theorem dX5_isDone_127 : decode (mC mX5_isDone) 127 = .ok (.aload_n 0, 1) := by decide +kernel
theorem dX5_isDone_128 : decode (mC mX5_isDone) 128 = .ok (.getfield 9, 3) := by decide +kernel
theorem dX5_isDone_131 : decode (mC mX5_isDone) 131 = .ok (.iconst 1, 1) := by decide +kernel
theorem dX5_isDone_132 : decode (mC mX5_isDone) 132 = .ok (.iaload, 1) := by decide +kernel
theorem dX5_isDone_133 : decode (mC mX5_isDone) 133 = .ok (.bipush 6, 2) := by decide +kernel
theorem dX5_isDone_135 : decode (mC mX5_isDone) 135 = .ok (.if_icmp .ne 5, 3) := by decide +kernel
theorem dX5_isDone_138 : decode (mC mX5_isDone) 138 = .ok (.iconst 0, 1) := by decide +kernel
theorem dX5_isDone_139 : decode (mC mX5_isDone) 139 = .ok (.ireturn, 1) := by decide +kernel
theorem dX5_isDone_140 : decode (mC mX5_isDone) 140 = .ok (.aload_n 0, 1) := by decide +kernel
theorem dX5_isDone_141 : decode (mC mX5_isDone) 141 = .ok (.getfield 9, 3) := by decide +kernel
theorem dX5_isDone_144 : decode (mC mX5_isDone) 144 = .ok (.iload_n 2, 1) := by decide +kernel
theorem dX5_isDone_145 : decode (mC mX5_isDone) 145 = .ok (.iload_n 3, 1) := by decide +kernel
theorem dX5_isDone_146 : decode (mC mX5_isDone) 146 = .ok (.aload_n 0, 1) := by decide +kernel
theorem dX5_isDone_147 : decode (mC mX5_isDone) 147 = .ok (.getfield 34, 3) := by decide +kernel
theorem dX5_isDone_150 : decode (mC mX5_isDone) 150 = .ok (.iconst 2, 1) := by decide +kernel
theorem dX5_isDone_151 : decode (mC mX5_isDone) 151 = .ok (.iaload, 1) := by decide +kernel
theorem dX5_isDone_152 : decode (mC mX5_isDone) 152 = .ok (.invokestatic 118, 3) := by decide +kernel
theorem dX5_isDone_155 : decode (mC mX5_isDone) 155 = .ok (.iconst 1, 1) := by decide +kernel
theorem dX5_isDone_156 : decode (mC mX5_isDone) 156 = .ok (.ireturn, 1) := by decide +kernel
theorem dX5_isDone_157 : decode (mC mX5_isDone) 157 = .ok (.aload_n 0, 1) := by decide +kernel
theorem dX5_isDone_158 : decode (mC mX5_isDone) 158 = .ok (.iload_n 2, 1) := by decide +kernel
theorem dX5_isDone_159 : decode (mC mX5_isDone) 159 = .ok (.invokevirtual 122, 3) := by decide +kernel
theorem dX5_isDone_162 : decode (mC mX5_isDone) 162 = .ok (.ifCond .eq 10, 3) := by decide +kernel
theorem dX5_isDone_165 : decode (mC mX5_isDone) 165 = .ok (.iload_n 3, 1) := by decide +kernel
theorem dX5_isDone_166 : decode (mC mX5_isDone) 166 = .ok (.invokestatic 111, 3) := by decide +kernel
theorem dX5_isDone_169 : decode (mC mX5_isDone) 169 = .ok (.ifCond .ne 5, 3) := by decide +kernel
theorem dX5_isDone_172 : decode (mC mX5_isDone) 172 = .ok (.iconst 0, 1) := by decide +kernel
theorem dX5_isDone_173 : decode (mC mX5_isDone) 173 = .ok (.ireturn, 1) := by decide +kernel
theorem dX5_isDone_174 : decode (mC mX5_isDone) 174 = .ok (.aload_n 0, 1) := by decide +kernel
theorem dX5_isDone_175 : decode (mC mX5_isDone) 175 = .ok (.getfield 9, 3) := by decide +kernel
theorem dX5_isDone_178 : decode (mC mX5_isDone) 178 = .ok (.iload_n 2, 1) := by decide +kernel
theorem dX5_isDone_179 : decode (mC mX5_isDone) 179 = .ok (.iload_n 1, 1) := by decide +kernel
theorem dX5_isDone_180 : decode (mC mX5_isDone) 180 = .ok (.bipush 103, 2) := by decide +kernel
theorem dX5_isDone_182 : decode (mC mX5_isDone) 182 = .ok (.if_icmp .ne 7, 3) := by decide +kernel
theorem dX5_isDone_185 : decode (mC mX5_isDone) 185 = .ok (.iconst 1, 1) := by decide +kernel
theorem dX5_isDone_186 : decode (mC mX5_isDone) 186 = .ok (.goto 4, 3) := by decide +kernel
theorem dX5_isDone_189 : decode (mC mX5_isDone) 189 = .ok (.iconst 0, 1) := by decide +kernel
theorem dX5_isDone_190 : decode (mC mX5_isDone) 190 = .ok (.invokestatic 51, 3) := by decide +kernel
theorem dX5_isDone_193 : decode (mC mX5_isDone) 193 = .ok (.iload_n 3, 1) := by decide +kernel
theorem dX5_isDone_194 : decode (mC mX5_isDone) 194 = .ok (.iastore, 1) := by decide +kernel
theorem dX5_isDone_195 : decode (mC mX5_isDone) 195 = .ok (.iconst 1, 1) := by decide +kernel
theorem dX5_isDone_196 : decode (mC mX5_isDone) 196 = .ok (.ireturn, 1) := by decide +kernel
theorem dX5_isDone_197 : decode (mC mX5_isDone) 197 = .ok (.aload_n 0, 1) := by decide +kernel
theorem dX5_isDone_198 : decode (mC mX5_isDone) 198 = .ok (.iload_n 2, 1) := by decide +kernel
theorem dX5_isDone_199 : decode (mC mX5_isDone) 199 = .ok (.invokevirtual 125, 3) := by decide +kernel
theorem dX5_isDone_202 : decode (mC mX5_isDone) 202 = .ok (.ifCond .ne 5, 3) := by decide +kernel
theorem dX5_isDone_205 : decode (mC mX5_isDone) 205 = .ok (.iconst 0, 1) := by decide +kernel
theorem dX5_isDone_206 : decode (mC mX5_isDone) 206 = .ok (.ireturn, 1) := by decide +kernel
theorem dX5_isDone_207 : decode (mC mX5_isDone) 207 = .ok (.aload_n 0, 1) := by decide +kernel
theorem dX5_isDone_208 : decode (mC mX5_isDone) 208 = .ok (.getfield 9, 3) := by decide +kernel
theorem dX5_isDone_211 : decode (mC mX5_isDone) 211 = .ok (.iload_n 2, 1) := by decide +kernel
theorem dX5_isDone_212 : decode (mC mX5_isDone) 212 = .ok (.iconst 4, 1) := by decide +kernel
theorem dX5_isDone_213 : decode (mC mX5_isDone) 213 = .ok (.invokestatic 55, 3) := by decide +kernel
theorem dX5_isDone_216 : decode (mC mX5_isDone) 216 = .ok (.dup2, 1) := by decide +kernel
theorem dX5_isDone_217 : decode (mC mX5_isDone) 217 = .ok (.iaload, 1) := by decide +kernel
theorem dX5_isDone_218 : decode (mC mX5_isDone) 218 = .ok (.iconst 1, 1) := by decide +kernel
theorem dX5_isDone_219 : decode (mC mX5_isDone) 219 = .ok (.ixor, 1) := by decide +kernel
theorem dX5_isDone_220 : decode (mC mX5_isDone) 220 = .ok (.iastore, 1) := by decide +kernel
theorem dX5_isDone_221 : decode (mC mX5_isDone) 221 = .ok (.iconst 1, 1) := by decide +kernel
theorem dX5_isDone_222 : decode (mC mX5_isDone) 222 = .ok (.ireturn, 1) := by decide +kernel
theorem dX5_isDone_223 : decode (mC mX5_isDone) 223 = .ok (.aload_n 0, 1) := by decide +kernel
theorem dX5_isDone_224 : decode (mC mX5_isDone) 224 = .ok (.iload_n 2, 1) := by decide +kernel
theorem dX5_isDone_225 : decode (mC mX5_isDone) 225 = .ok (.invokevirtual 125, 3) := by decide +kernel
theorem dX5_isDone_228 : decode (mC mX5_isDone) 228 = .ok (.ifCond .ne 5, 3) := by decide +kernel
theorem dX5_isDone_231 : decode (mC mX5_isDone) 231 = .ok (.iconst 0, 1) := by decide +kernel
theorem dX5_isDone_232 : decode (mC mX5_isDone) 232 = .ok (.ireturn, 1) := by decide +kernel
theorem dX5_isDone_233 : decode (mC mX5_isDone) 233 = .ok (.aload_n 0, 1) := by decide +kernel
theorem dX5_isDone_234 : decode (mC mX5_isDone) 234 = .ok (.getfield 9, 3) := by decide +kernel
theorem dX5_isDone_237 : decode (mC mX5_isDone) 237 = .ok (.iload_n 2, 1) := by decide +kernel
theorem dX5_isDone_238 : decode (mC mX5_isDone) 238 = .ok (.invokestatic 128, 3) := by decide +kernel
theorem dX5_isDone_241 : decode (mC mX5_isDone) 241 = .ok (.iconst 1, 1) := by decide +kernel
theorem dX5_isDone_242 : decode (mC mX5_isDone) 242 = .ok (.ireturn, 1) := by decide +kernel
theorem dX5_isDone_243 : decode (mC mX5_isDone) 243 = .ok (.iload_n 2, 1) := by decide +kernel
theorem dX5_isDone_244 : decode (mC mX5_isDone) 244 = .ok (.iconst 1, 1) := by decide +kernel
theorem dX5_isDone_245 : decode (mC mX5_isDone) 245 = .ok (.bipush 60, 2) := by decide +kernel
theorem dX5_isDone_247 : decode (mC mX5_isDone) 247 = .ok (.invokestatic 43, 3) := by decide +kernel
theorem dX5_isDone_250 : decode (mC mX5_isDone) 250 = .ok (.ifCond .eq 17, 3) := by decide +kernel
theorem dX5_isDone_253 : decode (mC mX5_isDone) 253 = .ok (.aload_n 0, 1) := by decide +kernel
theorem dX5_isDone_254 : decode (mC mX5_isDone) 254 = .ok (.getfield 9, 3) := by decide +kernel
theorem dX5_isDone_257 : decode (mC mX5_isDone) 257 = .ok (.iconst 2, 1) := by decide +kernel
theorem dX5_isDone_258 : decode (mC mX5_isDone) 258 = .ok (.iaload, 1) := by decide +kernel
theorem dX5_isDone_259 : decode (mC mX5_isDone) 259 = .ok (.iload_n 2, 1) := by decide +kernel
theorem dX5_isDone_260 : decode (mC mX5_isDone) 260 = .ok (.iadd, 1) := by decide +kernel
theorem dX5_isDone_261 : decode (mC mX5_isDone) 261 = .ok (.sipush 999, 3) := by decide +kernel
theorem dX5_isDone_264 : decode (mC mX5_isDone) 264 = .ok (.if_icmp .le 5, 3) := by decide +kernel
theorem dX5_isDone_267 : decode (mC mX5_isDone) 267 = .ok (.iconst 0, 1) := by decide +kernel
theorem dX5_isDone_268 : decode (mC mX5_isDone) 268 = .ok (.ireturn, 1) := by decide +kernel
theorem dX5_isDone_269 : decode (mC mX5_isDone) 269 = .ok (.aload_n 0, 1) := by decide +kernel
theorem dX5_isDone_270 : decode (mC mX5_isDone) 270 = .ok (.aload_n 0, 1) := by decide +kernel
theorem dX5_isDone_271 : decode (mC mX5_isDone) 271 = .ok (.getfield 9, 3) := by decide +kernel
theorem dX5_isDone_274 : decode (mC mX5_isDone) 274 = .ok (.iload_n 2, 1) := by decide +kernel
theorem dX5_isDone_275 : decode (mC mX5_isDone) 275 = .ok (.invokevirtual 132, 3) := by decide +kernel
theorem dX5_isDone_278 : decode (mC mX5_isDone) 278 = .ok (.iconst 1, 1) := by decide +kernel
theorem dX5_isDone_279 : decode (mC mX5_isDone) 279 = .ok (.ireturn, 1) := by decide +kernel
theorem dX5_town_0 : decode (mC mX5_town) 0 = .ok (.aload_n 0, 1) := by decide +kernel
theorem dX5_town_1 : decode (mC mX5_town) 1 = .ok (.iconst 0, 1) := by decide +kernel
theorem dX5_town_2 : decode (mC mX5_town) 2 = .ok (.putfield 94, 3) := by decide +kernel
theorem dX5_town_5 : decode (mC mX5_town) 5 = .ok (.iconst 0, 1) := by decide +kernel
theorem dX5_town_6 : decode (mC mX5_town) 6 = .ok (.istore_n 1, 1) := by decide +kernel
theorem dX5_town_7 : decode (mC mX5_town) 7 = .ok (.bipush (-9), 2) := by decide +kernel
theorem dX5_town_9 : decode (mC mX5_town) 9 = .ok (.istore_n 2, 1) := by decide +kernel
theorem dX5_town_10 : decode (mC mX5_town) 10 = .ok (.aload_n 0, 1) := by decide +kernel
theorem dX5_town_11 : decode (mC mX5_town) 11 = .ok (.invokevirtual 135, 3) := by decide +kernel
theorem dX5_town_14 : decode (mC mX5_town) 14 = .ok (.ifCond .ne 12, 3) := by decide +kernel
theorem dX5_town_17 : decode (mC mX5_town) 17 = .ok (.sipush (-1000), 3) := by decide +kernel
theorem dX5_town_20 : decode (mC mX5_town) 20 = .ok (.aload_n 0, 1) := by decide +kernel
theorem dX5_town_21 : decode (mC mX5_town) 21 = .ok (.getfield 94, 3) := by decide +kernel
theorem dX5_town_24 : decode (mC mX5_town) 24 = .ok (.isub, 1) := by decide +kernel
theorem dX5_town_25 : decode (mC mX5_town) 25 = .ok (.istore_n 2, 1) := by decide +kernel
theorem dX5_town_26 : decode (mC mX5_town) 26 = .ok (.iinc 1 1, 3) := by decide +kernel
theorem dX5_town_29 : decode (mC mX5_town) 29 = .ok (.iload_n 2, 1) := by decide +kernel
theorem dX5_town_30 : decode (mC mX5_town) 30 = .ok (.bipush (-9), 2) := by decide +kernel
theorem dX5_town_32 : decode (mC mX5_town) 32 = .ok (.if_icmp .ne 14, 3) := by decide +kernel
theorem dX5_town_35 : decode (mC mX5_town) 35 = .ok (.aload_n 0, 1) := by decide +kernel
theorem dX5_town_36 : decode (mC mX5_town) 36 = .ok (.getfield 94, 3) := by decide +kernel
theorem dX5_town_39 : decode (mC mX5_town) 39 = .ok (.aload_n 0, 1) := by decide +kernel
theorem dX5_town_40 : decode (mC mX5_town) 40 = .ok (.getfield 90, 3) := by decide +kernel
theorem dX5_town_43 : decode (mC mX5_town) 43 = .ok (.if_icmp .lt (-33), 3) := by decide +kernel
theorem dX5_town_46 : decode (mC mX5_town) 46 = .ok (.aload_n 0, 1) := by decide +kernel
theorem dX5_town_47 : decode (mC mX5_town) 47 = .ok (.getfield 9, 3) := by decide +kernel
theorem dX5_town_50 : decode (mC mX5_town) 50 = .ok (.aload_n 0, 1) := by decide +kernel
theorem dX5_town_51 : decode (mC mX5_town) 51 = .ok (.getfield 19, 3) := by decide +kernel
theorem dX5_town_54 : decode (mC mX5_town) 54 = .ok (.invokestatic 138, 3) := by decide +kernel
theorem dX5_town_57 : decode (mC mX5_town) 57 = .ok (.aload_n 0, 1) := by decide +kernel
theorem dX5_town_58 : decode (mC mX5_town) 58 = .ok (.iconst 0, 1) := by decide +kernel
theorem dX5_town_59 : decode (mC mX5_town) 59 = .ok (.putfield 94, 3) := by decide +kernel
theorem dX5_town_62 : decode (mC mX5_town) 62 = .ok (.iload_n 2, 1) := by decide +kernel
theorem dX5_town_63 : decode (mC mX5_town) 63 = .ok (.bipush (-9), 2) := by decide +kernel
theorem dX5_town_65 : decode (mC mX5_town) 65 = .ok (.if_icmp .ne 63, 3) := by decide +kernel
theorem dX5_town_68 : decode (mC mX5_town) 68 = .ok (.aload_n 0, 1) := by decide +kernel
theorem dX5_town_69 : decode (mC mX5_town) 69 = .ok (.getfield 94, 3) := by decide +kernel
theorem dX5_town_72 : decode (mC mX5_town) 72 = .ok (.aload_n 0, 1) := by decide +kernel
theorem dX5_town_73 : decode (mC mX5_town) 73 = .ok (.getfield 90, 3) := by decide +kernel
theorem dX5_town_76 : decode (mC mX5_town) 76 = .ok (.if_icmp .ge 52, 3) := by decide +kernel
theorem dX5_town_79 : decode (mC mX5_town) 79 = .ok (.aload_n 0, 1) := by decide +kernel
theorem dX5_town_80 : decode (mC mX5_town) 80 = .ok (.getfield 94, 3) := by decide +kernel
theorem dX5_town_83 : decode (mC mX5_town) 83 = .ok (.istore_n 3, 1) := by decide +kernel
theorem dX5_town_84 : decode (mC mX5_town) 84 = .ok (.aload_n 0, 1) := by decide +kernel
theorem dX5_town_85 : decode (mC mX5_town) 85 = .ok (.invokevirtual 97, 3) := by decide +kernel
theorem dX5_town_88 : decode (mC mX5_town) 88 = .ok (.istore 4, 2) := by decide +kernel
theorem dX5_town_90 : decode (mC mX5_town) 90 = .ok (.aload_n 0, 1) := by decide +kernel
theorem dX5_town_91 : decode (mC mX5_town) 91 = .ok (.invokevirtual 135, 3) := by decide +kernel
theorem dX5_town_94 : decode (mC mX5_town) 94 = .ok (.istore 5, 2) := by decide +kernel
theorem dX5_town_96 : decode (mC mX5_town) 96 = .ok (.aload_n 0, 1) := by decide +kernel
theorem dX5_town_97 : decode (mC mX5_town) 97 = .ok (.iload 4, 2) := by decide +kernel
theorem dX5_town_99 : decode (mC mX5_town) 99 = .ok (.invokevirtual 142, 3) := by decide +kernel
theorem dX5_town_102 : decode (mC mX5_town) 102 = .ok (.ifCond .eq 6, 3) := by decide +kernel
theorem dX5_town_105 : decode (mC mX5_town) 105 = .ok (.goto (-43), 3) := by decide +kernel
theorem dX5_town_108 : decode (mC mX5_town) 108 = .ok (.sipush (-2000), 3) := by decide +kernel
theorem dX5_town_111 : decode (mC mX5_town) 111 = .ok (.iload_n 3, 1) := by decide +kernel
theorem dX5_town_112 : decode (mC mX5_town) 112 = .ok (.isub, 1) := by decide +kernel
theorem dX5_town_113 : decode (mC mX5_town) 113 = .ok (.istore_n 2, 1) := by decide +kernel
theorem dX5_town_114 : decode (mC mX5_town) 114 = .ok (.aload_n 0, 1) := by decide +kernel
theorem dX5_town_115 : decode (mC mX5_town) 115 = .ok (.getfield 19, 3) := by decide +kernel
theorem dX5_town_118 : decode (mC mX5_town) 118 = .ok (.aload_n 0, 1) := by decide +kernel
theorem dX5_town_119 : decode (mC mX5_town) 119 = .ok (.getfield 9, 3) := by decide +kernel
theorem dX5_town_122 : decode (mC mX5_town) 122 = .ok (.invokestatic 138, 3) := by decide +kernel
theorem dX5_town_125 : decode (mC mX5_town) 125 = .ok (.goto (-63), 3) := by decide +kernel
theorem dX5_town_128 : decode (mC mX5_town) 128 = .ok (.aload_n 0, 1) := by decide +kernel
theorem dX5_town_129 : decode (mC mX5_town) 129 = .ok (.iconst 0, 1) := by decide +kernel
theorem dX5_town_130 : decode (mC mX5_town) 130 = .ok (.putfield 90, 3) := by decide +kernel
theorem dX5_town_133 : decode (mC mX5_town) 133 = .ok (.iload_n 2, 1) := by decide +kernel
theorem dX5_town_134 : decode (mC mX5_town) 134 = .ok (.bipush (-9), 2) := by decide +kernel
theorem dX5_town_136 : decode (mC mX5_town) 136 = .ok (.if_icmp .ne 7, 3) := by decide +kernel
theorem dX5_town_139 : decode (mC mX5_town) 139 = .ok (.iload_n 1, 1) := by decide +kernel
theorem dX5_town_140 : decode (mC mX5_town) 140 = .ok (.goto 4, 3) := by decide +kernel
theorem dX5_town_143 : decode (mC mX5_town) 143 = .ok (.iload_n 2, 1) := by decide +kernel
theorem dX5_town_144 : decode (mC mX5_town) 144 = .ok (.ireturn, 1) := by decide +kernel
theorem dX5_door_0 : decode (mC mX5_door) 0 = .ok (.aload_n 0, 1) := by decide +kernel
theorem dX5_door_1 : decode (mC mX5_door) 1 = .ok (.iload_n 1, 1) := by decide +kernel
theorem dX5_door_2 : decode (mC mX5_door) 2 = .ok (.invokevirtual 125, 3) := by decide +kernel
theorem dX5_door_5 : decode (mC mX5_door) 5 = .ok (.ifCond .ne 9, 3) := by decide +kernel
theorem dX5_door_8 : decode (mC mX5_door) 8 = .ok (.aload_n 0, 1) := by decide +kernel
theorem dX5_door_9 : decode (mC mX5_door) 9 = .ok (.iconst (-1), 1) := by decide +kernel
theorem dX5_door_10 : decode (mC mX5_door) 10 = .ok (.invokevirtual 39, 3) := by decide +kernel
theorem dX5_door_13 : decode (mC mX5_door) 13 = .ok (.ireturn, 1) := by decide +kernel
theorem dX5_door_14 : decode (mC mX5_door) 14 = .ok (.iload_n 2, 1) := by decide +kernel
theorem dX5_door_15 : decode (mC mX5_door) 15 = .ok (.iconst 0, 1) := by decide +kernel
theorem dX5_door_16 : decode (mC mX5_door) 16 = .ok (.iconst 4, 1) := by decide +kernel
theorem dX5_door_17 : decode (mC mX5_door) 17 = .ok (.invokestatic 43, 3) := by decide +kernel
theorem dX5_door_20 : decode (mC mX5_door) 20 = .ok (.ifCond .eq 16, 3) := by decide +kernel
theorem dX5_door_23 : decode (mC mX5_door) 23 = .ok (.aload_n 0, 1) := by decide +kernel
theorem dX5_door_24 : decode (mC mX5_door) 24 = .ok (.getfield 9, 3) := by decide +kernel
theorem dX5_door_27 : decode (mC mX5_door) 27 = .ok (.iload_n 1, 1) := by decide +kernel
theorem dX5_door_28 : decode (mC mX5_door) 28 = .ok (.iload_n 2, 1) := by decide +kernel
theorem dX5_door_29 : decode (mC mX5_door) 29 = .ok (.invokestatic 55, 3) := by decide +kernel
theorem dX5_door_32 : decode (mC mX5_door) 32 = .ok (.iaload, 1) := by decide +kernel
theorem dX5_door_33 : decode (mC mX5_door) 33 = .ok (.goto 9, 3) := by decide +kernel
theorem dX5_door_36 : decode (mC mX5_door) 36 = .ok (.aload_n 0, 1) := by decide +kernel
theorem dX5_door_37 : decode (mC mX5_door) 37 = .ok (.bipush (-2), 2) := by decide +kernel
theorem dX5_door_39 : decode (mC mX5_door) 39 = .ok (.invokevirtual 39, 3) := by decide +kernel
theorem dX5_door_42 : decode (mC mX5_door) 42 = .ok (.ireturn, 1) := by decide +kernel
theorem dX5_person_0 : decode (mC mX5_person) 0 = .ok (.aload_n 0, 1) := by decide +kernel
theorem dX5_person_1 : decode (mC mX5_person) 1 = .ok (.iload_n 1, 1) := by decide +kernel
theorem dX5_person_2 : decode (mC mX5_person) 2 = .ok (.invokevirtual 122, 3) := by decide +kernel
theorem dX5_person_5 : decode (mC mX5_person) 5 = .ok (.ifCond .ne 9, 3) := by decide +kernel
theorem dX5_person_8 : decode (mC mX5_person) 8 = .ok (.aload_n 0, 1) := by decide +kernel
theorem dX5_person_9 : decode (mC mX5_person) 9 = .ok (.iconst (-1), 1) := by decide +kernel
theorem dX5_person_10 : decode (mC mX5_person) 10 = .ok (.invokevirtual 39, 3) := by decide +kernel
theorem dX5_person_13 : decode (mC mX5_person) 13 = .ok (.ireturn, 1) := by decide +kernel
theorem dX5_person_14 : decode (mC mX5_person) 14 = .ok (.iload_n 2, 1) := by decide +kernel
theorem dX5_person_15 : decode (mC mX5_person) 15 = .ok (.iconst 0, 1) := by decide +kernel
theorem dX5_person_16 : decode (mC mX5_person) 16 = .ok (.iconst 2, 1) := by decide +kernel
theorem dX5_person_17 : decode (mC mX5_person) 17 = .ok (.invokestatic 43, 3) := by decide +kernel
theorem dX5_person_20 : decode (mC mX5_person) 20 = .ok (.ifCond .eq 14, 3) := by decide +kernel
theorem dX5_person_23 : decode (mC mX5_person) 23 = .ok (.aload_n 0, 1) := by decide +kernel
theorem dX5_person_24 : decode (mC mX5_person) 24 = .ok (.getfield 9, 3) := by decide +kernel
theorem dX5_person_27 : decode (mC mX5_person) 27 = .ok (.iload_n 1, 1) := by decide +kernel
theorem dX5_person_28 : decode (mC mX5_person) 28 = .ok (.iload_n 2, 1) := by decide +kernel
theorem dX5_person_29 : decode (mC mX5_person) 29 = .ok (.invokestatic 51, 3) := by decide +kernel
theorem dX5_person_32 : decode (mC mX5_person) 32 = .ok (.iaload, 1) := by decide +kernel
theorem dX5_person_33 : decode (mC mX5_person) 33 = .ok (.ireturn, 1) := by decide +kernel
theorem dX5_person_34 : decode (mC mX5_person) 34 = .ok (.iload_n 2, 1) := by decide +kernel
theorem dX5_person_35 : decode (mC mX5_person) 35 = .ok (.iconst 3, 1) := by decide +kernel
theorem dX5_person_36 : decode (mC mX5_person) 36 = .ok (.if_icmp .eq 10, 3) := by decide +kernel
theorem dX5_person_39 : decode (mC mX5_person) 39 = .ok (.aload_n 0, 1) := by decide +kernel
theorem dX5_person_40 : decode (mC mX5_person) 40 = .ok (.bipush (-2), 2) := by decide +kernel
theorem dX5_person_42 : decode (mC mX5_person) 42 = .ok (.invokevirtual 39, 3) := by decide +kernel
theorem dX5_person_45 : decode (mC mX5_person) 45 = .ok (.ireturn, 1) := by decide +kernel
theorem dX5_person_46 : decode (mC mX5_person) 46 = .ok (.aload_n 0, 1) := by decide +kernel
theorem dX5_person_47 : decode (mC mX5_person) 47 = .ok (.aload_n 0, 1) := by decide +kernel
theorem dX5_person_48 : decode (mC mX5_person) 48 = .ok (.getfield 9, 3) := by decide +kernel
theorem dX5_person_51 : decode (mC mX5_person) 51 = .ok (.invokevirtual 83, 3) := by decide +kernel
theorem dX5_person_54 : decode (mC mX5_person) 54 = .ok (.aload_n 0, 1) := by decide +kernel
theorem dX5_person_55 : decode (mC mX5_person) 55 = .ok (.aload_n 0, 1) := by decide +kernel
theorem dX5_person_56 : decode (mC mX5_person) 56 = .ok (.getfield 9, 3) := by decide +kernel
theorem dX5_person_59 : decode (mC mX5_person) 59 = .ok (.iload_n 1, 1) := by decide +kernel
theorem dX5_person_60 : decode (mC mX5_person) 60 = .ok (.aload_n 0, 1) := by decide +kernel
theorem dX5_person_61 : decode (mC mX5_person) 61 = .ok (.getfield 9, 3) := by decide +kernel
theorem dX5_person_64 : decode (mC mX5_person) 64 = .ok (.iconst 2, 1) := by decide +kernel
theorem dX5_person_65 : decode (mC mX5_person) 65 = .ok (.iaload, 1) := by decide +kernel
theorem dX5_person_66 : decode (mC mX5_person) 66 = .ok (.iconst 1, 1) := by decide +kernel
theorem dX5_person_67 : decode (mC mX5_person) 67 = .ok (.iadd, 1) := by decide +kernel
theorem dX5_person_68 : decode (mC mX5_person) 68 = .ok (.invokevirtual 79, 3) := by decide +kernel
theorem dX5_person_71 : decode (mC mX5_person) 71 = .ok (.ireturn, 1) := by decide +kernel
theorem dX5_wedges_0 : decode (mC mX5_wedges) 0 = .ok (.aload_n 0, 1) := by decide +kernel
theorem dX5_wedges_1 : decode (mC mX5_wedges) 1 = .ok (.iload_n 1, 1) := by decide +kernel
theorem dX5_wedges_2 : decode (mC mX5_wedges) 2 = .ok (.invokevirtual 125, 3) := by decide +kernel
theorem dX5_wedges_5 : decode (mC mX5_wedges) 5 = .ok (.ifCond .ne 9, 3) := by decide +kernel
theorem dX5_wedges_8 : decode (mC mX5_wedges) 8 = .ok (.aload_n 0, 1) := by decide +kernel
theorem dX5_wedges_9 : decode (mC mX5_wedges) 9 = .ok (.iconst (-1), 1) := by decide +kernel
theorem dX5_wedges_10 : decode (mC mX5_wedges) 10 = .ok (.invokevirtual 39, 3) := by decide +kernel
theorem dX5_wedges_13 : decode (mC mX5_wedges) 13 = .ok (.ireturn, 1) := by decide +kernel
theorem dX5_wedges_14 : decode (mC mX5_wedges) 14 = .ok (.aload_n 0, 1) := by decide +kernel
theorem dX5_wedges_15 : decode (mC mX5_wedges) 15 = .ok (.getfield 9, 3) := by decide +kernel
theorem dX5_wedges_18 : decode (mC mX5_wedges) 18 = .ok (.iload_n 1, 1) := by decide +kernel
theorem dX5_wedges_19 : decode (mC mX5_wedges) 19 = .ok (.iconst 4, 1) := by decide +kernel
theorem dX5_wedges_20 : decode (mC mX5_wedges) 20 = .ok (.invokestatic 55, 3) := by decide +kernel
theorem dX5_wedges_23 : decode (mC mX5_wedges) 23 = .ok (.dup2, 1) := by decide +kernel
theorem dX5_wedges_24 : decode (mC mX5_wedges) 24 = .ok (.iaload, 1) := by decide +kernel
theorem dX5_wedges_25 : decode (mC mX5_wedges) 25 = .ok (.iconst 1, 1) := by decide +kernel
theorem dX5_wedges_26 : decode (mC mX5_wedges) 26 = .ok (.ixor, 1) := by decide +kernel
theorem dX5_wedges_27 : decode (mC mX5_wedges) 27 = .ok (.iastore, 1) := by decide +kernel
theorem dX5_wedges_28 : decode (mC mX5_wedges) 28 = .ok (.aload_n 0, 1) := by decide +kernel
theorem dX5_wedges_29 : decode (mC mX5_wedges) 29 = .ok (.getfield 9, 3) := by decide +kernel
theorem dX5_wedges_32 : decode (mC mX5_wedges) 32 = .ok (.iload_n 1, 1) := by decide +kernel
theorem dX5_wedges_33 : decode (mC mX5_wedges) 33 = .ok (.iconst 4, 1) := by decide +kernel
theorem dX5_wedges_34 : decode (mC mX5_wedges) 34 = .ok (.invokestatic 55, 3) := by decide +kernel
theorem dX5_wedges_37 : decode (mC mX5_wedges) 37 = .ok (.iaload, 1) := by decide +kernel
theorem dX5_wedges_38 : decode (mC mX5_wedges) 38 = .ok (.ireturn, 1) := by decide +kernel
theorem dX5_turns_0 : decode (mC mX5_turns) 0 = .ok (.aload_n 0, 1) := by decide +kernel
theorem dX5_turns_1 : decode (mC mX5_turns) 1 = .ok (.iload_n 1, 1) := by decide +kernel
theorem dX5_turns_2 : decode (mC mX5_turns) 2 = .ok (.invokevirtual 125, 3) := by decide +kernel
theorem dX5_turns_5 : decode (mC mX5_turns) 5 = .ok (.ifCond .ne 9, 3) := by decide +kernel
theorem dX5_turns_8 : decode (mC mX5_turns) 8 = .ok (.aload_n 0, 1) := by decide +kernel
theorem dX5_turns_9 : decode (mC mX5_turns) 9 = .ok (.iconst (-1), 1) := by decide +kernel
theorem dX5_turns_10 : decode (mC mX5_turns) 10 = .ok (.invokevirtual 39, 3) := by decide +kernel
theorem dX5_turns_13 : decode (mC mX5_turns) 13 = .ok (.ireturn, 1) := by decide +kernel
theorem dX5_turns_14 : decode (mC mX5_turns) 14 = .ok (.aload_n 0, 1) := by decide +kernel
theorem dX5_turns_15 : decode (mC mX5_turns) 15 = .ok (.getfield 9, 3) := by decide +kernel
theorem dX5_turns_18 : decode (mC mX5_turns) 18 = .ok (.iload_n 1, 1) := by decide +kernel
theorem dX5_turns_19 : decode (mC mX5_turns) 19 = .ok (.invokestatic 128, 3) := by decide +kernel
theorem dX5_turns_22 : decode (mC mX5_turns) 22 = .ok (.aload_n 0, 1) := by decide +kernel
theorem dX5_turns_23 : decode (mC mX5_turns) 23 = .ok (.getfield 9, 3) := by decide +kernel
theorem dX5_turns_26 : decode (mC mX5_turns) 26 = .ok (.iload_n 1, 1) := by decide +kernel
theorem dX5_turns_27 : decode (mC mX5_turns) 27 = .ok (.iconst 3, 1) := by decide +kernel
theorem dX5_turns_28 : decode (mC mX5_turns) 28 = .ok (.invokestatic 55, 3) := by decide +kernel
theorem dX5_turns_31 : decode (mC mX5_turns) 31 = .ok (.iaload, 1) := by decide +kernel
theorem dX5_turns_32 : decode (mC mX5_turns) 32 = .ok (.ireturn, 1) := by decide +kernel
theorem dX5_areWrong_0 : decode (mC mX5_areWrong) 0 = .ok (.aload_n 0, 1) := by decide +kernel
theorem dX5_areWrong_1 : decode (mC mX5_areWrong) 1 = .ok (.iload_n 1, 1) := by decide +kernel
theorem dX5_areWrong_2 : decode (mC mX5_areWrong) 2 = .ok (.invokevirtual 122, 3) := by decide +kernel
theorem dX5_areWrong_5 : decode (mC mX5_areWrong) 5 = .ok (.ifCond .eq 10, 3) := by decide +kernel
theorem dX5_areWrong_8 : decode (mC mX5_areWrong) 8 = .ok (.iload_n 2, 1) := by decide +kernel
theorem dX5_areWrong_9 : decode (mC mX5_areWrong) 9 = .ok (.invokestatic 111, 3) := by decide +kernel
theorem dX5_areWrong_12 : decode (mC mX5_areWrong) 12 = .ok (.ifCond .ne 7, 3) := by decide +kernel
theorem dX5_areWrong_15 : decode (mC mX5_areWrong) 15 = .ok (.iconst 1, 1) := by decide +kernel
theorem dX5_areWrong_16 : decode (mC mX5_areWrong) 16 = .ok (.goto 4, 3) := by decide +kernel
theorem dX5_areWrong_19 : decode (mC mX5_areWrong) 19 = .ok (.iconst 0, 1) := by decide +kernel
theorem dX5_areWrong_20 : decode (mC mX5_areWrong) 20 = .ok (.ireturn, 1) := by decide +kernel
theorem dX5_sets_0 : decode (mC mX5_sets) 0 = .ok (.aload_n 0, 1) := by decide +kernel
theorem dX5_sets_1 : decode (mC mX5_sets) 1 = .ok (.iload_n 1, 1) := by decide +kernel
theorem dX5_sets_2 : decode (mC mX5_sets) 2 = .ok (.iload_n 3, 1) := by decide +kernel
theorem dX5_sets_3 : decode (mC mX5_sets) 3 = .ok (.invokevirtual 145, 3) := by decide +kernel
theorem dX5_sets_6 : decode (mC mX5_sets) 6 = .ok (.ifCond .eq 9, 3) := by decide +kernel
theorem dX5_sets_9 : decode (mC mX5_sets) 9 = .ok (.aload_n 0, 1) := by decide +kernel
theorem dX5_sets_10 : decode (mC mX5_sets) 10 = .ok (.iconst (-1), 1) := by decide +kernel
theorem dX5_sets_11 : decode (mC mX5_sets) 11 = .ok (.invokevirtual 39, 3) := by decide +kernel
theorem dX5_sets_14 : decode (mC mX5_sets) 14 = .ok (.ireturn, 1) := by decide +kernel
theorem dX5_sets_15 : decode (mC mX5_sets) 15 = .ok (.aload_n 0, 1) := by decide +kernel
theorem dX5_sets_16 : decode (mC mX5_sets) 16 = .ok (.getfield 9, 3) := by decide +kernel
theorem dX5_sets_19 : decode (mC mX5_sets) 19 = .ok (.iload_n 1, 1) := by decide +kernel
theorem dX5_sets_20 : decode (mC mX5_sets) 20 = .ok (.iload_n 2, 1) := by decide +kernel
theorem dX5_sets_21 : decode (mC mX5_sets) 21 = .ok (.invokestatic 51, 3) := by decide +kernel
theorem dX5_sets_24 : decode (mC mX5_sets) 24 = .ok (.iaload, 1) := by decide +kernel
theorem dX5_sets_25 : decode (mC mX5_sets) 25 = .ok (.istore 4, 2) := by decide +kernel
theorem dX5_sets_27 : decode (mC mX5_sets) 27 = .ok (.aload_n 0, 1) := by decide +kernel
theorem dX5_sets_28 : decode (mC mX5_sets) 28 = .ok (.getfield 9, 3) := by decide +kernel
theorem dX5_sets_31 : decode (mC mX5_sets) 31 = .ok (.iload_n 1, 1) := by decide +kernel
theorem dX5_sets_32 : decode (mC mX5_sets) 32 = .ok (.iload_n 2, 1) := by decide +kernel
theorem dX5_sets_33 : decode (mC mX5_sets) 33 = .ok (.invokestatic 51, 3) := by decide +kernel
theorem dX5_sets_36 : decode (mC mX5_sets) 36 = .ok (.iload_n 3, 1) := by decide +kernel
theorem dX5_sets_37 : decode (mC mX5_sets) 37 = .ok (.iastore, 1) := by decide +kernel
theorem dX5_sets_38 : decode (mC mX5_sets) 38 = .ok (.iload 4, 2) := by decide +kernel
theorem dX5_sets_40 : decode (mC mX5_sets) 40 = .ok (.ireturn, 1) := by decide +kernel
theorem dX5_stands_0 : decode (mC mX5_stands) 0 = .ok (.aload_n 0, 1) := by decide +kernel
theorem dX5_stands_1 : decode (mC mX5_stands) 1 = .ok (.iload_n 1, 1) := by decide +kernel
theorem dX5_stands_2 : decode (mC mX5_stands) 2 = .ok (.iconst 0, 1) := by decide +kernel
theorem dX5_stands_3 : decode (mC mX5_stands) 3 = .ok (.iload_n 2, 1) := by decide +kernel
theorem dX5_stands_4 : decode (mC mX5_stands) 4 = .ok (.invokevirtual 148, 3) := by decide +kernel
theorem dX5_stands_7 : decode (mC mX5_stands) 7 = .ok (.ireturn, 1) := by decide +kernel
theorem dX5_wants_0 : decode (mC mX5_wants) 0 = .ok (.aload_n 0, 1) := by decide +kernel
theorem dX5_wants_1 : decode (mC mX5_wants) 1 = .ok (.iload_n 1, 1) := by decide +kernel
theorem dX5_wants_2 : decode (mC mX5_wants) 2 = .ok (.iconst 1, 1) := by decide +kernel
theorem dX5_wants_3 : decode (mC mX5_wants) 3 = .ok (.iload_n 2, 1) := by decide +kernel
theorem dX5_wants_4 : decode (mC mX5_wants) 4 = .ok (.invokevirtual 148, 3) := by decide +kernel
theorem dX5_wants_7 : decode (mC mX5_wants) 7 = .ok (.ireturn, 1) := by decide +kernel
theorem dX5_wrongBy_0 : decode (mC mX5_wrongBy) 0 = .ok (.iload_n 0, 1) := by decide +kernel
theorem dX5_wrongBy_1 : decode (mC mX5_wrongBy) 1 = .ok (.iload_n 1, 1) := by decide +kernel
theorem dX5_wrongBy_2 : decode (mC mX5_wrongBy) 2 = .ok (.if_icmp .ge 8, 3) := by decide +kernel
theorem dX5_wrongBy_5 : decode (mC mX5_wrongBy) 5 = .ok (.bipush (-4), 2) := by decide +kernel
theorem dX5_wrongBy_7 : decode (mC mX5_wrongBy) 7 = .ok (.goto 14, 3) := by decide +kernel
theorem dX5_wrongBy_10 : decode (mC mX5_wrongBy) 10 = .ok (.iload_n 0, 1) := by decide +kernel
theorem dX5_wrongBy_11 : decode (mC mX5_wrongBy) 11 = .ok (.iload_n 2, 1) := by decide +kernel
theorem dX5_wrongBy_12 : decode (mC mX5_wrongBy) 12 = .ok (.if_icmp .le 8, 3) := by decide +kernel
theorem dX5_wrongBy_15 : decode (mC mX5_wrongBy) 15 = .ok (.bipush (-6), 2) := by decide +kernel
theorem dX5_wrongBy_17 : decode (mC mX5_wrongBy) 17 = .ok (.goto 4, 3) := by decide +kernel
theorem dX5_wrongBy_20 : decode (mC mX5_wrongBy) 20 = .ok (.iconst 0, 1) := by decide +kernel
theorem dX5_wrongBy_21 : decode (mC mX5_wrongBy) 21 = .ok (.ireturn, 1) := by decide +kernel
theorem dX5_moods_0 : decode (mC mX5_moods) 0 = .ok (.aload_n 0, 1) := by decide +kernel
theorem dX5_moods_1 : decode (mC mX5_moods) 1 = .ok (.iload_n 1, 1) := by decide +kernel
theorem dX5_moods_2 : decode (mC mX5_moods) 2 = .ok (.invokevirtual 122, 3) := by decide +kernel
theorem dX5_moods_5 : decode (mC mX5_moods) 5 = .ok (.ifCond .eq 13, 3) := by decide +kernel
theorem dX5_moods_8 : decode (mC mX5_moods) 8 = .ok (.iload_n 2, 1) := by decide +kernel
theorem dX5_moods_9 : decode (mC mX5_moods) 9 = .ok (.iconst 0, 1) := by decide +kernel
theorem dX5_moods_10 : decode (mC mX5_moods) 10 = .ok (.bipush 9, 2) := by decide +kernel
theorem dX5_moods_12 : decode (mC mX5_moods) 12 = .ok (.invokestatic 152, 3) := by decide +kernel
theorem dX5_moods_15 : decode (mC mX5_moods) 15 = .ok (.goto 4, 3) := by decide +kernel
theorem dX5_moods_18 : decode (mC mX5_moods) 18 = .ok (.iconst (-1), 1) := by decide +kernel
theorem dX5_moods_19 : decode (mC mX5_moods) 19 = .ok (.istore_n 3, 1) := by decide +kernel
theorem dX5_moods_20 : decode (mC mX5_moods) 20 = .ok (.iload_n 3, 1) := by decide +kernel
theorem dX5_moods_21 : decode (mC mX5_moods) 21 = .ok (.ifCond .eq 9, 3) := by decide +kernel
theorem dX5_moods_24 : decode (mC mX5_moods) 24 = .ok (.aload_n 0, 1) := by decide +kernel
theorem dX5_moods_25 : decode (mC mX5_moods) 25 = .ok (.iload_n 3, 1) := by decide +kernel
theorem dX5_moods_26 : decode (mC mX5_moods) 26 = .ok (.invokevirtual 39, 3) := by decide +kernel
theorem dX5_moods_29 : decode (mC mX5_moods) 29 = .ok (.ireturn, 1) := by decide +kernel
theorem dX5_moods_30 : decode (mC mX5_moods) 30 = .ok (.aload_n 0, 1) := by decide +kernel
theorem dX5_moods_31 : decode (mC mX5_moods) 31 = .ok (.getfield 9, 3) := by decide +kernel
theorem dX5_moods_34 : decode (mC mX5_moods) 34 = .ok (.iload_n 1, 1) := by decide +kernel
theorem dX5_moods_35 : decode (mC mX5_moods) 35 = .ok (.iconst 2, 1) := by decide +kernel
theorem dX5_moods_36 : decode (mC mX5_moods) 36 = .ok (.invokestatic 51, 3) := by decide +kernel
theorem dX5_moods_39 : decode (mC mX5_moods) 39 = .ok (.iaload, 1) := by decide +kernel
theorem dX5_moods_40 : decode (mC mX5_moods) 40 = .ok (.istore 4, 2) := by decide +kernel
theorem dX5_moods_42 : decode (mC mX5_moods) 42 = .ok (.aload_n 0, 1) := by decide +kernel
theorem dX5_moods_43 : decode (mC mX5_moods) 43 = .ok (.getfield 9, 3) := by decide +kernel
theorem dX5_moods_46 : decode (mC mX5_moods) 46 = .ok (.iload_n 1, 1) := by decide +kernel
theorem dX5_moods_47 : decode (mC mX5_moods) 47 = .ok (.iconst 2, 1) := by decide +kernel
theorem dX5_moods_48 : decode (mC mX5_moods) 48 = .ok (.invokestatic 51, 3) := by decide +kernel
theorem dX5_moods_51 : decode (mC mX5_moods) 51 = .ok (.iload_n 2, 1) := by decide +kernel
theorem dX5_moods_52 : decode (mC mX5_moods) 52 = .ok (.iastore, 1) := by decide +kernel
theorem dX5_moods_53 : decode (mC mX5_moods) 53 = .ok (.iload 4, 2) := by decide +kernel
theorem dX5_moods_55 : decode (mC mX5_moods) 55 = .ok (.ireturn, 1) := by decide +kernel
theorem dX5_changes_0 : decode (mC mX5_changes) 0 = .ok (.aload_n 0, 1) := by decide +kernel
theorem dX5_changes_1 : decode (mC mX5_changes) 1 = .ok (.iload_n 1, 1) := by decide +kernel
theorem dX5_changes_2 : decode (mC mX5_changes) 2 = .ok (.invokevirtual 125, 3) := by decide +kernel
theorem dX5_changes_5 : decode (mC mX5_changes) 5 = .ok (.ifCond .ne 7, 3) := by decide +kernel
theorem dX5_changes_8 : decode (mC mX5_changes) 8 = .ok (.iconst (-1), 1) := by decide +kernel
theorem dX5_changes_9 : decode (mC mX5_changes) 9 = .ok (.goto 24, 3) := by decide +kernel
theorem dX5_changes_12 : decode (mC mX5_changes) 12 = .ok (.iload_n 2, 1) := by decide +kernel
theorem dX5_changes_13 : decode (mC mX5_changes) 13 = .ok (.iconst 0, 1) := by decide +kernel
theorem dX5_changes_14 : decode (mC mX5_changes) 14 = .ok (.iconst 5, 1) := by decide +kernel
theorem dX5_changes_15 : decode (mC mX5_changes) 15 = .ok (.invokestatic 43, 3) := by decide +kernel
theorem dX5_changes_18 : decode (mC mX5_changes) 18 = .ok (.ifCond .ne 8, 3) := by decide +kernel
theorem dX5_changes_21 : decode (mC mX5_changes) 21 = .ok (.bipush (-2), 2) := by decide +kernel
theorem dX5_changes_23 : decode (mC mX5_changes) 23 = .ok (.goto 10, 3) := by decide +kernel
theorem dX5_changes_26 : decode (mC mX5_changes) 26 = .ok (.iload_n 3, 1) := by decide +kernel
theorem dX5_changes_27 : decode (mC mX5_changes) 27 = .ok (.iconst 0, 1) := by decide +kernel
theorem dX5_changes_28 : decode (mC mX5_changes) 28 = .ok (.bipush 9, 2) := by decide +kernel
theorem dX5_changes_30 : decode (mC mX5_changes) 30 = .ok (.invokestatic 152, 3) := by decide +kernel
theorem dX5_changes_33 : decode (mC mX5_changes) 33 = .ok (.istore 4, 2) := by decide +kernel
theorem dX5_changes_35 : decode (mC mX5_changes) 35 = .ok (.iload 4, 2) := by decide +kernel
theorem dX5_changes_37 : decode (mC mX5_changes) 37 = .ok (.ifCond .eq 10, 3) := by decide +kernel
theorem dX5_changes_40 : decode (mC mX5_changes) 40 = .ok (.aload_n 0, 1) := by decide +kernel
theorem dX5_changes_41 : decode (mC mX5_changes) 41 = .ok (.iload 4, 2) := by decide +kernel
theorem dX5_changes_43 : decode (mC mX5_changes) 43 = .ok (.invokevirtual 39, 3) := by decide +kernel
theorem dX5_changes_46 : decode (mC mX5_changes) 46 = .ok (.ireturn, 1) := by decide +kernel
theorem dX5_changes_47 : decode (mC mX5_changes) 47 = .ok (.bipush 10, 2) := by decide +kernel
theorem dX5_changes_49 : decode (mC mX5_changes) 49 = .ok (.aload_n 0, 1) := by decide +kernel
theorem dX5_changes_50 : decode (mC mX5_changes) 50 = .ok (.getfield 9, 3) := by decide +kernel
theorem dX5_changes_53 : decode (mC mX5_changes) 53 = .ok (.iload_n 1, 1) := by decide +kernel
theorem dX5_changes_54 : decode (mC mX5_changes) 54 = .ok (.iconst 0, 1) := by decide +kernel
theorem dX5_changes_55 : decode (mC mX5_changes) 55 = .ok (.invokestatic 55, 3) := by decide +kernel
theorem dX5_changes_58 : decode (mC mX5_changes) 58 = .ok (.iaload, 1) := by decide +kernel
theorem dX5_changes_59 : decode (mC mX5_changes) 59 = .ok (.imul, 1) := by decide +kernel
theorem dX5_changes_60 : decode (mC mX5_changes) 60 = .ok (.aload_n 0, 1) := by decide +kernel
theorem dX5_changes_61 : decode (mC mX5_changes) 61 = .ok (.getfield 9, 3) := by decide +kernel
theorem dX5_changes_64 : decode (mC mX5_changes) 64 = .ok (.iload_n 1, 1) := by decide +kernel
theorem dX5_changes_65 : decode (mC mX5_changes) 65 = .ok (.iconst 1, 1) := by decide +kernel
theorem dX5_changes_66 : decode (mC mX5_changes) 66 = .ok (.invokestatic 55, 3) := by decide +kernel
theorem dX5_changes_69 : decode (mC mX5_changes) 69 = .ok (.iaload, 1) := by decide +kernel
theorem dX5_changes_70 : decode (mC mX5_changes) 70 = .ok (.iadd, 1) := by decide +kernel
theorem dX5_changes_71 : decode (mC mX5_changes) 71 = .ok (.istore 5, 2) := by decide +kernel
theorem dX5_changes_73 : decode (mC mX5_changes) 73 = .ok (.aload_n 0, 1) := by decide +kernel
theorem dX5_changes_74 : decode (mC mX5_changes) 74 = .ok (.getfield 9, 3) := by decide +kernel
theorem dX5_changes_77 : decode (mC mX5_changes) 77 = .ok (.iload_n 1, 1) := by decide +kernel
theorem dX5_changes_78 : decode (mC mX5_changes) 78 = .ok (.iconst 0, 1) := by decide +kernel
theorem dX5_changes_79 : decode (mC mX5_changes) 79 = .ok (.invokestatic 55, 3) := by decide +kernel
theorem dX5_changes_82 : decode (mC mX5_changes) 82 = .ok (.iload_n 2, 1) := by decide +kernel
theorem dX5_changes_83 : decode (mC mX5_changes) 83 = .ok (.iastore, 1) := by decide +kernel
theorem dX5_changes_84 : decode (mC mX5_changes) 84 = .ok (.aload_n 0, 1) := by decide +kernel
theorem dX5_changes_85 : decode (mC mX5_changes) 85 = .ok (.getfield 9, 3) := by decide +kernel
theorem dX5_changes_88 : decode (mC mX5_changes) 88 = .ok (.iload_n 1, 1) := by decide +kernel
theorem dX5_changes_89 : decode (mC mX5_changes) 89 = .ok (.iconst 1, 1) := by decide +kernel
theorem dX5_changes_90 : decode (mC mX5_changes) 90 = .ok (.invokestatic 55, 3) := by decide +kernel
theorem dX5_changes_93 : decode (mC mX5_changes) 93 = .ok (.iload_n 3, 1) := by decide +kernel
theorem dX5_changes_94 : decode (mC mX5_changes) 94 = .ok (.iastore, 1) := by decide +kernel
theorem dX5_changes_95 : decode (mC mX5_changes) 95 = .ok (.iload 5, 2) := by decide +kernel
theorem dX5_changes_97 : decode (mC mX5_changes) 97 = .ok (.ireturn, 1) := by decide +kernel
theorem dX5_hours_0 : decode (mC mX5_hours) 0 = .ok (.iload_n 1, 1) := by decide +kernel
theorem dX5_hours_1 : decode (mC mX5_hours) 1 = .ok (.iconst 1, 1) := by decide +kernel
theorem dX5_hours_2 : decode (mC mX5_hours) 2 = .ok (.if_icmp .ge 10, 3) := by decide +kernel
theorem dX5_hours_5 : decode (mC mX5_hours) 5 = .ok (.aload_n 0, 1) := by decide +kernel
theorem dX5_hours_6 : decode (mC mX5_hours) 6 = .ok (.bipush (-4), 2) := by decide +kernel
theorem dX5_hours_8 : decode (mC mX5_hours) 8 = .ok (.invokevirtual 39, 3) := by decide +kernel
theorem dX5_hours_11 : decode (mC mX5_hours) 11 = .ok (.ireturn, 1) := by decide +kernel
theorem dX5_hours_12 : decode (mC mX5_hours) 12 = .ok (.iload_n 1, 1) := by decide +kernel
theorem dX5_hours_13 : decode (mC mX5_hours) 13 = .ok (.bipush 60, 2) := by decide +kernel
theorem dX5_hours_15 : decode (mC mX5_hours) 15 = .ok (.if_icmp .gt 17, 3) := by decide +kernel
theorem dX5_hours_18 : decode (mC mX5_hours) 18 = .ok (.aload_n 0, 1) := by decide +kernel
theorem dX5_hours_19 : decode (mC mX5_hours) 19 = .ok (.getfield 9, 3) := by decide +kernel
theorem dX5_hours_22 : decode (mC mX5_hours) 22 = .ok (.iconst 2, 1) := by decide +kernel
theorem dX5_hours_23 : decode (mC mX5_hours) 23 = .ok (.iaload, 1) := by decide +kernel
theorem dX5_hours_24 : decode (mC mX5_hours) 24 = .ok (.iload_n 1, 1) := by decide +kernel
theorem dX5_hours_25 : decode (mC mX5_hours) 25 = .ok (.iadd, 1) := by decide +kernel
theorem dX5_hours_26 : decode (mC mX5_hours) 26 = .ok (.sipush 999, 3) := by decide +kernel
theorem dX5_hours_29 : decode (mC mX5_hours) 29 = .ok (.if_icmp .le 10, 3) := by decide +kernel
theorem dX5_hours_32 : decode (mC mX5_hours) 32 = .ok (.aload_n 0, 1) := by decide +kernel
theorem dX5_hours_33 : decode (mC mX5_hours) 33 = .ok (.bipush (-6), 2) := by decide +kernel
theorem dX5_hours_35 : decode (mC mX5_hours) 35 = .ok (.invokevirtual 39, 3) := by decide +kernel
theorem dX5_hours_38 : decode (mC mX5_hours) 38 = .ok (.ireturn, 1) := by decide +kernel
theorem dX5_hours_39 : decode (mC mX5_hours) 39 = .ok (.aload_n 0, 1) := by decide +kernel
theorem dX5_hours_40 : decode (mC mX5_hours) 40 = .ok (.aload_n 0, 1) := by decide +kernel
theorem dX5_hours_41 : decode (mC mX5_hours) 41 = .ok (.getfield 9, 3) := by decide +kernel
theorem dX5_hours_44 : decode (mC mX5_hours) 44 = .ok (.iload_n 1, 1) := by decide +kernel
theorem dX5_hours_45 : decode (mC mX5_hours) 45 = .ok (.invokevirtual 132, 3) := by decide +kernel
theorem dX5_hours_48 : decode (mC mX5_hours) 48 = .ok (.aload_n 0, 1) := by decide +kernel
theorem dX5_hours_49 : decode (mC mX5_hours) 49 = .ok (.getfield 9, 3) := by decide +kernel
theorem dX5_hours_52 : decode (mC mX5_hours) 52 = .ok (.invokestatic 155, 3) := by decide +kernel
theorem dX5_hours_55 : decode (mC mX5_hours) 55 = .ok (.invokestatic 159, 3) := by decide +kernel
theorem dX5_hours_58 : decode (mC mX5_hours) 58 = .ok (.ireturn, 1) := by decide +kernel
theorem dX5_takes_0 : decode (mC mX5_takes) 0 = .ok (.aload_n 0, 1) := by decide +kernel
theorem dX5_takes_1 : decode (mC mX5_takes) 1 = .ok (.getfield 9, 3) := by decide +kernel
theorem dX5_takes_4 : decode (mC mX5_takes) 4 = .ok (.aload_n 0, 1) := by decide +kernel
theorem dX5_takes_5 : decode (mC mX5_takes) 5 = .ok (.getfield 13, 3) := by decide +kernel
theorem dX5_takes_8 : decode (mC mX5_takes) 8 = .ok (.invokestatic 138, 3) := by decide +kernel
theorem dX5_takes_11 : decode (mC mX5_takes) 11 = .ok (.aload_n 0, 1) := by decide +kernel
theorem dX5_takes_12 : decode (mC mX5_takes) 12 = .ok (.aload_n 0, 1) := by decide +kernel
theorem dX5_takes_13 : decode (mC mX5_takes) 13 = .ok (.getfield 13, 3) := by decide +kernel
theorem dX5_takes_16 : decode (mC mX5_takes) 16 = .ok (.iload_n 1, 1) := by decide +kernel
theorem dX5_takes_17 : decode (mC mX5_takes) 17 = .ok (.invokevirtual 132, 3) := by decide +kernel
theorem dX5_takes_20 : decode (mC mX5_takes) 20 = .ok (.return_, 1) := by decide +kernel
theorem dX5_personThen_0 : decode (mC mX5_personThen) 0 = .ok (.aload_n 0, 1) := by decide +kernel
theorem dX5_personThen_1 : decode (mC mX5_personThen) 1 = .ok (.iload_n 1, 1) := by decide +kernel
theorem dX5_personThen_2 : decode (mC mX5_personThen) 2 = .ok (.invokevirtual 122, 3) := by decide +kernel
theorem dX5_personThen_5 : decode (mC mX5_personThen) 5 = .ok (.ifCond .eq 13, 3) := by decide +kernel
theorem dX5_personThen_8 : decode (mC mX5_personThen) 8 = .ok (.iload_n 2, 1) := by decide +kernel
theorem dX5_personThen_9 : decode (mC mX5_personThen) 9 = .ok (.iconst 0, 1) := by decide +kernel
theorem dX5_personThen_10 : decode (mC mX5_personThen) 10 = .ok (.bipush 60, 2) := by decide +kernel
theorem dX5_personThen_12 : decode (mC mX5_personThen) 12 = .ok (.invokestatic 152, 3) := by decide +kernel
theorem dX5_personThen_15 : decode (mC mX5_personThen) 15 = .ok (.goto 4, 3) := by decide +kernel
theorem dX5_personThen_18 : decode (mC mX5_personThen) 18 = .ok (.iconst (-1), 1) := by decide +kernel
theorem dX5_personThen_19 : decode (mC mX5_personThen) 19 = .ok (.istore 4, 2) := by decide +kernel
theorem dX5_personThen_21 : decode (mC mX5_personThen) 21 = .ok (.iload 4, 2) := by decide +kernel
theorem dX5_personThen_23 : decode (mC mX5_personThen) 23 = .ok (.ifCond .ne 16, 3) := by decide +kernel
theorem dX5_personThen_26 : decode (mC mX5_personThen) 26 = .ok (.iload_n 3, 1) := by decide +kernel
theorem dX5_personThen_27 : decode (mC mX5_personThen) 27 = .ok (.iconst 0, 1) := by decide +kernel
theorem dX5_personThen_28 : decode (mC mX5_personThen) 28 = .ok (.iconst 1, 1) := by decide +kernel
theorem dX5_personThen_29 : decode (mC mX5_personThen) 29 = .ok (.invokestatic 43, 3) := by decide +kernel
theorem dX5_personThen_32 : decode (mC mX5_personThen) 32 = .ok (.ifCond .ne 7, 3) := by decide +kernel
theorem dX5_personThen_35 : decode (mC mX5_personThen) 35 = .ok (.bipush (-2), 2) := by decide +kernel
theorem dX5_personThen_37 : decode (mC mX5_personThen) 37 = .ok (.istore 4, 2) := by decide +kernel
theorem dX5_personThen_39 : decode (mC mX5_personThen) 39 = .ok (.iload 4, 2) := by decide +kernel
theorem dX5_personThen_41 : decode (mC mX5_personThen) 41 = .ok (.ifCond .eq 10, 3) := by decide +kernel
theorem dX5_personThen_44 : decode (mC mX5_personThen) 44 = .ok (.aload_n 0, 1) := by decide +kernel
theorem dX5_personThen_45 : decode (mC mX5_personThen) 45 = .ok (.iload 4, 2) := by decide +kernel
theorem dX5_personThen_47 : decode (mC mX5_personThen) 47 = .ok (.invokevirtual 39, 3) := by decide +kernel
theorem dX5_personThen_50 : decode (mC mX5_personThen) 50 = .ok (.ireturn, 1) := by decide +kernel
theorem dX5_personThen_51 : decode (mC mX5_personThen) 51 = .ok (.aload_n 0, 1) := by decide +kernel
theorem dX5_personThen_52 : decode (mC mX5_personThen) 52 = .ok (.iload_n 2, 1) := by decide +kernel
theorem dX5_personThen_53 : decode (mC mX5_personThen) 53 = .ok (.invokevirtual 162, 3) := by decide +kernel
theorem dX5_personThen_56 : decode (mC mX5_personThen) 56 = .ok (.aload_n 0, 1) := by decide +kernel
theorem dX5_personThen_57 : decode (mC mX5_personThen) 57 = .ok (.getfield 13, 3) := by decide +kernel
theorem dX5_personThen_60 : decode (mC mX5_personThen) 60 = .ok (.iload_n 1, 1) := by decide +kernel
theorem dX5_personThen_61 : decode (mC mX5_personThen) 61 = .ok (.iload_n 3, 1) := by decide +kernel
theorem dX5_personThen_62 : decode (mC mX5_personThen) 62 = .ok (.ifCond .ne 7, 3) := by decide +kernel
theorem dX5_personThen_65 : decode (mC mX5_personThen) 65 = .ok (.iconst 0, 1) := by decide +kernel
theorem dX5_personThen_66 : decode (mC mX5_personThen) 66 = .ok (.goto 4, 3) := by decide +kernel
theorem dX5_personThen_69 : decode (mC mX5_personThen) 69 = .ok (.iconst 2, 1) := by decide +kernel
theorem dX5_personThen_70 : decode (mC mX5_personThen) 70 = .ok (.invokestatic 51, 3) := by decide +kernel
theorem dX5_personThen_73 : decode (mC mX5_personThen) 73 = .ok (.iaload, 1) := by decide +kernel
theorem dX5_personThen_74 : decode (mC mX5_personThen) 74 = .ok (.ireturn, 1) := by decide +kernel
theorem dX5_letThen_0 : decode (mC mX5_letThen) 0 = .ok (.iload_n 1, 1) := by decide +kernel
theorem dX5_letThen_1 : decode (mC mX5_letThen) 1 = .ok (.iconst 0, 1) := by decide +kernel
theorem dX5_letThen_2 : decode (mC mX5_letThen) 2 = .ok (.bipush 60, 2) := by decide +kernel
theorem dX5_letThen_4 : decode (mC mX5_letThen) 4 = .ok (.invokestatic 152, 3) := by decide +kernel
theorem dX5_letThen_7 : decode (mC mX5_letThen) 7 = .ok (.istore_n 2, 1) := by decide +kernel
theorem dX5_letThen_8 : decode (mC mX5_letThen) 8 = .ok (.iload_n 2, 1) := by decide +kernel
theorem dX5_letThen_9 : decode (mC mX5_letThen) 9 = .ok (.ifCond .eq 9, 3) := by decide +kernel
theorem dX5_letThen_12 : decode (mC mX5_letThen) 12 = .ok (.aload_n 0, 1) := by decide +kernel
theorem dX5_letThen_13 : decode (mC mX5_letThen) 13 = .ok (.iload_n 2, 1) := by decide +kernel
theorem dX5_letThen_14 : decode (mC mX5_letThen) 14 = .ok (.invokevirtual 39, 3) := by decide +kernel
theorem dX5_letThen_17 : decode (mC mX5_letThen) 17 = .ok (.ireturn, 1) := by decide +kernel
theorem dX5_letThen_18 : decode (mC mX5_letThen) 18 = .ok (.aload_n 0, 1) := by decide +kernel
theorem dX5_letThen_19 : decode (mC mX5_letThen) 19 = .ok (.iload_n 1, 1) := by decide +kernel
theorem dX5_letThen_20 : decode (mC mX5_letThen) 20 = .ok (.invokevirtual 162, 3) := by decide +kernel
theorem dX5_letThen_23 : decode (mC mX5_letThen) 23 = .ok (.aload_n 0, 1) := by decide +kernel
theorem dX5_letThen_24 : decode (mC mX5_letThen) 24 = .ok (.getfield 13, 3) := by decide +kernel
theorem dX5_letThen_27 : decode (mC mX5_letThen) 27 = .ok (.iconst 3, 1) := by decide +kernel
theorem dX5_letThen_28 : decode (mC mX5_letThen) 28 = .ok (.iaload, 1) := by decide +kernel
theorem dX5_letThen_29 : decode (mC mX5_letThen) 29 = .ok (.ireturn, 1) := by decide +kernel
theorem dX5_comesTo_0 : decode (mC mX5_comesTo) 0 = .ok (.aload_n 0, 1) := by decide +kernel
theorem dX5_comesTo_1 : decode (mC mX5_comesTo) 1 = .ok (.iconst 0, 1) := by decide +kernel
theorem dX5_comesTo_2 : decode (mC mX5_comesTo) 2 = .ok (.invokevirtual 162, 3) := by decide +kernel
theorem dX5_comesTo_5 : decode (mC mX5_comesTo) 5 = .ok (.iconst 0, 1) := by decide +kernel
theorem dX5_comesTo_6 : decode (mC mX5_comesTo) 6 = .ok (.istore_n 3, 1) := by decide +kernel
theorem dX5_comesTo_7 : decode (mC mX5_comesTo) 7 = .ok (.iload_n 3, 1) := by decide +kernel
theorem dX5_comesTo_8 : decode (mC mX5_comesTo) 8 = .ok (.bipush 60, 2) := by decide +kernel
theorem dX5_comesTo_10 : decode (mC mX5_comesTo) 10 = .ok (.if_icmp .gt 33, 3) := by decide +kernel
theorem dX5_comesTo_13 : decode (mC mX5_comesTo) 13 = .ok (.aload_n 0, 1) := by decide +kernel
theorem dX5_comesTo_14 : decode (mC mX5_comesTo) 14 = .ok (.getfield 13, 3) := by decide +kernel
theorem dX5_comesTo_17 : decode (mC mX5_comesTo) 17 = .ok (.iload_n 1, 1) := by decide +kernel
theorem dX5_comesTo_18 : decode (mC mX5_comesTo) 18 = .ok (.iconst 0, 1) := by decide +kernel
theorem dX5_comesTo_19 : decode (mC mX5_comesTo) 19 = .ok (.invokestatic 51, 3) := by decide +kernel
theorem dX5_comesTo_22 : decode (mC mX5_comesTo) 22 = .ok (.iaload, 1) := by decide +kernel
theorem dX5_comesTo_23 : decode (mC mX5_comesTo) 23 = .ok (.iload_n 2, 1) := by decide +kernel
theorem dX5_comesTo_24 : decode (mC mX5_comesTo) 24 = .ok (.if_icmp .ne 5, 3) := by decide +kernel
theorem dX5_comesTo_27 : decode (mC mX5_comesTo) 27 = .ok (.iload_n 3, 1) := by decide +kernel
theorem dX5_comesTo_28 : decode (mC mX5_comesTo) 28 = .ok (.ireturn, 1) := by decide +kernel
theorem dX5_comesTo_29 : decode (mC mX5_comesTo) 29 = .ok (.aload_n 0, 1) := by decide +kernel
theorem dX5_comesTo_30 : decode (mC mX5_comesTo) 30 = .ok (.aload_n 0, 1) := by decide +kernel
theorem dX5_comesTo_31 : decode (mC mX5_comesTo) 31 = .ok (.getfield 13, 3) := by decide +kernel
theorem dX5_comesTo_34 : decode (mC mX5_comesTo) 34 = .ok (.invokevirtual 87, 3) := by decide +kernel
theorem dX5_comesTo_37 : decode (mC mX5_comesTo) 37 = .ok (.iinc 3 1, 3) := by decide +kernel
theorem dX5_comesTo_40 : decode (mC mX5_comesTo) 40 = .ok (.goto (-33), 3) := by decide +kernel
theorem dX5_comesTo_43 : decode (mC mX5_comesTo) 43 = .ok (.bipush (-9), 2) := by decide +kernel
theorem dX5_comesTo_45 : decode (mC mX5_comesTo) 45 = .ok (.ireturn, 1) := by decide +kernel
theorem dX5_comes_0 : decode (mC mX5_comes) 0 = .ok (.aload_n 0, 1) := by decide +kernel
theorem dX5_comes_1 : decode (mC mX5_comes) 1 = .ok (.iload_n 1, 1) := by decide +kernel
theorem dX5_comes_2 : decode (mC mX5_comes) 2 = .ok (.iload_n 2, 1) := by decide +kernel
theorem dX5_comes_3 : decode (mC mX5_comes) 3 = .ok (.invokevirtual 145, 3) := by decide +kernel
theorem dX5_comes_6 : decode (mC mX5_comes) 6 = .ok (.ifCond .eq 11, 3) := by decide +kernel
theorem dX5_comes_9 : decode (mC mX5_comes) 9 = .ok (.aload_n 0, 1) := by decide +kernel
theorem dX5_comes_10 : decode (mC mX5_comes) 10 = .ok (.iconst (-1), 1) := by decide +kernel
theorem dX5_comes_11 : decode (mC mX5_comes) 11 = .ok (.invokevirtual 39, 3) := by decide +kernel
theorem dX5_comes_14 : decode (mC mX5_comes) 14 = .ok (.goto 9, 3) := by decide +kernel
theorem dX5_comes_17 : decode (mC mX5_comes) 17 = .ok (.aload_n 0, 1) := by decide +kernel
theorem dX5_comes_18 : decode (mC mX5_comes) 18 = .ok (.iload_n 1, 1) := by decide +kernel
theorem dX5_comes_19 : decode (mC mX5_comes) 19 = .ok (.iload_n 2, 1) := by decide +kernel
theorem dX5_comes_20 : decode (mC mX5_comes) 20 = .ok (.invokevirtual 166, 3) := by decide +kernel
theorem dX5_comes_23 : decode (mC mX5_comes) 23 = .ok (.ireturn, 1) := by decide +kernel
theorem dX5_allHome_0 : decode (mC mX5_allHome) 0 = .ok (.aload_n 0, 1) := by decide +kernel
theorem dX5_allHome_1 : decode (mC mX5_allHome) 1 = .ok (.iconst 0, 1) := by decide +kernel
theorem dX5_allHome_2 : decode (mC mX5_allHome) 2 = .ok (.invokevirtual 162, 3) := by decide +kernel
theorem dX5_allHome_5 : decode (mC mX5_allHome) 5 = .ok (.iconst 0, 1) := by decide +kernel
theorem dX5_allHome_6 : decode (mC mX5_allHome) 6 = .ok (.istore_n 1, 1) := by decide +kernel
theorem dX5_allHome_7 : decode (mC mX5_allHome) 7 = .ok (.iload_n 1, 1) := by decide +kernel
theorem dX5_allHome_8 : decode (mC mX5_allHome) 8 = .ok (.bipush 60, 2) := by decide +kernel
theorem dX5_allHome_10 : decode (mC mX5_allHome) 10 = .ok (.if_icmp .gt 38, 3) := by decide +kernel
theorem dX5_allHome_13 : decode (mC mX5_allHome) 13 = .ok (.aload_n 0, 1) := by decide +kernel
theorem dX5_allHome_14 : decode (mC mX5_allHome) 14 = .ok (.getfield 13, 3) := by decide +kernel
theorem dX5_allHome_17 : decode (mC mX5_allHome) 17 = .ok (.invokestatic 155, 3) := by decide +kernel
theorem dX5_allHome_20 : decode (mC mX5_allHome) 20 = .ok (.invokestatic 159, 3) := by decide +kernel
theorem dX5_allHome_23 : decode (mC mX5_allHome) 23 = .ok (.aload_n 0, 1) := by decide +kernel
theorem dX5_allHome_24 : decode (mC mX5_allHome) 24 = .ok (.getfield 13, 3) := by decide +kernel
theorem dX5_allHome_27 : decode (mC mX5_allHome) 27 = .ok (.iconst 1, 1) := by decide +kernel
theorem dX5_allHome_28 : decode (mC mX5_allHome) 28 = .ok (.iaload, 1) := by decide +kernel
theorem dX5_allHome_29 : decode (mC mX5_allHome) 29 = .ok (.if_icmp .ne 5, 3) := by decide +kernel
theorem dX5_allHome_32 : decode (mC mX5_allHome) 32 = .ok (.iload_n 1, 1) := by decide +kernel
theorem dX5_allHome_33 : decode (mC mX5_allHome) 33 = .ok (.ireturn, 1) := by decide +kernel
theorem dX5_allHome_34 : decode (mC mX5_allHome) 34 = .ok (.aload_n 0, 1) := by decide +kernel
theorem dX5_allHome_35 : decode (mC mX5_allHome) 35 = .ok (.aload_n 0, 1) := by decide +kernel
theorem dX5_allHome_36 : decode (mC mX5_allHome) 36 = .ok (.getfield 13, 3) := by decide +kernel
theorem dX5_allHome_39 : decode (mC mX5_allHome) 39 = .ok (.invokevirtual 87, 3) := by decide +kernel
theorem dX5_allHome_42 : decode (mC mX5_allHome) 42 = .ok (.iinc 1 1, 3) := by decide +kernel
theorem dX5_allHome_45 : decode (mC mX5_allHome) 45 = .ok (.goto (-38), 3) := by decide +kernel
theorem dX5_allHome_48 : decode (mC mX5_allHome) 48 = .ok (.bipush (-9), 2) := by decide +kernel
theorem dX5_allHome_50 : decode (mC mX5_allHome) 50 = .ok (.ireturn, 1) := by decide +kernel
theorem dX5_home_0 : decode (mC mX5_home) 0 = .ok (.iload_n 1, 1) := by decide +kernel
theorem dX5_home_1 : decode (mC mX5_home) 1 = .ok (.iconst (-1), 1) := by decide +kernel
theorem dX5_home_2 : decode (mC mX5_home) 2 = .ok (.if_icmp .ne 10, 3) := by decide +kernel
theorem dX5_home_5 : decode (mC mX5_home) 5 = .ok (.aload_n 0, 1) := by decide +kernel
theorem dX5_home_6 : decode (mC mX5_home) 6 = .ok (.invokevirtual 169, 3) := by decide +kernel
theorem dX5_home_9 : decode (mC mX5_home) 9 = .ok (.goto 34, 3) := by decide +kernel
theorem dX5_home_12 : decode (mC mX5_home) 12 = .ok (.aload_n 0, 1) := by decide +kernel
theorem dX5_home_13 : decode (mC mX5_home) 13 = .ok (.iload_n 1, 1) := by decide +kernel
theorem dX5_home_14 : decode (mC mX5_home) 14 = .ok (.invokevirtual 122, 3) := by decide +kernel
theorem dX5_home_17 : decode (mC mX5_home) 17 = .ok (.ifCond .eq 21, 3) := by decide +kernel
theorem dX5_home_20 : decode (mC mX5_home) 20 = .ok (.aload_n 0, 1) := by decide +kernel
theorem dX5_home_21 : decode (mC mX5_home) 21 = .ok (.iload_n 1, 1) := by decide +kernel
theorem dX5_home_22 : decode (mC mX5_home) 22 = .ok (.aload_n 0, 1) := by decide +kernel
theorem dX5_home_23 : decode (mC mX5_home) 23 = .ok (.getfield 9, 3) := by decide +kernel
theorem dX5_home_26 : decode (mC mX5_home) 26 = .ok (.iload_n 1, 1) := by decide +kernel
theorem dX5_home_27 : decode (mC mX5_home) 27 = .ok (.iconst 1, 1) := by decide +kernel
theorem dX5_home_28 : decode (mC mX5_home) 28 = .ok (.invokestatic 51, 3) := by decide +kernel
theorem dX5_home_31 : decode (mC mX5_home) 31 = .ok (.iaload, 1) := by decide +kernel
theorem dX5_home_32 : decode (mC mX5_home) 32 = .ok (.invokevirtual 166, 3) := by decide +kernel
theorem dX5_home_35 : decode (mC mX5_home) 35 = .ok (.goto 8, 3) := by decide +kernel
theorem dX5_home_38 : decode (mC mX5_home) 38 = .ok (.aload_n 0, 1) := by decide +kernel
theorem dX5_home_39 : decode (mC mX5_home) 39 = .ok (.iconst (-1), 1) := by decide +kernel
theorem dX5_home_40 : decode (mC mX5_home) 40 = .ok (.invokevirtual 39, 3) := by decide +kernel
theorem dX5_home_43 : decode (mC mX5_home) 43 = .ok (.ireturn, 1) := by decide +kernel
theorem dX5_shutIn_0 : decode (mC mX5_shutIn) 0 = .ok (.aload_n 0, 1) := by decide +kernel
theorem dX5_shutIn_1 : decode (mC mX5_shutIn) 1 = .ok (.aload_n 0, 1) := by decide +kernel
theorem dX5_shutIn_2 : decode (mC mX5_shutIn) 2 = .ok (.getfield 9, 3) := by decide +kernel
theorem dX5_shutIn_5 : decode (mC mX5_shutIn) 5 = .ok (.invokevirtual 83, 3) := by decide +kernel
theorem dX5_shutIn_8 : decode (mC mX5_shutIn) 8 = .ok (.iconst 0, 1) := by decide +kernel
theorem dX5_shutIn_9 : decode (mC mX5_shutIn) 9 = .ok (.istore_n 1, 1) := by decide +kernel
theorem dX5_shutIn_10 : decode (mC mX5_shutIn) 10 = .ok (.iconst 0, 1) := by decide +kernel
theorem dX5_shutIn_11 : decode (mC mX5_shutIn) 11 = .ok (.istore_n 2, 1) := by decide +kernel
theorem dX5_shutIn_12 : decode (mC mX5_shutIn) 12 = .ok (.iload_n 2, 1) := by decide +kernel
theorem dX5_shutIn_13 : decode (mC mX5_shutIn) 13 = .ok (.aload_n 0, 1) := by decide +kernel
theorem dX5_shutIn_14 : decode (mC mX5_shutIn) 14 = .ok (.getfield 9, 3) := by decide +kernel
theorem dX5_shutIn_17 : decode (mC mX5_shutIn) 17 = .ok (.iconst 1, 1) := by decide +kernel
theorem dX5_shutIn_18 : decode (mC mX5_shutIn) 18 = .ok (.iaload, 1) := by decide +kernel
theorem dX5_shutIn_19 : decode (mC mX5_shutIn) 19 = .ok (.if_icmp .ge 48, 3) := by decide +kernel
theorem dX5_shutIn_22 : decode (mC mX5_shutIn) 22 = .ok (.iload_n 1, 1) := by decide +kernel
theorem dX5_shutIn_23 : decode (mC mX5_shutIn) 23 = .ok (.aload_n 0, 1) := by decide +kernel
theorem dX5_shutIn_24 : decode (mC mX5_shutIn) 24 = .ok (.aload_n 0, 1) := by decide +kernel
theorem dX5_shutIn_25 : decode (mC mX5_shutIn) 25 = .ok (.getfield 9, 3) := by decide +kernel
theorem dX5_shutIn_28 : decode (mC mX5_shutIn) 28 = .ok (.iload_n 2, 1) := by decide +kernel
theorem dX5_shutIn_29 : decode (mC mX5_shutIn) 29 = .ok (.iconst 0, 1) := by decide +kernel
theorem dX5_shutIn_30 : decode (mC mX5_shutIn) 30 = .ok (.invokestatic 51, 3) := by decide +kernel
theorem dX5_shutIn_33 : decode (mC mX5_shutIn) 33 = .ok (.iaload, 1) := by decide +kernel
theorem dX5_shutIn_34 : decode (mC mX5_shutIn) 34 = .ok (.aload_n 0, 1) := by decide +kernel
theorem dX5_shutIn_35 : decode (mC mX5_shutIn) 35 = .ok (.getfield 9, 3) := by decide +kernel
theorem dX5_shutIn_38 : decode (mC mX5_shutIn) 38 = .ok (.iload_n 2, 1) := by decide +kernel
theorem dX5_shutIn_39 : decode (mC mX5_shutIn) 39 = .ok (.iconst 1, 1) := by decide +kernel
theorem dX5_shutIn_40 : decode (mC mX5_shutIn) 40 = .ok (.invokestatic 51, 3) := by decide +kernel
theorem dX5_shutIn_43 : decode (mC mX5_shutIn) 43 = .ok (.iaload, 1) := by decide +kernel
theorem dX5_shutIn_44 : decode (mC mX5_shutIn) 44 = .ok (.invokevirtual 69, 3) := by decide +kernel
theorem dX5_shutIn_47 : decode (mC mX5_shutIn) 47 = .ok (.bipush 99, 2) := by decide +kernel
theorem dX5_shutIn_49 : decode (mC mX5_shutIn) 49 = .ok (.if_icmp .lt 9, 3) := by decide +kernel
theorem dX5_shutIn_52 : decode (mC mX5_shutIn) 52 = .ok (.iconst 1, 1) := by decide +kernel
theorem dX5_shutIn_53 : decode (mC mX5_shutIn) 53 = .ok (.iload_n 2, 1) := by decide +kernel
theorem dX5_shutIn_54 : decode (mC mX5_shutIn) 54 = .ok (.ishl, 1) := by decide +kernel
theorem dX5_shutIn_55 : decode (mC mX5_shutIn) 55 = .ok (.goto 4, 3) := by decide +kernel
theorem dX5_shutIn_58 : decode (mC mX5_shutIn) 58 = .ok (.iconst 0, 1) := by decide +kernel
theorem dX5_shutIn_59 : decode (mC mX5_shutIn) 59 = .ok (.ior, 1) := by decide +kernel
theorem dX5_shutIn_60 : decode (mC mX5_shutIn) 60 = .ok (.istore_n 1, 1) := by decide +kernel
theorem dX5_shutIn_61 : decode (mC mX5_shutIn) 61 = .ok (.iinc 2 1, 3) := by decide +kernel
theorem dX5_shutIn_64 : decode (mC mX5_shutIn) 64 = .ok (.goto (-52), 3) := by decide +kernel
theorem dX5_shutIn_67 : decode (mC mX5_shutIn) 67 = .ok (.iload_n 1, 1) := by decide +kernel
theorem dX5_shutIn_68 : decode (mC mX5_shutIn) 68 = .ok (.ireturn, 1) := by decide +kernel
theorem dX5_isStill_0 : decode (mC mX5_isStill) 0 = .ok (.aload_n 0, 1) := by decide +kernel
theorem dX5_isStill_1 : decode (mC mX5_isStill) 1 = .ok (.iload_n 1, 1) := by decide +kernel
theorem dX5_isStill_2 : decode (mC mX5_isStill) 2 = .ok (.invokevirtual 162, 3) := by decide +kernel
theorem dX5_isStill_5 : decode (mC mX5_isStill) 5 = .ok (.iconst 1, 1) := by decide +kernel
theorem dX5_isStill_6 : decode (mC mX5_isStill) 6 = .ok (.istore_n 2, 1) := by decide +kernel
theorem dX5_isStill_7 : decode (mC mX5_isStill) 7 = .ok (.iconst 0, 1) := by decide +kernel
theorem dX5_isStill_8 : decode (mC mX5_isStill) 8 = .ok (.istore_n 3, 1) := by decide +kernel
theorem dX5_isStill_9 : decode (mC mX5_isStill) 9 = .ok (.iload_n 3, 1) := by decide +kernel
theorem dX5_isStill_10 : decode (mC mX5_isStill) 10 = .ok (.bipush 12, 2) := by decide +kernel
theorem dX5_isStill_12 : decode (mC mX5_isStill) 12 = .ok (.if_icmp .ge 46, 3) := by decide +kernel
theorem dX5_isStill_15 : decode (mC mX5_isStill) 15 = .ok (.aload_n 0, 1) := by decide +kernel
theorem dX5_isStill_16 : decode (mC mX5_isStill) 16 = .ok (.getfield 13, 3) := by decide +kernel
theorem dX5_isStill_19 : decode (mC mX5_isStill) 19 = .ok (.invokestatic 172, 3) := by decide +kernel
theorem dX5_isStill_22 : decode (mC mX5_isStill) 22 = .ok (.istore 4, 2) := by decide +kernel
theorem dX5_isStill_24 : decode (mC mX5_isStill) 24 = .ok (.aload_n 0, 1) := by decide +kernel
theorem dX5_isStill_25 : decode (mC mX5_isStill) 25 = .ok (.aload_n 0, 1) := by decide +kernel
theorem dX5_isStill_26 : decode (mC mX5_isStill) 26 = .ok (.getfield 13, 3) := by decide +kernel
theorem dX5_isStill_29 : decode (mC mX5_isStill) 29 = .ok (.invokevirtual 87, 3) := by decide +kernel
theorem dX5_isStill_32 : decode (mC mX5_isStill) 32 = .ok (.iload_n 2, 1) := by decide +kernel
theorem dX5_isStill_33 : decode (mC mX5_isStill) 33 = .ok (.aload_n 0, 1) := by decide +kernel
theorem dX5_isStill_34 : decode (mC mX5_isStill) 34 = .ok (.getfield 13, 3) := by decide +kernel
theorem dX5_isStill_37 : decode (mC mX5_isStill) 37 = .ok (.invokestatic 172, 3) := by decide +kernel
theorem dX5_isStill_40 : decode (mC mX5_isStill) 40 = .ok (.iload 4, 2) := by decide +kernel
theorem dX5_isStill_42 : decode (mC mX5_isStill) 42 = .ok (.if_icmp .ne 7, 3) := by decide +kernel
theorem dX5_isStill_45 : decode (mC mX5_isStill) 45 = .ok (.iconst 1, 1) := by decide +kernel
theorem dX5_isStill_46 : decode (mC mX5_isStill) 46 = .ok (.goto 4, 3) := by decide +kernel
theorem dX5_isStill_49 : decode (mC mX5_isStill) 49 = .ok (.iconst 0, 1) := by decide +kernel
theorem dX5_isStill_50 : decode (mC mX5_isStill) 50 = .ok (.iand, 1) := by decide +kernel
theorem dX5_isStill_51 : decode (mC mX5_isStill) 51 = .ok (.istore_n 2, 1) := by decide +kernel
theorem dX5_isStill_52 : decode (mC mX5_isStill) 52 = .ok (.iinc 3 1, 3) := by decide +kernel
theorem dX5_isStill_55 : decode (mC mX5_isStill) 55 = .ok (.goto (-46), 3) := by decide +kernel
theorem dX5_isStill_58 : decode (mC mX5_isStill) 58 = .ok (.iload_n 2, 1) := by decide +kernel
theorem dX5_isStill_59 : decode (mC mX5_isStill) 59 = .ok (.ireturn, 1) := by decide +kernel
theorem dX5_whereIn_0 : decode (mC mX5_whereIn) 0 = .ok (.iconst 0, 1) := by decide +kernel
theorem dX5_whereIn_1 : decode (mC mX5_whereIn) 1 = .ok (.istore_n 1, 1) := by decide +kernel
theorem dX5_whereIn_2 : decode (mC mX5_whereIn) 2 = .ok (.iconst 0, 1) := by decide +kernel
theorem dX5_whereIn_3 : decode (mC mX5_whereIn) 3 = .ok (.istore_n 2, 1) := by decide +kernel
theorem dX5_whereIn_4 : decode (mC mX5_whereIn) 4 = .ok (.iload_n 2, 1) := by decide +kernel
theorem dX5_whereIn_5 : decode (mC mX5_whereIn) 5 = .ok (.aload_n 0, 1) := by decide +kernel
theorem dX5_whereIn_6 : decode (mC mX5_whereIn) 6 = .ok (.iconst 1, 1) := by decide +kernel
theorem dX5_whereIn_7 : decode (mC mX5_whereIn) 7 = .ok (.iaload, 1) := by decide +kernel
theorem dX5_whereIn_8 : decode (mC mX5_whereIn) 8 = .ok (.if_icmp .ge 22, 3) := by decide +kernel
theorem dX5_whereIn_11 : decode (mC mX5_whereIn) 11 = .ok (.bipush 8, 2) := by decide +kernel
theorem dX5_whereIn_13 : decode (mC mX5_whereIn) 13 = .ok (.iload_n 1, 1) := by decide +kernel
theorem dX5_whereIn_14 : decode (mC mX5_whereIn) 14 = .ok (.imul, 1) := by decide +kernel
theorem dX5_whereIn_15 : decode (mC mX5_whereIn) 15 = .ok (.aload_n 0, 1) := by decide +kernel
theorem dX5_whereIn_16 : decode (mC mX5_whereIn) 16 = .ok (.iload_n 2, 1) := by decide +kernel
theorem dX5_whereIn_17 : decode (mC mX5_whereIn) 17 = .ok (.iconst 0, 1) := by decide +kernel
theorem dX5_whereIn_18 : decode (mC mX5_whereIn) 18 = .ok (.invokestatic 51, 3) := by decide +kernel
theorem dX5_whereIn_21 : decode (mC mX5_whereIn) 21 = .ok (.iaload, 1) := by decide +kernel
theorem dX5_whereIn_22 : decode (mC mX5_whereIn) 22 = .ok (.iadd, 1) := by decide +kernel
theorem dX5_whereIn_23 : decode (mC mX5_whereIn) 23 = .ok (.istore_n 1, 1) := by decide +kernel
theorem dX5_whereIn_24 : decode (mC mX5_whereIn) 24 = .ok (.iinc 2 1, 3) := by decide +kernel
theorem dX5_whereIn_27 : decode (mC mX5_whereIn) 27 = .ok (.goto (-23), 3) := by decide +kernel
theorem dX5_whereIn_30 : decode (mC mX5_whereIn) 30 = .ok (.iload_n 1, 1) := by decide +kernel
theorem dX5_whereIn_31 : decode (mC mX5_whereIn) 31 = .ok (.ireturn, 1) := by decide +kernel
theorem dX5_stuck_0 : decode (mC mX5_stuck) 0 = .ok (.iconst 0, 1) := by decide +kernel
theorem dX5_stuck_1 : decode (mC mX5_stuck) 1 = .ok (.istore_n 1, 1) := by decide +kernel
theorem dX5_stuck_2 : decode (mC mX5_stuck) 2 = .ok (.iload_n 1, 1) := by decide +kernel
theorem dX5_stuck_3 : decode (mC mX5_stuck) 3 = .ok (.bipush 60, 2) := by decide +kernel
theorem dX5_stuck_5 : decode (mC mX5_stuck) 5 = .ok (.if_icmp .gt 19, 3) := by decide +kernel
theorem dX5_stuck_8 : decode (mC mX5_stuck) 8 = .ok (.aload_n 0, 1) := by decide +kernel
theorem dX5_stuck_9 : decode (mC mX5_stuck) 9 = .ok (.iload_n 1, 1) := by decide +kernel
theorem dX5_stuck_10 : decode (mC mX5_stuck) 10 = .ok (.invokevirtual 175, 3) := by decide +kernel
theorem dX5_stuck_13 : decode (mC mX5_stuck) 13 = .ok (.ifCond .eq 5, 3) := by decide +kernel
theorem dX5_stuck_16 : decode (mC mX5_stuck) 16 = .ok (.iload_n 1, 1) := by decide +kernel
theorem dX5_stuck_17 : decode (mC mX5_stuck) 17 = .ok (.ireturn, 1) := by decide +kernel
theorem dX5_stuck_18 : decode (mC mX5_stuck) 18 = .ok (.iinc 1 1, 3) := by decide +kernel
theorem dX5_stuck_21 : decode (mC mX5_stuck) 21 = .ok (.goto (-19), 3) := by decide +kernel
theorem dX5_stuck_24 : decode (mC mX5_stuck) 24 = .ok (.bipush (-9), 2) := by decide +kernel
theorem dX5_stuck_26 : decode (mC mX5_stuck) 26 = .ok (.ireturn, 1) := by decide +kernel
theorem dX5_way_0 : decode (mC mX5_way) 0 = .ok (.iload_n 1, 1) := by decide +kernel
theorem dX5_way_1 : decode (mC mX5_way) 1 = .ok (.invokestatic 111, 3) := by decide +kernel
theorem dX5_way_4 : decode (mC mX5_way) 4 = .ok (.ifCond .eq 10, 3) := by decide +kernel
theorem dX5_way_7 : decode (mC mX5_way) 7 = .ok (.iload_n 2, 1) := by decide +kernel
theorem dX5_way_8 : decode (mC mX5_way) 8 = .ok (.invokestatic 111, 3) := by decide +kernel
theorem dX5_way_11 : decode (mC mX5_way) 11 = .ok (.ifCond .ne 9, 3) := by decide +kernel
theorem dX5_way_14 : decode (mC mX5_way) 14 = .ok (.aload_n 0, 1) := by decide +kernel
theorem dX5_way_15 : decode (mC mX5_way) 15 = .ok (.iconst (-1), 1) := by decide +kernel
theorem dX5_way_16 : decode (mC mX5_way) 16 = .ok (.invokevirtual 39, 3) := by decide +kernel
theorem dX5_way_19 : decode (mC mX5_way) 19 = .ok (.ireturn, 1) := by decide +kernel
theorem dX5_way_20 : decode (mC mX5_way) 20 = .ok (.iload_n 3, 1) := by decide +kernel
theorem dX5_way_21 : decode (mC mX5_way) 21 = .ok (.iconst 0, 1) := by decide +kernel
theorem dX5_way_22 : decode (mC mX5_way) 22 = .ok (.iconst 1, 1) := by decide +kernel
theorem dX5_way_23 : decode (mC mX5_way) 23 = .ok (.invokestatic 43, 3) := by decide +kernel
theorem dX5_way_26 : decode (mC mX5_way) 26 = .ok (.ifCond .ne 10, 3) := by decide +kernel
theorem dX5_way_29 : decode (mC mX5_way) 29 = .ok (.aload_n 0, 1) := by decide +kernel
theorem dX5_way_30 : decode (mC mX5_way) 30 = .ok (.bipush (-2), 2) := by decide +kernel
theorem dX5_way_32 : decode (mC mX5_way) 32 = .ok (.invokevirtual 39, 3) := by decide +kernel
theorem dX5_way_35 : decode (mC mX5_way) 35 = .ok (.ireturn, 1) := by decide +kernel
theorem dX5_way_36 : decode (mC mX5_way) 36 = .ok (.aload_n 0, 1) := by decide +kernel
theorem dX5_way_37 : decode (mC mX5_way) 37 = .ok (.aload_n 0, 1) := by decide +kernel
theorem dX5_way_38 : decode (mC mX5_way) 38 = .ok (.getfield 9, 3) := by decide +kernel
theorem dX5_way_41 : decode (mC mX5_way) 41 = .ok (.invokevirtual 83, 3) := by decide +kernel
theorem dX5_way_44 : decode (mC mX5_way) 44 = .ok (.aload_n 0, 1) := by decide +kernel
theorem dX5_way_45 : decode (mC mX5_way) 45 = .ok (.iload_n 1, 1) := by decide +kernel
theorem dX5_way_46 : decode (mC mX5_way) 46 = .ok (.iload_n 2, 1) := by decide +kernel
theorem dX5_way_47 : decode (mC mX5_way) 47 = .ok (.invokevirtual 69, 3) := by decide +kernel
theorem dX5_way_50 : decode (mC mX5_way) 50 = .ok (.bipush 99, 2) := by decide +kernel
theorem dX5_way_52 : decode (mC mX5_way) 52 = .ok (.if_icmp .lt 6, 3) := by decide +kernel
theorem dX5_way_55 : decode (mC mX5_way) 55 = .ok (.bipush (-9), 2) := by decide +kernel
theorem dX5_way_57 : decode (mC mX5_way) 57 = .ok (.ireturn, 1) := by decide +kernel
theorem dX5_way_58 : decode (mC mX5_way) 58 = .ok (.iload_n 3, 1) := by decide +kernel
theorem dX5_way_59 : decode (mC mX5_way) 59 = .ok (.ifCond .ne 10, 3) := by decide +kernel
theorem dX5_way_62 : decode (mC mX5_way) 62 = .ok (.aload_n 0, 1) := by decide +kernel
theorem dX5_way_63 : decode (mC mX5_way) 63 = .ok (.iload_n 1, 1) := by decide +kernel
theorem dX5_way_64 : decode (mC mX5_way) 64 = .ok (.iload_n 2, 1) := by decide +kernel
theorem dX5_way_65 : decode (mC mX5_way) 65 = .ok (.invokevirtual 69, 3) := by decide +kernel
theorem dX5_way_68 : decode (mC mX5_way) 68 = .ok (.ireturn, 1) := by decide +kernel
theorem dX5_way_69 : decode (mC mX5_way) 69 = .ok (.iconst 0, 1) := by decide +kernel
theorem dX5_way_70 : decode (mC mX5_way) 70 = .ok (.istore 4, 2) := by decide +kernel
theorem dX5_way_72 : decode (mC mX5_way) 72 = .ok (.iload 4, 2) := by decide +kernel
theorem dX5_way_74 : decode (mC mX5_way) 74 = .ok (.aload_n 0, 1) := by decide +kernel
theorem dX5_way_75 : decode (mC mX5_way) 75 = .ok (.getfield 9, 3) := by decide +kernel
theorem dX5_way_78 : decode (mC mX5_way) 78 = .ok (.iconst 0, 1) := by decide +kernel
theorem dX5_way_79 : decode (mC mX5_way) 79 = .ok (.iaload, 1) := by decide +kernel
theorem dX5_way_80 : decode (mC mX5_way) 80 = .ok (.if_icmp .ge 27, 3) := by decide +kernel
theorem dX5_way_83 : decode (mC mX5_way) 83 = .ok (.aload_n 0, 1) := by decide +kernel
theorem dX5_way_84 : decode (mC mX5_way) 84 = .ok (.aload_n 0, 1) := by decide +kernel
theorem dX5_way_85 : decode (mC mX5_way) 85 = .ok (.getfield 9, 3) := by decide +kernel
theorem dX5_way_88 : decode (mC mX5_way) 88 = .ok (.iload 4, 2) := by decide +kernel
theorem dX5_way_90 : decode (mC mX5_way) 90 = .ok (.iload_n 1, 1) := by decide +kernel
theorem dX5_way_91 : decode (mC mX5_way) 91 = .ok (.iload_n 2, 1) := by decide +kernel
theorem dX5_way_92 : decode (mC mX5_way) 92 = .ok (.invokevirtual 72, 3) := by decide +kernel
theorem dX5_way_95 : decode (mC mX5_way) 95 = .ok (.ifCond .eq 6, 3) := by decide +kernel
theorem dX5_way_98 : decode (mC mX5_way) 98 = .ok (.iload 4, 2) := by decide +kernel
theorem dX5_way_100 : decode (mC mX5_way) 100 = .ok (.ireturn, 1) := by decide +kernel
theorem dX5_way_101 : decode (mC mX5_way) 101 = .ok (.iinc 4 1, 3) := by decide +kernel
theorem dX5_way_104 : decode (mC mX5_way) 104 = .ok (.goto (-32), 3) := by decide +kernel
theorem dX5_way_107 : decode (mC mX5_way) 107 = .ok (.bipush (-9), 2) := by decide +kernel
theorem dX5_way_109 : decode (mC mX5_way) 109 = .ok (.ireturn, 1) := by decide +kernel
theorem dX5_round_0 : decode (mC mX5_round) 0 = .ok (.iload_n 1, 1) := by decide +kernel
theorem dX5_round_1 : decode (mC mX5_round) 1 = .ok (.invokestatic 111, 3) := by decide +kernel
theorem dX5_round_4 : decode (mC mX5_round) 4 = .ok (.ifCond .ne 9, 3) := by decide +kernel
theorem dX5_round_7 : decode (mC mX5_round) 7 = .ok (.aload_n 0, 1) := by decide +kernel
theorem dX5_round_8 : decode (mC mX5_round) 8 = .ok (.iconst (-1), 1) := by decide +kernel
theorem dX5_round_9 : decode (mC mX5_round) 9 = .ok (.invokevirtual 39, 3) := by decide +kernel
theorem dX5_round_12 : decode (mC mX5_round) 12 = .ok (.ireturn, 1) := by decide +kernel
theorem dX5_round_13 : decode (mC mX5_round) 13 = .ok (.aload_n 0, 1) := by decide +kernel
theorem dX5_round_14 : decode (mC mX5_round) 14 = .ok (.aload_n 0, 1) := by decide +kernel
theorem dX5_round_15 : decode (mC mX5_round) 15 = .ok (.getfield 9, 3) := by decide +kernel
theorem dX5_round_18 : decode (mC mX5_round) 18 = .ok (.invokevirtual 83, 3) := by decide +kernel
theorem dX5_round_21 : decode (mC mX5_round) 21 = .ok (.bipush 99, 2) := by decide +kernel
theorem dX5_round_23 : decode (mC mX5_round) 23 = .ok (.istore_n 2, 1) := by decide +kernel
theorem dX5_round_24 : decode (mC mX5_round) 24 = .ok (.iconst 0, 1) := by decide +kernel
theorem dX5_round_25 : decode (mC mX5_round) 25 = .ok (.istore_n 3, 1) := by decide +kernel
theorem dX5_round_26 : decode (mC mX5_round) 26 = .ok (.iload_n 3, 1) := by decide +kernel
theorem dX5_round_27 : decode (mC mX5_round) 27 = .ok (.aload_n 0, 1) := by decide +kernel
theorem dX5_round_28 : decode (mC mX5_round) 28 = .ok (.getfield 9, 3) := by decide +kernel
theorem dX5_round_31 : decode (mC mX5_round) 31 = .ok (.iconst 0, 1) := by decide +kernel
theorem dX5_round_32 : decode (mC mX5_round) 32 = .ok (.iaload, 1) := by decide +kernel
theorem dX5_round_33 : decode (mC mX5_round) 33 = .ok (.if_icmp .ge 45, 3) := by decide +kernel
theorem dX5_round_36 : decode (mC mX5_round) 36 = .ok (.aload_n 0, 1) := by decide +kernel
theorem dX5_round_37 : decode (mC mX5_round) 37 = .ok (.getfield 9, 3) := by decide +kernel
theorem dX5_round_40 : decode (mC mX5_round) 40 = .ok (.iload_n 3, 1) := by decide +kernel
theorem dX5_round_41 : decode (mC mX5_round) 41 = .ok (.iconst 2, 1) := by decide +kernel
theorem dX5_round_42 : decode (mC mX5_round) 42 = .ok (.invokestatic 55, 3) := by decide +kernel
theorem dX5_round_45 : decode (mC mX5_round) 45 = .ok (.iaload, 1) := by decide +kernel
theorem dX5_round_46 : decode (mC mX5_round) 46 = .ok (.iload_n 1, 1) := by decide +kernel
theorem dX5_round_47 : decode (mC mX5_round) 47 = .ok (.if_icmp .ne 25, 3) := by decide +kernel
theorem dX5_round_50 : decode (mC mX5_round) 50 = .ok (.iload_n 2, 1) := by decide +kernel
theorem dX5_round_51 : decode (mC mX5_round) 51 = .ok (.iconst 1, 1) := by decide +kernel
theorem dX5_round_52 : decode (mC mX5_round) 52 = .ok (.aload_n 0, 1) := by decide +kernel
theorem dX5_round_53 : decode (mC mX5_round) 53 = .ok (.aload_n 0, 1) := by decide +kernel
theorem dX5_round_54 : decode (mC mX5_round) 54 = .ok (.getfield 9, 3) := by decide +kernel
theorem dX5_round_57 : decode (mC mX5_round) 57 = .ok (.iload_n 3, 1) := by decide +kernel
theorem dX5_round_58 : decode (mC mX5_round) 58 = .ok (.iconst 3, 1) := by decide +kernel
theorem dX5_round_59 : decode (mC mX5_round) 59 = .ok (.invokestatic 55, 3) := by decide +kernel
theorem dX5_round_62 : decode (mC mX5_round) 62 = .ok (.iaload, 1) := by decide +kernel
theorem dX5_round_63 : decode (mC mX5_round) 63 = .ok (.iload_n 1, 1) := by decide +kernel
theorem dX5_round_64 : decode (mC mX5_round) 64 = .ok (.invokevirtual 69, 3) := by decide +kernel
theorem dX5_round_67 : decode (mC mX5_round) 67 = .ok (.iadd, 1) := by decide +kernel
theorem dX5_round_68 : decode (mC mX5_round) 68 = .ok (.invokestatic 66, 3) := by decide +kernel
theorem dX5_round_71 : decode (mC mX5_round) 71 = .ok (.istore_n 2, 1) := by decide +kernel
theorem dX5_round_72 : decode (mC mX5_round) 72 = .ok (.iinc 3 1, 3) := by decide +kernel
theorem dX5_round_75 : decode (mC mX5_round) 75 = .ok (.goto (-49), 3) := by decide +kernel
theorem dX5_round_78 : decode (mC mX5_round) 78 = .ok (.iload_n 2, 1) := by decide +kernel
theorem dX5_round_79 : decode (mC mX5_round) 79 = .ok (.bipush 99, 2) := by decide +kernel
theorem dX5_round_81 : decode (mC mX5_round) 81 = .ok (.if_icmp .lt 8, 3) := by decide +kernel
theorem dX5_round_84 : decode (mC mX5_round) 84 = .ok (.bipush (-9), 2) := by decide +kernel
theorem dX5_round_86 : decode (mC mX5_round) 86 = .ok (.goto 4, 3) := by decide +kernel
theorem dX5_round_89 : decode (mC mX5_round) 89 = .ok (.iload_n 2, 1) := by decide +kernel
theorem dX5_round_90 : decode (mC mX5_round) 90 = .ok (.ireturn, 1) := by decide +kernel
theorem dX5_reach_0 : decode (mC mX5_reach) 0 = .ok (.iload_n 1, 1) := by decide +kernel
theorem dX5_reach_1 : decode (mC mX5_reach) 1 = .ok (.invokestatic 111, 3) := by decide +kernel
theorem dX5_reach_4 : decode (mC mX5_reach) 4 = .ok (.ifCond .ne 9, 3) := by decide +kernel
theorem dX5_reach_7 : decode (mC mX5_reach) 7 = .ok (.aload_n 0, 1) := by decide +kernel
theorem dX5_reach_8 : decode (mC mX5_reach) 8 = .ok (.iconst (-1), 1) := by decide +kernel
theorem dX5_reach_9 : decode (mC mX5_reach) 9 = .ok (.invokevirtual 39, 3) := by decide +kernel
theorem dX5_reach_12 : decode (mC mX5_reach) 12 = .ok (.ireturn, 1) := by decide +kernel
theorem dX5_reach_13 : decode (mC mX5_reach) 13 = .ok (.aload_n 0, 1) := by decide +kernel
theorem dX5_reach_14 : decode (mC mX5_reach) 14 = .ok (.aload_n 0, 1) := by decide +kernel
theorem dX5_reach_15 : decode (mC mX5_reach) 15 = .ok (.getfield 9, 3) := by decide +kernel
theorem dX5_reach_18 : decode (mC mX5_reach) 18 = .ok (.invokevirtual 83, 3) := by decide +kernel
theorem dX5_reach_21 : decode (mC mX5_reach) 21 = .ok (.iconst 0, 1) := by decide +kernel
theorem dX5_reach_22 : decode (mC mX5_reach) 22 = .ok (.istore_n 2, 1) := by decide +kernel
theorem dX5_reach_23 : decode (mC mX5_reach) 23 = .ok (.iconst 0, 1) := by decide +kernel
theorem dX5_reach_24 : decode (mC mX5_reach) 24 = .ok (.istore_n 3, 1) := by decide +kernel
theorem dX5_reach_25 : decode (mC mX5_reach) 25 = .ok (.iload_n 3, 1) := by decide +kernel
theorem dX5_reach_26 : decode (mC mX5_reach) 26 = .ok (.bipush 8, 2) := by decide +kernel
theorem dX5_reach_28 : decode (mC mX5_reach) 28 = .ok (.if_icmp .ge 30, 3) := by decide +kernel
theorem dX5_reach_31 : decode (mC mX5_reach) 31 = .ok (.iload_n 2, 1) := by decide +kernel
theorem dX5_reach_32 : decode (mC mX5_reach) 32 = .ok (.aload_n 0, 1) := by decide +kernel
theorem dX5_reach_33 : decode (mC mX5_reach) 33 = .ok (.iload_n 1, 1) := by decide +kernel
theorem dX5_reach_34 : decode (mC mX5_reach) 34 = .ok (.iload_n 3, 1) := by decide +kernel
theorem dX5_reach_35 : decode (mC mX5_reach) 35 = .ok (.invokevirtual 69, 3) := by decide +kernel
theorem dX5_reach_38 : decode (mC mX5_reach) 38 = .ok (.bipush 99, 2) := by decide +kernel
theorem dX5_reach_40 : decode (mC mX5_reach) 40 = .ok (.if_icmp .ge 9, 3) := by decide +kernel
theorem dX5_reach_43 : decode (mC mX5_reach) 43 = .ok (.iconst 1, 1) := by decide +kernel
theorem dX5_reach_44 : decode (mC mX5_reach) 44 = .ok (.iload_n 3, 1) := by decide +kernel
theorem dX5_reach_45 : decode (mC mX5_reach) 45 = .ok (.ishl, 1) := by decide +kernel
theorem dX5_reach_46 : decode (mC mX5_reach) 46 = .ok (.goto 4, 3) := by decide +kernel
theorem dX5_reach_49 : decode (mC mX5_reach) 49 = .ok (.iconst 0, 1) := by decide +kernel
theorem dX5_reach_50 : decode (mC mX5_reach) 50 = .ok (.ior, 1) := by decide +kernel
theorem dX5_reach_51 : decode (mC mX5_reach) 51 = .ok (.istore_n 2, 1) := by decide +kernel
theorem dX5_reach_52 : decode (mC mX5_reach) 52 = .ok (.iinc 3 1, 3) := by decide +kernel
theorem dX5_reach_55 : decode (mC mX5_reach) 55 = .ok (.goto (-30), 3) := by decide +kernel
theorem dX5_reach_58 : decode (mC mX5_reach) 58 = .ok (.iload_n 2, 1) := by decide +kernel
theorem dX5_reach_59 : decode (mC mX5_reach) 59 = .ok (.ireturn, 1) := by decide +kernel
theorem dX5_open_0 : decode (mC mX5_open) 0 = .ok (.iconst 0, 1) := by decide +kernel
theorem dX5_open_1 : decode (mC mX5_open) 1 = .ok (.istore_n 1, 1) := by decide +kernel
theorem dX5_open_2 : decode (mC mX5_open) 2 = .ok (.iconst 0, 1) := by decide +kernel
theorem dX5_open_3 : decode (mC mX5_open) 3 = .ok (.istore_n 2, 1) := by decide +kernel
theorem dX5_open_4 : decode (mC mX5_open) 4 = .ok (.iload_n 2, 1) := by decide +kernel
theorem dX5_open_5 : decode (mC mX5_open) 5 = .ok (.aload_n 0, 1) := by decide +kernel
theorem dX5_open_6 : decode (mC mX5_open) 6 = .ok (.getfield 9, 3) := by decide +kernel
theorem dX5_open_9 : decode (mC mX5_open) 9 = .ok (.iconst 0, 1) := by decide +kernel
theorem dX5_open_10 : decode (mC mX5_open) 10 = .ok (.iaload, 1) := by decide +kernel
theorem dX5_open_11 : decode (mC mX5_open) 11 = .ok (.if_icmp .ge 40, 3) := by decide +kernel
theorem dX5_open_14 : decode (mC mX5_open) 14 = .ok (.iload_n 1, 1) := by decide +kernel
theorem dX5_open_15 : decode (mC mX5_open) 15 = .ok (.aload_n 0, 1) := by decide +kernel
theorem dX5_open_16 : decode (mC mX5_open) 16 = .ok (.getfield 9, 3) := by decide +kernel
theorem dX5_open_19 : decode (mC mX5_open) 19 = .ok (.iload_n 2, 1) := by decide +kernel
theorem dX5_open_20 : decode (mC mX5_open) 20 = .ok (.bipush (-9), 2) := by decide +kernel
theorem dX5_open_22 : decode (mC mX5_open) 22 = .ok (.aload_n 0, 1) := by decide +kernel
theorem dX5_open_23 : decode (mC mX5_open) 23 = .ok (.getfield 9, 3) := by decide +kernel
theorem dX5_open_26 : decode (mC mX5_open) 26 = .ok (.iconst 2, 1) := by decide +kernel
theorem dX5_open_27 : decode (mC mX5_open) 27 = .ok (.iaload, 1) := by decide +kernel
theorem dX5_open_28 : decode (mC mX5_open) 28 = .ok (.iconst 1, 1) := by decide +kernel
theorem dX5_open_29 : decode (mC mX5_open) 29 = .ok (.iadd, 1) := by decide +kernel
theorem dX5_open_30 : decode (mC mX5_open) 30 = .ok (.invokestatic 76, 3) := by decide +kernel
theorem dX5_open_33 : decode (mC mX5_open) 33 = .ok (.ifCond .eq 9, 3) := by decide +kernel
theorem dX5_open_36 : decode (mC mX5_open) 36 = .ok (.iconst 1, 1) := by decide +kernel
theorem dX5_open_37 : decode (mC mX5_open) 37 = .ok (.iload_n 2, 1) := by decide +kernel
theorem dX5_open_38 : decode (mC mX5_open) 38 = .ok (.ishl, 1) := by decide +kernel
theorem dX5_open_39 : decode (mC mX5_open) 39 = .ok (.goto 4, 3) := by decide +kernel
theorem dX5_open_42 : decode (mC mX5_open) 42 = .ok (.iconst 0, 1) := by decide +kernel
theorem dX5_open_43 : decode (mC mX5_open) 43 = .ok (.ior, 1) := by decide +kernel
theorem dX5_open_44 : decode (mC mX5_open) 44 = .ok (.istore_n 1, 1) := by decide +kernel
theorem dX5_open_45 : decode (mC mX5_open) 45 = .ok (.iinc 2 1, 3) := by decide +kernel
theorem dX5_open_48 : decode (mC mX5_open) 48 = .ok (.goto (-44), 3) := by decide +kernel
theorem dX5_open_51 : decode (mC mX5_open) 51 = .ok (.iload_n 1, 1) := by decide +kernel
theorem dX5_open_52 : decode (mC mX5_open) 52 = .ok (.ireturn, 1) := by decide +kernel
theorem dX5_helper_0 : decode (mC mX5_helper) 0 = .ok (.iload_n 1, 1) := by decide +kernel
theorem dX5_helper_1 : decode (mC mX5_helper) 1 = .ok (.iconst 0, 1) := by decide +kernel
theorem dX5_helper_2 : decode (mC mX5_helper) 2 = .ok (.bipush 30, 2) := by decide +kernel
theorem dX5_helper_4 : decode (mC mX5_helper) 4 = .ok (.invokestatic 152, 3) := by decide +kernel
theorem dX5_helper_7 : decode (mC mX5_helper) 7 = .ok (.istore_n 3, 1) := by decide +kernel
theorem dX5_helper_8 : decode (mC mX5_helper) 8 = .ok (.iload_n 3, 1) := by decide +kernel
theorem dX5_helper_9 : decode (mC mX5_helper) 9 = .ok (.ifCond .ne 15, 3) := by decide +kernel
theorem dX5_helper_12 : decode (mC mX5_helper) 12 = .ok (.iload_n 2, 1) := by decide +kernel
theorem dX5_helper_13 : decode (mC mX5_helper) 13 = .ok (.iconst 0, 1) := by decide +kernel
theorem dX5_helper_14 : decode (mC mX5_helper) 14 = .ok (.iconst 1, 1) := by decide +kernel
theorem dX5_helper_15 : decode (mC mX5_helper) 15 = .ok (.invokestatic 43, 3) := by decide +kernel
theorem dX5_helper_18 : decode (mC mX5_helper) 18 = .ok (.ifCond .ne 6, 3) := by decide +kernel
theorem dX5_helper_21 : decode (mC mX5_helper) 21 = .ok (.bipush (-2), 2) := by decide +kernel
theorem dX5_helper_23 : decode (mC mX5_helper) 23 = .ok (.istore_n 3, 1) := by decide +kernel
theorem dX5_helper_24 : decode (mC mX5_helper) 24 = .ok (.iload_n 3, 1) := by decide +kernel
theorem dX5_helper_25 : decode (mC mX5_helper) 25 = .ok (.ifCond .eq 9, 3) := by decide +kernel
theorem dX5_helper_28 : decode (mC mX5_helper) 28 = .ok (.aload_n 0, 1) := by decide +kernel
theorem dX5_helper_29 : decode (mC mX5_helper) 29 = .ok (.iload_n 3, 1) := by decide +kernel
theorem dX5_helper_30 : decode (mC mX5_helper) 30 = .ok (.invokevirtual 39, 3) := by decide +kernel
theorem dX5_helper_33 : decode (mC mX5_helper) 33 = .ok (.ireturn, 1) := by decide +kernel
theorem dX5_helper_34 : decode (mC mX5_helper) 34 = .ok (.iconst 0, 1) := by decide +kernel
theorem dX5_helper_35 : decode (mC mX5_helper) 35 = .ok (.istore 4, 2) := by decide +kernel
theorem dX5_helper_37 : decode (mC mX5_helper) 37 = .ok (.iconst (-1), 1) := by decide +kernel
theorem dX5_helper_38 : decode (mC mX5_helper) 38 = .ok (.istore 5, 2) := by decide +kernel
theorem dX5_helper_40 : decode (mC mX5_helper) 40 = .ok (.iconst 0, 1) := by decide +kernel
theorem dX5_helper_41 : decode (mC mX5_helper) 41 = .ok (.istore 6, 2) := by decide +kernel
theorem dX5_helper_43 : decode (mC mX5_helper) 43 = .ok (.iload 6, 2) := by decide +kernel
theorem dX5_helper_45 : decode (mC mX5_helper) 45 = .ok (.bipush 8, 2) := by decide +kernel
theorem dX5_helper_47 : decode (mC mX5_helper) 47 = .ok (.if_icmp .ge 83, 3) := by decide +kernel
theorem dX5_helper_50 : decode (mC mX5_helper) 50 = .ok (.aload_n 0, 1) := by decide +kernel
theorem dX5_helper_51 : decode (mC mX5_helper) 51 = .ok (.getfield 9, 3) := by decide +kernel
theorem dX5_helper_54 : decode (mC mX5_helper) 54 = .ok (.aload_n 0, 1) := by decide +kernel
theorem dX5_helper_55 : decode (mC mX5_helper) 55 = .ok (.getfield 13, 3) := by decide +kernel
theorem dX5_helper_58 : decode (mC mX5_helper) 58 = .ok (.invokestatic 138, 3) := by decide +kernel
theorem dX5_helper_61 : decode (mC mX5_helper) 61 = .ok (.aload_n 0, 1) := by decide +kernel
theorem dX5_helper_62 : decode (mC mX5_helper) 62 = .ok (.getfield 13, 3) := by decide +kernel
theorem dX5_helper_65 : decode (mC mX5_helper) 65 = .ok (.iload 6, 2) := by decide +kernel
theorem dX5_helper_67 : decode (mC mX5_helper) 67 = .ok (.iload 6, 2) := by decide +kernel
theorem dX5_helper_69 : decode (mC mX5_helper) 69 = .ok (.bipush 9, 2) := by decide +kernel
theorem dX5_helper_71 : decode (mC mX5_helper) 71 = .ok (.invokestatic 118, 3) := by decide +kernel
theorem dX5_helper_74 : decode (mC mX5_helper) 74 = .ok (.aload_n 0, 1) := by decide +kernel
theorem dX5_helper_75 : decode (mC mX5_helper) 75 = .ok (.aload_n 0, 1) := by decide +kernel
theorem dX5_helper_76 : decode (mC mX5_helper) 76 = .ok (.getfield 13, 3) := by decide +kernel
theorem dX5_helper_79 : decode (mC mX5_helper) 79 = .ok (.iload_n 1, 1) := by decide +kernel
theorem dX5_helper_80 : decode (mC mX5_helper) 80 = .ok (.invokevirtual 132, 3) := by decide +kernel
theorem dX5_helper_83 : decode (mC mX5_helper) 83 = .ok (.aload_n 0, 1) := by decide +kernel
theorem dX5_helper_84 : decode (mC mX5_helper) 84 = .ok (.getfield 13, 3) := by decide +kernel
theorem dX5_helper_87 : decode (mC mX5_helper) 87 = .ok (.invokestatic 155, 3) := by decide +kernel
theorem dX5_helper_90 : decode (mC mX5_helper) 90 = .ok (.iconst 1, 1) := by decide +kernel
theorem dX5_helper_91 : decode (mC mX5_helper) 91 = .ok (.aload_n 0, 1) := by decide +kernel
theorem dX5_helper_92 : decode (mC mX5_helper) 92 = .ok (.getfield 9, 3) := by decide +kernel
theorem dX5_helper_95 : decode (mC mX5_helper) 95 = .ok (.iconst 1, 1) := by decide +kernel
theorem dX5_helper_96 : decode (mC mX5_helper) 96 = .ok (.iaload, 1) := by decide +kernel
theorem dX5_helper_97 : decode (mC mX5_helper) 97 = .ok (.ishl, 1) := by decide +kernel
theorem dX5_helper_98 : decode (mC mX5_helper) 98 = .ok (.iconst (-1), 1) := by decide +kernel
theorem dX5_helper_99 : decode (mC mX5_helper) 99 = .ok (.ixor, 1) := by decide +kernel
theorem dX5_helper_100 : decode (mC mX5_helper) 100 = .ok (.iand, 1) := by decide +kernel
theorem dX5_helper_101 : decode (mC mX5_helper) 101 = .ok (.invokestatic 159, 3) := by decide +kernel
theorem dX5_helper_104 : decode (mC mX5_helper) 104 = .ok (.istore 7, 2) := by decide +kernel
theorem dX5_helper_106 : decode (mC mX5_helper) 106 = .ok (.iload 7, 2) := by decide +kernel
theorem dX5_helper_108 : decode (mC mX5_helper) 108 = .ok (.iload 5, 2) := by decide +kernel
theorem dX5_helper_110 : decode (mC mX5_helper) 110 = .ok (.if_icmp .gt 6, 3) := by decide +kernel
theorem dX5_helper_113 : decode (mC mX5_helper) 113 = .ok (.goto 11, 3) := by decide +kernel
theorem dX5_helper_116 : decode (mC mX5_helper) 116 = .ok (.iload 6, 2) := by decide +kernel
theorem dX5_helper_118 : decode (mC mX5_helper) 118 = .ok (.istore 4, 2) := by decide +kernel
theorem dX5_helper_120 : decode (mC mX5_helper) 120 = .ok (.iload 7, 2) := by decide +kernel
theorem dX5_helper_122 : decode (mC mX5_helper) 122 = .ok (.istore 5, 2) := by decide +kernel
theorem dX5_helper_124 : decode (mC mX5_helper) 124 = .ok (.iinc 6 1, 3) := by decide +kernel
theorem dX5_helper_127 : decode (mC mX5_helper) 127 = .ok (.goto (-84), 3) := by decide +kernel
theorem dX5_helper_130 : decode (mC mX5_helper) 130 = .ok (.iload_n 2, 1) := by decide +kernel
theorem dX5_helper_131 : decode (mC mX5_helper) 131 = .ok (.ifCond .ne 8, 3) := by decide +kernel
theorem dX5_helper_134 : decode (mC mX5_helper) 134 = .ok (.iload 4, 2) := by decide +kernel
theorem dX5_helper_136 : decode (mC mX5_helper) 136 = .ok (.goto 5, 3) := by decide +kernel
theorem dX5_helper_139 : decode (mC mX5_helper) 139 = .ok (.iload 5, 2) := by decide +kernel
theorem dX5_helper_141 : decode (mC mX5_helper) 141 = .ok (.ireturn, 1) := by decide +kernel
theorem dX5_fewest_0 : decode (mC mX5_fewest) 0 = .ok (.aload_n 0, 1) := by decide +kernel
theorem dX5_fewest_1 : decode (mC mX5_fewest) 1 = .ok (.iload_n 1, 1) := by decide +kernel
theorem dX5_fewest_2 : decode (mC mX5_fewest) 2 = .ok (.invokevirtual 122, 3) := by decide +kernel
theorem dX5_fewest_5 : decode (mC mX5_fewest) 5 = .ok (.ifCond .eq 13, 3) := by decide +kernel
theorem dX5_fewest_8 : decode (mC mX5_fewest) 8 = .ok (.iload_n 2, 1) := by decide +kernel
theorem dX5_fewest_9 : decode (mC mX5_fewest) 9 = .ok (.iconst 0, 1) := by decide +kernel
theorem dX5_fewest_10 : decode (mC mX5_fewest) 10 = .ok (.bipush 30, 2) := by decide +kernel
theorem dX5_fewest_12 : decode (mC mX5_fewest) 12 = .ok (.invokestatic 152, 3) := by decide +kernel
theorem dX5_fewest_15 : decode (mC mX5_fewest) 15 = .ok (.goto 4, 3) := by decide +kernel
theorem dX5_fewest_18 : decode (mC mX5_fewest) 18 = .ok (.iconst (-1), 1) := by decide +kernel
theorem dX5_fewest_19 : decode (mC mX5_fewest) 19 = .ok (.istore_n 3, 1) := by decide +kernel
theorem dX5_fewest_20 : decode (mC mX5_fewest) 20 = .ok (.iload_n 3, 1) := by decide +kernel
theorem dX5_fewest_21 : decode (mC mX5_fewest) 21 = .ok (.ifCond .eq 9, 3) := by decide +kernel
theorem dX5_fewest_24 : decode (mC mX5_fewest) 24 = .ok (.aload_n 0, 1) := by decide +kernel
theorem dX5_fewest_25 : decode (mC mX5_fewest) 25 = .ok (.iload_n 3, 1) := by decide +kernel
theorem dX5_fewest_26 : decode (mC mX5_fewest) 26 = .ok (.invokevirtual 39, 3) := by decide +kernel
theorem dX5_fewest_29 : decode (mC mX5_fewest) 29 = .ok (.ireturn, 1) := by decide +kernel
theorem dX5_fewest_30 : decode (mC mX5_fewest) 30 = .ok (.bipush (-9), 2) := by decide +kernel
theorem dX5_fewest_32 : decode (mC mX5_fewest) 32 = .ok (.istore 4, 2) := by decide +kernel
theorem dX5_fewest_34 : decode (mC mX5_fewest) 34 = .ok (.iconst 0, 1) := by decide +kernel
theorem dX5_fewest_35 : decode (mC mX5_fewest) 35 = .ok (.istore 5, 2) := by decide +kernel
theorem dX5_fewest_37 : decode (mC mX5_fewest) 37 = .ok (.iload 5, 2) := by decide +kernel
theorem dX5_fewest_39 : decode (mC mX5_fewest) 39 = .ok (.iconst 1, 1) := by decide +kernel
theorem dX5_fewest_40 : decode (mC mX5_fewest) 40 = .ok (.aload_n 0, 1) := by decide +kernel
theorem dX5_fewest_41 : decode (mC mX5_fewest) 41 = .ok (.getfield 9, 3) := by decide +kernel
theorem dX5_fewest_44 : decode (mC mX5_fewest) 44 = .ok (.iconst 1, 1) := by decide +kernel
theorem dX5_fewest_45 : decode (mC mX5_fewest) 45 = .ok (.iaload, 1) := by decide +kernel
theorem dX5_fewest_46 : decode (mC mX5_fewest) 46 = .ok (.ishl, 1) := by decide +kernel
theorem dX5_fewest_47 : decode (mC mX5_fewest) 47 = .ok (.if_icmp .ge 129, 3) := by decide +kernel
theorem dX5_fewest_50 : decode (mC mX5_fewest) 50 = .ok (.iload 5, 2) := by decide +kernel
theorem dX5_fewest_52 : decode (mC mX5_fewest) 52 = .ok (.iload_n 1, 1) := by decide +kernel
theorem dX5_fewest_53 : decode (mC mX5_fewest) 53 = .ok (.invokestatic 47, 3) := by decide +kernel
theorem dX5_fewest_56 : decode (mC mX5_fewest) 56 = .ok (.ifCond .ne 114, 3) := by decide +kernel
theorem dX5_fewest_59 : decode (mC mX5_fewest) 59 = .ok (.iload 4, 2) := by decide +kernel
theorem dX5_fewest_61 : decode (mC mX5_fewest) 61 = .ok (.ifCond .lt 19, 3) := by decide +kernel
theorem dX5_fewest_64 : decode (mC mX5_fewest) 64 = .ok (.iload 5, 2) := by decide +kernel
theorem dX5_fewest_66 : decode (mC mX5_fewest) 66 = .ok (.invokestatic 159, 3) := by decide +kernel
theorem dX5_fewest_69 : decode (mC mX5_fewest) 69 = .ok (.iload 4, 2) := by decide +kernel
theorem dX5_fewest_71 : decode (mC mX5_fewest) 71 = .ok (.invokestatic 159, 3) := by decide +kernel
theorem dX5_fewest_74 : decode (mC mX5_fewest) 74 = .ok (.if_icmp .lt 6, 3) := by decide +kernel
theorem dX5_fewest_77 : decode (mC mX5_fewest) 77 = .ok (.goto 93, 3) := by decide +kernel
theorem dX5_fewest_80 : decode (mC mX5_fewest) 80 = .ok (.aload_n 0, 1) := by decide +kernel
theorem dX5_fewest_81 : decode (mC mX5_fewest) 81 = .ok (.getfield 9, 3) := by decide +kernel
theorem dX5_fewest_84 : decode (mC mX5_fewest) 84 = .ok (.aload_n 0, 1) := by decide +kernel
theorem dX5_fewest_85 : decode (mC mX5_fewest) 85 = .ok (.getfield 13, 3) := by decide +kernel
theorem dX5_fewest_88 : decode (mC mX5_fewest) 88 = .ok (.invokestatic 138, 3) := by decide +kernel
theorem dX5_fewest_91 : decode (mC mX5_fewest) 91 = .ok (.iconst 0, 1) := by decide +kernel
theorem dX5_fewest_92 : decode (mC mX5_fewest) 92 = .ok (.istore 6, 2) := by decide +kernel
theorem dX5_fewest_94 : decode (mC mX5_fewest) 94 = .ok (.iload 6, 2) := by decide +kernel
theorem dX5_fewest_96 : decode (mC mX5_fewest) 96 = .ok (.aload_n 0, 1) := by decide +kernel
theorem dX5_fewest_97 : decode (mC mX5_fewest) 97 = .ok (.getfield 9, 3) := by decide +kernel
theorem dX5_fewest_100 : decode (mC mX5_fewest) 100 = .ok (.iconst 1, 1) := by decide +kernel
theorem dX5_fewest_101 : decode (mC mX5_fewest) 101 = .ok (.iaload, 1) := by decide +kernel
theorem dX5_fewest_102 : decode (mC mX5_fewest) 102 = .ok (.if_icmp .ge 41, 3) := by decide +kernel
theorem dX5_fewest_105 : decode (mC mX5_fewest) 105 = .ok (.iload 5, 2) := by decide +kernel
theorem dX5_fewest_107 : decode (mC mX5_fewest) 107 = .ok (.iload 6, 2) := by decide +kernel
theorem dX5_fewest_109 : decode (mC mX5_fewest) 109 = .ok (.invokestatic 47, 3) := by decide +kernel
theorem dX5_fewest_112 : decode (mC mX5_fewest) 112 = .ok (.ifCond .eq 25, 3) := by decide +kernel
theorem dX5_fewest_115 : decode (mC mX5_fewest) 115 = .ok (.aload_n 0, 1) := by decide +kernel
theorem dX5_fewest_116 : decode (mC mX5_fewest) 116 = .ok (.getfield 13, 3) := by decide +kernel
theorem dX5_fewest_119 : decode (mC mX5_fewest) 119 = .ok (.iload 6, 2) := by decide +kernel
theorem dX5_fewest_121 : decode (mC mX5_fewest) 121 = .ok (.iconst 1, 1) := by decide +kernel
theorem dX5_fewest_122 : decode (mC mX5_fewest) 122 = .ok (.invokestatic 51, 3) := by decide +kernel
theorem dX5_fewest_125 : decode (mC mX5_fewest) 125 = .ok (.aload_n 0, 1) := by decide +kernel
theorem dX5_fewest_126 : decode (mC mX5_fewest) 126 = .ok (.getfield 13, 3) := by decide +kernel
theorem dX5_fewest_129 : decode (mC mX5_fewest) 129 = .ok (.iload 6, 2) := by decide +kernel
theorem dX5_fewest_131 : decode (mC mX5_fewest) 131 = .ok (.iconst 0, 1) := by decide +kernel
theorem dX5_fewest_132 : decode (mC mX5_fewest) 132 = .ok (.invokestatic 51, 3) := by decide +kernel
theorem dX5_fewest_135 : decode (mC mX5_fewest) 135 = .ok (.iaload, 1) := by decide +kernel
theorem dX5_fewest_136 : decode (mC mX5_fewest) 136 = .ok (.iastore, 1) := by decide +kernel
theorem dX5_fewest_137 : decode (mC mX5_fewest) 137 = .ok (.iinc 6 1, 3) := by decide +kernel
theorem dX5_fewest_140 : decode (mC mX5_fewest) 140 = .ok (.goto (-46), 3) := by decide +kernel
theorem dX5_fewest_143 : decode (mC mX5_fewest) 143 = .ok (.aload_n 0, 1) := by decide +kernel
theorem dX5_fewest_144 : decode (mC mX5_fewest) 144 = .ok (.aload_n 0, 1) := by decide +kernel
theorem dX5_fewest_145 : decode (mC mX5_fewest) 145 = .ok (.getfield 13, 3) := by decide +kernel
theorem dX5_fewest_148 : decode (mC mX5_fewest) 148 = .ok (.iload_n 2, 1) := by decide +kernel
theorem dX5_fewest_149 : decode (mC mX5_fewest) 149 = .ok (.invokevirtual 132, 3) := by decide +kernel
theorem dX5_fewest_152 : decode (mC mX5_fewest) 152 = .ok (.aload_n 0, 1) := by decide +kernel
theorem dX5_fewest_153 : decode (mC mX5_fewest) 153 = .ok (.getfield 13, 3) := by decide +kernel
theorem dX5_fewest_156 : decode (mC mX5_fewest) 156 = .ok (.invokestatic 155, 3) := by decide +kernel
theorem dX5_fewest_159 : decode (mC mX5_fewest) 159 = .ok (.iload_n 1, 1) := by decide +kernel
theorem dX5_fewest_160 : decode (mC mX5_fewest) 160 = .ok (.invokestatic 47, 3) := by decide +kernel
theorem dX5_fewest_163 : decode (mC mX5_fewest) 163 = .ok (.ifCond .eq 7, 3) := by decide +kernel
theorem dX5_fewest_166 : decode (mC mX5_fewest) 166 = .ok (.iload 5, 2) := by decide +kernel
theorem dX5_fewest_168 : decode (mC mX5_fewest) 168 = .ok (.istore 4, 2) := by decide +kernel
theorem dX5_fewest_170 : decode (mC mX5_fewest) 170 = .ok (.iinc 5 1, 3) := by decide +kernel
theorem dX5_fewest_173 : decode (mC mX5_fewest) 173 = .ok (.goto (-136), 3) := by decide +kernel
theorem dX5_fewest_176 : decode (mC mX5_fewest) 176 = .ok (.iload 4, 2) := by decide +kernel
theorem dX5_fewest_178 : decode (mC mX5_fewest) 178 = .ok (.ireturn, 1) := by decide +kernel
theorem dX5_bestDoor_0 : decode (mC mX5_bestDoor) 0 = .ok (.aload_n 0, 1) := by decide +kernel
theorem dX5_bestDoor_1 : decode (mC mX5_bestDoor) 1 = .ok (.iload_n 1, 1) := by decide +kernel
theorem dX5_bestDoor_2 : decode (mC mX5_bestDoor) 2 = .ok (.invokevirtual 162, 3) := by decide +kernel
theorem dX5_bestDoor_5 : decode (mC mX5_bestDoor) 5 = .ok (.aload_n 0, 1) := by decide +kernel
theorem dX5_bestDoor_6 : decode (mC mX5_bestDoor) 6 = .ok (.getfield 13, 3) := by decide +kernel
theorem dX5_bestDoor_9 : decode (mC mX5_bestDoor) 9 = .ok (.invokestatic 155, 3) := by decide +kernel
theorem dX5_bestDoor_12 : decode (mC mX5_bestDoor) 12 = .ok (.invokestatic 159, 3) := by decide +kernel
theorem dX5_bestDoor_15 : decode (mC mX5_bestDoor) 15 = .ok (.istore_n 3, 1) := by decide +kernel
theorem dX5_bestDoor_16 : decode (mC mX5_bestDoor) 16 = .ok (.bipush (-9), 2) := by decide +kernel
theorem dX5_bestDoor_18 : decode (mC mX5_bestDoor) 18 = .ok (.istore 4, 2) := by decide +kernel
theorem dX5_bestDoor_20 : decode (mC mX5_bestDoor) 20 = .ok (.iconst 0, 1) := by decide +kernel
theorem dX5_bestDoor_21 : decode (mC mX5_bestDoor) 21 = .ok (.istore 5, 2) := by decide +kernel
theorem dX5_bestDoor_23 : decode (mC mX5_bestDoor) 23 = .ok (.iload 5, 2) := by decide +kernel
theorem dX5_bestDoor_25 : decode (mC mX5_bestDoor) 25 = .ok (.aload_n 0, 1) := by decide +kernel
theorem dX5_bestDoor_26 : decode (mC mX5_bestDoor) 26 = .ok (.getfield 9, 3) := by decide +kernel
theorem dX5_bestDoor_29 : decode (mC mX5_bestDoor) 29 = .ok (.iconst 0, 1) := by decide +kernel
theorem dX5_bestDoor_30 : decode (mC mX5_bestDoor) 30 = .ok (.iaload, 1) := by decide +kernel
theorem dX5_bestDoor_31 : decode (mC mX5_bestDoor) 31 = .ok (.if_icmp .ge 89, 3) := by decide +kernel
theorem dX5_bestDoor_34 : decode (mC mX5_bestDoor) 34 = .ok (.aload_n 0, 1) := by decide +kernel
theorem dX5_bestDoor_35 : decode (mC mX5_bestDoor) 35 = .ok (.getfield 9, 3) := by decide +kernel
theorem dX5_bestDoor_38 : decode (mC mX5_bestDoor) 38 = .ok (.aload_n 0, 1) := by decide +kernel
theorem dX5_bestDoor_39 : decode (mC mX5_bestDoor) 39 = .ok (.getfield 13, 3) := by decide +kernel
theorem dX5_bestDoor_42 : decode (mC mX5_bestDoor) 42 = .ok (.invokestatic 138, 3) := by decide +kernel
theorem dX5_bestDoor_45 : decode (mC mX5_bestDoor) 45 = .ok (.iload_n 2, 1) := by decide +kernel
theorem dX5_bestDoor_46 : decode (mC mX5_bestDoor) 46 = .ok (.ifCond .eq 18, 3) := by decide +kernel
theorem dX5_bestDoor_49 : decode (mC mX5_bestDoor) 49 = .ok (.aload_n 0, 1) := by decide +kernel
theorem dX5_bestDoor_50 : decode (mC mX5_bestDoor) 50 = .ok (.getfield 13, 3) := by decide +kernel
theorem dX5_bestDoor_53 : decode (mC mX5_bestDoor) 53 = .ok (.iload 5, 2) := by decide +kernel
theorem dX5_bestDoor_55 : decode (mC mX5_bestDoor) 55 = .ok (.iconst 4, 1) := by decide +kernel
theorem dX5_bestDoor_56 : decode (mC mX5_bestDoor) 56 = .ok (.invokestatic 55, 3) := by decide +kernel
theorem dX5_bestDoor_59 : decode (mC mX5_bestDoor) 59 = .ok (.iconst 1, 1) := by decide +kernel
theorem dX5_bestDoor_60 : decode (mC mX5_bestDoor) 60 = .ok (.iastore, 1) := by decide +kernel
theorem dX5_bestDoor_61 : decode (mC mX5_bestDoor) 61 = .ok (.goto 12, 3) := by decide +kernel
theorem dX5_bestDoor_64 : decode (mC mX5_bestDoor) 64 = .ok (.aload_n 0, 1) := by decide +kernel
theorem dX5_bestDoor_65 : decode (mC mX5_bestDoor) 65 = .ok (.getfield 13, 3) := by decide +kernel
theorem dX5_bestDoor_68 : decode (mC mX5_bestDoor) 68 = .ok (.iload 5, 2) := by decide +kernel
theorem dX5_bestDoor_70 : decode (mC mX5_bestDoor) 70 = .ok (.invokestatic 128, 3) := by decide +kernel
theorem dX5_bestDoor_73 : decode (mC mX5_bestDoor) 73 = .ok (.aload_n 0, 1) := by decide +kernel
theorem dX5_bestDoor_74 : decode (mC mX5_bestDoor) 74 = .ok (.aload_n 0, 1) := by decide +kernel
theorem dX5_bestDoor_75 : decode (mC mX5_bestDoor) 75 = .ok (.getfield 13, 3) := by decide +kernel
theorem dX5_bestDoor_78 : decode (mC mX5_bestDoor) 78 = .ok (.iload_n 1, 1) := by decide +kernel
theorem dX5_bestDoor_79 : decode (mC mX5_bestDoor) 79 = .ok (.invokevirtual 132, 3) := by decide +kernel
theorem dX5_bestDoor_82 : decode (mC mX5_bestDoor) 82 = .ok (.aload_n 0, 1) := by decide +kernel
theorem dX5_bestDoor_83 : decode (mC mX5_bestDoor) 83 = .ok (.getfield 13, 3) := by decide +kernel
theorem dX5_bestDoor_86 : decode (mC mX5_bestDoor) 86 = .ok (.invokestatic 155, 3) := by decide +kernel
theorem dX5_bestDoor_89 : decode (mC mX5_bestDoor) 89 = .ok (.invokestatic 159, 3) := by decide +kernel
theorem dX5_bestDoor_92 : decode (mC mX5_bestDoor) 92 = .ok (.iload_n 3, 1) := by decide +kernel
theorem dX5_bestDoor_93 : decode (mC mX5_bestDoor) 93 = .ok (.if_icmp .gt 6, 3) := by decide +kernel
theorem dX5_bestDoor_96 : decode (mC mX5_bestDoor) 96 = .ok (.goto 18, 3) := by decide +kernel
theorem dX5_bestDoor_99 : decode (mC mX5_bestDoor) 99 = .ok (.iload 5, 2) := by decide +kernel
theorem dX5_bestDoor_101 : decode (mC mX5_bestDoor) 101 = .ok (.istore 4, 2) := by decide +kernel
theorem dX5_bestDoor_103 : decode (mC mX5_bestDoor) 103 = .ok (.aload_n 0, 1) := by decide +kernel
theorem dX5_bestDoor_104 : decode (mC mX5_bestDoor) 104 = .ok (.getfield 13, 3) := by decide +kernel
theorem dX5_bestDoor_107 : decode (mC mX5_bestDoor) 107 = .ok (.invokestatic 155, 3) := by decide +kernel
theorem dX5_bestDoor_110 : decode (mC mX5_bestDoor) 110 = .ok (.invokestatic 159, 3) := by decide +kernel
theorem dX5_bestDoor_113 : decode (mC mX5_bestDoor) 113 = .ok (.istore_n 3, 1) := by decide +kernel
theorem dX5_bestDoor_114 : decode (mC mX5_bestDoor) 114 = .ok (.iinc 5 1, 3) := by decide +kernel
theorem dX5_bestDoor_117 : decode (mC mX5_bestDoor) 117 = .ok (.goto (-94), 3) := by decide +kernel
theorem dX5_bestDoor_120 : decode (mC mX5_bestDoor) 120 = .ok (.iload 4, 2) := by decide +kernel
theorem dX5_bestDoor_122 : decode (mC mX5_bestDoor) 122 = .ok (.ireturn, 1) := by decide +kernel
theorem dX5_turn_0 : decode (mC mX5_turn) 0 = .ok (.iload_n 1, 1) := by decide +kernel
theorem dX5_turn_1 : decode (mC mX5_turn) 1 = .ok (.iconst 0, 1) := by decide +kernel
theorem dX5_turn_2 : decode (mC mX5_turn) 2 = .ok (.bipush 30, 2) := by decide +kernel
theorem dX5_turn_4 : decode (mC mX5_turn) 4 = .ok (.invokestatic 152, 3) := by decide +kernel
theorem dX5_turn_7 : decode (mC mX5_turn) 7 = .ok (.istore_n 2, 1) := by decide +kernel
theorem dX5_turn_8 : decode (mC mX5_turn) 8 = .ok (.iload_n 2, 1) := by decide +kernel
theorem dX5_turn_9 : decode (mC mX5_turn) 9 = .ok (.ifCond .eq 11, 3) := by decide +kernel
theorem dX5_turn_12 : decode (mC mX5_turn) 12 = .ok (.aload_n 0, 1) := by decide +kernel
theorem dX5_turn_13 : decode (mC mX5_turn) 13 = .ok (.iload_n 2, 1) := by decide +kernel
theorem dX5_turn_14 : decode (mC mX5_turn) 14 = .ok (.invokevirtual 39, 3) := by decide +kernel
theorem dX5_turn_17 : decode (mC mX5_turn) 17 = .ok (.goto 9, 3) := by decide +kernel
theorem dX5_turn_20 : decode (mC mX5_turn) 20 = .ok (.aload_n 0, 1) := by decide +kernel
theorem dX5_turn_21 : decode (mC mX5_turn) 21 = .ok (.iload_n 1, 1) := by decide +kernel
theorem dX5_turn_22 : decode (mC mX5_turn) 22 = .ok (.iconst 0, 1) := by decide +kernel
theorem dX5_turn_23 : decode (mC mX5_turn) 23 = .ok (.invokevirtual 178, 3) := by decide +kernel
theorem dX5_turn_26 : decode (mC mX5_turn) 26 = .ok (.ireturn, 1) := by decide +kernel
theorem dX5_wedge_0 : decode (mC mX5_wedge) 0 = .ok (.iload_n 1, 1) := by decide +kernel
theorem dX5_wedge_1 : decode (mC mX5_wedge) 1 = .ok (.iconst 0, 1) := by decide +kernel
theorem dX5_wedge_2 : decode (mC mX5_wedge) 2 = .ok (.bipush 30, 2) := by decide +kernel
theorem dX5_wedge_4 : decode (mC mX5_wedge) 4 = .ok (.invokestatic 152, 3) := by decide +kernel
theorem dX5_wedge_7 : decode (mC mX5_wedge) 7 = .ok (.istore_n 2, 1) := by decide +kernel
theorem dX5_wedge_8 : decode (mC mX5_wedge) 8 = .ok (.iload_n 2, 1) := by decide +kernel
theorem dX5_wedge_9 : decode (mC mX5_wedge) 9 = .ok (.ifCond .eq 11, 3) := by decide +kernel
theorem dX5_wedge_12 : decode (mC mX5_wedge) 12 = .ok (.aload_n 0, 1) := by decide +kernel
theorem dX5_wedge_13 : decode (mC mX5_wedge) 13 = .ok (.iload_n 2, 1) := by decide +kernel
theorem dX5_wedge_14 : decode (mC mX5_wedge) 14 = .ok (.invokevirtual 39, 3) := by decide +kernel
theorem dX5_wedge_17 : decode (mC mX5_wedge) 17 = .ok (.goto 9, 3) := by decide +kernel
theorem dX5_wedge_20 : decode (mC mX5_wedge) 20 = .ok (.aload_n 0, 1) := by decide +kernel
theorem dX5_wedge_21 : decode (mC mX5_wedge) 21 = .ok (.iload_n 1, 1) := by decide +kernel
theorem dX5_wedge_22 : decode (mC mX5_wedge) 22 = .ok (.iconst 1, 1) := by decide +kernel
theorem dX5_wedge_23 : decode (mC mX5_wedge) 23 = .ok (.invokevirtual 178, 3) := by decide +kernel
theorem dX5_wedge_26 : decode (mC mX5_wedge) 26 = .ok (.ireturn, 1) := by decide +kernel
theorem dX5_holds_0 : decode (mC mX5_holds) 0 = .ok (.iload_n 1, 1) := by decide +kernel
theorem dX5_holds_1 : decode (mC mX5_holds) 1 = .ok (.iconst 0, 1) := by decide +kernel
theorem dX5_holds_2 : decode (mC mX5_holds) 2 = .ok (.bipush 30, 2) := by decide +kernel
theorem dX5_holds_4 : decode (mC mX5_holds) 4 = .ok (.invokestatic 152, 3) := by decide +kernel
theorem dX5_holds_7 : decode (mC mX5_holds) 7 = .ok (.istore_n 3, 1) := by decide +kernel
theorem dX5_holds_8 : decode (mC mX5_holds) 8 = .ok (.iload_n 3, 1) := by decide +kernel
theorem dX5_holds_9 : decode (mC mX5_holds) 9 = .ok (.ifCond .ne 15, 3) := by decide +kernel
theorem dX5_holds_12 : decode (mC mX5_holds) 12 = .ok (.iload_n 2, 1) := by decide +kernel
theorem dX5_holds_13 : decode (mC mX5_holds) 13 = .ok (.iconst 0, 1) := by decide +kernel
theorem dX5_holds_14 : decode (mC mX5_holds) 14 = .ok (.iconst 1, 1) := by decide +kernel
theorem dX5_holds_15 : decode (mC mX5_holds) 15 = .ok (.invokestatic 43, 3) := by decide +kernel
theorem dX5_holds_18 : decode (mC mX5_holds) 18 = .ok (.ifCond .ne 6, 3) := by decide +kernel
theorem dX5_holds_21 : decode (mC mX5_holds) 21 = .ok (.bipush (-2), 2) := by decide +kernel
theorem dX5_holds_23 : decode (mC mX5_holds) 23 = .ok (.istore_n 3, 1) := by decide +kernel
theorem dX5_holds_24 : decode (mC mX5_holds) 24 = .ok (.iload_n 3, 1) := by decide +kernel
theorem dX5_holds_25 : decode (mC mX5_holds) 25 = .ok (.ifCond .eq 9, 3) := by decide +kernel
theorem dX5_holds_28 : decode (mC mX5_holds) 28 = .ok (.aload_n 0, 1) := by decide +kernel
theorem dX5_holds_29 : decode (mC mX5_holds) 29 = .ok (.iload_n 3, 1) := by decide +kernel
theorem dX5_holds_30 : decode (mC mX5_holds) 30 = .ok (.invokevirtual 39, 3) := by decide +kernel
theorem dX5_holds_33 : decode (mC mX5_holds) 33 = .ok (.ireturn, 1) := by decide +kernel
theorem dX5_holds_34 : decode (mC mX5_holds) 34 = .ok (.bipush (-9), 2) := by decide +kernel
theorem dX5_holds_36 : decode (mC mX5_holds) 36 = .ok (.istore 4, 2) := by decide +kernel
theorem dX5_holds_38 : decode (mC mX5_holds) 38 = .ok (.ldc 182, 2) := by decide +kernel
theorem dX5_holds_40 : decode (mC mX5_holds) 40 = .ok (.istore 5, 2) := by decide +kernel
theorem dX5_holds_42 : decode (mC mX5_holds) 42 = .ok (.iconst 0, 1) := by decide +kernel
theorem dX5_holds_43 : decode (mC mX5_holds) 43 = .ok (.istore 6, 2) := by decide +kernel
theorem dX5_holds_45 : decode (mC mX5_holds) 45 = .ok (.iload 6, 2) := by decide +kernel
theorem dX5_holds_47 : decode (mC mX5_holds) 47 = .ok (.aload_n 0, 1) := by decide +kernel
theorem dX5_holds_48 : decode (mC mX5_holds) 48 = .ok (.getfield 9, 3) := by decide +kernel
theorem dX5_holds_51 : decode (mC mX5_holds) 51 = .ok (.iconst 1, 1) := by decide +kernel
theorem dX5_holds_52 : decode (mC mX5_holds) 52 = .ok (.iaload, 1) := by decide +kernel
theorem dX5_holds_53 : decode (mC mX5_holds) 53 = .ok (.if_icmp .ge 69, 3) := by decide +kernel
theorem dX5_holds_56 : decode (mC mX5_holds) 56 = .ok (.aload_n 0, 1) := by decide +kernel
theorem dX5_holds_57 : decode (mC mX5_holds) 57 = .ok (.getfield 9, 3) := by decide +kernel
theorem dX5_holds_60 : decode (mC mX5_holds) 60 = .ok (.aload_n 0, 1) := by decide +kernel
theorem dX5_holds_61 : decode (mC mX5_holds) 61 = .ok (.getfield 13, 3) := by decide +kernel
theorem dX5_holds_64 : decode (mC mX5_holds) 64 = .ok (.invokestatic 138, 3) := by decide +kernel
theorem dX5_holds_67 : decode (mC mX5_holds) 67 = .ok (.aload_n 0, 1) := by decide +kernel
theorem dX5_holds_68 : decode (mC mX5_holds) 68 = .ok (.getfield 13, 3) := by decide +kernel
theorem dX5_holds_71 : decode (mC mX5_holds) 71 = .ok (.iconst 4, 1) := by decide +kernel
theorem dX5_holds_72 : decode (mC mX5_holds) 72 = .ok (.iconst 1, 1) := by decide +kernel
theorem dX5_holds_73 : decode (mC mX5_holds) 73 = .ok (.iload 6, 2) := by decide +kernel
theorem dX5_holds_75 : decode (mC mX5_holds) 75 = .ok (.ishl, 1) := by decide +kernel
theorem dX5_holds_76 : decode (mC mX5_holds) 76 = .ok (.iastore, 1) := by decide +kernel
theorem dX5_holds_77 : decode (mC mX5_holds) 77 = .ok (.aload_n 0, 1) := by decide +kernel
theorem dX5_holds_78 : decode (mC mX5_holds) 78 = .ok (.aload_n 0, 1) := by decide +kernel
theorem dX5_holds_79 : decode (mC mX5_holds) 79 = .ok (.getfield 13, 3) := by decide +kernel
theorem dX5_holds_82 : decode (mC mX5_holds) 82 = .ok (.iload_n 1, 1) := by decide +kernel
theorem dX5_holds_83 : decode (mC mX5_holds) 83 = .ok (.invokevirtual 132, 3) := by decide +kernel
theorem dX5_holds_86 : decode (mC mX5_holds) 86 = .ok (.aload_n 0, 1) := by decide +kernel
theorem dX5_holds_87 : decode (mC mX5_holds) 87 = .ok (.getfield 13, 3) := by decide +kernel
theorem dX5_holds_90 : decode (mC mX5_holds) 90 = .ok (.invokestatic 155, 3) := by decide +kernel
theorem dX5_holds_93 : decode (mC mX5_holds) 93 = .ok (.invokestatic 159, 3) := by decide +kernel
theorem dX5_holds_96 : decode (mC mX5_holds) 96 = .ok (.istore 7, 2) := by decide +kernel
theorem dX5_holds_98 : decode (mC mX5_holds) 98 = .ok (.iload 7, 2) := by decide +kernel
theorem dX5_holds_100 : decode (mC mX5_holds) 100 = .ok (.iload 5, 2) := by decide +kernel
theorem dX5_holds_102 : decode (mC mX5_holds) 102 = .ok (.if_icmp .lt 6, 3) := by decide +kernel
theorem dX5_holds_105 : decode (mC mX5_holds) 105 = .ok (.goto 11, 3) := by decide +kernel
theorem dX5_holds_108 : decode (mC mX5_holds) 108 = .ok (.iload 6, 2) := by decide +kernel
theorem dX5_holds_110 : decode (mC mX5_holds) 110 = .ok (.istore 4, 2) := by decide +kernel
theorem dX5_holds_112 : decode (mC mX5_holds) 112 = .ok (.iload 7, 2) := by decide +kernel
theorem dX5_holds_114 : decode (mC mX5_holds) 114 = .ok (.istore 5, 2) := by decide +kernel
theorem dX5_holds_116 : decode (mC mX5_holds) 116 = .ok (.iinc 6 1, 3) := by decide +kernel
theorem dX5_holds_119 : decode (mC mX5_holds) 119 = .ok (.goto (-74), 3) := by decide +kernel
theorem dX5_holds_122 : decode (mC mX5_holds) 122 = .ok (.iload 4, 2) := by decide +kernel
theorem dX5_holds_124 : decode (mC mX5_holds) 124 = .ok (.ifCond .lt 7, 3) := by decide +kernel
theorem dX5_holds_127 : decode (mC mX5_holds) 127 = .ok (.iload_n 2, 1) := by decide +kernel
theorem dX5_holds_128 : decode (mC mX5_holds) 128 = .ok (.ifCond .ne 8, 3) := by decide +kernel
theorem dX5_holds_131 : decode (mC mX5_holds) 131 = .ok (.iload 4, 2) := by decide +kernel
theorem dX5_holds_133 : decode (mC mX5_holds) 133 = .ok (.goto 5, 3) := by decide +kernel
theorem dX5_holds_136 : decode (mC mX5_holds) 136 = .ok (.iload 5, 2) := by decide +kernel
theorem dX5_holds_138 : decode (mC mX5_holds) 138 = .ok (.ireturn, 1) := by decide +kernel
theorem dX5_manyIn_0 : decode (mC mX5_manyIn) 0 = .ok (.iconst 0, 1) := by decide +kernel
theorem dX5_manyIn_1 : decode (mC mX5_manyIn) 1 = .ok (.istore_n 2, 1) := by decide +kernel
theorem dX5_manyIn_2 : decode (mC mX5_manyIn) 2 = .ok (.iconst 0, 1) := by decide +kernel
theorem dX5_manyIn_3 : decode (mC mX5_manyIn) 3 = .ok (.istore_n 3, 1) := by decide +kernel
theorem dX5_manyIn_4 : decode (mC mX5_manyIn) 4 = .ok (.iload_n 3, 1) := by decide +kernel
theorem dX5_manyIn_5 : decode (mC mX5_manyIn) 5 = .ok (.aload_n 0, 1) := by decide +kernel
theorem dX5_manyIn_6 : decode (mC mX5_manyIn) 6 = .ok (.getfield 9, 3) := by decide +kernel
theorem dX5_manyIn_9 : decode (mC mX5_manyIn) 9 = .ok (.iconst 1, 1) := by decide +kernel
theorem dX5_manyIn_10 : decode (mC mX5_manyIn) 10 = .ok (.iaload, 1) := by decide +kernel
theorem dX5_manyIn_11 : decode (mC mX5_manyIn) 11 = .ok (.if_icmp .ge 31, 3) := by decide +kernel
theorem dX5_manyIn_14 : decode (mC mX5_manyIn) 14 = .ok (.iload_n 2, 1) := by decide +kernel
theorem dX5_manyIn_15 : decode (mC mX5_manyIn) 15 = .ok (.aload_n 0, 1) := by decide +kernel
theorem dX5_manyIn_16 : decode (mC mX5_manyIn) 16 = .ok (.getfield 9, 3) := by decide +kernel
theorem dX5_manyIn_19 : decode (mC mX5_manyIn) 19 = .ok (.iload_n 3, 1) := by decide +kernel
theorem dX5_manyIn_20 : decode (mC mX5_manyIn) 20 = .ok (.iconst 0, 1) := by decide +kernel
theorem dX5_manyIn_21 : decode (mC mX5_manyIn) 21 = .ok (.invokestatic 51, 3) := by decide +kernel
theorem dX5_manyIn_24 : decode (mC mX5_manyIn) 24 = .ok (.iaload, 1) := by decide +kernel
theorem dX5_manyIn_25 : decode (mC mX5_manyIn) 25 = .ok (.iload_n 1, 1) := by decide +kernel
theorem dX5_manyIn_26 : decode (mC mX5_manyIn) 26 = .ok (.if_icmp .ne 7, 3) := by decide +kernel
theorem dX5_manyIn_29 : decode (mC mX5_manyIn) 29 = .ok (.iconst 1, 1) := by decide +kernel
theorem dX5_manyIn_30 : decode (mC mX5_manyIn) 30 = .ok (.goto 4, 3) := by decide +kernel
theorem dX5_manyIn_33 : decode (mC mX5_manyIn) 33 = .ok (.iconst 0, 1) := by decide +kernel
theorem dX5_manyIn_34 : decode (mC mX5_manyIn) 34 = .ok (.iadd, 1) := by decide +kernel
theorem dX5_manyIn_35 : decode (mC mX5_manyIn) 35 = .ok (.istore_n 2, 1) := by decide +kernel
theorem dX5_manyIn_36 : decode (mC mX5_manyIn) 36 = .ok (.iinc 3 1, 3) := by decide +kernel
theorem dX5_manyIn_39 : decode (mC mX5_manyIn) 39 = .ok (.goto (-35), 3) := by decide +kernel
theorem dX5_manyIn_42 : decode (mC mX5_manyIn) 42 = .ok (.iload_n 2, 1) := by decide +kernel
theorem dX5_manyIn_43 : decode (mC mX5_manyIn) 43 = .ok (.ireturn, 1) := by decide +kernel
theorem dX5_doorsBy_0 : decode (mC mX5_doorsBy) 0 = .ok (.iconst 0, 1) := by decide +kernel
theorem dX5_doorsBy_1 : decode (mC mX5_doorsBy) 1 = .ok (.istore_n 3, 1) := by decide +kernel
theorem dX5_doorsBy_2 : decode (mC mX5_doorsBy) 2 = .ok (.iconst 0, 1) := by decide +kernel
theorem dX5_doorsBy_3 : decode (mC mX5_doorsBy) 3 = .ok (.istore 4, 2) := by decide +kernel
theorem dX5_doorsBy_5 : decode (mC mX5_doorsBy) 5 = .ok (.iload 4, 2) := by decide +kernel
theorem dX5_doorsBy_7 : decode (mC mX5_doorsBy) 7 = .ok (.aload_n 0, 1) := by decide +kernel
theorem dX5_doorsBy_8 : decode (mC mX5_doorsBy) 8 = .ok (.getfield 9, 3) := by decide +kernel
theorem dX5_doorsBy_11 : decode (mC mX5_doorsBy) 11 = .ok (.iconst 0, 1) := by decide +kernel
theorem dX5_doorsBy_12 : decode (mC mX5_doorsBy) 12 = .ok (.iaload, 1) := by decide +kernel
theorem dX5_doorsBy_13 : decode (mC mX5_doorsBy) 13 = .ok (.if_icmp .ge 35, 3) := by decide +kernel
theorem dX5_doorsBy_16 : decode (mC mX5_doorsBy) 16 = .ok (.iload_n 3, 1) := by decide +kernel
theorem dX5_doorsBy_17 : decode (mC mX5_doorsBy) 17 = .ok (.aload_n 0, 1) := by decide +kernel
theorem dX5_doorsBy_18 : decode (mC mX5_doorsBy) 18 = .ok (.getfield 9, 3) := by decide +kernel
theorem dX5_doorsBy_21 : decode (mC mX5_doorsBy) 21 = .ok (.iload 4, 2) := by decide +kernel
theorem dX5_doorsBy_23 : decode (mC mX5_doorsBy) 23 = .ok (.iload_n 1, 1) := by decide +kernel
theorem dX5_doorsBy_24 : decode (mC mX5_doorsBy) 24 = .ok (.invokestatic 55, 3) := by decide +kernel
theorem dX5_doorsBy_27 : decode (mC mX5_doorsBy) 27 = .ok (.iaload, 1) := by decide +kernel
theorem dX5_doorsBy_28 : decode (mC mX5_doorsBy) 28 = .ok (.iload_n 2, 1) := by decide +kernel
theorem dX5_doorsBy_29 : decode (mC mX5_doorsBy) 29 = .ok (.if_icmp .ne 10, 3) := by decide +kernel
theorem dX5_doorsBy_32 : decode (mC mX5_doorsBy) 32 = .ok (.iconst 1, 1) := by decide +kernel
theorem dX5_doorsBy_33 : decode (mC mX5_doorsBy) 33 = .ok (.iload 4, 2) := by decide +kernel
theorem dX5_doorsBy_35 : decode (mC mX5_doorsBy) 35 = .ok (.ishl, 1) := by decide +kernel
theorem dX5_doorsBy_36 : decode (mC mX5_doorsBy) 36 = .ok (.goto 4, 3) := by decide +kernel
theorem dX5_doorsBy_39 : decode (mC mX5_doorsBy) 39 = .ok (.iconst 0, 1) := by decide +kernel
theorem dX5_doorsBy_40 : decode (mC mX5_doorsBy) 40 = .ok (.ior, 1) := by decide +kernel
theorem dX5_doorsBy_41 : decode (mC mX5_doorsBy) 41 = .ok (.istore_n 3, 1) := by decide +kernel
theorem dX5_doorsBy_42 : decode (mC mX5_doorsBy) 42 = .ok (.iinc 4 1, 3) := by decide +kernel
theorem dX5_doorsBy_45 : decode (mC mX5_doorsBy) 45 = .ok (.goto (-40), 3) := by decide +kernel
theorem dX5_doorsBy_48 : decode (mC mX5_doorsBy) 48 = .ok (.iload_n 3, 1) := by decide +kernel
theorem dX5_doorsBy_49 : decode (mC mX5_doorsBy) 49 = .ok (.ireturn, 1) := by decide +kernel
theorem dX5_crowd_0 : decode (mC mX5_crowd) 0 = .ok (.iload_n 1, 1) := by decide +kernel
theorem dX5_crowd_1 : decode (mC mX5_crowd) 1 = .ok (.iconst 0, 1) := by decide +kernel
theorem dX5_crowd_2 : decode (mC mX5_crowd) 2 = .ok (.iconst 3, 1) := by decide +kernel
theorem dX5_crowd_3 : decode (mC mX5_crowd) 3 = .ok (.invokestatic 43, 3) := by decide +kernel
theorem dX5_crowd_6 : decode (mC mX5_crowd) 6 = .ok (.ifCond .ne 10, 3) := by decide +kernel
theorem dX5_crowd_9 : decode (mC mX5_crowd) 9 = .ok (.aload_n 0, 1) := by decide +kernel
theorem dX5_crowd_10 : decode (mC mX5_crowd) 10 = .ok (.bipush (-2), 2) := by decide +kernel
theorem dX5_crowd_12 : decode (mC mX5_crowd) 12 = .ok (.invokevirtual 39, 3) := by decide +kernel
theorem dX5_crowd_15 : decode (mC mX5_crowd) 15 = .ok (.ireturn, 1) := by decide +kernel
theorem dX5_crowd_16 : decode (mC mX5_crowd) 16 = .ok (.iconst 0, 1) := by decide +kernel
theorem dX5_crowd_17 : decode (mC mX5_crowd) 17 = .ok (.istore_n 2, 1) := by decide +kernel
theorem dX5_crowd_18 : decode (mC mX5_crowd) 18 = .ok (.iconst 0, 1) := by decide +kernel
theorem dX5_crowd_19 : decode (mC mX5_crowd) 19 = .ok (.istore_n 3, 1) := by decide +kernel
theorem dX5_crowd_20 : decode (mC mX5_crowd) 20 = .ok (.iconst 0, 1) := by decide +kernel
theorem dX5_crowd_21 : decode (mC mX5_crowd) 21 = .ok (.istore 4, 2) := by decide +kernel
theorem dX5_crowd_23 : decode (mC mX5_crowd) 23 = .ok (.iload 4, 2) := by decide +kernel
theorem dX5_crowd_25 : decode (mC mX5_crowd) 25 = .ok (.bipush 8, 2) := by decide +kernel
theorem dX5_crowd_27 : decode (mC mX5_crowd) 27 = .ok (.if_icmp .ge 64, 3) := by decide +kernel
theorem dX5_crowd_30 : decode (mC mX5_crowd) 30 = .ok (.aload_n 0, 1) := by decide +kernel
theorem dX5_crowd_31 : decode (mC mX5_crowd) 31 = .ok (.iload 4, 2) := by decide +kernel
theorem dX5_crowd_33 : decode (mC mX5_crowd) 33 = .ok (.invokevirtual 183, 3) := by decide +kernel
theorem dX5_crowd_36 : decode (mC mX5_crowd) 36 = .ok (.aload_n 0, 1) := by decide +kernel
theorem dX5_crowd_37 : decode (mC mX5_crowd) 37 = .ok (.iload_n 2, 1) := by decide +kernel
theorem dX5_crowd_38 : decode (mC mX5_crowd) 38 = .ok (.invokevirtual 183, 3) := by decide +kernel
theorem dX5_crowd_41 : decode (mC mX5_crowd) 41 = .ok (.if_icmp .le 6, 3) := by decide +kernel
theorem dX5_crowd_44 : decode (mC mX5_crowd) 44 = .ok (.iload 4, 2) := by decide +kernel
theorem dX5_crowd_46 : decode (mC mX5_crowd) 46 = .ok (.istore_n 2, 1) := by decide +kernel
theorem dX5_crowd_47 : decode (mC mX5_crowd) 47 = .ok (.iload_n 3, 1) := by decide +kernel
theorem dX5_crowd_48 : decode (mC mX5_crowd) 48 = .ok (.iload_n 1, 1) := by decide +kernel
theorem dX5_crowd_49 : decode (mC mX5_crowd) 49 = .ok (.iconst 2, 1) := by decide +kernel
theorem dX5_crowd_50 : decode (mC mX5_crowd) 50 = .ok (.if_icmp .ne 15, 3) := by decide +kernel
theorem dX5_crowd_53 : decode (mC mX5_crowd) 53 = .ok (.aload_n 0, 1) := by decide +kernel
theorem dX5_crowd_54 : decode (mC mX5_crowd) 54 = .ok (.iload 4, 2) := by decide +kernel
theorem dX5_crowd_56 : decode (mC mX5_crowd) 56 = .ok (.invokevirtual 183, 3) := by decide +kernel
theorem dX5_crowd_59 : decode (mC mX5_crowd) 59 = .ok (.ifCond .ne 23, 3) := by decide +kernel
theorem dX5_crowd_62 : decode (mC mX5_crowd) 62 = .ok (.goto 13, 3) := by decide +kernel
theorem dX5_crowd_65 : decode (mC mX5_crowd) 65 = .ok (.aload_n 0, 1) := by decide +kernel
theorem dX5_crowd_66 : decode (mC mX5_crowd) 66 = .ok (.iconst 2, 1) := by decide +kernel
theorem dX5_crowd_67 : decode (mC mX5_crowd) 67 = .ok (.iload 4, 2) := by decide +kernel
theorem dX5_crowd_69 : decode (mC mX5_crowd) 69 = .ok (.invokevirtual 186, 3) := by decide +kernel
theorem dX5_crowd_72 : decode (mC mX5_crowd) 72 = .ok (.ifCond .ne 10, 3) := by decide +kernel
theorem dX5_crowd_75 : decode (mC mX5_crowd) 75 = .ok (.iconst 1, 1) := by decide +kernel
theorem dX5_crowd_76 : decode (mC mX5_crowd) 76 = .ok (.iload 4, 2) := by decide +kernel
theorem dX5_crowd_78 : decode (mC mX5_crowd) 78 = .ok (.ishl, 1) := by decide +kernel
theorem dX5_crowd_79 : decode (mC mX5_crowd) 79 = .ok (.goto 4, 3) := by decide +kernel
theorem dX5_crowd_82 : decode (mC mX5_crowd) 82 = .ok (.iconst 0, 1) := by decide +kernel
theorem dX5_crowd_83 : decode (mC mX5_crowd) 83 = .ok (.ior, 1) := by decide +kernel
theorem dX5_crowd_84 : decode (mC mX5_crowd) 84 = .ok (.istore_n 3, 1) := by decide +kernel
theorem dX5_crowd_85 : decode (mC mX5_crowd) 85 = .ok (.iinc 4 1, 3) := by decide +kernel
theorem dX5_crowd_88 : decode (mC mX5_crowd) 88 = .ok (.goto (-65), 3) := by decide +kernel
theorem dX5_crowd_91 : decode (mC mX5_crowd) 91 = .ok (.iload_n 1, 1) := by decide +kernel
theorem dX5_crowd_92 : decode (mC mX5_crowd) 92 = .ok (.ifCond .ne 7, 3) := by decide +kernel
theorem dX5_crowd_95 : decode (mC mX5_crowd) 95 = .ok (.iload_n 2, 1) := by decide +kernel
theorem dX5_crowd_96 : decode (mC mX5_crowd) 96 = .ok (.goto 17, 3) := by decide +kernel
theorem dX5_crowd_99 : decode (mC mX5_crowd) 99 = .ok (.iload_n 1, 1) := by decide +kernel
theorem dX5_crowd_100 : decode (mC mX5_crowd) 100 = .ok (.iconst 1, 1) := by decide +kernel
theorem dX5_crowd_101 : decode (mC mX5_crowd) 101 = .ok (.if_icmp .ne 11, 3) := by decide +kernel
theorem dX5_crowd_104 : decode (mC mX5_crowd) 104 = .ok (.aload_n 0, 1) := by decide +kernel
theorem dX5_crowd_105 : decode (mC mX5_crowd) 105 = .ok (.iload_n 2, 1) := by decide +kernel
theorem dX5_crowd_106 : decode (mC mX5_crowd) 106 = .ok (.invokevirtual 183, 3) := by decide +kernel
theorem dX5_crowd_109 : decode (mC mX5_crowd) 109 = .ok (.goto 4, 3) := by decide +kernel
theorem dX5_crowd_112 : decode (mC mX5_crowd) 112 = .ok (.iload_n 3, 1) := by decide +kernel
theorem dX5_crowd_113 : decode (mC mX5_crowd) 113 = .ok (.ireturn, 1) := by decide +kernel
theorem dX5_handles_0 : decode (mC mX5_handles) 0 = .ok (.iload_n 1, 1) := by decide +kernel
theorem dX5_handles_1 : decode (mC mX5_handles) 1 = .ok (.invokestatic 111, 3) := by decide +kernel
theorem dX5_handles_4 : decode (mC mX5_handles) 4 = .ok (.ifCond .eq 12, 3) := by decide +kernel
theorem dX5_handles_7 : decode (mC mX5_handles) 7 = .ok (.aload_n 0, 1) := by decide +kernel
theorem dX5_handles_8 : decode (mC mX5_handles) 8 = .ok (.iconst 3, 1) := by decide +kernel
theorem dX5_handles_9 : decode (mC mX5_handles) 9 = .ok (.iload_n 1, 1) := by decide +kernel
theorem dX5_handles_10 : decode (mC mX5_handles) 10 = .ok (.invokevirtual 186, 3) := by decide +kernel
theorem dX5_handles_13 : decode (mC mX5_handles) 13 = .ok (.goto 8, 3) := by decide +kernel
theorem dX5_handles_16 : decode (mC mX5_handles) 16 = .ok (.aload_n 0, 1) := by decide +kernel
theorem dX5_handles_17 : decode (mC mX5_handles) 17 = .ok (.iconst (-1), 1) := by decide +kernel
theorem dX5_handles_18 : decode (mC mX5_handles) 18 = .ok (.invokevirtual 39, 3) := by decide +kernel
theorem dX5_handles_21 : decode (mC mX5_handles) 21 = .ok (.ireturn, 1) := by decide +kernel
theorem dX5_meet_0 : decode (mC mX5_meet) 0 = .ok (.iload_n 1, 1) := by decide +kernel
theorem dX5_meet_1 : decode (mC mX5_meet) 1 = .ok (.iconst 0, 1) := by decide +kernel
theorem dX5_meet_2 : decode (mC mX5_meet) 2 = .ok (.iconst 1, 1) := by decide +kernel
theorem dX5_meet_3 : decode (mC mX5_meet) 3 = .ok (.invokestatic 43, 3) := by decide +kernel
theorem dX5_meet_6 : decode (mC mX5_meet) 6 = .ok (.ifCond .ne 10, 3) := by decide +kernel
theorem dX5_meet_9 : decode (mC mX5_meet) 9 = .ok (.aload_n 0, 1) := by decide +kernel
theorem dX5_meet_10 : decode (mC mX5_meet) 10 = .ok (.bipush (-2), 2) := by decide +kernel
theorem dX5_meet_12 : decode (mC mX5_meet) 12 = .ok (.invokevirtual 39, 3) := by decide +kernel
theorem dX5_meet_15 : decode (mC mX5_meet) 15 = .ok (.ireturn, 1) := by decide +kernel
theorem dX5_meet_16 : decode (mC mX5_meet) 16 = .ok (.aload_n 0, 1) := by decide +kernel
theorem dX5_meet_17 : decode (mC mX5_meet) 17 = .ok (.aload_n 0, 1) := by decide +kernel
theorem dX5_meet_18 : decode (mC mX5_meet) 18 = .ok (.getfield 9, 3) := by decide +kernel
theorem dX5_meet_21 : decode (mC mX5_meet) 21 = .ok (.invokevirtual 83, 3) := by decide +kernel
theorem dX5_meet_24 : decode (mC mX5_meet) 24 = .ok (.bipush (-9), 2) := by decide +kernel
theorem dX5_meet_26 : decode (mC mX5_meet) 26 = .ok (.istore_n 2, 1) := by decide +kernel
theorem dX5_meet_27 : decode (mC mX5_meet) 27 = .ok (.bipush 99, 2) := by decide +kernel
theorem dX5_meet_29 : decode (mC mX5_meet) 29 = .ok (.istore_n 3, 1) := by decide +kernel
theorem dX5_meet_30 : decode (mC mX5_meet) 30 = .ok (.iconst 0, 1) := by decide +kernel
theorem dX5_meet_31 : decode (mC mX5_meet) 31 = .ok (.istore 4, 2) := by decide +kernel
theorem dX5_meet_33 : decode (mC mX5_meet) 33 = .ok (.iload 4, 2) := by decide +kernel
theorem dX5_meet_35 : decode (mC mX5_meet) 35 = .ok (.bipush 8, 2) := by decide +kernel
theorem dX5_meet_37 : decode (mC mX5_meet) 37 = .ok (.if_icmp .ge 69, 3) := by decide +kernel
theorem dX5_meet_40 : decode (mC mX5_meet) 40 = .ok (.iconst 0, 1) := by decide +kernel
theorem dX5_meet_41 : decode (mC mX5_meet) 41 = .ok (.istore 5, 2) := by decide +kernel
theorem dX5_meet_43 : decode (mC mX5_meet) 43 = .ok (.iconst 0, 1) := by decide +kernel
theorem dX5_meet_44 : decode (mC mX5_meet) 44 = .ok (.istore 6, 2) := by decide +kernel
theorem dX5_meet_46 : decode (mC mX5_meet) 46 = .ok (.iload 6, 2) := by decide +kernel
theorem dX5_meet_48 : decode (mC mX5_meet) 48 = .ok (.aload_n 0, 1) := by decide +kernel
theorem dX5_meet_49 : decode (mC mX5_meet) 49 = .ok (.getfield 9, 3) := by decide +kernel
theorem dX5_meet_52 : decode (mC mX5_meet) 52 = .ok (.iconst 1, 1) := by decide +kernel
theorem dX5_meet_53 : decode (mC mX5_meet) 53 = .ok (.iaload, 1) := by decide +kernel
theorem dX5_meet_54 : decode (mC mX5_meet) 54 = .ok (.if_icmp .ge 31, 3) := by decide +kernel
theorem dX5_meet_57 : decode (mC mX5_meet) 57 = .ok (.iload 5, 2) := by decide +kernel
theorem dX5_meet_59 : decode (mC mX5_meet) 59 = .ok (.aload_n 0, 1) := by decide +kernel
theorem dX5_meet_60 : decode (mC mX5_meet) 60 = .ok (.aload_n 0, 1) := by decide +kernel
theorem dX5_meet_61 : decode (mC mX5_meet) 61 = .ok (.getfield 9, 3) := by decide +kernel
theorem dX5_meet_64 : decode (mC mX5_meet) 64 = .ok (.iload 6, 2) := by decide +kernel
theorem dX5_meet_66 : decode (mC mX5_meet) 66 = .ok (.iconst 0, 1) := by decide +kernel
theorem dX5_meet_67 : decode (mC mX5_meet) 67 = .ok (.invokestatic 51, 3) := by decide +kernel
theorem dX5_meet_70 : decode (mC mX5_meet) 70 = .ok (.iaload, 1) := by decide +kernel
theorem dX5_meet_71 : decode (mC mX5_meet) 71 = .ok (.iload 4, 2) := by decide +kernel
theorem dX5_meet_73 : decode (mC mX5_meet) 73 = .ok (.invokevirtual 69, 3) := by decide +kernel
theorem dX5_meet_76 : decode (mC mX5_meet) 76 = .ok (.iadd, 1) := by decide +kernel
theorem dX5_meet_77 : decode (mC mX5_meet) 77 = .ok (.istore 5, 2) := by decide +kernel
theorem dX5_meet_79 : decode (mC mX5_meet) 79 = .ok (.iinc 6 1, 3) := by decide +kernel
theorem dX5_meet_82 : decode (mC mX5_meet) 82 = .ok (.goto (-36), 3) := by decide +kernel
theorem dX5_meet_85 : decode (mC mX5_meet) 85 = .ok (.iload 5, 2) := by decide +kernel
theorem dX5_meet_87 : decode (mC mX5_meet) 87 = .ok (.iload_n 3, 1) := by decide +kernel
theorem dX5_meet_88 : decode (mC mX5_meet) 88 = .ok (.if_icmp .lt 6, 3) := by decide +kernel
theorem dX5_meet_91 : decode (mC mX5_meet) 91 = .ok (.goto 9, 3) := by decide +kernel
theorem dX5_meet_94 : decode (mC mX5_meet) 94 = .ok (.iload 4, 2) := by decide +kernel
theorem dX5_meet_96 : decode (mC mX5_meet) 96 = .ok (.istore_n 2, 1) := by decide +kernel
theorem dX5_meet_97 : decode (mC mX5_meet) 97 = .ok (.iload 5, 2) := by decide +kernel
theorem dX5_meet_99 : decode (mC mX5_meet) 99 = .ok (.istore_n 3, 1) := by decide +kernel
theorem dX5_meet_100 : decode (mC mX5_meet) 100 = .ok (.iinc 4 1, 3) := by decide +kernel
theorem dX5_meet_103 : decode (mC mX5_meet) 103 = .ok (.goto (-70), 3) := by decide +kernel
theorem dX5_meet_106 : decode (mC mX5_meet) 106 = .ok (.iload_n 2, 1) := by decide +kernel
theorem dX5_meet_107 : decode (mC mX5_meet) 107 = .ok (.ifCond .lt 7, 3) := by decide +kernel
theorem dX5_meet_110 : decode (mC mX5_meet) 110 = .ok (.iload_n 1, 1) := by decide +kernel
theorem dX5_meet_111 : decode (mC mX5_meet) 111 = .ok (.ifCond .ne 7, 3) := by decide +kernel
theorem dX5_meet_114 : decode (mC mX5_meet) 114 = .ok (.iload_n 2, 1) := by decide +kernel
theorem dX5_meet_115 : decode (mC mX5_meet) 115 = .ok (.goto 4, 3) := by decide +kernel
theorem dX5_meet_118 : decode (mC mX5_meet) 118 = .ok (.iload_n 3, 1) := by decide +kernel
theorem dX5_meet_119 : decode (mC mX5_meet) 119 = .ok (.ireturn, 1) := by decide +kernel
theorem dX5_hasBy_0 : decode (mC mX5_hasBy) 0 = .ok (.aload_n 0, 1) := by decide +kernel
theorem dX5_hasBy_1 : decode (mC mX5_hasBy) 1 = .ok (.getfield 9, 3) := by decide +kernel
theorem dX5_hasBy_4 : decode (mC mX5_hasBy) 4 = .ok (.aload_n 0, 1) := by decide +kernel
theorem dX5_hasBy_5 : decode (mC mX5_hasBy) 5 = .ok (.getfield 13, 3) := by decide +kernel
theorem dX5_hasBy_8 : decode (mC mX5_hasBy) 8 = .ok (.invokestatic 138, 3) := by decide +kernel
theorem dX5_hasBy_11 : decode (mC mX5_hasBy) 11 = .ok (.iload_n 3, 1) := by decide +kernel
theorem dX5_hasBy_12 : decode (mC mX5_hasBy) 12 = .ok (.iconst 1, 1) := by decide +kernel
theorem dX5_hasBy_13 : decode (mC mX5_hasBy) 13 = .ok (.if_icmp .ne 23, 3) := by decide +kernel
theorem dX5_hasBy_16 : decode (mC mX5_hasBy) 16 = .ok (.aload_n 0, 1) := by decide +kernel
theorem dX5_hasBy_17 : decode (mC mX5_hasBy) 17 = .ok (.getfield 13, 3) := by decide +kernel
theorem dX5_hasBy_20 : decode (mC mX5_hasBy) 20 = .ok (.iload_n 2, 1) := by decide +kernel
theorem dX5_hasBy_21 : decode (mC mX5_hasBy) 21 = .ok (.iconst 1, 1) := by decide +kernel
theorem dX5_hasBy_22 : decode (mC mX5_hasBy) 22 = .ok (.invokestatic 51, 3) := by decide +kernel
theorem dX5_hasBy_25 : decode (mC mX5_hasBy) 25 = .ok (.aload_n 0, 1) := by decide +kernel
theorem dX5_hasBy_26 : decode (mC mX5_hasBy) 26 = .ok (.getfield 9, 3) := by decide +kernel
theorem dX5_hasBy_29 : decode (mC mX5_hasBy) 29 = .ok (.iload_n 2, 1) := by decide +kernel
theorem dX5_hasBy_30 : decode (mC mX5_hasBy) 30 = .ok (.iconst 0, 1) := by decide +kernel
theorem dX5_hasBy_31 : decode (mC mX5_hasBy) 31 = .ok (.invokestatic 51, 3) := by decide +kernel
theorem dX5_hasBy_34 : decode (mC mX5_hasBy) 34 = .ok (.iaload, 1) := by decide +kernel
theorem dX5_hasBy_35 : decode (mC mX5_hasBy) 35 = .ok (.iastore, 1) := by decide +kernel
theorem dX5_hasBy_36 : decode (mC mX5_hasBy) 36 = .ok (.iload 5, 2) := by decide +kernel
theorem dX5_hasBy_38 : decode (mC mX5_hasBy) 38 = .ok (.iconst 1, 1) := by decide +kernel
theorem dX5_hasBy_39 : decode (mC mX5_hasBy) 39 = .ok (.if_icmp .ne 25, 3) := by decide +kernel
theorem dX5_hasBy_42 : decode (mC mX5_hasBy) 42 = .ok (.aload_n 0, 1) := by decide +kernel
theorem dX5_hasBy_43 : decode (mC mX5_hasBy) 43 = .ok (.getfield 13, 3) := by decide +kernel
theorem dX5_hasBy_46 : decode (mC mX5_hasBy) 46 = .ok (.iload 4, 2) := by decide +kernel
theorem dX5_hasBy_48 : decode (mC mX5_hasBy) 48 = .ok (.iconst 1, 1) := by decide +kernel
theorem dX5_hasBy_49 : decode (mC mX5_hasBy) 49 = .ok (.invokestatic 51, 3) := by decide +kernel
theorem dX5_hasBy_52 : decode (mC mX5_hasBy) 52 = .ok (.aload_n 0, 1) := by decide +kernel
theorem dX5_hasBy_53 : decode (mC mX5_hasBy) 53 = .ok (.getfield 9, 3) := by decide +kernel
theorem dX5_hasBy_56 : decode (mC mX5_hasBy) 56 = .ok (.iload 4, 2) := by decide +kernel
theorem dX5_hasBy_58 : decode (mC mX5_hasBy) 58 = .ok (.iconst 0, 1) := by decide +kernel
theorem dX5_hasBy_59 : decode (mC mX5_hasBy) 59 = .ok (.invokestatic 51, 3) := by decide +kernel
theorem dX5_hasBy_62 : decode (mC mX5_hasBy) 62 = .ok (.iaload, 1) := by decide +kernel
theorem dX5_hasBy_63 : decode (mC mX5_hasBy) 63 = .ok (.iastore, 1) := by decide +kernel
theorem dX5_hasBy_64 : decode (mC mX5_hasBy) 64 = .ok (.aload_n 0, 1) := by decide +kernel
theorem dX5_hasBy_65 : decode (mC mX5_hasBy) 65 = .ok (.aload_n 0, 1) := by decide +kernel
theorem dX5_hasBy_66 : decode (mC mX5_hasBy) 66 = .ok (.getfield 13, 3) := by decide +kernel
theorem dX5_hasBy_69 : decode (mC mX5_hasBy) 69 = .ok (.iload 6, 2) := by decide +kernel
theorem dX5_hasBy_71 : decode (mC mX5_hasBy) 71 = .ok (.invokevirtual 132, 3) := by decide +kernel
theorem dX5_hasBy_74 : decode (mC mX5_hasBy) 74 = .ok (.aload_n 0, 1) := by decide +kernel
theorem dX5_hasBy_75 : decode (mC mX5_hasBy) 75 = .ok (.getfield 13, 3) := by decide +kernel
theorem dX5_hasBy_78 : decode (mC mX5_hasBy) 78 = .ok (.iload_n 1, 1) := by decide +kernel
theorem dX5_hasBy_79 : decode (mC mX5_hasBy) 79 = .ok (.iconst 0, 1) := by decide +kernel
theorem dX5_hasBy_80 : decode (mC mX5_hasBy) 80 = .ok (.invokestatic 51, 3) := by decide +kernel
theorem dX5_hasBy_83 : decode (mC mX5_hasBy) 83 = .ok (.iaload, 1) := by decide +kernel
theorem dX5_hasBy_84 : decode (mC mX5_hasBy) 84 = .ok (.aload_n 0, 1) := by decide +kernel
theorem dX5_hasBy_85 : decode (mC mX5_hasBy) 85 = .ok (.getfield 9, 3) := by decide +kernel
theorem dX5_hasBy_88 : decode (mC mX5_hasBy) 88 = .ok (.iload_n 1, 1) := by decide +kernel
theorem dX5_hasBy_89 : decode (mC mX5_hasBy) 89 = .ok (.iconst 1, 1) := by decide +kernel
theorem dX5_hasBy_90 : decode (mC mX5_hasBy) 90 = .ok (.invokestatic 51, 3) := by decide +kernel
theorem dX5_hasBy_93 : decode (mC mX5_hasBy) 93 = .ok (.iaload, 1) := by decide +kernel
theorem dX5_hasBy_94 : decode (mC mX5_hasBy) 94 = .ok (.if_icmp .ne 7, 3) := by decide +kernel
theorem dX5_hasBy_97 : decode (mC mX5_hasBy) 97 = .ok (.iconst 3, 1) := by decide +kernel
theorem dX5_hasBy_98 : decode (mC mX5_hasBy) 98 = .ok (.goto 15, 3) := by decide +kernel
theorem dX5_hasBy_101 : decode (mC mX5_hasBy) 101 = .ok (.aload_n 0, 1) := by decide +kernel
theorem dX5_hasBy_102 : decode (mC mX5_hasBy) 102 = .ok (.getfield 13, 3) := by decide +kernel
theorem dX5_hasBy_105 : decode (mC mX5_hasBy) 105 = .ok (.iload_n 1, 1) := by decide +kernel
theorem dX5_hasBy_106 : decode (mC mX5_hasBy) 106 = .ok (.iconst 2, 1) := by decide +kernel
theorem dX5_hasBy_107 : decode (mC mX5_hasBy) 107 = .ok (.invokestatic 51, 3) := by decide +kernel
theorem dX5_hasBy_110 : decode (mC mX5_hasBy) 110 = .ok (.iaload, 1) := by decide +kernel
theorem dX5_hasBy_111 : decode (mC mX5_hasBy) 111 = .ok (.iconst 4, 1) := by decide +kernel
theorem dX5_hasBy_112 : decode (mC mX5_hasBy) 112 = .ok (.idiv, 1) := by decide +kernel
theorem dX5_hasBy_113 : decode (mC mX5_hasBy) 113 = .ok (.ireturn, 1) := by decide +kernel
theorem dX5_two_0 : decode (mC mX5_two) 0 = .ok (.aload_n 0, 1) := by decide +kernel
theorem dX5_two_1 : decode (mC mX5_two) 1 = .ok (.iload_n 1, 1) := by decide +kernel
theorem dX5_two_2 : decode (mC mX5_two) 2 = .ok (.invokevirtual 122, 3) := by decide +kernel
theorem dX5_two_5 : decode (mC mX5_two) 5 = .ok (.ifCond .eq 26, 3) := by decide +kernel
theorem dX5_two_8 : decode (mC mX5_two) 8 = .ok (.aload_n 0, 1) := by decide +kernel
theorem dX5_two_9 : decode (mC mX5_two) 9 = .ok (.iload_n 2, 1) := by decide +kernel
theorem dX5_two_10 : decode (mC mX5_two) 10 = .ok (.invokevirtual 122, 3) := by decide +kernel
theorem dX5_two_13 : decode (mC mX5_two) 13 = .ok (.ifCond .eq 18, 3) := by decide +kernel
theorem dX5_two_16 : decode (mC mX5_two) 16 = .ok (.iload_n 1, 1) := by decide +kernel
theorem dX5_two_17 : decode (mC mX5_two) 17 = .ok (.iload_n 2, 1) := by decide +kernel
theorem dX5_two_18 : decode (mC mX5_two) 18 = .ok (.if_icmp .eq 13, 3) := by decide +kernel
theorem dX5_two_21 : decode (mC mX5_two) 21 = .ok (.iload_n 3, 1) := by decide +kernel
theorem dX5_two_22 : decode (mC mX5_two) 22 = .ok (.iconst 0, 1) := by decide +kernel
theorem dX5_two_23 : decode (mC mX5_two) 23 = .ok (.bipush 30, 2) := by decide +kernel
theorem dX5_two_25 : decode (mC mX5_two) 25 = .ok (.invokestatic 152, 3) := by decide +kernel
theorem dX5_two_28 : decode (mC mX5_two) 28 = .ok (.goto 4, 3) := by decide +kernel
theorem dX5_two_31 : decode (mC mX5_two) 31 = .ok (.iconst (-1), 1) := by decide +kernel
theorem dX5_two_32 : decode (mC mX5_two) 32 = .ok (.istore 4, 2) := by decide +kernel
theorem dX5_two_34 : decode (mC mX5_two) 34 = .ok (.iload 4, 2) := by decide +kernel
theorem dX5_two_36 : decode (mC mX5_two) 36 = .ok (.ifCond .eq 10, 3) := by decide +kernel
theorem dX5_two_39 : decode (mC mX5_two) 39 = .ok (.aload_n 0, 1) := by decide +kernel
theorem dX5_two_40 : decode (mC mX5_two) 40 = .ok (.iload 4, 2) := by decide +kernel
theorem dX5_two_42 : decode (mC mX5_two) 42 = .ok (.invokevirtual 39, 3) := by decide +kernel
theorem dX5_two_45 : decode (mC mX5_two) 45 = .ok (.ireturn, 1) := by decide +kernel
theorem dX5_two_46 : decode (mC mX5_two) 46 = .ok (.iconst 0, 1) := by decide +kernel
theorem dX5_two_47 : decode (mC mX5_two) 47 = .ok (.istore 5, 2) := by decide +kernel
theorem dX5_two_49 : decode (mC mX5_two) 49 = .ok (.iload 5, 2) := by decide +kernel
theorem dX5_two_51 : decode (mC mX5_two) 51 = .ok (.iconst 4, 1) := by decide +kernel
theorem dX5_two_52 : decode (mC mX5_two) 52 = .ok (.if_icmp .ge 88, 3) := by decide +kernel
theorem dX5_two_55 : decode (mC mX5_two) 55 = .ok (.iload 5, 2) := by decide +kernel
theorem dX5_two_57 : decode (mC mX5_two) 57 = .ok (.iconst 2, 1) := by decide +kernel
theorem dX5_two_58 : decode (mC mX5_two) 58 = .ok (.idiv, 1) := by decide +kernel
theorem dX5_two_59 : decode (mC mX5_two) 59 = .ok (.istore 6, 2) := by decide +kernel
theorem dX5_two_61 : decode (mC mX5_two) 61 = .ok (.iload 5, 2) := by decide +kernel
theorem dX5_two_63 : decode (mC mX5_two) 63 = .ok (.iconst 2, 1) := by decide +kernel
theorem dX5_two_64 : decode (mC mX5_two) 64 = .ok (.irem, 1) := by decide +kernel
theorem dX5_two_65 : decode (mC mX5_two) 65 = .ok (.istore 7, 2) := by decide +kernel
theorem dX5_two_67 : decode (mC mX5_two) 67 = .ok (.aload_n 0, 1) := by decide +kernel
theorem dX5_two_68 : decode (mC mX5_two) 68 = .ok (.iload_n 1, 1) := by decide +kernel
theorem dX5_two_69 : decode (mC mX5_two) 69 = .ok (.iload_n 1, 1) := by decide +kernel
theorem dX5_two_70 : decode (mC mX5_two) 70 = .ok (.iconst 1, 1) := by decide +kernel
theorem dX5_two_71 : decode (mC mX5_two) 71 = .ok (.iload 6, 2) := by decide +kernel
theorem dX5_two_73 : decode (mC mX5_two) 73 = .ok (.isub, 1) := by decide +kernel
theorem dX5_two_74 : decode (mC mX5_two) 74 = .ok (.iload_n 2, 1) := by decide +kernel
theorem dX5_two_75 : decode (mC mX5_two) 75 = .ok (.iload 7, 2) := by decide +kernel
theorem dX5_two_77 : decode (mC mX5_two) 77 = .ok (.iload_n 3, 1) := by decide +kernel
theorem dX5_two_78 : decode (mC mX5_two) 78 = .ok (.invokevirtual 189, 3) := by decide +kernel
theorem dX5_two_81 : decode (mC mX5_two) 81 = .ok (.aload_n 0, 1) := by decide +kernel
theorem dX5_two_82 : decode (mC mX5_two) 82 = .ok (.iload_n 1, 1) := by decide +kernel
theorem dX5_two_83 : decode (mC mX5_two) 83 = .ok (.iload_n 1, 1) := by decide +kernel
theorem dX5_two_84 : decode (mC mX5_two) 84 = .ok (.iload 6, 2) := by decide +kernel
theorem dX5_two_86 : decode (mC mX5_two) 86 = .ok (.iload_n 2, 1) := by decide +kernel
theorem dX5_two_87 : decode (mC mX5_two) 87 = .ok (.iload 7, 2) := by decide +kernel
theorem dX5_two_89 : decode (mC mX5_two) 89 = .ok (.iload_n 3, 1) := by decide +kernel
theorem dX5_two_90 : decode (mC mX5_two) 90 = .ok (.invokevirtual 189, 3) := by decide +kernel
theorem dX5_two_93 : decode (mC mX5_two) 93 = .ok (.if_icmp .gt 41, 3) := by decide +kernel
theorem dX5_two_96 : decode (mC mX5_two) 96 = .ok (.aload_n 0, 1) := by decide +kernel
theorem dX5_two_97 : decode (mC mX5_two) 97 = .ok (.iload_n 2, 1) := by decide +kernel
theorem dX5_two_98 : decode (mC mX5_two) 98 = .ok (.iload_n 1, 1) := by decide +kernel
theorem dX5_two_99 : decode (mC mX5_two) 99 = .ok (.iload 6, 2) := by decide +kernel
theorem dX5_two_101 : decode (mC mX5_two) 101 = .ok (.iload_n 2, 1) := by decide +kernel
theorem dX5_two_102 : decode (mC mX5_two) 102 = .ok (.iconst 1, 1) := by decide +kernel
theorem dX5_two_103 : decode (mC mX5_two) 103 = .ok (.iload 7, 2) := by decide +kernel
theorem dX5_two_105 : decode (mC mX5_two) 105 = .ok (.isub, 1) := by decide +kernel
theorem dX5_two_106 : decode (mC mX5_two) 106 = .ok (.iload_n 3, 1) := by decide +kernel
theorem dX5_two_107 : decode (mC mX5_two) 107 = .ok (.invokevirtual 189, 3) := by decide +kernel
theorem dX5_two_110 : decode (mC mX5_two) 110 = .ok (.aload_n 0, 1) := by decide +kernel
theorem dX5_two_111 : decode (mC mX5_two) 111 = .ok (.iload_n 2, 1) := by decide +kernel
theorem dX5_two_112 : decode (mC mX5_two) 112 = .ok (.iload_n 1, 1) := by decide +kernel
theorem dX5_two_113 : decode (mC mX5_two) 113 = .ok (.iload 6, 2) := by decide +kernel
theorem dX5_two_115 : decode (mC mX5_two) 115 = .ok (.iload_n 2, 1) := by decide +kernel
theorem dX5_two_116 : decode (mC mX5_two) 116 = .ok (.iload 7, 2) := by decide +kernel
theorem dX5_two_118 : decode (mC mX5_two) 118 = .ok (.iload_n 3, 1) := by decide +kernel
theorem dX5_two_119 : decode (mC mX5_two) 119 = .ok (.invokevirtual 189, 3) := by decide +kernel
theorem dX5_two_122 : decode (mC mX5_two) 122 = .ok (.if_icmp .gt 12, 3) := by decide +kernel
theorem dX5_two_125 : decode (mC mX5_two) 125 = .ok (.bipush 10, 2) := by decide +kernel
theorem dX5_two_127 : decode (mC mX5_two) 127 = .ok (.iload 6, 2) := by decide +kernel
theorem dX5_two_129 : decode (mC mX5_two) 129 = .ok (.imul, 1) := by decide +kernel
theorem dX5_two_130 : decode (mC mX5_two) 130 = .ok (.iload 7, 2) := by decide +kernel
theorem dX5_two_132 : decode (mC mX5_two) 132 = .ok (.iadd, 1) := by decide +kernel
theorem dX5_two_133 : decode (mC mX5_two) 133 = .ok (.ireturn, 1) := by decide +kernel
theorem dX5_two_134 : decode (mC mX5_two) 134 = .ok (.iinc 5 1, 3) := by decide +kernel
theorem dX5_two_137 : decode (mC mX5_two) 137 = .ok (.goto (-88), 3) := by decide +kernel
theorem dX5_two_140 : decode (mC mX5_two) 140 = .ok (.bipush (-9), 2) := by decide +kernel
theorem dX5_two_142 : decode (mC mX5_two) 142 = .ok (.ireturn, 1) := by decide +kernel
theorem dX5_gcd_0 : decode (mC mX5_gcd) 0 = .ok (.lload_n 0, 1) := by decide +kernel
theorem dX5_gcd_1 : decode (mC mX5_gcd) 1 = .ok (.lstore 4, 2) := by decide +kernel
theorem dX5_gcd_3 : decode (mC mX5_gcd) 3 = .ok (.lload_n 2, 1) := by decide +kernel
theorem dX5_gcd_4 : decode (mC mX5_gcd) 4 = .ok (.lstore 6, 2) := by decide +kernel
theorem dX5_gcd_6 : decode (mC mX5_gcd) 6 = .ok (.lload 6, 2) := by decide +kernel
theorem dX5_gcd_8 : decode (mC mX5_gcd) 8 = .ok (.lconst 0, 1) := by decide +kernel
theorem dX5_gcd_9 : decode (mC mX5_gcd) 9 = .ok (.lcmp, 1) := by decide +kernel
theorem dX5_gcd_10 : decode (mC mX5_gcd) 10 = .ok (.ifCond .eq 21, 3) := by decide +kernel
theorem dX5_gcd_13 : decode (mC mX5_gcd) 13 = .ok (.lload 4, 2) := by decide +kernel
theorem dX5_gcd_15 : decode (mC mX5_gcd) 15 = .ok (.lload 6, 2) := by decide +kernel
theorem dX5_gcd_17 : decode (mC mX5_gcd) 17 = .ok (.lrem, 1) := by decide +kernel
theorem dX5_gcd_18 : decode (mC mX5_gcd) 18 = .ok (.lstore 8, 2) := by decide +kernel
theorem dX5_gcd_20 : decode (mC mX5_gcd) 20 = .ok (.lload 6, 2) := by decide +kernel
theorem dX5_gcd_22 : decode (mC mX5_gcd) 22 = .ok (.lstore 4, 2) := by decide +kernel
theorem dX5_gcd_24 : decode (mC mX5_gcd) 24 = .ok (.lload 8, 2) := by decide +kernel
theorem dX5_gcd_26 : decode (mC mX5_gcd) 26 = .ok (.lstore 6, 2) := by decide +kernel
theorem dX5_gcd_28 : decode (mC mX5_gcd) 28 = .ok (.goto (-22), 3) := by decide +kernel
theorem dX5_gcd_31 : decode (mC mX5_gcd) 31 = .ok (.lload 4, 2) := by decide +kernel
theorem dX5_gcd_33 : decode (mC mX5_gcd) 33 = .ok (.lreturn, 1) := by decide +kernel
theorem dX5_partOf_0 : decode (mC mX5_partOf) 0 = .ok (.lload_n 0, 1) := by decide +kernel
theorem dX5_partOf_1 : decode (mC mX5_partOf) 1 = .ok (.lconst 0, 1) := by decide +kernel
theorem dX5_partOf_2 : decode (mC mX5_partOf) 2 = .ok (.lcmp, 1) := by decide +kernel
theorem dX5_partOf_3 : decode (mC mX5_partOf) 3 = .ok (.ifCond .ne 7, 3) := by decide +kernel
theorem dX5_partOf_6 : decode (mC mX5_partOf) 6 = .ok (.iload 4, 2) := by decide +kernel
theorem dX5_partOf_8 : decode (mC mX5_partOf) 8 = .ok (.i2l, 1) := by decide +kernel
theorem dX5_partOf_9 : decode (mC mX5_partOf) 9 = .ok (.lreturn, 1) := by decide +kernel
theorem dX5_partOf_10 : decode (mC mX5_partOf) 10 = .ok (.iload 4, 2) := by decide +kernel
theorem dX5_partOf_12 : decode (mC mX5_partOf) 12 = .ok (.ifCond .ne 7, 3) := by decide +kernel
theorem dX5_partOf_15 : decode (mC mX5_partOf) 15 = .ok (.lload_n 0, 1) := by decide +kernel
theorem dX5_partOf_16 : decode (mC mX5_partOf) 16 = .ok (.goto 4, 3) := by decide +kernel
theorem dX5_partOf_19 : decode (mC mX5_partOf) 19 = .ok (.lload_n 2, 1) := by decide +kernel
theorem dX5_partOf_20 : decode (mC mX5_partOf) 20 = .ok (.lload_n 0, 1) := by decide +kernel
theorem dX5_partOf_21 : decode (mC mX5_partOf) 21 = .ok (.lload_n 2, 1) := by decide +kernel
theorem dX5_partOf_22 : decode (mC mX5_partOf) 22 = .ok (.invokestatic 193, 3) := by decide +kernel
theorem dX5_partOf_25 : decode (mC mX5_partOf) 25 = .ok (.ldiv, 1) := by decide +kernel
theorem dX5_partOf_26 : decode (mC mX5_partOf) 26 = .ok (.lreturn, 1) := by decide +kernel
theorem dX5_hourBy_0 : decode (mC mX5_hourBy) 0 = .ok (.iconst 0, 1) := by decide +kernel
theorem dX5_hourBy_1 : decode (mC mX5_hourBy) 1 = .ok (.istore_n 2, 1) := by decide +kernel
theorem dX5_hourBy_2 : decode (mC mX5_hourBy) 2 = .ok (.iload_n 2, 1) := by decide +kernel
theorem dX5_hourBy_3 : decode (mC mX5_hourBy) 3 = .ok (.aload_n 0, 1) := by decide +kernel
theorem dX5_hourBy_4 : decode (mC mX5_hourBy) 4 = .ok (.getfield 13, 3) := by decide +kernel
theorem dX5_hourBy_7 : decode (mC mX5_hourBy) 7 = .ok (.iconst 0, 1) := by decide +kernel
theorem dX5_hourBy_8 : decode (mC mX5_hourBy) 8 = .ok (.iaload, 1) := by decide +kernel
theorem dX5_hourBy_9 : decode (mC mX5_hourBy) 9 = .ok (.if_icmp .ge 37, 3) := by decide +kernel
theorem dX5_hourBy_12 : decode (mC mX5_hourBy) 12 = .ok (.aload_n 0, 1) := by decide +kernel
theorem dX5_hourBy_13 : decode (mC mX5_hourBy) 13 = .ok (.getfield 13, 3) := by decide +kernel
theorem dX5_hourBy_16 : decode (mC mX5_hourBy) 16 = .ok (.iload_n 2, 1) := by decide +kernel
theorem dX5_hourBy_17 : decode (mC mX5_hourBy) 17 = .ok (.iconst 4, 1) := by decide +kernel
theorem dX5_hourBy_18 : decode (mC mX5_hourBy) 18 = .ok (.invokestatic 55, 3) := by decide +kernel
theorem dX5_hourBy_21 : decode (mC mX5_hourBy) 21 = .ok (.iload_n 1, 1) := by decide +kernel
theorem dX5_hourBy_22 : decode (mC mX5_hourBy) 22 = .ok (.ifCond .eq 7, 3) := by decide +kernel
theorem dX5_hourBy_25 : decode (mC mX5_hourBy) 25 = .ok (.iconst 1, 1) := by decide +kernel
theorem dX5_hourBy_26 : decode (mC mX5_hourBy) 26 = .ok (.goto 13, 3) := by decide +kernel
theorem dX5_hourBy_29 : decode (mC mX5_hourBy) 29 = .ok (.aload_n 0, 1) := by decide +kernel
theorem dX5_hourBy_30 : decode (mC mX5_hourBy) 30 = .ok (.getfield 9, 3) := by decide +kernel
theorem dX5_hourBy_33 : decode (mC mX5_hourBy) 33 = .ok (.iload_n 2, 1) := by decide +kernel
theorem dX5_hourBy_34 : decode (mC mX5_hourBy) 34 = .ok (.iconst 4, 1) := by decide +kernel
theorem dX5_hourBy_35 : decode (mC mX5_hourBy) 35 = .ok (.invokestatic 55, 3) := by decide +kernel
theorem dX5_hourBy_38 : decode (mC mX5_hourBy) 38 = .ok (.iaload, 1) := by decide +kernel
theorem dX5_hourBy_39 : decode (mC mX5_hourBy) 39 = .ok (.iastore, 1) := by decide +kernel
theorem dX5_hourBy_40 : decode (mC mX5_hourBy) 40 = .ok (.iinc 2 1, 3) := by decide +kernel
theorem dX5_hourBy_43 : decode (mC mX5_hourBy) 43 = .ok (.goto (-41), 3) := by decide +kernel
theorem dX5_hourBy_46 : decode (mC mX5_hourBy) 46 = .ok (.aload_n 0, 1) := by decide +kernel
theorem dX5_hourBy_47 : decode (mC mX5_hourBy) 47 = .ok (.aload_n 0, 1) := by decide +kernel
theorem dX5_hourBy_48 : decode (mC mX5_hourBy) 48 = .ok (.getfield 13, 3) := by decide +kernel
theorem dX5_hourBy_51 : decode (mC mX5_hourBy) 51 = .ok (.invokevirtual 87, 3) := by decide +kernel
theorem dX5_hourBy_54 : decode (mC mX5_hourBy) 54 = .ok (.return_, 1) := by decide +kernel
theorem dX5_fire_0 : decode (mC mX5_fire) 0 = .ok (.aload_n 0, 1) := by decide +kernel
theorem dX5_fire_1 : decode (mC mX5_fire) 1 = .ok (.iload_n 1, 1) := by decide +kernel
theorem dX5_fire_2 : decode (mC mX5_fire) 2 = .ok (.iload_n 2, 1) := by decide +kernel
theorem dX5_fire_3 : decode (mC mX5_fire) 3 = .ok (.invokevirtual 145, 3) := by decide +kernel
theorem dX5_fire_6 : decode (mC mX5_fire) 6 = .ok (.ifCond .eq 9, 3) := by decide +kernel
theorem dX5_fire_9 : decode (mC mX5_fire) 9 = .ok (.aload_n 0, 1) := by decide +kernel
theorem dX5_fire_10 : decode (mC mX5_fire) 10 = .ok (.iconst (-1), 1) := by decide +kernel
theorem dX5_fire_11 : decode (mC mX5_fire) 11 = .ok (.invokevirtual 197, 3) := by decide +kernel
theorem dX5_fire_14 : decode (mC mX5_fire) 14 = .ok (.lreturn, 1) := by decide +kernel
theorem dX5_fire_15 : decode (mC mX5_fire) 15 = .ok (.iload_n 3, 1) := by decide +kernel
theorem dX5_fire_16 : decode (mC mX5_fire) 16 = .ok (.ifCond .lt 9, 3) := by decide +kernel
theorem dX5_fire_19 : decode (mC mX5_fire) 19 = .ok (.iload 4, 2) := by decide +kernel
theorem dX5_fire_21 : decode (mC mX5_fire) 21 = .ok (.iconst 2, 1) := by decide +kernel
theorem dX5_fire_22 : decode (mC mX5_fire) 22 = .ok (.if_icmp .ge 10, 3) := by decide +kernel
theorem dX5_fire_25 : decode (mC mX5_fire) 25 = .ok (.aload_n 0, 1) := by decide +kernel
theorem dX5_fire_26 : decode (mC mX5_fire) 26 = .ok (.bipush (-4), 2) := by decide +kernel
theorem dX5_fire_28 : decode (mC mX5_fire) 28 = .ok (.invokevirtual 197, 3) := by decide +kernel
theorem dX5_fire_31 : decode (mC mX5_fire) 31 = .ok (.lreturn, 1) := by decide +kernel
theorem dX5_fire_32 : decode (mC mX5_fire) 32 = .ok (.iload_n 3, 1) := by decide +kernel
theorem dX5_fire_33 : decode (mC mX5_fire) 33 = .ok (.bipush 7, 2) := by decide +kernel
theorem dX5_fire_35 : decode (mC mX5_fire) 35 = .ok (.if_icmp .gt 10, 3) := by decide +kernel
theorem dX5_fire_38 : decode (mC mX5_fire) 38 = .ok (.iload 4, 2) := by decide +kernel
theorem dX5_fire_40 : decode (mC mX5_fire) 40 = .ok (.bipush 20, 2) := by decide +kernel
theorem dX5_fire_42 : decode (mC mX5_fire) 42 = .ok (.if_icmp .le 10, 3) := by decide +kernel
theorem dX5_fire_45 : decode (mC mX5_fire) 45 = .ok (.aload_n 0, 1) := by decide +kernel
theorem dX5_fire_46 : decode (mC mX5_fire) 46 = .ok (.bipush (-6), 2) := by decide +kernel
theorem dX5_fire_48 : decode (mC mX5_fire) 48 = .ok (.invokevirtual 197, 3) := by decide +kernel
theorem dX5_fire_51 : decode (mC mX5_fire) 51 = .ok (.lreturn, 1) := by decide +kernel
theorem dX5_fire_52 : decode (mC mX5_fire) 52 = .ok (.iload 5, 2) := by decide +kernel
theorem dX5_fire_54 : decode (mC mX5_fire) 54 = .ok (.iconst 0, 1) := by decide +kernel
theorem dX5_fire_55 : decode (mC mX5_fire) 55 = .ok (.iconst 1, 1) := by decide +kernel
theorem dX5_fire_56 : decode (mC mX5_fire) 56 = .ok (.invokestatic 43, 3) := by decide +kernel
theorem dX5_fire_59 : decode (mC mX5_fire) 59 = .ok (.ifCond .ne 10, 3) := by decide +kernel
theorem dX5_fire_62 : decode (mC mX5_fire) 62 = .ok (.aload_n 0, 1) := by decide +kernel
theorem dX5_fire_63 : decode (mC mX5_fire) 63 = .ok (.bipush (-2), 2) := by decide +kernel
theorem dX5_fire_65 : decode (mC mX5_fire) 65 = .ok (.invokevirtual 197, 3) := by decide +kernel
theorem dX5_fire_68 : decode (mC mX5_fire) 68 = .ok (.lreturn, 1) := by decide +kernel
theorem dX5_fire_69 : decode (mC mX5_fire) 69 = .ok (.lconst 0, 1) := by decide +kernel
theorem dX5_fire_70 : decode (mC mX5_fire) 70 = .ok (.lstore 6, 2) := by decide +kernel
theorem dX5_fire_72 : decode (mC mX5_fire) 72 = .ok (.lconst 1, 1) := by decide +kernel
theorem dX5_fire_73 : decode (mC mX5_fire) 73 = .ok (.lstore 8, 2) := by decide +kernel
theorem dX5_fire_75 : decode (mC mX5_fire) 75 = .ok (.iconst 0, 1) := by decide +kernel
theorem dX5_fire_76 : decode (mC mX5_fire) 76 = .ok (.istore 10, 2) := by decide +kernel
theorem dX5_fire_78 : decode (mC mX5_fire) 78 = .ok (.iload 10, 2) := by decide +kernel
theorem dX5_fire_80 : decode (mC mX5_fire) 80 = .ok (.iload_n 3, 1) := by decide +kernel
theorem dX5_fire_81 : decode (mC mX5_fire) 81 = .ok (.if_icmp .ge 17, 3) := by decide +kernel
theorem dX5_fire_84 : decode (mC mX5_fire) 84 = .ok (.lload 8, 2) := by decide +kernel
theorem dX5_fire_86 : decode (mC mX5_fire) 86 = .ok (.iload 4, 2) := by decide +kernel
theorem dX5_fire_88 : decode (mC mX5_fire) 88 = .ok (.i2l, 1) := by decide +kernel
theorem dX5_fire_89 : decode (mC mX5_fire) 89 = .ok (.lmul, 1) := by decide +kernel
theorem dX5_fire_90 : decode (mC mX5_fire) 90 = .ok (.lstore 8, 2) := by decide +kernel
theorem dX5_fire_92 : decode (mC mX5_fire) 92 = .ok (.iinc 10 1, 3) := by decide +kernel
theorem dX5_fire_95 : decode (mC mX5_fire) 95 = .ok (.goto (-17), 3) := by decide +kernel
theorem dX5_fire_98 : decode (mC mX5_fire) 98 = .ok (.iconst 0, 1) := by decide +kernel
theorem dX5_fire_99 : decode (mC mX5_fire) 99 = .ok (.istore 10, 2) := by decide +kernel
theorem dX5_fire_101 : decode (mC mX5_fire) 101 = .ok (.iload 10, 2) := by decide +kernel
theorem dX5_fire_103 : decode (mC mX5_fire) 103 = .ok (.iconst 1, 1) := by decide +kernel
theorem dX5_fire_104 : decode (mC mX5_fire) 104 = .ok (.iload_n 3, 1) := by decide +kernel
theorem dX5_fire_105 : decode (mC mX5_fire) 105 = .ok (.ishl, 1) := by decide +kernel
theorem dX5_fire_106 : decode (mC mX5_fire) 106 = .ok (.if_icmp .ge 92, 3) := by decide +kernel
theorem dX5_fire_109 : decode (mC mX5_fire) 109 = .ok (.lconst 1, 1) := by decide +kernel
theorem dX5_fire_110 : decode (mC mX5_fire) 110 = .ok (.lstore 11, 2) := by decide +kernel
theorem dX5_fire_112 : decode (mC mX5_fire) 112 = .ok (.aload_n 0, 1) := by decide +kernel
theorem dX5_fire_113 : decode (mC mX5_fire) 113 = .ok (.iconst 0, 1) := by decide +kernel
theorem dX5_fire_114 : decode (mC mX5_fire) 114 = .ok (.invokevirtual 162, 3) := by decide +kernel
theorem dX5_fire_117 : decode (mC mX5_fire) 117 = .ok (.iconst 0, 1) := by decide +kernel
theorem dX5_fire_118 : decode (mC mX5_fire) 118 = .ok (.istore 13, 2) := by decide +kernel
theorem dX5_fire_120 : decode (mC mX5_fire) 120 = .ok (.iload 13, 2) := by decide +kernel
theorem dX5_fire_122 : decode (mC mX5_fire) 122 = .ok (.iload_n 3, 1) := by decide +kernel
theorem dX5_fire_123 : decode (mC mX5_fire) 123 = .ok (.if_icmp .ge 44, 3) := by decide +kernel
theorem dX5_fire_126 : decode (mC mX5_fire) 126 = .ok (.lload 11, 2) := by decide +kernel
theorem dX5_fire_128 : decode (mC mX5_fire) 128 = .ok (.iload 10, 2) := by decide +kernel
theorem dX5_fire_130 : decode (mC mX5_fire) 130 = .ok (.iload 13, 2) := by decide +kernel
theorem dX5_fire_132 : decode (mC mX5_fire) 132 = .ok (.invokestatic 47, 3) := by decide +kernel
theorem dX5_fire_135 : decode (mC mX5_fire) 135 = .ok (.ifCond .eq 7, 3) := by decide +kernel
theorem dX5_fire_138 : decode (mC mX5_fire) 138 = .ok (.lconst 1, 1) := by decide +kernel
theorem dX5_fire_139 : decode (mC mX5_fire) 139 = .ok (.goto 8, 3) := by decide +kernel
theorem dX5_fire_142 : decode (mC mX5_fire) 142 = .ok (.iload 4, 2) := by decide +kernel
theorem dX5_fire_144 : decode (mC mX5_fire) 144 = .ok (.iconst 1, 1) := by decide +kernel
theorem dX5_fire_145 : decode (mC mX5_fire) 145 = .ok (.isub, 1) := by decide +kernel
theorem dX5_fire_146 : decode (mC mX5_fire) 146 = .ok (.i2l, 1) := by decide +kernel
theorem dX5_fire_147 : decode (mC mX5_fire) 147 = .ok (.lmul, 1) := by decide +kernel
theorem dX5_fire_148 : decode (mC mX5_fire) 148 = .ok (.lstore 11, 2) := by decide +kernel
theorem dX5_fire_150 : decode (mC mX5_fire) 150 = .ok (.aload_n 0, 1) := by decide +kernel
theorem dX5_fire_151 : decode (mC mX5_fire) 151 = .ok (.iload 10, 2) := by decide +kernel
theorem dX5_fire_153 : decode (mC mX5_fire) 153 = .ok (.iload 13, 2) := by decide +kernel
theorem dX5_fire_155 : decode (mC mX5_fire) 155 = .ok (.invokestatic 47, 3) := by decide +kernel
theorem dX5_fire_158 : decode (mC mX5_fire) 158 = .ok (.invokevirtual 201, 3) := by decide +kernel
theorem dX5_fire_161 : decode (mC mX5_fire) 161 = .ok (.iinc 13 1, 3) := by decide +kernel
theorem dX5_fire_164 : decode (mC mX5_fire) 164 = .ok (.goto (-44), 3) := by decide +kernel
theorem dX5_fire_167 : decode (mC mX5_fire) 167 = .ok (.lload 6, 2) := by decide +kernel
theorem dX5_fire_169 : decode (mC mX5_fire) 169 = .ok (.aload_n 0, 1) := by decide +kernel
theorem dX5_fire_170 : decode (mC mX5_fire) 170 = .ok (.getfield 13, 3) := by decide +kernel
theorem dX5_fire_173 : decode (mC mX5_fire) 173 = .ok (.iload_n 1, 1) := by decide +kernel
theorem dX5_fire_174 : decode (mC mX5_fire) 174 = .ok (.iconst 0, 1) := by decide +kernel
theorem dX5_fire_175 : decode (mC mX5_fire) 175 = .ok (.invokestatic 51, 3) := by decide +kernel
theorem dX5_fire_178 : decode (mC mX5_fire) 178 = .ok (.iaload, 1) := by decide +kernel
theorem dX5_fire_179 : decode (mC mX5_fire) 179 = .ok (.iload_n 2, 1) := by decide +kernel
theorem dX5_fire_180 : decode (mC mX5_fire) 180 = .ok (.if_icmp .ne 8, 3) := by decide +kernel
theorem dX5_fire_183 : decode (mC mX5_fire) 183 = .ok (.lload 11, 2) := by decide +kernel
theorem dX5_fire_185 : decode (mC mX5_fire) 185 = .ok (.goto 4, 3) := by decide +kernel
theorem dX5_fire_188 : decode (mC mX5_fire) 188 = .ok (.lconst 0, 1) := by decide +kernel
theorem dX5_fire_189 : decode (mC mX5_fire) 189 = .ok (.ladd, 1) := by decide +kernel
theorem dX5_fire_190 : decode (mC mX5_fire) 190 = .ok (.lstore 6, 2) := by decide +kernel
theorem dX5_fire_192 : decode (mC mX5_fire) 192 = .ok (.iinc 10 1, 3) := by decide +kernel
theorem dX5_fire_195 : decode (mC mX5_fire) 195 = .ok (.goto (-94), 3) := by decide +kernel
theorem dX5_fire_198 : decode (mC mX5_fire) 198 = .ok (.lload 6, 2) := by decide +kernel
theorem dX5_fire_200 : decode (mC mX5_fire) 200 = .ok (.lload 8, 2) := by decide +kernel
theorem dX5_fire_202 : decode (mC mX5_fire) 202 = .ok (.iload 5, 2) := by decide +kernel
theorem dX5_fire_204 : decode (mC mX5_fire) 204 = .ok (.invokestatic 205, 3) := by decide +kernel
theorem dX5_fire_207 : decode (mC mX5_fire) 207 = .ok (.lreturn, 1) := by decide +kernel
theorem dX5_allMoods_0 : decode (mC mX5_allMoods) 0 = .ok (.iconst 0, 1) := by decide +kernel
theorem dX5_allMoods_1 : decode (mC mX5_allMoods) 1 = .ok (.istore_n 1, 1) := by decide +kernel
theorem dX5_allMoods_2 : decode (mC mX5_allMoods) 2 = .ok (.iconst 0, 1) := by decide +kernel
theorem dX5_allMoods_3 : decode (mC mX5_allMoods) 3 = .ok (.istore_n 2, 1) := by decide +kernel
theorem dX5_allMoods_4 : decode (mC mX5_allMoods) 4 = .ok (.iload_n 2, 1) := by decide +kernel
theorem dX5_allMoods_5 : decode (mC mX5_allMoods) 5 = .ok (.aload_n 0, 1) := by decide +kernel
theorem dX5_allMoods_6 : decode (mC mX5_allMoods) 6 = .ok (.getfield 9, 3) := by decide +kernel
theorem dX5_allMoods_9 : decode (mC mX5_allMoods) 9 = .ok (.iconst 1, 1) := by decide +kernel
theorem dX5_allMoods_10 : decode (mC mX5_allMoods) 10 = .ok (.iaload, 1) := by decide +kernel
theorem dX5_allMoods_11 : decode (mC mX5_allMoods) 11 = .ok (.if_icmp .ge 22, 3) := by decide +kernel
theorem dX5_allMoods_14 : decode (mC mX5_allMoods) 14 = .ok (.iload_n 1, 1) := by decide +kernel
theorem dX5_allMoods_15 : decode (mC mX5_allMoods) 15 = .ok (.aload_n 0, 1) := by decide +kernel
theorem dX5_allMoods_16 : decode (mC mX5_allMoods) 16 = .ok (.getfield 9, 3) := by decide +kernel
theorem dX5_allMoods_19 : decode (mC mX5_allMoods) 19 = .ok (.iload_n 2, 1) := by decide +kernel
theorem dX5_allMoods_20 : decode (mC mX5_allMoods) 20 = .ok (.iconst 2, 1) := by decide +kernel
theorem dX5_allMoods_21 : decode (mC mX5_allMoods) 21 = .ok (.invokestatic 51, 3) := by decide +kernel
theorem dX5_allMoods_24 : decode (mC mX5_allMoods) 24 = .ok (.iaload, 1) := by decide +kernel
theorem dX5_allMoods_25 : decode (mC mX5_allMoods) 25 = .ok (.iadd, 1) := by decide +kernel
theorem dX5_allMoods_26 : decode (mC mX5_allMoods) 26 = .ok (.istore_n 1, 1) := by decide +kernel
theorem dX5_allMoods_27 : decode (mC mX5_allMoods) 27 = .ok (.iinc 2 1, 3) := by decide +kernel
theorem dX5_allMoods_30 : decode (mC mX5_allMoods) 30 = .ok (.goto (-26), 3) := by decide +kernel
theorem dX5_allMoods_33 : decode (mC mX5_allMoods) 33 = .ok (.iload_n 1, 1) := by decide +kernel
theorem dX5_allMoods_34 : decode (mC mX5_allMoods) 34 = .ok (.ireturn, 1) := by decide +kernel
theorem dX5_mean_0 : decode (mC mX5_mean) 0 = .ok (.iload_n 1, 1) := by decide +kernel
theorem dX5_mean_1 : decode (mC mX5_mean) 1 = .ok (.iconst 0, 1) := by decide +kernel
theorem dX5_mean_2 : decode (mC mX5_mean) 2 = .ok (.iconst 1, 1) := by decide +kernel
theorem dX5_mean_3 : decode (mC mX5_mean) 3 = .ok (.invokestatic 43, 3) := by decide +kernel
theorem dX5_mean_6 : decode (mC mX5_mean) 6 = .ok (.ifCond .eq 22, 3) := by decide +kernel
theorem dX5_mean_9 : decode (mC mX5_mean) 9 = .ok (.aload_n 0, 1) := by decide +kernel
theorem dX5_mean_10 : decode (mC mX5_mean) 10 = .ok (.invokevirtual 209, 3) := by decide +kernel
theorem dX5_mean_13 : decode (mC mX5_mean) 13 = .ok (.i2l, 1) := by decide +kernel
theorem dX5_mean_14 : decode (mC mX5_mean) 14 = .ok (.aload_n 0, 1) := by decide +kernel
theorem dX5_mean_15 : decode (mC mX5_mean) 15 = .ok (.getfield 9, 3) := by decide +kernel
theorem dX5_mean_18 : decode (mC mX5_mean) 18 = .ok (.iconst 1, 1) := by decide +kernel
theorem dX5_mean_19 : decode (mC mX5_mean) 19 = .ok (.iaload, 1) := by decide +kernel
theorem dX5_mean_20 : decode (mC mX5_mean) 20 = .ok (.i2l, 1) := by decide +kernel
theorem dX5_mean_21 : decode (mC mX5_mean) 21 = .ok (.iload_n 1, 1) := by decide +kernel
theorem dX5_mean_22 : decode (mC mX5_mean) 22 = .ok (.invokestatic 205, 3) := by decide +kernel
theorem dX5_mean_25 : decode (mC mX5_mean) 25 = .ok (.goto 9, 3) := by decide +kernel
theorem dX5_mean_28 : decode (mC mX5_mean) 28 = .ok (.aload_n 0, 1) := by decide +kernel
theorem dX5_mean_29 : decode (mC mX5_mean) 29 = .ok (.bipush (-2), 2) := by decide +kernel
theorem dX5_mean_31 : decode (mC mX5_mean) 31 = .ok (.invokevirtual 197, 3) := by decide +kernel
theorem dX5_mean_34 : decode (mC mX5_mean) 34 = .ok (.lreturn, 1) := by decide +kernel
theorem dX5_whatIs_0 : decode (mC mX5_whatIs) 0 = .ok (.aload_n 0, 1) := by decide +kernel
theorem dX5_whatIs_1 : decode (mC mX5_whatIs) 1 = .ok (.iload_n 1, 1) := by decide +kernel
theorem dX5_whatIs_2 : decode (mC mX5_whatIs) 2 = .ok (.invokevirtual 122, 3) := by decide +kernel
theorem dX5_whatIs_5 : decode (mC mX5_whatIs) 5 = .ok (.ifCond .eq 11, 3) := by decide +kernel
theorem dX5_whatIs_8 : decode (mC mX5_whatIs) 8 = .ok (.aload_n 0, 1) := by decide +kernel
theorem dX5_whatIs_9 : decode (mC mX5_whatIs) 9 = .ok (.iload_n 2, 1) := by decide +kernel
theorem dX5_whatIs_10 : decode (mC mX5_whatIs) 10 = .ok (.invokevirtual 125, 3) := by decide +kernel
theorem dX5_whatIs_13 : decode (mC mX5_whatIs) 13 = .ok (.ifCond .ne 9, 3) := by decide +kernel
theorem dX5_whatIs_16 : decode (mC mX5_whatIs) 16 = .ok (.aload_n 0, 1) := by decide +kernel
theorem dX5_whatIs_17 : decode (mC mX5_whatIs) 17 = .ok (.iconst (-1), 1) := by decide +kernel
theorem dX5_whatIs_18 : decode (mC mX5_whatIs) 18 = .ok (.invokevirtual 39, 3) := by decide +kernel
theorem dX5_whatIs_21 : decode (mC mX5_whatIs) 21 = .ok (.ireturn, 1) := by decide +kernel
theorem dX5_whatIs_22 : decode (mC mX5_whatIs) 22 = .ok (.iload_n 3, 1) := by decide +kernel
theorem dX5_whatIs_23 : decode (mC mX5_whatIs) 23 = .ok (.iconst 0, 1) := by decide +kernel
theorem dX5_whatIs_24 : decode (mC mX5_whatIs) 24 = .ok (.iconst 1, 1) := by decide +kernel
theorem dX5_whatIs_25 : decode (mC mX5_whatIs) 25 = .ok (.invokestatic 43, 3) := by decide +kernel
theorem dX5_whatIs_28 : decode (mC mX5_whatIs) 28 = .ok (.ifCond .ne 10, 3) := by decide +kernel
theorem dX5_whatIs_31 : decode (mC mX5_whatIs) 31 = .ok (.aload_n 0, 1) := by decide +kernel
theorem dX5_whatIs_32 : decode (mC mX5_whatIs) 32 = .ok (.bipush (-2), 2) := by decide +kernel
theorem dX5_whatIs_34 : decode (mC mX5_whatIs) 34 = .ok (.invokevirtual 39, 3) := by decide +kernel
theorem dX5_whatIs_37 : decode (mC mX5_whatIs) 37 = .ok (.ireturn, 1) := by decide +kernel
theorem dX5_whatIs_38 : decode (mC mX5_whatIs) 38 = .ok (.iconst 0, 1) := by decide +kernel
theorem dX5_whatIs_39 : decode (mC mX5_whatIs) 39 = .ok (.istore 4, 2) := by decide +kernel
theorem dX5_whatIs_41 : decode (mC mX5_whatIs) 41 = .ok (.iconst 0, 1) := by decide +kernel
theorem dX5_whatIs_42 : decode (mC mX5_whatIs) 42 = .ok (.istore 5, 2) := by decide +kernel
theorem dX5_whatIs_44 : decode (mC mX5_whatIs) 44 = .ok (.iload 5, 2) := by decide +kernel
theorem dX5_whatIs_46 : decode (mC mX5_whatIs) 46 = .ok (.iload_n 3, 1) := by decide +kernel
theorem dX5_whatIs_47 : decode (mC mX5_whatIs) 47 = .ok (.ifCond .ne 8, 3) := by decide +kernel
theorem dX5_whatIs_50 : decode (mC mX5_whatIs) 50 = .ok (.bipush 6, 2) := by decide +kernel
theorem dX5_whatIs_52 : decode (mC mX5_whatIs) 52 = .ok (.goto 5, 3) := by decide +kernel
theorem dX5_whatIs_55 : decode (mC mX5_whatIs) 55 = .ok (.bipush 8, 2) := by decide +kernel
theorem dX5_whatIs_57 : decode (mC mX5_whatIs) 57 = .ok (.if_icmp .ge 115, 3) := by decide +kernel
theorem dX5_whatIs_60 : decode (mC mX5_whatIs) 60 = .ok (.iconst 1, 1) := by decide +kernel
theorem dX5_whatIs_61 : decode (mC mX5_whatIs) 61 = .ok (.istore 6, 2) := by decide +kernel
theorem dX5_whatIs_63 : decode (mC mX5_whatIs) 63 = .ok (.aload_n 0, 1) := by decide +kernel
theorem dX5_whatIs_64 : decode (mC mX5_whatIs) 64 = .ok (.iconst 0, 1) := by decide +kernel
theorem dX5_whatIs_65 : decode (mC mX5_whatIs) 65 = .ok (.invokevirtual 162, 3) := by decide +kernel
theorem dX5_whatIs_68 : decode (mC mX5_whatIs) 68 = .ok (.aload_n 0, 1) := by decide +kernel
theorem dX5_whatIs_69 : decode (mC mX5_whatIs) 69 = .ok (.getfield 13, 3) := by decide +kernel
theorem dX5_whatIs_72 : decode (mC mX5_whatIs) 72 = .ok (.iload_n 3, 1) := by decide +kernel
theorem dX5_whatIs_73 : decode (mC mX5_whatIs) 73 = .ok (.ifCond .ne 11, 3) := by decide +kernel
theorem dX5_whatIs_76 : decode (mC mX5_whatIs) 76 = .ok (.iload_n 2, 1) := by decide +kernel
theorem dX5_whatIs_77 : decode (mC mX5_whatIs) 77 = .ok (.iconst 0, 1) := by decide +kernel
theorem dX5_whatIs_78 : decode (mC mX5_whatIs) 78 = .ok (.invokestatic 55, 3) := by decide +kernel
theorem dX5_whatIs_81 : decode (mC mX5_whatIs) 81 = .ok (.goto 8, 3) := by decide +kernel
theorem dX5_whatIs_84 : decode (mC mX5_whatIs) 84 = .ok (.iload_n 1, 1) := by decide +kernel
theorem dX5_whatIs_85 : decode (mC mX5_whatIs) 85 = .ok (.iconst 1, 1) := by decide +kernel
theorem dX5_whatIs_86 : decode (mC mX5_whatIs) 86 = .ok (.invokestatic 51, 3) := by decide +kernel
theorem dX5_whatIs_89 : decode (mC mX5_whatIs) 89 = .ok (.iload 5, 2) := by decide +kernel
theorem dX5_whatIs_91 : decode (mC mX5_whatIs) 91 = .ok (.iastore, 1) := by decide +kernel
theorem dX5_whatIs_92 : decode (mC mX5_whatIs) 92 = .ok (.iconst 0, 1) := by decide +kernel
theorem dX5_whatIs_93 : decode (mC mX5_whatIs) 93 = .ok (.istore 7, 2) := by decide +kernel
theorem dX5_whatIs_95 : decode (mC mX5_whatIs) 95 = .ok (.iload 7, 2) := by decide +kernel
theorem dX5_whatIs_97 : decode (mC mX5_whatIs) 97 = .ok (.aload_n 0, 1) := by decide +kernel
theorem dX5_whatIs_98 : decode (mC mX5_whatIs) 98 = .ok (.getfield 212, 3) := by decide +kernel
theorem dX5_whatIs_101 : decode (mC mX5_whatIs) 101 = .ok (.if_icmp .ge 47, 3) := by decide +kernel
theorem dX5_whatIs_104 : decode (mC mX5_whatIs) 104 = .ok (.iload 6, 2) := by decide +kernel
theorem dX5_whatIs_106 : decode (mC mX5_whatIs) 106 = .ok (.aload_n 0, 1) := by decide +kernel
theorem dX5_whatIs_107 : decode (mC mX5_whatIs) 107 = .ok (.getfield 13, 3) := by decide +kernel
theorem dX5_whatIs_110 : decode (mC mX5_whatIs) 110 = .ok (.iload_n 1, 1) := by decide +kernel
theorem dX5_whatIs_111 : decode (mC mX5_whatIs) 111 = .ok (.iconst 0, 1) := by decide +kernel
theorem dX5_whatIs_112 : decode (mC mX5_whatIs) 112 = .ok (.invokestatic 51, 3) := by decide +kernel
theorem dX5_whatIs_115 : decode (mC mX5_whatIs) 115 = .ok (.iaload, 1) := by decide +kernel
theorem dX5_whatIs_116 : decode (mC mX5_whatIs) 116 = .ok (.aload_n 0, 1) := by decide +kernel
theorem dX5_whatIs_117 : decode (mC mX5_whatIs) 117 = .ok (.getfield 28, 3) := by decide +kernel
theorem dX5_whatIs_120 : decode (mC mX5_whatIs) 120 = .ok (.iload 7, 2) := by decide +kernel
theorem dX5_whatIs_122 : decode (mC mX5_whatIs) 122 = .ok (.iaload, 1) := by decide +kernel
theorem dX5_whatIs_123 : decode (mC mX5_whatIs) 123 = .ok (.if_icmp .ne 7, 3) := by decide +kernel
theorem dX5_whatIs_126 : decode (mC mX5_whatIs) 126 = .ok (.iconst 1, 1) := by decide +kernel
theorem dX5_whatIs_127 : decode (mC mX5_whatIs) 127 = .ok (.goto 4, 3) := by decide +kernel
theorem dX5_whatIs_130 : decode (mC mX5_whatIs) 130 = .ok (.iconst 0, 1) := by decide +kernel
theorem dX5_whatIs_131 : decode (mC mX5_whatIs) 131 = .ok (.iand, 1) := by decide +kernel
theorem dX5_whatIs_132 : decode (mC mX5_whatIs) 132 = .ok (.istore 6, 2) := by decide +kernel
theorem dX5_whatIs_134 : decode (mC mX5_whatIs) 134 = .ok (.aload_n 0, 1) := by decide +kernel
theorem dX5_whatIs_135 : decode (mC mX5_whatIs) 135 = .ok (.aload_n 0, 1) := by decide +kernel
theorem dX5_whatIs_136 : decode (mC mX5_whatIs) 136 = .ok (.getfield 13, 3) := by decide +kernel
theorem dX5_whatIs_139 : decode (mC mX5_whatIs) 139 = .ok (.invokevirtual 87, 3) := by decide +kernel
theorem dX5_whatIs_142 : decode (mC mX5_whatIs) 142 = .ok (.iinc 7 1, 3) := by decide +kernel
theorem dX5_whatIs_145 : decode (mC mX5_whatIs) 145 = .ok (.goto (-50), 3) := by decide +kernel
theorem dX5_whatIs_148 : decode (mC mX5_whatIs) 148 = .ok (.iload 4, 2) := by decide +kernel
theorem dX5_whatIs_150 : decode (mC mX5_whatIs) 150 = .ok (.iload 6, 2) := by decide +kernel
theorem dX5_whatIs_152 : decode (mC mX5_whatIs) 152 = .ok (.ifCond .eq 10, 3) := by decide +kernel
theorem dX5_whatIs_155 : decode (mC mX5_whatIs) 155 = .ok (.iconst 1, 1) := by decide +kernel
theorem dX5_whatIs_156 : decode (mC mX5_whatIs) 156 = .ok (.iload 5, 2) := by decide +kernel
theorem dX5_whatIs_158 : decode (mC mX5_whatIs) 158 = .ok (.ishl, 1) := by decide +kernel
theorem dX5_whatIs_159 : decode (mC mX5_whatIs) 159 = .ok (.goto 4, 3) := by decide +kernel
theorem dX5_whatIs_162 : decode (mC mX5_whatIs) 162 = .ok (.iconst 0, 1) := by decide +kernel
theorem dX5_whatIs_163 : decode (mC mX5_whatIs) 163 = .ok (.ior, 1) := by decide +kernel
theorem dX5_whatIs_164 : decode (mC mX5_whatIs) 164 = .ok (.istore 4, 2) := by decide +kernel
theorem dX5_whatIs_166 : decode (mC mX5_whatIs) 166 = .ok (.iinc 5 1, 3) := by decide +kernel
theorem dX5_whatIs_169 : decode (mC mX5_whatIs) 169 = .ok (.goto (-125), 3) := by decide +kernel
theorem dX5_whatIs_172 : decode (mC mX5_whatIs) 172 = .ok (.iload 4, 2) := by decide +kernel
theorem dX5_whatIs_174 : decode (mC mX5_whatIs) 174 = .ok (.ireturn, 1) := by decide +kernel
theorem dX5_row_0 : decode (mC mX5_row) 0 = .ok (.iload_n 1, 1) := by decide +kernel
theorem dX5_row_1 : decode (mC mX5_row) 1 = .ok (.iconst 0, 1) := by decide +kernel
theorem dX5_row_2 : decode (mC mX5_row) 2 = .ok (.bipush 99, 2) := by decide +kernel
theorem dX5_row_4 : decode (mC mX5_row) 4 = .ok (.invokestatic 152, 3) := by decide +kernel
theorem dX5_row_7 : decode (mC mX5_row) 7 = .ok (.istore_n 2, 1) := by decide +kernel
theorem dX5_row_8 : decode (mC mX5_row) 8 = .ok (.iload_n 2, 1) := by decide +kernel
theorem dX5_row_9 : decode (mC mX5_row) 9 = .ok (.ifCond .ne 15, 3) := by decide +kernel
theorem dX5_row_12 : decode (mC mX5_row) 12 = .ok (.aload_n 0, 1) := by decide +kernel
theorem dX5_row_13 : decode (mC mX5_row) 13 = .ok (.getfield 212, 3) := by decide +kernel
theorem dX5_row_16 : decode (mC mX5_row) 16 = .ok (.bipush 16, 2) := by decide +kernel
theorem dX5_row_18 : decode (mC mX5_row) 18 = .ok (.if_icmp .ne 6, 3) := by decide +kernel
theorem dX5_row_21 : decode (mC mX5_row) 21 = .ok (.bipush (-6), 2) := by decide +kernel
theorem dX5_row_23 : decode (mC mX5_row) 23 = .ok (.istore_n 2, 1) := by decide +kernel
theorem dX5_row_24 : decode (mC mX5_row) 24 = .ok (.iload_n 2, 1) := by decide +kernel
theorem dX5_row_25 : decode (mC mX5_row) 25 = .ok (.ifCond .eq 9, 3) := by decide +kernel
theorem dX5_row_28 : decode (mC mX5_row) 28 = .ok (.aload_n 0, 1) := by decide +kernel
theorem dX5_row_29 : decode (mC mX5_row) 29 = .ok (.iload_n 2, 1) := by decide +kernel
theorem dX5_row_30 : decode (mC mX5_row) 30 = .ok (.invokevirtual 39, 3) := by decide +kernel
theorem dX5_row_33 : decode (mC mX5_row) 33 = .ok (.ireturn, 1) := by decide +kernel
theorem dX5_row_34 : decode (mC mX5_row) 34 = .ok (.aload_n 0, 1) := by decide +kernel
theorem dX5_row_35 : decode (mC mX5_row) 35 = .ok (.getfield 28, 3) := by decide +kernel
theorem dX5_row_38 : decode (mC mX5_row) 38 = .ok (.aload_n 0, 1) := by decide +kernel
theorem dX5_row_39 : decode (mC mX5_row) 39 = .ok (.getfield 212, 3) := by decide +kernel
theorem dX5_row_42 : decode (mC mX5_row) 42 = .ok (.iload_n 1, 1) := by decide +kernel
theorem dX5_row_43 : decode (mC mX5_row) 43 = .ok (.iastore, 1) := by decide +kernel
theorem dX5_row_44 : decode (mC mX5_row) 44 = .ok (.aload_n 0, 1) := by decide +kernel
theorem dX5_row_45 : decode (mC mX5_row) 45 = .ok (.dup, 1) := by decide +kernel
theorem dX5_row_46 : decode (mC mX5_row) 46 = .ok (.getfield 212, 3) := by decide +kernel
theorem dX5_row_49 : decode (mC mX5_row) 49 = .ok (.iconst 1, 1) := by decide +kernel
theorem dX5_row_50 : decode (mC mX5_row) 50 = .ok (.iadd, 1) := by decide +kernel
theorem dX5_row_51 : decode (mC mX5_row) 51 = .ok (.putfield 212, 3) := by decide +kernel
theorem dX5_row_54 : decode (mC mX5_row) 54 = .ok (.aload_n 0, 1) := by decide +kernel
theorem dX5_row_55 : decode (mC mX5_row) 55 = .ok (.getfield 212, 3) := by decide +kernel
theorem dX5_row_58 : decode (mC mX5_row) 58 = .ok (.ireturn, 1) := by decide +kernel
theorem dX5_judge_0 : decode (mC mX5_judge) 0 = .ok (.aload_n 0, 1) := by decide +kernel
theorem dX5_judge_1 : decode (mC mX5_judge) 1 = .ok (.getfield 212, 3) := by decide +kernel
theorem dX5_judge_4 : decode (mC mX5_judge) 4 = .ok (.istore_n 1, 1) := by decide +kernel
theorem dX5_judge_5 : decode (mC mX5_judge) 5 = .ok (.aload_n 0, 1) := by decide +kernel
theorem dX5_judge_6 : decode (mC mX5_judge) 6 = .ok (.iconst 0, 1) := by decide +kernel
theorem dX5_judge_7 : decode (mC mX5_judge) 7 = .ok (.putfield 212, 3) := by decide +kernel
theorem dX5_judge_10 : decode (mC mX5_judge) 10 = .ok (.iconst 0, 1) := by decide +kernel
theorem dX5_judge_11 : decode (mC mX5_judge) 11 = .ok (.istore_n 2, 1) := by decide +kernel
theorem dX5_judge_12 : decode (mC mX5_judge) 12 = .ok (.iload_n 2, 1) := by decide +kernel
theorem dX5_judge_13 : decode (mC mX5_judge) 13 = .ok (.iload_n 1, 1) := by decide +kernel
theorem dX5_judge_14 : decode (mC mX5_judge) 14 = .ok (.if_icmp .ge 38, 3) := by decide +kernel
theorem dX5_judge_17 : decode (mC mX5_judge) 17 = .ok (.aload_n 0, 1) := by decide +kernel
theorem dX5_judge_18 : decode (mC mX5_judge) 18 = .ok (.iload_n 2, 1) := by decide +kernel
theorem dX5_judge_19 : decode (mC mX5_judge) 19 = .ok (.invokevirtual 122, 3) := by decide +kernel
theorem dX5_judge_22 : decode (mC mX5_judge) 22 = .ok (.ifCond .eq 22, 3) := by decide +kernel
theorem dX5_judge_25 : decode (mC mX5_judge) 25 = .ok (.aload_n 0, 1) := by decide +kernel
theorem dX5_judge_26 : decode (mC mX5_judge) 26 = .ok (.getfield 9, 3) := by decide +kernel
theorem dX5_judge_29 : decode (mC mX5_judge) 29 = .ok (.iload_n 2, 1) := by decide +kernel
theorem dX5_judge_30 : decode (mC mX5_judge) 30 = .ok (.iconst 0, 1) := by decide +kernel
theorem dX5_judge_31 : decode (mC mX5_judge) 31 = .ok (.invokestatic 51, 3) := by decide +kernel
theorem dX5_judge_34 : decode (mC mX5_judge) 34 = .ok (.iaload, 1) := by decide +kernel
theorem dX5_judge_35 : decode (mC mX5_judge) 35 = .ok (.aload_n 0, 1) := by decide +kernel
theorem dX5_judge_36 : decode (mC mX5_judge) 36 = .ok (.getfield 28, 3) := by decide +kernel
theorem dX5_judge_39 : decode (mC mX5_judge) 39 = .ok (.iload_n 2, 1) := by decide +kernel
theorem dX5_judge_40 : decode (mC mX5_judge) 40 = .ok (.iaload, 1) := by decide +kernel
theorem dX5_judge_41 : decode (mC mX5_judge) 41 = .ok (.if_icmp .eq 5, 3) := by decide +kernel
theorem dX5_judge_44 : decode (mC mX5_judge) 44 = .ok (.iload_n 2, 1) := by decide +kernel
theorem dX5_judge_45 : decode (mC mX5_judge) 45 = .ok (.ireturn, 1) := by decide +kernel
theorem dX5_judge_46 : decode (mC mX5_judge) 46 = .ok (.iinc 2 1, 3) := by decide +kernel
theorem dX5_judge_49 : decode (mC mX5_judge) 49 = .ok (.goto (-37), 3) := by decide +kernel
theorem dX5_judge_52 : decode (mC mX5_judge) 52 = .ok (.bipush (-9), 2) := by decide +kernel
theorem dX5_judge_54 : decode (mC mX5_judge) 54 = .ok (.ireturn, 1) := by decide +kernel
theorem dX5_clear_0 : decode (mC mX5_clear) 0 = .ok (.aload_n 0, 1) := by decide +kernel
theorem dX5_clear_1 : decode (mC mX5_clear) 1 = .ok (.getfield 212, 3) := by decide +kernel
theorem dX5_clear_4 : decode (mC mX5_clear) 4 = .ok (.istore_n 1, 1) := by decide +kernel
theorem dX5_clear_5 : decode (mC mX5_clear) 5 = .ok (.aload_n 0, 1) := by decide +kernel
theorem dX5_clear_6 : decode (mC mX5_clear) 6 = .ok (.iconst 0, 1) := by decide +kernel
theorem dX5_clear_7 : decode (mC mX5_clear) 7 = .ok (.putfield 212, 3) := by decide +kernel
theorem dX5_clear_10 : decode (mC mX5_clear) 10 = .ok (.iload_n 1, 1) := by decide +kernel
theorem dX5_clear_11 : decode (mC mX5_clear) 11 = .ok (.ireturn, 1) := by decide +kernel
theorem dX5_drawn_0 : decode (mC mX5_drawn) 0 = .ok (.aload_n 0, 1) := by decide +kernel
theorem dX5_drawn_1 : decode (mC mX5_drawn) 1 = .ok (.aload_n 0, 1) := by decide +kernel
theorem dX5_drawn_2 : decode (mC mX5_drawn) 2 = .ok (.getfield 215, 3) := by decide +kernel
theorem dX5_drawn_5 : decode (mC mX5_drawn) 5 = .ok (.ldc 218, 2) := by decide +kernel
theorem dX5_drawn_7 : decode (mC mX5_drawn) 7 = .ok (.imul, 1) := by decide +kernel
theorem dX5_drawn_8 : decode (mC mX5_drawn) 8 = .ok (.ldc 219, 2) := by decide +kernel
theorem dX5_drawn_10 : decode (mC mX5_drawn) 10 = .ok (.iadd, 1) := by decide +kernel
theorem dX5_drawn_11 : decode (mC mX5_drawn) 11 = .ok (.putfield 215, 3) := by decide +kernel
theorem dX5_drawn_14 : decode (mC mX5_drawn) 14 = .ok (.aload_n 0, 1) := by decide +kernel
theorem dX5_drawn_15 : decode (mC mX5_drawn) 15 = .ok (.getfield 215, 3) := by decide +kernel
theorem dX5_drawn_18 : decode (mC mX5_drawn) 18 = .ok (.ldc 220, 2) := by decide +kernel
theorem dX5_drawn_20 : decode (mC mX5_drawn) 20 = .ok (.iand, 1) := by decide +kernel
theorem dX5_drawn_21 : decode (mC mX5_drawn) 21 = .ok (.sipush 256, 3) := by decide +kernel
theorem dX5_drawn_24 : decode (mC mX5_drawn) 24 = .ok (.idiv, 1) := by decide +kernel
theorem dX5_drawn_25 : decode (mC mX5_drawn) 25 = .ok (.iload_n 1, 1) := by decide +kernel
theorem dX5_drawn_26 : decode (mC mX5_drawn) 26 = .ok (.irem, 1) := by decide +kernel
theorem dX5_drawn_27 : decode (mC mX5_drawn) 27 = .ok (.ireturn, 1) := by decide +kernel
theorem dX5_lots_0 : decode (mC mX5_lots) 0 = .ok (.iload_n 1, 1) := by decide +kernel
theorem dX5_lots_1 : decode (mC mX5_lots) 1 = .ok (.iconst 1, 1) := by decide +kernel
theorem dX5_lots_2 : decode (mC mX5_lots) 2 = .ok (.if_icmp .ge 10, 3) := by decide +kernel
theorem dX5_lots_5 : decode (mC mX5_lots) 5 = .ok (.aload_n 0, 1) := by decide +kernel
theorem dX5_lots_6 : decode (mC mX5_lots) 6 = .ok (.bipush (-4), 2) := by decide +kernel
theorem dX5_lots_8 : decode (mC mX5_lots) 8 = .ok (.invokevirtual 39, 3) := by decide +kernel
theorem dX5_lots_11 : decode (mC mX5_lots) 11 = .ok (.ireturn, 1) := by decide +kernel
theorem dX5_lots_12 : decode (mC mX5_lots) 12 = .ok (.iload_n 1, 1) := by decide +kernel
theorem dX5_lots_13 : decode (mC mX5_lots) 13 = .ok (.bipush 20, 2) := by decide +kernel
theorem dX5_lots_15 : decode (mC mX5_lots) 15 = .ok (.if_icmp .le 10, 3) := by decide +kernel
theorem dX5_lots_18 : decode (mC mX5_lots) 18 = .ok (.aload_n 0, 1) := by decide +kernel
theorem dX5_lots_19 : decode (mC mX5_lots) 19 = .ok (.bipush (-6), 2) := by decide +kernel
theorem dX5_lots_21 : decode (mC mX5_lots) 21 = .ok (.invokevirtual 39, 3) := by decide +kernel
theorem dX5_lots_24 : decode (mC mX5_lots) 24 = .ok (.ireturn, 1) := by decide +kernel
theorem dX5_lots_25 : decode (mC mX5_lots) 25 = .ok (.iload_n 3, 1) := by decide +kernel
theorem dX5_lots_26 : decode (mC mX5_lots) 26 = .ok (.iconst 0, 1) := by decide +kernel
theorem dX5_lots_27 : decode (mC mX5_lots) 27 = .ok (.iconst 1, 1) := by decide +kernel
theorem dX5_lots_28 : decode (mC mX5_lots) 28 = .ok (.invokestatic 43, 3) := by decide +kernel
theorem dX5_lots_31 : decode (mC mX5_lots) 31 = .ok (.ifCond .ne 10, 3) := by decide +kernel
theorem dX5_lots_34 : decode (mC mX5_lots) 34 = .ok (.aload_n 0, 1) := by decide +kernel
theorem dX5_lots_35 : decode (mC mX5_lots) 35 = .ok (.bipush (-2), 2) := by decide +kernel
theorem dX5_lots_37 : decode (mC mX5_lots) 37 = .ok (.invokevirtual 39, 3) := by decide +kernel
theorem dX5_lots_40 : decode (mC mX5_lots) 40 = .ok (.ireturn, 1) := by decide +kernel
theorem dX5_lots_41 : decode (mC mX5_lots) 41 = .ok (.aload_n 0, 1) := by decide +kernel
theorem dX5_lots_42 : decode (mC mX5_lots) 42 = .ok (.iload_n 2, 1) := by decide +kernel
theorem dX5_lots_43 : decode (mC mX5_lots) 43 = .ok (.putfield 215, 3) := by decide +kernel
theorem dX5_lots_46 : decode (mC mX5_lots) 46 = .ok (.iconst 0, 1) := by decide +kernel
theorem dX5_lots_47 : decode (mC mX5_lots) 47 = .ok (.istore 4, 2) := by decide +kernel
theorem dX5_lots_49 : decode (mC mX5_lots) 49 = .ok (.iconst 0, 1) := by decide +kernel
theorem dX5_lots_50 : decode (mC mX5_lots) 50 = .ok (.istore 5, 2) := by decide +kernel
theorem dX5_lots_52 : decode (mC mX5_lots) 52 = .ok (.iload 5, 2) := by decide +kernel
theorem dX5_lots_54 : decode (mC mX5_lots) 54 = .ok (.iload_n 1, 1) := by decide +kernel
theorem dX5_lots_55 : decode (mC mX5_lots) 55 = .ok (.if_icmp .ge 119, 3) := by decide +kernel
theorem dX5_lots_58 : decode (mC mX5_lots) 58 = .ok (.aload_n 0, 1) := by decide +kernel
theorem dX5_lots_59 : decode (mC mX5_lots) 59 = .ok (.getfield 9, 3) := by decide +kernel
theorem dX5_lots_62 : decode (mC mX5_lots) 62 = .ok (.aload_n 0, 1) := by decide +kernel
theorem dX5_lots_63 : decode (mC mX5_lots) 63 = .ok (.getfield 13, 3) := by decide +kernel
theorem dX5_lots_66 : decode (mC mX5_lots) 66 = .ok (.invokestatic 138, 3) := by decide +kernel
theorem dX5_lots_69 : decode (mC mX5_lots) 69 = .ok (.iconst 0, 1) := by decide +kernel
theorem dX5_lots_70 : decode (mC mX5_lots) 70 = .ok (.istore 6, 2) := by decide +kernel
theorem dX5_lots_72 : decode (mC mX5_lots) 72 = .ok (.iload 6, 2) := by decide +kernel
theorem dX5_lots_74 : decode (mC mX5_lots) 74 = .ok (.aload_n 0, 1) := by decide +kernel
theorem dX5_lots_75 : decode (mC mX5_lots) 75 = .ok (.getfield 9, 3) := by decide +kernel
theorem dX5_lots_78 : decode (mC mX5_lots) 78 = .ok (.iconst 1, 1) := by decide +kernel
theorem dX5_lots_79 : decode (mC mX5_lots) 79 = .ok (.iaload, 1) := by decide +kernel
theorem dX5_lots_80 : decode (mC mX5_lots) 80 = .ok (.if_icmp .ge 43, 3) := by decide +kernel
theorem dX5_lots_83 : decode (mC mX5_lots) 83 = .ok (.aload_n 0, 1) := by decide +kernel
theorem dX5_lots_84 : decode (mC mX5_lots) 84 = .ok (.getfield 13, 3) := by decide +kernel
theorem dX5_lots_87 : decode (mC mX5_lots) 87 = .ok (.iload 6, 2) := by decide +kernel
theorem dX5_lots_89 : decode (mC mX5_lots) 89 = .ok (.iconst 0, 1) := by decide +kernel
theorem dX5_lots_90 : decode (mC mX5_lots) 90 = .ok (.invokestatic 51, 3) := by decide +kernel
theorem dX5_lots_93 : decode (mC mX5_lots) 93 = .ok (.aload_n 0, 1) := by decide +kernel
theorem dX5_lots_94 : decode (mC mX5_lots) 94 = .ok (.bipush 8, 2) := by decide +kernel
theorem dX5_lots_96 : decode (mC mX5_lots) 96 = .ok (.invokevirtual 221, 3) := by decide +kernel
theorem dX5_lots_99 : decode (mC mX5_lots) 99 = .ok (.iastore, 1) := by decide +kernel
theorem dX5_lots_100 : decode (mC mX5_lots) 100 = .ok (.aload_n 0, 1) := by decide +kernel
theorem dX5_lots_101 : decode (mC mX5_lots) 101 = .ok (.getfield 13, 3) := by decide +kernel
theorem dX5_lots_104 : decode (mC mX5_lots) 104 = .ok (.iload 6, 2) := by decide +kernel
theorem dX5_lots_106 : decode (mC mX5_lots) 106 = .ok (.iconst 1, 1) := by decide +kernel
theorem dX5_lots_107 : decode (mC mX5_lots) 107 = .ok (.invokestatic 51, 3) := by decide +kernel
theorem dX5_lots_110 : decode (mC mX5_lots) 110 = .ok (.aload_n 0, 1) := by decide +kernel
theorem dX5_lots_111 : decode (mC mX5_lots) 111 = .ok (.bipush 8, 2) := by decide +kernel
theorem dX5_lots_113 : decode (mC mX5_lots) 113 = .ok (.invokevirtual 221, 3) := by decide +kernel
theorem dX5_lots_116 : decode (mC mX5_lots) 116 = .ok (.iastore, 1) := by decide +kernel
theorem dX5_lots_117 : decode (mC mX5_lots) 117 = .ok (.iinc 6 1, 3) := by decide +kernel
theorem dX5_lots_120 : decode (mC mX5_lots) 120 = .ok (.goto (-48), 3) := by decide +kernel
theorem dX5_lots_123 : decode (mC mX5_lots) 123 = .ok (.aload_n 0, 1) := by decide +kernel
theorem dX5_lots_124 : decode (mC mX5_lots) 124 = .ok (.aload_n 0, 1) := by decide +kernel
theorem dX5_lots_125 : decode (mC mX5_lots) 125 = .ok (.getfield 13, 3) := by decide +kernel
theorem dX5_lots_128 : decode (mC mX5_lots) 128 = .ok (.bipush 8, 2) := by decide +kernel
theorem dX5_lots_130 : decode (mC mX5_lots) 130 = .ok (.invokevirtual 132, 3) := by decide +kernel
theorem dX5_lots_133 : decode (mC mX5_lots) 133 = .ok (.iload 4, 2) := by decide +kernel
theorem dX5_lots_135 : decode (mC mX5_lots) 135 = .ok (.iload_n 3, 1) := by decide +kernel
theorem dX5_lots_136 : decode (mC mX5_lots) 136 = .ok (.ifCond .ne 16, 3) := by decide +kernel
theorem dX5_lots_139 : decode (mC mX5_lots) 139 = .ok (.aload_n 0, 1) := by decide +kernel
theorem dX5_lots_140 : decode (mC mX5_lots) 140 = .ok (.getfield 13, 3) := by decide +kernel
theorem dX5_lots_143 : decode (mC mX5_lots) 143 = .ok (.invokestatic 155, 3) := by decide +kernel
theorem dX5_lots_146 : decode (mC mX5_lots) 146 = .ok (.invokestatic 159, 3) := by decide +kernel
theorem dX5_lots_149 : decode (mC mX5_lots) 149 = .ok (.goto 16, 3) := by decide +kernel
theorem dX5_lots_152 : decode (mC mX5_lots) 152 = .ok (.aload_n 0, 1) := by decide +kernel
theorem dX5_lots_153 : decode (mC mX5_lots) 153 = .ok (.getfield 13, 3) := by decide +kernel
theorem dX5_lots_156 : decode (mC mX5_lots) 156 = .ok (.iconst 3, 1) := by decide +kernel
theorem dX5_lots_157 : decode (mC mX5_lots) 157 = .ok (.iaload, 1) := by decide +kernel
theorem dX5_lots_158 : decode (mC mX5_lots) 158 = .ok (.aload_n 0, 1) := by decide +kernel
theorem dX5_lots_159 : decode (mC mX5_lots) 159 = .ok (.getfield 9, 3) := by decide +kernel
theorem dX5_lots_162 : decode (mC mX5_lots) 162 = .ok (.iconst 3, 1) := by decide +kernel
theorem dX5_lots_163 : decode (mC mX5_lots) 163 = .ok (.iaload, 1) := by decide +kernel
theorem dX5_lots_164 : decode (mC mX5_lots) 164 = .ok (.isub, 1) := by decide +kernel
theorem dX5_lots_165 : decode (mC mX5_lots) 165 = .ok (.iadd, 1) := by decide +kernel
theorem dX5_lots_166 : decode (mC mX5_lots) 166 = .ok (.istore 4, 2) := by decide +kernel
theorem dX5_lots_168 : decode (mC mX5_lots) 168 = .ok (.iinc 5 1, 3) := by decide +kernel
theorem dX5_lots_171 : decode (mC mX5_lots) 171 = .ok (.goto (-119), 3) := by decide +kernel
theorem dX5_lots_174 : decode (mC mX5_lots) 174 = .ok (.iload 4, 2) := by decide +kernel
theorem dX5_lots_176 : decode (mC mX5_lots) 176 = .ok (.ireturn, 1) := by decide +kernel
theorem dX5_image_0 : decode (mC mX5_image) 0 = .ok (.aload_n 0, 1) := by decide +kernel
theorem dX5_image_1 : decode (mC mX5_image) 1 = .ok (.getfield 9, 3) := by decide +kernel
theorem dX5_image_4 : decode (mC mX5_image) 4 = .ok (.aload_n 0, 1) := by decide +kernel
theorem dX5_image_5 : decode (mC mX5_image) 5 = .ok (.getfield 16, 3) := by decide +kernel
theorem dX5_image_8 : decode (mC mX5_image) 8 = .ok (.invokestatic 138, 3) := by decide +kernel
theorem dX5_image_11 : decode (mC mX5_image) 11 = .ok (.aload_n 0, 1) := by decide +kernel
theorem dX5_image_12 : decode (mC mX5_image) 12 = .ok (.iconst 1, 1) := by decide +kernel
theorem dX5_image_13 : decode (mC mX5_image) 13 = .ok (.putfield 224, 3) := by decide +kernel
theorem dX5_image_16 : decode (mC mX5_image) 16 = .ok (.aload_n 0, 1) := by decide +kernel
theorem dX5_image_17 : decode (mC mX5_image) 17 = .ok (.getfield 9, 3) := by decide +kernel
theorem dX5_image_20 : decode (mC mX5_image) 20 = .ok (.iconst 2, 1) := by decide +kernel
theorem dX5_image_21 : decode (mC mX5_image) 21 = .ok (.iaload, 1) := by decide +kernel
theorem dX5_image_22 : decode (mC mX5_image) 22 = .ok (.ireturn, 1) := by decide +kernel
theorem dX5_on_0 : decode (mC mX5_on) 0 = .ok (.aload_n 0, 1) := by decide +kernel
theorem dX5_on_1 : decode (mC mX5_on) 1 = .ok (.getfield 224, 3) := by decide +kernel
theorem dX5_on_4 : decode (mC mX5_on) 4 = .ok (.ifCond .ne 10, 3) := by decide +kernel
theorem dX5_on_7 : decode (mC mX5_on) 7 = .ok (.aload_n 0, 1) := by decide +kernel
theorem dX5_on_8 : decode (mC mX5_on) 8 = .ok (.bipush (-3), 2) := by decide +kernel
theorem dX5_on_10 : decode (mC mX5_on) 10 = .ok (.invokevirtual 39, 3) := by decide +kernel
theorem dX5_on_13 : decode (mC mX5_on) 13 = .ok (.ireturn, 1) := by decide +kernel
theorem dX5_on_14 : decode (mC mX5_on) 14 = .ok (.aload_n 0, 1) := by decide +kernel
theorem dX5_on_15 : decode (mC mX5_on) 15 = .ok (.getfield 16, 3) := by decide +kernel
theorem dX5_on_18 : decode (mC mX5_on) 18 = .ok (.aload_n 0, 1) := by decide +kernel
theorem dX5_on_19 : decode (mC mX5_on) 19 = .ok (.getfield 9, 3) := by decide +kernel
theorem dX5_on_22 : decode (mC mX5_on) 22 = .ok (.invokestatic 138, 3) := by decide +kernel
theorem dX5_on_25 : decode (mC mX5_on) 25 = .ok (.aload_n 0, 1) := by decide +kernel
theorem dX5_on_26 : decode (mC mX5_on) 26 = .ok (.getfield 9, 3) := by decide +kernel
theorem dX5_on_29 : decode (mC mX5_on) 29 = .ok (.iconst 2, 1) := by decide +kernel
theorem dX5_on_30 : decode (mC mX5_on) 30 = .ok (.iaload, 1) := by decide +kernel
theorem dX5_on_31 : decode (mC mX5_on) 31 = .ok (.ireturn, 1) := by decide +kernel
theorem dX5_count_0 : decode (mC mX5_count) 0 = .ok (.iload_n 1, 1) := by decide +kernel
theorem dX5_count_1 : decode (mC mX5_count) 1 = .ok (.bipush 11, 2) := by decide +kernel
theorem dX5_count_3 : decode (mC mX5_count) 3 = .ok (.bipush 16, 2) := by decide +kernel
theorem dX5_count_5 : decode (mC mX5_count) 5 = .ok (.invokestatic 43, 3) := by decide +kernel
theorem dX5_count_8 : decode (mC mX5_count) 8 = .ok (.ifCond .eq 13, 3) := by decide +kernel
theorem dX5_count_11 : decode (mC mX5_count) 11 = .ok (.aload_n 0, 1) := by decide +kernel
theorem dX5_count_12 : decode (mC mX5_count) 12 = .ok (.getfield 31, 3) := by decide +kernel
theorem dX5_count_15 : decode (mC mX5_count) 15 = .ok (.iload_n 1, 1) := by decide +kernel
theorem dX5_count_16 : decode (mC mX5_count) 16 = .ok (.bipush 10, 2) := by decide +kernel
theorem dX5_count_18 : decode (mC mX5_count) 18 = .ok (.isub, 1) := by decide +kernel
theorem dX5_count_19 : decode (mC mX5_count) 19 = .ok (.iaload, 1) := by decide +kernel
theorem dX5_count_20 : decode (mC mX5_count) 20 = .ok (.ireturn, 1) := by decide +kernel
theorem dX5_count_21 : decode (mC mX5_count) 21 = .ok (.iload_n 1, 1) := by decide +kernel
theorem dX5_count_22 : decode (mC mX5_count) 22 = .ok (.tableswitch 76 0 7 #[46, 46, 46, 46, 53, 61, 66, 71], 46) := by decide +kernel
theorem dX5_count_68 : decode (mC mX5_count) 68 = .ok (.aload_n 0, 1) := by decide +kernel
theorem dX5_count_69 : decode (mC mX5_count) 69 = .ok (.getfield 9, 3) := by decide +kernel
theorem dX5_count_72 : decode (mC mX5_count) 72 = .ok (.iload_n 1, 1) := by decide +kernel
theorem dX5_count_73 : decode (mC mX5_count) 73 = .ok (.iaload, 1) := by decide +kernel
theorem dX5_count_74 : decode (mC mX5_count) 74 = .ok (.ireturn, 1) := by decide +kernel
theorem dX5_count_75 : decode (mC mX5_count) 75 = .ok (.aload_n 0, 1) := by decide +kernel
theorem dX5_count_76 : decode (mC mX5_count) 76 = .ok (.getfield 9, 3) := by decide +kernel
theorem dX5_count_79 : decode (mC mX5_count) 79 = .ok (.invokestatic 155, 3) := by decide +kernel
theorem dX5_count_82 : decode (mC mX5_count) 82 = .ok (.ireturn, 1) := by decide +kernel
theorem dX5_count_83 : decode (mC mX5_count) 83 = .ok (.aload_n 0, 1) := by decide +kernel
theorem dX5_count_84 : decode (mC mX5_count) 84 = .ok (.invokevirtual 209, 3) := by decide +kernel
theorem dX5_count_87 : decode (mC mX5_count) 87 = .ok (.ireturn, 1) := by decide +kernel
theorem dX5_count_88 : decode (mC mX5_count) 88 = .ok (.aload_n 0, 1) := by decide +kernel
theorem dX5_count_89 : decode (mC mX5_count) 89 = .ok (.getfield 212, 3) := by decide +kernel
theorem dX5_count_92 : decode (mC mX5_count) 92 = .ok (.ireturn, 1) := by decide +kernel
theorem dX5_count_93 : decode (mC mX5_count) 93 = .ok (.aload_n 0, 1) := by decide +kernel
theorem dX5_count_94 : decode (mC mX5_count) 94 = .ok (.getfield 90, 3) := by decide +kernel
theorem dX5_count_97 : decode (mC mX5_count) 97 = .ok (.ireturn, 1) := by decide +kernel
theorem dX5_count_98 : decode (mC mX5_count) 98 = .ok (.bipush (-9), 2) := by decide +kernel
theorem dX5_count_100 : decode (mC mX5_count) 100 = .ok (.ireturn, 1) := by decide +kernel
end
section
theorem dL_law_0 : decode (code) 0 = .ok (.new 7, 3) := by decide +kernel
theorem dL_law_3 : decode (code) 3 = .ok (.dup, 1) := by decide +kernel
theorem dL_law_4 : decode (code) 4 = .ok (.invokespecial 9, 3) := by decide +kernel
theorem dL_law_7 : decode (code) 7 = .ok (.astore_n 1, 1) := by decide +kernel
theorem dL_law_8 : decode (code) 8 = .ok (.new 10, 3) := by decide +kernel
theorem dL_law_11 : decode (code) 11 = .ok (.dup, 1) := by decide +kernel
theorem dL_law_12 : decode (code) 12 = .ok (.invokespecial 12, 3) := by decide +kernel
theorem dL_law_15 : decode (code) 15 = .ok (.astore_n 2, 1) := by decide +kernel
theorem dL_law_16 : decode (code) 16 = .ok (.iconst 0, 1) := by decide +kernel
theorem dL_law_17 : decode (code) 17 = .ok (.istore_n 3, 1) := by decide +kernel
theorem dL_law_18 : decode (code) 18 = .ok (.iload_n 3, 1) := by decide +kernel
theorem dL_law_19 : decode (code) 19 = .ok (.aload_n 0, 1) := by decide +kernel
theorem dL_law_20 : decode (code) 20 = .ok (.arraylength, 1) := by decide +kernel
theorem dL_law_21 : decode (code) 21 = .ok (.bipush 6, 2) := by decide +kernel
theorem dL_law_23 : decode (code) 23 = .ok (.isub, 1) := by decide +kernel
theorem dL_law_24 : decode (code) 24 = .ok (.if_icmp .gt 1282, 3) := by decide +kernel
theorem dL_law_27 : decode (code) 27 = .ok (.aload_n 0, 1) := by decide +kernel
theorem dL_law_28 : decode (code) 28 = .ok (.iload_n 3, 1) := by decide +kernel
theorem dL_law_29 : decode (code) 29 = .ok (.iaload, 1) := by decide +kernel
theorem dL_law_30 : decode (code) 30 = .ok (.bipush 63, 2) := by decide +kernel
theorem dL_law_32 : decode (code) 32 = .ok (.iand, 1) := by decide +kernel
theorem dL_law_33 : decode (code) 33 = .ok (.tableswitch 1267 0 39 #[175, 198, 211, 244, 277, 300, 323, 356, 389, 422, 465, 488, 531, 554, 587, 610, 623, 636, 679, 702, 725, 738, 771, 804, 827, 850, 883, 906, 929, 952, 995, 1059, 1083, 1126, 1149, 1162, 1175, 1218, 1231, 1244], 175) := by decide +kernel
theorem dL_law_208 : decode (code) 208 = .ok (.aload_n 1, 1) := by decide +kernel
theorem dL_law_209 : decode (code) 209 = .ok (.aload_n 0, 1) := by decide +kernel
theorem dL_law_210 : decode (code) 210 = .ok (.iload_n 3, 1) := by decide +kernel
theorem dL_law_211 : decode (code) 211 = .ok (.iconst 1, 1) := by decide +kernel
theorem dL_law_212 : decode (code) 212 = .ok (.iadd, 1) := by decide +kernel
theorem dL_law_213 : decode (code) 213 = .ok (.iaload, 1) := by decide +kernel
theorem dL_law_214 : decode (code) 214 = .ok (.invokevirtual 13, 3) := by decide +kernel
theorem dL_law_217 : decode (code) 217 = .ok (.aload_n 2, 1) := by decide +kernel
theorem dL_law_218 : decode (code) 218 = .ok (.aload_n 0, 1) := by decide +kernel
theorem dL_law_219 : decode (code) 219 = .ok (.iload_n 3, 1) := by decide +kernel
theorem dL_law_220 : decode (code) 220 = .ok (.iconst 1, 1) := by decide +kernel
theorem dL_law_221 : decode (code) 221 = .ok (.iadd, 1) := by decide +kernel
theorem dL_law_222 : decode (code) 222 = .ok (.iaload, 1) := by decide +kernel
theorem dL_law_223 : decode (code) 223 = .ok (.invokevirtual 17, 3) := by decide +kernel
theorem dL_law_226 : decode (code) 226 = .ok (.if_icmp .eq 1074, 3) := by decide +kernel
theorem dL_law_229 : decode (code) 229 = .ok (.iconst 0, 1) := by decide +kernel
theorem dL_law_230 : decode (code) 230 = .ok (.ireturn, 1) := by decide +kernel
theorem dL_law_231 : decode (code) 231 = .ok (.aload_n 1, 1) := by decide +kernel
theorem dL_law_232 : decode (code) 232 = .ok (.invokevirtual 18, 3) := by decide +kernel
theorem dL_law_235 : decode (code) 235 = .ok (.aload_n 2, 1) := by decide +kernel
theorem dL_law_236 : decode (code) 236 = .ok (.invokevirtual 22, 3) := by decide +kernel
theorem dL_law_239 : decode (code) 239 = .ok (.if_icmp .eq 1061, 3) := by decide +kernel
theorem dL_law_242 : decode (code) 242 = .ok (.iconst 0, 1) := by decide +kernel
theorem dL_law_243 : decode (code) 243 = .ok (.ireturn, 1) := by decide +kernel
theorem dL_law_244 : decode (code) 244 = .ok (.aload_n 1, 1) := by decide +kernel
theorem dL_law_245 : decode (code) 245 = .ok (.aload_n 0, 1) := by decide +kernel
theorem dL_law_246 : decode (code) 246 = .ok (.iload_n 3, 1) := by decide +kernel
theorem dL_law_247 : decode (code) 247 = .ok (.iconst 1, 1) := by decide +kernel
theorem dL_law_248 : decode (code) 248 = .ok (.iadd, 1) := by decide +kernel
theorem dL_law_249 : decode (code) 249 = .ok (.iaload, 1) := by decide +kernel
theorem dL_law_250 : decode (code) 250 = .ok (.aload_n 0, 1) := by decide +kernel
theorem dL_law_251 : decode (code) 251 = .ok (.iload_n 3, 1) := by decide +kernel
theorem dL_law_252 : decode (code) 252 = .ok (.iconst 2, 1) := by decide +kernel
theorem dL_law_253 : decode (code) 253 = .ok (.iadd, 1) := by decide +kernel
theorem dL_law_254 : decode (code) 254 = .ok (.iaload, 1) := by decide +kernel
theorem dL_law_255 : decode (code) 255 = .ok (.invokevirtual 23, 3) := by decide +kernel
theorem dL_law_258 : decode (code) 258 = .ok (.aload_n 2, 1) := by decide +kernel
theorem dL_law_259 : decode (code) 259 = .ok (.aload_n 0, 1) := by decide +kernel
theorem dL_law_260 : decode (code) 260 = .ok (.iload_n 3, 1) := by decide +kernel
theorem dL_law_261 : decode (code) 261 = .ok (.iconst 1, 1) := by decide +kernel
theorem dL_law_262 : decode (code) 262 = .ok (.iadd, 1) := by decide +kernel
theorem dL_law_263 : decode (code) 263 = .ok (.iaload, 1) := by decide +kernel
theorem dL_law_264 : decode (code) 264 = .ok (.aload_n 0, 1) := by decide +kernel
theorem dL_law_265 : decode (code) 265 = .ok (.iload_n 3, 1) := by decide +kernel
theorem dL_law_266 : decode (code) 266 = .ok (.iconst 2, 1) := by decide +kernel
theorem dL_law_267 : decode (code) 267 = .ok (.iadd, 1) := by decide +kernel
theorem dL_law_268 : decode (code) 268 = .ok (.iaload, 1) := by decide +kernel
theorem dL_law_269 : decode (code) 269 = .ok (.invokevirtual 27, 3) := by decide +kernel
theorem dL_law_272 : decode (code) 272 = .ok (.if_icmp .eq 1028, 3) := by decide +kernel
theorem dL_law_275 : decode (code) 275 = .ok (.iconst 0, 1) := by decide +kernel
theorem dL_law_276 : decode (code) 276 = .ok (.ireturn, 1) := by decide +kernel
theorem dL_law_277 : decode (code) 277 = .ok (.aload_n 1, 1) := by decide +kernel
theorem dL_law_278 : decode (code) 278 = .ok (.aload_n 0, 1) := by decide +kernel
theorem dL_law_279 : decode (code) 279 = .ok (.iload_n 3, 1) := by decide +kernel
theorem dL_law_280 : decode (code) 280 = .ok (.iconst 1, 1) := by decide +kernel
theorem dL_law_281 : decode (code) 281 = .ok (.iadd, 1) := by decide +kernel
theorem dL_law_282 : decode (code) 282 = .ok (.iaload, 1) := by decide +kernel
theorem dL_law_283 : decode (code) 283 = .ok (.aload_n 0, 1) := by decide +kernel
theorem dL_law_284 : decode (code) 284 = .ok (.iload_n 3, 1) := by decide +kernel
theorem dL_law_285 : decode (code) 285 = .ok (.iconst 2, 1) := by decide +kernel
theorem dL_law_286 : decode (code) 286 = .ok (.iadd, 1) := by decide +kernel
theorem dL_law_287 : decode (code) 287 = .ok (.iaload, 1) := by decide +kernel
theorem dL_law_288 : decode (code) 288 = .ok (.invokevirtual 28, 3) := by decide +kernel
theorem dL_law_291 : decode (code) 291 = .ok (.aload_n 2, 1) := by decide +kernel
theorem dL_law_292 : decode (code) 292 = .ok (.aload_n 0, 1) := by decide +kernel
theorem dL_law_293 : decode (code) 293 = .ok (.iload_n 3, 1) := by decide +kernel
theorem dL_law_294 : decode (code) 294 = .ok (.iconst 1, 1) := by decide +kernel
theorem dL_law_295 : decode (code) 295 = .ok (.iadd, 1) := by decide +kernel
theorem dL_law_296 : decode (code) 296 = .ok (.iaload, 1) := by decide +kernel
theorem dL_law_297 : decode (code) 297 = .ok (.aload_n 0, 1) := by decide +kernel
theorem dL_law_298 : decode (code) 298 = .ok (.iload_n 3, 1) := by decide +kernel
theorem dL_law_299 : decode (code) 299 = .ok (.iconst 2, 1) := by decide +kernel
theorem dL_law_300 : decode (code) 300 = .ok (.iadd, 1) := by decide +kernel
theorem dL_law_301 : decode (code) 301 = .ok (.iaload, 1) := by decide +kernel
theorem dL_law_302 : decode (code) 302 = .ok (.invokevirtual 31, 3) := by decide +kernel
theorem dL_law_305 : decode (code) 305 = .ok (.if_icmp .eq 995, 3) := by decide +kernel
theorem dL_law_308 : decode (code) 308 = .ok (.iconst 0, 1) := by decide +kernel
theorem dL_law_309 : decode (code) 309 = .ok (.ireturn, 1) := by decide +kernel
theorem dL_law_310 : decode (code) 310 = .ok (.aload_n 1, 1) := by decide +kernel
theorem dL_law_311 : decode (code) 311 = .ok (.aload_n 0, 1) := by decide +kernel
theorem dL_law_312 : decode (code) 312 = .ok (.iload_n 3, 1) := by decide +kernel
theorem dL_law_313 : decode (code) 313 = .ok (.iconst 1, 1) := by decide +kernel
theorem dL_law_314 : decode (code) 314 = .ok (.iadd, 1) := by decide +kernel
theorem dL_law_315 : decode (code) 315 = .ok (.iaload, 1) := by decide +kernel
theorem dL_law_316 : decode (code) 316 = .ok (.invokevirtual 32, 3) := by decide +kernel
theorem dL_law_319 : decode (code) 319 = .ok (.aload_n 2, 1) := by decide +kernel
theorem dL_law_320 : decode (code) 320 = .ok (.aload_n 0, 1) := by decide +kernel
theorem dL_law_321 : decode (code) 321 = .ok (.iload_n 3, 1) := by decide +kernel
theorem dL_law_322 : decode (code) 322 = .ok (.iconst 1, 1) := by decide +kernel
theorem dL_law_323 : decode (code) 323 = .ok (.iadd, 1) := by decide +kernel
theorem dL_law_324 : decode (code) 324 = .ok (.iaload, 1) := by decide +kernel
theorem dL_law_325 : decode (code) 325 = .ok (.invokevirtual 35, 3) := by decide +kernel
theorem dL_law_328 : decode (code) 328 = .ok (.if_icmp .eq 972, 3) := by decide +kernel
theorem dL_law_331 : decode (code) 331 = .ok (.iconst 0, 1) := by decide +kernel
theorem dL_law_332 : decode (code) 332 = .ok (.ireturn, 1) := by decide +kernel
theorem dL_law_333 : decode (code) 333 = .ok (.aload_n 1, 1) := by decide +kernel
theorem dL_law_334 : decode (code) 334 = .ok (.aload_n 0, 1) := by decide +kernel
theorem dL_law_335 : decode (code) 335 = .ok (.iload_n 3, 1) := by decide +kernel
theorem dL_law_336 : decode (code) 336 = .ok (.iconst 1, 1) := by decide +kernel
theorem dL_law_337 : decode (code) 337 = .ok (.iadd, 1) := by decide +kernel
theorem dL_law_338 : decode (code) 338 = .ok (.iaload, 1) := by decide +kernel
theorem dL_law_339 : decode (code) 339 = .ok (.invokevirtual 36, 3) := by decide +kernel
theorem dL_law_342 : decode (code) 342 = .ok (.aload_n 2, 1) := by decide +kernel
theorem dL_law_343 : decode (code) 343 = .ok (.aload_n 0, 1) := by decide +kernel
theorem dL_law_344 : decode (code) 344 = .ok (.iload_n 3, 1) := by decide +kernel
theorem dL_law_345 : decode (code) 345 = .ok (.iconst 1, 1) := by decide +kernel
theorem dL_law_346 : decode (code) 346 = .ok (.iadd, 1) := by decide +kernel
theorem dL_law_347 : decode (code) 347 = .ok (.iaload, 1) := by decide +kernel
theorem dL_law_348 : decode (code) 348 = .ok (.invokevirtual 39, 3) := by decide +kernel
theorem dL_law_351 : decode (code) 351 = .ok (.if_icmp .eq 949, 3) := by decide +kernel
theorem dL_law_354 : decode (code) 354 = .ok (.iconst 0, 1) := by decide +kernel
theorem dL_law_355 : decode (code) 355 = .ok (.ireturn, 1) := by decide +kernel
theorem dL_law_356 : decode (code) 356 = .ok (.aload_n 1, 1) := by decide +kernel
theorem dL_law_357 : decode (code) 357 = .ok (.aload_n 0, 1) := by decide +kernel
theorem dL_law_358 : decode (code) 358 = .ok (.iload_n 3, 1) := by decide +kernel
theorem dL_law_359 : decode (code) 359 = .ok (.iconst 1, 1) := by decide +kernel
theorem dL_law_360 : decode (code) 360 = .ok (.iadd, 1) := by decide +kernel
theorem dL_law_361 : decode (code) 361 = .ok (.iaload, 1) := by decide +kernel
theorem dL_law_362 : decode (code) 362 = .ok (.aload_n 0, 1) := by decide +kernel
theorem dL_law_363 : decode (code) 363 = .ok (.iload_n 3, 1) := by decide +kernel
theorem dL_law_364 : decode (code) 364 = .ok (.iconst 2, 1) := by decide +kernel
theorem dL_law_365 : decode (code) 365 = .ok (.iadd, 1) := by decide +kernel
theorem dL_law_366 : decode (code) 366 = .ok (.iaload, 1) := by decide +kernel
theorem dL_law_367 : decode (code) 367 = .ok (.invokevirtual 40, 3) := by decide +kernel
theorem dL_law_370 : decode (code) 370 = .ok (.aload_n 2, 1) := by decide +kernel
theorem dL_law_371 : decode (code) 371 = .ok (.aload_n 0, 1) := by decide +kernel
theorem dL_law_372 : decode (code) 372 = .ok (.iload_n 3, 1) := by decide +kernel
theorem dL_law_373 : decode (code) 373 = .ok (.iconst 1, 1) := by decide +kernel
theorem dL_law_374 : decode (code) 374 = .ok (.iadd, 1) := by decide +kernel
theorem dL_law_375 : decode (code) 375 = .ok (.iaload, 1) := by decide +kernel
theorem dL_law_376 : decode (code) 376 = .ok (.aload_n 0, 1) := by decide +kernel
theorem dL_law_377 : decode (code) 377 = .ok (.iload_n 3, 1) := by decide +kernel
theorem dL_law_378 : decode (code) 378 = .ok (.iconst 2, 1) := by decide +kernel
theorem dL_law_379 : decode (code) 379 = .ok (.iadd, 1) := by decide +kernel
theorem dL_law_380 : decode (code) 380 = .ok (.iaload, 1) := by decide +kernel
theorem dL_law_381 : decode (code) 381 = .ok (.invokevirtual 43, 3) := by decide +kernel
theorem dL_law_384 : decode (code) 384 = .ok (.if_icmp .eq 916, 3) := by decide +kernel
theorem dL_law_387 : decode (code) 387 = .ok (.iconst 0, 1) := by decide +kernel
theorem dL_law_388 : decode (code) 388 = .ok (.ireturn, 1) := by decide +kernel
theorem dL_law_389 : decode (code) 389 = .ok (.aload_n 1, 1) := by decide +kernel
theorem dL_law_390 : decode (code) 390 = .ok (.aload_n 0, 1) := by decide +kernel
theorem dL_law_391 : decode (code) 391 = .ok (.iload_n 3, 1) := by decide +kernel
theorem dL_law_392 : decode (code) 392 = .ok (.iconst 1, 1) := by decide +kernel
theorem dL_law_393 : decode (code) 393 = .ok (.iadd, 1) := by decide +kernel
theorem dL_law_394 : decode (code) 394 = .ok (.iaload, 1) := by decide +kernel
theorem dL_law_395 : decode (code) 395 = .ok (.aload_n 0, 1) := by decide +kernel
theorem dL_law_396 : decode (code) 396 = .ok (.iload_n 3, 1) := by decide +kernel
theorem dL_law_397 : decode (code) 397 = .ok (.iconst 2, 1) := by decide +kernel
theorem dL_law_398 : decode (code) 398 = .ok (.iadd, 1) := by decide +kernel
theorem dL_law_399 : decode (code) 399 = .ok (.iaload, 1) := by decide +kernel
theorem dL_law_400 : decode (code) 400 = .ok (.invokevirtual 44, 3) := by decide +kernel
theorem dL_law_403 : decode (code) 403 = .ok (.aload_n 2, 1) := by decide +kernel
theorem dL_law_404 : decode (code) 404 = .ok (.aload_n 0, 1) := by decide +kernel
theorem dL_law_405 : decode (code) 405 = .ok (.iload_n 3, 1) := by decide +kernel
theorem dL_law_406 : decode (code) 406 = .ok (.iconst 1, 1) := by decide +kernel
theorem dL_law_407 : decode (code) 407 = .ok (.iadd, 1) := by decide +kernel
theorem dL_law_408 : decode (code) 408 = .ok (.iaload, 1) := by decide +kernel
theorem dL_law_409 : decode (code) 409 = .ok (.aload_n 0, 1) := by decide +kernel
theorem dL_law_410 : decode (code) 410 = .ok (.iload_n 3, 1) := by decide +kernel
theorem dL_law_411 : decode (code) 411 = .ok (.iconst 2, 1) := by decide +kernel
theorem dL_law_412 : decode (code) 412 = .ok (.iadd, 1) := by decide +kernel
theorem dL_law_413 : decode (code) 413 = .ok (.iaload, 1) := by decide +kernel
theorem dL_law_414 : decode (code) 414 = .ok (.invokevirtual 47, 3) := by decide +kernel
theorem dL_law_417 : decode (code) 417 = .ok (.if_icmp .eq 883, 3) := by decide +kernel
theorem dL_law_420 : decode (code) 420 = .ok (.iconst 0, 1) := by decide +kernel
theorem dL_law_421 : decode (code) 421 = .ok (.ireturn, 1) := by decide +kernel
theorem dL_law_422 : decode (code) 422 = .ok (.aload_n 1, 1) := by decide +kernel
theorem dL_law_423 : decode (code) 423 = .ok (.aload_n 0, 1) := by decide +kernel
theorem dL_law_424 : decode (code) 424 = .ok (.iload_n 3, 1) := by decide +kernel
theorem dL_law_425 : decode (code) 425 = .ok (.iconst 1, 1) := by decide +kernel
theorem dL_law_426 : decode (code) 426 = .ok (.iadd, 1) := by decide +kernel
theorem dL_law_427 : decode (code) 427 = .ok (.iaload, 1) := by decide +kernel
theorem dL_law_428 : decode (code) 428 = .ok (.aload_n 0, 1) := by decide +kernel
theorem dL_law_429 : decode (code) 429 = .ok (.iload_n 3, 1) := by decide +kernel
theorem dL_law_430 : decode (code) 430 = .ok (.iconst 2, 1) := by decide +kernel
theorem dL_law_431 : decode (code) 431 = .ok (.iadd, 1) := by decide +kernel
theorem dL_law_432 : decode (code) 432 = .ok (.iaload, 1) := by decide +kernel
theorem dL_law_433 : decode (code) 433 = .ok (.invokevirtual 48, 3) := by decide +kernel
theorem dL_law_436 : decode (code) 436 = .ok (.aload_n 2, 1) := by decide +kernel
theorem dL_law_437 : decode (code) 437 = .ok (.aload_n 0, 1) := by decide +kernel
theorem dL_law_438 : decode (code) 438 = .ok (.iload_n 3, 1) := by decide +kernel
theorem dL_law_439 : decode (code) 439 = .ok (.iconst 1, 1) := by decide +kernel
theorem dL_law_440 : decode (code) 440 = .ok (.iadd, 1) := by decide +kernel
theorem dL_law_441 : decode (code) 441 = .ok (.iaload, 1) := by decide +kernel
theorem dL_law_442 : decode (code) 442 = .ok (.aload_n 0, 1) := by decide +kernel
theorem dL_law_443 : decode (code) 443 = .ok (.iload_n 3, 1) := by decide +kernel
theorem dL_law_444 : decode (code) 444 = .ok (.iconst 2, 1) := by decide +kernel
theorem dL_law_445 : decode (code) 445 = .ok (.iadd, 1) := by decide +kernel
theorem dL_law_446 : decode (code) 446 = .ok (.iaload, 1) := by decide +kernel
theorem dL_law_447 : decode (code) 447 = .ok (.invokevirtual 51, 3) := by decide +kernel
theorem dL_law_450 : decode (code) 450 = .ok (.if_icmp .eq 850, 3) := by decide +kernel
theorem dL_law_453 : decode (code) 453 = .ok (.iconst 0, 1) := by decide +kernel
theorem dL_law_454 : decode (code) 454 = .ok (.ireturn, 1) := by decide +kernel
theorem dL_law_455 : decode (code) 455 = .ok (.aload_n 1, 1) := by decide +kernel
theorem dL_law_456 : decode (code) 456 = .ok (.aload_n 0, 1) := by decide +kernel
theorem dL_law_457 : decode (code) 457 = .ok (.iload_n 3, 1) := by decide +kernel
theorem dL_law_458 : decode (code) 458 = .ok (.iconst 1, 1) := by decide +kernel
theorem dL_law_459 : decode (code) 459 = .ok (.iadd, 1) := by decide +kernel
theorem dL_law_460 : decode (code) 460 = .ok (.iaload, 1) := by decide +kernel
theorem dL_law_461 : decode (code) 461 = .ok (.aload_n 0, 1) := by decide +kernel
theorem dL_law_462 : decode (code) 462 = .ok (.iload_n 3, 1) := by decide +kernel
theorem dL_law_463 : decode (code) 463 = .ok (.iconst 2, 1) := by decide +kernel
theorem dL_law_464 : decode (code) 464 = .ok (.iadd, 1) := by decide +kernel
theorem dL_law_465 : decode (code) 465 = .ok (.iaload, 1) := by decide +kernel
theorem dL_law_466 : decode (code) 466 = .ok (.aload_n 0, 1) := by decide +kernel
theorem dL_law_467 : decode (code) 467 = .ok (.iload_n 3, 1) := by decide +kernel
theorem dL_law_468 : decode (code) 468 = .ok (.iconst 3, 1) := by decide +kernel
theorem dL_law_469 : decode (code) 469 = .ok (.iadd, 1) := by decide +kernel
theorem dL_law_470 : decode (code) 470 = .ok (.iaload, 1) := by decide +kernel
theorem dL_law_471 : decode (code) 471 = .ok (.invokevirtual 52, 3) := by decide +kernel
theorem dL_law_474 : decode (code) 474 = .ok (.aload_n 2, 1) := by decide +kernel
theorem dL_law_475 : decode (code) 475 = .ok (.aload_n 0, 1) := by decide +kernel
theorem dL_law_476 : decode (code) 476 = .ok (.iload_n 3, 1) := by decide +kernel
theorem dL_law_477 : decode (code) 477 = .ok (.iconst 1, 1) := by decide +kernel
theorem dL_law_478 : decode (code) 478 = .ok (.iadd, 1) := by decide +kernel
theorem dL_law_479 : decode (code) 479 = .ok (.iaload, 1) := by decide +kernel
theorem dL_law_480 : decode (code) 480 = .ok (.aload_n 0, 1) := by decide +kernel
theorem dL_law_481 : decode (code) 481 = .ok (.iload_n 3, 1) := by decide +kernel
theorem dL_law_482 : decode (code) 482 = .ok (.iconst 2, 1) := by decide +kernel
theorem dL_law_483 : decode (code) 483 = .ok (.iadd, 1) := by decide +kernel
theorem dL_law_484 : decode (code) 484 = .ok (.iaload, 1) := by decide +kernel
theorem dL_law_485 : decode (code) 485 = .ok (.aload_n 0, 1) := by decide +kernel
theorem dL_law_486 : decode (code) 486 = .ok (.iload_n 3, 1) := by decide +kernel
theorem dL_law_487 : decode (code) 487 = .ok (.iconst 3, 1) := by decide +kernel
theorem dL_law_488 : decode (code) 488 = .ok (.iadd, 1) := by decide +kernel
theorem dL_law_489 : decode (code) 489 = .ok (.iaload, 1) := by decide +kernel
theorem dL_law_490 : decode (code) 490 = .ok (.invokevirtual 56, 3) := by decide +kernel
theorem dL_law_493 : decode (code) 493 = .ok (.if_icmp .eq 807, 3) := by decide +kernel
theorem dL_law_496 : decode (code) 496 = .ok (.iconst 0, 1) := by decide +kernel
theorem dL_law_497 : decode (code) 497 = .ok (.ireturn, 1) := by decide +kernel
theorem dL_law_498 : decode (code) 498 = .ok (.aload_n 1, 1) := by decide +kernel
theorem dL_law_499 : decode (code) 499 = .ok (.aload_n 0, 1) := by decide +kernel
theorem dL_law_500 : decode (code) 500 = .ok (.iload_n 3, 1) := by decide +kernel
theorem dL_law_501 : decode (code) 501 = .ok (.iconst 1, 1) := by decide +kernel
theorem dL_law_502 : decode (code) 502 = .ok (.iadd, 1) := by decide +kernel
theorem dL_law_503 : decode (code) 503 = .ok (.iaload, 1) := by decide +kernel
theorem dL_law_504 : decode (code) 504 = .ok (.invokevirtual 57, 3) := by decide +kernel
theorem dL_law_507 : decode (code) 507 = .ok (.aload_n 2, 1) := by decide +kernel
theorem dL_law_508 : decode (code) 508 = .ok (.aload_n 0, 1) := by decide +kernel
theorem dL_law_509 : decode (code) 509 = .ok (.iload_n 3, 1) := by decide +kernel
theorem dL_law_510 : decode (code) 510 = .ok (.iconst 1, 1) := by decide +kernel
theorem dL_law_511 : decode (code) 511 = .ok (.iadd, 1) := by decide +kernel
theorem dL_law_512 : decode (code) 512 = .ok (.iaload, 1) := by decide +kernel
theorem dL_law_513 : decode (code) 513 = .ok (.invokevirtual 60, 3) := by decide +kernel
theorem dL_law_516 : decode (code) 516 = .ok (.if_icmp .eq 784, 3) := by decide +kernel
theorem dL_law_519 : decode (code) 519 = .ok (.iconst 0, 1) := by decide +kernel
theorem dL_law_520 : decode (code) 520 = .ok (.ireturn, 1) := by decide +kernel
theorem dL_law_521 : decode (code) 521 = .ok (.aload_n 1, 1) := by decide +kernel
theorem dL_law_522 : decode (code) 522 = .ok (.aload_n 0, 1) := by decide +kernel
theorem dL_law_523 : decode (code) 523 = .ok (.iload_n 3, 1) := by decide +kernel
theorem dL_law_524 : decode (code) 524 = .ok (.iconst 1, 1) := by decide +kernel
theorem dL_law_525 : decode (code) 525 = .ok (.iadd, 1) := by decide +kernel
theorem dL_law_526 : decode (code) 526 = .ok (.iaload, 1) := by decide +kernel
theorem dL_law_527 : decode (code) 527 = .ok (.aload_n 0, 1) := by decide +kernel
theorem dL_law_528 : decode (code) 528 = .ok (.iload_n 3, 1) := by decide +kernel
theorem dL_law_529 : decode (code) 529 = .ok (.iconst 2, 1) := by decide +kernel
theorem dL_law_530 : decode (code) 530 = .ok (.iadd, 1) := by decide +kernel
theorem dL_law_531 : decode (code) 531 = .ok (.iaload, 1) := by decide +kernel
theorem dL_law_532 : decode (code) 532 = .ok (.aload_n 0, 1) := by decide +kernel
theorem dL_law_533 : decode (code) 533 = .ok (.iload_n 3, 1) := by decide +kernel
theorem dL_law_534 : decode (code) 534 = .ok (.iconst 3, 1) := by decide +kernel
theorem dL_law_535 : decode (code) 535 = .ok (.iadd, 1) := by decide +kernel
theorem dL_law_536 : decode (code) 536 = .ok (.iaload, 1) := by decide +kernel
theorem dL_law_537 : decode (code) 537 = .ok (.invokevirtual 61, 3) := by decide +kernel
theorem dL_law_540 : decode (code) 540 = .ok (.aload_n 2, 1) := by decide +kernel
theorem dL_law_541 : decode (code) 541 = .ok (.aload_n 0, 1) := by decide +kernel
theorem dL_law_542 : decode (code) 542 = .ok (.iload_n 3, 1) := by decide +kernel
theorem dL_law_543 : decode (code) 543 = .ok (.iconst 1, 1) := by decide +kernel
theorem dL_law_544 : decode (code) 544 = .ok (.iadd, 1) := by decide +kernel
theorem dL_law_545 : decode (code) 545 = .ok (.iaload, 1) := by decide +kernel
theorem dL_law_546 : decode (code) 546 = .ok (.aload_n 0, 1) := by decide +kernel
theorem dL_law_547 : decode (code) 547 = .ok (.iload_n 3, 1) := by decide +kernel
theorem dL_law_548 : decode (code) 548 = .ok (.iconst 2, 1) := by decide +kernel
theorem dL_law_549 : decode (code) 549 = .ok (.iadd, 1) := by decide +kernel
theorem dL_law_550 : decode (code) 550 = .ok (.iaload, 1) := by decide +kernel
theorem dL_law_551 : decode (code) 551 = .ok (.aload_n 0, 1) := by decide +kernel
theorem dL_law_552 : decode (code) 552 = .ok (.iload_n 3, 1) := by decide +kernel
theorem dL_law_553 : decode (code) 553 = .ok (.iconst 3, 1) := by decide +kernel
theorem dL_law_554 : decode (code) 554 = .ok (.iadd, 1) := by decide +kernel
theorem dL_law_555 : decode (code) 555 = .ok (.iaload, 1) := by decide +kernel
theorem dL_law_556 : decode (code) 556 = .ok (.invokevirtual 64, 3) := by decide +kernel
theorem dL_law_559 : decode (code) 559 = .ok (.if_icmp .eq 741, 3) := by decide +kernel
theorem dL_law_562 : decode (code) 562 = .ok (.iconst 0, 1) := by decide +kernel
theorem dL_law_563 : decode (code) 563 = .ok (.ireturn, 1) := by decide +kernel
theorem dL_law_564 : decode (code) 564 = .ok (.aload_n 1, 1) := by decide +kernel
theorem dL_law_565 : decode (code) 565 = .ok (.aload_n 0, 1) := by decide +kernel
theorem dL_law_566 : decode (code) 566 = .ok (.iload_n 3, 1) := by decide +kernel
theorem dL_law_567 : decode (code) 567 = .ok (.iconst 1, 1) := by decide +kernel
theorem dL_law_568 : decode (code) 568 = .ok (.iadd, 1) := by decide +kernel
theorem dL_law_569 : decode (code) 569 = .ok (.iaload, 1) := by decide +kernel
theorem dL_law_570 : decode (code) 570 = .ok (.invokevirtual 65, 3) := by decide +kernel
theorem dL_law_573 : decode (code) 573 = .ok (.aload_n 2, 1) := by decide +kernel
theorem dL_law_574 : decode (code) 574 = .ok (.aload_n 0, 1) := by decide +kernel
theorem dL_law_575 : decode (code) 575 = .ok (.iload_n 3, 1) := by decide +kernel
theorem dL_law_576 : decode (code) 576 = .ok (.iconst 1, 1) := by decide +kernel
theorem dL_law_577 : decode (code) 577 = .ok (.iadd, 1) := by decide +kernel
theorem dL_law_578 : decode (code) 578 = .ok (.iaload, 1) := by decide +kernel
theorem dL_law_579 : decode (code) 579 = .ok (.invokevirtual 68, 3) := by decide +kernel
theorem dL_law_582 : decode (code) 582 = .ok (.if_icmp .eq 718, 3) := by decide +kernel
theorem dL_law_585 : decode (code) 585 = .ok (.iconst 0, 1) := by decide +kernel
theorem dL_law_586 : decode (code) 586 = .ok (.ireturn, 1) := by decide +kernel
theorem dL_law_587 : decode (code) 587 = .ok (.aload_n 1, 1) := by decide +kernel
theorem dL_law_588 : decode (code) 588 = .ok (.aload_n 0, 1) := by decide +kernel
theorem dL_law_589 : decode (code) 589 = .ok (.iload_n 3, 1) := by decide +kernel
theorem dL_law_590 : decode (code) 590 = .ok (.iconst 1, 1) := by decide +kernel
theorem dL_law_591 : decode (code) 591 = .ok (.iadd, 1) := by decide +kernel
theorem dL_law_592 : decode (code) 592 = .ok (.iaload, 1) := by decide +kernel
theorem dL_law_593 : decode (code) 593 = .ok (.aload_n 0, 1) := by decide +kernel
theorem dL_law_594 : decode (code) 594 = .ok (.iload_n 3, 1) := by decide +kernel
theorem dL_law_595 : decode (code) 595 = .ok (.iconst 2, 1) := by decide +kernel
theorem dL_law_596 : decode (code) 596 = .ok (.iadd, 1) := by decide +kernel
theorem dL_law_597 : decode (code) 597 = .ok (.iaload, 1) := by decide +kernel
theorem dL_law_598 : decode (code) 598 = .ok (.invokevirtual 69, 3) := by decide +kernel
theorem dL_law_601 : decode (code) 601 = .ok (.aload_n 2, 1) := by decide +kernel
theorem dL_law_602 : decode (code) 602 = .ok (.aload_n 0, 1) := by decide +kernel
theorem dL_law_603 : decode (code) 603 = .ok (.iload_n 3, 1) := by decide +kernel
theorem dL_law_604 : decode (code) 604 = .ok (.iconst 1, 1) := by decide +kernel
theorem dL_law_605 : decode (code) 605 = .ok (.iadd, 1) := by decide +kernel
theorem dL_law_606 : decode (code) 606 = .ok (.iaload, 1) := by decide +kernel
theorem dL_law_607 : decode (code) 607 = .ok (.aload_n 0, 1) := by decide +kernel
theorem dL_law_608 : decode (code) 608 = .ok (.iload_n 3, 1) := by decide +kernel
theorem dL_law_609 : decode (code) 609 = .ok (.iconst 2, 1) := by decide +kernel
theorem dL_law_610 : decode (code) 610 = .ok (.iadd, 1) := by decide +kernel
theorem dL_law_611 : decode (code) 611 = .ok (.iaload, 1) := by decide +kernel
theorem dL_law_612 : decode (code) 612 = .ok (.invokevirtual 72, 3) := by decide +kernel
theorem dL_law_615 : decode (code) 615 = .ok (.if_icmp .eq 685, 3) := by decide +kernel
theorem dL_law_618 : decode (code) 618 = .ok (.iconst 0, 1) := by decide +kernel
theorem dL_law_619 : decode (code) 619 = .ok (.ireturn, 1) := by decide +kernel
theorem dL_law_620 : decode (code) 620 = .ok (.aload_n 1, 1) := by decide +kernel
theorem dL_law_621 : decode (code) 621 = .ok (.aload_n 0, 1) := by decide +kernel
theorem dL_law_622 : decode (code) 622 = .ok (.iload_n 3, 1) := by decide +kernel
theorem dL_law_623 : decode (code) 623 = .ok (.iconst 1, 1) := by decide +kernel
theorem dL_law_624 : decode (code) 624 = .ok (.iadd, 1) := by decide +kernel
theorem dL_law_625 : decode (code) 625 = .ok (.iaload, 1) := by decide +kernel
theorem dL_law_626 : decode (code) 626 = .ok (.invokevirtual 73, 3) := by decide +kernel
theorem dL_law_629 : decode (code) 629 = .ok (.aload_n 2, 1) := by decide +kernel
theorem dL_law_630 : decode (code) 630 = .ok (.aload_n 0, 1) := by decide +kernel
theorem dL_law_631 : decode (code) 631 = .ok (.iload_n 3, 1) := by decide +kernel
theorem dL_law_632 : decode (code) 632 = .ok (.iconst 1, 1) := by decide +kernel
theorem dL_law_633 : decode (code) 633 = .ok (.iadd, 1) := by decide +kernel
theorem dL_law_634 : decode (code) 634 = .ok (.iaload, 1) := by decide +kernel
theorem dL_law_635 : decode (code) 635 = .ok (.invokevirtual 76, 3) := by decide +kernel
theorem dL_law_638 : decode (code) 638 = .ok (.if_icmp .eq 662, 3) := by decide +kernel
theorem dL_law_641 : decode (code) 641 = .ok (.iconst 0, 1) := by decide +kernel
theorem dL_law_642 : decode (code) 642 = .ok (.ireturn, 1) := by decide +kernel
theorem dL_law_643 : decode (code) 643 = .ok (.aload_n 1, 1) := by decide +kernel
theorem dL_law_644 : decode (code) 644 = .ok (.invokevirtual 77, 3) := by decide +kernel
theorem dL_law_647 : decode (code) 647 = .ok (.aload_n 2, 1) := by decide +kernel
theorem dL_law_648 : decode (code) 648 = .ok (.invokevirtual 80, 3) := by decide +kernel
theorem dL_law_651 : decode (code) 651 = .ok (.if_icmp .eq 649, 3) := by decide +kernel
theorem dL_law_654 : decode (code) 654 = .ok (.iconst 0, 1) := by decide +kernel
theorem dL_law_655 : decode (code) 655 = .ok (.ireturn, 1) := by decide +kernel
theorem dL_law_656 : decode (code) 656 = .ok (.aload_n 1, 1) := by decide +kernel
theorem dL_law_657 : decode (code) 657 = .ok (.invokevirtual 81, 3) := by decide +kernel
theorem dL_law_660 : decode (code) 660 = .ok (.aload_n 2, 1) := by decide +kernel
theorem dL_law_661 : decode (code) 661 = .ok (.invokevirtual 84, 3) := by decide +kernel
theorem dL_law_664 : decode (code) 664 = .ok (.if_icmp .eq 636, 3) := by decide +kernel
theorem dL_law_667 : decode (code) 667 = .ok (.iconst 0, 1) := by decide +kernel
theorem dL_law_668 : decode (code) 668 = .ok (.ireturn, 1) := by decide +kernel
theorem dL_law_669 : decode (code) 669 = .ok (.aload_n 1, 1) := by decide +kernel
theorem dL_law_670 : decode (code) 670 = .ok (.aload_n 0, 1) := by decide +kernel
theorem dL_law_671 : decode (code) 671 = .ok (.iload_n 3, 1) := by decide +kernel
theorem dL_law_672 : decode (code) 672 = .ok (.iconst 1, 1) := by decide +kernel
theorem dL_law_673 : decode (code) 673 = .ok (.iadd, 1) := by decide +kernel
theorem dL_law_674 : decode (code) 674 = .ok (.iaload, 1) := by decide +kernel
theorem dL_law_675 : decode (code) 675 = .ok (.aload_n 0, 1) := by decide +kernel
theorem dL_law_676 : decode (code) 676 = .ok (.iload_n 3, 1) := by decide +kernel
theorem dL_law_677 : decode (code) 677 = .ok (.iconst 2, 1) := by decide +kernel
theorem dL_law_678 : decode (code) 678 = .ok (.iadd, 1) := by decide +kernel
theorem dL_law_679 : decode (code) 679 = .ok (.iaload, 1) := by decide +kernel
theorem dL_law_680 : decode (code) 680 = .ok (.aload_n 0, 1) := by decide +kernel
theorem dL_law_681 : decode (code) 681 = .ok (.iload_n 3, 1) := by decide +kernel
theorem dL_law_682 : decode (code) 682 = .ok (.iconst 3, 1) := by decide +kernel
theorem dL_law_683 : decode (code) 683 = .ok (.iadd, 1) := by decide +kernel
theorem dL_law_684 : decode (code) 684 = .ok (.iaload, 1) := by decide +kernel
theorem dL_law_685 : decode (code) 685 = .ok (.invokevirtual 85, 3) := by decide +kernel
theorem dL_law_688 : decode (code) 688 = .ok (.aload_n 2, 1) := by decide +kernel
theorem dL_law_689 : decode (code) 689 = .ok (.aload_n 0, 1) := by decide +kernel
theorem dL_law_690 : decode (code) 690 = .ok (.iload_n 3, 1) := by decide +kernel
theorem dL_law_691 : decode (code) 691 = .ok (.iconst 1, 1) := by decide +kernel
theorem dL_law_692 : decode (code) 692 = .ok (.iadd, 1) := by decide +kernel
theorem dL_law_693 : decode (code) 693 = .ok (.iaload, 1) := by decide +kernel
theorem dL_law_694 : decode (code) 694 = .ok (.aload_n 0, 1) := by decide +kernel
theorem dL_law_695 : decode (code) 695 = .ok (.iload_n 3, 1) := by decide +kernel
theorem dL_law_696 : decode (code) 696 = .ok (.iconst 2, 1) := by decide +kernel
theorem dL_law_697 : decode (code) 697 = .ok (.iadd, 1) := by decide +kernel
theorem dL_law_698 : decode (code) 698 = .ok (.iaload, 1) := by decide +kernel
theorem dL_law_699 : decode (code) 699 = .ok (.aload_n 0, 1) := by decide +kernel
theorem dL_law_700 : decode (code) 700 = .ok (.iload_n 3, 1) := by decide +kernel
theorem dL_law_701 : decode (code) 701 = .ok (.iconst 3, 1) := by decide +kernel
theorem dL_law_702 : decode (code) 702 = .ok (.iadd, 1) := by decide +kernel
theorem dL_law_703 : decode (code) 703 = .ok (.iaload, 1) := by decide +kernel
theorem dL_law_704 : decode (code) 704 = .ok (.invokevirtual 88, 3) := by decide +kernel
theorem dL_law_707 : decode (code) 707 = .ok (.if_icmp .eq 593, 3) := by decide +kernel
theorem dL_law_710 : decode (code) 710 = .ok (.iconst 0, 1) := by decide +kernel
theorem dL_law_711 : decode (code) 711 = .ok (.ireturn, 1) := by decide +kernel
theorem dL_law_712 : decode (code) 712 = .ok (.aload_n 1, 1) := by decide +kernel
theorem dL_law_713 : decode (code) 713 = .ok (.aload_n 0, 1) := by decide +kernel
theorem dL_law_714 : decode (code) 714 = .ok (.iload_n 3, 1) := by decide +kernel
theorem dL_law_715 : decode (code) 715 = .ok (.iconst 1, 1) := by decide +kernel
theorem dL_law_716 : decode (code) 716 = .ok (.iadd, 1) := by decide +kernel
theorem dL_law_717 : decode (code) 717 = .ok (.iaload, 1) := by decide +kernel
theorem dL_law_718 : decode (code) 718 = .ok (.invokevirtual 89, 3) := by decide +kernel
theorem dL_law_721 : decode (code) 721 = .ok (.aload_n 2, 1) := by decide +kernel
theorem dL_law_722 : decode (code) 722 = .ok (.aload_n 0, 1) := by decide +kernel
theorem dL_law_723 : decode (code) 723 = .ok (.iload_n 3, 1) := by decide +kernel
theorem dL_law_724 : decode (code) 724 = .ok (.iconst 1, 1) := by decide +kernel
theorem dL_law_725 : decode (code) 725 = .ok (.iadd, 1) := by decide +kernel
theorem dL_law_726 : decode (code) 726 = .ok (.iaload, 1) := by decide +kernel
theorem dL_law_727 : decode (code) 727 = .ok (.invokevirtual 92, 3) := by decide +kernel
theorem dL_law_730 : decode (code) 730 = .ok (.if_icmp .eq 570, 3) := by decide +kernel
theorem dL_law_733 : decode (code) 733 = .ok (.iconst 0, 1) := by decide +kernel
theorem dL_law_734 : decode (code) 734 = .ok (.ireturn, 1) := by decide +kernel
theorem dL_law_735 : decode (code) 735 = .ok (.aload_n 1, 1) := by decide +kernel
theorem dL_law_736 : decode (code) 736 = .ok (.aload_n 0, 1) := by decide +kernel
theorem dL_law_737 : decode (code) 737 = .ok (.iload_n 3, 1) := by decide +kernel
theorem dL_law_738 : decode (code) 738 = .ok (.iconst 1, 1) := by decide +kernel
theorem dL_law_739 : decode (code) 739 = .ok (.iadd, 1) := by decide +kernel
theorem dL_law_740 : decode (code) 740 = .ok (.iaload, 1) := by decide +kernel
theorem dL_law_741 : decode (code) 741 = .ok (.invokevirtual 93, 3) := by decide +kernel
theorem dL_law_744 : decode (code) 744 = .ok (.aload_n 2, 1) := by decide +kernel
theorem dL_law_745 : decode (code) 745 = .ok (.aload_n 0, 1) := by decide +kernel
theorem dL_law_746 : decode (code) 746 = .ok (.iload_n 3, 1) := by decide +kernel
theorem dL_law_747 : decode (code) 747 = .ok (.iconst 1, 1) := by decide +kernel
theorem dL_law_748 : decode (code) 748 = .ok (.iadd, 1) := by decide +kernel
theorem dL_law_749 : decode (code) 749 = .ok (.iaload, 1) := by decide +kernel
theorem dL_law_750 : decode (code) 750 = .ok (.invokevirtual 96, 3) := by decide +kernel
theorem dL_law_753 : decode (code) 753 = .ok (.if_icmp .eq 547, 3) := by decide +kernel
theorem dL_law_756 : decode (code) 756 = .ok (.iconst 0, 1) := by decide +kernel
theorem dL_law_757 : decode (code) 757 = .ok (.ireturn, 1) := by decide +kernel
theorem dL_law_758 : decode (code) 758 = .ok (.aload_n 1, 1) := by decide +kernel
theorem dL_law_759 : decode (code) 759 = .ok (.invokevirtual 97, 3) := by decide +kernel
theorem dL_law_762 : decode (code) 762 = .ok (.aload_n 2, 1) := by decide +kernel
theorem dL_law_763 : decode (code) 763 = .ok (.invokevirtual 100, 3) := by decide +kernel
theorem dL_law_766 : decode (code) 766 = .ok (.if_icmp .eq 534, 3) := by decide +kernel
theorem dL_law_769 : decode (code) 769 = .ok (.iconst 0, 1) := by decide +kernel
theorem dL_law_770 : decode (code) 770 = .ok (.ireturn, 1) := by decide +kernel
theorem dL_law_771 : decode (code) 771 = .ok (.aload_n 1, 1) := by decide +kernel
theorem dL_law_772 : decode (code) 772 = .ok (.aload_n 0, 1) := by decide +kernel
theorem dL_law_773 : decode (code) 773 = .ok (.iload_n 3, 1) := by decide +kernel
theorem dL_law_774 : decode (code) 774 = .ok (.iconst 1, 1) := by decide +kernel
theorem dL_law_775 : decode (code) 775 = .ok (.iadd, 1) := by decide +kernel
theorem dL_law_776 : decode (code) 776 = .ok (.iaload, 1) := by decide +kernel
theorem dL_law_777 : decode (code) 777 = .ok (.aload_n 0, 1) := by decide +kernel
theorem dL_law_778 : decode (code) 778 = .ok (.iload_n 3, 1) := by decide +kernel
theorem dL_law_779 : decode (code) 779 = .ok (.iconst 2, 1) := by decide +kernel
theorem dL_law_780 : decode (code) 780 = .ok (.iadd, 1) := by decide +kernel
theorem dL_law_781 : decode (code) 781 = .ok (.iaload, 1) := by decide +kernel
theorem dL_law_782 : decode (code) 782 = .ok (.invokevirtual 101, 3) := by decide +kernel
theorem dL_law_785 : decode (code) 785 = .ok (.aload_n 2, 1) := by decide +kernel
theorem dL_law_786 : decode (code) 786 = .ok (.aload_n 0, 1) := by decide +kernel
theorem dL_law_787 : decode (code) 787 = .ok (.iload_n 3, 1) := by decide +kernel
theorem dL_law_788 : decode (code) 788 = .ok (.iconst 1, 1) := by decide +kernel
theorem dL_law_789 : decode (code) 789 = .ok (.iadd, 1) := by decide +kernel
theorem dL_law_790 : decode (code) 790 = .ok (.iaload, 1) := by decide +kernel
theorem dL_law_791 : decode (code) 791 = .ok (.aload_n 0, 1) := by decide +kernel
theorem dL_law_792 : decode (code) 792 = .ok (.iload_n 3, 1) := by decide +kernel
theorem dL_law_793 : decode (code) 793 = .ok (.iconst 2, 1) := by decide +kernel
theorem dL_law_794 : decode (code) 794 = .ok (.iadd, 1) := by decide +kernel
theorem dL_law_795 : decode (code) 795 = .ok (.iaload, 1) := by decide +kernel
theorem dL_law_796 : decode (code) 796 = .ok (.invokevirtual 104, 3) := by decide +kernel
theorem dL_law_799 : decode (code) 799 = .ok (.if_icmp .eq 501, 3) := by decide +kernel
theorem dL_law_802 : decode (code) 802 = .ok (.iconst 0, 1) := by decide +kernel
theorem dL_law_803 : decode (code) 803 = .ok (.ireturn, 1) := by decide +kernel
theorem dL_law_804 : decode (code) 804 = .ok (.aload_n 1, 1) := by decide +kernel
theorem dL_law_805 : decode (code) 805 = .ok (.aload_n 0, 1) := by decide +kernel
theorem dL_law_806 : decode (code) 806 = .ok (.iload_n 3, 1) := by decide +kernel
theorem dL_law_807 : decode (code) 807 = .ok (.iconst 1, 1) := by decide +kernel
theorem dL_law_808 : decode (code) 808 = .ok (.iadd, 1) := by decide +kernel
theorem dL_law_809 : decode (code) 809 = .ok (.iaload, 1) := by decide +kernel
theorem dL_law_810 : decode (code) 810 = .ok (.aload_n 0, 1) := by decide +kernel
theorem dL_law_811 : decode (code) 811 = .ok (.iload_n 3, 1) := by decide +kernel
theorem dL_law_812 : decode (code) 812 = .ok (.iconst 2, 1) := by decide +kernel
theorem dL_law_813 : decode (code) 813 = .ok (.iadd, 1) := by decide +kernel
theorem dL_law_814 : decode (code) 814 = .ok (.iaload, 1) := by decide +kernel
theorem dL_law_815 : decode (code) 815 = .ok (.invokevirtual 105, 3) := by decide +kernel
theorem dL_law_818 : decode (code) 818 = .ok (.aload_n 2, 1) := by decide +kernel
theorem dL_law_819 : decode (code) 819 = .ok (.aload_n 0, 1) := by decide +kernel
theorem dL_law_820 : decode (code) 820 = .ok (.iload_n 3, 1) := by decide +kernel
theorem dL_law_821 : decode (code) 821 = .ok (.iconst 1, 1) := by decide +kernel
theorem dL_law_822 : decode (code) 822 = .ok (.iadd, 1) := by decide +kernel
theorem dL_law_823 : decode (code) 823 = .ok (.iaload, 1) := by decide +kernel
theorem dL_law_824 : decode (code) 824 = .ok (.aload_n 0, 1) := by decide +kernel
theorem dL_law_825 : decode (code) 825 = .ok (.iload_n 3, 1) := by decide +kernel
theorem dL_law_826 : decode (code) 826 = .ok (.iconst 2, 1) := by decide +kernel
theorem dL_law_827 : decode (code) 827 = .ok (.iadd, 1) := by decide +kernel
theorem dL_law_828 : decode (code) 828 = .ok (.iaload, 1) := by decide +kernel
theorem dL_law_829 : decode (code) 829 = .ok (.invokevirtual 108, 3) := by decide +kernel
theorem dL_law_832 : decode (code) 832 = .ok (.if_icmp .eq 468, 3) := by decide +kernel
theorem dL_law_835 : decode (code) 835 = .ok (.iconst 0, 1) := by decide +kernel
theorem dL_law_836 : decode (code) 836 = .ok (.ireturn, 1) := by decide +kernel
theorem dL_law_837 : decode (code) 837 = .ok (.aload_n 1, 1) := by decide +kernel
theorem dL_law_838 : decode (code) 838 = .ok (.aload_n 0, 1) := by decide +kernel
theorem dL_law_839 : decode (code) 839 = .ok (.iload_n 3, 1) := by decide +kernel
theorem dL_law_840 : decode (code) 840 = .ok (.iconst 1, 1) := by decide +kernel
theorem dL_law_841 : decode (code) 841 = .ok (.iadd, 1) := by decide +kernel
theorem dL_law_842 : decode (code) 842 = .ok (.iaload, 1) := by decide +kernel
theorem dL_law_843 : decode (code) 843 = .ok (.invokevirtual 109, 3) := by decide +kernel
theorem dL_law_846 : decode (code) 846 = .ok (.aload_n 2, 1) := by decide +kernel
theorem dL_law_847 : decode (code) 847 = .ok (.aload_n 0, 1) := by decide +kernel
theorem dL_law_848 : decode (code) 848 = .ok (.iload_n 3, 1) := by decide +kernel
theorem dL_law_849 : decode (code) 849 = .ok (.iconst 1, 1) := by decide +kernel
theorem dL_law_850 : decode (code) 850 = .ok (.iadd, 1) := by decide +kernel
theorem dL_law_851 : decode (code) 851 = .ok (.iaload, 1) := by decide +kernel
theorem dL_law_852 : decode (code) 852 = .ok (.invokevirtual 112, 3) := by decide +kernel
theorem dL_law_855 : decode (code) 855 = .ok (.if_icmp .eq 445, 3) := by decide +kernel
theorem dL_law_858 : decode (code) 858 = .ok (.iconst 0, 1) := by decide +kernel
theorem dL_law_859 : decode (code) 859 = .ok (.ireturn, 1) := by decide +kernel
theorem dL_law_860 : decode (code) 860 = .ok (.aload_n 1, 1) := by decide +kernel
theorem dL_law_861 : decode (code) 861 = .ok (.aload_n 0, 1) := by decide +kernel
theorem dL_law_862 : decode (code) 862 = .ok (.iload_n 3, 1) := by decide +kernel
theorem dL_law_863 : decode (code) 863 = .ok (.iconst 1, 1) := by decide +kernel
theorem dL_law_864 : decode (code) 864 = .ok (.iadd, 1) := by decide +kernel
theorem dL_law_865 : decode (code) 865 = .ok (.iaload, 1) := by decide +kernel
theorem dL_law_866 : decode (code) 866 = .ok (.invokevirtual 113, 3) := by decide +kernel
theorem dL_law_869 : decode (code) 869 = .ok (.aload_n 2, 1) := by decide +kernel
theorem dL_law_870 : decode (code) 870 = .ok (.aload_n 0, 1) := by decide +kernel
theorem dL_law_871 : decode (code) 871 = .ok (.iload_n 3, 1) := by decide +kernel
theorem dL_law_872 : decode (code) 872 = .ok (.iconst 1, 1) := by decide +kernel
theorem dL_law_873 : decode (code) 873 = .ok (.iadd, 1) := by decide +kernel
theorem dL_law_874 : decode (code) 874 = .ok (.iaload, 1) := by decide +kernel
theorem dL_law_875 : decode (code) 875 = .ok (.invokevirtual 116, 3) := by decide +kernel
theorem dL_law_878 : decode (code) 878 = .ok (.if_icmp .eq 422, 3) := by decide +kernel
theorem dL_law_881 : decode (code) 881 = .ok (.iconst 0, 1) := by decide +kernel
theorem dL_law_882 : decode (code) 882 = .ok (.ireturn, 1) := by decide +kernel
theorem dL_law_883 : decode (code) 883 = .ok (.aload_n 1, 1) := by decide +kernel
theorem dL_law_884 : decode (code) 884 = .ok (.aload_n 0, 1) := by decide +kernel
theorem dL_law_885 : decode (code) 885 = .ok (.iload_n 3, 1) := by decide +kernel
theorem dL_law_886 : decode (code) 886 = .ok (.iconst 1, 1) := by decide +kernel
theorem dL_law_887 : decode (code) 887 = .ok (.iadd, 1) := by decide +kernel
theorem dL_law_888 : decode (code) 888 = .ok (.iaload, 1) := by decide +kernel
theorem dL_law_889 : decode (code) 889 = .ok (.aload_n 0, 1) := by decide +kernel
theorem dL_law_890 : decode (code) 890 = .ok (.iload_n 3, 1) := by decide +kernel
theorem dL_law_891 : decode (code) 891 = .ok (.iconst 2, 1) := by decide +kernel
theorem dL_law_892 : decode (code) 892 = .ok (.iadd, 1) := by decide +kernel
theorem dL_law_893 : decode (code) 893 = .ok (.iaload, 1) := by decide +kernel
theorem dL_law_894 : decode (code) 894 = .ok (.invokevirtual 117, 3) := by decide +kernel
theorem dL_law_897 : decode (code) 897 = .ok (.aload_n 2, 1) := by decide +kernel
theorem dL_law_898 : decode (code) 898 = .ok (.aload_n 0, 1) := by decide +kernel
theorem dL_law_899 : decode (code) 899 = .ok (.iload_n 3, 1) := by decide +kernel
theorem dL_law_900 : decode (code) 900 = .ok (.iconst 1, 1) := by decide +kernel
theorem dL_law_901 : decode (code) 901 = .ok (.iadd, 1) := by decide +kernel
theorem dL_law_902 : decode (code) 902 = .ok (.iaload, 1) := by decide +kernel
theorem dL_law_903 : decode (code) 903 = .ok (.aload_n 0, 1) := by decide +kernel
theorem dL_law_904 : decode (code) 904 = .ok (.iload_n 3, 1) := by decide +kernel
theorem dL_law_905 : decode (code) 905 = .ok (.iconst 2, 1) := by decide +kernel
theorem dL_law_906 : decode (code) 906 = .ok (.iadd, 1) := by decide +kernel
theorem dL_law_907 : decode (code) 907 = .ok (.iaload, 1) := by decide +kernel
theorem dL_law_908 : decode (code) 908 = .ok (.invokevirtual 120, 3) := by decide +kernel
theorem dL_law_911 : decode (code) 911 = .ok (.if_icmp .eq 389, 3) := by decide +kernel
theorem dL_law_914 : decode (code) 914 = .ok (.iconst 0, 1) := by decide +kernel
theorem dL_law_915 : decode (code) 915 = .ok (.ireturn, 1) := by decide +kernel
theorem dL_law_916 : decode (code) 916 = .ok (.aload_n 1, 1) := by decide +kernel
theorem dL_law_917 : decode (code) 917 = .ok (.aload_n 0, 1) := by decide +kernel
theorem dL_law_918 : decode (code) 918 = .ok (.iload_n 3, 1) := by decide +kernel
theorem dL_law_919 : decode (code) 919 = .ok (.iconst 1, 1) := by decide +kernel
theorem dL_law_920 : decode (code) 920 = .ok (.iadd, 1) := by decide +kernel
theorem dL_law_921 : decode (code) 921 = .ok (.iaload, 1) := by decide +kernel
theorem dL_law_922 : decode (code) 922 = .ok (.invokevirtual 121, 3) := by decide +kernel
theorem dL_law_925 : decode (code) 925 = .ok (.aload_n 2, 1) := by decide +kernel
theorem dL_law_926 : decode (code) 926 = .ok (.aload_n 0, 1) := by decide +kernel
theorem dL_law_927 : decode (code) 927 = .ok (.iload_n 3, 1) := by decide +kernel
theorem dL_law_928 : decode (code) 928 = .ok (.iconst 1, 1) := by decide +kernel
theorem dL_law_929 : decode (code) 929 = .ok (.iadd, 1) := by decide +kernel
theorem dL_law_930 : decode (code) 930 = .ok (.iaload, 1) := by decide +kernel
theorem dL_law_931 : decode (code) 931 = .ok (.invokevirtual 124, 3) := by decide +kernel
theorem dL_law_934 : decode (code) 934 = .ok (.if_icmp .eq 366, 3) := by decide +kernel
theorem dL_law_937 : decode (code) 937 = .ok (.iconst 0, 1) := by decide +kernel
theorem dL_law_938 : decode (code) 938 = .ok (.ireturn, 1) := by decide +kernel
theorem dL_law_939 : decode (code) 939 = .ok (.aload_n 1, 1) := by decide +kernel
theorem dL_law_940 : decode (code) 940 = .ok (.aload_n 0, 1) := by decide +kernel
theorem dL_law_941 : decode (code) 941 = .ok (.iload_n 3, 1) := by decide +kernel
theorem dL_law_942 : decode (code) 942 = .ok (.iconst 1, 1) := by decide +kernel
theorem dL_law_943 : decode (code) 943 = .ok (.iadd, 1) := by decide +kernel
theorem dL_law_944 : decode (code) 944 = .ok (.iaload, 1) := by decide +kernel
theorem dL_law_945 : decode (code) 945 = .ok (.invokevirtual 125, 3) := by decide +kernel
theorem dL_law_948 : decode (code) 948 = .ok (.aload_n 2, 1) := by decide +kernel
theorem dL_law_949 : decode (code) 949 = .ok (.aload_n 0, 1) := by decide +kernel
theorem dL_law_950 : decode (code) 950 = .ok (.iload_n 3, 1) := by decide +kernel
theorem dL_law_951 : decode (code) 951 = .ok (.iconst 1, 1) := by decide +kernel
theorem dL_law_952 : decode (code) 952 = .ok (.iadd, 1) := by decide +kernel
theorem dL_law_953 : decode (code) 953 = .ok (.iaload, 1) := by decide +kernel
theorem dL_law_954 : decode (code) 954 = .ok (.invokevirtual 128, 3) := by decide +kernel
theorem dL_law_957 : decode (code) 957 = .ok (.if_icmp .eq 343, 3) := by decide +kernel
theorem dL_law_960 : decode (code) 960 = .ok (.iconst 0, 1) := by decide +kernel
theorem dL_law_961 : decode (code) 961 = .ok (.ireturn, 1) := by decide +kernel
theorem dL_law_962 : decode (code) 962 = .ok (.aload_n 1, 1) := by decide +kernel
theorem dL_law_963 : decode (code) 963 = .ok (.aload_n 0, 1) := by decide +kernel
theorem dL_law_964 : decode (code) 964 = .ok (.iload_n 3, 1) := by decide +kernel
theorem dL_law_965 : decode (code) 965 = .ok (.iconst 1, 1) := by decide +kernel
theorem dL_law_966 : decode (code) 966 = .ok (.iadd, 1) := by decide +kernel
theorem dL_law_967 : decode (code) 967 = .ok (.iaload, 1) := by decide +kernel
theorem dL_law_968 : decode (code) 968 = .ok (.invokevirtual 129, 3) := by decide +kernel
theorem dL_law_971 : decode (code) 971 = .ok (.aload_n 2, 1) := by decide +kernel
theorem dL_law_972 : decode (code) 972 = .ok (.aload_n 0, 1) := by decide +kernel
theorem dL_law_973 : decode (code) 973 = .ok (.iload_n 3, 1) := by decide +kernel
theorem dL_law_974 : decode (code) 974 = .ok (.iconst 1, 1) := by decide +kernel
theorem dL_law_975 : decode (code) 975 = .ok (.iadd, 1) := by decide +kernel
theorem dL_law_976 : decode (code) 976 = .ok (.iaload, 1) := by decide +kernel
theorem dL_law_977 : decode (code) 977 = .ok (.invokevirtual 132, 3) := by decide +kernel
theorem dL_law_980 : decode (code) 980 = .ok (.if_icmp .eq 320, 3) := by decide +kernel
theorem dL_law_983 : decode (code) 983 = .ok (.iconst 0, 1) := by decide +kernel
theorem dL_law_984 : decode (code) 984 = .ok (.ireturn, 1) := by decide +kernel
theorem dL_law_985 : decode (code) 985 = .ok (.aload_n 1, 1) := by decide +kernel
theorem dL_law_986 : decode (code) 986 = .ok (.aload_n 0, 1) := by decide +kernel
theorem dL_law_987 : decode (code) 987 = .ok (.iload_n 3, 1) := by decide +kernel
theorem dL_law_988 : decode (code) 988 = .ok (.iconst 1, 1) := by decide +kernel
theorem dL_law_989 : decode (code) 989 = .ok (.iadd, 1) := by decide +kernel
theorem dL_law_990 : decode (code) 990 = .ok (.iaload, 1) := by decide +kernel
theorem dL_law_991 : decode (code) 991 = .ok (.aload_n 0, 1) := by decide +kernel
theorem dL_law_992 : decode (code) 992 = .ok (.iload_n 3, 1) := by decide +kernel
theorem dL_law_993 : decode (code) 993 = .ok (.iconst 2, 1) := by decide +kernel
theorem dL_law_994 : decode (code) 994 = .ok (.iadd, 1) := by decide +kernel
theorem dL_law_995 : decode (code) 995 = .ok (.iaload, 1) := by decide +kernel
theorem dL_law_996 : decode (code) 996 = .ok (.aload_n 0, 1) := by decide +kernel
theorem dL_law_997 : decode (code) 997 = .ok (.iload_n 3, 1) := by decide +kernel
theorem dL_law_998 : decode (code) 998 = .ok (.iconst 3, 1) := by decide +kernel
theorem dL_law_999 : decode (code) 999 = .ok (.iadd, 1) := by decide +kernel
theorem dL_law_1000 : decode (code) 1000 = .ok (.iaload, 1) := by decide +kernel
theorem dL_law_1001 : decode (code) 1001 = .ok (.invokevirtual 133, 3) := by decide +kernel
theorem dL_law_1004 : decode (code) 1004 = .ok (.aload_n 2, 1) := by decide +kernel
theorem dL_law_1005 : decode (code) 1005 = .ok (.aload_n 0, 1) := by decide +kernel
theorem dL_law_1006 : decode (code) 1006 = .ok (.iload_n 3, 1) := by decide +kernel
theorem dL_law_1007 : decode (code) 1007 = .ok (.iconst 1, 1) := by decide +kernel
theorem dL_law_1008 : decode (code) 1008 = .ok (.iadd, 1) := by decide +kernel
theorem dL_law_1009 : decode (code) 1009 = .ok (.iaload, 1) := by decide +kernel
theorem dL_law_1010 : decode (code) 1010 = .ok (.aload_n 0, 1) := by decide +kernel
theorem dL_law_1011 : decode (code) 1011 = .ok (.iload_n 3, 1) := by decide +kernel
theorem dL_law_1012 : decode (code) 1012 = .ok (.iconst 2, 1) := by decide +kernel
theorem dL_law_1013 : decode (code) 1013 = .ok (.iadd, 1) := by decide +kernel
theorem dL_law_1014 : decode (code) 1014 = .ok (.iaload, 1) := by decide +kernel
theorem dL_law_1015 : decode (code) 1015 = .ok (.aload_n 0, 1) := by decide +kernel
theorem dL_law_1016 : decode (code) 1016 = .ok (.iload_n 3, 1) := by decide +kernel
theorem dL_law_1017 : decode (code) 1017 = .ok (.iconst 3, 1) := by decide +kernel
theorem dL_law_1018 : decode (code) 1018 = .ok (.iadd, 1) := by decide +kernel
theorem dL_law_1019 : decode (code) 1019 = .ok (.iaload, 1) := by decide +kernel
theorem dL_law_1020 : decode (code) 1020 = .ok (.invokevirtual 136, 3) := by decide +kernel
theorem dL_law_1023 : decode (code) 1023 = .ok (.if_icmp .eq 277, 3) := by decide +kernel
theorem dL_law_1026 : decode (code) 1026 = .ok (.iconst 0, 1) := by decide +kernel
theorem dL_law_1027 : decode (code) 1027 = .ok (.ireturn, 1) := by decide +kernel
theorem dL_law_1028 : decode (code) 1028 = .ok (.aload_n 1, 1) := by decide +kernel
theorem dL_law_1029 : decode (code) 1029 = .ok (.aload_n 0, 1) := by decide +kernel
theorem dL_law_1030 : decode (code) 1030 = .ok (.iload_n 3, 1) := by decide +kernel
theorem dL_law_1031 : decode (code) 1031 = .ok (.iconst 1, 1) := by decide +kernel
theorem dL_law_1032 : decode (code) 1032 = .ok (.iadd, 1) := by decide +kernel
theorem dL_law_1033 : decode (code) 1033 = .ok (.iaload, 1) := by decide +kernel
theorem dL_law_1034 : decode (code) 1034 = .ok (.aload_n 0, 1) := by decide +kernel
theorem dL_law_1035 : decode (code) 1035 = .ok (.iload_n 3, 1) := by decide +kernel
theorem dL_law_1036 : decode (code) 1036 = .ok (.iconst 2, 1) := by decide +kernel
theorem dL_law_1037 : decode (code) 1037 = .ok (.iadd, 1) := by decide +kernel
theorem dL_law_1038 : decode (code) 1038 = .ok (.iaload, 1) := by decide +kernel
theorem dL_law_1039 : decode (code) 1039 = .ok (.aload_n 0, 1) := by decide +kernel
theorem dL_law_1040 : decode (code) 1040 = .ok (.iload_n 3, 1) := by decide +kernel
theorem dL_law_1041 : decode (code) 1041 = .ok (.iconst 3, 1) := by decide +kernel
theorem dL_law_1042 : decode (code) 1042 = .ok (.iadd, 1) := by decide +kernel
theorem dL_law_1043 : decode (code) 1043 = .ok (.iaload, 1) := by decide +kernel
theorem dL_law_1044 : decode (code) 1044 = .ok (.aload_n 0, 1) := by decide +kernel
theorem dL_law_1045 : decode (code) 1045 = .ok (.iload_n 3, 1) := by decide +kernel
theorem dL_law_1046 : decode (code) 1046 = .ok (.iconst 4, 1) := by decide +kernel
theorem dL_law_1047 : decode (code) 1047 = .ok (.iadd, 1) := by decide +kernel
theorem dL_law_1048 : decode (code) 1048 = .ok (.iaload, 1) := by decide +kernel
theorem dL_law_1049 : decode (code) 1049 = .ok (.aload_n 0, 1) := by decide +kernel
theorem dL_law_1050 : decode (code) 1050 = .ok (.iload_n 3, 1) := by decide +kernel
theorem dL_law_1051 : decode (code) 1051 = .ok (.iconst 5, 1) := by decide +kernel
theorem dL_law_1052 : decode (code) 1052 = .ok (.iadd, 1) := by decide +kernel
theorem dL_law_1053 : decode (code) 1053 = .ok (.iaload, 1) := by decide +kernel
theorem dL_law_1054 : decode (code) 1054 = .ok (.invokevirtual 137, 3) := by decide +kernel
theorem dL_law_1057 : decode (code) 1057 = .ok (.aload_n 2, 1) := by decide +kernel
theorem dL_law_1058 : decode (code) 1058 = .ok (.aload_n 0, 1) := by decide +kernel
theorem dL_law_1059 : decode (code) 1059 = .ok (.iload_n 3, 1) := by decide +kernel
theorem dL_law_1060 : decode (code) 1060 = .ok (.iconst 1, 1) := by decide +kernel
theorem dL_law_1061 : decode (code) 1061 = .ok (.iadd, 1) := by decide +kernel
theorem dL_law_1062 : decode (code) 1062 = .ok (.iaload, 1) := by decide +kernel
theorem dL_law_1063 : decode (code) 1063 = .ok (.aload_n 0, 1) := by decide +kernel
theorem dL_law_1064 : decode (code) 1064 = .ok (.iload_n 3, 1) := by decide +kernel
theorem dL_law_1065 : decode (code) 1065 = .ok (.iconst 2, 1) := by decide +kernel
theorem dL_law_1066 : decode (code) 1066 = .ok (.iadd, 1) := by decide +kernel
theorem dL_law_1067 : decode (code) 1067 = .ok (.iaload, 1) := by decide +kernel
theorem dL_law_1068 : decode (code) 1068 = .ok (.aload_n 0, 1) := by decide +kernel
theorem dL_law_1069 : decode (code) 1069 = .ok (.iload_n 3, 1) := by decide +kernel
theorem dL_law_1070 : decode (code) 1070 = .ok (.iconst 3, 1) := by decide +kernel
theorem dL_law_1071 : decode (code) 1071 = .ok (.iadd, 1) := by decide +kernel
theorem dL_law_1072 : decode (code) 1072 = .ok (.iaload, 1) := by decide +kernel
theorem dL_law_1073 : decode (code) 1073 = .ok (.aload_n 0, 1) := by decide +kernel
theorem dL_law_1074 : decode (code) 1074 = .ok (.iload_n 3, 1) := by decide +kernel
theorem dL_law_1075 : decode (code) 1075 = .ok (.iconst 4, 1) := by decide +kernel
theorem dL_law_1076 : decode (code) 1076 = .ok (.iadd, 1) := by decide +kernel
theorem dL_law_1077 : decode (code) 1077 = .ok (.iaload, 1) := by decide +kernel
theorem dL_law_1078 : decode (code) 1078 = .ok (.aload_n 0, 1) := by decide +kernel
theorem dL_law_1079 : decode (code) 1079 = .ok (.iload_n 3, 1) := by decide +kernel
theorem dL_law_1080 : decode (code) 1080 = .ok (.iconst 5, 1) := by decide +kernel
theorem dL_law_1081 : decode (code) 1081 = .ok (.iadd, 1) := by decide +kernel
theorem dL_law_1082 : decode (code) 1082 = .ok (.iaload, 1) := by decide +kernel
theorem dL_law_1083 : decode (code) 1083 = .ok (.invokevirtual 141, 3) := by decide +kernel
theorem dL_law_1086 : decode (code) 1086 = .ok (.lcmp, 1) := by decide +kernel
theorem dL_law_1087 : decode (code) 1087 = .ok (.ifCond .eq 213, 3) := by decide +kernel
theorem dL_law_1090 : decode (code) 1090 = .ok (.iconst 0, 1) := by decide +kernel
theorem dL_law_1091 : decode (code) 1091 = .ok (.ireturn, 1) := by decide +kernel
theorem dL_law_1092 : decode (code) 1092 = .ok (.aload_n 1, 1) := by decide +kernel
theorem dL_law_1093 : decode (code) 1093 = .ok (.aload_n 0, 1) := by decide +kernel
theorem dL_law_1094 : decode (code) 1094 = .ok (.iload_n 3, 1) := by decide +kernel
theorem dL_law_1095 : decode (code) 1095 = .ok (.iconst 1, 1) := by decide +kernel
theorem dL_law_1096 : decode (code) 1096 = .ok (.iadd, 1) := by decide +kernel
theorem dL_law_1097 : decode (code) 1097 = .ok (.iaload, 1) := by decide +kernel
theorem dL_law_1098 : decode (code) 1098 = .ok (.invokevirtual 142, 3) := by decide +kernel
theorem dL_law_1101 : decode (code) 1101 = .ok (.aload_n 2, 1) := by decide +kernel
theorem dL_law_1102 : decode (code) 1102 = .ok (.aload_n 0, 1) := by decide +kernel
theorem dL_law_1103 : decode (code) 1103 = .ok (.iload_n 3, 1) := by decide +kernel
theorem dL_law_1104 : decode (code) 1104 = .ok (.iconst 1, 1) := by decide +kernel
theorem dL_law_1105 : decode (code) 1105 = .ok (.iadd, 1) := by decide +kernel
theorem dL_law_1106 : decode (code) 1106 = .ok (.iaload, 1) := by decide +kernel
theorem dL_law_1107 : decode (code) 1107 = .ok (.invokevirtual 146, 3) := by decide +kernel
theorem dL_law_1110 : decode (code) 1110 = .ok (.lcmp, 1) := by decide +kernel
theorem dL_law_1111 : decode (code) 1111 = .ok (.ifCond .eq 189, 3) := by decide +kernel
theorem dL_law_1114 : decode (code) 1114 = .ok (.iconst 0, 1) := by decide +kernel
theorem dL_law_1115 : decode (code) 1115 = .ok (.ireturn, 1) := by decide +kernel
theorem dL_law_1116 : decode (code) 1116 = .ok (.aload_n 1, 1) := by decide +kernel
theorem dL_law_1117 : decode (code) 1117 = .ok (.aload_n 0, 1) := by decide +kernel
theorem dL_law_1118 : decode (code) 1118 = .ok (.iload_n 3, 1) := by decide +kernel
theorem dL_law_1119 : decode (code) 1119 = .ok (.iconst 1, 1) := by decide +kernel
theorem dL_law_1120 : decode (code) 1120 = .ok (.iadd, 1) := by decide +kernel
theorem dL_law_1121 : decode (code) 1121 = .ok (.iaload, 1) := by decide +kernel
theorem dL_law_1122 : decode (code) 1122 = .ok (.aload_n 0, 1) := by decide +kernel
theorem dL_law_1123 : decode (code) 1123 = .ok (.iload_n 3, 1) := by decide +kernel
theorem dL_law_1124 : decode (code) 1124 = .ok (.iconst 2, 1) := by decide +kernel
theorem dL_law_1125 : decode (code) 1125 = .ok (.iadd, 1) := by decide +kernel
theorem dL_law_1126 : decode (code) 1126 = .ok (.iaload, 1) := by decide +kernel
theorem dL_law_1127 : decode (code) 1127 = .ok (.aload_n 0, 1) := by decide +kernel
theorem dL_law_1128 : decode (code) 1128 = .ok (.iload_n 3, 1) := by decide +kernel
theorem dL_law_1129 : decode (code) 1129 = .ok (.iconst 3, 1) := by decide +kernel
theorem dL_law_1130 : decode (code) 1130 = .ok (.iadd, 1) := by decide +kernel
theorem dL_law_1131 : decode (code) 1131 = .ok (.iaload, 1) := by decide +kernel
theorem dL_law_1132 : decode (code) 1132 = .ok (.invokevirtual 147, 3) := by decide +kernel
theorem dL_law_1135 : decode (code) 1135 = .ok (.aload_n 2, 1) := by decide +kernel
theorem dL_law_1136 : decode (code) 1136 = .ok (.aload_n 0, 1) := by decide +kernel
theorem dL_law_1137 : decode (code) 1137 = .ok (.iload_n 3, 1) := by decide +kernel
theorem dL_law_1138 : decode (code) 1138 = .ok (.iconst 1, 1) := by decide +kernel
theorem dL_law_1139 : decode (code) 1139 = .ok (.iadd, 1) := by decide +kernel
theorem dL_law_1140 : decode (code) 1140 = .ok (.iaload, 1) := by decide +kernel
theorem dL_law_1141 : decode (code) 1141 = .ok (.aload_n 0, 1) := by decide +kernel
theorem dL_law_1142 : decode (code) 1142 = .ok (.iload_n 3, 1) := by decide +kernel
theorem dL_law_1143 : decode (code) 1143 = .ok (.iconst 2, 1) := by decide +kernel
theorem dL_law_1144 : decode (code) 1144 = .ok (.iadd, 1) := by decide +kernel
theorem dL_law_1145 : decode (code) 1145 = .ok (.iaload, 1) := by decide +kernel
theorem dL_law_1146 : decode (code) 1146 = .ok (.aload_n 0, 1) := by decide +kernel
theorem dL_law_1147 : decode (code) 1147 = .ok (.iload_n 3, 1) := by decide +kernel
theorem dL_law_1148 : decode (code) 1148 = .ok (.iconst 3, 1) := by decide +kernel
theorem dL_law_1149 : decode (code) 1149 = .ok (.iadd, 1) := by decide +kernel
theorem dL_law_1150 : decode (code) 1150 = .ok (.iaload, 1) := by decide +kernel
theorem dL_law_1151 : decode (code) 1151 = .ok (.invokevirtual 150, 3) := by decide +kernel
theorem dL_law_1154 : decode (code) 1154 = .ok (.if_icmp .eq 146, 3) := by decide +kernel
theorem dL_law_1157 : decode (code) 1157 = .ok (.iconst 0, 1) := by decide +kernel
theorem dL_law_1158 : decode (code) 1158 = .ok (.ireturn, 1) := by decide +kernel
theorem dL_law_1159 : decode (code) 1159 = .ok (.aload_n 1, 1) := by decide +kernel
theorem dL_law_1160 : decode (code) 1160 = .ok (.aload_n 0, 1) := by decide +kernel
theorem dL_law_1161 : decode (code) 1161 = .ok (.iload_n 3, 1) := by decide +kernel
theorem dL_law_1162 : decode (code) 1162 = .ok (.iconst 1, 1) := by decide +kernel
theorem dL_law_1163 : decode (code) 1163 = .ok (.iadd, 1) := by decide +kernel
theorem dL_law_1164 : decode (code) 1164 = .ok (.iaload, 1) := by decide +kernel
theorem dL_law_1165 : decode (code) 1165 = .ok (.invokevirtual 151, 3) := by decide +kernel
theorem dL_law_1168 : decode (code) 1168 = .ok (.aload_n 2, 1) := by decide +kernel
theorem dL_law_1169 : decode (code) 1169 = .ok (.aload_n 0, 1) := by decide +kernel
theorem dL_law_1170 : decode (code) 1170 = .ok (.iload_n 3, 1) := by decide +kernel
theorem dL_law_1171 : decode (code) 1171 = .ok (.iconst 1, 1) := by decide +kernel
theorem dL_law_1172 : decode (code) 1172 = .ok (.iadd, 1) := by decide +kernel
theorem dL_law_1173 : decode (code) 1173 = .ok (.iaload, 1) := by decide +kernel
theorem dL_law_1174 : decode (code) 1174 = .ok (.invokevirtual 154, 3) := by decide +kernel
theorem dL_law_1177 : decode (code) 1177 = .ok (.if_icmp .eq 123, 3) := by decide +kernel
theorem dL_law_1180 : decode (code) 1180 = .ok (.iconst 0, 1) := by decide +kernel
theorem dL_law_1181 : decode (code) 1181 = .ok (.ireturn, 1) := by decide +kernel
theorem dL_law_1182 : decode (code) 1182 = .ok (.aload_n 1, 1) := by decide +kernel
theorem dL_law_1183 : decode (code) 1183 = .ok (.invokevirtual 155, 3) := by decide +kernel
theorem dL_law_1186 : decode (code) 1186 = .ok (.aload_n 2, 1) := by decide +kernel
theorem dL_law_1187 : decode (code) 1187 = .ok (.invokevirtual 158, 3) := by decide +kernel
theorem dL_law_1190 : decode (code) 1190 = .ok (.if_icmp .eq 110, 3) := by decide +kernel
theorem dL_law_1193 : decode (code) 1193 = .ok (.iconst 0, 1) := by decide +kernel
theorem dL_law_1194 : decode (code) 1194 = .ok (.ireturn, 1) := by decide +kernel
theorem dL_law_1195 : decode (code) 1195 = .ok (.aload_n 1, 1) := by decide +kernel
theorem dL_law_1196 : decode (code) 1196 = .ok (.invokevirtual 159, 3) := by decide +kernel
theorem dL_law_1199 : decode (code) 1199 = .ok (.aload_n 2, 1) := by decide +kernel
theorem dL_law_1200 : decode (code) 1200 = .ok (.invokevirtual 162, 3) := by decide +kernel
theorem dL_law_1203 : decode (code) 1203 = .ok (.if_icmp .eq 97, 3) := by decide +kernel
theorem dL_law_1206 : decode (code) 1206 = .ok (.iconst 0, 1) := by decide +kernel
theorem dL_law_1207 : decode (code) 1207 = .ok (.ireturn, 1) := by decide +kernel
theorem dL_law_1208 : decode (code) 1208 = .ok (.aload_n 1, 1) := by decide +kernel
theorem dL_law_1209 : decode (code) 1209 = .ok (.aload_n 0, 1) := by decide +kernel
theorem dL_law_1210 : decode (code) 1210 = .ok (.iload_n 3, 1) := by decide +kernel
theorem dL_law_1211 : decode (code) 1211 = .ok (.iconst 1, 1) := by decide +kernel
theorem dL_law_1212 : decode (code) 1212 = .ok (.iadd, 1) := by decide +kernel
theorem dL_law_1213 : decode (code) 1213 = .ok (.iaload, 1) := by decide +kernel
theorem dL_law_1214 : decode (code) 1214 = .ok (.aload_n 0, 1) := by decide +kernel
theorem dL_law_1215 : decode (code) 1215 = .ok (.iload_n 3, 1) := by decide +kernel
theorem dL_law_1216 : decode (code) 1216 = .ok (.iconst 2, 1) := by decide +kernel
theorem dL_law_1217 : decode (code) 1217 = .ok (.iadd, 1) := by decide +kernel
theorem dL_law_1218 : decode (code) 1218 = .ok (.iaload, 1) := by decide +kernel
theorem dL_law_1219 : decode (code) 1219 = .ok (.aload_n 0, 1) := by decide +kernel
theorem dL_law_1220 : decode (code) 1220 = .ok (.iload_n 3, 1) := by decide +kernel
theorem dL_law_1221 : decode (code) 1221 = .ok (.iconst 3, 1) := by decide +kernel
theorem dL_law_1222 : decode (code) 1222 = .ok (.iadd, 1) := by decide +kernel
theorem dL_law_1223 : decode (code) 1223 = .ok (.iaload, 1) := by decide +kernel
theorem dL_law_1224 : decode (code) 1224 = .ok (.invokevirtual 163, 3) := by decide +kernel
theorem dL_law_1227 : decode (code) 1227 = .ok (.aload_n 2, 1) := by decide +kernel
theorem dL_law_1228 : decode (code) 1228 = .ok (.aload_n 0, 1) := by decide +kernel
theorem dL_law_1229 : decode (code) 1229 = .ok (.iload_n 3, 1) := by decide +kernel
theorem dL_law_1230 : decode (code) 1230 = .ok (.iconst 1, 1) := by decide +kernel
theorem dL_law_1231 : decode (code) 1231 = .ok (.iadd, 1) := by decide +kernel
theorem dL_law_1232 : decode (code) 1232 = .ok (.iaload, 1) := by decide +kernel
theorem dL_law_1233 : decode (code) 1233 = .ok (.aload_n 0, 1) := by decide +kernel
theorem dL_law_1234 : decode (code) 1234 = .ok (.iload_n 3, 1) := by decide +kernel
theorem dL_law_1235 : decode (code) 1235 = .ok (.iconst 2, 1) := by decide +kernel
theorem dL_law_1236 : decode (code) 1236 = .ok (.iadd, 1) := by decide +kernel
theorem dL_law_1237 : decode (code) 1237 = .ok (.iaload, 1) := by decide +kernel
theorem dL_law_1238 : decode (code) 1238 = .ok (.aload_n 0, 1) := by decide +kernel
theorem dL_law_1239 : decode (code) 1239 = .ok (.iload_n 3, 1) := by decide +kernel
theorem dL_law_1240 : decode (code) 1240 = .ok (.iconst 3, 1) := by decide +kernel
theorem dL_law_1241 : decode (code) 1241 = .ok (.iadd, 1) := by decide +kernel
theorem dL_law_1242 : decode (code) 1242 = .ok (.iaload, 1) := by decide +kernel
theorem dL_law_1243 : decode (code) 1243 = .ok (.invokevirtual 166, 3) := by decide +kernel
theorem dL_law_1246 : decode (code) 1246 = .ok (.if_icmp .eq 54, 3) := by decide +kernel
theorem dL_law_1249 : decode (code) 1249 = .ok (.iconst 0, 1) := by decide +kernel
theorem dL_law_1250 : decode (code) 1250 = .ok (.ireturn, 1) := by decide +kernel
theorem dL_law_1251 : decode (code) 1251 = .ok (.aload_n 1, 1) := by decide +kernel
theorem dL_law_1252 : decode (code) 1252 = .ok (.invokevirtual 167, 3) := by decide +kernel
theorem dL_law_1255 : decode (code) 1255 = .ok (.aload_n 2, 1) := by decide +kernel
theorem dL_law_1256 : decode (code) 1256 = .ok (.invokevirtual 170, 3) := by decide +kernel
theorem dL_law_1259 : decode (code) 1259 = .ok (.if_icmp .eq 41, 3) := by decide +kernel
theorem dL_law_1262 : decode (code) 1262 = .ok (.iconst 0, 1) := by decide +kernel
theorem dL_law_1263 : decode (code) 1263 = .ok (.ireturn, 1) := by decide +kernel
theorem dL_law_1264 : decode (code) 1264 = .ok (.aload_n 1, 1) := by decide +kernel
theorem dL_law_1265 : decode (code) 1265 = .ok (.invokevirtual 171, 3) := by decide +kernel
theorem dL_law_1268 : decode (code) 1268 = .ok (.aload_n 2, 1) := by decide +kernel
theorem dL_law_1269 : decode (code) 1269 = .ok (.invokevirtual 174, 3) := by decide +kernel
theorem dL_law_1272 : decode (code) 1272 = .ok (.if_icmp .eq 28, 3) := by decide +kernel
theorem dL_law_1275 : decode (code) 1275 = .ok (.iconst 0, 1) := by decide +kernel
theorem dL_law_1276 : decode (code) 1276 = .ok (.ireturn, 1) := by decide +kernel
theorem dL_law_1277 : decode (code) 1277 = .ok (.aload_n 1, 1) := by decide +kernel
theorem dL_law_1278 : decode (code) 1278 = .ok (.aload_n 0, 1) := by decide +kernel
theorem dL_law_1279 : decode (code) 1279 = .ok (.iload_n 3, 1) := by decide +kernel
theorem dL_law_1280 : decode (code) 1280 = .ok (.iconst 1, 1) := by decide +kernel
theorem dL_law_1281 : decode (code) 1281 = .ok (.iadd, 1) := by decide +kernel
theorem dL_law_1282 : decode (code) 1282 = .ok (.iaload, 1) := by decide +kernel
theorem dL_law_1283 : decode (code) 1283 = .ok (.invokevirtual 175, 3) := by decide +kernel
theorem dL_law_1286 : decode (code) 1286 = .ok (.aload_n 2, 1) := by decide +kernel
theorem dL_law_1287 : decode (code) 1287 = .ok (.aload_n 0, 1) := by decide +kernel
theorem dL_law_1288 : decode (code) 1288 = .ok (.iload_n 3, 1) := by decide +kernel
theorem dL_law_1289 : decode (code) 1289 = .ok (.iconst 1, 1) := by decide +kernel
theorem dL_law_1290 : decode (code) 1290 = .ok (.iadd, 1) := by decide +kernel
theorem dL_law_1291 : decode (code) 1291 = .ok (.iaload, 1) := by decide +kernel
theorem dL_law_1292 : decode (code) 1292 = .ok (.invokevirtual 178, 3) := by decide +kernel
theorem dL_law_1295 : decode (code) 1295 = .ok (.if_icmp .eq 5, 3) := by decide +kernel
theorem dL_law_1298 : decode (code) 1298 = .ok (.iconst 0, 1) := by decide +kernel
theorem dL_law_1299 : decode (code) 1299 = .ok (.ireturn, 1) := by decide +kernel
theorem dL_law_1300 : decode (code) 1300 = .ok (.iinc 3 6, 3) := by decide +kernel
theorem dL_law_1303 : decode (code) 1303 = .ok (.goto (-1285), 3) := by decide +kernel
theorem dL_law_1306 : decode (code) 1306 = .ok (.iconst 1, 1) := by decide +kernel
theorem dL_law_1307 : decode (code) 1307 = .ok (.ireturn, 1) := by decide +kernel
end
