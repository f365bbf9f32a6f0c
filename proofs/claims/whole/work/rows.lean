section
/-- a private method of a class that the tables say can be made, by its rows of tables_1 -/
def lw_okq (q : MethodName × Nat) : Prop := (q.1.cls ≠ "java/lang/invoke/MethodHandle" ∧ q.1.cls ≠ "java/lang/invoke/VarHandle") ∧ Cond.instantiable q.1.cls q.2 ∈ tables_1 ∧ Cond.privateMethod q.1 ∈ tables_1 ∧ Cond.instanceMethod q.1 ∈ tables_1
theorem lw_p0 : lw_okq (⟨"DoorsOneSide$Doors", "measureWays", "()V"⟩, 8) := ⟨⟨by decide +kernel, by decide +kernel⟩, List.mem_of_getElem? (i := 25) (by decide +kernel), List.mem_of_getElem? (i := 31) (by decide +kernel), List.mem_of_getElem? (i := 32) (by decide +kernel)⟩
theorem lw_p1 : lw_okq (⟨"DoorsOneSide$Doors", "shortenWaysBy", "(II)Z"⟩, 8) := ⟨⟨by decide +kernel, by decide +kernel⟩, List.mem_of_getElem? (i := 25) (by decide +kernel), List.mem_of_getElem? (i := 41) (by decide +kernel), List.mem_of_getElem? (i := 42) (by decide +kernel)⟩
theorem lw_p2 : lw_okq (⟨"DoorsOneSide$Doors", "findFirsts", "()V"⟩, 8) := ⟨⟨by decide +kernel, by decide +kernel⟩, List.mem_of_getElem? (i := 25) (by decide +kernel), List.mem_of_getElem? (i := 45) (by decide +kernel), List.mem_of_getElem? (i := 46) (by decide +kernel)⟩
theorem lw_p3 : lw_okq (⟨"DoorsOneSide", "refused", "(I)I"⟩, 8) := ⟨⟨by decide +kernel, by decide +kernel⟩, List.mem_of_getElem? (i := 11) (by decide +kernel), List.mem_of_getElem? (i := 180) (by decide +kernel), List.mem_of_getElem? (i := 181) (by decide +kernel)⟩
theorem lw_p4 : lw_okq (⟨"DoorsOneSide$Letters", "fitsShape", "(II)Z"⟩, 1) := ⟨⟨by decide +kernel, by decide +kernel⟩, List.mem_of_getElem? (i := 118) (by decide +kernel), List.mem_of_getElem? (i := 204) (by decide +kernel), List.mem_of_getElem? (i := 205) (by decide +kernel)⟩
theorem lw_p5 : lw_okq (⟨"DoorsOneSide", "tellStatements", "()I"⟩, 8) := ⟨⟨by decide +kernel, by decide +kernel⟩, List.mem_of_getElem? (i := 11) (by decide +kernel), List.mem_of_getElem? (i := 216) (by decide +kernel), List.mem_of_getElem? (i := 217) (by decide +kernel)⟩
theorem lw_p6 : lw_okq (⟨"DoorsOneSide$Letters", "digitAt", "(I)I"⟩, 1) := ⟨⟨by decide +kernel, by decide +kernel⟩, List.mem_of_getElem? (i := 118) (by decide +kernel), List.mem_of_getElem? (i := 242) (by decide +kernel), List.mem_of_getElem? (i := 243) (by decide +kernel)⟩
theorem lw_p7 : lw_okq (⟨"DoorsOneSide", "refusedNumber", "(I)I"⟩, 8) := ⟨⟨by decide +kernel, by decide +kernel⟩, List.mem_of_getElem? (i := 11) (by decide +kernel), List.mem_of_getElem? (i := 359) (by decide +kernel), List.mem_of_getElem? (i := 360) (by decide +kernel)⟩
theorem lw_p8 : lw_okq (⟨"DoorsOneSide", "firstHourIn", "(II)I"⟩, 8) := ⟨⟨by decide +kernel, by decide +kernel⟩, List.mem_of_getElem? (i := 11) (by decide +kernel), List.mem_of_getElem? (i := 401) (by decide +kernel), List.mem_of_getElem? (i := 402) (by decide +kernel)⟩
theorem lw_p9 : lw_okq (⟨"DoorsOneSide", "firstHourAllHome", "()I"⟩, 8) := ⟨⟨by decide +kernel, by decide +kernel⟩, List.mem_of_getElem? (i := 11) (by decide +kernel), List.mem_of_getElem? (i := 409) (by decide +kernel), List.mem_of_getElem? (i := 410) (by decide +kernel)⟩
theorem lw_p10 : lw_okq (⟨"DoorsOneSide", "homeWithHelper", "(II)I"⟩, 8) := ⟨⟨by decide +kernel, by decide +kernel⟩, List.mem_of_getElem? (i := 11) (by decide +kernel), List.mem_of_getElem? (i := 451) (by decide +kernel), List.mem_of_getElem? (i := 452) (by decide +kernel)⟩
theorem lw_p11 : lw_okq (⟨"DoorsOneSide", "isHomeWhileStay", "(III)Z"⟩, 8) := ⟨⟨by decide +kernel, by decide +kernel⟩, List.mem_of_getElem? (i := 11) (by decide +kernel), List.mem_of_getElem? (i := 461) (by decide +kernel), List.mem_of_getElem? (i := 462) (by decide +kernel)⟩
theorem lw_p12 : lw_okq (⟨"DoorsOneSide", "doorToChange", "(IZ)I"⟩, 8) := ⟨⟨by decide +kernel, by decide +kernel⟩, List.mem_of_getElem? (i := 11) (by decide +kernel), List.mem_of_getElem? (i := 474) (by decide +kernel), List.mem_of_getElem? (i := 475) (by decide +kernel)⟩
theorem lw_p13 : lw_okq (⟨"DoorsOneSide", "crowdedRoom", "()I"⟩, 8) := ⟨⟨by decide +kernel, by decide +kernel⟩, List.mem_of_getElem? (i := 11) (by decide +kernel), List.mem_of_getElem? (i := 495) (by decide +kernel), List.mem_of_getElem? (i := 496) (by decide +kernel)⟩
theorem lw_p14 : lw_okq (⟨"DoorsOneSide", "emptyRooms", "()I"⟩, 8) := ⟨⟨by decide +kernel, by decide +kernel⟩, List.mem_of_getElem? (i := 11) (by decide +kernel), List.mem_of_getElem? (i := 506) (by decide +kernel), List.mem_of_getElem? (i := 507) (by decide +kernel)⟩
theorem lw_p15 : lw_okq (⟨"DoorsOneSide", "deadRooms", "()I"⟩, 8) := ⟨⟨by decide +kernel, by decide +kernel⟩, List.mem_of_getElem? (i := 11) (by decide +kernel), List.mem_of_getElem? (i := 510) (by decide +kernel), List.mem_of_getElem? (i := 511) (by decide +kernel)⟩
def lw_privs_1 : List (MethodName × Nat) := [(⟨"DoorsOneSide$Doors", "measureWays", "()V"⟩, 8), (⟨"DoorsOneSide$Doors", "shortenWaysBy", "(II)Z"⟩, 8), (⟨"DoorsOneSide$Doors", "findFirsts", "()V"⟩, 8), (⟨"DoorsOneSide", "refused", "(I)I"⟩, 8), (⟨"DoorsOneSide$Letters", "fitsShape", "(II)Z"⟩, 1), (⟨"DoorsOneSide", "tellStatements", "()I"⟩, 8), (⟨"DoorsOneSide$Letters", "digitAt", "(I)I"⟩, 1), (⟨"DoorsOneSide", "refusedNumber", "(I)I"⟩, 8), (⟨"DoorsOneSide", "firstHourIn", "(II)I"⟩, 8), (⟨"DoorsOneSide", "firstHourAllHome", "()I"⟩, 8), (⟨"DoorsOneSide", "homeWithHelper", "(II)I"⟩, 8), (⟨"DoorsOneSide", "isHomeWhileStay", "(III)Z"⟩, 8), (⟨"DoorsOneSide", "doorToChange", "(IZ)I"⟩, 8), (⟨"DoorsOneSide", "crowdedRoom", "()I"⟩, 8), (⟨"DoorsOneSide", "emptyRooms", "()I"⟩, 8), (⟨"DoorsOneSide", "deadRooms", "()I"⟩, 8)]
theorem lw_r1 : ∀ q ∈ lw_privs_1, lw_okq q := List.forall_mem_cons.mpr ⟨lw_p0, List.forall_mem_cons.mpr ⟨lw_p1, List.forall_mem_cons.mpr ⟨lw_p2, List.forall_mem_cons.mpr ⟨lw_p3, List.forall_mem_cons.mpr ⟨lw_p4, List.forall_mem_cons.mpr ⟨lw_p5, List.forall_mem_cons.mpr ⟨lw_p6, List.forall_mem_cons.mpr ⟨lw_p7, List.forall_mem_cons.mpr ⟨lw_p8, List.forall_mem_cons.mpr ⟨lw_p9, List.forall_mem_cons.mpr ⟨lw_p10, List.forall_mem_cons.mpr ⟨lw_p11, List.forall_mem_cons.mpr ⟨lw_p12, List.forall_mem_cons.mpr ⟨lw_p13, List.forall_mem_cons.mpr ⟨lw_p14, List.forall_mem_cons.mpr ⟨lw_p15, fun _ h => absurd h List.not_mem_nil⟩⟩⟩⟩⟩⟩⟩⟩⟩⟩⟩⟩⟩⟩⟩⟩
theorem lw_p16 : lw_okq (⟨"DoorsOneSide", "waysOfAllTo", "(I)I"⟩, 8) := ⟨⟨by decide +kernel, by decide +kernel⟩, List.mem_of_getElem? (i := 11) (by decide +kernel), List.mem_of_getElem? (i := 523) (by decide +kernel), List.mem_of_getElem? (i := 524) (by decide +kernel)⟩
theorem lw_p17 : lw_okq (⟨"DoorsOneSide", "tryPair", "(IIII)V"⟩, 8) := ⟨⟨by decide +kernel, by decide +kernel⟩, List.mem_of_getElem? (i := 11) (by decide +kernel), List.mem_of_getElem? (i := 531) (by decide +kernel), List.mem_of_getElem? (i := 532) (by decide +kernel)⟩
theorem lw_p18 : lw_okq (⟨"DoorsOneSide", "gainOf", "(I)I"⟩, 8) := ⟨⟨by decide +kernel, by decide +kernel⟩, List.mem_of_getElem? (i := 11) (by decide +kernel), List.mem_of_getElem? (i := 535) (by decide +kernel), List.mem_of_getElem? (i := 536) (by decide +kernel)⟩
theorem lw_p19 : lw_okq (⟨"DoorsOneSide", "refusedLong", "(I)J"⟩, 8) := ⟨⟨by decide +kernel, by decide +kernel⟩, List.mem_of_getElem? (i := 11) (by decide +kernel), List.mem_of_getElem? (i := 543) (by decide +kernel), List.mem_of_getElem? (i := 544) (by decide +kernel)⟩
theorem lw_p20 : lw_okq (⟨"DoorsOneSide", "isInBehindFires", "(IIII)Z"⟩, 8) := ⟨⟨by decide +kernel, by decide +kernel⟩, List.mem_of_getElem? (i := 11) (by decide +kernel), List.mem_of_getElem? (i := 548) (by decide +kernel), List.mem_of_getElem? (i := 549) (by decide +kernel)⟩
theorem lw_p21 : lw_okq (⟨"DoorsOneSide", "kindsByRow", "(II)I"⟩, 8) := ⟨⟨by decide +kernel, by decide +kernel⟩, List.mem_of_getElem? (i := 11) (by decide +kernel), List.mem_of_getElem? (i := 573) (by decide +kernel), List.mem_of_getElem? (i := 574) (by decide +kernel)⟩
theorem lw_p22 : lw_okq (⟨"DoorsOneSide", "isMindAsRow", "(I)Z"⟩, 8) := ⟨⟨by decide +kernel, by decide +kernel⟩, List.mem_of_getElem? (i := 11) (by decide +kernel), List.mem_of_getElem? (i := 577) (by decide +kernel), List.mem_of_getElem? (i := 578) (by decide +kernel)⟩
theorem lw_p23 : lw_okq (⟨"DoorsOneSide", "goalsByRow", "(I)I"⟩, 8) := ⟨⟨by decide +kernel, by decide +kernel⟩, List.mem_of_getElem? (i := 11) (by decide +kernel), List.mem_of_getElem? (i := 581) (by decide +kernel), List.mem_of_getElem? (i := 582) (by decide +kernel)⟩
theorem lw_p24 : lw_okq (⟨"DoorsOneSide", "placeByLot", "(I)I"⟩, 8) := ⟨⟨by decide +kernel, by decide +kernel⟩, List.mem_of_getElem? (i := 11) (by decide +kernel), List.mem_of_getElem? (i := 601) (by decide +kernel), List.mem_of_getElem? (i := 602) (by decide +kernel)⟩
theorem lw_p25 : lw_okq (⟨"DoorsOneSideModel", "no", "(I)I"⟩, 14) := ⟨⟨by decide +kernel, by decide +kernel⟩, List.mem_of_getElem? (i := 627) (by decide +kernel), List.mem_of_getElem? (i := 680) (by decide +kernel), List.mem_of_getElem? (i := 681) (by decide +kernel)⟩
theorem lw_p26 : lw_okq (⟨"DoorsOneSideModel", "readsStatement", "()Z"⟩, 14) := ⟨⟨by decide +kernel, by decide +kernel⟩, List.mem_of_getElem? (i := 627) (by decide +kernel), List.mem_of_getElem? (i := 688) (by decide +kernel), List.mem_of_getElem? (i := 689) (by decide +kernel)⟩
theorem lw_p27 : lw_okq (⟨"DoorsOneSideModel", "here", "()I"⟩, 14) := ⟨⟨by decide +kernel, by decide +kernel⟩, List.mem_of_getElem? (i := 627) (by decide +kernel), List.mem_of_getElem? (i := 692) (by decide +kernel), List.mem_of_getElem? (i := 693) (by decide +kernel)⟩
theorem lw_p28 : lw_okq (⟨"DoorsOneSideModel", "readsKind", "()Z"⟩, 14) := ⟨⟨by decide +kernel, by decide +kernel⟩, List.mem_of_getElem? (i := 627) (by decide +kernel), List.mem_of_getElem? (i := 696) (by decide +kernel), List.mem_of_getElem? (i := 697) (by decide +kernel)⟩
theorem lw_p29 : lw_okq (⟨"DoorsOneSideModel", "readsNumber", "(II)Z"⟩, 14) := ⟨⟨by decide +kernel, by decide +kernel⟩, List.mem_of_getElem? (i := 627) (by decide +kernel), List.mem_of_getElem? (i := 703) (by decide +kernel), List.mem_of_getElem? (i := 704) (by decide +kernel)⟩
theorem lw_p30 : lw_okq (⟨"DoorsOneSideModel", "isDone", "(I)Z"⟩, 14) := ⟨⟨by decide +kernel, by decide +kernel⟩, List.mem_of_getElem? (i := 627) (by decide +kernel), List.mem_of_getElem? (i := 713) (by decide +kernel), List.mem_of_getElem? (i := 714) (by decide +kernel)⟩
theorem lw_p31 : lw_okq (⟨"DoorsOneSideModel", "addsDoor", "()Z"⟩, 14) := ⟨⟨by decide +kernel, by decide +kernel⟩, List.mem_of_getElem? (i := 627) (by decide +kernel), List.mem_of_getElem? (i := 717) (by decide +kernel), List.mem_of_getElem? (i := 718) (by decide +kernel)⟩
def lw_privs_2 : List (MethodName × Nat) := [(⟨"DoorsOneSide", "waysOfAllTo", "(I)I"⟩, 8), (⟨"DoorsOneSide", "tryPair", "(IIII)V"⟩, 8), (⟨"DoorsOneSide", "gainOf", "(I)I"⟩, 8), (⟨"DoorsOneSide", "refusedLong", "(I)J"⟩, 8), (⟨"DoorsOneSide", "isInBehindFires", "(IIII)Z"⟩, 8), (⟨"DoorsOneSide", "kindsByRow", "(II)I"⟩, 8), (⟨"DoorsOneSide", "isMindAsRow", "(I)Z"⟩, 8), (⟨"DoorsOneSide", "goalsByRow", "(I)I"⟩, 8), (⟨"DoorsOneSide", "placeByLot", "(I)I"⟩, 8), (⟨"DoorsOneSideModel", "no", "(I)I"⟩, 14), (⟨"DoorsOneSideModel", "readsStatement", "()Z"⟩, 14), (⟨"DoorsOneSideModel", "here", "()I"⟩, 14), (⟨"DoorsOneSideModel", "readsKind", "()Z"⟩, 14), (⟨"DoorsOneSideModel", "readsNumber", "(II)Z"⟩, 14), (⟨"DoorsOneSideModel", "isDone", "(I)Z"⟩, 14), (⟨"DoorsOneSideModel", "addsDoor", "()Z"⟩, 14)]
theorem lw_r2 : ∀ q ∈ lw_privs_2, lw_okq q := List.forall_mem_cons.mpr ⟨lw_p16, List.forall_mem_cons.mpr ⟨lw_p17, List.forall_mem_cons.mpr ⟨lw_p18, List.forall_mem_cons.mpr ⟨lw_p19, List.forall_mem_cons.mpr ⟨lw_p20, List.forall_mem_cons.mpr ⟨lw_p21, List.forall_mem_cons.mpr ⟨lw_p22, List.forall_mem_cons.mpr ⟨lw_p23, List.forall_mem_cons.mpr ⟨lw_p24, List.forall_mem_cons.mpr ⟨lw_p25, List.forall_mem_cons.mpr ⟨lw_p26, List.forall_mem_cons.mpr ⟨lw_p27, List.forall_mem_cons.mpr ⟨lw_p28, List.forall_mem_cons.mpr ⟨lw_p29, List.forall_mem_cons.mpr ⟨lw_p30, List.forall_mem_cons.mpr ⟨lw_p31, fun _ h => absurd h List.not_mem_nil⟩⟩⟩⟩⟩⟩⟩⟩⟩⟩⟩⟩⟩⟩⟩⟩
theorem lw_p32 : lw_okq (⟨"DoorsOneSideModel", "isPerson", "(I)Z"⟩, 14) := ⟨⟨by decide +kernel, by decide +kernel⟩, List.mem_of_getElem? (i := 627) (by decide +kernel), List.mem_of_getElem? (i := 733) (by decide +kernel), List.mem_of_getElem? (i := 734) (by decide +kernel)⟩
theorem lw_p33 : lw_okq (⟨"DoorsOneSideModel", "isDoor", "(I)Z"⟩, 14) := ⟨⟨by decide +kernel, by decide +kernel⟩, List.mem_of_getElem? (i := 627) (by decide +kernel), List.mem_of_getElem? (i := 737) (by decide +kernel), List.mem_of_getElem? (i := 738) (by decide +kernel)⟩
theorem lw_p34 : lw_okq (⟨"DoorsOneSideModel", "hoursOn", "([II)V"⟩, 14) := ⟨⟨by decide +kernel, by decide +kernel⟩, List.mem_of_getElem? (i := 627) (by decide +kernel), List.mem_of_getElem? (i := 744) (by decide +kernel), List.mem_of_getElem? (i := 745) (by decide +kernel)⟩
theorem lw_p35 : lw_okq (⟨"DoorsOneSideModel", "measures", "([I)V"⟩, 14) := ⟨⟨by decide +kernel, by decide +kernel⟩, List.mem_of_getElem? (i := 627) (by decide +kernel), List.mem_of_getElem? (i := 748) (by decide +kernel), List.mem_of_getElem? (i := 749) (by decide +kernel)⟩
theorem lw_p36 : lw_okq (⟨"DoorsOneSideModel", "hour", "([I)V"⟩, 14) := ⟨⟨by decide +kernel, by decide +kernel⟩, List.mem_of_getElem? (i := 627) (by decide +kernel), List.mem_of_getElem? (i := 755) (by decide +kernel), List.mem_of_getElem? (i := 756) (by decide +kernel)⟩
theorem lw_p37 : lw_okq (⟨"DoorsOneSideModel", "doorOf", "([III)I"⟩, 14) := ⟨⟨by decide +kernel, by decide +kernel⟩, List.mem_of_getElem? (i := 627) (by decide +kernel), List.mem_of_getElem? (i := 762) (by decide +kernel), List.mem_of_getElem? (i := 763) (by decide +kernel)⟩
theorem lw_p38 : lw_okq (⟨"DoorsOneSideModel", "isOnWay", "([IIII)Z"⟩, 14) := ⟨⟨by decide +kernel, by decide +kernel⟩, List.mem_of_getElem? (i := 627) (by decide +kernel), List.mem_of_getElem? (i := 766) (by decide +kernel), List.mem_of_getElem? (i := 767) (by decide +kernel)⟩
theorem lw_p39 : lw_okq (⟨"DoorsOneSideModel", "wayOf", "(II)I"⟩, 14) := ⟨⟨by decide +kernel, by decide +kernel⟩, List.mem_of_getElem? (i := 627) (by decide +kernel), List.mem_of_getElem? (i := 770) (by decide +kernel), List.mem_of_getElem? (i := 771) (by decide +kernel)⟩
theorem lw_p40 : lw_okq (⟨"DoorsOneSideModel", "sets", "(III)I"⟩, 14) := ⟨⟨by decide +kernel, by decide +kernel⟩, List.mem_of_getElem? (i := 627) (by decide +kernel), List.mem_of_getElem? (i := 803) (by decide +kernel), List.mem_of_getElem? (i := 804) (by decide +kernel)⟩
theorem lw_p41 : lw_okq (⟨"DoorsOneSideModel", "areWrong", "(II)Z"⟩, 14) := ⟨⟨by decide +kernel, by decide +kernel⟩, List.mem_of_getElem? (i := 627) (by decide +kernel), List.mem_of_getElem? (i := 807) (by decide +kernel), List.mem_of_getElem? (i := 808) (by decide +kernel)⟩
theorem lw_p42 : lw_okq (⟨"DoorsOneSideModel", "takes", "(I)V"⟩, 14) := ⟨⟨by decide +kernel, by decide +kernel⟩, List.mem_of_getElem? (i := 627) (by decide +kernel), List.mem_of_getElem? (i := 840) (by decide +kernel), List.mem_of_getElem? (i := 841) (by decide +kernel)⟩
theorem lw_p43 : lw_okq (⟨"DoorsOneSideModel", "comesTo", "(II)I"⟩, 14) := ⟨⟨by decide +kernel, by decide +kernel⟩, List.mem_of_getElem? (i := 627) (by decide +kernel), List.mem_of_getElem? (i := 852) (by decide +kernel), List.mem_of_getElem? (i := 853) (by decide +kernel)⟩
theorem lw_p44 : lw_okq (⟨"DoorsOneSideModel", "allHome", "()I"⟩, 14) := ⟨⟨by decide +kernel, by decide +kernel⟩, List.mem_of_getElem? (i := 627) (by decide +kernel), List.mem_of_getElem? (i := 860) (by decide +kernel), List.mem_of_getElem? (i := 861) (by decide +kernel)⟩
theorem lw_p45 : lw_okq (⟨"DoorsOneSideModel", "isStill", "(I)Z"⟩, 14) := ⟨⟨by decide +kernel, by decide +kernel⟩, List.mem_of_getElem? (i := 627) (by decide +kernel), List.mem_of_getElem? (i := 872) (by decide +kernel), List.mem_of_getElem? (i := 873) (by decide +kernel)⟩
theorem lw_p46 : lw_okq (⟨"DoorsOneSideModel", "bestDoor", "(IZ)I"⟩, 14) := ⟨⟨by decide +kernel, by decide +kernel⟩, List.mem_of_getElem? (i := 627) (by decide +kernel), List.mem_of_getElem? (i := 907) (by decide +kernel), List.mem_of_getElem? (i := 908) (by decide +kernel)⟩
theorem lw_p47 : lw_okq (⟨"DoorsOneSideModel", "manyIn", "(I)I"⟩, 14) := ⟨⟨by decide +kernel, by decide +kernel⟩, List.mem_of_getElem? (i := 627) (by decide +kernel), List.mem_of_getElem? (i := 924) (by decide +kernel), List.mem_of_getElem? (i := 925) (by decide +kernel)⟩
def lw_privs_3 : List (MethodName × Nat) := [(⟨"DoorsOneSideModel", "isPerson", "(I)Z"⟩, 14), (⟨"DoorsOneSideModel", "isDoor", "(I)Z"⟩, 14), (⟨"DoorsOneSideModel", "hoursOn", "([II)V"⟩, 14), (⟨"DoorsOneSideModel", "measures", "([I)V"⟩, 14), (⟨"DoorsOneSideModel", "hour", "([I)V"⟩, 14), (⟨"DoorsOneSideModel", "doorOf", "([III)I"⟩, 14), (⟨"DoorsOneSideModel", "isOnWay", "([IIII)Z"⟩, 14), (⟨"DoorsOneSideModel", "wayOf", "(II)I"⟩, 14), (⟨"DoorsOneSideModel", "sets", "(III)I"⟩, 14), (⟨"DoorsOneSideModel", "areWrong", "(II)Z"⟩, 14), (⟨"DoorsOneSideModel", "takes", "(I)V"⟩, 14), (⟨"DoorsOneSideModel", "comesTo", "(II)I"⟩, 14), (⟨"DoorsOneSideModel", "allHome", "()I"⟩, 14), (⟨"DoorsOneSideModel", "isStill", "(I)Z"⟩, 14), (⟨"DoorsOneSideModel", "bestDoor", "(IZ)I"⟩, 14), (⟨"DoorsOneSideModel", "manyIn", "(I)I"⟩, 14)]
theorem lw_r3 : ∀ q ∈ lw_privs_3, lw_okq q := List.forall_mem_cons.mpr ⟨lw_p32, List.forall_mem_cons.mpr ⟨lw_p33, List.forall_mem_cons.mpr ⟨lw_p34, List.forall_mem_cons.mpr ⟨lw_p35, List.forall_mem_cons.mpr ⟨lw_p36, List.forall_mem_cons.mpr ⟨lw_p37, List.forall_mem_cons.mpr ⟨lw_p38, List.forall_mem_cons.mpr ⟨lw_p39, List.forall_mem_cons.mpr ⟨lw_p40, List.forall_mem_cons.mpr ⟨lw_p41, List.forall_mem_cons.mpr ⟨lw_p42, List.forall_mem_cons.mpr ⟨lw_p43, List.forall_mem_cons.mpr ⟨lw_p44, List.forall_mem_cons.mpr ⟨lw_p45, List.forall_mem_cons.mpr ⟨lw_p46, List.forall_mem_cons.mpr ⟨lw_p47, fun _ h => absurd h List.not_mem_nil⟩⟩⟩⟩⟩⟩⟩⟩⟩⟩⟩⟩⟩⟩⟩⟩
theorem lw_p48 : lw_okq (⟨"DoorsOneSideModel", "doorsBy", "(II)I"⟩, 14) := ⟨⟨by decide +kernel, by decide +kernel⟩, List.mem_of_getElem? (i := 627) (by decide +kernel), List.mem_of_getElem? (i := 928) (by decide +kernel), List.mem_of_getElem? (i := 929) (by decide +kernel)⟩
theorem lw_p49 : lw_okq (⟨"DoorsOneSideModel", "hasBy", "(IIIIII)I"⟩, 14) := ⟨⟨by decide +kernel, by decide +kernel⟩, List.mem_of_getElem? (i := 627) (by decide +kernel), List.mem_of_getElem? (i := 944) (by decide +kernel), List.mem_of_getElem? (i := 945) (by decide +kernel)⟩
theorem lw_p50 : lw_okq (⟨"DoorsOneSideModel", "noWide", "(I)J"⟩, 14) := ⟨⟨by decide +kernel, by decide +kernel⟩, List.mem_of_getElem? (i := 627) (by decide +kernel), List.mem_of_getElem? (i := 952) (by decide +kernel), List.mem_of_getElem? (i := 953) (by decide +kernel)⟩
theorem lw_p51 : lw_okq (⟨"DoorsOneSideModel", "hourBy", "(Z)V"⟩, 14) := ⟨⟨by decide +kernel, by decide +kernel⟩, List.mem_of_getElem? (i := 627) (by decide +kernel), List.mem_of_getElem? (i := 957) (by decide +kernel), List.mem_of_getElem? (i := 958) (by decide +kernel)⟩
theorem lw_p52 : lw_okq (⟨"DoorsOneSideModel", "allMoods", "()I"⟩, 14) := ⟨⟨by decide +kernel, by decide +kernel⟩, List.mem_of_getElem? (i := 627) (by decide +kernel), List.mem_of_getElem? (i := 971) (by decide +kernel), List.mem_of_getElem? (i := 972) (by decide +kernel)⟩
theorem lw_p53 : lw_okq (⟨"DoorsOneSideModel", "drawn", "(I)I"⟩, 14) := ⟨⟨by decide +kernel, by decide +kernel⟩, List.mem_of_getElem? (i := 627) (by decide +kernel), List.mem_of_getElem? (i := 995) (by decide +kernel), List.mem_of_getElem? (i := 996) (by decide +kernel)⟩
def lw_privs_4 : List (MethodName × Nat) := [(⟨"DoorsOneSideModel", "doorsBy", "(II)I"⟩, 14), (⟨"DoorsOneSideModel", "hasBy", "(IIIIII)I"⟩, 14), (⟨"DoorsOneSideModel", "noWide", "(I)J"⟩, 14), (⟨"DoorsOneSideModel", "hourBy", "(Z)V"⟩, 14), (⟨"DoorsOneSideModel", "allMoods", "()I"⟩, 14), (⟨"DoorsOneSideModel", "drawn", "(I)I"⟩, 14)]
theorem lw_r4 : ∀ q ∈ lw_privs_4, lw_okq q := List.forall_mem_cons.mpr ⟨lw_p48, List.forall_mem_cons.mpr ⟨lw_p49, List.forall_mem_cons.mpr ⟨lw_p50, List.forall_mem_cons.mpr ⟨lw_p51, List.forall_mem_cons.mpr ⟨lw_p52, List.forall_mem_cons.mpr ⟨lw_p53, fun _ h => absurd h List.not_mem_nil⟩⟩⟩⟩⟩⟩
def lw_privs : List (MethodName × Nat) := lw_privs_1 ++ (lw_privs_2 ++ (lw_privs_3 ++ (lw_privs_4)))
def lw_tbl : List Cond := k2_sels lw_privs ++ tables_1
theorem lw_privs_ok : ∀ q ∈ lw_privs, lw_okq q := by
  show ∀ q ∈ lw_privs_1 ++ (lw_privs_2 ++ (lw_privs_3 ++ (lw_privs_4))), lw_okq q
  exact List.forall_mem_append.mpr ⟨lw_r1, List.forall_mem_append.mpr ⟨lw_r2, List.forall_mem_append.mpr ⟨lw_r3, lw_r4⟩⟩⟩
def RX0 : String := "DoorsOneSide$Doors"
def TX0 : u_T := fun k => match k with
  | 0 => ("DoorsOneSide$Doors", "kinds", "[I", true)
  | 1 => ("DoorsOneSide$Doors", "figures", "[I", true)
  | 2 => ("DoorsOneSide$Doors", "froms", "[I", true)
  | 3 => ("DoorsOneSide$Doors", "intos", "[I", true)
  | 4 => ("DoorsOneSide$Doors", "wedged", "[I", true)
  | 5 => ("DoorsOneSide$Doors", "ways", "[I", true)
  | 6 => ("DoorsOneSide$Doors", "firsts", "[I", true)
  | _ => ("DoorsOneSide$Doors", "size", "I", false)
def tyX0 : Nat → FieldType := fun k => match k with
  | 0 => .array .int
  | 1 => .array .int
  | 2 => .array .int
  | 3 => .array .int
  | 4 => .array .int
  | 5 => .array .int
  | 6 => .array .int
  | _ => .int
abbrev wsX00 : List Cond := u_ws RX0 TX0 8
theorem nmX0 : ∀ a, a < 8 → ∀ b, b < 8 → a ≠ b → (TX0 a).2.1 ≠ (TX0 b).2.1 := by decide +kernel
theorem tyX0_ok : ∀ k, k < 8 → parseFieldDescriptor (TX0 k).2.2.1 = some (tyX0 k) := by decide +kernel
abbrev cX0_init : ByteArray := prog_2_method_1_code
def yX0_init : MethodName := ⟨RX0, "<init>", "()V"⟩
abbrev cX0_become : ByteArray := prog_2_method_2_code
def yX0_become : MethodName := ⟨RX0, "become", "(LDoorsOneSide$Doors;)V"⟩
abbrev cX0_has : ByteArray := prog_2_method_3_code
def yX0_has : MethodName := ⟨RX0, "has", "(I)Z"⟩
abbrev cX0_addDoor : ByteArray := prog_2_method_4_code
def yX0_addDoor : MethodName := ⟨RX0, "addDoor", "(IIII)Z"⟩
abbrev cX0_wedgeOrNot : ByteArray := prog_2_method_5_code
def yX0_wedgeOrNot : MethodName := ⟨RX0, "wedgeOrNot", "(I)I"⟩
abbrev cX0_changeSides : ByteArray := prog_2_method_6_code
def yX0_changeSides : MethodName := ⟨RX0, "changeSides", "(I)I"⟩
abbrev cX0_wayBetween : ByteArray := prog_2_method_7_code
def yX0_wayBetween : MethodName := ⟨RX0, "wayBetween", "(II)I"⟩
abbrev cX0_firstDoors : ByteArray := prog_2_method_8_code
def yX0_firstDoors : MethodName := ⟨RX0, "firstDoors", "(II)I"⟩
abbrev cX0_measureWays : ByteArray := prog_2_method_9_code
def yX0_measureWays : MethodName := ⟨RX0, "measureWays", "()V"⟩
abbrev cX0_shortenWaysBy : ByteArray := prog_2_method_10_code
def yX0_shortenWaysBy : MethodName := ⟨RX0, "shortenWaysBy", "(II)Z"⟩
abbrev cX0_findFirsts : ByteArray := prog_2_method_11_code
def yX0_findFirsts : MethodName := ⟨RX0, "findFirsts", "()V"⟩
abbrev cX0_opensBy : ByteArray := prog_2_method_12_code
def yX0_opensBy : MethodName := ⟨RX0, "opensBy", "(IIII)Z"⟩
def RX1 : String := "DoorsOneSide$Letters"
def TX1 : u_T := fun k => match k with
  | _ => ("DoorsOneSide$Letters", "signs", "LDoorsOneSide$Row;", true)
def tyX1 : Nat → FieldType := fun k => match k with
  | _ => .object "DoorsOneSide$Row"
abbrev wsX10 : List Cond := u_ws RX1 TX1 1
theorem nmX1 : ∀ a, a < 1 → ∀ b, b < 1 → a ≠ b → (TX1 a).2.1 ≠ (TX1 b).2.1 := by decide +kernel
theorem tyX1_ok : ∀ k, k < 1 → parseFieldDescriptor (TX1 k).2.2.1 = some (tyX1 k) := by decide +kernel
abbrev cX1_init : ByteArray := prog_3_method_1_code
def yX1_init : MethodName := ⟨RX1, "<init>", "()V"⟩
abbrev cX1_lengthAt : ByteArray := prog_3_method_2_code
def yX1_lengthAt : MethodName := ⟨RX1, "lengthAt", "(I)I"⟩
abbrev cX1_shapeFault : ByteArray := prog_3_method_3_code
def yX1_shapeFault : MethodName := ⟨RX1, "shapeFault", "()I"⟩
abbrev cX1_fitsShape : ByteArray := prog_3_method_4_code
def yX1_fitsShape : MethodName := ⟨RX1, "fitsShape", "(II)Z"⟩
abbrev cX1_kindOf : ByteArray := prog_3_method_5_code
def yX1_kindOf : MethodName := ⟨RX1, "kindOf", "(I)I"⟩
abbrev cX1_digitAt : ByteArray := prog_3_method_6_code
def yX1_digitAt : MethodName := ⟨RX1, "digitAt", "(I)I"⟩
abbrev cX1_tell : ByteArray := prog_3_method_7_code
def yX1_tell : MethodName := ⟨RX1, "tell", "(ILDoorsOneSide$Town;)Z"⟩
abbrev cX1_tellPerson : ByteArray := prog_3_method_8_code
def yX1_tellPerson : MethodName := ⟨RX1, "tellPerson", "(LDoorsOneSide$Town;III)Z"⟩
abbrev cX1_tellRoom : ByteArray := prog_3_method_9_code
def yX1_tellRoom : MethodName := ⟨RX1, "tellRoom", "(LDoorsOneSide$Town;[III)Z"⟩
abbrev cX1_tellDoor : ByteArray := prog_3_method_10_code
def yX1_tellDoor : MethodName := ⟨RX1, "tellDoor", "(LDoorsOneSide$Town;IZ)Z"⟩
def RX2 : String := "DoorsOneSide$Row"
def TX2 : u_T := fun k => match k with
  | 0 => ("DoorsOneSide$Row", "numbers", "[I", true)
  | _ => ("DoorsOneSide$Row", "size", "I", false)
def tyX2 : Nat → FieldType := fun k => match k with
  | 0 => .array .int
  | _ => .int
abbrev wsX20 : List Cond := u_ws RX2 TX2 2
theorem nmX2 : ∀ a, a < 2 → ∀ b, b < 2 → a ≠ b → (TX2 a).2.1 ≠ (TX2 b).2.1 := by decide +kernel
theorem tyX2_ok : ∀ k, k < 2 → parseFieldDescriptor (TX2 k).2.2.1 = some (tyX2 k) := by decide +kernel
abbrev cX2_init : ByteArray := prog_4_method_1_code
def yX2_init : MethodName := ⟨RX2, "<init>", "(I)V"⟩
abbrev cX2_isFull : ByteArray := prog_4_method_2_code
def yX2_isFull : MethodName := ⟨RX2, "isFull", "()Z"⟩
abbrev cX2_add : ByteArray := prog_4_method_3_code
def yX2_add : MethodName := ⟨RX2, "add", "(I)I"⟩
abbrev cX2_empty : ByteArray := prog_4_method_4_code
def yX2_empty : MethodName := ⟨RX2, "empty", "()I"⟩
def RX3 : String := "DoorsOneSide$Town"
def TX3 : u_T := fun k => match k with
  | 0 => ("DoorsOneSide$Town", "doors", "LDoorsOneSide$Doors;", true)
  | 1 => ("DoorsOneSide$Town", "rooms", "[I", true)
  | 2 => ("DoorsOneSide$Town", "goals", "[I", true)
  | 3 => ("DoorsOneSide$Town", "moods", "[I", true)
  | 4 => ("DoorsOneSide$Town", "size", "I", false)
  | 5 => ("DoorsOneSide$Town", "hour", "I", false)
  | _ => ("DoorsOneSide$Town", "let", "I", false)
def tyX3 : Nat → FieldType := fun k => match k with
  | 0 => .object "DoorsOneSide$Doors"
  | 1 => .array .int
  | 2 => .array .int
  | 3 => .array .int
  | 4 => .int
  | 5 => .int
  | _ => .int
abbrev wsX30 : List Cond := u_ws RX3 TX3 7
theorem nmX3 : ∀ a, a < 7 → ∀ b, b < 7 → a ≠ b → (TX3 a).2.1 ≠ (TX3 b).2.1 := by decide +kernel
theorem tyX3_ok : ∀ k, k < 7 → parseFieldDescriptor (TX3 k).2.2.1 = some (tyX3 k) := by decide +kernel
abbrev cX3_init : ByteArray := prog_5_method_1_code
def yX3_init : MethodName := ⟨RX3, "<init>", "()V"⟩
abbrev cX3_become : ByteArray := prog_5_method_2_code
def yX3_become : MethodName := ⟨RX3, "become", "(LDoorsOneSide$Town;)V"⟩
abbrev cX3_has : ByteArray := prog_5_method_3_code
def yX3_has : MethodName := ⟨RX3, "has", "(I)Z"⟩
abbrev cX3_isHome : ByteArray := prog_5_method_4_code
def yX3_isHome : MethodName := ⟨RX3, "isHome", "(I)Z"⟩
abbrev cX3_addPerson : ByteArray := prog_5_method_5_code
def yX3_addPerson : MethodName := ⟨RX3, "addPerson", "(III)V"⟩
abbrev cX3_removePerson : ByteArray := prog_5_method_6_code
def yX3_removePerson : MethodName := ⟨RX3, "removePerson", "(I)V"⟩
abbrev cX3_stay : ByteArray := prog_5_method_7_code
def yX3_stay : MethodName := ⟨RX3, "stay", "(I)V"⟩
abbrev cX3_goHours : ByteArray := prog_5_method_8_code
def yX3_goHours : MethodName := ⟨RX3, "goHours", "(IZ)I"⟩
abbrev cX3_doorFor : ByteArray := prog_5_method_9_code
def yX3_doorFor : MethodName := ⟨RX3, "doorFor", "(IIZ)I"⟩
abbrev cX3_opens : ByteArray := prog_5_method_10_code
def yX3_opens : MethodName := ⟨RX3, "opens", "(II)Z"⟩
abbrev cX3_countIn : ByteArray := prog_5_method_11_code
def yX3_countIn : MethodName := ⟨RX3, "countIn", "(I)I"⟩
abbrev cX3_homeBits : ByteArray := prog_5_method_12_code
def yX3_homeBits : MethodName := ⟨RX3, "homeBits", "()I"⟩
abbrev cX3_homeCount : ByteArray := prog_5_method_13_code
def yX3_homeCount : MethodName := ⟨RX3, "homeCount", "()I"⟩
abbrev cX3_moodsTogether : ByteArray := prog_5_method_14_code
def yX3_moodsTogether : MethodName := ⟨RX3, "moodsTogether", "()I"⟩
def RX4 : String := "DoorsOneSide"
def TX4 : u_T := fun k => match k with
  | 0 => ("DoorsOneSide", "now", "LDoorsOneSide$Town;", true)
  | 1 => ("DoorsOneSide", "mind", "LDoorsOneSide$Town;", true)
  | 2 => ("DoorsOneSide", "taken", "LDoorsOneSide$Town;", true)
  | 3 => ("DoorsOneSide", "imageTaken", "Z", false)
  | 4 => ("DoorsOneSide", "letters", "LDoorsOneSide$Letters;", true)
  | 5 => ("DoorsOneSide", "told", "LDoorsOneSide$Row;", true)
  | 6 => ("DoorsOneSide", "refusals", "[I", true)
  | _ => ("DoorsOneSide", "gains", "[I", true)
def tyX4 : Nat → FieldType := fun k => match k with
  | 0 => .object "DoorsOneSide$Town"
  | 1 => .object "DoorsOneSide$Town"
  | 2 => .object "DoorsOneSide$Town"
  | 3 => .boolean
  | 4 => .object "DoorsOneSide$Letters"
  | 5 => .object "DoorsOneSide$Row"
  | 6 => .array .int
  | _ => .array .int
abbrev wsX40 : List Cond := u_ws RX4 TX4 8
theorem nmX4 : ∀ a, a < 8 → ∀ b, b < 8 → a ≠ b → (TX4 a).2.1 ≠ (TX4 b).2.1 := by decide +kernel
theorem tyX4_ok : ∀ k, k < 8 → parseFieldDescriptor (TX4 k).2.2.1 = some (tyX4 k) := by decide +kernel
abbrev cX4_init : ByteArray := prog_1_method_1_code
def yX4_init : MethodName := ⟨RX4, "<init>", "()V"⟩
abbrev cX4_letter : ByteArray := prog_1_method_2_code
def yX4_letter : MethodName := ⟨RX4, "letter", "(I)I"⟩
abbrev cX4_town : ByteArray := prog_1_method_3_code
def yX4_town : MethodName := ⟨RX4, "town", "()I"⟩
abbrev cX4_tellStatements : ByteArray := prog_1_method_4_code
def yX4_tellStatements : MethodName := ⟨RX4, "tellStatements", "()I"⟩
abbrev cX4_door : ByteArray := prog_1_method_5_code
def yX4_door : MethodName := ⟨RX4, "door", "(II)I"⟩
abbrev cX4_person : ByteArray := prog_1_method_6_code
def yX4_person : MethodName := ⟨RX4, "person", "(II)I"⟩
abbrev cX4_wedges : ByteArray := prog_1_method_7_code
def yX4_wedges : MethodName := ⟨RX4, "wedges", "(I)I"⟩
abbrev cX4_turns : ByteArray := prog_1_method_8_code
def yX4_turns : MethodName := ⟨RX4, "turns", "(I)I"⟩
abbrev cX4_stands : ByteArray := prog_1_method_9_code
def yX4_stands : MethodName := ⟨RX4, "stands", "(II)I"⟩
abbrev cX4_wants : ByteArray := prog_1_method_10_code
def yX4_wants : MethodName := ⟨RX4, "wants", "(II)I"⟩
abbrev cX4_moods : ByteArray := prog_1_method_11_code
def yX4_moods : MethodName := ⟨RX4, "moods", "(II)I"⟩
abbrev cX4_changes : ByteArray := prog_1_method_12_code
def yX4_changes : MethodName := ⟨RX4, "changes", "(III)I"⟩
abbrev cX4_hours : ByteArray := prog_1_method_13_code
def yX4_hours : MethodName := ⟨RX4, "hours", "(I)I"⟩
abbrev cX4_personThen : ByteArray := prog_1_method_14_code
def yX4_personThen : MethodName := ⟨RX4, "personThen", "(III)I"⟩
abbrev cX4_letThen : ByteArray := prog_1_method_15_code
def yX4_letThen : MethodName := ⟨RX4, "letThen", "(I)I"⟩
abbrev cX4_comes : ByteArray := prog_1_method_16_code
def yX4_comes : MethodName := ⟨RX4, "comes", "(II)I"⟩
abbrev cX4_home : ByteArray := prog_1_method_17_code
def yX4_home : MethodName := ⟨RX4, "home", "(I)I"⟩
abbrev cX4_firstHourIn : ByteArray := prog_1_method_18_code
def yX4_firstHourIn : MethodName := ⟨RX4, "firstHourIn", "(II)I"⟩
abbrev cX4_firstHourAllHome : ByteArray := prog_1_method_19_code
def yX4_firstHourAllHome : MethodName := ⟨RX4, "firstHourAllHome", "()I"⟩
abbrev cX4_shutIn : ByteArray := prog_1_method_20_code
def yX4_shutIn : MethodName := ⟨RX4, "shutIn", "()I"⟩
abbrev cX4_stuck : ByteArray := prog_1_method_21_code
def yX4_stuck : MethodName := ⟨RX4, "stuck", "()I"⟩
abbrev cX4_way : ByteArray := prog_1_method_22_code
def yX4_way : MethodName := ⟨RX4, "way", "(III)I"⟩
abbrev cX4_round : ByteArray := prog_1_method_23_code
def yX4_round : MethodName := ⟨RX4, "round", "(I)I"⟩
abbrev cX4_reach : ByteArray := prog_1_method_24_code
def yX4_reach : MethodName := ⟨RX4, "reach", "(I)I"⟩
abbrev cX4_open : ByteArray := prog_1_method_25_code
def yX4_open : MethodName := ⟨RX4, "open", "()I"⟩
abbrev cX4_helper : ByteArray := prog_1_method_26_code
def yX4_helper : MethodName := ⟨RX4, "helper", "(II)I"⟩
abbrev cX4_homeWithHelper : ByteArray := prog_1_method_27_code
def yX4_homeWithHelper : MethodName := ⟨RX4, "homeWithHelper", "(II)I"⟩
abbrev cX4_fewest : ByteArray := prog_1_method_28_code
def yX4_fewest : MethodName := ⟨RX4, "fewest", "(II)I"⟩
abbrev cX4_isHomeWhileStay : ByteArray := prog_1_method_29_code
def yX4_isHomeWhileStay : MethodName := ⟨RX4, "isHomeWhileStay", "(III)Z"⟩
abbrev cX4_turn : ByteArray := prog_1_method_30_code
def yX4_turn : MethodName := ⟨RX4, "turn", "(I)I"⟩
abbrev cX4_wedge : ByteArray := prog_1_method_31_code
def yX4_wedge : MethodName := ⟨RX4, "wedge", "(I)I"⟩
abbrev cX4_doorToChange : ByteArray := prog_1_method_32_code
def yX4_doorToChange : MethodName := ⟨RX4, "doorToChange", "(IZ)I"⟩
abbrev cX4_holds : ByteArray := prog_1_method_33_code
def yX4_holds : MethodName := ⟨RX4, "holds", "(II)I"⟩
abbrev cX4_crowd : ByteArray := prog_1_method_34_code
def yX4_crowd : MethodName := ⟨RX4, "crowd", "(I)I"⟩
abbrev cX4_crowdedRoom : ByteArray := prog_1_method_35_code
def yX4_crowdedRoom : MethodName := ⟨RX4, "crowdedRoom", "()I"⟩
abbrev cX4_emptyRooms : ByteArray := prog_1_method_36_code
def yX4_emptyRooms : MethodName := ⟨RX4, "emptyRooms", "()I"⟩
abbrev cX4_deadRooms : ByteArray := prog_1_method_37_code
def yX4_deadRooms : MethodName := ⟨RX4, "deadRooms", "()I"⟩
abbrev cX4_handles : ByteArray := prog_1_method_38_code
def yX4_handles : MethodName := ⟨RX4, "handles", "(I)I"⟩
abbrev cX4_meet : ByteArray := prog_1_method_39_code
def yX4_meet : MethodName := ⟨RX4, "meet", "(I)I"⟩
abbrev cX4_waysOfAllTo : ByteArray := prog_1_method_40_code
def yX4_waysOfAllTo : MethodName := ⟨RX4, "waysOfAllTo", "(I)I"⟩
abbrev cX4_two : ByteArray := prog_1_method_41_code
def yX4_two : MethodName := ⟨RX4, "two", "(III)I"⟩
abbrev cX4_tryPair : ByteArray := prog_1_method_42_code
def yX4_tryPair : MethodName := ⟨RX4, "tryPair", "(IIII)V"⟩
abbrev cX4_gainOf : ByteArray := prog_1_method_43_code
def yX4_gainOf : MethodName := ⟨RX4, "gainOf", "(I)I"⟩
abbrev cX4_fire : ByteArray := prog_1_method_44_code
def yX4_fire : MethodName := ⟨RX4, "fire", "(IIIII)J"⟩
abbrev cX4_isInBehindFires : ByteArray := prog_1_method_45_code
def yX4_isInBehindFires : MethodName := ⟨RX4, "isInBehindFires", "(IIII)Z"⟩
abbrev cX4_mean : ByteArray := prog_1_method_46_code
def yX4_mean : MethodName := ⟨RX4, "mean", "(I)J"⟩
abbrev cX4_whatIs : ByteArray := prog_1_method_47_code
def yX4_whatIs : MethodName := ⟨RX4, "whatIs", "(III)I"⟩
abbrev cX4_kindsByRow : ByteArray := prog_1_method_48_code
def yX4_kindsByRow : MethodName := ⟨RX4, "kindsByRow", "(II)I"⟩
abbrev cX4_goalsByRow : ByteArray := prog_1_method_49_code
def yX4_goalsByRow : MethodName := ⟨RX4, "goalsByRow", "(I)I"⟩
abbrev cX4_isMindAsRow : ByteArray := prog_1_method_50_code
def yX4_isMindAsRow : MethodName := ⟨RX4, "isMindAsRow", "(I)Z"⟩
abbrev cX4_row : ByteArray := prog_1_method_51_code
def yX4_row : MethodName := ⟨RX4, "row", "(I)I"⟩
abbrev cX4_judge : ByteArray := prog_1_method_52_code
def yX4_judge : MethodName := ⟨RX4, "judge", "()I"⟩
abbrev cX4_clear : ByteArray := prog_1_method_53_code
def yX4_clear : MethodName := ⟨RX4, "clear", "()I"⟩
abbrev cX4_lots : ByteArray := prog_1_method_54_code
def yX4_lots : MethodName := ⟨RX4, "lots", "(III)I"⟩
abbrev cX4_placeByLot : ByteArray := prog_1_method_55_code
def yX4_placeByLot : MethodName := ⟨RX4, "placeByLot", "(I)I"⟩
abbrev cX4_nextSeed : ByteArray := prog_1_method_56_code
def yX4_nextSeed : MethodName := ⟨RX4, "nextSeed", "(I)I"⟩
abbrev cX4_draw : ByteArray := prog_1_method_57_code
def yX4_draw : MethodName := ⟨RX4, "draw", "(I)I"⟩
abbrev cX4_image : ByteArray := prog_1_method_58_code
def yX4_image : MethodName := ⟨RX4, "image", "()I"⟩
abbrev cX4_on : ByteArray := prog_1_method_59_code
def yX4_on : MethodName := ⟨RX4, "on", "()I"⟩
abbrev cX4_count : ByteArray := prog_1_method_60_code
def yX4_count : MethodName := ⟨RX4, "count", "(I)I"⟩
abbrev cX4_refused : ByteArray := prog_1_method_61_code
def yX4_refused : MethodName := ⟨RX4, "refused", "(I)I"⟩
abbrev cX4_refusedNumber : ByteArray := prog_1_method_62_code
def yX4_refusedNumber : MethodName := ⟨RX4, "refusedNumber", "(I)I"⟩
abbrev cX4_refusedLong : ByteArray := prog_1_method_63_code
def yX4_refusedLong : MethodName := ⟨RX4, "refusedLong", "(I)J"⟩
abbrev cX4_at : ByteArray := prog_1_method_64_code
def yX4_at : MethodName := ⟨RX4, "at", "([II)I"⟩
abbrev cX4_put : ByteArray := prog_1_method_65_code
def yX4_put : MethodName := ⟨RX4, "put", "([III)V"⟩
abbrev cX4_exchange : ByteArray := prog_1_method_66_code
def yX4_exchange : MethodName := ⟨RX4, "exchange", "([III)I"⟩
abbrev cX4_bitsOf : ByteArray := prog_1_method_67_code
def yX4_bitsOf : MethodName := ⟨RX4, "bitsOf", "([III)I"⟩
abbrev cX4_copy : ByteArray := prog_1_method_68_code
def yX4_copy : MethodName := ⟨RX4, "copy", "([I[I)V"⟩
abbrev cX4_isRoom : ByteArray := prog_1_method_69_code
def yX4_isRoom : MethodName := ⟨RX4, "isRoom", "(I)Z"⟩
abbrev cX4_isHalf : ByteArray := prog_1_method_70_code
def yX4_isHalf : MethodName := ⟨RX4, "isHalf", "(I)Z"⟩
abbrev cX4_hasBit : ByteArray := prog_1_method_71_code
def yX4_hasBit : MethodName := ⟨RX4, "hasBit", "(II)Z"⟩
abbrev cX4_toldWay : ByteArray := prog_1_method_72_code
def yX4_toldWay : MethodName := ⟨RX4, "toldWay", "(I)I"⟩
abbrev cX4_power : ByteArray := prog_1_method_73_code
def yX4_power : MethodName := ⟨RX4, "power", "(II)J"⟩
abbrev cX4_partOf : ByteArray := prog_1_method_74_code
def yX4_partOf : MethodName := ⟨RX4, "partOf", "(JJI)J"⟩
abbrev cX4_commonDivisor : ByteArray := prog_1_method_75_code
def yX4_commonDivisor : MethodName := ⟨RX4, "commonDivisor", "(JJ)J"⟩
def RX5 : String := "DoorsOneSideModel"
def TX5 : u_T := fun k => match k with
  | 0 => ("DoorsOneSideModel", "s", "[I", true)
  | 1 => ("DoorsOneSideModel", "m", "[I", true)
  | 2 => ("DoorsOneSideModel", "image", "[I", true)
  | 3 => ("DoorsOneSideModel", "was", "[I", true)
  | 4 => ("DoorsOneSideModel", "far", "[I", true)
  | 5 => ("DoorsOneSideModel", "hasImage", "Z", false)
  | 6 => ("DoorsOneSideModel", "letters", "[I", true)
  | 7 => ("DoorsOneSideModel", "row", "[I", true)
  | 8 => ("DoorsOneSideModel", "refused", "[I", true)
  | 9 => ("DoorsOneSideModel", "letterMany", "I", false)
  | 10 => ("DoorsOneSideModel", "rowMany", "I", false)
  | 11 => ("DoorsOneSideModel", "place", "I", false)
  | 12 => ("DoorsOneSideModel", "numbers", "[I", true)
  | _ => ("DoorsOneSideModel", "seed", "I", false)
def tyX5 : Nat → FieldType := fun k => match k with
  | 0 => .array .int
  | 1 => .array .int
  | 2 => .array .int
  | 3 => .array .int
  | 4 => .array .int
  | 5 => .boolean
  | 6 => .array .int
  | 7 => .array .int
  | 8 => .array .int
  | 9 => .int
  | 10 => .int
  | 11 => .int
  | 12 => .array .int
  | _ => .int
abbrev wsX50 : List Cond := u_ws RX5 TX5 14
theorem nmX5 : ∀ a, a < 14 → ∀ b, b < 14 → a ≠ b → (TX5 a).2.1 ≠ (TX5 b).2.1 := by decide +kernel
theorem tyX5_ok : ∀ k, k < 14 → parseFieldDescriptor (TX5 k).2.2.1 = some (tyX5 k) := by decide +kernel
abbrev cX5_init : ByteArray := prog_7_method_1_code
def yX5_init : MethodName := ⟨RX5, "<init>", "()V"⟩
abbrev cX5_isIn : ByteArray := prog_7_method_2_code
def yX5_isIn : MethodName := ⟨RX5, "isIn", "(III)Z"⟩
abbrev cX5_least : ByteArray := prog_7_method_3_code
def yX5_least : MethodName := ⟨RX5, "least", "(II)I"⟩
abbrev cX5_copies : ByteArray := prog_7_method_4_code
def yX5_copies : MethodName := ⟨RX5, "copies", "([I[I)V"⟩
abbrev cX5_no : ByteArray := prog_7_method_5_code
def yX5_no : MethodName := ⟨RX5, "no", "(I)I"⟩
abbrev cX5_noWide : ByteArray := prog_7_method_6_code
def yX5_noWide : MethodName := ⟨RX5, "noWide", "(I)J"⟩
abbrev cX5_ofD : ByteArray := prog_7_method_7_code
def yX5_ofD : MethodName := ⟨RX5, "ofD", "(II)I"⟩
abbrev cX5_ofP : ByteArray := prog_7_method_8_code
def yX5_ofP : MethodName := ⟨RX5, "ofP", "(II)I"⟩
abbrev cX5_isDoor : ByteArray := prog_7_method_9_code
def yX5_isDoor : MethodName := ⟨RX5, "isDoor", "(I)Z"⟩
abbrev cX5_isPerson : ByteArray := prog_7_method_10_code
def yX5_isPerson : MethodName := ⟨RX5, "isPerson", "(I)Z"⟩
abbrev cX5_isRoom : ByteArray := prog_7_method_11_code
def yX5_isRoom : MethodName := ⟨RX5, "isRoom", "(I)Z"⟩
abbrev cX5_has : ByteArray := prog_7_method_12_code
def yX5_has : MethodName := ⟨RX5, "has", "(II)Z"⟩
abbrev cX5_bits : ByteArray := prog_7_method_13_code
def yX5_bits : MethodName := ⟨RX5, "bits", "(I)I"⟩
abbrev cX5_opensBy : ByteArray := prog_7_method_14_code
def yX5_opensBy : MethodName := ⟨RX5, "opensBy", "(IIIII)Z"⟩
abbrev cX5_isThere : ByteArray := prog_7_method_15_code
def yX5_isThere : MethodName := ⟨RX5, "isThere", "([III)Z"⟩
abbrev cX5_opens : ByteArray := prog_7_method_16_code
def yX5_opens : MethodName := ⟨RX5, "opens", "([IIII)Z"⟩
abbrev cX5_measures : ByteArray := prog_7_method_17_code
def yX5_measures : MethodName := ⟨RX5, "measures", "([I)V"⟩
abbrev cX5_wayOf : ByteArray := prog_7_method_18_code
def yX5_wayOf : MethodName := ⟨RX5, "wayOf", "(II)I"⟩
abbrev cX5_isOnWay : ByteArray := prog_7_method_19_code
def yX5_isOnWay : MethodName := ⟨RX5, "isOnWay", "([IIII)Z"⟩
abbrev cX5_doorOf : ByteArray := prog_7_method_20_code
def yX5_doorOf : MethodName := ⟨RX5, "doorOf", "([III)I"⟩
abbrev cX5_hour : ByteArray := prog_7_method_21_code
def yX5_hour : MethodName := ⟨RX5, "hour", "([I)V"⟩
abbrev cX5_hoursOn : ByteArray := prog_7_method_22_code
def yX5_hoursOn : MethodName := ⟨RX5, "hoursOn", "([II)V"⟩
abbrev cX5_homeIn : ByteArray := prog_7_method_23_code
def yX5_homeIn : MethodName := ⟨RX5, "homeIn", "([I)I"⟩
abbrev cX5_letter : ByteArray := prog_7_method_24_code
def yX5_letter : MethodName := ⟨RX5, "letter", "(I)I"⟩
abbrev cX5_here : ByteArray := prog_7_method_25_code
def yX5_here : MethodName := ⟨RX5, "here", "()I"⟩
abbrev cX5_readsNumber : ByteArray := prog_7_method_26_code
def yX5_readsNumber : MethodName := ⟨RX5, "readsNumber", "(II)Z"⟩
abbrev cX5_kindBy : ByteArray := prog_7_method_27_code
def yX5_kindBy : MethodName := ⟨RX5, "kindBy", "(I)I"⟩
abbrev cX5_readsKind : ByteArray := prog_7_method_28_code
def yX5_readsKind : MethodName := ⟨RX5, "readsKind", "()Z"⟩
abbrev cX5_readsStatement : ByteArray := prog_7_method_29_code
def yX5_readsStatement : MethodName := ⟨RX5, "readsStatement", "()Z"⟩
abbrev cX5_addsDoor : ByteArray := prog_7_method_30_code
def yX5_addsDoor : MethodName := ⟨RX5, "addsDoor", "()Z"⟩
abbrev cX5_adds : ByteArray := prog_7_method_31_code
def yX5_adds : MethodName := ⟨RX5, "adds", "([IIII)V"⟩
abbrev cX5_turnsIn : ByteArray := prog_7_method_32_code
def yX5_turnsIn : MethodName := ⟨RX5, "turnsIn", "([II)V"⟩
abbrev cX5_isDone : ByteArray := prog_7_method_33_code
def yX5_isDone : MethodName := ⟨RX5, "isDone", "(I)Z"⟩
abbrev cX5_town : ByteArray := prog_7_method_34_code
def yX5_town : MethodName := ⟨RX5, "town", "()I"⟩
abbrev cX5_door : ByteArray := prog_7_method_35_code
def yX5_door : MethodName := ⟨RX5, "door", "(II)I"⟩
abbrev cX5_person : ByteArray := prog_7_method_36_code
def yX5_person : MethodName := ⟨RX5, "person", "(II)I"⟩
abbrev cX5_wedges : ByteArray := prog_7_method_37_code
def yX5_wedges : MethodName := ⟨RX5, "wedges", "(I)I"⟩
abbrev cX5_turns : ByteArray := prog_7_method_38_code
def yX5_turns : MethodName := ⟨RX5, "turns", "(I)I"⟩
abbrev cX5_areWrong : ByteArray := prog_7_method_39_code
def yX5_areWrong : MethodName := ⟨RX5, "areWrong", "(II)Z"⟩
abbrev cX5_sets : ByteArray := prog_7_method_40_code
def yX5_sets : MethodName := ⟨RX5, "sets", "(III)I"⟩
abbrev cX5_stands : ByteArray := prog_7_method_41_code
def yX5_stands : MethodName := ⟨RX5, "stands", "(II)I"⟩
abbrev cX5_wants : ByteArray := prog_7_method_42_code
def yX5_wants : MethodName := ⟨RX5, "wants", "(II)I"⟩
abbrev cX5_wrongBy : ByteArray := prog_7_method_43_code
def yX5_wrongBy : MethodName := ⟨RX5, "wrongBy", "(III)I"⟩
abbrev cX5_moods : ByteArray := prog_7_method_44_code
def yX5_moods : MethodName := ⟨RX5, "moods", "(II)I"⟩
abbrev cX5_changes : ByteArray := prog_7_method_45_code
def yX5_changes : MethodName := ⟨RX5, "changes", "(III)I"⟩
abbrev cX5_hours : ByteArray := prog_7_method_46_code
def yX5_hours : MethodName := ⟨RX5, "hours", "(I)I"⟩
abbrev cX5_takes : ByteArray := prog_7_method_47_code
def yX5_takes : MethodName := ⟨RX5, "takes", "(I)V"⟩
abbrev cX5_personThen : ByteArray := prog_7_method_48_code
def yX5_personThen : MethodName := ⟨RX5, "personThen", "(III)I"⟩
abbrev cX5_letThen : ByteArray := prog_7_method_49_code
def yX5_letThen : MethodName := ⟨RX5, "letThen", "(I)I"⟩
abbrev cX5_comesTo : ByteArray := prog_7_method_50_code
def yX5_comesTo : MethodName := ⟨RX5, "comesTo", "(II)I"⟩
abbrev cX5_comes : ByteArray := prog_7_method_51_code
def yX5_comes : MethodName := ⟨RX5, "comes", "(II)I"⟩
abbrev cX5_allHome : ByteArray := prog_7_method_52_code
def yX5_allHome : MethodName := ⟨RX5, "allHome", "()I"⟩
abbrev cX5_home : ByteArray := prog_7_method_53_code
def yX5_home : MethodName := ⟨RX5, "home", "(I)I"⟩
abbrev cX5_shutIn : ByteArray := prog_7_method_54_code
def yX5_shutIn : MethodName := ⟨RX5, "shutIn", "()I"⟩
abbrev cX5_isStill : ByteArray := prog_7_method_55_code
def yX5_isStill : MethodName := ⟨RX5, "isStill", "(I)Z"⟩
abbrev cX5_whereIn : ByteArray := prog_7_method_56_code
def yX5_whereIn : MethodName := ⟨RX5, "whereIn", "([I)I"⟩
abbrev cX5_stuck : ByteArray := prog_7_method_57_code
def yX5_stuck : MethodName := ⟨RX5, "stuck", "()I"⟩
abbrev cX5_way : ByteArray := prog_7_method_58_code
def yX5_way : MethodName := ⟨RX5, "way", "(III)I"⟩
abbrev cX5_round : ByteArray := prog_7_method_59_code
def yX5_round : MethodName := ⟨RX5, "round", "(I)I"⟩
abbrev cX5_reach : ByteArray := prog_7_method_60_code
def yX5_reach : MethodName := ⟨RX5, "reach", "(I)I"⟩
abbrev cX5_open : ByteArray := prog_7_method_61_code
def yX5_open : MethodName := ⟨RX5, "open", "()I"⟩
abbrev cX5_helper : ByteArray := prog_7_method_62_code
def yX5_helper : MethodName := ⟨RX5, "helper", "(II)I"⟩
abbrev cX5_fewest : ByteArray := prog_7_method_63_code
def yX5_fewest : MethodName := ⟨RX5, "fewest", "(II)I"⟩
abbrev cX5_bestDoor : ByteArray := prog_7_method_64_code
def yX5_bestDoor : MethodName := ⟨RX5, "bestDoor", "(IZ)I"⟩
abbrev cX5_turn : ByteArray := prog_7_method_65_code
def yX5_turn : MethodName := ⟨RX5, "turn", "(I)I"⟩
abbrev cX5_wedge : ByteArray := prog_7_method_66_code
def yX5_wedge : MethodName := ⟨RX5, "wedge", "(I)I"⟩
abbrev cX5_holds : ByteArray := prog_7_method_67_code
def yX5_holds : MethodName := ⟨RX5, "holds", "(II)I"⟩
abbrev cX5_manyIn : ByteArray := prog_7_method_68_code
def yX5_manyIn : MethodName := ⟨RX5, "manyIn", "(I)I"⟩
abbrev cX5_doorsBy : ByteArray := prog_7_method_69_code
def yX5_doorsBy : MethodName := ⟨RX5, "doorsBy", "(II)I"⟩
abbrev cX5_crowd : ByteArray := prog_7_method_70_code
def yX5_crowd : MethodName := ⟨RX5, "crowd", "(I)I"⟩
abbrev cX5_handles : ByteArray := prog_7_method_71_code
def yX5_handles : MethodName := ⟨RX5, "handles", "(I)I"⟩
abbrev cX5_meet : ByteArray := prog_7_method_72_code
def yX5_meet : MethodName := ⟨RX5, "meet", "(I)I"⟩
abbrev cX5_hasBy : ByteArray := prog_7_method_73_code
def yX5_hasBy : MethodName := ⟨RX5, "hasBy", "(IIIIII)I"⟩
abbrev cX5_two : ByteArray := prog_7_method_74_code
def yX5_two : MethodName := ⟨RX5, "two", "(III)I"⟩
abbrev cX5_gcd : ByteArray := prog_7_method_75_code
def yX5_gcd : MethodName := ⟨RX5, "gcd", "(JJ)J"⟩
abbrev cX5_partOf : ByteArray := prog_7_method_76_code
def yX5_partOf : MethodName := ⟨RX5, "partOf", "(JJI)J"⟩
abbrev cX5_hourBy : ByteArray := prog_7_method_77_code
def yX5_hourBy : MethodName := ⟨RX5, "hourBy", "(Z)V"⟩
abbrev cX5_fire : ByteArray := prog_7_method_78_code
def yX5_fire : MethodName := ⟨RX5, "fire", "(IIIII)J"⟩
abbrev cX5_allMoods : ByteArray := prog_7_method_79_code
def yX5_allMoods : MethodName := ⟨RX5, "allMoods", "()I"⟩
abbrev cX5_mean : ByteArray := prog_7_method_80_code
def yX5_mean : MethodName := ⟨RX5, "mean", "(I)J"⟩
abbrev cX5_whatIs : ByteArray := prog_7_method_81_code
def yX5_whatIs : MethodName := ⟨RX5, "whatIs", "(III)I"⟩
abbrev cX5_row : ByteArray := prog_7_method_82_code
def yX5_row : MethodName := ⟨RX5, "row", "(I)I"⟩
abbrev cX5_judge : ByteArray := prog_7_method_83_code
def yX5_judge : MethodName := ⟨RX5, "judge", "()I"⟩
abbrev cX5_clear : ByteArray := prog_7_method_84_code
def yX5_clear : MethodName := ⟨RX5, "clear", "()I"⟩
abbrev cX5_drawn : ByteArray := prog_7_method_85_code
def yX5_drawn : MethodName := ⟨RX5, "drawn", "(I)I"⟩
abbrev cX5_lots : ByteArray := prog_7_method_86_code
def yX5_lots : MethodName := ⟨RX5, "lots", "(III)I"⟩
abbrev cX5_image : ByteArray := prog_7_method_87_code
def yX5_image : MethodName := ⟨RX5, "image", "()I"⟩
abbrev cX5_on : ByteArray := prog_7_method_88_code
def yX5_on : MethodName := ⟨RX5, "on", "()I"⟩
abbrev cX5_count : ByteArray := prog_7_method_89_code
def yX5_count : MethodName := ⟨RX5, "count", "(I)I"⟩
def RJ6 : String := "java/lang/Integer"
def TJ6 : u_T := fun k => match k with
  | _ => ("", "", "", false)
def tyJ6 : Nat → FieldType := fun k => match k with
  | _ => .int
abbrev wsJ60 : List Cond := u_ws RJ6 TJ6 0
theorem nmJ6 : ∀ a, a < 0 → ∀ b, b < 0 → a ≠ b → (TJ6 a).2.1 ≠ (TJ6 b).2.1 := by decide +kernel
theorem tyJ6_ok : ∀ k, k < 0 → parseFieldDescriptor (TJ6 k).2.2.1 = some (tyJ6 k) := by decide +kernel
abbrev cJ6_bitCount_0f7a4 : ByteArray := prog_8_method_49_code
def yJ6_bitCount_0f7a4 : MethodName := ⟨RJ6, "bitCount", "(I)I"⟩
def RJ9 : String := "java/lang/Math"
def TJ9 : u_T := fun k => match k with
  | _ => ("", "", "", false)
def tyJ9 : Nat → FieldType := fun k => match k with
  | _ => .int
abbrev wsJ90 : List Cond := u_ws RJ9 TJ9 0
theorem nmJ9 : ∀ a, a < 0 → ∀ b, b < 0 → a ≠ b → (TJ9 a).2.1 ≠ (TJ9 b).2.1 := by decide +kernel
theorem tyJ9_ok : ∀ k, k < 0 → parseFieldDescriptor (TJ9 k).2.2.1 = some (tyJ9 k) := by decide +kernel
abbrev cJ9_max_7cf53 : ByteArray := prog_9_method_65_code
def yJ9_max_7cf53 : MethodName := ⟨RJ9, "max", "(II)I"⟩
abbrev cJ9_min_7cf53 : ByteArray := prog_9_method_69_code
def yJ9_min_7cf53 : MethodName := ⟨RJ9, "min", "(II)I"⟩
def RJ10 : String := "java/lang/System"
def TJ10 : u_T := fun k => match k with
  | _ => ("", "", "", false)
def tyJ10 : Nat → FieldType := fun k => match k with
  | _ => .int
abbrev wsJ100 : List Cond := u_ws RJ10 TJ10 0
theorem nmJ10 : ∀ a, a < 0 → ∀ b, b < 0 → a ≠ b → (TJ10 a).2.1 ≠ (TJ10 b).2.1 := by decide +kernel
theorem tyJ10_ok : ∀ k, k < 0 → parseFieldDescriptor (TJ10 k).2.2.1 = some (tyJ10 k) := by decide +kernel
def RL : String := "DoorsOneSideLaw"
abbrev cL_law : ByteArray := code
def yL_law : MethodName := ⟨RL, "law", "([I)Z"⟩
abbrev vwCl : List vw_C := [(RX0, TX0, 8), (RX1, TX1, 1), (RX2, TX2, 2), (RX3, TX3, 7), (RX4, TX4, 8), (RX5, TX5, 14)]
end
section
/-- the words that go with every contract: those of the tables that any call keeps -/
def GW : List Cond := lw_tbl.filter goodWord
def isNest : Cond → Bool
  | .methodLinkNest .. => true
  | _ => false
def NWl : List Cond := lw_tbl.filter isNest
theorem gw_of {w : Cond} (i : Nat) (h : lw_tbl[i]? = some w) (hg : goodWord w = true) : w ∈ GW := List.mem_filter.mpr ⟨List.mem_of_getElem? h, hg⟩
theorem nw_of {w : Cond} (i : Nat) (h : lw_tbl[i]? = some w) (hg : isNest w = true) : w ∈ NWl := List.mem_filter.mpr ⟨List.mem_of_getElem? h, hg⟩
theorem wd0 : Cond.selects RX0 yX0_measureWays yX0_measureWays ∈ GW := gw_of 0 (by decide +kernel) (by decide +kernel)
theorem wd1 : Cond.selects RX0 yX0_shortenWaysBy yX0_shortenWaysBy ∈ GW := gw_of 1 (by decide +kernel) (by decide +kernel)
theorem wd2 : Cond.selects RX0 yX0_findFirsts yX0_findFirsts ∈ GW := gw_of 2 (by decide +kernel) (by decide +kernel)
theorem wd3 : Cond.selects RX4 yX4_refused yX4_refused ∈ GW := gw_of 3 (by decide +kernel) (by decide +kernel)
theorem wd4 : Cond.selects RX1 yX1_fitsShape yX1_fitsShape ∈ GW := gw_of 4 (by decide +kernel) (by decide +kernel)
theorem wd5 : Cond.selects RX4 yX4_tellStatements yX4_tellStatements ∈ GW := gw_of 5 (by decide +kernel) (by decide +kernel)
theorem wd6 : Cond.selects RX1 yX1_digitAt yX1_digitAt ∈ GW := gw_of 6 (by decide +kernel) (by decide +kernel)
theorem wd7 : Cond.selects RX4 yX4_refusedNumber yX4_refusedNumber ∈ GW := gw_of 7 (by decide +kernel) (by decide +kernel)
theorem wd8 : Cond.selects RX4 yX4_firstHourIn yX4_firstHourIn ∈ GW := gw_of 8 (by decide +kernel) (by decide +kernel)
theorem wd9 : Cond.selects RX4 yX4_firstHourAllHome yX4_firstHourAllHome ∈ GW := gw_of 9 (by decide +kernel) (by decide +kernel)
theorem wd10 : Cond.selects RX4 yX4_homeWithHelper yX4_homeWithHelper ∈ GW := gw_of 10 (by decide +kernel) (by decide +kernel)
theorem wd11 : Cond.selects RX4 yX4_isHomeWhileStay yX4_isHomeWhileStay ∈ GW := gw_of 11 (by decide +kernel) (by decide +kernel)
theorem wd12 : Cond.selects RX4 yX4_doorToChange yX4_doorToChange ∈ GW := gw_of 12 (by decide +kernel) (by decide +kernel)
theorem wd13 : Cond.selects RX4 yX4_crowdedRoom yX4_crowdedRoom ∈ GW := gw_of 13 (by decide +kernel) (by decide +kernel)
theorem wd14 : Cond.selects RX4 yX4_emptyRooms yX4_emptyRooms ∈ GW := gw_of 14 (by decide +kernel) (by decide +kernel)
theorem wd15 : Cond.selects RX4 yX4_deadRooms yX4_deadRooms ∈ GW := gw_of 15 (by decide +kernel) (by decide +kernel)
theorem wd16 : Cond.selects RX4 yX4_waysOfAllTo yX4_waysOfAllTo ∈ GW := gw_of 16 (by decide +kernel) (by decide +kernel)
theorem wd17 : Cond.selects RX4 yX4_tryPair yX4_tryPair ∈ GW := gw_of 17 (by decide +kernel) (by decide +kernel)
theorem wd18 : Cond.selects RX4 yX4_gainOf yX4_gainOf ∈ GW := gw_of 18 (by decide +kernel) (by decide +kernel)
theorem wd19 : Cond.selects RX4 yX4_refusedLong yX4_refusedLong ∈ GW := gw_of 19 (by decide +kernel) (by decide +kernel)
theorem wd20 : Cond.selects RX4 yX4_isInBehindFires yX4_isInBehindFires ∈ GW := gw_of 20 (by decide +kernel) (by decide +kernel)
theorem wd21 : Cond.selects RX4 yX4_kindsByRow yX4_kindsByRow ∈ GW := gw_of 21 (by decide +kernel) (by decide +kernel)
theorem wd22 : Cond.selects RX4 yX4_isMindAsRow yX4_isMindAsRow ∈ GW := gw_of 22 (by decide +kernel) (by decide +kernel)
theorem wd23 : Cond.selects RX4 yX4_goalsByRow yX4_goalsByRow ∈ GW := gw_of 23 (by decide +kernel) (by decide +kernel)
theorem wd24 : Cond.selects RX4 yX4_placeByLot yX4_placeByLot ∈ GW := gw_of 24 (by decide +kernel) (by decide +kernel)
theorem wd25 : Cond.selects RX5 yX5_no yX5_no ∈ GW := gw_of 25 (by decide +kernel) (by decide +kernel)
theorem wd26 : Cond.selects RX5 yX5_readsStatement yX5_readsStatement ∈ GW := gw_of 26 (by decide +kernel) (by decide +kernel)
theorem wd27 : Cond.selects RX5 yX5_here yX5_here ∈ GW := gw_of 27 (by decide +kernel) (by decide +kernel)
theorem wd28 : Cond.selects RX5 yX5_readsKind yX5_readsKind ∈ GW := gw_of 28 (by decide +kernel) (by decide +kernel)
theorem wd29 : Cond.selects RX5 yX5_readsNumber yX5_readsNumber ∈ GW := gw_of 29 (by decide +kernel) (by decide +kernel)
theorem wd30 : Cond.selects RX5 yX5_isDone yX5_isDone ∈ GW := gw_of 30 (by decide +kernel) (by decide +kernel)
theorem wd31 : Cond.selects RX5 yX5_addsDoor yX5_addsDoor ∈ GW := gw_of 31 (by decide +kernel) (by decide +kernel)
theorem wd32 : Cond.selects RX5 yX5_isPerson yX5_isPerson ∈ GW := gw_of 32 (by decide +kernel) (by decide +kernel)
theorem wd33 : Cond.selects RX5 yX5_isDoor yX5_isDoor ∈ GW := gw_of 33 (by decide +kernel) (by decide +kernel)
theorem wd34 : Cond.selects RX5 yX5_hoursOn yX5_hoursOn ∈ GW := gw_of 34 (by decide +kernel) (by decide +kernel)
theorem wd35 : Cond.selects RX5 yX5_measures yX5_measures ∈ GW := gw_of 35 (by decide +kernel) (by decide +kernel)
theorem wd36 : Cond.selects RX5 yX5_hour yX5_hour ∈ GW := gw_of 36 (by decide +kernel) (by decide +kernel)
theorem wd37 : Cond.selects RX5 yX5_doorOf yX5_doorOf ∈ GW := gw_of 37 (by decide +kernel) (by decide +kernel)
theorem wd38 : Cond.selects RX5 yX5_isOnWay yX5_isOnWay ∈ GW := gw_of 38 (by decide +kernel) (by decide +kernel)
theorem wd39 : Cond.selects RX5 yX5_wayOf yX5_wayOf ∈ GW := gw_of 39 (by decide +kernel) (by decide +kernel)
theorem wd40 : Cond.selects RX5 yX5_sets yX5_sets ∈ GW := gw_of 40 (by decide +kernel) (by decide +kernel)
theorem wd41 : Cond.selects RX5 yX5_areWrong yX5_areWrong ∈ GW := gw_of 41 (by decide +kernel) (by decide +kernel)
theorem wd42 : Cond.selects RX5 yX5_takes yX5_takes ∈ GW := gw_of 42 (by decide +kernel) (by decide +kernel)
theorem wd43 : Cond.selects RX5 yX5_comesTo yX5_comesTo ∈ GW := gw_of 43 (by decide +kernel) (by decide +kernel)
theorem wd44 : Cond.selects RX5 yX5_allHome yX5_allHome ∈ GW := gw_of 44 (by decide +kernel) (by decide +kernel)
theorem wd45 : Cond.selects RX5 yX5_isStill yX5_isStill ∈ GW := gw_of 45 (by decide +kernel) (by decide +kernel)
theorem wd46 : Cond.selects RX5 yX5_bestDoor yX5_bestDoor ∈ GW := gw_of 46 (by decide +kernel) (by decide +kernel)
theorem wd47 : Cond.selects RX5 yX5_manyIn yX5_manyIn ∈ GW := gw_of 47 (by decide +kernel) (by decide +kernel)
theorem wd48 : Cond.selects RX5 yX5_doorsBy yX5_doorsBy ∈ GW := gw_of 48 (by decide +kernel) (by decide +kernel)
theorem wd49 : Cond.selects RX5 yX5_hasBy yX5_hasBy ∈ GW := gw_of 49 (by decide +kernel) (by decide +kernel)
theorem wd50 : Cond.selects RX5 yX5_noWide yX5_noWide ∈ GW := gw_of 50 (by decide +kernel) (by decide +kernel)
theorem wd51 : Cond.selects RX5 yX5_hourBy yX5_hourBy ∈ GW := gw_of 51 (by decide +kernel) (by decide +kernel)
theorem wd52 : Cond.selects RX5 yX5_allMoods yX5_allMoods ∈ GW := gw_of 52 (by decide +kernel) (by decide +kernel)
theorem wd53 : Cond.selects RX5 yX5_drawn yX5_drawn ∈ GW := gw_of 53 (by decide +kernel) (by decide +kernel)
theorem wd54 : Cond.initialized RL ∈ GW := gw_of 54 (by decide +kernel) (by decide +kernel)
theorem wd55 : Cond.initialized RX4 ∈ GW := gw_of 55 (by decide +kernel) (by decide +kernel)
theorem wd56 : Cond.initialized RX3 ∈ GW := gw_of 56 (by decide +kernel) (by decide +kernel)
theorem wd57 : Cond.initialized RX0 ∈ GW := gw_of 57 (by decide +kernel) (by decide +kernel)
theorem wd58 : Cond.initialized RX1 ∈ GW := gw_of 58 (by decide +kernel) (by decide +kernel)
theorem wd59 : Cond.initialized RX2 ∈ GW := gw_of 59 (by decide +kernel) (by decide +kernel)
theorem wd60 : Cond.initialized RJ9 ∈ GW := gw_of 60 (by decide +kernel) (by decide +kernel)
theorem wd61 : Cond.initialized RX5 ∈ GW := gw_of 61 (by decide +kernel) (by decide +kernel)
theorem wd62 : Cond.initialized RJ10 ∈ GW := gw_of 62 (by decide +kernel) (by decide +kernel)
theorem wd63 : Cond.initialized RJ6 ∈ GW := gw_of 63 (by decide +kernel) (by decide +kernel)
theorem wd64 : Cond.classLink RL 7 RX4 ∈ GW := gw_of 64 (by decide +kernel) (by decide +kernel)
theorem wd65 : Cond.instantiable RX4 8 ∈ GW := gw_of 65 (by decide +kernel) (by decide +kernel)
theorem wd66 : Cond.methodLink RL 9 yX4_init ∈ GW := gw_of 66 (by decide +kernel) (by decide +kernel)
theorem wd67 : Cond.instanceMethod yX4_init ∈ GW := gw_of 67 (by decide +kernel) (by decide +kernel)
theorem wd68 : Cond.code yX4_init cX4_init 1 none ∈ GW := gw_of 68 (by decide +kernel) (by decide +kernel)
theorem wd69 : Cond.methodLink RX4 1 objectInit ∈ GW := gw_of 69 (by decide +kernel) (by decide +kernel)
theorem wd70 : Cond.instanceMethod objectInit ∈ GW := gw_of 70 (by decide +kernel) (by decide +kernel)
theorem wd71 : Cond.code objectInit ⟨#[0xb1]⟩ 1 none ∈ GW := gw_of 71 (by decide +kernel) (by decide +kernel)
theorem wd72 : Cond.classLink RX4 7 RX3 ∈ GW := gw_of 72 (by decide +kernel) (by decide +kernel)
theorem wd73 : Cond.instantiable RX3 7 ∈ GW := gw_of 73 (by decide +kernel) (by decide +kernel)
theorem wd74 : Cond.methodLinkNest RX4 9 yX3_init RX4 ∈ NWl := nw_of 74 (by decide +kernel) rfl
theorem wd75 : Cond.instanceMethod yX3_init ∈ GW := gw_of 75 (by decide +kernel) (by decide +kernel)
theorem wd76 : Cond.code yX3_init cX3_init 1 none ∈ GW := gw_of 76 (by decide +kernel) (by decide +kernel)
theorem wd77 : Cond.methodLink RX3 3 objectInit ∈ GW := gw_of 77 (by decide +kernel) (by decide +kernel)
theorem wd78 : Cond.classLink RX3 9 RX0 ∈ GW := gw_of 78 (by decide +kernel) (by decide +kernel)
theorem wd79 : Cond.instantiable RX0 8 ∈ GW := gw_of 79 (by decide +kernel) (by decide +kernel)
theorem wd80 : Cond.methodLink RX3 11 yX0_init ∈ GW := gw_of 80 (by decide +kernel) (by decide +kernel)
theorem wd81 : Cond.instanceMethod yX0_init ∈ GW := gw_of 81 (by decide +kernel) (by decide +kernel)
theorem wd82 : Cond.code yX0_init cX0_init 1 none ∈ GW := gw_of 82 (by decide +kernel) (by decide +kernel)
theorem wd83 : Cond.methodLink RX0 3 objectInit ∈ GW := gw_of 83 (by decide +kernel) (by decide +kernel)
theorem wd84 : Cond.methodLink RX0 33 yX0_measureWays ∈ GW := gw_of 84 (by decide +kernel) (by decide +kernel)
theorem wd86 : Cond.instanceMethod yX0_measureWays ∈ GW := gw_of 86 (by decide +kernel) (by decide +kernel)
theorem wd87 : Cond.code yX0_measureWays cX0_measureWays 4 none ∈ GW := gw_of 87 (by decide +kernel) (by decide +kernel)
theorem wd88 : Cond.methodLinkNest RX0 48 yX4_put RX4 ∈ NWl := nw_of 88 (by decide +kernel) rfl
theorem wd89 : Cond.static yX4_put ∈ GW := gw_of 89 (by decide +kernel) (by decide +kernel)
theorem wd90 : Cond.code yX4_put cX4_put 3 none ∈ GW := gw_of 90 (by decide +kernel) (by decide +kernel)
theorem wd91 : Cond.methodLinkNest RX0 52 yX4_at RX4 ∈ NWl := nw_of 91 (by decide +kernel) rfl
theorem wd92 : Cond.static yX4_at ∈ GW := gw_of 92 (by decide +kernel) (by decide +kernel)
theorem wd93 : Cond.code yX4_at cX4_at 2 (some .int) ∈ GW := gw_of 93 (by decide +kernel) (by decide +kernel)
theorem wd94 : Cond.methodLink RX0 56 yX0_shortenWaysBy ∈ GW := gw_of 94 (by decide +kernel) (by decide +kernel)
theorem wd96 : Cond.instanceMethod yX0_shortenWaysBy ∈ GW := gw_of 96 (by decide +kernel) (by decide +kernel)
theorem wd97 : Cond.code yX0_shortenWaysBy cX0_shortenWaysBy 6 (some .boolean) ∈ GW := gw_of 97 (by decide +kernel) (by decide +kernel)
theorem wd98 : Cond.methodLink RX0 60 yX0_findFirsts ∈ GW := gw_of 98 (by decide +kernel) (by decide +kernel)
theorem wd100 : Cond.instanceMethod yX0_findFirsts ∈ GW := gw_of 100 (by decide +kernel) (by decide +kernel)
theorem wd101 : Cond.code yX0_findFirsts cX0_findFirsts 5 none ∈ GW := gw_of 101 (by decide +kernel) (by decide +kernel)
theorem wd102 : Cond.fieldLink RX0 9 RX0 "kinds" "[I" ∈ GW := gw_of 102 (by decide +kernel) (by decide +kernel)
theorem wd103 : Cond.fieldLink RX4 100 RX0 "kinds" "[I" ∈ GW := gw_of 103 (by decide +kernel) (by decide +kernel)
theorem wd104 : Cond.fieldLink RX0 15 RX0 "figures" "[I" ∈ GW := gw_of 104 (by decide +kernel) (by decide +kernel)
theorem wd105 : Cond.fieldLink RX4 107 RX0 "figures" "[I" ∈ GW := gw_of 105 (by decide +kernel) (by decide +kernel)
theorem wd106 : Cond.fieldLink RX0 18 RX0 "froms" "[I" ∈ GW := gw_of 106 (by decide +kernel) (by decide +kernel)
theorem wd107 : Cond.fieldLink RX4 110 RX0 "froms" "[I" ∈ GW := gw_of 107 (by decide +kernel) (by decide +kernel)
theorem wd108 : Cond.fieldLink RX0 21 RX0 "intos" "[I" ∈ GW := gw_of 108 (by decide +kernel) (by decide +kernel)
theorem wd109 : Cond.fieldLink RX4 113 RX0 "intos" "[I" ∈ GW := gw_of 109 (by decide +kernel) (by decide +kernel)
theorem wd110 : Cond.fieldLink RX3 62 RX0 "intos" "[I" ∈ GW := gw_of 110 (by decide +kernel) (by decide +kernel)
theorem wd111 : Cond.fieldLink RX0 24 RX0 "wedged" "[I" ∈ GW := gw_of 111 (by decide +kernel) (by decide +kernel)
theorem wd112 : Cond.fieldLink RX4 116 RX0 "wedged" "[I" ∈ GW := gw_of 112 (by decide +kernel) (by decide +kernel)
theorem wd113 : Cond.fieldLink RX3 88 RX0 "wedged" "[I" ∈ GW := gw_of 113 (by decide +kernel) (by decide +kernel)
theorem wd114 : Cond.fieldLink RX0 27 RX0 "ways" "[I" ∈ GW := gw_of 114 (by decide +kernel) (by decide +kernel)
theorem wd115 : Cond.fieldLink RX0 30 RX0 "firsts" "[I" ∈ GW := gw_of 115 (by decide +kernel) (by decide +kernel)
theorem wd116 : Cond.fieldLink RX0 40 RX0 "size" "I" ∈ GW := gw_of 116 (by decide +kernel) (by decide +kernel)
theorem wd117 : Cond.fieldLink RX3 80 RX0 "size" "I" ∈ GW := gw_of 117 (by decide +kernel) (by decide +kernel)
theorem wd118 : Cond.fieldLink RX4 181 RX0 "size" "I" ∈ GW := gw_of 118 (by decide +kernel) (by decide +kernel)
theorem wd119 : Cond.laysFinal RX0 RX0 "kinds" "[I" ∈ GW := gw_of 119 (by decide +kernel) (by decide +kernel)
theorem wd121 : Cond.laysFinal RX0 RX0 "figures" "[I" ∈ GW := gw_of 121 (by decide +kernel) (by decide +kernel)
theorem wd123 : Cond.laysFinal RX0 RX0 "froms" "[I" ∈ GW := gw_of 123 (by decide +kernel) (by decide +kernel)
theorem wd125 : Cond.laysFinal RX0 RX0 "intos" "[I" ∈ GW := gw_of 125 (by decide +kernel) (by decide +kernel)
theorem wd127 : Cond.laysFinal RX0 RX0 "wedged" "[I" ∈ GW := gw_of 127 (by decide +kernel) (by decide +kernel)
theorem wd129 : Cond.laysFinal RX0 RX0 "ways" "[I" ∈ GW := gw_of 129 (by decide +kernel) (by decide +kernel)
theorem wd131 : Cond.laysFinal RX0 RX0 "firsts" "[I" ∈ GW := gw_of 131 (by decide +kernel) (by decide +kernel)
theorem wd133 : Cond.lays RX0 RX0 "size" "I" ∈ GW := gw_of 133 (by decide +kernel) (by decide +kernel)
theorem wd136 : Cond.arrayClass .int ∈ GW := gw_of 136 (by decide +kernel) (by decide +kernel)
theorem wd137 : Cond.fieldLink RX3 12 RX3 "doors" "LDoorsOneSide$Doors;" ∈ GW := gw_of 137 (by decide +kernel) (by decide +kernel)
theorem wd138 : Cond.fieldLink RX4 90 RX3 "doors" "LDoorsOneSide$Doors;" ∈ GW := gw_of 138 (by decide +kernel) (by decide +kernel)
theorem wd139 : Cond.fieldLink RX1 46 RX3 "doors" "LDoorsOneSide$Doors;" ∈ GW := gw_of 139 (by decide +kernel) (by decide +kernel)
theorem wd140 : Cond.fieldLink RX3 18 RX3 "rooms" "[I" ∈ GW := gw_of 140 (by decide +kernel) (by decide +kernel)
theorem wd141 : Cond.fieldLink RX4 120 RX3 "rooms" "[I" ∈ GW := gw_of 141 (by decide +kernel) (by decide +kernel)
theorem wd142 : Cond.fieldLink RX1 69 RX3 "rooms" "[I" ∈ GW := gw_of 142 (by decide +kernel) (by decide +kernel)
theorem wd143 : Cond.fieldLink RX3 22 RX3 "goals" "[I" ∈ GW := gw_of 143 (by decide +kernel) (by decide +kernel)
theorem wd144 : Cond.fieldLink RX4 123 RX3 "goals" "[I" ∈ GW := gw_of 144 (by decide +kernel) (by decide +kernel)
theorem wd145 : Cond.fieldLink RX1 62 RX3 "goals" "[I" ∈ GW := gw_of 145 (by decide +kernel) (by decide +kernel)
theorem wd146 : Cond.fieldLink RX3 25 RX3 "moods" "[I" ∈ GW := gw_of 146 (by decide +kernel) (by decide +kernel)
theorem wd147 : Cond.fieldLink RX4 126 RX3 "moods" "[I" ∈ GW := gw_of 147 (by decide +kernel) (by decide +kernel)
theorem wd148 : Cond.fieldLink RX3 36 RX3 "size" "I" ∈ GW := gw_of 148 (by decide +kernel) (by decide +kernel)
theorem wd149 : Cond.fieldLink RX1 83 RX3 "size" "I" ∈ GW := gw_of 149 (by decide +kernel) (by decide +kernel)
theorem wd150 : Cond.fieldLink RX4 171 RX3 "size" "I" ∈ GW := gw_of 150 (by decide +kernel) (by decide +kernel)
theorem wd151 : Cond.fieldLink RX3 40 RX3 "hour" "I" ∈ GW := gw_of 151 (by decide +kernel) (by decide +kernel)
theorem wd152 : Cond.fieldLink RX4 129 RX3 "hour" "I" ∈ GW := gw_of 152 (by decide +kernel) (by decide +kernel)
theorem wd153 : Cond.fieldLink RX1 76 RX3 "hour" "I" ∈ GW := gw_of 153 (by decide +kernel) (by decide +kernel)
theorem wd154 : Cond.fieldLink RX3 43 RX3 "let" "I" ∈ GW := gw_of 154 (by decide +kernel) (by decide +kernel)
theorem wd155 : Cond.fieldLink RX4 162 RX3 "let" "I" ∈ GW := gw_of 155 (by decide +kernel) (by decide +kernel)
theorem wd156 : Cond.laysFinal RX3 RX3 "doors" "LDoorsOneSide$Doors;" ∈ GW := gw_of 156 (by decide +kernel) (by decide +kernel)
theorem wd158 : Cond.laysFinal RX3 RX3 "rooms" "[I" ∈ GW := gw_of 158 (by decide +kernel) (by decide +kernel)
theorem wd160 : Cond.laysFinal RX3 RX3 "goals" "[I" ∈ GW := gw_of 160 (by decide +kernel) (by decide +kernel)
theorem wd162 : Cond.laysFinal RX3 RX3 "moods" "[I" ∈ GW := gw_of 162 (by decide +kernel) (by decide +kernel)
theorem wd164 : Cond.lays RX3 RX3 "size" "I" ∈ GW := gw_of 164 (by decide +kernel) (by decide +kernel)
theorem wd166 : Cond.lays RX3 RX3 "hour" "I" ∈ GW := gw_of 166 (by decide +kernel) (by decide +kernel)
theorem wd168 : Cond.lays RX3 RX3 "let" "I" ∈ GW := gw_of 168 (by decide +kernel) (by decide +kernel)
theorem wd171 : Cond.classLink RX4 22 RX1 ∈ GW := gw_of 171 (by decide +kernel) (by decide +kernel)
theorem wd172 : Cond.instantiable RX1 1 ∈ GW := gw_of 172 (by decide +kernel) (by decide +kernel)
theorem wd173 : Cond.methodLinkNest RX4 24 yX1_init RX4 ∈ NWl := nw_of 173 (by decide +kernel) rfl
theorem wd174 : Cond.instanceMethod yX1_init ∈ GW := gw_of 174 (by decide +kernel) (by decide +kernel)
theorem wd175 : Cond.code yX1_init cX1_init 1 none ∈ GW := gw_of 175 (by decide +kernel) (by decide +kernel)
theorem wd176 : Cond.methodLink RX1 3 objectInit ∈ GW := gw_of 176 (by decide +kernel) (by decide +kernel)
theorem wd177 : Cond.classLink RX1 9 RX2 ∈ GW := gw_of 177 (by decide +kernel) (by decide +kernel)
theorem wd178 : Cond.instantiable RX2 2 ∈ GW := gw_of 178 (by decide +kernel) (by decide +kernel)
theorem wd179 : Cond.methodLink RX1 11 yX2_init ∈ GW := gw_of 179 (by decide +kernel) (by decide +kernel)
theorem wd180 : Cond.instanceMethod yX2_init ∈ GW := gw_of 180 (by decide +kernel) (by decide +kernel)
theorem wd181 : Cond.code yX2_init cX2_init 2 none ∈ GW := gw_of 181 (by decide +kernel) (by decide +kernel)
theorem wd182 : Cond.methodLink RX2 1 objectInit ∈ GW := gw_of 182 (by decide +kernel) (by decide +kernel)
theorem wd183 : Cond.methodLink RX2 7 Lib.Math.max.name ∈ GW := gw_of 183 (by decide +kernel) (by decide +kernel)
theorem wd184 : Cond.static Lib.Math.max.name ∈ GW := gw_of 184 (by decide +kernel) (by decide +kernel)
theorem wd185 : Cond.code Lib.Math.max.name Lib.Math.max.code 2 (some .int) ∈ GW := gw_of 185 (by decide +kernel) (by decide +kernel)
theorem wd186 : Cond.fieldLink RX2 13 RX2 "numbers" "[I" ∈ GW := gw_of 186 (by decide +kernel) (by decide +kernel)
theorem wd187 : Cond.fieldLink RX1 20 RX2 "numbers" "[I" ∈ GW := gw_of 187 (by decide +kernel) (by decide +kernel)
theorem wd188 : Cond.fieldLink RX4 277 RX2 "numbers" "[I" ∈ GW := gw_of 188 (by decide +kernel) (by decide +kernel)
theorem wd189 : Cond.fieldLink RX2 19 RX2 "size" "I" ∈ GW := gw_of 189 (by decide +kernel) (by decide +kernel)
theorem wd190 : Cond.fieldLink RX1 28 RX2 "size" "I" ∈ GW := gw_of 190 (by decide +kernel) (by decide +kernel)
theorem wd191 : Cond.fieldLink RX4 73 RX2 "size" "I" ∈ GW := gw_of 191 (by decide +kernel) (by decide +kernel)
theorem wd192 : Cond.laysFinal RX2 RX2 "numbers" "[I" ∈ GW := gw_of 192 (by decide +kernel) (by decide +kernel)
theorem wd194 : Cond.lays RX2 RX2 "size" "I" ∈ GW := gw_of 194 (by decide +kernel) (by decide +kernel)
theorem wd197 : Cond.fieldLink RX1 14 RX1 "signs" "LDoorsOneSide$Row;" ∈ GW := gw_of 197 (by decide +kernel) (by decide +kernel)
theorem wd198 : Cond.fieldLink RX4 49 RX1 "signs" "LDoorsOneSide$Row;" ∈ GW := gw_of 198 (by decide +kernel) (by decide +kernel)
theorem wd199 : Cond.laysFinal RX1 RX1 "signs" "LDoorsOneSide$Row;" ∈ GW := gw_of 199 (by decide +kernel) (by decide +kernel)
theorem wd202 : Cond.classLink RX4 29 RX2 ∈ GW := gw_of 202 (by decide +kernel) (by decide +kernel)
theorem wd203 : Cond.methodLink RX4 31 yX2_init ∈ GW := gw_of 203 (by decide +kernel) (by decide +kernel)
theorem wd204 : Cond.fieldLink RX4 10 RX4 "now" "LDoorsOneSide$Town;" ∈ GW := gw_of 204 (by decide +kernel) (by decide +kernel)
theorem wd205 : Cond.fieldLink RX4 16 RX4 "mind" "LDoorsOneSide$Town;" ∈ GW := gw_of 205 (by decide +kernel) (by decide +kernel)
theorem wd206 : Cond.fieldLink RX4 19 RX4 "taken" "LDoorsOneSide$Town;" ∈ GW := gw_of 206 (by decide +kernel) (by decide +kernel)
theorem wd207 : Cond.fieldLink RX4 292 RX4 "imageTaken" "Z" ∈ GW := gw_of 207 (by decide +kernel) (by decide +kernel)
theorem wd208 : Cond.fieldLink RX4 25 RX4 "letters" "LDoorsOneSide$Letters;" ∈ GW := gw_of 208 (by decide +kernel) (by decide +kernel)
theorem wd209 : Cond.fieldLink RX4 34 RX4 "told" "LDoorsOneSide$Row;" ∈ GW := gw_of 209 (by decide +kernel) (by decide +kernel)
theorem wd210 : Cond.fieldLink RX4 38 RX4 "refusals" "[I" ∈ GW := gw_of 210 (by decide +kernel) (by decide +kernel)
theorem wd211 : Cond.fieldLink RX4 42 RX4 "gains" "[I" ∈ GW := gw_of 211 (by decide +kernel) (by decide +kernel)
theorem wd212 : Cond.laysFinal RX4 RX4 "now" "LDoorsOneSide$Town;" ∈ GW := gw_of 212 (by decide +kernel) (by decide +kernel)
theorem wd214 : Cond.laysFinal RX4 RX4 "mind" "LDoorsOneSide$Town;" ∈ GW := gw_of 214 (by decide +kernel) (by decide +kernel)
theorem wd216 : Cond.laysFinal RX4 RX4 "taken" "LDoorsOneSide$Town;" ∈ GW := gw_of 216 (by decide +kernel) (by decide +kernel)
theorem wd218 : Cond.lays RX4 RX4 "imageTaken" "Z" ∈ GW := gw_of 218 (by decide +kernel) (by decide +kernel)
theorem wd220 : Cond.laysFinal RX4 RX4 "letters" "LDoorsOneSide$Letters;" ∈ GW := gw_of 220 (by decide +kernel) (by decide +kernel)
theorem wd222 : Cond.laysFinal RX4 RX4 "told" "LDoorsOneSide$Row;" ∈ GW := gw_of 222 (by decide +kernel) (by decide +kernel)
theorem wd224 : Cond.laysFinal RX4 RX4 "refusals" "[I" ∈ GW := gw_of 224 (by decide +kernel) (by decide +kernel)
theorem wd226 : Cond.laysFinal RX4 RX4 "gains" "[I" ∈ GW := gw_of 226 (by decide +kernel) (by decide +kernel)
theorem wd229 : Cond.methodLink RL 13 yX4_letter ∈ GW := gw_of 229 (by decide +kernel) (by decide +kernel)
theorem wd230 : Cond.instanceMethod yX4_letter ∈ GW := gw_of 230 (by decide +kernel) (by decide +kernel)
theorem wd231 : Cond.selects RX4 yX4_letter yX4_letter ∈ GW := gw_of 231 (by decide +kernel) (by decide +kernel)
theorem wd232 : Cond.code yX4_letter cX4_letter 2 (some .int) ∈ GW := gw_of 232 (by decide +kernel) (by decide +kernel)
theorem wd233 : Cond.methodLink RX4 45 yX4_refused ∈ GW := gw_of 233 (by decide +kernel) (by decide +kernel)
theorem wd235 : Cond.instanceMethod yX4_refused ∈ GW := gw_of 235 (by decide +kernel) (by decide +kernel)
theorem wd236 : Cond.code yX4_refused cX4_refused 2 (some .int) ∈ GW := gw_of 236 (by decide +kernel) (by decide +kernel)
theorem wd237 : Cond.methodLink RX4 103 yX4_at ∈ GW := gw_of 237 (by decide +kernel) (by decide +kernel)
theorem wd238 : Cond.methodLink RX4 217 yX4_put ∈ GW := gw_of 238 (by decide +kernel) (by decide +kernel)
theorem wd239 : Cond.methodLink RX4 52 yX2_isFull ∈ GW := gw_of 239 (by decide +kernel) (by decide +kernel)
theorem wd240 : Cond.instanceMethod yX2_isFull ∈ GW := gw_of 240 (by decide +kernel) (by decide +kernel)
theorem wd241 : Cond.selects RX2 yX2_isFull yX2_isFull ∈ GW := gw_of 241 (by decide +kernel) (by decide +kernel)
theorem wd242 : Cond.code yX2_isFull cX2_isFull 1 (some .boolean) ∈ GW := gw_of 242 (by decide +kernel) (by decide +kernel)
theorem wd243 : Cond.methodLink RX4 56 yX2_add ∈ GW := gw_of 243 (by decide +kernel) (by decide +kernel)
theorem wd244 : Cond.instanceMethod yX2_add ∈ GW := gw_of 244 (by decide +kernel) (by decide +kernel)
theorem wd245 : Cond.selects RX2 yX2_add yX2_add ∈ GW := gw_of 245 (by decide +kernel) (by decide +kernel)
theorem wd246 : Cond.code yX2_add cX2_add 2 (some .int) ∈ GW := gw_of 246 (by decide +kernel) (by decide +kernel)
theorem wd247 : Cond.methodLink RX2 23 yX2_isFull ∈ GW := gw_of 247 (by decide +kernel) (by decide +kernel)
theorem wd248 : Cond.methodLinkNest RX2 27 yX4_put RX4 ∈ NWl := nw_of 248 (by decide +kernel) rfl
theorem wd249 : Cond.methodLink RL 18 yX4_town ∈ GW := gw_of 249 (by decide +kernel) (by decide +kernel)
theorem wd250 : Cond.instanceMethod yX4_town ∈ GW := gw_of 250 (by decide +kernel) (by decide +kernel)
theorem wd251 : Cond.selects RX4 yX4_town yX4_town ∈ GW := gw_of 251 (by decide +kernel) (by decide +kernel)
theorem wd252 : Cond.code yX4_town cX4_town 3 (some .int) ∈ GW := gw_of 252 (by decide +kernel) (by decide +kernel)
theorem wd253 : Cond.methodLink RX4 59 yX1_shapeFault ∈ GW := gw_of 253 (by decide +kernel) (by decide +kernel)
theorem wd254 : Cond.instanceMethod yX1_shapeFault ∈ GW := gw_of 254 (by decide +kernel) (by decide +kernel)
theorem wd255 : Cond.selects RX1 yX1_shapeFault yX1_shapeFault ∈ GW := gw_of 255 (by decide +kernel) (by decide +kernel)
theorem wd256 : Cond.code yX1_shapeFault cX1_shapeFault 3 (some .int) ∈ GW := gw_of 256 (by decide +kernel) (by decide +kernel)
theorem wd257 : Cond.methodLink RX1 32 yX1_fitsShape ∈ GW := gw_of 257 (by decide +kernel) (by decide +kernel)
theorem wd259 : Cond.instanceMethod yX1_fitsShape ∈ GW := gw_of 259 (by decide +kernel) (by decide +kernel)
theorem wd260 : Cond.code yX1_fitsShape cX1_fitsShape 5 (some .boolean) ∈ GW := gw_of 260 (by decide +kernel) (by decide +kernel)
theorem wd261 : Cond.methodLink RX1 36 yX1_lengthAt ∈ GW := gw_of 261 (by decide +kernel) (by decide +kernel)
theorem wd262 : Cond.instanceMethod yX1_lengthAt ∈ GW := gw_of 262 (by decide +kernel) (by decide +kernel)
theorem wd263 : Cond.selects RX1 yX1_lengthAt yX1_lengthAt ∈ GW := gw_of 263 (by decide +kernel) (by decide +kernel)
theorem wd264 : Cond.code yX1_lengthAt cX1_lengthAt 2 (some .int) ∈ GW := gw_of 264 (by decide +kernel) (by decide +kernel)
theorem wd265 : Cond.methodLinkNest RX1 24 yX4_at RX4 ∈ NWl := nw_of 265 (by decide +kernel) rfl
theorem wd266 : Cond.methodLink RX1 40 yX1_kindOf ∈ GW := gw_of 266 (by decide +kernel) (by decide +kernel)
theorem wd267 : Cond.static yX1_kindOf ∈ GW := gw_of 267 (by decide +kernel) (by decide +kernel)
theorem wd268 : Cond.code yX1_kindOf cX1_kindOf 1 (some .int) ∈ GW := gw_of 268 (by decide +kernel) (by decide +kernel)
theorem wd269 : Cond.methodLink RX4 63 yX4_tellStatements ∈ GW := gw_of 269 (by decide +kernel) (by decide +kernel)
theorem wd271 : Cond.instanceMethod yX4_tellStatements ∈ GW := gw_of 271 (by decide +kernel) (by decide +kernel)
theorem wd272 : Cond.code yX4_tellStatements cX4_tellStatements 3 (some .int) ∈ GW := gw_of 272 (by decide +kernel) (by decide +kernel)
theorem wd273 : Cond.methodLink RX4 69 yX3_become ∈ GW := gw_of 273 (by decide +kernel) (by decide +kernel)
theorem wd274 : Cond.instanceMethod yX3_become ∈ GW := gw_of 274 (by decide +kernel) (by decide +kernel)
theorem wd275 : Cond.selects RX3 yX3_become yX3_become ∈ GW := gw_of 275 (by decide +kernel) (by decide +kernel)
theorem wd276 : Cond.code yX3_become cX3_become 2 none ∈ GW := gw_of 276 (by decide +kernel) (by decide +kernel)
theorem wd277 : Cond.methodLink RX3 28 yX0_become ∈ GW := gw_of 277 (by decide +kernel) (by decide +kernel)
theorem wd278 : Cond.instanceMethod yX0_become ∈ GW := gw_of 278 (by decide +kernel) (by decide +kernel)
theorem wd279 : Cond.selects RX0 yX0_become yX0_become ∈ GW := gw_of 279 (by decide +kernel) (by decide +kernel)
theorem wd280 : Cond.code yX0_become cX0_become 2 none ∈ GW := gw_of 280 (by decide +kernel) (by decide +kernel)
theorem wd281 : Cond.methodLinkNest RX0 36 yX4_copy RX4 ∈ NWl := nw_of 281 (by decide +kernel) rfl
theorem wd282 : Cond.static yX4_copy ∈ GW := gw_of 282 (by decide +kernel) (by decide +kernel)
theorem wd283 : Cond.code yX4_copy cX4_copy 2 none ∈ GW := gw_of 283 (by decide +kernel) (by decide +kernel)
theorem wd284 : Cond.methodLink RX4 186 Lib.Math.min.name ∈ GW := gw_of 284 (by decide +kernel) (by decide +kernel)
theorem wd285 : Cond.static Lib.Math.min.name ∈ GW := gw_of 285 (by decide +kernel) (by decide +kernel)
theorem wd286 : Cond.code Lib.Math.min.name Lib.Math.min.code 2 (some .int) ∈ GW := gw_of 286 (by decide +kernel) (by decide +kernel)
theorem wd287 : Cond.methodLink RX4 301 arraycopyName ∈ GW := gw_of 287 (by decide +kernel) (by decide +kernel)
theorem wd288 : Cond.static arraycopyName ∈ GW := gw_of 288 (by decide +kernel) (by decide +kernel)
theorem wd289 : Cond.native arraycopyName ∈ GW := gw_of 289 (by decide +kernel) (by decide +kernel)
theorem wd290 : Cond.methodLinkNest RX3 32 yX4_copy RX4 ∈ NWl := nw_of 290 (by decide +kernel) rfl
theorem wd291 : Cond.methodLink RX4 77 yX1_tell ∈ GW := gw_of 291 (by decide +kernel) (by decide +kernel)
theorem wd292 : Cond.instanceMethod yX1_tell ∈ GW := gw_of 292 (by decide +kernel) (by decide +kernel)
theorem wd293 : Cond.selects RX1 yX1_tell yX1_tell ∈ GW := gw_of 293 (by decide +kernel) (by decide +kernel)
theorem wd294 : Cond.code yX1_tell cX1_tell 8 (some .boolean) ∈ GW := gw_of 294 (by decide +kernel) (by decide +kernel)
theorem wd295 : Cond.methodLink RX1 43 yX1_digitAt ∈ GW := gw_of 295 (by decide +kernel) (by decide +kernel)
theorem wd297 : Cond.instanceMethod yX1_digitAt ∈ GW := gw_of 297 (by decide +kernel) (by decide +kernel)
theorem wd298 : Cond.code yX1_digitAt cX1_digitAt 2 (some .int) ∈ GW := gw_of 298 (by decide +kernel) (by decide +kernel)
theorem wd299 : Cond.methodLink RX1 52 yX0_addDoor ∈ GW := gw_of 299 (by decide +kernel) (by decide +kernel)
theorem wd300 : Cond.instanceMethod yX0_addDoor ∈ GW := gw_of 300 (by decide +kernel) (by decide +kernel)
theorem wd301 : Cond.selects RX0 yX0_addDoor yX0_addDoor ∈ GW := gw_of 301 (by decide +kernel) (by decide +kernel)
theorem wd302 : Cond.code yX0_addDoor cX0_addDoor 5 (some .boolean) ∈ GW := gw_of 302 (by decide +kernel) (by decide +kernel)
theorem wd303 : Cond.methodLinkNest RX0 44 yX4_isRoom RX4 ∈ NWl := nw_of 303 (by decide +kernel) rfl
theorem wd304 : Cond.static yX4_isRoom ∈ GW := gw_of 304 (by decide +kernel) (by decide +kernel)
theorem wd305 : Cond.code yX4_isRoom cX4_isRoom 1 (some .boolean) ∈ GW := gw_of 305 (by decide +kernel) (by decide +kernel)
theorem wd306 : Cond.methodLink RX1 58 yX1_tellPerson ∈ GW := gw_of 306 (by decide +kernel) (by decide +kernel)
theorem wd307 : Cond.static yX1_tellPerson ∈ GW := gw_of 307 (by decide +kernel) (by decide +kernel)
theorem wd308 : Cond.code yX1_tellPerson cX1_tellPerson 4 (some .boolean) ∈ GW := gw_of 308 (by decide +kernel) (by decide +kernel)
theorem wd309 : Cond.methodLinkNest RX1 84 yX4_isRoom RX4 ∈ NWl := nw_of 309 (by decide +kernel) rfl
theorem wd310 : Cond.methodLink RX1 88 yX3_addPerson ∈ GW := gw_of 310 (by decide +kernel) (by decide +kernel)
theorem wd311 : Cond.instanceMethod yX3_addPerson ∈ GW := gw_of 311 (by decide +kernel) (by decide +kernel)
theorem wd312 : Cond.selects RX3 yX3_addPerson yX3_addPerson ∈ GW := gw_of 312 (by decide +kernel) (by decide +kernel)
theorem wd313 : Cond.code yX3_addPerson cX3_addPerson 4 none ∈ GW := gw_of 313 (by decide +kernel) (by decide +kernel)
theorem wd314 : Cond.methodLinkNest RX3 50 yX4_put RX4 ∈ NWl := nw_of 314 (by decide +kernel) rfl
theorem wd315 : Cond.methodLink RX1 65 yX1_tellRoom ∈ GW := gw_of 315 (by decide +kernel) (by decide +kernel)
theorem wd316 : Cond.static yX1_tellRoom ∈ GW := gw_of 316 (by decide +kernel) (by decide +kernel)
theorem wd317 : Cond.code yX1_tellRoom cX1_tellRoom 4 (some .boolean) ∈ GW := gw_of 317 (by decide +kernel) (by decide +kernel)
theorem wd318 : Cond.methodLink RX1 92 yX3_has ∈ GW := gw_of 318 (by decide +kernel) (by decide +kernel)
theorem wd319 : Cond.instanceMethod yX3_has ∈ GW := gw_of 319 (by decide +kernel) (by decide +kernel)
theorem wd320 : Cond.selects RX3 yX3_has yX3_has ∈ GW := gw_of 320 (by decide +kernel) (by decide +kernel)
theorem wd321 : Cond.code yX3_has cX3_has 2 (some .boolean) ∈ GW := gw_of 321 (by decide +kernel) (by decide +kernel)
theorem wd322 : Cond.methodLinkNest RX1 95 yX4_put RX4 ∈ NWl := nw_of 322 (by decide +kernel) rfl
theorem wd323 : Cond.methodLink RX1 72 yX1_tellDoor ∈ GW := gw_of 323 (by decide +kernel) (by decide +kernel)
theorem wd324 : Cond.static yX1_tellDoor ∈ GW := gw_of 324 (by decide +kernel) (by decide +kernel)
theorem wd325 : Cond.code yX1_tellDoor cX1_tellDoor 3 (some .boolean) ∈ GW := gw_of 325 (by decide +kernel) (by decide +kernel)
theorem wd326 : Cond.methodLink RX1 99 yX0_has ∈ GW := gw_of 326 (by decide +kernel) (by decide +kernel)
theorem wd327 : Cond.instanceMethod yX0_has ∈ GW := gw_of 327 (by decide +kernel) (by decide +kernel)
theorem wd328 : Cond.selects RX0 yX0_has yX0_has ∈ GW := gw_of 328 (by decide +kernel) (by decide +kernel)
theorem wd329 : Cond.code yX0_has cX0_has 2 (some .boolean) ∈ GW := gw_of 329 (by decide +kernel) (by decide +kernel)
theorem wd330 : Cond.methodLink RX1 100 yX0_changeSides ∈ GW := gw_of 330 (by decide +kernel) (by decide +kernel)
theorem wd331 : Cond.instanceMethod yX0_changeSides ∈ GW := gw_of 331 (by decide +kernel) (by decide +kernel)
theorem wd332 : Cond.selects RX0 yX0_changeSides yX0_changeSides ∈ GW := gw_of 332 (by decide +kernel) (by decide +kernel)
theorem wd333 : Cond.code yX0_changeSides cX0_changeSides 3 (some .int) ∈ GW := gw_of 333 (by decide +kernel) (by decide +kernel)
theorem wd334 : Cond.methodLink RX1 103 yX0_wedgeOrNot ∈ GW := gw_of 334 (by decide +kernel) (by decide +kernel)
theorem wd335 : Cond.instanceMethod yX0_wedgeOrNot ∈ GW := gw_of 335 (by decide +kernel) (by decide +kernel)
theorem wd336 : Cond.selects RX0 yX0_wedgeOrNot yX0_wedgeOrNot ∈ GW := gw_of 336 (by decide +kernel) (by decide +kernel)
theorem wd337 : Cond.code yX0_wedgeOrNot cX0_wedgeOrNot 2 (some .int) ∈ GW := gw_of 337 (by decide +kernel) (by decide +kernel)
theorem wd338 : Cond.methodLink RX1 79 yX3_goHours ∈ GW := gw_of 338 (by decide +kernel) (by decide +kernel)
theorem wd339 : Cond.instanceMethod yX3_goHours ∈ GW := gw_of 339 (by decide +kernel) (by decide +kernel)
theorem wd340 : Cond.selects RX3 yX3_goHours yX3_goHours ∈ GW := gw_of 340 (by decide +kernel) (by decide +kernel)
theorem wd341 : Cond.code yX3_goHours cX3_goHours 7 (some .int) ∈ GW := gw_of 341 (by decide +kernel) (by decide +kernel)
theorem wd342 : Cond.methodLink RX3 58 yX3_doorFor ∈ GW := gw_of 342 (by decide +kernel) (by decide +kernel)
theorem wd343 : Cond.instanceMethod yX3_doorFor ∈ GW := gw_of 343 (by decide +kernel) (by decide +kernel)
theorem wd344 : Cond.selects RX3 yX3_doorFor yX3_doorFor ∈ GW := gw_of 344 (by decide +kernel) (by decide +kernel)
theorem wd345 : Cond.code yX3_doorFor cX3_doorFor 6 (some .int) ∈ GW := gw_of 345 (by decide +kernel) (by decide +kernel)
theorem wd346 : Cond.methodLinkNest RX3 46 yX4_at RX4 ∈ NWl := nw_of 346 (by decide +kernel) rfl
theorem wd347 : Cond.methodLink RX3 77 yX0_firstDoors ∈ GW := gw_of 347 (by decide +kernel) (by decide +kernel)
theorem wd348 : Cond.instanceMethod yX0_firstDoors ∈ GW := gw_of 348 (by decide +kernel) (by decide +kernel)
theorem wd349 : Cond.selects RX0 yX0_firstDoors yX0_firstDoors ∈ GW := gw_of 349 (by decide +kernel) (by decide +kernel)
theorem wd350 : Cond.code yX0_firstDoors cX0_firstDoors 3 (some .int) ∈ GW := gw_of 350 (by decide +kernel) (by decide +kernel)
theorem wd351 : Cond.methodLinkNest RX3 81 yX4_hasBit RX4 ∈ NWl := nw_of 351 (by decide +kernel) rfl
theorem wd352 : Cond.static yX4_hasBit ∈ GW := gw_of 352 (by decide +kernel) (by decide +kernel)
theorem wd353 : Cond.code yX4_hasBit cX4_hasBit 2 (some .boolean) ∈ GW := gw_of 353 (by decide +kernel) (by decide +kernel)
theorem wd354 : Cond.methodLink RX3 85 yX3_opens ∈ GW := gw_of 354 (by decide +kernel) (by decide +kernel)
theorem wd355 : Cond.instanceMethod yX3_opens ∈ GW := gw_of 355 (by decide +kernel) (by decide +kernel)
theorem wd356 : Cond.selects RX3 yX3_opens yX3_opens ∈ GW := gw_of 356 (by decide +kernel) (by decide +kernel)
theorem wd357 : Cond.code yX3_opens cX3_opens 7 (some .boolean) ∈ GW := gw_of 357 (by decide +kernel) (by decide +kernel)
theorem wd358 : Cond.methodLink RX3 74 Lib.Math.max.name ∈ GW := gw_of 358 (by decide +kernel) (by decide +kernel)
theorem wd359 : Cond.methodLink RX3 91 yX0_opensBy ∈ GW := gw_of 359 (by decide +kernel) (by decide +kernel)
theorem wd360 : Cond.instanceMethod yX0_opensBy ∈ GW := gw_of 360 (by decide +kernel) (by decide +kernel)
theorem wd361 : Cond.selects RX0 yX0_opensBy yX0_opensBy ∈ GW := gw_of 361 (by decide +kernel) (by decide +kernel)
theorem wd362 : Cond.code yX0_opensBy cX0_opensBy 10 (some .boolean) ∈ GW := gw_of 362 (by decide +kernel) (by decide +kernel)
theorem wd363 : Cond.methodLink RX0 63 Lib.Math.max.name ∈ GW := gw_of 363 (by decide +kernel) (by decide +kernel)
theorem wd364 : Cond.methodLink RX3 65 Lib.Math.min.name ∈ GW := gw_of 364 (by decide +kernel) (by decide +kernel)
theorem wd365 : Cond.methodLink RX3 71 yX3_isHome ∈ GW := gw_of 365 (by decide +kernel) (by decide +kernel)
theorem wd366 : Cond.instanceMethod yX3_isHome ∈ GW := gw_of 366 (by decide +kernel) (by decide +kernel)
theorem wd367 : Cond.selects RX3 yX3_isHome yX3_isHome ∈ GW := gw_of 367 (by decide +kernel) (by decide +kernel)
theorem wd368 : Cond.code yX3_isHome cX3_isHome 2 (some .boolean) ∈ GW := gw_of 368 (by decide +kernel) (by decide +kernel)
theorem wd369 : Cond.methodLink RX4 81 yX1_lengthAt ∈ GW := gw_of 369 (by decide +kernel) (by decide +kernel)
theorem wd370 : Cond.methodLink RX4 84 Lib.Math.max.name ∈ GW := gw_of 370 (by decide +kernel) (by decide +kernel)
theorem wd371 : Cond.methodLink RX4 66 yX2_empty ∈ GW := gw_of 371 (by decide +kernel) (by decide +kernel)
theorem wd372 : Cond.instanceMethod yX2_empty ∈ GW := gw_of 372 (by decide +kernel) (by decide +kernel)
theorem wd373 : Cond.selects RX2 yX2_empty yX2_empty ∈ GW := gw_of 373 (by decide +kernel) (by decide +kernel)
theorem wd374 : Cond.code yX2_empty cX2_empty 2 (some .int) ∈ GW := gw_of 374 (by decide +kernel) (by decide +kernel)
theorem wd375 : Cond.methodLink RL 23 yX4_door ∈ GW := gw_of 375 (by decide +kernel) (by decide +kernel)
theorem wd376 : Cond.instanceMethod yX4_door ∈ GW := gw_of 376 (by decide +kernel) (by decide +kernel)
theorem wd377 : Cond.selects RX4 yX4_door yX4_door ∈ GW := gw_of 377 (by decide +kernel) (by decide +kernel)
theorem wd378 : Cond.code yX4_door cX4_door 3 (some .int) ∈ GW := gw_of 378 (by decide +kernel) (by decide +kernel)
theorem wd379 : Cond.methodLink RX4 94 yX0_has ∈ GW := gw_of 379 (by decide +kernel) (by decide +kernel)
theorem wd380 : Cond.methodLink RL 28 yX4_person ∈ GW := gw_of 380 (by decide +kernel) (by decide +kernel)
theorem wd381 : Cond.instanceMethod yX4_person ∈ GW := gw_of 381 (by decide +kernel) (by decide +kernel)
theorem wd382 : Cond.selects RX4 yX4_person yX4_person ∈ GW := gw_of 382 (by decide +kernel) (by decide +kernel)
theorem wd383 : Cond.code yX4_person cX4_person 3 (some .int) ∈ GW := gw_of 383 (by decide +kernel) (by decide +kernel)
theorem wd384 : Cond.methodLink RX4 119 yX3_has ∈ GW := gw_of 384 (by decide +kernel) (by decide +kernel)
theorem wd385 : Cond.methodLink RX4 132 yX3_doorFor ∈ GW := gw_of 385 (by decide +kernel) (by decide +kernel)
theorem wd386 : Cond.methodLink RL 32 yX4_wedges ∈ GW := gw_of 386 (by decide +kernel) (by decide +kernel)
theorem wd387 : Cond.instanceMethod yX4_wedges ∈ GW := gw_of 387 (by decide +kernel) (by decide +kernel)
theorem wd388 : Cond.selects RX4 yX4_wedges yX4_wedges ∈ GW := gw_of 388 (by decide +kernel) (by decide +kernel)
theorem wd389 : Cond.code yX4_wedges cX4_wedges 2 (some .int) ∈ GW := gw_of 389 (by decide +kernel) (by decide +kernel)
theorem wd390 : Cond.methodLink RX4 136 yX0_wedgeOrNot ∈ GW := gw_of 390 (by decide +kernel) (by decide +kernel)
theorem wd391 : Cond.methodLink RL 36 yX4_turns ∈ GW := gw_of 391 (by decide +kernel) (by decide +kernel)
theorem wd392 : Cond.instanceMethod yX4_turns ∈ GW := gw_of 392 (by decide +kernel) (by decide +kernel)
theorem wd393 : Cond.selects RX4 yX4_turns yX4_turns ∈ GW := gw_of 393 (by decide +kernel) (by decide +kernel)
theorem wd394 : Cond.code yX4_turns cX4_turns 2 (some .int) ∈ GW := gw_of 394 (by decide +kernel) (by decide +kernel)
theorem wd395 : Cond.methodLink RX4 139 yX0_changeSides ∈ GW := gw_of 395 (by decide +kernel) (by decide +kernel)
theorem wd396 : Cond.methodLink RL 40 yX4_stands ∈ GW := gw_of 396 (by decide +kernel) (by decide +kernel)
theorem wd397 : Cond.instanceMethod yX4_stands ∈ GW := gw_of 397 (by decide +kernel) (by decide +kernel)
theorem wd398 : Cond.selects RX4 yX4_stands yX4_stands ∈ GW := gw_of 398 (by decide +kernel) (by decide +kernel)
theorem wd399 : Cond.code yX4_stands cX4_stands 3 (some .int) ∈ GW := gw_of 399 (by decide +kernel) (by decide +kernel)
theorem wd400 : Cond.methodLink RX4 142 yX4_isRoom ∈ GW := gw_of 400 (by decide +kernel) (by decide +kernel)
theorem wd401 : Cond.methodLink RX4 145 yX4_exchange ∈ GW := gw_of 401 (by decide +kernel) (by decide +kernel)
theorem wd402 : Cond.static yX4_exchange ∈ GW := gw_of 402 (by decide +kernel) (by decide +kernel)
theorem wd403 : Cond.code yX4_exchange cX4_exchange 4 (some .int) ∈ GW := gw_of 403 (by decide +kernel) (by decide +kernel)
theorem wd404 : Cond.methodLink RL 44 yX4_wants ∈ GW := gw_of 404 (by decide +kernel) (by decide +kernel)
theorem wd405 : Cond.instanceMethod yX4_wants ∈ GW := gw_of 405 (by decide +kernel) (by decide +kernel)
theorem wd406 : Cond.selects RX4 yX4_wants yX4_wants ∈ GW := gw_of 406 (by decide +kernel) (by decide +kernel)
theorem wd407 : Cond.code yX4_wants cX4_wants 3 (some .int) ∈ GW := gw_of 407 (by decide +kernel) (by decide +kernel)
theorem wd408 : Cond.methodLink RL 48 yX4_moods ∈ GW := gw_of 408 (by decide +kernel) (by decide +kernel)
theorem wd409 : Cond.instanceMethod yX4_moods ∈ GW := gw_of 409 (by decide +kernel) (by decide +kernel)
theorem wd410 : Cond.selects RX4 yX4_moods yX4_moods ∈ GW := gw_of 410 (by decide +kernel) (by decide +kernel)
theorem wd411 : Cond.code yX4_moods cX4_moods 3 (some .int) ∈ GW := gw_of 411 (by decide +kernel) (by decide +kernel)
theorem wd412 : Cond.methodLink RX4 149 yX4_refusedNumber ∈ GW := gw_of 412 (by decide +kernel) (by decide +kernel)
theorem wd414 : Cond.instanceMethod yX4_refusedNumber ∈ GW := gw_of 414 (by decide +kernel) (by decide +kernel)
theorem wd415 : Cond.code yX4_refusedNumber cX4_refusedNumber 2 (some .int) ∈ GW := gw_of 415 (by decide +kernel) (by decide +kernel)
theorem wd416 : Cond.methodLink RL 52 yX4_changes ∈ GW := gw_of 416 (by decide +kernel) (by decide +kernel)
theorem wd417 : Cond.instanceMethod yX4_changes ∈ GW := gw_of 417 (by decide +kernel) (by decide +kernel)
theorem wd418 : Cond.selects RX4 yX4_changes yX4_changes ∈ GW := gw_of 418 (by decide +kernel) (by decide +kernel)
theorem wd419 : Cond.code yX4_changes cX4_changes 4 (some .int) ∈ GW := gw_of 419 (by decide +kernel) (by decide +kernel)
theorem wd420 : Cond.methodLink RL 57 yX4_hours ∈ GW := gw_of 420 (by decide +kernel) (by decide +kernel)
theorem wd421 : Cond.instanceMethod yX4_hours ∈ GW := gw_of 421 (by decide +kernel) (by decide +kernel)
theorem wd422 : Cond.selects RX4 yX4_hours yX4_hours ∈ GW := gw_of 422 (by decide +kernel) (by decide +kernel)
theorem wd423 : Cond.code yX4_hours cX4_hours 2 (some .int) ∈ GW := gw_of 423 (by decide +kernel) (by decide +kernel)
theorem wd424 : Cond.methodLink RX4 152 yX3_goHours ∈ GW := gw_of 424 (by decide +kernel) (by decide +kernel)
theorem wd425 : Cond.methodLink RX4 156 yX3_homeCount ∈ GW := gw_of 425 (by decide +kernel) (by decide +kernel)
theorem wd426 : Cond.instanceMethod yX3_homeCount ∈ GW := gw_of 426 (by decide +kernel) (by decide +kernel)
theorem wd427 : Cond.selects RX3 yX3_homeCount yX3_homeCount ∈ GW := gw_of 427 (by decide +kernel) (by decide +kernel)
theorem wd428 : Cond.code yX3_homeCount cX3_homeCount 1 (some .int) ∈ GW := gw_of 428 (by decide +kernel) (by decide +kernel)
theorem wd429 : Cond.methodLink RX3 105 yX3_homeBits ∈ GW := gw_of 429 (by decide +kernel) (by decide +kernel)
theorem wd430 : Cond.instanceMethod yX3_homeBits ∈ GW := gw_of 430 (by decide +kernel) (by decide +kernel)
theorem wd431 : Cond.selects RX3 yX3_homeBits yX3_homeBits ∈ GW := gw_of 431 (by decide +kernel) (by decide +kernel)
theorem wd432 : Cond.code yX3_homeBits cX3_homeBits 3 (some .int) ∈ GW := gw_of 432 (by decide +kernel) (by decide +kernel)
theorem wd433 : Cond.methodLink RX3 99 yJ6_bitCount_0f7a4 ∈ GW := gw_of 433 (by decide +kernel) (by decide +kernel)
theorem wd434 : Cond.static yJ6_bitCount_0f7a4 ∈ GW := gw_of 434 (by decide +kernel) (by decide +kernel)
theorem wd435 : Cond.code yJ6_bitCount_0f7a4 cJ6_bitCount_0f7a4 1 (some .int) ∈ GW := gw_of 435 (by decide +kernel) (by decide +kernel)
theorem wd436 : Cond.constant RJ6 265 (1431655765) ∈ GW := gw_of 436 (by decide +kernel) (by decide +kernel)
theorem wd437 : Cond.constant RJ6 266 (858993459) ∈ GW := gw_of 437 (by decide +kernel) (by decide +kernel)
theorem wd438 : Cond.constant RJ6 267 (252645135) ∈ GW := gw_of 438 (by decide +kernel) (by decide +kernel)
theorem wd439 : Cond.methodLink RL 61 yX4_personThen ∈ GW := gw_of 439 (by decide +kernel) (by decide +kernel)
theorem wd440 : Cond.instanceMethod yX4_personThen ∈ GW := gw_of 440 (by decide +kernel) (by decide +kernel)
theorem wd441 : Cond.selects RX4 yX4_personThen yX4_personThen ∈ GW := gw_of 441 (by decide +kernel) (by decide +kernel)
theorem wd442 : Cond.code yX4_personThen cX4_personThen 4 (some .int) ∈ GW := gw_of 442 (by decide +kernel) (by decide +kernel)
theorem wd443 : Cond.methodLink RX4 159 yX4_isHalf ∈ GW := gw_of 443 (by decide +kernel) (by decide +kernel)
theorem wd444 : Cond.static yX4_isHalf ∈ GW := gw_of 444 (by decide +kernel) (by decide +kernel)
theorem wd445 : Cond.code yX4_isHalf cX4_isHalf 1 (some .boolean) ∈ GW := gw_of 445 (by decide +kernel) (by decide +kernel)
theorem wd446 : Cond.methodLink RL 65 yX4_letThen ∈ GW := gw_of 446 (by decide +kernel) (by decide +kernel)
theorem wd447 : Cond.instanceMethod yX4_letThen ∈ GW := gw_of 447 (by decide +kernel) (by decide +kernel)
theorem wd448 : Cond.selects RX4 yX4_letThen yX4_letThen ∈ GW := gw_of 448 (by decide +kernel) (by decide +kernel)
theorem wd449 : Cond.code yX4_letThen cX4_letThen 2 (some .int) ∈ GW := gw_of 449 (by decide +kernel) (by decide +kernel)
theorem wd450 : Cond.methodLink RL 69 yX4_comes ∈ GW := gw_of 450 (by decide +kernel) (by decide +kernel)
theorem wd451 : Cond.instanceMethod yX4_comes ∈ GW := gw_of 451 (by decide +kernel) (by decide +kernel)
theorem wd452 : Cond.selects RX4 yX4_comes yX4_comes ∈ GW := gw_of 452 (by decide +kernel) (by decide +kernel)
theorem wd453 : Cond.code yX4_comes cX4_comes 3 (some .int) ∈ GW := gw_of 453 (by decide +kernel) (by decide +kernel)
theorem wd454 : Cond.methodLink RX4 165 yX4_firstHourIn ∈ GW := gw_of 454 (by decide +kernel) (by decide +kernel)
theorem wd456 : Cond.instanceMethod yX4_firstHourIn ∈ GW := gw_of 456 (by decide +kernel) (by decide +kernel)
theorem wd457 : Cond.code yX4_firstHourIn cX4_firstHourIn 4 (some .int) ∈ GW := gw_of 457 (by decide +kernel) (by decide +kernel)
theorem wd458 : Cond.methodLink RL 73 yX4_home ∈ GW := gw_of 458 (by decide +kernel) (by decide +kernel)
theorem wd459 : Cond.instanceMethod yX4_home ∈ GW := gw_of 459 (by decide +kernel) (by decide +kernel)
theorem wd460 : Cond.selects RX4 yX4_home yX4_home ∈ GW := gw_of 460 (by decide +kernel) (by decide +kernel)
theorem wd461 : Cond.code yX4_home cX4_home 2 (some .int) ∈ GW := gw_of 461 (by decide +kernel) (by decide +kernel)
theorem wd462 : Cond.methodLink RX4 168 yX4_firstHourAllHome ∈ GW := gw_of 462 (by decide +kernel) (by decide +kernel)
theorem wd464 : Cond.instanceMethod yX4_firstHourAllHome ∈ GW := gw_of 464 (by decide +kernel) (by decide +kernel)
theorem wd465 : Cond.code yX4_firstHourAllHome cX4_firstHourAllHome 2 (some .int) ∈ GW := gw_of 465 (by decide +kernel) (by decide +kernel)
theorem wd466 : Cond.methodLink RL 77 yX4_shutIn ∈ GW := gw_of 466 (by decide +kernel) (by decide +kernel)
theorem wd467 : Cond.instanceMethod yX4_shutIn ∈ GW := gw_of 467 (by decide +kernel) (by decide +kernel)
theorem wd468 : Cond.selects RX4 yX4_shutIn yX4_shutIn ∈ GW := gw_of 468 (by decide +kernel) (by decide +kernel)
theorem wd469 : Cond.code yX4_shutIn cX4_shutIn 3 (some .int) ∈ GW := gw_of 469 (by decide +kernel) (by decide +kernel)
theorem wd470 : Cond.methodLink RX4 172 yX0_wayBetween ∈ GW := gw_of 470 (by decide +kernel) (by decide +kernel)
theorem wd471 : Cond.instanceMethod yX0_wayBetween ∈ GW := gw_of 471 (by decide +kernel) (by decide +kernel)
theorem wd472 : Cond.selects RX0 yX0_wayBetween yX0_wayBetween ∈ GW := gw_of 472 (by decide +kernel) (by decide +kernel)
theorem wd473 : Cond.code yX0_wayBetween cX0_wayBetween 3 (some .int) ∈ GW := gw_of 473 (by decide +kernel) (by decide +kernel)
theorem wd474 : Cond.methodLink RL 81 yX4_stuck ∈ GW := gw_of 474 (by decide +kernel) (by decide +kernel)
theorem wd475 : Cond.instanceMethod yX4_stuck ∈ GW := gw_of 475 (by decide +kernel) (by decide +kernel)
theorem wd476 : Cond.selects RX4 yX4_stuck yX4_stuck ∈ GW := gw_of 476 (by decide +kernel) (by decide +kernel)
theorem wd477 : Cond.code yX4_stuck cX4_stuck 3 (some .int) ∈ GW := gw_of 477 (by decide +kernel) (by decide +kernel)
theorem wd478 : Cond.methodLink RL 85 yX4_way ∈ GW := gw_of 478 (by decide +kernel) (by decide +kernel)
theorem wd479 : Cond.instanceMethod yX4_way ∈ GW := gw_of 479 (by decide +kernel) (by decide +kernel)
theorem wd480 : Cond.selects RX4 yX4_way yX4_way ∈ GW := gw_of 480 (by decide +kernel) (by decide +kernel)
theorem wd481 : Cond.code yX4_way cX4_way 6 (some .int) ∈ GW := gw_of 481 (by decide +kernel) (by decide +kernel)
theorem wd482 : Cond.methodLink RX4 175 yX4_toldWay ∈ GW := gw_of 482 (by decide +kernel) (by decide +kernel)
theorem wd483 : Cond.static yX4_toldWay ∈ GW := gw_of 483 (by decide +kernel) (by decide +kernel)
theorem wd484 : Cond.code yX4_toldWay cX4_toldWay 1 (some .int) ∈ GW := gw_of 484 (by decide +kernel) (by decide +kernel)
theorem wd485 : Cond.methodLink RX4 178 yX0_firstDoors ∈ GW := gw_of 485 (by decide +kernel) (by decide +kernel)
theorem wd486 : Cond.methodLink RX4 182 yX4_hasBit ∈ GW := gw_of 486 (by decide +kernel) (by decide +kernel)
theorem wd487 : Cond.methodLink RL 89 yX4_round ∈ GW := gw_of 487 (by decide +kernel) (by decide +kernel)
theorem wd488 : Cond.instanceMethod yX4_round ∈ GW := gw_of 488 (by decide +kernel) (by decide +kernel)
theorem wd489 : Cond.selects RX4 yX4_round yX4_round ∈ GW := gw_of 489 (by decide +kernel) (by decide +kernel)
theorem wd490 : Cond.code yX4_round cX4_round 4 (some .int) ∈ GW := gw_of 490 (by decide +kernel) (by decide +kernel)
theorem wd491 : Cond.methodLink RL 93 yX4_reach ∈ GW := gw_of 491 (by decide +kernel) (by decide +kernel)
theorem wd492 : Cond.instanceMethod yX4_reach ∈ GW := gw_of 492 (by decide +kernel) (by decide +kernel)
theorem wd493 : Cond.selects RX4 yX4_reach yX4_reach ∈ GW := gw_of 493 (by decide +kernel) (by decide +kernel)
theorem wd494 : Cond.code yX4_reach cX4_reach 4 (some .int) ∈ GW := gw_of 494 (by decide +kernel) (by decide +kernel)
theorem wd495 : Cond.methodLink RL 97 yX4_open ∈ GW := gw_of 495 (by decide +kernel) (by decide +kernel)
theorem wd496 : Cond.instanceMethod yX4_open ∈ GW := gw_of 496 (by decide +kernel) (by decide +kernel)
theorem wd497 : Cond.selects RX4 yX4_open yX4_open ∈ GW := gw_of 497 (by decide +kernel) (by decide +kernel)
theorem wd498 : Cond.code yX4_open cX4_open 3 (some .int) ∈ GW := gw_of 498 (by decide +kernel) (by decide +kernel)
theorem wd499 : Cond.methodLink RX4 189 yX3_opens ∈ GW := gw_of 499 (by decide +kernel) (by decide +kernel)
theorem wd500 : Cond.methodLink RL 101 yX4_helper ∈ GW := gw_of 500 (by decide +kernel) (by decide +kernel)
theorem wd501 : Cond.instanceMethod yX4_helper ∈ GW := gw_of 501 (by decide +kernel) (by decide +kernel)
theorem wd502 : Cond.selects RX4 yX4_helper yX4_helper ∈ GW := gw_of 502 (by decide +kernel) (by decide +kernel)
theorem wd503 : Cond.code yX4_helper cX4_helper 7 (some .int) ∈ GW := gw_of 503 (by decide +kernel) (by decide +kernel)
theorem wd504 : Cond.methodLink RX4 192 yX4_homeWithHelper ∈ GW := gw_of 504 (by decide +kernel) (by decide +kernel)
theorem wd506 : Cond.instanceMethod yX4_homeWithHelper ∈ GW := gw_of 506 (by decide +kernel) (by decide +kernel)
theorem wd507 : Cond.code yX4_homeWithHelper cX4_homeWithHelper 3 (some .int) ∈ GW := gw_of 507 (by decide +kernel) (by decide +kernel)
theorem wd508 : Cond.methodLink RX4 195 yX3_addPerson ∈ GW := gw_of 508 (by decide +kernel) (by decide +kernel)
theorem wd509 : Cond.methodLink RL 105 yX4_fewest ∈ GW := gw_of 509 (by decide +kernel) (by decide +kernel)
theorem wd510 : Cond.instanceMethod yX4_fewest ∈ GW := gw_of 510 (by decide +kernel) (by decide +kernel)
theorem wd511 : Cond.selects RX4 yX4_fewest yX4_fewest ∈ GW := gw_of 511 (by decide +kernel) (by decide +kernel)
theorem wd512 : Cond.code yX4_fewest cX4_fewest 6 (some .int) ∈ GW := gw_of 512 (by decide +kernel) (by decide +kernel)
theorem wd513 : Cond.methodLink RX4 199 yJ6_bitCount_0f7a4 ∈ GW := gw_of 513 (by decide +kernel) (by decide +kernel)
theorem wd514 : Cond.methodLink RX4 204 yX4_isHomeWhileStay ∈ GW := gw_of 514 (by decide +kernel) (by decide +kernel)
theorem wd516 : Cond.instanceMethod yX4_isHomeWhileStay ∈ GW := gw_of 516 (by decide +kernel) (by decide +kernel)
theorem wd517 : Cond.code yX4_isHomeWhileStay cX4_isHomeWhileStay 5 (some .boolean) ∈ GW := gw_of 517 (by decide +kernel) (by decide +kernel)
theorem wd518 : Cond.methodLink RX4 208 yX3_stay ∈ GW := gw_of 518 (by decide +kernel) (by decide +kernel)
theorem wd519 : Cond.instanceMethod yX3_stay ∈ GW := gw_of 519 (by decide +kernel) (by decide +kernel)
theorem wd520 : Cond.selects RX3 yX3_stay yX3_stay ∈ GW := gw_of 520 (by decide +kernel) (by decide +kernel)
theorem wd521 : Cond.code yX3_stay cX3_stay 2 none ∈ GW := gw_of 521 (by decide +kernel) (by decide +kernel)
theorem wd522 : Cond.methodLink RX4 211 yX3_isHome ∈ GW := gw_of 522 (by decide +kernel) (by decide +kernel)
theorem wd523 : Cond.methodLink RL 109 yX4_turn ∈ GW := gw_of 523 (by decide +kernel) (by decide +kernel)
theorem wd524 : Cond.instanceMethod yX4_turn ∈ GW := gw_of 524 (by decide +kernel) (by decide +kernel)
theorem wd525 : Cond.selects RX4 yX4_turn yX4_turn ∈ GW := gw_of 525 (by decide +kernel) (by decide +kernel)
theorem wd526 : Cond.code yX4_turn cX4_turn 2 (some .int) ∈ GW := gw_of 526 (by decide +kernel) (by decide +kernel)
theorem wd527 : Cond.methodLink RX4 214 yX4_doorToChange ∈ GW := gw_of 527 (by decide +kernel) (by decide +kernel)
theorem wd529 : Cond.instanceMethod yX4_doorToChange ∈ GW := gw_of 529 (by decide +kernel) (by decide +kernel)
theorem wd530 : Cond.code yX4_doorToChange cX4_doorToChange 6 (some .int) ∈ GW := gw_of 530 (by decide +kernel) (by decide +kernel)
theorem wd531 : Cond.methodLink RL 113 yX4_wedge ∈ GW := gw_of 531 (by decide +kernel) (by decide +kernel)
theorem wd532 : Cond.instanceMethod yX4_wedge ∈ GW := gw_of 532 (by decide +kernel) (by decide +kernel)
theorem wd533 : Cond.selects RX4 yX4_wedge yX4_wedge ∈ GW := gw_of 533 (by decide +kernel) (by decide +kernel)
theorem wd534 : Cond.code yX4_wedge cX4_wedge 2 (some .int) ∈ GW := gw_of 534 (by decide +kernel) (by decide +kernel)
theorem wd535 : Cond.methodLink RL 117 yX4_holds ∈ GW := gw_of 535 (by decide +kernel) (by decide +kernel)
theorem wd536 : Cond.instanceMethod yX4_holds ∈ GW := gw_of 536 (by decide +kernel) (by decide +kernel)
theorem wd537 : Cond.selects RX4 yX4_holds yX4_holds ∈ GW := gw_of 537 (by decide +kernel) (by decide +kernel)
theorem wd538 : Cond.code yX4_holds cX4_holds 6 (some .int) ∈ GW := gw_of 538 (by decide +kernel) (by decide +kernel)
theorem wd539 : Cond.methodLink RX4 221 yX3_removePerson ∈ GW := gw_of 539 (by decide +kernel) (by decide +kernel)
theorem wd540 : Cond.instanceMethod yX3_removePerson ∈ GW := gw_of 540 (by decide +kernel) (by decide +kernel)
theorem wd541 : Cond.selects RX3 yX3_removePerson yX3_removePerson ∈ GW := gw_of 541 (by decide +kernel) (by decide +kernel)
theorem wd542 : Cond.code yX3_removePerson cX3_removePerson 3 none ∈ GW := gw_of 542 (by decide +kernel) (by decide +kernel)
theorem wd543 : Cond.methodLink RX3 54 yX3_has ∈ GW := gw_of 543 (by decide +kernel) (by decide +kernel)
theorem wd544 : Cond.methodLink RL 121 yX4_crowd ∈ GW := gw_of 544 (by decide +kernel) (by decide +kernel)
theorem wd545 : Cond.instanceMethod yX4_crowd ∈ GW := gw_of 545 (by decide +kernel) (by decide +kernel)
theorem wd546 : Cond.selects RX4 yX4_crowd yX4_crowd ∈ GW := gw_of 546 (by decide +kernel) (by decide +kernel)
theorem wd547 : Cond.code yX4_crowd cX4_crowd 2 (some .int) ∈ GW := gw_of 547 (by decide +kernel) (by decide +kernel)
theorem wd548 : Cond.methodLink RX4 224 yX4_crowdedRoom ∈ GW := gw_of 548 (by decide +kernel) (by decide +kernel)
theorem wd550 : Cond.instanceMethod yX4_crowdedRoom ∈ GW := gw_of 550 (by decide +kernel) (by decide +kernel)
theorem wd551 : Cond.code yX4_crowdedRoom cX4_crowdedRoom 3 (some .int) ∈ GW := gw_of 551 (by decide +kernel) (by decide +kernel)
theorem wd552 : Cond.methodLink RX4 227 yX3_countIn ∈ GW := gw_of 552 (by decide +kernel) (by decide +kernel)
theorem wd553 : Cond.instanceMethod yX3_countIn ∈ GW := gw_of 553 (by decide +kernel) (by decide +kernel)
theorem wd554 : Cond.selects RX3 yX3_countIn yX3_countIn ∈ GW := gw_of 554 (by decide +kernel) (by decide +kernel)
theorem wd555 : Cond.code yX3_countIn cX3_countIn 2 (some .int) ∈ GW := gw_of 555 (by decide +kernel) (by decide +kernel)
theorem wd556 : Cond.methodLinkNest RX3 95 yX4_bitsOf RX4 ∈ NWl := nw_of 556 (by decide +kernel) rfl
theorem wd557 : Cond.static yX4_bitsOf ∈ GW := gw_of 557 (by decide +kernel) (by decide +kernel)
theorem wd558 : Cond.code yX4_bitsOf cX4_bitsOf 5 (some .int) ∈ GW := gw_of 558 (by decide +kernel) (by decide +kernel)
theorem wd559 : Cond.methodLink RX4 230 yX4_emptyRooms ∈ GW := gw_of 559 (by decide +kernel) (by decide +kernel)
theorem wd561 : Cond.instanceMethod yX4_emptyRooms ∈ GW := gw_of 561 (by decide +kernel) (by decide +kernel)
theorem wd562 : Cond.code yX4_emptyRooms cX4_emptyRooms 3 (some .int) ∈ GW := gw_of 562 (by decide +kernel) (by decide +kernel)
theorem wd563 : Cond.methodLink RX4 233 yX4_deadRooms ∈ GW := gw_of 563 (by decide +kernel) (by decide +kernel)
theorem wd565 : Cond.instanceMethod yX4_deadRooms ∈ GW := gw_of 565 (by decide +kernel) (by decide +kernel)
theorem wd566 : Cond.code yX4_deadRooms cX4_deadRooms 3 (some .int) ∈ GW := gw_of 566 (by decide +kernel) (by decide +kernel)
theorem wd567 : Cond.methodLink RX4 236 yX4_bitsOf ∈ GW := gw_of 567 (by decide +kernel) (by decide +kernel)
theorem wd568 : Cond.methodLink RL 125 yX4_handles ∈ GW := gw_of 568 (by decide +kernel) (by decide +kernel)
theorem wd569 : Cond.instanceMethod yX4_handles ∈ GW := gw_of 569 (by decide +kernel) (by decide +kernel)
theorem wd570 : Cond.selects RX4 yX4_handles yX4_handles ∈ GW := gw_of 570 (by decide +kernel) (by decide +kernel)
theorem wd571 : Cond.code yX4_handles cX4_handles 2 (some .int) ∈ GW := gw_of 571 (by decide +kernel) (by decide +kernel)
theorem wd572 : Cond.methodLink RL 129 yX4_meet ∈ GW := gw_of 572 (by decide +kernel) (by decide +kernel)
theorem wd573 : Cond.instanceMethod yX4_meet ∈ GW := gw_of 573 (by decide +kernel) (by decide +kernel)
theorem wd574 : Cond.selects RX4 yX4_meet yX4_meet ∈ GW := gw_of 574 (by decide +kernel) (by decide +kernel)
theorem wd575 : Cond.code yX4_meet cX4_meet 6 (some .int) ∈ GW := gw_of 575 (by decide +kernel) (by decide +kernel)
theorem wd576 : Cond.methodLink RX4 239 yX4_waysOfAllTo ∈ GW := gw_of 576 (by decide +kernel) (by decide +kernel)
theorem wd578 : Cond.instanceMethod yX4_waysOfAllTo ∈ GW := gw_of 578 (by decide +kernel) (by decide +kernel)
theorem wd579 : Cond.code yX4_waysOfAllTo cX4_waysOfAllTo 4 (some .int) ∈ GW := gw_of 579 (by decide +kernel) (by decide +kernel)
theorem wd580 : Cond.methodLink RL 133 yX4_two ∈ GW := gw_of 580 (by decide +kernel) (by decide +kernel)
theorem wd581 : Cond.instanceMethod yX4_two ∈ GW := gw_of 581 (by decide +kernel) (by decide +kernel)
theorem wd582 : Cond.selects RX4 yX4_two yX4_two ∈ GW := gw_of 582 (by decide +kernel) (by decide +kernel)
theorem wd583 : Cond.code yX4_two cX4_two 7 (some .int) ∈ GW := gw_of 583 (by decide +kernel) (by decide +kernel)
theorem wd584 : Cond.methodLink RX4 242 yX4_tryPair ∈ GW := gw_of 584 (by decide +kernel) (by decide +kernel)
theorem wd586 : Cond.instanceMethod yX4_tryPair ∈ GW := gw_of 586 (by decide +kernel) (by decide +kernel)
theorem wd587 : Cond.code yX4_tryPair cX4_tryPair 5 none ∈ GW := gw_of 587 (by decide +kernel) (by decide +kernel)
theorem wd588 : Cond.methodLink RX4 246 yX4_gainOf ∈ GW := gw_of 588 (by decide +kernel) (by decide +kernel)
theorem wd590 : Cond.instanceMethod yX4_gainOf ∈ GW := gw_of 590 (by decide +kernel) (by decide +kernel)
theorem wd591 : Cond.code yX4_gainOf cX4_gainOf 2 (some .int) ∈ GW := gw_of 591 (by decide +kernel) (by decide +kernel)
theorem wd592 : Cond.methodLink RL 137 yX4_fire ∈ GW := gw_of 592 (by decide +kernel) (by decide +kernel)
theorem wd593 : Cond.instanceMethod yX4_fire ∈ GW := gw_of 593 (by decide +kernel) (by decide +kernel)
theorem wd594 : Cond.selects RX4 yX4_fire yX4_fire ∈ GW := gw_of 594 (by decide +kernel) (by decide +kernel)
theorem wd595 : Cond.code yX4_fire cX4_fire 9 (some .long) ∈ GW := gw_of 595 (by decide +kernel) (by decide +kernel)
theorem wd596 : Cond.methodLink RX4 249 yX4_refusedLong ∈ GW := gw_of 596 (by decide +kernel) (by decide +kernel)
theorem wd598 : Cond.instanceMethod yX4_refusedLong ∈ GW := gw_of 598 (by decide +kernel) (by decide +kernel)
theorem wd599 : Cond.code yX4_refusedLong cX4_refusedLong 2 (some .long) ∈ GW := gw_of 599 (by decide +kernel) (by decide +kernel)
theorem wd600 : Cond.constantLong RX4 299 (4000000000000000000) ∈ GW := gw_of 600 (by decide +kernel) (by decide +kernel)
theorem wd601 : Cond.methodLink RX4 253 yX4_isInBehindFires ∈ GW := gw_of 601 (by decide +kernel) (by decide +kernel)
theorem wd603 : Cond.instanceMethod yX4_isInBehindFires ∈ GW := gw_of 603 (by decide +kernel) (by decide +kernel)
theorem wd604 : Cond.code yX4_isInBehindFires cX4_isInBehindFires 6 (some .boolean) ∈ GW := gw_of 604 (by decide +kernel) (by decide +kernel)
theorem wd605 : Cond.methodLink RX4 257 yX4_power ∈ GW := gw_of 605 (by decide +kernel) (by decide +kernel)
theorem wd606 : Cond.static yX4_power ∈ GW := gw_of 606 (by decide +kernel) (by decide +kernel)
theorem wd607 : Cond.code yX4_power cX4_power 5 (some .long) ∈ GW := gw_of 607 (by decide +kernel) (by decide +kernel)
theorem wd608 : Cond.methodLink RX4 261 yX4_partOf ∈ GW := gw_of 608 (by decide +kernel) (by decide +kernel)
theorem wd609 : Cond.static yX4_partOf ∈ GW := gw_of 609 (by decide +kernel) (by decide +kernel)
theorem wd610 : Cond.code yX4_partOf cX4_partOf 7 (some .long) ∈ GW := gw_of 610 (by decide +kernel) (by decide +kernel)
theorem wd611 : Cond.methodLink RX4 307 yX4_commonDivisor ∈ GW := gw_of 611 (by decide +kernel) (by decide +kernel)
theorem wd612 : Cond.static yX4_commonDivisor ∈ GW := gw_of 612 (by decide +kernel) (by decide +kernel)
theorem wd613 : Cond.code yX4_commonDivisor cX4_commonDivisor 11 (some .long) ∈ GW := gw_of 613 (by decide +kernel) (by decide +kernel)
theorem wd614 : Cond.methodLink RL 142 yX4_mean ∈ GW := gw_of 614 (by decide +kernel) (by decide +kernel)
theorem wd615 : Cond.instanceMethod yX4_mean ∈ GW := gw_of 615 (by decide +kernel) (by decide +kernel)
theorem wd616 : Cond.selects RX4 yX4_mean yX4_mean ∈ GW := gw_of 616 (by decide +kernel) (by decide +kernel)
theorem wd617 : Cond.code yX4_mean cX4_mean 2 (some .long) ∈ GW := gw_of 617 (by decide +kernel) (by decide +kernel)
theorem wd618 : Cond.methodLink RX4 265 yX3_moodsTogether ∈ GW := gw_of 618 (by decide +kernel) (by decide +kernel)
theorem wd619 : Cond.instanceMethod yX3_moodsTogether ∈ GW := gw_of 619 (by decide +kernel) (by decide +kernel)
theorem wd620 : Cond.selects RX3 yX3_moodsTogether yX3_moodsTogether ∈ GW := gw_of 620 (by decide +kernel) (by decide +kernel)
theorem wd621 : Cond.code yX3_moodsTogether cX3_moodsTogether 3 (some .int) ∈ GW := gw_of 621 (by decide +kernel) (by decide +kernel)
theorem wd622 : Cond.methodLink RL 147 yX4_whatIs ∈ GW := gw_of 622 (by decide +kernel) (by decide +kernel)
theorem wd623 : Cond.instanceMethod yX4_whatIs ∈ GW := gw_of 623 (by decide +kernel) (by decide +kernel)
theorem wd624 : Cond.selects RX4 yX4_whatIs yX4_whatIs ∈ GW := gw_of 624 (by decide +kernel) (by decide +kernel)
theorem wd625 : Cond.code yX4_whatIs cX4_whatIs 4 (some .int) ∈ GW := gw_of 625 (by decide +kernel) (by decide +kernel)
theorem wd626 : Cond.methodLink RX4 268 yX4_kindsByRow ∈ GW := gw_of 626 (by decide +kernel) (by decide +kernel)
theorem wd628 : Cond.instanceMethod yX4_kindsByRow ∈ GW := gw_of 628 (by decide +kernel) (by decide +kernel)
theorem wd629 : Cond.code yX4_kindsByRow cX4_kindsByRow 5 (some .int) ∈ GW := gw_of 629 (by decide +kernel) (by decide +kernel)
theorem wd630 : Cond.methodLink RX4 274 yX4_isMindAsRow ∈ GW := gw_of 630 (by decide +kernel) (by decide +kernel)
theorem wd632 : Cond.instanceMethod yX4_isMindAsRow ∈ GW := gw_of 632 (by decide +kernel) (by decide +kernel)
theorem wd633 : Cond.code yX4_isMindAsRow cX4_isMindAsRow 3 (some .boolean) ∈ GW := gw_of 633 (by decide +kernel) (by decide +kernel)
theorem wd634 : Cond.methodLink RX4 271 yX4_goalsByRow ∈ GW := gw_of 634 (by decide +kernel) (by decide +kernel)
theorem wd636 : Cond.instanceMethod yX4_goalsByRow ∈ GW := gw_of 636 (by decide +kernel) (by decide +kernel)
theorem wd637 : Cond.code yX4_goalsByRow cX4_goalsByRow 4 (some .int) ∈ GW := gw_of 637 (by decide +kernel) (by decide +kernel)
theorem wd638 : Cond.methodLink RL 151 yX4_row ∈ GW := gw_of 638 (by decide +kernel) (by decide +kernel)
theorem wd639 : Cond.instanceMethod yX4_row ∈ GW := gw_of 639 (by decide +kernel) (by decide +kernel)
theorem wd640 : Cond.selects RX4 yX4_row yX4_row ∈ GW := gw_of 640 (by decide +kernel) (by decide +kernel)
theorem wd641 : Cond.code yX4_row cX4_row 2 (some .int) ∈ GW := gw_of 641 (by decide +kernel) (by decide +kernel)
theorem wd642 : Cond.methodLink RL 155 yX4_judge ∈ GW := gw_of 642 (by decide +kernel) (by decide +kernel)
theorem wd643 : Cond.instanceMethod yX4_judge ∈ GW := gw_of 643 (by decide +kernel) (by decide +kernel)
theorem wd644 : Cond.selects RX4 yX4_judge yX4_judge ∈ GW := gw_of 644 (by decide +kernel) (by decide +kernel)
theorem wd645 : Cond.code yX4_judge cX4_judge 3 (some .int) ∈ GW := gw_of 645 (by decide +kernel) (by decide +kernel)
theorem wd646 : Cond.methodLink RL 159 yX4_clear ∈ GW := gw_of 646 (by decide +kernel) (by decide +kernel)
theorem wd647 : Cond.instanceMethod yX4_clear ∈ GW := gw_of 647 (by decide +kernel) (by decide +kernel)
theorem wd648 : Cond.selects RX4 yX4_clear yX4_clear ∈ GW := gw_of 648 (by decide +kernel) (by decide +kernel)
theorem wd649 : Cond.code yX4_clear cX4_clear 1 (some .int) ∈ GW := gw_of 649 (by decide +kernel) (by decide +kernel)
theorem wd650 : Cond.methodLink RL 163 yX4_lots ∈ GW := gw_of 650 (by decide +kernel) (by decide +kernel)
theorem wd651 : Cond.instanceMethod yX4_lots ∈ GW := gw_of 651 (by decide +kernel) (by decide +kernel)
theorem wd652 : Cond.selects RX4 yX4_lots yX4_lots ∈ GW := gw_of 652 (by decide +kernel) (by decide +kernel)
theorem wd653 : Cond.code yX4_lots cX4_lots 8 (some .int) ∈ GW := gw_of 653 (by decide +kernel) (by decide +kernel)
theorem wd654 : Cond.methodLink RX4 280 yX4_placeByLot ∈ GW := gw_of 654 (by decide +kernel) (by decide +kernel)
theorem wd656 : Cond.instanceMethod yX4_placeByLot ∈ GW := gw_of 656 (by decide +kernel) (by decide +kernel)
theorem wd657 : Cond.code yX4_placeByLot cX4_placeByLot 4 (some .int) ∈ GW := gw_of 657 (by decide +kernel) (by decide +kernel)
theorem wd658 : Cond.methodLink RX4 283 yX4_nextSeed ∈ GW := gw_of 658 (by decide +kernel) (by decide +kernel)
theorem wd659 : Cond.static yX4_nextSeed ∈ GW := gw_of 659 (by decide +kernel) (by decide +kernel)
theorem wd660 : Cond.code yX4_nextSeed cX4_nextSeed 1 (some .int) ∈ GW := gw_of 660 (by decide +kernel) (by decide +kernel)
theorem wd661 : Cond.constant RX4 289 (1664525) ∈ GW := gw_of 661 (by decide +kernel) (by decide +kernel)
theorem wd662 : Cond.constant RX4 290 (1013904223) ∈ GW := gw_of 662 (by decide +kernel) (by decide +kernel)
theorem wd663 : Cond.methodLink RX4 286 yX4_draw ∈ GW := gw_of 663 (by decide +kernel) (by decide +kernel)
theorem wd664 : Cond.static yX4_draw ∈ GW := gw_of 664 (by decide +kernel) (by decide +kernel)
theorem wd665 : Cond.code yX4_draw cX4_draw 1 (some .int) ∈ GW := gw_of 665 (by decide +kernel) (by decide +kernel)
theorem wd666 : Cond.constant RX4 291 (2147483647) ∈ GW := gw_of 666 (by decide +kernel) (by decide +kernel)
theorem wd667 : Cond.methodLink RL 167 yX4_image ∈ GW := gw_of 667 (by decide +kernel) (by decide +kernel)
theorem wd668 : Cond.instanceMethod yX4_image ∈ GW := gw_of 668 (by decide +kernel) (by decide +kernel)
theorem wd669 : Cond.selects RX4 yX4_image yX4_image ∈ GW := gw_of 669 (by decide +kernel) (by decide +kernel)
theorem wd670 : Cond.code yX4_image cX4_image 1 (some .int) ∈ GW := gw_of 670 (by decide +kernel) (by decide +kernel)
theorem wd671 : Cond.methodLink RL 171 yX4_on ∈ GW := gw_of 671 (by decide +kernel) (by decide +kernel)
theorem wd672 : Cond.instanceMethod yX4_on ∈ GW := gw_of 672 (by decide +kernel) (by decide +kernel)
theorem wd673 : Cond.selects RX4 yX4_on yX4_on ∈ GW := gw_of 673 (by decide +kernel) (by decide +kernel)
theorem wd674 : Cond.code yX4_on cX4_on 1 (some .int) ∈ GW := gw_of 674 (by decide +kernel) (by decide +kernel)
theorem wd675 : Cond.methodLink RL 175 yX4_count ∈ GW := gw_of 675 (by decide +kernel) (by decide +kernel)
theorem wd676 : Cond.instanceMethod yX4_count ∈ GW := gw_of 676 (by decide +kernel) (by decide +kernel)
theorem wd677 : Cond.selects RX4 yX4_count yX4_count ∈ GW := gw_of 677 (by decide +kernel) (by decide +kernel)
theorem wd678 : Cond.code yX4_count cX4_count 2 (some .int) ∈ GW := gw_of 678 (by decide +kernel) (by decide +kernel)
theorem wd679 : Cond.methodLink RX4 296 yX3_homeBits ∈ GW := gw_of 679 (by decide +kernel) (by decide +kernel)
theorem wd680 : Cond.classLink RL 10 RX5 ∈ GW := gw_of 680 (by decide +kernel) (by decide +kernel)
theorem wd681 : Cond.instantiable RX5 14 ∈ GW := gw_of 681 (by decide +kernel) (by decide +kernel)
theorem wd682 : Cond.methodLink RL 12 yX5_init ∈ GW := gw_of 682 (by decide +kernel) (by decide +kernel)
theorem wd683 : Cond.instanceMethod yX5_init ∈ GW := gw_of 683 (by decide +kernel) (by decide +kernel)
theorem wd684 : Cond.code yX5_init cX5_init 1 none ∈ GW := gw_of 684 (by decide +kernel) (by decide +kernel)
theorem wd685 : Cond.methodLink RX5 1 objectInit ∈ GW := gw_of 685 (by decide +kernel) (by decide +kernel)
theorem wd686 : Cond.fieldLink RX5 9 RX5 "s" "[I" ∈ GW := gw_of 686 (by decide +kernel) (by decide +kernel)
theorem wd687 : Cond.fieldLink RX5 13 RX5 "m" "[I" ∈ GW := gw_of 687 (by decide +kernel) (by decide +kernel)
theorem wd688 : Cond.fieldLink RX5 16 RX5 "image" "[I" ∈ GW := gw_of 688 (by decide +kernel) (by decide +kernel)
theorem wd689 : Cond.fieldLink RX5 19 RX5 "was" "[I" ∈ GW := gw_of 689 (by decide +kernel) (by decide +kernel)
theorem wd690 : Cond.fieldLink RX5 22 RX5 "far" "[I" ∈ GW := gw_of 690 (by decide +kernel) (by decide +kernel)
theorem wd691 : Cond.fieldLink RX5 224 RX5 "hasImage" "Z" ∈ GW := gw_of 691 (by decide +kernel) (by decide +kernel)
theorem wd692 : Cond.fieldLink RX5 25 RX5 "letters" "[I" ∈ GW := gw_of 692 (by decide +kernel) (by decide +kernel)
theorem wd693 : Cond.fieldLink RX5 28 RX5 "row" "[I" ∈ GW := gw_of 693 (by decide +kernel) (by decide +kernel)
theorem wd694 : Cond.fieldLink RX5 31 RX5 "refused" "[I" ∈ GW := gw_of 694 (by decide +kernel) (by decide +kernel)
theorem wd695 : Cond.fieldLink RX5 90 RX5 "letterMany" "I" ∈ GW := gw_of 695 (by decide +kernel) (by decide +kernel)
theorem wd696 : Cond.fieldLink RX5 212 RX5 "rowMany" "I" ∈ GW := gw_of 696 (by decide +kernel) (by decide +kernel)
theorem wd697 : Cond.fieldLink RX5 94 RX5 "place" "I" ∈ GW := gw_of 697 (by decide +kernel) (by decide +kernel)
theorem wd698 : Cond.fieldLink RX5 34 RX5 "numbers" "[I" ∈ GW := gw_of 698 (by decide +kernel) (by decide +kernel)
theorem wd699 : Cond.fieldLink RX5 215 RX5 "seed" "I" ∈ GW := gw_of 699 (by decide +kernel) (by decide +kernel)
theorem wd700 : Cond.laysFinal RX5 RX5 "s" "[I" ∈ GW := gw_of 700 (by decide +kernel) (by decide +kernel)
theorem wd702 : Cond.laysFinal RX5 RX5 "m" "[I" ∈ GW := gw_of 702 (by decide +kernel) (by decide +kernel)
theorem wd704 : Cond.laysFinal RX5 RX5 "image" "[I" ∈ GW := gw_of 704 (by decide +kernel) (by decide +kernel)
theorem wd706 : Cond.laysFinal RX5 RX5 "was" "[I" ∈ GW := gw_of 706 (by decide +kernel) (by decide +kernel)
theorem wd708 : Cond.laysFinal RX5 RX5 "far" "[I" ∈ GW := gw_of 708 (by decide +kernel) (by decide +kernel)
theorem wd710 : Cond.lays RX5 RX5 "hasImage" "Z" ∈ GW := gw_of 710 (by decide +kernel) (by decide +kernel)
theorem wd712 : Cond.laysFinal RX5 RX5 "letters" "[I" ∈ GW := gw_of 712 (by decide +kernel) (by decide +kernel)
theorem wd714 : Cond.laysFinal RX5 RX5 "row" "[I" ∈ GW := gw_of 714 (by decide +kernel) (by decide +kernel)
theorem wd716 : Cond.laysFinal RX5 RX5 "refused" "[I" ∈ GW := gw_of 716 (by decide +kernel) (by decide +kernel)
theorem wd718 : Cond.lays RX5 RX5 "letterMany" "I" ∈ GW := gw_of 718 (by decide +kernel) (by decide +kernel)
theorem wd720 : Cond.lays RX5 RX5 "rowMany" "I" ∈ GW := gw_of 720 (by decide +kernel) (by decide +kernel)
theorem wd722 : Cond.lays RX5 RX5 "place" "I" ∈ GW := gw_of 722 (by decide +kernel) (by decide +kernel)
theorem wd724 : Cond.laysFinal RX5 RX5 "numbers" "[I" ∈ GW := gw_of 724 (by decide +kernel) (by decide +kernel)
theorem wd726 : Cond.lays RX5 RX5 "seed" "I" ∈ GW := gw_of 726 (by decide +kernel) (by decide +kernel)
theorem wd729 : Cond.methodLink RL 17 yX5_letter ∈ GW := gw_of 729 (by decide +kernel) (by decide +kernel)
theorem wd730 : Cond.instanceMethod yX5_letter ∈ GW := gw_of 730 (by decide +kernel) (by decide +kernel)
theorem wd731 : Cond.selects RX5 yX5_letter yX5_letter ∈ GW := gw_of 731 (by decide +kernel) (by decide +kernel)
theorem wd732 : Cond.code yX5_letter cX5_letter 2 (some .int) ∈ GW := gw_of 732 (by decide +kernel) (by decide +kernel)
theorem wd733 : Cond.methodLink RX5 39 yX5_no ∈ GW := gw_of 733 (by decide +kernel) (by decide +kernel)
theorem wd735 : Cond.instanceMethod yX5_no ∈ GW := gw_of 735 (by decide +kernel) (by decide +kernel)
theorem wd736 : Cond.code yX5_no cX5_no 2 (some .int) ∈ GW := gw_of 736 (by decide +kernel) (by decide +kernel)
theorem wd737 : Cond.methodLink RL 22 yX5_town ∈ GW := gw_of 737 (by decide +kernel) (by decide +kernel)
theorem wd738 : Cond.instanceMethod yX5_town ∈ GW := gw_of 738 (by decide +kernel) (by decide +kernel)
theorem wd739 : Cond.selects RX5 yX5_town yX5_town ∈ GW := gw_of 739 (by decide +kernel) (by decide +kernel)
theorem wd740 : Cond.code yX5_town cX5_town 6 (some .int) ∈ GW := gw_of 740 (by decide +kernel) (by decide +kernel)
theorem wd741 : Cond.methodLink RX5 135 yX5_readsStatement ∈ GW := gw_of 741 (by decide +kernel) (by decide +kernel)
theorem wd743 : Cond.instanceMethod yX5_readsStatement ∈ GW := gw_of 743 (by decide +kernel) (by decide +kernel)
theorem wd744 : Cond.code yX5_readsStatement cX5_readsStatement 3 (some .boolean) ∈ GW := gw_of 744 (by decide +kernel) (by decide +kernel)
theorem wd745 : Cond.methodLink RX5 97 yX5_here ∈ GW := gw_of 745 (by decide +kernel) (by decide +kernel)
theorem wd747 : Cond.instanceMethod yX5_here ∈ GW := gw_of 747 (by decide +kernel) (by decide +kernel)
theorem wd748 : Cond.code yX5_here cX5_here 1 (some .int) ∈ GW := gw_of 748 (by decide +kernel) (by decide +kernel)
theorem wd749 : Cond.methodLink RX5 104 yX5_readsKind ∈ GW := gw_of 749 (by decide +kernel) (by decide +kernel)
theorem wd751 : Cond.instanceMethod yX5_readsKind ∈ GW := gw_of 751 (by decide +kernel) (by decide +kernel)
theorem wd752 : Cond.code yX5_readsKind cX5_readsKind 1 (some .boolean) ∈ GW := gw_of 752 (by decide +kernel) (by decide +kernel)
theorem wd753 : Cond.methodLink RX5 101 yX5_kindBy ∈ GW := gw_of 753 (by decide +kernel) (by decide +kernel)
theorem wd754 : Cond.static yX5_kindBy ∈ GW := gw_of 754 (by decide +kernel) (by decide +kernel)
theorem wd755 : Cond.code yX5_kindBy cX5_kindBy 1 (some .int) ∈ GW := gw_of 755 (by decide +kernel) (by decide +kernel)
theorem wd756 : Cond.methodLink RX5 108 yX5_readsNumber ∈ GW := gw_of 756 (by decide +kernel) (by decide +kernel)
theorem wd758 : Cond.instanceMethod yX5_readsNumber ∈ GW := gw_of 758 (by decide +kernel) (by decide +kernel)
theorem wd759 : Cond.code yX5_readsNumber cX5_readsNumber 4 (some .boolean) ∈ GW := gw_of 759 (by decide +kernel) (by decide +kernel)
theorem wd760 : Cond.methodLink RX5 43 yX5_isIn ∈ GW := gw_of 760 (by decide +kernel) (by decide +kernel)
theorem wd761 : Cond.static yX5_isIn ∈ GW := gw_of 761 (by decide +kernel) (by decide +kernel)
theorem wd762 : Cond.code yX5_isIn cX5_isIn 3 (some .boolean) ∈ GW := gw_of 762 (by decide +kernel) (by decide +kernel)
theorem wd763 : Cond.methodLink RX5 138 yX5_copies ∈ GW := gw_of 763 (by decide +kernel) (by decide +kernel)
theorem wd764 : Cond.static yX5_copies ∈ GW := gw_of 764 (by decide +kernel) (by decide +kernel)
theorem wd765 : Cond.code yX5_copies cX5_copies 3 none ∈ GW := gw_of 765 (by decide +kernel) (by decide +kernel)
theorem wd766 : Cond.methodLink RX5 142 yX5_isDone ∈ GW := gw_of 766 (by decide +kernel) (by decide +kernel)
theorem wd768 : Cond.instanceMethod yX5_isDone ∈ GW := gw_of 768 (by decide +kernel) (by decide +kernel)
theorem wd769 : Cond.code yX5_isDone cX5_isDone 4 (some .boolean) ∈ GW := gw_of 769 (by decide +kernel) (by decide +kernel)
theorem wd770 : Cond.methodLink RX5 115 yX5_addsDoor ∈ GW := gw_of 770 (by decide +kernel) (by decide +kernel)
theorem wd772 : Cond.instanceMethod yX5_addsDoor ∈ GW := gw_of 772 (by decide +kernel) (by decide +kernel)
theorem wd773 : Cond.code yX5_addsDoor cX5_addsDoor 2 (some .boolean) ∈ GW := gw_of 773 (by decide +kernel) (by decide +kernel)
theorem wd774 : Cond.methodLink RX5 111 yX5_isRoom ∈ GW := gw_of 774 (by decide +kernel) (by decide +kernel)
theorem wd775 : Cond.static yX5_isRoom ∈ GW := gw_of 775 (by decide +kernel) (by decide +kernel)
theorem wd776 : Cond.code yX5_isRoom cX5_isRoom 1 (some .boolean) ∈ GW := gw_of 776 (by decide +kernel) (by decide +kernel)
theorem wd777 : Cond.methodLink RX5 55 yX5_ofD ∈ GW := gw_of 777 (by decide +kernel) (by decide +kernel)
theorem wd778 : Cond.static yX5_ofD ∈ GW := gw_of 778 (by decide +kernel) (by decide +kernel)
theorem wd779 : Cond.code yX5_ofD cX5_ofD 2 (some .int) ∈ GW := gw_of 779 (by decide +kernel) (by decide +kernel)
theorem wd780 : Cond.methodLink RX5 118 yX5_adds ∈ GW := gw_of 780 (by decide +kernel) (by decide +kernel)
theorem wd781 : Cond.static yX5_adds ∈ GW := gw_of 781 (by decide +kernel) (by decide +kernel)
theorem wd782 : Cond.code yX5_adds cX5_adds 5 none ∈ GW := gw_of 782 (by decide +kernel) (by decide +kernel)
theorem wd783 : Cond.methodLink RX5 51 yX5_ofP ∈ GW := gw_of 783 (by decide +kernel) (by decide +kernel)
theorem wd784 : Cond.static yX5_ofP ∈ GW := gw_of 784 (by decide +kernel) (by decide +kernel)
theorem wd785 : Cond.code yX5_ofP cX5_ofP 2 (some .int) ∈ GW := gw_of 785 (by decide +kernel) (by decide +kernel)
theorem wd786 : Cond.methodLink RX5 122 yX5_isPerson ∈ GW := gw_of 786 (by decide +kernel) (by decide +kernel)
theorem wd788 : Cond.instanceMethod yX5_isPerson ∈ GW := gw_of 788 (by decide +kernel) (by decide +kernel)
theorem wd789 : Cond.code yX5_isPerson cX5_isPerson 2 (some .boolean) ∈ GW := gw_of 789 (by decide +kernel) (by decide +kernel)
theorem wd790 : Cond.methodLink RX5 125 yX5_isDoor ∈ GW := gw_of 790 (by decide +kernel) (by decide +kernel)
theorem wd792 : Cond.instanceMethod yX5_isDoor ∈ GW := gw_of 792 (by decide +kernel) (by decide +kernel)
theorem wd793 : Cond.code yX5_isDoor cX5_isDoor 2 (some .boolean) ∈ GW := gw_of 793 (by decide +kernel) (by decide +kernel)
theorem wd794 : Cond.methodLink RX5 128 yX5_turnsIn ∈ GW := gw_of 794 (by decide +kernel) (by decide +kernel)
theorem wd795 : Cond.static yX5_turnsIn ∈ GW := gw_of 795 (by decide +kernel) (by decide +kernel)
theorem wd796 : Cond.code yX5_turnsIn cX5_turnsIn 3 none ∈ GW := gw_of 796 (by decide +kernel) (by decide +kernel)
theorem wd797 : Cond.methodLink RX5 132 yX5_hoursOn ∈ GW := gw_of 797 (by decide +kernel) (by decide +kernel)
theorem wd799 : Cond.instanceMethod yX5_hoursOn ∈ GW := gw_of 799 (by decide +kernel) (by decide +kernel)
theorem wd800 : Cond.code yX5_hoursOn cX5_hoursOn 4 none ∈ GW := gw_of 800 (by decide +kernel) (by decide +kernel)
theorem wd801 : Cond.methodLink RX5 83 yX5_measures ∈ GW := gw_of 801 (by decide +kernel) (by decide +kernel)
theorem wd803 : Cond.instanceMethod yX5_measures ∈ GW := gw_of 803 (by decide +kernel) (by decide +kernel)
theorem wd804 : Cond.code yX5_measures cX5_measures 5 none ∈ GW := gw_of 804 (by decide +kernel) (by decide +kernel)
theorem wd805 : Cond.methodLink RX5 66 yX5_least ∈ GW := gw_of 805 (by decide +kernel) (by decide +kernel)
theorem wd806 : Cond.static yX5_least ∈ GW := gw_of 806 (by decide +kernel) (by decide +kernel)
theorem wd807 : Cond.code yX5_least cX5_least 2 (some .int) ∈ GW := gw_of 807 (by decide +kernel) (by decide +kernel)
theorem wd808 : Cond.methodLink RX5 87 yX5_hour ∈ GW := gw_of 808 (by decide +kernel) (by decide +kernel)
theorem wd810 : Cond.instanceMethod yX5_hour ∈ GW := gw_of 810 (by decide +kernel) (by decide +kernel)
theorem wd811 : Cond.code yX5_hour cX5_hour 4 none ∈ GW := gw_of 811 (by decide +kernel) (by decide +kernel)
theorem wd812 : Cond.methodLink RX5 47 yX5_has ∈ GW := gw_of 812 (by decide +kernel) (by decide +kernel)
theorem wd813 : Cond.static yX5_has ∈ GW := gw_of 813 (by decide +kernel) (by decide +kernel)
theorem wd814 : Cond.code yX5_has cX5_has 2 (some .boolean) ∈ GW := gw_of 814 (by decide +kernel) (by decide +kernel)
theorem wd815 : Cond.methodLink RX5 79 yX5_doorOf ∈ GW := gw_of 815 (by decide +kernel) (by decide +kernel)
theorem wd817 : Cond.instanceMethod yX5_doorOf ∈ GW := gw_of 817 (by decide +kernel) (by decide +kernel)
theorem wd818 : Cond.code yX5_doorOf cX5_doorOf 7 (some .int) ∈ GW := gw_of 818 (by decide +kernel) (by decide +kernel)
theorem wd819 : Cond.methodLink RX5 72 yX5_isOnWay ∈ GW := gw_of 819 (by decide +kernel) (by decide +kernel)
theorem wd821 : Cond.instanceMethod yX5_isOnWay ∈ GW := gw_of 821 (by decide +kernel) (by decide +kernel)
theorem wd822 : Cond.code yX5_isOnWay cX5_isOnWay 5 (some .boolean) ∈ GW := gw_of 822 (by decide +kernel) (by decide +kernel)
theorem wd823 : Cond.methodLink RX5 69 yX5_wayOf ∈ GW := gw_of 823 (by decide +kernel) (by decide +kernel)
theorem wd825 : Cond.instanceMethod yX5_wayOf ∈ GW := gw_of 825 (by decide +kernel) (by decide +kernel)
theorem wd826 : Cond.code yX5_wayOf cX5_wayOf 3 (some .int) ∈ GW := gw_of 826 (by decide +kernel) (by decide +kernel)
theorem wd827 : Cond.methodLink RX5 76 yX5_opens ∈ GW := gw_of 827 (by decide +kernel) (by decide +kernel)
theorem wd828 : Cond.static yX5_opens ∈ GW := gw_of 828 (by decide +kernel) (by decide +kernel)
theorem wd829 : Cond.code yX5_opens cX5_opens 7 (some .boolean) ∈ GW := gw_of 829 (by decide +kernel) (by decide +kernel)
theorem wd830 : Cond.methodLink RX5 58 yX5_isThere ∈ GW := gw_of 830 (by decide +kernel) (by decide +kernel)
theorem wd831 : Cond.static yX5_isThere ∈ GW := gw_of 831 (by decide +kernel) (by decide +kernel)
theorem wd832 : Cond.code yX5_isThere cX5_isThere 3 (some .boolean) ∈ GW := gw_of 832 (by decide +kernel) (by decide +kernel)
theorem wd833 : Cond.methodLink RX5 62 yX5_opensBy ∈ GW := gw_of 833 (by decide +kernel) (by decide +kernel)
theorem wd834 : Cond.static yX5_opensBy ∈ GW := gw_of 834 (by decide +kernel) (by decide +kernel)
theorem wd835 : Cond.code yX5_opensBy cX5_opensBy 7 (some .boolean) ∈ GW := gw_of 835 (by decide +kernel) (by decide +kernel)
theorem wd836 : Cond.methodLink RL 27 yX5_door ∈ GW := gw_of 836 (by decide +kernel) (by decide +kernel)
theorem wd837 : Cond.instanceMethod yX5_door ∈ GW := gw_of 837 (by decide +kernel) (by decide +kernel)
theorem wd838 : Cond.selects RX5 yX5_door yX5_door ∈ GW := gw_of 838 (by decide +kernel) (by decide +kernel)
theorem wd839 : Cond.code yX5_door cX5_door 3 (some .int) ∈ GW := gw_of 839 (by decide +kernel) (by decide +kernel)
theorem wd840 : Cond.methodLink RL 31 yX5_person ∈ GW := gw_of 840 (by decide +kernel) (by decide +kernel)
theorem wd841 : Cond.instanceMethod yX5_person ∈ GW := gw_of 841 (by decide +kernel) (by decide +kernel)
theorem wd842 : Cond.selects RX5 yX5_person yX5_person ∈ GW := gw_of 842 (by decide +kernel) (by decide +kernel)
theorem wd843 : Cond.code yX5_person cX5_person 3 (some .int) ∈ GW := gw_of 843 (by decide +kernel) (by decide +kernel)
theorem wd844 : Cond.methodLink RL 35 yX5_wedges ∈ GW := gw_of 844 (by decide +kernel) (by decide +kernel)
theorem wd845 : Cond.instanceMethod yX5_wedges ∈ GW := gw_of 845 (by decide +kernel) (by decide +kernel)
theorem wd846 : Cond.selects RX5 yX5_wedges yX5_wedges ∈ GW := gw_of 846 (by decide +kernel) (by decide +kernel)
theorem wd847 : Cond.code yX5_wedges cX5_wedges 2 (some .int) ∈ GW := gw_of 847 (by decide +kernel) (by decide +kernel)
theorem wd848 : Cond.methodLink RL 39 yX5_turns ∈ GW := gw_of 848 (by decide +kernel) (by decide +kernel)
theorem wd849 : Cond.instanceMethod yX5_turns ∈ GW := gw_of 849 (by decide +kernel) (by decide +kernel)
theorem wd850 : Cond.selects RX5 yX5_turns yX5_turns ∈ GW := gw_of 850 (by decide +kernel) (by decide +kernel)
theorem wd851 : Cond.code yX5_turns cX5_turns 2 (some .int) ∈ GW := gw_of 851 (by decide +kernel) (by decide +kernel)
theorem wd852 : Cond.methodLink RL 43 yX5_stands ∈ GW := gw_of 852 (by decide +kernel) (by decide +kernel)
theorem wd853 : Cond.instanceMethod yX5_stands ∈ GW := gw_of 853 (by decide +kernel) (by decide +kernel)
theorem wd854 : Cond.selects RX5 yX5_stands yX5_stands ∈ GW := gw_of 854 (by decide +kernel) (by decide +kernel)
theorem wd855 : Cond.code yX5_stands cX5_stands 3 (some .int) ∈ GW := gw_of 855 (by decide +kernel) (by decide +kernel)
theorem wd856 : Cond.methodLink RX5 148 yX5_sets ∈ GW := gw_of 856 (by decide +kernel) (by decide +kernel)
theorem wd858 : Cond.instanceMethod yX5_sets ∈ GW := gw_of 858 (by decide +kernel) (by decide +kernel)
theorem wd859 : Cond.code yX5_sets cX5_sets 5 (some .int) ∈ GW := gw_of 859 (by decide +kernel) (by decide +kernel)
theorem wd860 : Cond.methodLink RX5 145 yX5_areWrong ∈ GW := gw_of 860 (by decide +kernel) (by decide +kernel)
theorem wd862 : Cond.instanceMethod yX5_areWrong ∈ GW := gw_of 862 (by decide +kernel) (by decide +kernel)
theorem wd863 : Cond.code yX5_areWrong cX5_areWrong 3 (some .boolean) ∈ GW := gw_of 863 (by decide +kernel) (by decide +kernel)
theorem wd864 : Cond.methodLink RL 47 yX5_wants ∈ GW := gw_of 864 (by decide +kernel) (by decide +kernel)
theorem wd865 : Cond.instanceMethod yX5_wants ∈ GW := gw_of 865 (by decide +kernel) (by decide +kernel)
theorem wd866 : Cond.selects RX5 yX5_wants yX5_wants ∈ GW := gw_of 866 (by decide +kernel) (by decide +kernel)
theorem wd867 : Cond.code yX5_wants cX5_wants 3 (some .int) ∈ GW := gw_of 867 (by decide +kernel) (by decide +kernel)
theorem wd868 : Cond.methodLink RL 51 yX5_moods ∈ GW := gw_of 868 (by decide +kernel) (by decide +kernel)
theorem wd869 : Cond.instanceMethod yX5_moods ∈ GW := gw_of 869 (by decide +kernel) (by decide +kernel)
theorem wd870 : Cond.selects RX5 yX5_moods yX5_moods ∈ GW := gw_of 870 (by decide +kernel) (by decide +kernel)
theorem wd871 : Cond.code yX5_moods cX5_moods 5 (some .int) ∈ GW := gw_of 871 (by decide +kernel) (by decide +kernel)
theorem wd872 : Cond.methodLink RX5 152 yX5_wrongBy ∈ GW := gw_of 872 (by decide +kernel) (by decide +kernel)
theorem wd873 : Cond.static yX5_wrongBy ∈ GW := gw_of 873 (by decide +kernel) (by decide +kernel)
theorem wd874 : Cond.code yX5_wrongBy cX5_wrongBy 3 (some .int) ∈ GW := gw_of 874 (by decide +kernel) (by decide +kernel)
theorem wd875 : Cond.methodLink RL 56 yX5_changes ∈ GW := gw_of 875 (by decide +kernel) (by decide +kernel)
theorem wd876 : Cond.instanceMethod yX5_changes ∈ GW := gw_of 876 (by decide +kernel) (by decide +kernel)
theorem wd877 : Cond.selects RX5 yX5_changes yX5_changes ∈ GW := gw_of 877 (by decide +kernel) (by decide +kernel)
theorem wd878 : Cond.code yX5_changes cX5_changes 6 (some .int) ∈ GW := gw_of 878 (by decide +kernel) (by decide +kernel)
theorem wd879 : Cond.methodLink RL 60 yX5_hours ∈ GW := gw_of 879 (by decide +kernel) (by decide +kernel)
theorem wd880 : Cond.instanceMethod yX5_hours ∈ GW := gw_of 880 (by decide +kernel) (by decide +kernel)
theorem wd881 : Cond.selects RX5 yX5_hours yX5_hours ∈ GW := gw_of 881 (by decide +kernel) (by decide +kernel)
theorem wd882 : Cond.code yX5_hours cX5_hours 2 (some .int) ∈ GW := gw_of 882 (by decide +kernel) (by decide +kernel)
theorem wd883 : Cond.methodLink RX5 155 yX5_homeIn ∈ GW := gw_of 883 (by decide +kernel) (by decide +kernel)
theorem wd884 : Cond.static yX5_homeIn ∈ GW := gw_of 884 (by decide +kernel) (by decide +kernel)
theorem wd885 : Cond.code yX5_homeIn cX5_homeIn 3 (some .int) ∈ GW := gw_of 885 (by decide +kernel) (by decide +kernel)
theorem wd886 : Cond.methodLink RX5 159 yX5_bits ∈ GW := gw_of 886 (by decide +kernel) (by decide +kernel)
theorem wd887 : Cond.static yX5_bits ∈ GW := gw_of 887 (by decide +kernel) (by decide +kernel)
theorem wd888 : Cond.code yX5_bits cX5_bits 3 (some .int) ∈ GW := gw_of 888 (by decide +kernel) (by decide +kernel)
theorem wd889 : Cond.methodLink RL 64 yX5_personThen ∈ GW := gw_of 889 (by decide +kernel) (by decide +kernel)
theorem wd890 : Cond.instanceMethod yX5_personThen ∈ GW := gw_of 890 (by decide +kernel) (by decide +kernel)
theorem wd891 : Cond.selects RX5 yX5_personThen yX5_personThen ∈ GW := gw_of 891 (by decide +kernel) (by decide +kernel)
theorem wd892 : Cond.code yX5_personThen cX5_personThen 5 (some .int) ∈ GW := gw_of 892 (by decide +kernel) (by decide +kernel)
theorem wd893 : Cond.methodLink RX5 162 yX5_takes ∈ GW := gw_of 893 (by decide +kernel) (by decide +kernel)
theorem wd895 : Cond.instanceMethod yX5_takes ∈ GW := gw_of 895 (by decide +kernel) (by decide +kernel)
theorem wd896 : Cond.code yX5_takes cX5_takes 2 none ∈ GW := gw_of 896 (by decide +kernel) (by decide +kernel)
theorem wd897 : Cond.methodLink RL 68 yX5_letThen ∈ GW := gw_of 897 (by decide +kernel) (by decide +kernel)
theorem wd898 : Cond.instanceMethod yX5_letThen ∈ GW := gw_of 898 (by decide +kernel) (by decide +kernel)
theorem wd899 : Cond.selects RX5 yX5_letThen yX5_letThen ∈ GW := gw_of 899 (by decide +kernel) (by decide +kernel)
theorem wd900 : Cond.code yX5_letThen cX5_letThen 3 (some .int) ∈ GW := gw_of 900 (by decide +kernel) (by decide +kernel)
theorem wd901 : Cond.methodLink RL 72 yX5_comes ∈ GW := gw_of 901 (by decide +kernel) (by decide +kernel)
theorem wd902 : Cond.instanceMethod yX5_comes ∈ GW := gw_of 902 (by decide +kernel) (by decide +kernel)
theorem wd903 : Cond.selects RX5 yX5_comes yX5_comes ∈ GW := gw_of 903 (by decide +kernel) (by decide +kernel)
theorem wd904 : Cond.code yX5_comes cX5_comes 3 (some .int) ∈ GW := gw_of 904 (by decide +kernel) (by decide +kernel)
theorem wd905 : Cond.methodLink RX5 166 yX5_comesTo ∈ GW := gw_of 905 (by decide +kernel) (by decide +kernel)
theorem wd907 : Cond.instanceMethod yX5_comesTo ∈ GW := gw_of 907 (by decide +kernel) (by decide +kernel)
theorem wd908 : Cond.code yX5_comesTo cX5_comesTo 4 (some .int) ∈ GW := gw_of 908 (by decide +kernel) (by decide +kernel)
theorem wd909 : Cond.methodLink RL 76 yX5_home ∈ GW := gw_of 909 (by decide +kernel) (by decide +kernel)
theorem wd910 : Cond.instanceMethod yX5_home ∈ GW := gw_of 910 (by decide +kernel) (by decide +kernel)
theorem wd911 : Cond.selects RX5 yX5_home yX5_home ∈ GW := gw_of 911 (by decide +kernel) (by decide +kernel)
theorem wd912 : Cond.code yX5_home cX5_home 2 (some .int) ∈ GW := gw_of 912 (by decide +kernel) (by decide +kernel)
theorem wd913 : Cond.methodLink RX5 169 yX5_allHome ∈ GW := gw_of 913 (by decide +kernel) (by decide +kernel)
theorem wd915 : Cond.instanceMethod yX5_allHome ∈ GW := gw_of 915 (by decide +kernel) (by decide +kernel)
theorem wd916 : Cond.code yX5_allHome cX5_allHome 2 (some .int) ∈ GW := gw_of 916 (by decide +kernel) (by decide +kernel)
theorem wd917 : Cond.methodLink RL 80 yX5_shutIn ∈ GW := gw_of 917 (by decide +kernel) (by decide +kernel)
theorem wd918 : Cond.instanceMethod yX5_shutIn ∈ GW := gw_of 918 (by decide +kernel) (by decide +kernel)
theorem wd919 : Cond.selects RX5 yX5_shutIn yX5_shutIn ∈ GW := gw_of 919 (by decide +kernel) (by decide +kernel)
theorem wd920 : Cond.code yX5_shutIn cX5_shutIn 3 (some .int) ∈ GW := gw_of 920 (by decide +kernel) (by decide +kernel)
theorem wd921 : Cond.methodLink RL 84 yX5_stuck ∈ GW := gw_of 921 (by decide +kernel) (by decide +kernel)
theorem wd922 : Cond.instanceMethod yX5_stuck ∈ GW := gw_of 922 (by decide +kernel) (by decide +kernel)
theorem wd923 : Cond.selects RX5 yX5_stuck yX5_stuck ∈ GW := gw_of 923 (by decide +kernel) (by decide +kernel)
theorem wd924 : Cond.code yX5_stuck cX5_stuck 2 (some .int) ∈ GW := gw_of 924 (by decide +kernel) (by decide +kernel)
theorem wd925 : Cond.methodLink RX5 175 yX5_isStill ∈ GW := gw_of 925 (by decide +kernel) (by decide +kernel)
theorem wd927 : Cond.instanceMethod yX5_isStill ∈ GW := gw_of 927 (by decide +kernel) (by decide +kernel)
theorem wd928 : Cond.code yX5_isStill cX5_isStill 5 (some .boolean) ∈ GW := gw_of 928 (by decide +kernel) (by decide +kernel)
theorem wd929 : Cond.methodLink RX5 172 yX5_whereIn ∈ GW := gw_of 929 (by decide +kernel) (by decide +kernel)
theorem wd930 : Cond.static yX5_whereIn ∈ GW := gw_of 930 (by decide +kernel) (by decide +kernel)
theorem wd931 : Cond.code yX5_whereIn cX5_whereIn 3 (some .int) ∈ GW := gw_of 931 (by decide +kernel) (by decide +kernel)
theorem wd932 : Cond.methodLink RL 88 yX5_way ∈ GW := gw_of 932 (by decide +kernel) (by decide +kernel)
theorem wd933 : Cond.instanceMethod yX5_way ∈ GW := gw_of 933 (by decide +kernel) (by decide +kernel)
theorem wd934 : Cond.selects RX5 yX5_way yX5_way ∈ GW := gw_of 934 (by decide +kernel) (by decide +kernel)
theorem wd935 : Cond.code yX5_way cX5_way 5 (some .int) ∈ GW := gw_of 935 (by decide +kernel) (by decide +kernel)
theorem wd936 : Cond.methodLink RL 92 yX5_round ∈ GW := gw_of 936 (by decide +kernel) (by decide +kernel)
theorem wd937 : Cond.instanceMethod yX5_round ∈ GW := gw_of 937 (by decide +kernel) (by decide +kernel)
theorem wd938 : Cond.selects RX5 yX5_round yX5_round ∈ GW := gw_of 938 (by decide +kernel) (by decide +kernel)
theorem wd939 : Cond.code yX5_round cX5_round 4 (some .int) ∈ GW := gw_of 939 (by decide +kernel) (by decide +kernel)
theorem wd940 : Cond.methodLink RL 96 yX5_reach ∈ GW := gw_of 940 (by decide +kernel) (by decide +kernel)
theorem wd941 : Cond.instanceMethod yX5_reach ∈ GW := gw_of 941 (by decide +kernel) (by decide +kernel)
theorem wd942 : Cond.selects RX5 yX5_reach yX5_reach ∈ GW := gw_of 942 (by decide +kernel) (by decide +kernel)
theorem wd943 : Cond.code yX5_reach cX5_reach 4 (some .int) ∈ GW := gw_of 943 (by decide +kernel) (by decide +kernel)
theorem wd944 : Cond.methodLink RL 100 yX5_open ∈ GW := gw_of 944 (by decide +kernel) (by decide +kernel)
theorem wd945 : Cond.instanceMethod yX5_open ∈ GW := gw_of 945 (by decide +kernel) (by decide +kernel)
theorem wd946 : Cond.selects RX5 yX5_open yX5_open ∈ GW := gw_of 946 (by decide +kernel) (by decide +kernel)
theorem wd947 : Cond.code yX5_open cX5_open 3 (some .int) ∈ GW := gw_of 947 (by decide +kernel) (by decide +kernel)
theorem wd948 : Cond.methodLink RL 104 yX5_helper ∈ GW := gw_of 948 (by decide +kernel) (by decide +kernel)
theorem wd949 : Cond.instanceMethod yX5_helper ∈ GW := gw_of 949 (by decide +kernel) (by decide +kernel)
theorem wd950 : Cond.selects RX5 yX5_helper yX5_helper ∈ GW := gw_of 950 (by decide +kernel) (by decide +kernel)
theorem wd951 : Cond.code yX5_helper cX5_helper 8 (some .int) ∈ GW := gw_of 951 (by decide +kernel) (by decide +kernel)
theorem wd952 : Cond.methodLink RL 108 yX5_fewest ∈ GW := gw_of 952 (by decide +kernel) (by decide +kernel)
theorem wd953 : Cond.instanceMethod yX5_fewest ∈ GW := gw_of 953 (by decide +kernel) (by decide +kernel)
theorem wd954 : Cond.selects RX5 yX5_fewest yX5_fewest ∈ GW := gw_of 954 (by decide +kernel) (by decide +kernel)
theorem wd955 : Cond.code yX5_fewest cX5_fewest 7 (some .int) ∈ GW := gw_of 955 (by decide +kernel) (by decide +kernel)
theorem wd956 : Cond.methodLink RL 112 yX5_turn ∈ GW := gw_of 956 (by decide +kernel) (by decide +kernel)
theorem wd957 : Cond.instanceMethod yX5_turn ∈ GW := gw_of 957 (by decide +kernel) (by decide +kernel)
theorem wd958 : Cond.selects RX5 yX5_turn yX5_turn ∈ GW := gw_of 958 (by decide +kernel) (by decide +kernel)
theorem wd959 : Cond.code yX5_turn cX5_turn 3 (some .int) ∈ GW := gw_of 959 (by decide +kernel) (by decide +kernel)
theorem wd960 : Cond.methodLink RX5 178 yX5_bestDoor ∈ GW := gw_of 960 (by decide +kernel) (by decide +kernel)
theorem wd962 : Cond.instanceMethod yX5_bestDoor ∈ GW := gw_of 962 (by decide +kernel) (by decide +kernel)
theorem wd963 : Cond.code yX5_bestDoor cX5_bestDoor 6 (some .int) ∈ GW := gw_of 963 (by decide +kernel) (by decide +kernel)
theorem wd964 : Cond.methodLink RL 116 yX5_wedge ∈ GW := gw_of 964 (by decide +kernel) (by decide +kernel)
theorem wd965 : Cond.instanceMethod yX5_wedge ∈ GW := gw_of 965 (by decide +kernel) (by decide +kernel)
theorem wd966 : Cond.selects RX5 yX5_wedge yX5_wedge ∈ GW := gw_of 966 (by decide +kernel) (by decide +kernel)
theorem wd967 : Cond.code yX5_wedge cX5_wedge 3 (some .int) ∈ GW := gw_of 967 (by decide +kernel) (by decide +kernel)
theorem wd968 : Cond.methodLink RL 120 yX5_holds ∈ GW := gw_of 968 (by decide +kernel) (by decide +kernel)
theorem wd969 : Cond.instanceMethod yX5_holds ∈ GW := gw_of 969 (by decide +kernel) (by decide +kernel)
theorem wd970 : Cond.selects RX5 yX5_holds yX5_holds ∈ GW := gw_of 970 (by decide +kernel) (by decide +kernel)
theorem wd971 : Cond.code yX5_holds cX5_holds 8 (some .int) ∈ GW := gw_of 971 (by decide +kernel) (by decide +kernel)
theorem wd972 : Cond.constant RX5 182 (1000000000) ∈ GW := gw_of 972 (by decide +kernel) (by decide +kernel)
theorem wd973 : Cond.methodLink RL 124 yX5_crowd ∈ GW := gw_of 973 (by decide +kernel) (by decide +kernel)
theorem wd974 : Cond.instanceMethod yX5_crowd ∈ GW := gw_of 974 (by decide +kernel) (by decide +kernel)
theorem wd975 : Cond.selects RX5 yX5_crowd yX5_crowd ∈ GW := gw_of 975 (by decide +kernel) (by decide +kernel)
theorem wd976 : Cond.code yX5_crowd cX5_crowd 5 (some .int) ∈ GW := gw_of 976 (by decide +kernel) (by decide +kernel)
theorem wd977 : Cond.methodLink RX5 183 yX5_manyIn ∈ GW := gw_of 977 (by decide +kernel) (by decide +kernel)
theorem wd979 : Cond.instanceMethod yX5_manyIn ∈ GW := gw_of 979 (by decide +kernel) (by decide +kernel)
theorem wd980 : Cond.code yX5_manyIn cX5_manyIn 4 (some .int) ∈ GW := gw_of 980 (by decide +kernel) (by decide +kernel)
theorem wd981 : Cond.methodLink RX5 186 yX5_doorsBy ∈ GW := gw_of 981 (by decide +kernel) (by decide +kernel)
theorem wd983 : Cond.instanceMethod yX5_doorsBy ∈ GW := gw_of 983 (by decide +kernel) (by decide +kernel)
theorem wd984 : Cond.code yX5_doorsBy cX5_doorsBy 5 (some .int) ∈ GW := gw_of 984 (by decide +kernel) (by decide +kernel)
theorem wd985 : Cond.methodLink RL 128 yX5_handles ∈ GW := gw_of 985 (by decide +kernel) (by decide +kernel)
theorem wd986 : Cond.instanceMethod yX5_handles ∈ GW := gw_of 986 (by decide +kernel) (by decide +kernel)
theorem wd987 : Cond.selects RX5 yX5_handles yX5_handles ∈ GW := gw_of 987 (by decide +kernel) (by decide +kernel)
theorem wd988 : Cond.code yX5_handles cX5_handles 2 (some .int) ∈ GW := gw_of 988 (by decide +kernel) (by decide +kernel)
theorem wd989 : Cond.methodLink RL 132 yX5_meet ∈ GW := gw_of 989 (by decide +kernel) (by decide +kernel)
theorem wd990 : Cond.instanceMethod yX5_meet ∈ GW := gw_of 990 (by decide +kernel) (by decide +kernel)
theorem wd991 : Cond.selects RX5 yX5_meet yX5_meet ∈ GW := gw_of 991 (by decide +kernel) (by decide +kernel)
theorem wd992 : Cond.code yX5_meet cX5_meet 7 (some .int) ∈ GW := gw_of 992 (by decide +kernel) (by decide +kernel)
theorem wd993 : Cond.methodLink RL 136 yX5_two ∈ GW := gw_of 993 (by decide +kernel) (by decide +kernel)
theorem wd994 : Cond.instanceMethod yX5_two ∈ GW := gw_of 994 (by decide +kernel) (by decide +kernel)
theorem wd995 : Cond.selects RX5 yX5_two yX5_two ∈ GW := gw_of 995 (by decide +kernel) (by decide +kernel)
theorem wd996 : Cond.code yX5_two cX5_two 8 (some .int) ∈ GW := gw_of 996 (by decide +kernel) (by decide +kernel)
theorem wd997 : Cond.methodLink RX5 189 yX5_hasBy ∈ GW := gw_of 997 (by decide +kernel) (by decide +kernel)
theorem wd999 : Cond.instanceMethod yX5_hasBy ∈ GW := gw_of 999 (by decide +kernel) (by decide +kernel)
theorem wd1000 : Cond.code yX5_hasBy cX5_hasBy 7 (some .int) ∈ GW := gw_of 1000 (by decide +kernel) (by decide +kernel)
theorem wd1001 : Cond.methodLink RL 141 yX5_fire ∈ GW := gw_of 1001 (by decide +kernel) (by decide +kernel)
theorem wd1002 : Cond.instanceMethod yX5_fire ∈ GW := gw_of 1002 (by decide +kernel) (by decide +kernel)
theorem wd1003 : Cond.selects RX5 yX5_fire yX5_fire ∈ GW := gw_of 1003 (by decide +kernel) (by decide +kernel)
theorem wd1004 : Cond.code yX5_fire cX5_fire 14 (some .long) ∈ GW := gw_of 1004 (by decide +kernel) (by decide +kernel)
theorem wd1005 : Cond.methodLink RX5 197 yX5_noWide ∈ GW := gw_of 1005 (by decide +kernel) (by decide +kernel)
theorem wd1007 : Cond.instanceMethod yX5_noWide ∈ GW := gw_of 1007 (by decide +kernel) (by decide +kernel)
theorem wd1008 : Cond.code yX5_noWide cX5_noWide 2 (some .long) ∈ GW := gw_of 1008 (by decide +kernel) (by decide +kernel)
theorem wd1009 : Cond.constantLong RX5 37 (4000000000000000000) ∈ GW := gw_of 1009 (by decide +kernel) (by decide +kernel)
theorem wd1010 : Cond.methodLink RX5 201 yX5_hourBy ∈ GW := gw_of 1010 (by decide +kernel) (by decide +kernel)
theorem wd1012 : Cond.instanceMethod yX5_hourBy ∈ GW := gw_of 1012 (by decide +kernel) (by decide +kernel)
theorem wd1013 : Cond.code yX5_hourBy cX5_hourBy 3 none ∈ GW := gw_of 1013 (by decide +kernel) (by decide +kernel)
theorem wd1014 : Cond.methodLink RX5 205 yX5_partOf ∈ GW := gw_of 1014 (by decide +kernel) (by decide +kernel)
theorem wd1015 : Cond.static yX5_partOf ∈ GW := gw_of 1015 (by decide +kernel) (by decide +kernel)
theorem wd1016 : Cond.code yX5_partOf cX5_partOf 5 (some .long) ∈ GW := gw_of 1016 (by decide +kernel) (by decide +kernel)
theorem wd1017 : Cond.methodLink RX5 193 yX5_gcd ∈ GW := gw_of 1017 (by decide +kernel) (by decide +kernel)
theorem wd1018 : Cond.static yX5_gcd ∈ GW := gw_of 1018 (by decide +kernel) (by decide +kernel)
theorem wd1019 : Cond.code yX5_gcd cX5_gcd 10 (some .long) ∈ GW := gw_of 1019 (by decide +kernel) (by decide +kernel)
theorem wd1020 : Cond.methodLink RL 146 yX5_mean ∈ GW := gw_of 1020 (by decide +kernel) (by decide +kernel)
theorem wd1021 : Cond.instanceMethod yX5_mean ∈ GW := gw_of 1021 (by decide +kernel) (by decide +kernel)
theorem wd1022 : Cond.selects RX5 yX5_mean yX5_mean ∈ GW := gw_of 1022 (by decide +kernel) (by decide +kernel)
theorem wd1023 : Cond.code yX5_mean cX5_mean 2 (some .long) ∈ GW := gw_of 1023 (by decide +kernel) (by decide +kernel)
theorem wd1024 : Cond.methodLink RX5 209 yX5_allMoods ∈ GW := gw_of 1024 (by decide +kernel) (by decide +kernel)
theorem wd1026 : Cond.instanceMethod yX5_allMoods ∈ GW := gw_of 1026 (by decide +kernel) (by decide +kernel)
theorem wd1027 : Cond.code yX5_allMoods cX5_allMoods 3 (some .int) ∈ GW := gw_of 1027 (by decide +kernel) (by decide +kernel)
theorem wd1028 : Cond.methodLink RL 150 yX5_whatIs ∈ GW := gw_of 1028 (by decide +kernel) (by decide +kernel)
theorem wd1029 : Cond.instanceMethod yX5_whatIs ∈ GW := gw_of 1029 (by decide +kernel) (by decide +kernel)
theorem wd1030 : Cond.selects RX5 yX5_whatIs yX5_whatIs ∈ GW := gw_of 1030 (by decide +kernel) (by decide +kernel)
theorem wd1031 : Cond.code yX5_whatIs cX5_whatIs 8 (some .int) ∈ GW := gw_of 1031 (by decide +kernel) (by decide +kernel)
theorem wd1032 : Cond.methodLink RL 154 yX5_row ∈ GW := gw_of 1032 (by decide +kernel) (by decide +kernel)
theorem wd1033 : Cond.instanceMethod yX5_row ∈ GW := gw_of 1033 (by decide +kernel) (by decide +kernel)
theorem wd1034 : Cond.selects RX5 yX5_row yX5_row ∈ GW := gw_of 1034 (by decide +kernel) (by decide +kernel)
theorem wd1035 : Cond.code yX5_row cX5_row 3 (some .int) ∈ GW := gw_of 1035 (by decide +kernel) (by decide +kernel)
theorem wd1036 : Cond.methodLink RL 158 yX5_judge ∈ GW := gw_of 1036 (by decide +kernel) (by decide +kernel)
theorem wd1037 : Cond.instanceMethod yX5_judge ∈ GW := gw_of 1037 (by decide +kernel) (by decide +kernel)
theorem wd1038 : Cond.selects RX5 yX5_judge yX5_judge ∈ GW := gw_of 1038 (by decide +kernel) (by decide +kernel)
theorem wd1039 : Cond.code yX5_judge cX5_judge 3 (some .int) ∈ GW := gw_of 1039 (by decide +kernel) (by decide +kernel)
theorem wd1040 : Cond.methodLink RL 162 yX5_clear ∈ GW := gw_of 1040 (by decide +kernel) (by decide +kernel)
theorem wd1041 : Cond.instanceMethod yX5_clear ∈ GW := gw_of 1041 (by decide +kernel) (by decide +kernel)
theorem wd1042 : Cond.selects RX5 yX5_clear yX5_clear ∈ GW := gw_of 1042 (by decide +kernel) (by decide +kernel)
theorem wd1043 : Cond.code yX5_clear cX5_clear 2 (some .int) ∈ GW := gw_of 1043 (by decide +kernel) (by decide +kernel)
theorem wd1044 : Cond.methodLink RL 166 yX5_lots ∈ GW := gw_of 1044 (by decide +kernel) (by decide +kernel)
theorem wd1045 : Cond.instanceMethod yX5_lots ∈ GW := gw_of 1045 (by decide +kernel) (by decide +kernel)
theorem wd1046 : Cond.selects RX5 yX5_lots yX5_lots ∈ GW := gw_of 1046 (by decide +kernel) (by decide +kernel)
theorem wd1047 : Cond.code yX5_lots cX5_lots 7 (some .int) ∈ GW := gw_of 1047 (by decide +kernel) (by decide +kernel)
theorem wd1048 : Cond.methodLink RX5 221 yX5_drawn ∈ GW := gw_of 1048 (by decide +kernel) (by decide +kernel)
theorem wd1050 : Cond.instanceMethod yX5_drawn ∈ GW := gw_of 1050 (by decide +kernel) (by decide +kernel)
theorem wd1051 : Cond.code yX5_drawn cX5_drawn 2 (some .int) ∈ GW := gw_of 1051 (by decide +kernel) (by decide +kernel)
theorem wd1052 : Cond.constant RX5 218 (1664525) ∈ GW := gw_of 1052 (by decide +kernel) (by decide +kernel)
theorem wd1053 : Cond.constant RX5 219 (1013904223) ∈ GW := gw_of 1053 (by decide +kernel) (by decide +kernel)
theorem wd1054 : Cond.constant RX5 220 (2147483647) ∈ GW := gw_of 1054 (by decide +kernel) (by decide +kernel)
theorem wd1055 : Cond.methodLink RL 170 yX5_image ∈ GW := gw_of 1055 (by decide +kernel) (by decide +kernel)
theorem wd1056 : Cond.instanceMethod yX5_image ∈ GW := gw_of 1056 (by decide +kernel) (by decide +kernel)
theorem wd1057 : Cond.selects RX5 yX5_image yX5_image ∈ GW := gw_of 1057 (by decide +kernel) (by decide +kernel)
theorem wd1058 : Cond.code yX5_image cX5_image 1 (some .int) ∈ GW := gw_of 1058 (by decide +kernel) (by decide +kernel)
theorem wd1059 : Cond.methodLink RL 174 yX5_on ∈ GW := gw_of 1059 (by decide +kernel) (by decide +kernel)
theorem wd1060 : Cond.instanceMethod yX5_on ∈ GW := gw_of 1060 (by decide +kernel) (by decide +kernel)
theorem wd1061 : Cond.selects RX5 yX5_on yX5_on ∈ GW := gw_of 1061 (by decide +kernel) (by decide +kernel)
theorem wd1062 : Cond.code yX5_on cX5_on 1 (some .int) ∈ GW := gw_of 1062 (by decide +kernel) (by decide +kernel)
theorem wd1063 : Cond.methodLink RL 178 yX5_count ∈ GW := gw_of 1063 (by decide +kernel) (by decide +kernel)
theorem wd1064 : Cond.instanceMethod yX5_count ∈ GW := gw_of 1064 (by decide +kernel) (by decide +kernel)
theorem wd1065 : Cond.selects RX5 yX5_count yX5_count ∈ GW := gw_of 1065 (by decide +kernel) (by decide +kernel)
theorem wd1066 : Cond.code yX5_count cX5_count 2 (some .int) ∈ GW := gw_of 1066 (by decide +kernel) (by decide +kernel)
end
section
/-! A SMALL MACHINE over a pure world: cells are a list, a reference is a place in it ('ad' says at which address it lies). Ok: from here the method comes to its end with Post. PM: a method's contract. -/
abbrev PE : Type := (Nat × (Nat → Int32)) ⊕ (Nat × List Value)
abbrev PW : Type := List PE
def tv (ad : Nat → Nat) : Value → Value
  | .ref i => .ref (ad i)
  | v => v
def te (cI : ClassId) (ad : Nat → Nat) : PE → va_E
  | .inl x => .inl (cI, x.1, .inl x.2)
  | .inr o => .inr (o.1, o.2.map (tv ad))
def tw (cI : ClassId) (ad : Nat → Nat) (w : PW) : va_W := w.mapIdx (fun i e => (ad i, te cI ad e))
theorem tv_cat (ad : Nat → Nat) (v : Value) : (tv ad v).category = v.category := by cases v <;> rfl
theorem tw_get (cI : ClassId) (ad : Nat → Nat) (w : PW) (k : Nat) : (tw cI ad w)[k]? = (w[k]?).map (fun e => (ad k, te cI ad e)) := by simp [tw]
theorem tw_at {cI : ClassId} {ad : Nat → Nat} {w : PW} {k : Nat} {e : PE} (h : w[k]? = some e) : (tw cI ad w)[k]? = some (ad k, te cI ad e) := by rw [tw_get, h]; rfl
theorem tw_of {cI : ClassId} {ad : Nat → Nat} {w : PW} {k : Nat} {q : Nat × va_E} (h : (tw cI ad w)[k]? = some q) : ∃ e, w[k]? = some e ∧ q = (ad k, te cI ad e) := by
  rw [tw_get] at h
  cases hw : w[k]? with
  | none => rw [hw] at h; cases h
  | some e => rw [hw] at h; exact ⟨e, rfl, (Option.some.inj h).symm⟩
theorem tw_set (cI : ClassId) (ad : Nat → Nat) (w : PW) (k : Nat) (e : PE) : tw cI ad (w.set k e) = (tw cI ad w).set k (ad k, te cI ad e) := by
  apply List.ext_getElem?
  intro i
  rw [tw_get, List.getElem?_set, List.getElem?_set, tw_get]
  by_cases h : k = i
  · subst h
    by_cases h2 : k < w.length
    · simp [h2, tw]
    · simp [h2, tw]
  · simp [h]
theorem tw_len (cI : ClassId) (ad : Nat → Nat) (w : PW) : (tw cI ad w).length = w.length := by simp [tw]
-- locals
def lcl (ls : List (Option Value)) : Nat → List (Option Value)
  | 0 => ls
  | j + 1 => match ls[j]? with
    | some (some v) => if v.category = 2 then ls.set j none else ls
    | _ => ls
def st1 (ls : List (Option Value)) (i : Nat) (v : Value) : List (Option Value) := (lcl ls i).set i (some v)
def st2 (ls : List (Option Value)) (i : Nat) (v : Value) : List (Option Value) := ((lcl ls i).set i (some v)).set (i + 1) none
def fl (ad : Nat → Nat) (ls : List (Option Value)) : List (Nat × Value) := (List.range ls.length).filterMap (fun i => (ls[i]?).bind (fun o => o.map (fun v => (i, tv ad v))))
theorem fl_mem {ad : Nat → Nat} {ls : List (Option Value)} {i : Nat} {v : Value} (h : ls[i]? = some (some v)) : (i, tv ad v) ∈ fl ad ls := by
  refine List.mem_filterMap.mpr ⟨i, List.mem_range.mpr (List.getElem?_eq_some_iff.mp h).1, ?_⟩
  rw [h]; rfl
theorem fl_of {ad : Nat → Nat} {ls : List (Option Value)} {q : Nat × Value} (h : q ∈ fl ad ls) : ∃ v, ls[q.1]? = some (some v) ∧ q.2 = tv ad v := by
  obtain ⟨i, -, hi⟩ := List.mem_filterMap.mp h
  cases ho : ls[i]? with
  | none => rw [ho] at hi; cases hi
  | some o =>
    rw [ho] at hi
    cases o with
    | none => cases hi
    | some v =>
      have e : (i, tv ad v) = q := Option.some.inj hi
      subst e
      exact ⟨v, ho, rfl⟩
def lr (ad : Nat → Nat) (nL : Nat) (ls : List (Option Value)) (LS : Array Slot) : Prop := LS.size = nL ∧ lv_wf LS ∧ ∀ (i : Nat) (v : Value), ls[i]? = some (some v) → LS[i]? = some (.val (tv ad v))
theorem lr_has {ad : Nat → Nat} {nL : Nat} {ls : List (Option Value)} {LS : Array Slot} (h : lr ad nL ls LS) : lv_has LS nL (fl ad ls) := ⟨h.1, h.2.1, fun q hq => by
  obtain ⟨v, h1, h2⟩ := fl_of hq
  rw [h2]; exact h.2.2 _ _ h1⟩
theorem lcl_get {ls : List (Option Value)} {i j : Nat} {v : Value} (h : (lcl ls i)[j]? = some (some v)) : ls[j]? = some (some v) ∧ ¬ (j + 1 = i ∧ v.category = 2) := by
  cases i with
  | zero => exact ⟨h, fun e => by omega⟩
  | succ k =>
    simp only [lcl] at h
    by_cases hj : j = k
    · subst hj
      cases ho : ls[j]? with
      | none => simp [ho] at h
      | some o =>
        cases o with
        | none => simp [ho] at h
        | some u =>
          simp only [ho] at h
          by_cases hc : u.category = 2
          · rw [if_pos hc, List.getElem?_set] at h
            by_cases hl : j < ls.length
            · simp [hl] at h
            · simp [hl] at h
          · rw [if_neg hc, ho] at h
            have e : u = v := by simpa using h
            subst e
            exact ⟨rfl, fun e => hc e.2⟩
    · refine ⟨?_, fun e => hj (by omega)⟩
      have key : ∀ l : List (Option Value), (l.set k none)[j]? = l[j]? := fun l => by rw [List.getElem?_set, if_neg (fun e => hj e.symm)]
      split at h
      · split at h
        · rw [key] at h; exact h
        · exact h
      · exact h
theorem lr_st1 {ad : Nat → Nat} {nL i : Nat} {ls : List (Option Value)} {LS' : Array Slot} {x : Value}
    (h : lv_has LS' nL ((i, tv ad x) :: (fl ad ls).filter (fun q => !(q.1 == i) && !(q.1 + 1 == i && q.2.category == 2)))) : lr ad nL (st1 ls i x) LS' := by
  refine ⟨h.1, h.2.1, fun j v hj => ?_⟩
  unfold st1 at hj
  rw [List.getElem?_set] at hj
  by_cases hij : i = j
  · subst hij
    simp only [if_true] at hj
    split at hj
    · have e : x = v := by simpa using hj
      subst e
      exact h.2.2 (i, tv ad x) List.mem_cons_self
    · cases hj
  · rw [if_neg hij] at hj
    obtain ⟨h1, h2⟩ := lcl_get hj
    refine h.2.2 (j, tv ad v) (List.mem_cons_of_mem _ (List.mem_filter.mpr ⟨fl_mem h1, ?_⟩))
    have hji : ¬ j = i := fun e => hij e.symm
    by_cases hk : j + 1 = i
    · have hc : ¬ v.category = 2 := fun e => h2 ⟨hk, e⟩
      simp [hji, tv_cat, hc]
    · simp [hji, hk]
theorem lr_st2 {ad : Nat → Nat} {nL i : Nat} {ls : List (Option Value)} {LS' : Array Slot} {x : Value}
    (h : lv_has LS' nL ((i, tv ad x) :: (fl ad ls).filter (fun q => !(q.1 == i) && (!(q.1 == i + 1) && !(q.1 + 1 == i && q.2.category == 2))))) : lr ad nL (st2 ls i x) LS' := by
  refine ⟨h.1, h.2.1, fun j v hj => ?_⟩
  unfold st2 at hj
  rw [List.getElem?_set] at hj
  by_cases hi1 : i + 1 = j
  · rw [if_pos hi1] at hj
    split at hj
    · simp at hj
    · cases hj
  · rw [if_neg hi1, List.getElem?_set] at hj
    by_cases hij : i = j
    · subst hij
      simp only [if_true] at hj
      split at hj
      · have e : x = v := by simpa using hj
        subst e
        exact h.2.2 (i, tv ad x) List.mem_cons_self
      · cases hj
    · rw [if_neg hij] at hj
      obtain ⟨h1, h2⟩ := lcl_get hj
      refine h.2.2 (j, tv ad v) (List.mem_cons_of_mem _ (List.mem_filter.mpr ⟨fl_mem h1, ?_⟩))
      have hji : ¬ j = i := fun e => hij e.symm
      have hji1 : ¬ j = i + 1 := fun e => hi1 e.symm
      by_cases hk : j + 1 = i
      · have hc : ¬ v.category = 2 := fun e => h2 ⟨hk, e⟩
        simp [hji, hji1, tv_cat, hc]
      · simp [hji, hji1, hk]
-- a method: its name, its code, its locals, what it answers, its room
abbrev MI : Type := MethodName × ByteArray × Nat × Option FieldType × Room
abbrev mY (M : MI) : MethodName := M.1
abbrev mC (M : MI) : ByteArray := M.2.1
abbrev mL (M : MI) : Nat := M.2.2.1
abbrev mT (M : MI) : Option FieldType := M.2.2.2.1
abbrev mR (M : MI) : Room := M.2.2.2.2
def NWok (U : State) : Prop := ∀ w ∈ NWl, va_Nw w U
abbrev Scr : Type := Option (Nat × (Nat → Int32))
def Ctx (M : MI) (S : Scr) (p : Program) (s : State) (m : MethodId) (args : Array Value) (meth : Method) (c : Code) (D : va_G) (cI : ClassId) (A : Nat → Prop) (ad0 : Nat → Nat) : Prop :=
  (p.tables.exec = Jvm.exec ∧ c.code = mC M ∧ c.maxLocals = mL M ∧ s.vm.findClass (mY M).cls = some m.cls ∧ meth.name = (mY M).name) ∧ (∀ w ∈ GW, w.before args s = true) ∧ va_K D vwCl [(cI, .int)] s ∧ NWok s ∧ (∀ q, s.heap.size ≤ q → A q) ∧
  (∀ q, S = some q → va_X (ad0 999) q.1 q.2 s s.heap ∧ ad0 999 < s.heap.size ∧ ¬ A (ad0 999))
def Rel (D : va_G) (cI : ClassId) (R : Room) (A : Nat → Prop) (H0 : Heap) (ad0 : Nat → Nat) (n0 : Nat) (ad : Nat → Nat) (w : PW) (H : Heap) (locs : List Loc) : Prop :=
  va_P D vwCl (tw cI ad w) H ∧ va_D A (tw cI ad w) ∧ va_S A H0 H locs ∧ (R.cells = 0 → ad = ad0 ∧ w.length = n0) ∧ n0 ≤ w.length ∧ (∀ i, i < n0 → ad i = ad0 i) ∧ ad 999 = ad0 999
def retI (M : MI) (pc : Nat) : Option Value → Prop
  | none => mT M = none ∧ decode (mC M) pc = .ok (.return_, 1)
  | some (.int v) => decode (mC M) pc = .ok (.ireturn, 1) ∧ ∃ ty, mT M = some ty ∧ narrow ty (.int v) = .int v
  | some (.long _) => mT M = some .long ∧ decode (mC M) pc = .ok (.lreturn, 1)
  | _ => False
def RetQ (M : MI) (p : Program) (l : Launch) (e : Env) (s : State) (m : MethodId) (args : Array Value) (below : List Frame) (meth : Method) (c : Code) (D : va_G) (cI : ClassId) (A : Nat → Prop) (ad0 : Nat → Nat) (n0 : Nat) (Q : State → Prop) (Post : Option Value → PW → Prop) : Prop :=
  ∀ (pc : Nat) (LS : Array Slot) (r : Option Value) (w : PW) (ad : Nat → Nat) (H : Heap) (locs : List Loc), Rel D cI (mR M) A s.heap ad0 n0 ad w H locs → Post r w → retI M pc r →
    W p l e (mR M) s m args below meth c H locs (mR M).cells (mR M).slots Q (F0 m pc LS r.toList)
def Ok (M : MI) (S : Scr) (pc : Nat) (ls : List (Option Value)) (st : List Value) (w : PW) (k n : Nat) (Post : Option Value → PW → Prop) : Prop :=
  ∀ (p : Program) (l : Launch) (e : Env) (s : State) (m : MethodId) (args : Array Value) (below : List Frame) (meth : Method) (c : Code) (D : va_G) (cI : ClassId) (A : Nat → Prop) (ad0 : Nat → Nat) (n0 : Nat) (Q : State → Prop),
    Ctx M S p s m args meth c D cI A ad0 → RetQ M p l e s m args below meth c D cI A ad0 n0 Q Post →
    ∀ (ad : Nat → Nat) (H : Heap) (locs : List Loc) (LS : Array Slot), Rel D cI (mR M) A s.heap ad0 n0 ad w H locs → lr ad (mL M) ls LS →
      W p l e (mR M) s m args below meth c H locs k n Q (F0 m pc LS (st.map (tv ad)))
-- contracts
def PPc (D : va_G) (cI : ClassId) (ad : Nat → Nat) (w : PW) (sz : Nat) : State → Prop := fun U => U.heap.size = sz ∧ va_P D vwCl (tw cI ad w) U.heap ∧ va_K D vwCl [(cI, .int)] U ∧ va_D (fun _ => True) (tw cI ad w) ∧ NWok U
def PQ (M : MI) (D : va_G) (cI : ClassId) (ad : Nat → Nat) (w : PW) (sz : Nat) (Post : Option Value → PW → Prop) : Array Value → State → Outcome → State → Prop := fun _ st oc t =>
  (∃ (r : Option Value) (w' : PW) (ad' : Nat → Nat), oc = .returned r ∧ Post r w' ∧ (∀ v, r = some v → ∀ a : Nat → Nat, tv a v = v) ∧ ((mR M).cells = 0 → ad' = ad ∧ w'.length = w.length) ∧ w.length ≤ w'.length ∧ (∀ i, i < w.length → ad' i = ad i) ∧
    va_P D vwCl (tw cI ad' w') t.heap ∧ va_D (va_A (tw cI ad w) sz) (tw cI ad' w')) ∧ va_F (va_A (tw cI ad w) sz) st t
def PM (M : MI) (as : List Value) (w : PW) (Post : Option Value → PW → Prop) : Prop :=
  ∀ (l : Launch) (D : va_G) (cI : ClassId) (ad : Nat → Nat) (sz : Nat), Met l (mY M) (Cond.code (mY M) (mC M) (mL M) (mT M) :: GW) (mR M) (va_Pc (as.map (tv ad)) (PPc D cI ad w sz)) (PQ M D cI ad w sz Post) (mR M).cells (mR M).slots (va_A (tw cI ad w) sz)
-- the entry
def enl : List Value → List (Option Value)
  | [] => []
  | v :: vs => if v.category = 2 then some v :: none :: enl vs else some v :: enl vs
theorem enl_args {ad : Nat → Nat} : ∀ (as : List Value) (k j : Nat) (v : Value), (enl as)[j]? = some (some v) → (k + j, tv ad v) ∈ lv_args k (as.map (tv ad))
  | [], _, _, _, h => by simp [enl] at h
  | a :: as, k, j, v, h => by
    simp only [enl] at h
    simp only [List.map_cons, lv_args]
    by_cases hc : a.category = 2
    · rw [if_pos hc] at h
      match j, h with
      | 0, h =>
        have e : a = v := by simpa using h
        subst e
        exact List.mem_cons_self
      | 1, h => simp at h
      | j + 2, h =>
        have h' : (enl as)[j]? = some (some v) := by simpa using h
        have := enl_args (ad := ad) as (k + 2) j v h'
        rw [tv_cat, hc]
        refine List.mem_cons_of_mem _ ?_
        rwa [show k + (j + 2) = k + 2 + j by omega]
    · rw [if_neg hc] at h
      have hc1 : a.category = 1 := (lv_cat a).resolve_right hc
      match j, h with
      | 0, h =>
        have e : a = v := by simpa using h
        subst e
        exact List.mem_cons_self
      | j + 1, h =>
        have h' : (enl as)[j]? = some (some v) := by simpa using h
        have := enl_args (ad := ad) as (k + 1) j v h'
        rw [tv_cat, hc1]
        refine List.mem_cons_of_mem _ ?_
        rwa [show k + (j + 1) = k + 1 + j by omega]
theorem lgsl_len (ad : Nat → Nat) : ∀ as : List Value, (lg_sl (as.map (tv ad))).length = (enl as).length
  | [] => rfl
  | a :: as => by
    have ih := lgsl_len ad as
    simp only [lg_sl, List.map_cons, List.flatMap_cons, List.length_append, enl, tv_cat] at ih ⊢
    by_cases hc : a.category = 2
    · simp only [hc, if_true, List.length_cons, List.length_nil]; omega
    · simp only [if_neg hc, List.length_cons, List.length_nil]; omega
theorem rel_end {D : va_G} {cI : ClassId} {R : Room} {A : Nat → Prop} {s t : State} {ad0 : Nat → Nat} {n0 : Nat} {ad : Nat → Nat} {w : PW} {H : Heap} {locs : List Loc} (h : Rel D cI R A s.heap ad0 n0 ad w H locs) (ht : t.heap = H) : va_F A s t := h.2.2.1.F ht
theorem PM.of {M : MI} {as : List Value} {w : PW} {Post : Option Value → PW → Prop} (hy : plainName (mY M).cls = true) (hn : (enl as).length ≤ mL M) (hok : Ok M none 0 (enl as) [] w 0 0 Post) : PM M as w Post := by
  intro l D cI ad sz
  refine Met.ofW (cc := mC M) (maxL := mL M) (ret := mT M) hy rfl ?_
  intro p e s m args below meth c s₁ B hml hv
  obtain ⟨rfl, hsz, hP, hK, hD0, hN⟩ := hv
  have hts := atoms_spec (ws := Cond.code (mY M) (mC M) (mL M) (mT M) :: GW) B.pre
  have hown : s.vm.findClass (mY M).cls = some m.cls := findClass_of_methodNamed B.named
  have hnm : meth.name = (mY M).name := (name_of_methodNamed B.named B.method).1
  subst hsz
  have hD := hD0.self (sz := s.heap.size)
  have hl := lv_entry (as.map (tv ad)) (n := mL M) (by rw [lgsl_len]; exact hn)
  rw [lg_entry_eq]
  refine hok p l e s m _ below meth c D cI (va_A (tw cI ad w) s.heap.size) ad w.length _ ⟨⟨B.exec, B.bytes, hml, hown, hnm⟩, fun w hw => hts w (List.mem_cons_of_mem _ hw), hK, hN, fun q h => Or.inr h, fun q h => by cases h⟩ ?_ ad s.heap [] _ ⟨hP, hD, va_S.rf, fun _ => ⟨rfl, rfl⟩, Nat.le_refl _, fun _ _ => rfl, rfl⟩ ⟨hl.1, hl.2.1, fun i v hi => ?_⟩
  · intro pc LS r w' ad' H locs hR hp hr
    have hq : ∀ t : State, t.heap = H → (∀ v, r = some v → ∀ a : Nat → Nat, tv a v = v) → PQ M D cI ad w s.heap.size Post (as.map (tv ad)).toArray s (.returned r) t := fun t ht hv =>
      ⟨⟨r, w', ad', rfl, hp, hv, hR.2.2.2.1, hR.2.2.2.2.1, hR.2.2.2.2.2.1, by rw [ht]; exact hR.1, hR.2.1⟩, rel_end hR ht⟩
    match r, hr, hq with
    | none, hr, hq => exact W.vret B.exec B.bytes (B.returns.trans hr.1) (fun t ht _ => hq t ht (fun v h => by cases h)) hR.2.2.1.2.2 hr.2 B.notSynchronized
    | some (.int v), hr, hq =>
      obtain ⟨hd, ty, h1, h2⟩ := hr
      exact W.zret B.exec B.bytes (B.returns.trans h1) h2 (fun t ht _ => hq t ht (fun v h => by cases h; intro a; rfl)) hR.2.2.1.2.2 hd B.notSynchronized
    | some (.long v), hr, hq => exact W.lret B.exec B.bytes (B.returns.trans hr.1) (fun t ht _ => hq t ht (fun v h => by cases h; intro a; rfl)) hR.2.2.1.2.2 hr.2 B.notSynchronized
  · have := hl.2.2 (i, tv ad v) (by have := enl_args (ad := ad) as 0 i v hi; rwa [Nat.zero_add] at this)
    exact this
end
section
section ROWS
variable {M : MI} {S : Scr} {pc : Nat} {ls : List (Option Value)} {st : List Value} {w : PW} {k n : Nat} {P : Option Value → PW → Prop}
theorem o_iconst {a : Int} {v : Int32} (hd : decode (mC M) pc = .ok (.iconst a, 1)) (hv : Int32.ofInt a = v) (h : Ok M S (pc + 1) ls (.int v :: st) w k n P) : Ok M S pc ls st w k n P := by
  intro p l e s m args below meth c D cI A ad0 n0 Q C hr ad H locs LS hR hl
  exact lv_iconst C.1.1 C.1.2.1 hd hv (h p l e s m args below meth c D cI A ad0 n0 Q C hr ad H locs LS hR hl)
theorem o_bipush {a : Int} {v : Int32} (hd : decode (mC M) pc = .ok (.bipush a, 2)) (hv : (Int8.ofInt a).toInt32 = v) (h : Ok M S (pc + 2) ls (.int v :: st) w k n P) : Ok M S pc ls st w k n P := by
  intro p l e s m args below meth c D cI A ad0 n0 Q C hr ad H locs LS hR hl
  exact lv_bipush C.1.1 C.1.2.1 hd hv (h p l e s m args below meth c D cI A ad0 n0 Q C hr ad H locs LS hR hl)
theorem o_sipush {a : Int} {v : Int32} (hd : decode (mC M) pc = .ok (.sipush a, 3)) (hv : (Int16.ofInt a).toInt32 = v) (h : Ok M S (pc + 3) ls (.int v :: st) w k n P) : Ok M S pc ls st w k n P := by
  intro p l e s m args below meth c D cI A ad0 n0 Q C hr ad H locs LS hR hl
  exact lv_sipush C.1.1 C.1.2.1 hd hv (h p l e s m args below meth c D cI A ad0 n0 Q C hr ad H locs LS hR hl)
theorem o_lconst {a : Fin 2} {v : Int64} (hd : decode (mC M) pc = .ok (.lconst a, 1)) (hv : Int64.ofNat (a : Nat) = v) (h : Ok M S (pc + 1) ls (.long v :: st) w k n P) : Ok M S pc ls st w k n P := by
  intro p l e s m args below meth c D cI A ad0 n0 Q C hr ad H locs LS hR hl
  exact lv_lconst C.1.1 C.1.2.1 hd hv (h p l e s m args below meth c D cI A ad0 n0 Q C hr ad H locs LS hR hl)
theorem o_iload_n {j : Fin 4} {i : Nat} {x : Int32} (hd : decode (mC M) pc = .ok (.iload_n j, 1)) (hi : (j : Nat) = i) (hg : ls[i]? = some (some (.int x))) (h : Ok M S (pc + 1) ls (.int x :: st) w k n P) : Ok M S pc ls st w k n P := by
  intro p l e s m args below meth c D cI A ad0 n0 Q C hr ad H locs LS hR hl
  exact lv_iload_n C.1.1 C.1.2.1 hd hi (hl.2.2 _ _ hg) (h p l e s m args below meth c D cI A ad0 n0 Q C hr ad H locs LS hR hl)
theorem o_iload {i : Nat} {x : Int32} (hd : decode (mC M) pc = .ok (.iload i, 2)) (hg : ls[i]? = some (some (.int x))) (h : Ok M S (pc + 2) ls (.int x :: st) w k n P) : Ok M S pc ls st w k n P := by
  intro p l e s m args below meth c D cI A ad0 n0 Q C hr ad H locs LS hR hl
  exact lv_iload C.1.1 C.1.2.1 hd (hl.2.2 _ _ hg) (h p l e s m args below meth c D cI A ad0 n0 Q C hr ad H locs LS hR hl)
theorem o_lload_n {j : Fin 4} {i : Nat} {x : Int64} (hd : decode (mC M) pc = .ok (.lload_n j, 1)) (hi : (j : Nat) = i) (hg : ls[i]? = some (some (.long x))) (h : Ok M S (pc + 1) ls (.long x :: st) w k n P) : Ok M S pc ls st w k n P := by
  intro p l e s m args below meth c D cI A ad0 n0 Q C hr ad H locs LS hR hl
  exact lv_lload_n C.1.1 C.1.2.1 hd hi (hl.2.2 _ _ hg) (h p l e s m args below meth c D cI A ad0 n0 Q C hr ad H locs LS hR hl)
theorem o_lload {i : Nat} {x : Int64} (hd : decode (mC M) pc = .ok (.lload i, 2)) (hg : ls[i]? = some (some (.long x))) (h : Ok M S (pc + 2) ls (.long x :: st) w k n P) : Ok M S pc ls st w k n P := by
  intro p l e s m args below meth c D cI A ad0 n0 Q C hr ad H locs LS hR hl
  exact lv_lload C.1.1 C.1.2.1 hd (hl.2.2 _ _ hg) (h p l e s m args below meth c D cI A ad0 n0 Q C hr ad H locs LS hR hl)
theorem o_aload_n {j : Fin 4} {i : Nat} {x : Nat} (hd : decode (mC M) pc = .ok (.aload_n j, 1)) (hi : (j : Nat) = i) (hg : ls[i]? = some (some (.ref x))) (h : Ok M S (pc + 1) ls (.ref x :: st) w k n P) : Ok M S pc ls st w k n P := by
  intro p l e s m args below meth c D cI A ad0 n0 Q C hr ad H locs LS hR hl
  exact lv_aload_n C.1.1 C.1.2.1 hd hi (hl.2.2 _ _ hg) (h p l e s m args below meth c D cI A ad0 n0 Q C hr ad H locs LS hR hl)
theorem o_aload {i : Nat} {x : Nat} (hd : decode (mC M) pc = .ok (.aload i, 2)) (hg : ls[i]? = some (some (.ref x))) (h : Ok M S (pc + 2) ls (.ref x :: st) w k n P) : Ok M S pc ls st w k n P := by
  intro p l e s m args below meth c D cI A ad0 n0 Q C hr ad H locs LS hR hl
  exact lv_aload C.1.1 C.1.2.1 hd (hl.2.2 _ _ hg) (h p l e s m args below meth c D cI A ad0 n0 Q C hr ad H locs LS hR hl)
theorem o_istore_n {j : Fin 4} {i : Nat} {x : Int32} {ls2 : List (Option Value)} (hd : decode (mC M) pc = .ok (.istore_n j, 1)) (hi : (j : Nat) = i) (hn : i < mL M) (hs : st1 ls i (.int x) = ls2) (h : Ok M S (pc + 1) ls2 st w k n P) : Ok M S pc ls (.int x :: st) w k n P := by
  subst hs
  intro p l e s m args below meth c D cI A ad0 n0 Q C hr ad H locs LS hR hl
  exact lv_istore_n C.1.1 C.1.2.1 hd hi (lr_has hl) hn rfl (fun LS2 hl2 => h p l e s m args below meth c D cI A ad0 n0 Q C hr ad H locs LS2 hR (lr_st1 hl2))
theorem o_istore {i : Nat} {x : Int32} {ls2 : List (Option Value)} (hd : decode (mC M) pc = .ok (.istore i, 2)) (hn : i < mL M) (hs : st1 ls i (.int x) = ls2) (h : Ok M S (pc + 2) ls2 st w k n P) : Ok M S pc ls (.int x :: st) w k n P := by
  subst hs
  intro p l e s m args below meth c D cI A ad0 n0 Q C hr ad H locs LS hR hl
  exact lv_istore C.1.1 C.1.2.1 hd (lr_has hl) hn rfl (fun LS2 hl2 => h p l e s m args below meth c D cI A ad0 n0 Q C hr ad H locs LS2 hR (lr_st1 hl2))
theorem o_lstore_n {j : Fin 4} {i : Nat} {x : Int64} {ls2 : List (Option Value)} (hd : decode (mC M) pc = .ok (.lstore_n j, 1)) (hi : (j : Nat) = i) (hn : i + 1 < mL M) (hs : st2 ls i (.long x) = ls2) (h : Ok M S (pc + 1) ls2 st w k n P) : Ok M S pc ls (.long x :: st) w k n P := by
  subst hs
  intro p l e s m args below meth c D cI A ad0 n0 Q C hr ad H locs LS hR hl
  exact lv_lstore_n C.1.1 C.1.2.1 hd hi (lr_has hl) hn rfl (fun LS2 hl2 => h p l e s m args below meth c D cI A ad0 n0 Q C hr ad H locs LS2 hR (lr_st2 hl2))
theorem o_lstore {i : Nat} {x : Int64} {ls2 : List (Option Value)} (hd : decode (mC M) pc = .ok (.lstore i, 2)) (hn : i + 1 < mL M) (hs : st2 ls i (.long x) = ls2) (h : Ok M S (pc + 2) ls2 st w k n P) : Ok M S pc ls (.long x :: st) w k n P := by
  subst hs
  intro p l e s m args below meth c D cI A ad0 n0 Q C hr ad H locs LS hR hl
  exact lv_lstore C.1.1 C.1.2.1 hd (lr_has hl) hn rfl (fun LS2 hl2 => h p l e s m args below meth c D cI A ad0 n0 Q C hr ad H locs LS2 hR (lr_st2 hl2))
theorem o_astore_n {j : Fin 4} {i : Nat} {x : Nat} {ls2 : List (Option Value)} (hd : decode (mC M) pc = .ok (.astore_n j, 1)) (hi : (j : Nat) = i) (hn : i < mL M) (hs : st1 ls i (.ref x) = ls2) (h : Ok M S (pc + 1) ls2 st w k n P) : Ok M S pc ls (.ref x :: st) w k n P := by
  subst hs
  intro p l e s m args below meth c D cI A ad0 n0 Q C hr ad H locs LS hR hl
  exact lv_astore_n C.1.1 C.1.2.1 hd hi (lr_has hl) hn rfl (fun LS2 hl2 => h p l e s m args below meth c D cI A ad0 n0 Q C hr ad H locs LS2 hR (lr_st1 hl2))
theorem o_astore {i : Nat} {x : Nat} {ls2 : List (Option Value)} (hd : decode (mC M) pc = .ok (.astore i, 2)) (hn : i < mL M) (hs : st1 ls i (.ref x) = ls2) (h : Ok M S (pc + 2) ls2 st w k n P) : Ok M S pc ls (.ref x :: st) w k n P := by
  subst hs
  intro p l e s m args below meth c D cI A ad0 n0 Q C hr ad H locs LS hR hl
  exact lv_astore C.1.1 C.1.2.1 hd (lr_has hl) hn rfl (fun LS2 hl2 => h p l e s m args below meth c D cI A ad0 n0 Q C hr ad H locs LS2 hR (lr_st1 hl2))
theorem o_iinc {i : Nat} {a : Int} {x v : Int32} {ls2 : List (Option Value)} (hd : decode (mC M) pc = .ok (.iinc i a, 3)) (hg : ls[i]? = some (some (.int x))) (hv : x + Int32.ofInt a = v) (hn : i < mL M) (hs : st1 ls i (.int v) = ls2) (h : Ok M S (pc + 3) ls2 st w k n P) : Ok M S pc ls st w k n P := by
  subst hs
  intro p l e s m args below meth c D cI A ad0 n0 Q C hr ad H locs LS hR hl
  obtain ⟨j, hj⟩ := List.getElem?_of_mem (fl_mem (ad := ad) hg)
  exact lv_iinc C.1.1 C.1.2.1 hd (lr_has hl) (k := j) hj hv hn rfl (fun LS2 hl2 => h p l e s m args below meth c D cI A ad0 n0 Q C hr ad H locs LS2 hR (lr_st1 hl2))
theorem o_iadd {x y : Int32} (hd : decode (mC M) pc = .ok (.iadd, 1)) (h : Ok M S (pc + 1) ls (.int (x + y) :: st) w k n P) : Ok M S pc ls (.int y :: .int x :: st) w k n P := by
  intro p l e s m args below meth c D cI A ad0 n0 Q C hr ad H locs LS hR hl
  exact lv_iadd C.1.1 C.1.2.1 hd (h p l e s m args below meth c D cI A ad0 n0 Q C hr ad H locs LS hR hl)
theorem o_isub {x y : Int32} (hd : decode (mC M) pc = .ok (.isub, 1)) (h : Ok M S (pc + 1) ls (.int (x - y) :: st) w k n P) : Ok M S pc ls (.int y :: .int x :: st) w k n P := by
  intro p l e s m args below meth c D cI A ad0 n0 Q C hr ad H locs LS hR hl
  exact lv_isub C.1.1 C.1.2.1 hd (h p l e s m args below meth c D cI A ad0 n0 Q C hr ad H locs LS hR hl)
theorem o_imul {x y : Int32} (hd : decode (mC M) pc = .ok (.imul, 1)) (h : Ok M S (pc + 1) ls (.int (x * y) :: st) w k n P) : Ok M S pc ls (.int y :: .int x :: st) w k n P := by
  intro p l e s m args below meth c D cI A ad0 n0 Q C hr ad H locs LS hR hl
  exact lv_imul C.1.1 C.1.2.1 hd (h p l e s m args below meth c D cI A ad0 n0 Q C hr ad H locs LS hR hl)
theorem o_iand {x y : Int32} (hd : decode (mC M) pc = .ok (.iand, 1)) (h : Ok M S (pc + 1) ls (.int (x &&& y) :: st) w k n P) : Ok M S pc ls (.int y :: .int x :: st) w k n P := by
  intro p l e s m args below meth c D cI A ad0 n0 Q C hr ad H locs LS hR hl
  exact lv_iand C.1.1 C.1.2.1 hd (h p l e s m args below meth c D cI A ad0 n0 Q C hr ad H locs LS hR hl)
theorem o_ior {x y : Int32} (hd : decode (mC M) pc = .ok (.ior, 1)) (h : Ok M S (pc + 1) ls (.int (x ||| y) :: st) w k n P) : Ok M S pc ls (.int y :: .int x :: st) w k n P := by
  intro p l e s m args below meth c D cI A ad0 n0 Q C hr ad H locs LS hR hl
  exact lv_ior C.1.1 C.1.2.1 hd (h p l e s m args below meth c D cI A ad0 n0 Q C hr ad H locs LS hR hl)
theorem o_ixor {x y : Int32} (hd : decode (mC M) pc = .ok (.ixor, 1)) (h : Ok M S (pc + 1) ls (.int (x ^^^ y) :: st) w k n P) : Ok M S pc ls (.int y :: .int x :: st) w k n P := by
  intro p l e s m args below meth c D cI A ad0 n0 Q C hr ad H locs LS hR hl
  exact lv_ixor C.1.1 C.1.2.1 hd (h p l e s m args below meth c D cI A ad0 n0 Q C hr ad H locs LS hR hl)
theorem o_ishl {x y : Int32} (hd : decode (mC M) pc = .ok (.ishl, 1)) (h : Ok M S (pc + 1) ls (.int (x <<< (y &&& 31)) :: st) w k n P) : Ok M S pc ls (.int y :: .int x :: st) w k n P := by
  intro p l e s m args below meth c D cI A ad0 n0 Q C hr ad H locs LS hR hl
  exact lv_ishl C.1.1 C.1.2.1 hd (h p l e s m args below meth c D cI A ad0 n0 Q C hr ad H locs LS hR hl)
theorem o_ishr {x y : Int32} (hd : decode (mC M) pc = .ok (.ishr, 1)) (h : Ok M S (pc + 1) ls (.int (x >>> (y &&& 31)) :: st) w k n P) : Ok M S pc ls (.int y :: .int x :: st) w k n P := by
  intro p l e s m args below meth c D cI A ad0 n0 Q C hr ad H locs LS hR hl
  exact lv_ishr C.1.1 C.1.2.1 hd (h p l e s m args below meth c D cI A ad0 n0 Q C hr ad H locs LS hR hl)
theorem o_iushr {x y : Int32} (hd : decode (mC M) pc = .ok (.iushr, 1)) (h : Ok M S (pc + 1) ls (.int (x.toUInt32 >>> (y.toUInt32 &&& Int32.toUInt32 31)).toInt32 :: st) w k n P) : Ok M S pc ls (.int y :: .int x :: st) w k n P := by
  intro p l e s m args below meth c D cI A ad0 n0 Q C hr ad H locs LS hR hl
  exact lv_iushr C.1.1 C.1.2.1 hd rfl (h p l e s m args below meth c D cI A ad0 n0 Q C hr ad H locs LS hR hl)
theorem o_idiv {x y : Int32} (hd : decode (mC M) pc = .ok (.idiv, 1)) (hne : ¬ y = 0) (h : Ok M S (pc + 1) ls (.int (x / y) :: st) w k n P) : Ok M S pc ls (.int y :: .int x :: st) w k n P := by
  intro p l e s m args below meth c D cI A ad0 n0 Q C hr ad H locs LS hR hl
  exact lv_idiv C.1.1 C.1.2.1 hd hne (h p l e s m args below meth c D cI A ad0 n0 Q C hr ad H locs LS hR hl)
theorem o_irem {x y : Int32} (hd : decode (mC M) pc = .ok (.irem, 1)) (hne : ¬ y = 0) (h : Ok M S (pc + 1) ls (.int (x - x / y * y) :: st) w k n P) : Ok M S pc ls (.int y :: .int x :: st) w k n P := by
  intro p l e s m args below meth c D cI A ad0 n0 Q C hr ad H locs LS hR hl
  exact lv_irem C.1.1 C.1.2.1 hd hne (h p l e s m args below meth c D cI A ad0 n0 Q C hr ad H locs LS hR hl)
theorem o_ineg {x : Int32} (hd : decode (mC M) pc = .ok (.ineg, 1)) (h : Ok M S (pc + 1) ls (.int (-x) :: st) w k n P) : Ok M S pc ls (.int x :: st) w k n P := by
  intro p l e s m args below meth c D cI A ad0 n0 Q C hr ad H locs LS hR hl
  exact lv_ineg C.1.1 C.1.2.1 hd (h p l e s m args below meth c D cI A ad0 n0 Q C hr ad H locs LS hR hl)
theorem o_i2l {x : Int32} (hd : decode (mC M) pc = .ok (.i2l, 1)) (h : Ok M S (pc + 1) ls (.long x.toInt64 :: st) w k n P) : Ok M S pc ls (.int x :: st) w k n P := by
  intro p l e s m args below meth c D cI A ad0 n0 Q C hr ad H locs LS hR hl
  exact lv_i2l C.1.1 C.1.2.1 hd rfl (h p l e s m args below meth c D cI A ad0 n0 Q C hr ad H locs LS hR hl)
theorem o_ladd {x y : Int64} (hd : decode (mC M) pc = .ok (.ladd, 1)) (h : Ok M S (pc + 1) ls (.long (x + y) :: st) w k n P) : Ok M S pc ls (.long y :: .long x :: st) w k n P := by
  intro p l e s m args below meth c D cI A ad0 n0 Q C hr ad H locs LS hR hl
  exact lv_ladd C.1.1 C.1.2.1 hd (h p l e s m args below meth c D cI A ad0 n0 Q C hr ad H locs LS hR hl)
theorem o_lsub {x y : Int64} (hd : decode (mC M) pc = .ok (.lsub, 1)) (h : Ok M S (pc + 1) ls (.long (x - y) :: st) w k n P) : Ok M S pc ls (.long y :: .long x :: st) w k n P := by
  intro p l e s m args below meth c D cI A ad0 n0 Q C hr ad H locs LS hR hl
  exact lv_lsub C.1.1 C.1.2.1 hd (h p l e s m args below meth c D cI A ad0 n0 Q C hr ad H locs LS hR hl)
theorem o_lmul {x y : Int64} (hd : decode (mC M) pc = .ok (.lmul, 1)) (h : Ok M S (pc + 1) ls (.long (x * y) :: st) w k n P) : Ok M S pc ls (.long y :: .long x :: st) w k n P := by
  intro p l e s m args below meth c D cI A ad0 n0 Q C hr ad H locs LS hR hl
  exact lv_lmul C.1.1 C.1.2.1 hd (h p l e s m args below meth c D cI A ad0 n0 Q C hr ad H locs LS hR hl)
theorem o_ldiv {x y : Int64} (hd : decode (mC M) pc = .ok (.ldiv, 1)) (hne : ¬ y = 0) (h : Ok M S (pc + 1) ls (.long (x / y) :: st) w k n P) : Ok M S pc ls (.long y :: .long x :: st) w k n P := by
  intro p l e s m args below meth c D cI A ad0 n0 Q C hr ad H locs LS hR hl
  exact lv_ldiv C.1.1 C.1.2.1 hd hne (h p l e s m args below meth c D cI A ad0 n0 Q C hr ad H locs LS hR hl)
theorem o_lrem {x y : Int64} (hd : decode (mC M) pc = .ok (.lrem, 1)) (hne : ¬ y = 0) (h : Ok M S (pc + 1) ls (.long (x - x / y * y) :: st) w k n P) : Ok M S pc ls (.long y :: .long x :: st) w k n P := by
  intro p l e s m args below meth c D cI A ad0 n0 Q C hr ad H locs LS hR hl
  exact lv_lrem C.1.1 C.1.2.1 hd hne (h p l e s m args below meth c D cI A ad0 n0 Q C hr ad H locs LS hR hl)
theorem o_lcmp {x y : Int64} (hd : decode (mC M) pc = .ok (.lcmp, 1)) (h : Ok M S (pc + 1) ls (.int (lg_cmp x y) :: st) w k n P) : Ok M S pc ls (.long y :: .long x :: st) w k n P := by
  intro p l e s m args below meth c D cI A ad0 n0 Q C hr ad H locs LS hR hl
  exact W.lcmp C.1.1 C.1.2.1 hd (h p l e s m args below meth c D cI A ad0 n0 Q C hr ad H locs LS hR hl)
theorem o_dup {v : Value} (hd : decode (mC M) pc = .ok (.dup, 1)) (hc : v.category = 1) (h : Ok M S (pc + 1) ls (v :: v :: st) w k n P) : Ok M S pc ls (v :: st) w k n P := by
  intro p l e s m args below meth c D cI A ad0 n0 Q C hr ad H locs LS hR hl
  exact lv_dup C.1.1 C.1.2.1 hd ((tv_cat ad v).trans hc) (h p l e s m args below meth c D cI A ad0 n0 Q C hr ad H locs LS hR hl)
theorem o_pop {v : Value} (hd : decode (mC M) pc = .ok (.pop, 1)) (hc : v.category = 1) (h : Ok M S (pc + 1) ls st w k n P) : Ok M S pc ls (v :: st) w k n P := by
  intro p l e s m args below meth c D cI A ad0 n0 Q C hr ad H locs LS hR hl
  exact lv_pop C.1.1 C.1.2.1 hd ((tv_cat ad v).trans hc) (h p l e s m args below meth c D cI A ad0 n0 Q C hr ad H locs LS hR hl)
theorem o_dup2 {v u : Value} (hd : decode (mC M) pc = .ok (.dup2, 1)) (hc : v.category = 1) (hc2 : u.category = 1) (h : Ok M S (pc + 1) ls (v :: u :: v :: u :: st) w k n P) : Ok M S pc ls (v :: u :: st) w k n P := by
  intro p l e s m args below meth c D cI A ad0 n0 Q C hr ad H locs LS hR hl
  exact lv_dup2_11 C.1.1 C.1.2.1 hd ((tv_cat ad v).trans hc) ((tv_cat ad u).trans hc2) (h p l e s m args below meth c D cI A ad0 n0 Q C hr ad H locs LS hR hl)
theorem o_if_eq {x : Int32} {off : Int} {tgt : Nat} (hd : decode (mC M) pc = .ok (.ifCond .eq off, 3)) (ht : (pc : Int) + off = (tgt : Int)) (h1 : x = 0 → Ok M S tgt ls st w k n P) (h2 : ¬ x = 0 → Ok M S (pc + 3) ls st w k n P) : Ok M S pc ls (.int x :: st) w k n P := by
  intro p l e s m args below meth c D cI A ad0 n0 Q C hr ad H locs LS hR hl
  exact lv_if_eq C.1.1 C.1.2.1 hd ht (fun q => h1 q p l e s m args below meth c D cI A ad0 n0 Q C hr ad H locs LS hR hl) (fun q => h2 q p l e s m args below meth c D cI A ad0 n0 Q C hr ad H locs LS hR hl)
theorem o_if_ne {x : Int32} {off : Int} {tgt : Nat} (hd : decode (mC M) pc = .ok (.ifCond .ne off, 3)) (ht : (pc : Int) + off = (tgt : Int)) (h1 : ¬ x = 0 → Ok M S tgt ls st w k n P) (h2 : x = 0 → Ok M S (pc + 3) ls st w k n P) : Ok M S pc ls (.int x :: st) w k n P := by
  intro p l e s m args below meth c D cI A ad0 n0 Q C hr ad H locs LS hR hl
  exact lv_if_ne C.1.1 C.1.2.1 hd ht (fun q => h1 q p l e s m args below meth c D cI A ad0 n0 Q C hr ad H locs LS hR hl) (fun q => h2 q p l e s m args below meth c D cI A ad0 n0 Q C hr ad H locs LS hR hl)
theorem o_if_lt {x : Int32} {off : Int} {tgt : Nat} (hd : decode (mC M) pc = .ok (.ifCond .lt off, 3)) (ht : (pc : Int) + off = (tgt : Int)) (h1 : x < 0 → Ok M S tgt ls st w k n P) (h2 : ¬ x < 0 → Ok M S (pc + 3) ls st w k n P) : Ok M S pc ls (.int x :: st) w k n P := by
  intro p l e s m args below meth c D cI A ad0 n0 Q C hr ad H locs LS hR hl
  exact lv_if_lt C.1.1 C.1.2.1 hd ht (fun q => h1 q p l e s m args below meth c D cI A ad0 n0 Q C hr ad H locs LS hR hl) (fun q => h2 q p l e s m args below meth c D cI A ad0 n0 Q C hr ad H locs LS hR hl)
theorem o_if_ge {x : Int32} {off : Int} {tgt : Nat} (hd : decode (mC M) pc = .ok (.ifCond .ge off, 3)) (ht : (pc : Int) + off = (tgt : Int)) (h1 : 0 ≤ x → Ok M S tgt ls st w k n P) (h2 : ¬ 0 ≤ x → Ok M S (pc + 3) ls st w k n P) : Ok M S pc ls (.int x :: st) w k n P := by
  intro p l e s m args below meth c D cI A ad0 n0 Q C hr ad H locs LS hR hl
  exact lv_if_ge C.1.1 C.1.2.1 hd ht (fun q => h1 q p l e s m args below meth c D cI A ad0 n0 Q C hr ad H locs LS hR hl) (fun q => h2 q p l e s m args below meth c D cI A ad0 n0 Q C hr ad H locs LS hR hl)
theorem o_if_gt {x : Int32} {off : Int} {tgt : Nat} (hd : decode (mC M) pc = .ok (.ifCond .gt off, 3)) (ht : (pc : Int) + off = (tgt : Int)) (h1 : 0 < x → Ok M S tgt ls st w k n P) (h2 : ¬ 0 < x → Ok M S (pc + 3) ls st w k n P) : Ok M S pc ls (.int x :: st) w k n P := by
  intro p l e s m args below meth c D cI A ad0 n0 Q C hr ad H locs LS hR hl
  exact lv_if_gt C.1.1 C.1.2.1 hd ht (fun q => h1 q p l e s m args below meth c D cI A ad0 n0 Q C hr ad H locs LS hR hl) (fun q => h2 q p l e s m args below meth c D cI A ad0 n0 Q C hr ad H locs LS hR hl)
theorem o_if_le {x : Int32} {off : Int} {tgt : Nat} (hd : decode (mC M) pc = .ok (.ifCond .le off, 3)) (ht : (pc : Int) + off = (tgt : Int)) (h1 : x ≤ 0 → Ok M S tgt ls st w k n P) (h2 : ¬ x ≤ 0 → Ok M S (pc + 3) ls st w k n P) : Ok M S pc ls (.int x :: st) w k n P := by
  intro p l e s m args below meth c D cI A ad0 n0 Q C hr ad H locs LS hR hl
  exact lv_if_le C.1.1 C.1.2.1 hd ht (fun q => h1 q p l e s m args below meth c D cI A ad0 n0 Q C hr ad H locs LS hR hl) (fun q => h2 q p l e s m args below meth c D cI A ad0 n0 Q C hr ad H locs LS hR hl)
theorem o_icmp_eq {x y : Int32} {off : Int} {tgt : Nat} (hd : decode (mC M) pc = .ok (.if_icmp .eq off, 3)) (ht : (pc : Int) + off = (tgt : Int)) (h1 : x = y → Ok M S tgt ls st w k n P) (h2 : ¬ x = y → Ok M S (pc + 3) ls st w k n P) : Ok M S pc ls (.int y :: .int x :: st) w k n P := by
  intro p l e s m args below meth c D cI A ad0 n0 Q C hr ad H locs LS hR hl
  exact lv_icmp_eq C.1.1 C.1.2.1 hd ht (fun q => h1 q p l e s m args below meth c D cI A ad0 n0 Q C hr ad H locs LS hR hl) (fun q => h2 q p l e s m args below meth c D cI A ad0 n0 Q C hr ad H locs LS hR hl)
theorem o_icmp_ne {x y : Int32} {off : Int} {tgt : Nat} (hd : decode (mC M) pc = .ok (.if_icmp .ne off, 3)) (ht : (pc : Int) + off = (tgt : Int)) (h1 : ¬ x = y → Ok M S tgt ls st w k n P) (h2 : x = y → Ok M S (pc + 3) ls st w k n P) : Ok M S pc ls (.int y :: .int x :: st) w k n P := by
  intro p l e s m args below meth c D cI A ad0 n0 Q C hr ad H locs LS hR hl
  exact lv_icmp_ne C.1.1 C.1.2.1 hd ht (fun q => h1 q p l e s m args below meth c D cI A ad0 n0 Q C hr ad H locs LS hR hl) (fun q => h2 q p l e s m args below meth c D cI A ad0 n0 Q C hr ad H locs LS hR hl)
theorem o_icmp_lt {x y : Int32} {off : Int} {tgt : Nat} (hd : decode (mC M) pc = .ok (.if_icmp .lt off, 3)) (ht : (pc : Int) + off = (tgt : Int)) (h1 : x < y → Ok M S tgt ls st w k n P) (h2 : ¬ x < y → Ok M S (pc + 3) ls st w k n P) : Ok M S pc ls (.int y :: .int x :: st) w k n P := by
  intro p l e s m args below meth c D cI A ad0 n0 Q C hr ad H locs LS hR hl
  exact lv_icmp_lt C.1.1 C.1.2.1 hd ht (fun q => h1 q p l e s m args below meth c D cI A ad0 n0 Q C hr ad H locs LS hR hl) (fun q => h2 q p l e s m args below meth c D cI A ad0 n0 Q C hr ad H locs LS hR hl)
theorem o_icmp_ge {x y : Int32} {off : Int} {tgt : Nat} (hd : decode (mC M) pc = .ok (.if_icmp .ge off, 3)) (ht : (pc : Int) + off = (tgt : Int)) (h1 : y ≤ x → Ok M S tgt ls st w k n P) (h2 : ¬ y ≤ x → Ok M S (pc + 3) ls st w k n P) : Ok M S pc ls (.int y :: .int x :: st) w k n P := by
  intro p l e s m args below meth c D cI A ad0 n0 Q C hr ad H locs LS hR hl
  exact lv_icmp_ge C.1.1 C.1.2.1 hd ht (fun q => h1 q p l e s m args below meth c D cI A ad0 n0 Q C hr ad H locs LS hR hl) (fun q => h2 q p l e s m args below meth c D cI A ad0 n0 Q C hr ad H locs LS hR hl)
theorem o_icmp_gt {x y : Int32} {off : Int} {tgt : Nat} (hd : decode (mC M) pc = .ok (.if_icmp .gt off, 3)) (ht : (pc : Int) + off = (tgt : Int)) (h1 : y < x → Ok M S tgt ls st w k n P) (h2 : ¬ y < x → Ok M S (pc + 3) ls st w k n P) : Ok M S pc ls (.int y :: .int x :: st) w k n P := by
  intro p l e s m args below meth c D cI A ad0 n0 Q C hr ad H locs LS hR hl
  exact lv_icmp_gt C.1.1 C.1.2.1 hd ht (fun q => h1 q p l e s m args below meth c D cI A ad0 n0 Q C hr ad H locs LS hR hl) (fun q => h2 q p l e s m args below meth c D cI A ad0 n0 Q C hr ad H locs LS hR hl)
theorem o_icmp_le {x y : Int32} {off : Int} {tgt : Nat} (hd : decode (mC M) pc = .ok (.if_icmp .le off, 3)) (ht : (pc : Int) + off = (tgt : Int)) (h1 : x ≤ y → Ok M S tgt ls st w k n P) (h2 : ¬ x ≤ y → Ok M S (pc + 3) ls st w k n P) : Ok M S pc ls (.int y :: .int x :: st) w k n P := by
  intro p l e s m args below meth c D cI A ad0 n0 Q C hr ad H locs LS hR hl
  exact lv_icmp_le C.1.1 C.1.2.1 hd ht (fun q => h1 q p l e s m args below meth c D cI A ad0 n0 Q C hr ad H locs LS hR hl) (fun q => h2 q p l e s m args below meth c D cI A ad0 n0 Q C hr ad H locs LS hR hl)
theorem o_goto {off : Int} {tgt : Nat} (hd : decode (mC M) pc = .ok (.goto off, 3)) (ht : (pc : Int) + off = (tgt : Int)) (h : Ok M S tgt ls st w k n P) : Ok M S pc ls st w k n P := by
  intro p l e s m args below meth c D cI A ad0 n0 Q C hr ad H locs LS hR hl
  exact lv_goto C.1.1 C.1.2.1 hd ht (h p l e s m args below meth c D cI A ad0 n0 Q C hr ad H locs LS hR hl)
theorem o_tabOut {dflt lo hi : Int} {offs : Array Int} {len : Nat} {x : Int32} {tgt : Nat} (hd : decode (mC M) pc = .ok (.tableswitch dflt lo hi offs, len)) (hx : x.toInt < lo ∨ hi < x.toInt) (ht : (pc : Int) + dflt = (tgt : Int)) (h : Ok M S tgt ls st w k n P) : Ok M S pc ls (.int x :: st) w k n P := by
  intro p l e s m args below meth c D cI A ad0 n0 Q C hr ad H locs LS hR hl
  exact lv_tableOut C.1.1 C.1.2.1 hd hx ht (h p l e s m args below meth c D cI A ad0 n0 Q C hr ad H locs LS hR hl)
theorem o_tabIn {dflt lo hi : Int} {offs : Array Int} {len : Nat} {x : Int32} {off : Int} {tgt : Nat} (hd : decode (mC M) pc = .ok (.tableswitch dflt lo hi offs, len)) (h1 : ¬ x.toInt < lo) (h2 : ¬ hi < x.toInt) (ho : offs[(x.toInt - lo).toNat]? = some off) (ht : (pc : Int) + off = (tgt : Int)) (h : Ok M S tgt ls st w k n P) : Ok M S pc ls (.int x :: st) w k n P := by
  intro p l e s m args below meth c D cI A ad0 n0 Q C hr ad H locs LS hR hl
  exact lv_tableIn C.1.1 C.1.2.1 hd h1 h2 ho ht (h p l e s m args below meth c D cI A ad0 n0 Q C hr ad H locs LS hR hl)
theorem o_ldc {idx : Nat} {v : Int32} (hd : decode (mC M) pc = .ok (.ldc idx, 2)) (hq : Cond.constant (mY M).cls idx v ∈ GW) (h : Ok M S (pc + 2) ls (.int v :: st) w k n P) : Ok M S pc ls st w k n P := by
  intro p l e s m args below meth c D cI A ad0 n0 Q C hr ad H locs LS hR hl
  exact lv_ldc C.1.1 C.1.2.1 C.1.2.2.2.1 (C.2.1 _ hq) hd (h p l e s m args below meth c D cI A ad0 n0 Q C hr ad H locs LS hR hl)
theorem o_ldcw {idx : Nat} {v : Int32} (hd : decode (mC M) pc = .ok (.ldc_w idx, 3)) (hq : Cond.constant (mY M).cls idx v ∈ GW) (h : Ok M S (pc + 3) ls (.int v :: st) w k n P) : Ok M S pc ls st w k n P := by
  intro p l e s m args below meth c D cI A ad0 n0 Q C hr ad H locs LS hR hl
  exact lv_ldcw C.1.1 C.1.2.1 C.1.2.2.2.1 (C.2.1 _ hq) hd (h p l e s m args below meth c D cI A ad0 n0 Q C hr ad H locs LS hR hl)
theorem o_ldc2 {idx : Nat} {v : Int64} (hd : decode (mC M) pc = .ok (.ldc2_w idx, 3)) (hq : Cond.constantLong (mY M).cls idx v ∈ GW) (h : Ok M S (pc + 3) ls (.long v :: st) w k n P) : Ok M S pc ls st w k n P := by
  intro p l e s m args below meth c D cI A ad0 n0 Q C hr ad H locs LS hR hl
  exact lv_ldc2 C.1.1 C.1.2.1 C.1.2.2.2.1 (C.2.1 _ hq) hd (h p l e s m args below meth c D cI A ad0 n0 Q C hr ad H locs LS hR hl)
theorem o_iret {v : Int32} {ty : FieldType} (hd : decode (mC M) pc = .ok (.ireturn, 1)) (hT : mT M = some ty) (hn : narrow ty (.int v) = .int v) (hk : k ≤ (mR M).cells) (hk2 : n ≤ (mR M).slots) (h : P (some (.int v)) w) : Ok M S pc ls [.int v] w k n P := by
  intro p l e s m args below meth c D cI A ad0 n0 Q C hr ad H locs LS hR hl
  exact W.widen hk hk2 (hr pc LS (some (.int v)) w ad H locs hR h ⟨hd, ty, hT, hn⟩)
theorem o_lret {v : Int64} (hd : decode (mC M) pc = .ok (.lreturn, 1)) (hT : mT M = some .long) (hk : k ≤ (mR M).cells) (hk2 : n ≤ (mR M).slots) (h : P (some (.long v)) w) : Ok M S pc ls [.long v] w k n P := by
  intro p l e s m args below meth c D cI A ad0 n0 Q C hr ad H locs LS hR hl
  exact W.widen hk hk2 (hr pc LS (some (.long v)) w ad H locs hR h ⟨hT, hd⟩)
theorem o_vret (hd : decode (mC M) pc = .ok (.return_, 1)) (hT : mT M = none) (hk : k ≤ (mR M).cells) (hk2 : n ≤ (mR M).slots) (h : P none w) : Ok M S pc ls [] w k n P := by
  intro p l e s m args below meth c D cI A ad0 n0 Q C hr ad H locs LS hR hl
  exact W.widen hk hk2 (hr pc LS none w ad H locs hR h ⟨hT, hd⟩)
theorem rel_set {D : va_G} {cI : ClassId} {R : Room} {A : Nat → Prop} {H0 : Heap} {ad0 : Nat → Nat} {n0 : Nat} {ad : Nat → Nat} {H H1 : Heap} {locs locs1 : List Loc} {a : Nat} {e : PE} (h : Rel D cI R A H0 ad0 n0 ad w H locs)
    (hP : va_P D vwCl ((tw cI ad w).set a (ad a, te cI ad e)) H1) (hD : va_D A ((tw cI ad w).set a (ad a, te cI ad e))) (hS : va_S A H0 H1 locs1) : Rel D cI R A H0 ad0 n0 ad (w.set a e) H1 locs1 :=
  ⟨by rw [tw_set]; exact hP, by rw [tw_set]; exact hD, hS, fun z => ⟨(h.2.2.2.1 z).1, by rw [List.length_set]; exact (h.2.2.2.1 z).2⟩, by rw [List.length_set]; exact h.2.2.2.2.1, h.2.2.2.2.2⟩
theorem o_getf {a ci N j idx : Nat} {B : String} {T : u_T} {fs : List Value} {v : Value} (hd : decode (mC M) pc = .ok (.getfield idx, 3)) (hw : w[a]? = some (.inr (ci, fs))) (hc : vwCl[ci]? = some (B, T, N)) (hin : ∀ w ∈ u_ws B T N, w ∈ GW) (hj : j < N) (hlink : Cond.fieldLink (mY M).cls idx B (T j).2.1 (T j).2.2.1 ∈ GW) (ho : (T j).1 = B) (hv : fs[j]? = some v) (h : Ok M S (pc + 3) ls (v :: st) w k n P) : Ok M S pc ls (.ref a :: st) w k n P := by
  intro p l e s m args below meth c D cI A ad0 n0 Q C hr ad H locs LS hR hl
  exact va_get C.1.1 C.1.2.1 C.2.1 hin C.1.2.2.2.1 C.2.2.1 hR.1 a (tw_at hw) hc j hj (C.2.1 _ hlink) (fun x hx => by rw [ho] at hx; exact hx) (v := tv ad v) (by rw [List.getElem?_map, hv]; rfl) hd (h p l e s m args below meth c D cI A ad0 n0 Q C hr ad H locs LS hR hl)
theorem o_putf {a ci N j idx : Nat} {B : String} {T : u_T} {fs : List Value} {v : Value} {w2 : PW} (ty0 : Nat → FieldType) (hd : decode (mC M) pc = .ok (.putfield idx, 3)) (hw : w[a]? = some (.inr (ci, fs))) (hc : vwCl[ci]? = some (B, T, N)) (hin : ∀ w ∈ u_ws B T N, w ∈ GW) (hty : ∀ k, k < N → parseFieldDescriptor (T k).2.2.1 = some (ty0 k)) (hnm : ∀ a, a < N → ∀ b, b < N → a ≠ b → (T a).2.1 ≠ (T b).2.1) (hj : j < N) (hlink : Cond.fieldLink (mY M).cls idx B (T j).2.1 (T j).2.2.1 ∈ GW) (ho : (T j).1 = B) (hf : (T j).2.2.2 = false) (hnr : ∀ ad, narrow (ty0 j) (tv ad v) = tv ad v) (hft : ∀ ad, fits (ty0 j) (tv ad v) = true) (hlen : j < fs.length) (hw2 : w.set a (.inr (ci, fs.set j v)) = w2) (h : Ok M S (pc + 3) ls st w2 k n P) : Ok M S pc ls (v :: .ref a :: st) w k n P := by
  subst hw2
  intro p l e s m args below meth c D cI A ad0 n0 Q C hr ad H locs LS hR hl
  refine va_put C.1.1 C.1.2.1 C.2.1 hin ty0 hty hnm C.1.2.2.2.1 C.2.2.1 hR.1 hR.2.1 hR.2.2.1 a (tw_at hw) hc j hj (C.2.1 _ hlink) (fun x hx => by rw [ho] at hx; exact hx) hf (ty := ty0 j) (v := tv ad v) (hty j hj) (hnr ad) (hft ad) (by rw [List.length_map]; exact hlen) hd (fun H1 locs1 hP hD hS => ?_)
  have e1 : (fs.map (tv ad)).set j (tv ad v) = (fs.set j v).map (tv ad) := by rw [List.map_set]
  rw [e1] at hP hD
  exact h p l e s m args below meth c D cI A ad0 n0 Q C hr ad H1 locs1 LS (rel_set (e := .inr (ci, fs.set j v)) hR hP hD hS) hl
theorem o_putF {a ci N j idx : Nat} {B : String} {T : u_T} {fs : List Value} {v : Value} {w2 : PW} (ty0 : Nat → FieldType) (hd : decode (mC M) pc = .ok (.putfield idx, 3)) (hw : w[a]? = some (.inr (ci, fs))) (hc : vwCl[ci]? = some (B, T, N)) (hin : ∀ w ∈ u_ws B T N, w ∈ GW) (hty : ∀ k, k < N → parseFieldDescriptor (T k).2.2.1 = some (ty0 k)) (hnm : ∀ a, a < N → ∀ b, b < N → a ≠ b → (T a).2.1 ≠ (T b).2.1) (hj : j < N) (hlink : Cond.fieldLink (mY M).cls idx B (T j).2.1 (T j).2.2.1 ∈ GW) (ho : (T j).1 = B) (hf : (T j).2.2.2 = true) (hini : (mY M).name = "<init>") (hcls : (mY M).cls = B) (hnr : ∀ ad, narrow (ty0 j) (tv ad v) = tv ad v) (hft : ∀ ad, fits (ty0 j) (tv ad v) = true) (hlen : j < fs.length) (hw2 : w.set a (.inr (ci, fs.set j v)) = w2) (h : Ok M S (pc + 3) ls st w2 k n P) : Ok M S pc ls (v :: .ref a :: st) w k n P := by
  subst hw2
  intro p l e s m args below meth c D cI A ad0 n0 Q C hr ad H locs LS hR hl
  refine va_putF C.1.1 C.1.2.1 C.2.1 hin ty0 hty hnm C.1.2.2.2.1 C.2.2.1 hR.1 hR.2.1 hR.2.2.1 a (tw_at hw) hc j hj (C.2.1 _ hlink) (fun x hx => by rw [ho] at hx; exact hx) hf (C.1.2.2.2.2.trans hini) (ho.trans hcls.symm) (ty := ty0 j) (v := tv ad v) (hty j hj) (hnr ad) (hft ad) (by rw [List.length_map]; exact hlen) hd (fun H1 locs1 hP hD hS => ?_)
  have e1 : (fs.map (tv ad)).set j (tv ad v) = (fs.set j v).map (tv ad) := by rw [List.map_set]
  rw [e1] at hP hD
  exact h p l e s m args below meth c D cI A ad0 n0 Q C hr ad H1 locs1 LS (rel_set (e := .inr (ci, fs.set j v)) hR hP hD hS) hl
theorem o_iald {a N : Nat} {f : Nat → Int32} {i : Int32} (hd : decode (mC M) pc = .ok (.iaload, 1)) (hw : w[a]? = some (.inl (N, f))) (hin : vp_in i N) (h : Ok M S (pc + 1) ls (.int (f i.toNatClampNeg) :: st) w k n P) : Ok M S pc ls (.int i :: .ref a :: st) w k n P := by
  intro p l e s m args below meth c D cI A ad0 n0 Q C hr ad H locs LS hR hl
  exact va_iald C.1.1 C.1.2.1 C.2.2.1 hR.1 a 0 (tw_at hw) rfl hin hd (h p l e s m args below meth c D cI A ad0 n0 Q C hr ad H locs LS hR hl)
theorem o_iast {a N : Nat} {f : Nat → Int32} {i x : Int32} {w2 : PW} (hd : decode (mC M) pc = .ok (.iastore, 1)) (hw : w[a]? = some (.inl (N, f))) (hin : vp_in i N) (hw2 : w.set a (.inl (N, upd f i.toNatClampNeg x)) = w2) (h : Ok M S (pc + 1) ls st w2 k n P) : Ok M S pc ls (.int x :: .int i :: .ref a :: st) w k n P := by
  subst hw2
  intro p l e s m args below meth c D cI A ad0 n0 Q C hr ad H locs LS hR hl
  exact va_iast C.1.1 C.1.2.1 C.2.2.1 hR.1 hR.2.1 hR.2.2.1 a 0 (tw_at hw) rfl hin hd (fun H1 locs1 hP hD hS => h p l e s m args below meth c D cI A ad0 n0 Q C hr ad H1 locs1 LS (rel_set (e := .inl (N, upd f i.toNatClampNeg x)) hR hP hD hS) hl)
theorem o_alen {a N : Nat} {f : Nat → Int32} (hd : decode (mC M) pc = .ok (.arraylength, 1)) (hw : w[a]? = some (.inl (N, f))) (h : Ok M S (pc + 1) ls (.int (nI N) :: st) w k n P) : Ok M S pc ls (.ref a :: st) w k n P := by
  intro p l e s m args below meth c D cI A ad0 n0 Q C hr ad H locs LS hR hl
  exact va_alen C.1.1 C.1.2.1 C.2.2.1 hR.1 a 0 (tw_at hw) (ty := .int) rfl rfl hd (h p l e s m args below meth c D cI A ad0 n0 Q C hr ad H locs LS hR hl)
theorem o_sld {L : Nat} {xs : Nat → Int32} {i : Int32} (hd : decode (mC M) pc = .ok (.iaload, 1)) (hS : S = some (L, xs)) (hin : vp_in i L) (h : Ok M S (pc + 1) ls (.int (xs i.toNatClampNeg) :: st) w k n P) : Ok M S pc ls (.int i :: .ref 999 :: st) w k n P := by
  intro p l e s m args below meth c D cI A ad0 n0 Q C hr ad H locs LS hR hl
  obtain ⟨h1, h2, h3⟩ := C.2.2.2.2.2 _ hS
  have e9 : ad 999 = ad0 999 := hR.2.2.2.2.2.2
  have K := h p l e s m args below meth c D cI A ad0 n0 Q C hr ad H locs LS hR hl
  show W p l e (mR M) s m args below meth c H locs k n Q (F0 m pc LS (.int i :: .ref (ad 999) :: st.map (tv ad)))
  rw [e9]
  exact va_sld C.1.1 C.1.2.1 h1 h2 h3 hR.2.2.1 hin hd K
theorem o_slen {L : Nat} {xs : Nat → Int32} (hd : decode (mC M) pc = .ok (.arraylength, 1)) (hS : S = some (L, xs)) (h : Ok M S (pc + 1) ls (.int (nI L) :: st) w k n P) : Ok M S pc ls (.ref 999 :: st) w k n P := by
  intro p l e s m args below meth c D cI A ad0 n0 Q C hr ad H locs LS hR hl
  obtain ⟨h1, h2, h3⟩ := C.2.2.2.2.2 _ hS
  have e9 : ad 999 = ad0 999 := hR.2.2.2.2.2.2
  have K := h p l e s m args below meth c D cI A ad0 n0 Q C hr ad H locs LS hR hl
  show W p l e (mR M) s m args below meth c H locs k n Q (F0 m pc LS (.ref (ad 999) :: st.map (tv ad)))
  rw [e9]
  exact va_slen C.1.1 C.1.2.1 h1 h2 h3 hR.2.2.1 hd K
def catS (st : List Value) : Nat := (st.map fun v => v.category).sum
theorem catS_tv (ad : Nat → Nat) : ∀ st : List Value, ((st.map (tv ad)).map fun v => v.category).sum = catS st
  | [] => rfl
  | v :: st => by
    have ih := catS_tv ad st
    simp only [catS, List.map_cons, List.sum_cons, tv_cat] at ih ⊢
    rw [ih]
theorem o_objInit {a idx : Nat} (hd : decode (mC M) pc = .ok (.invokespecial idx, 3)) (hlink : Cond.methodLink (mY M).cls idx objectInit ∈ GW) (hinst : Cond.instanceMethod objectInit ∈ GW) (hcode : Cond.code objectInit ⟨#[0xb1]⟩ 1 none ∈ GW) (hf : 1 ≤ (mR M).frames) (hlo : catS st + 12 ≤ (mR M).locals) (h : Ok M S (pc + 3) ls st w k n P) : Ok M S pc ls (.ref a :: st) w k n P := by
  intro p l e s m args below meth c D cI A ad0 n0 Q C hr ad H locs LS hR hl
  exact W.objInit C.1.1 C.1.2.1 C.1.2.2.2.1 (C.2.1 _ hlink) (C.2.1 _ hinst) (C.2.1 _ hcode) (g := F0 m pc LS (.ref (ad a) :: st.map (tv ad))) rfl (hl.1.trans C.1.2.2.1.symm) rfl hd hf (by show 2 * 0 + _ + 12 ≤ _; rw [catS_tv]; omega) (h p l e s m args below meth c D cI A ad0 n0 Q C hr ad H locs LS hR hl)
theorem o_mmax {x y : Int32} {idx : Nat} (hd : decode (mC M) pc = .ok (.invokestatic idx, 3)) (hlink : Cond.methodLink (mY M).cls idx Lib.Math.max.name ∈ GW) (hst : Cond.static Lib.Math.max.name ∈ GW) (hini : Cond.initialized "java/lang/Math" ∈ GW) (hcode : Cond.code Lib.Math.max.name Lib.Math.max.code 2 (some .int) ∈ GW) (hf : 1 ≤ (mR M).frames) (hlo : catS st + 13 ≤ (mR M).locals) (hk : k ≤ (mR M).cells) (hk2 : n ≤ (mR M).slots) (h : Ok M S (pc + 3) ls (.int (if x < y then y else x) :: st) w k n P) : Ok M S pc ls (.int y :: .int x :: st) w k n P := by
  intro p l e s m args below meth c D cI A ad0 n0 Q C hr ad H locs LS hR hl
  exact va_mmax C.1.1 C.1.2.1 (C.1.2.2.1.trans hl.1.symm) C.1.2.2.2.1 (C.2.1 _ hlink) (C.2.1 _ hst) (C.2.1 _ hini) (C.2.1 _ hcode) hf (by rw [catS_tv]; exact hlo) hk hk2 hd (h p l e s m args below meth c D cI A ad0 n0 Q C hr ad H locs LS hR hl)
theorem o_mmin {x y : Int32} {idx : Nat} (hd : decode (mC M) pc = .ok (.invokestatic idx, 3)) (hlink : Cond.methodLink (mY M).cls idx Lib.Math.min.name ∈ GW) (hst : Cond.static Lib.Math.min.name ∈ GW) (hini : Cond.initialized "java/lang/Math" ∈ GW) (hcode : Cond.code Lib.Math.min.name Lib.Math.min.code 2 (some .int) ∈ GW) (hf : 1 ≤ (mR M).frames) (hlo : catS st + 13 ≤ (mR M).locals) (hk : k ≤ (mR M).cells) (hk2 : n ≤ (mR M).slots) (h : Ok M S (pc + 3) ls (.int (if y < x then y else x) :: st) w k n P) : Ok M S pc ls (.int y :: .int x :: st) w k n P := by
  intro p l e s m args below meth c D cI A ad0 n0 Q C hr ad H locs LS hR hl
  exact va_mmin C.1.1 C.1.2.1 (C.1.2.2.1.trans hl.1.symm) C.1.2.2.2.1 (C.2.1 _ hlink) (C.2.1 _ hst) (C.2.1 _ hini) (C.2.1 _ hcode) hf (by rw [catS_tv]; exact hlo) hk hk2 hd (h p l e s m args below meth c D cI A ad0 n0 Q C hr ad H locs LS hR hl)
theorem o_copyi {a b N0 N1 idx : Nat} {f g : Nat → Int32} {sp dp q : Int32} {w2 : PW} (hd : decode (mC M) pc = .ok (.invokestatic idx, 3)) (hlink : Cond.methodLink (mY M).cls idx arraycopyName ∈ GW) (hnat : Cond.native arraycopyName ∈ GW) (hst : Cond.static arraycopyName ∈ GW) (hini : Cond.initialized "java/lang/System" ∈ GW) (hw : w[b]? = some (.inl (N0, f))) (hw1 : w[a]? = some (.inl (N1, g))) (h1 : ¬ sp < 0) (h2 : ¬ dp < 0) (h3 : ¬ q < 0) (h4 : sp.toNatClampNeg + q.toNatClampNeg ≤ N0) (h5 : dp.toNatClampNeg + q.toNatClampNeg ≤ N1) (hf : 1 ≤ (mR M).frames) (hlo : catS st + (nativeFrameWords "java/lang/System" "arraycopy" 5 + 11) ≤ (mR M).locals) (hw2 : w.set a (.inl (N1, va_cpy f g sp.toNatClampNeg dp.toNatClampNeg q.toNatClampNeg)) = w2) (h : Ok M S (pc + 3) ls st w2 k n P) : Ok M S pc ls (.int q :: .int dp :: .ref a :: .int sp :: .ref b :: st) w k n P := by
  subst hw2
  intro p l e s m args below meth c D cI A ad0 n0 Q C hr ad H locs LS hR hl
  exact va_copyi C.1.1 C.1.2.1 (C.1.2.2.1.trans hl.1.symm) C.1.2.2.2.1 (C.2.1 _ hlink) (C.2.1 _ hnat) (C.2.1 _ hst) (C.2.1 _ hini) C.2.2.1 hR.1 hR.2.1 hR.2.2.1 b a 0 0 (ty := .int) (tw_at hw) (tw_at hw1) rfl rfl rfl h1 h2 h3 h4 h5 (fun _ _ => rfl) hf (by rw [catS_tv]; exact hlo) hd (fun H1 locs1 hP hD hS => h p l e s m args below meth c D cI A ad0 n0 Q C hr ad H1 locs1 LS (rel_set (e := .inl (N1, va_cpy f g sp.toNatClampNeg dp.toNatClampNeg q.toNatClampNeg)) hR hP hD hS) hl)
def peq : PE → PE → Prop
  | .inl x, .inl y => x.1 = y.1 ∧ ∀ j, j < x.1 → x.2 j = y.2 j
  | x, y => x = y
theorem te_peq {cI : ClassId} {ad : Nat → Nat} {x y : PE} {D : va_G} {a : Nat} {H : Heap} (h : peq x y) (hx : va_at D vwCl (a, te cI ad x) H) : va_at D vwCl (a, te cI ad y) H := by
  match x, y, h with
  | .inl (n1, f), .inl (n2, g), h =>
    obtain ⟨h1, h2⟩ := h
    simp only at h1 h2
    subst h1
    have e : arrV cI n1 (fun j => .int (f j)) = arrV cI n1 (fun j => .int (g j)) := by
      unfold arrV
      congr 1
      apply Array.ext
      · simp
      · intro i hi1 hi2
        simp only [Array.getElem_ofFn]
        have : i < n1 := by simpa using hi1
        rw [h2 i this]
    show H[a]? = some (arrV cI n1 (fun j => .int (g j)))
    rw [← e]
    exact hx
  | .inl _, .inr _, h => cases h
  | .inr _, .inl _, h => cases h
  | .inr u, .inr v, h =>
    have e : (Sum.inr u : PE) = Sum.inr v := h
    rw [← e]; exact hx
/-- another picture of the same cells -/
theorem o_same {w2 : PW} (hn : w2.length = w.length) (hq : ∀ (j : Nat) (x y : PE), w[j]? = some x → w2[j]? = some y → peq x y) (h : Ok M S pc ls st w2 k n P) : Ok M S pc ls st w k n P := by
  intro p l e s m args below meth c D cI A ad0 n0 Q C hr ad H locs LS hR hl
  refine h p l e s m args below meth c D cI A ad0 n0 Q C hr ad H locs LS ⟨fun j q hj => ?_, ⟨fun i j p q hi hj e => ?_, fun j q hj => ?_⟩, hR.2.2.1, fun z => ⟨(hR.2.2.2.1 z).1, hn.trans (hR.2.2.2.1 z).2⟩, by rw [hn]; exact hR.2.2.2.2.1, hR.2.2.2.2.2⟩ hl
  · obtain ⟨y, hy, rfl⟩ := tw_of hj
    have hlt : j < w.length := by rw [← hn]; exact (List.getElem?_eq_some_iff.mp hy).1
    have hx : w[j]? = some w[j] := List.getElem?_eq_getElem hlt
    exact te_peq (hq j _ _ hx hy) (hR.1 j _ (tw_at hx))
  · obtain ⟨x, hx, rfl⟩ := tw_of hi
    obtain ⟨y, hy, rfl⟩ := tw_of hj
    have hl1 : i < w.length := by rw [← hn]; exact (List.getElem?_eq_some_iff.mp hx).1
    have hl2 : j < w.length := by rw [← hn]; exact (List.getElem?_eq_some_iff.mp hy).1
    exact hR.2.1.1 i j _ _ (tw_at (List.getElem?_eq_getElem hl1)) (tw_at (List.getElem?_eq_getElem hl2)) e
  · obtain ⟨y, hy, rfl⟩ := tw_of hj
    have hlt : j < w.length := by rw [← hn]; exact (List.getElem?_eq_some_iff.mp hy).1
    have := hR.2.1.2 j (ad j, te cI ad w[j]) (tw_at (List.getElem?_eq_getElem hlt))
    exact this
theorem o_post {P2 : Option Value → PW → Prop} (hp : ∀ r w, P2 r w → P r w) (h : Ok M S pc ls st w k n P2) : Ok M S pc ls st w k n P := by
  intro p l e s m args below meth c D cI A ad0 n0 Q C hr ad H locs LS hR hl
  exact h p l e s m args below meth c D cI A ad0 n0 Q C (fun pc LS r w ad H locs h1 h2 h3 => hr pc LS r w ad H locs h1 (hp r w h2) h3) ad H locs LS hR hl
end ROWS
end
section
/-! CALLS: a callee's contract speaks of its own small world; 'is' says which cells of the caller's they are -/
def rv (is : List Nat) (v : Value) : Value := tv (fun j => is.getD j 0) v
def re (is : List Nat) : PE → PE
  | .inl x => .inl x
  | .inr o => .inr (o.1, o.2.map (rv is))
def pbk (ren : PE → PE) (w : PW) : List Nat → PW → PW
  | i :: is, e :: es => pbk ren (w.set i (ren e)) is es
  | _, _ => w
def pb (w : PW) (is : List Nat) (wc : PW) : PW := pbk (re is) w is wc
theorem pbk_len (ren : PE → PE) : ∀ (is : List Nat) (es w : PW), (pbk ren w is es).length = w.length
  | [], es, w => by cases es <;> rfl
  | i :: is, [], w => rfl
  | i :: is, e :: es, w => by rw [pbk, pbk_len, List.length_set]
theorem pbk_out (ren : PE → PE) : ∀ (is : List Nat) (es w : PW) (i : Nat), (∀ j, j < es.length → is[j]? ≠ some i) → (pbk ren w is es)[i]? = w[i]?
  | [], es, w, i, h => by cases es <;> rfl
  | i0 :: is, [], w, i, h => rfl
  | i0 :: is, e :: es, w, i, h => by
    rw [pbk, pbk_out ren is es _ i (fun j hj => by have := h (j + 1) (by simp; omega); simpa using this), List.getElem?_set, if_neg]
    have := h 0 (by simp)
    simpa using this
theorem pbk_in (ren : PE → PE) : ∀ (is : List Nat) (es w : PW) (i j : Nat) (e : PE), va_nd (is.take es.length) = true → is[j]? = some i → es[j]? = some e → i < w.length → (pbk ren w is es)[i]? = some (ren e)
  | [], es, w, i, j, e, _, h, _, _ => by simp at h
  | i0 :: is, [], w, i, j, e, _, _, h, _ => by simp at h
  | i0 :: is, e0 :: es, w, i, j, e, hn, hi, he, hl => by
    rw [pbk]
    cases j with
    | zero =>
      have e1 : i0 = i := by simpa using hi
      have e2 : e0 = e := by simpa using he
      subst e1; subst e2
      rw [pbk_out ren is es _ i0 (fun j hj hj2 => ?_), List.getElem?_set, if_pos rfl, if_pos hl]
      have a1 : ((i0 :: is).take (e0 :: es).length)[0]? = some i0 := by simp
      have a2 : ((i0 :: is).take (e0 :: es).length)[j + 1]? = some i0 := by
        rw [List.getElem?_take, if_pos (by simp; omega)]
        simpa using hj2
      have := va_nd_inj _ hn 0 (j + 1) i0 a1 a2
      omega
    | succ j =>
      refine pbk_in ren is es _ i j e ?_ (by simpa using hi) (by simpa using he) (by rw [List.length_set]; exact hl)
      have h2 : (i0 :: is).take (e0 :: es).length = i0 :: is.take es.length := by simp
      rw [h2, va_nd] at hn
      simp only [Bool.and_eq_true] at hn
      exact hn.2
theorem tv_rv (ad : Nat → Nat) (is : List Nat) (v : Value) : tv (fun j => ad (is.getD j 0)) v = tv ad (rv is v) := by cases v <;> rfl
theorem te_re (cI : ClassId) (ad : Nat → Nat) (is : List Nat) (e : PE) : te cI (fun j => ad (is.getD j 0)) e = te cI ad (re is e) := by
  cases e with
  | inl x => rfl
  | inr o =>
    show (Sum.inr (o.1, o.2.map (tv fun j => ad (is.getD j 0))) : va_E) = Sum.inr (o.1, (o.2.map (rv is)).map (tv ad))
    rw [List.map_map]
    congr 2
    exact List.map_congr_left (fun v _ => tv_rv ad is v)
/-- the callee's cells lie in the caller's world -/
def Emb (is : List Nat) (wc w : PW) : Prop := (is.take wc.length).map (fun i => w[i]?) = wc.map (fun e => some (re is e))
theorem Emb.at {is : List Nat} {wc w : PW} (h : Emb is wc w) {j : Nat} {e : PE} (he : wc[j]? = some e) : ∃ i, is[j]? = some i ∧ is.getD j 0 = i ∧ w[i]? = some (re is e) := by
  have hl : j < wc.length := (List.getElem?_eq_some_iff.mp he).1
  have h1 : ((is.take wc.length).map (fun i => w[i]?))[j]? = some (some (re is e)) := by rw [h, List.getElem?_map, he]; rfl
  rw [List.getElem?_map, List.getElem?_take, if_pos hl] at h1
  cases hi : is[j]? with
  | none => rw [hi] at h1; cases h1
  | some i =>
    rw [hi] at h1
    exact ⟨i, rfl, by simp [List.getD, hi], Option.some.inj h1⟩
section BACK
variable {M Mc : MI} {S : Scr} {pc : Nat} {ls : List (Option Value)} {st : List Value} {w wc : PW} {k n : Nat} {P Pc : Option Value → PW → Prop} {is : List Nat}
variable {p : Program} {l : Launch} {e : Env} {s : State} {m : MethodId} {args : Array Value} {below : List Frame} {meth : Method} {c : Code} {D : va_G} {cI : ClassId} {A : Nat → Prop} {ad0 ad : Nat → Nat} {n0 : Nat} {Q : State → Prop} {H : Heap} {locs : List Loc} {LS : Array Slot}
theorem sub_P (hR : Rel D cI (mR M) A s.heap ad0 n0 ad w H locs) (hE : Emb is wc w) : va_P D vwCl (tw cI (fun j => ad (is.getD j 0)) wc) H := by
  intro j q hq
  obtain ⟨x, hx, rfl⟩ := tw_of hq
  obtain ⟨i, h1, h2, h3⟩ := hE.at hx
  have := hR.1 i _ (tw_at h3)
  rw [te_re]
  simp only [h2]
  exact this
theorem sub_D (hR : Rel D cI (mR M) A s.heap ad0 n0 ad w H locs) (hE : Emb is wc w) (hnd : va_nd (is.take wc.length) = true) : va_D (fun _ => True) (tw cI (fun j => ad (is.getD j 0)) wc) := by
  refine ⟨fun a b x y ha hb hxy => ?_, fun _ _ _ => trivial⟩
  obtain ⟨x', hx, rfl⟩ := tw_of ha
  obtain ⟨y', hy, rfl⟩ := tw_of hb
  obtain ⟨i, h1, h2, h3⟩ := hE.at hx
  obtain ⟨i', g1, g2, g3⟩ := hE.at hy
  simp only [h2, g2] at hxy
  have e1 := hR.2.1.1 i i' _ _ (tw_at h3) (tw_at g3) hxy
  subst e1
  have la : a < wc.length := (List.getElem?_eq_some_iff.mp hx).1
  have lb : b < wc.length := (List.getElem?_eq_some_iff.mp hy).1
  exact va_nd_inj _ hnd a b i (by rw [List.getElem?_take, if_pos la]; exact h1) (by rw [List.getElem?_take, if_pos lb]; exact g1)
theorem sub_A (C : Ctx M S p s m args meth c D cI A ad0) (hR : Rel D cI (mR M) A s.heap ad0 n0 ad w H locs) (hE : Emb is wc w) : ∀ q, va_A (tw cI (fun j => ad (is.getD j 0)) wc) H.size q → A q := by
  intro q hq
  rcases hq with ⟨j, x, hx⟩ | hq
  · obtain ⟨y, hy, e1⟩ := tw_of hx
    obtain ⟨i, h1, h2, h3⟩ := hE.at hy
    have h4 := hR.2.1.2 i _ (tw_at h3)
    simp only [h2, Prod.mk.injEq] at e1
    rw [e1.1]; exact h4
  · exact C.2.2.2.2.1 q (Nat.le_trans hR.2.2.1.1 hq)
theorem rel_pb {H1 : Heap} {locs1 : List Loc} {wc2 : PW} (hR : Rel D cI (mR M) A s.heap ad0 n0 ad w H locs) (hE : Emb is wc w) (hnd : va_nd (is.take wc.length) = true) (hlen : wc2.length = wc.length)
    (hP : va_P D vwCl (tw cI (fun j => ad (is.getD j 0)) wc2) H1) (hk : ∀ q : Nat, q < H.size → ¬ va_A (tw cI (fun j => ad (is.getD j 0)) wc) H.size q → H1[q]? = H[q]?) (hS : va_S A s.heap H1 locs1) : Rel D cI (mR M) A s.heap ad0 n0 ad (pb w is wc2) H1 locs1 := by
  have hL : (pb w is wc2).length = w.length := pbk_len _ _ _ _
  refine ⟨fun i q hq => ?_, ⟨fun i j x y hi hj hxy => ?_, fun i q hq => ?_⟩, hS, fun z => ⟨(hR.2.2.2.1 z).1, hL.trans (hR.2.2.2.1 z).2⟩, by rw [hL]; exact hR.2.2.2.2.1, hR.2.2.2.2.2⟩
  · obtain ⟨x, hx, rfl⟩ := tw_of hq
    have hi : i < w.length := by rw [← hL]; exact (List.getElem?_eq_some_iff.mp hx).1
    by_cases hin : ∃ j, j < wc2.length ∧ is[j]? = some i
    · obtain ⟨j, hj, hji⟩ := hin
      have he : wc2[j]? = some wc2[j] := List.getElem?_eq_getElem hj
      have h1 := pbk_in (re is) is wc2 w i j wc2[j] (by rw [hlen]; exact hnd) hji he hi
      have h2 : (pb w is wc2)[i]? = some (re is wc2[j]) := h1
      rw [h2] at hx
      cases hx
      have h3 := hP j _ (tw_at he)
      rw [te_re] at h3
      have h4 : is.getD j 0 = i := by simp [List.getD, hji]
      simp only [h4] at h3
      exact h3
    · have h1 : (pb w is wc2)[i]? = w[i]? := pbk_out (re is) is wc2 w i (fun j hj hji => hin ⟨j, hj, hji⟩)
      rw [h1] at hx
      have h2 := hR.1 i _ (tw_at hx)
      refine h2.kept (hk _ h2.lt (fun hA => ?_))
      rcases hA with ⟨j, y, hy⟩ | hA
      · obtain ⟨z, hz, e1⟩ := tw_of hy
        obtain ⟨i', g1, g2, g3⟩ := hE.at hz
        simp only [g2, Prod.mk.injEq] at e1
        have := hR.2.1.1 i i' _ _ (tw_at hx) (tw_at g3) e1.1
        subst this
        exact hin ⟨j, by rw [hlen]; exact (List.getElem?_eq_some_iff.mp hz).1, g1⟩
      · exact absurd h2.lt (Nat.not_lt.mpr hA)
  · obtain ⟨x', hx, rfl⟩ := tw_of hi
    obtain ⟨y', hy, rfl⟩ := tw_of hj
    have hl1 : i < w.length := by rw [← hL]; exact (List.getElem?_eq_some_iff.mp hx).1
    have hl2 : j < w.length := by rw [← hL]; exact (List.getElem?_eq_some_iff.mp hy).1
    exact hR.2.1.1 i j _ _ (tw_at (List.getElem?_eq_getElem hl1)) (tw_at (List.getElem?_eq_getElem hl2)) hxy
  · obtain ⟨y, hy, rfl⟩ := tw_of hq
    have hlt : i < w.length := by rw [← hL]; exact (List.getElem?_eq_some_iff.mp hy).1
    have := hR.2.1.2 i (ad i, te cI ad w[i]) (tw_at (List.getElem?_eq_getElem hlt))
    exact this
theorem call_back {a : Array Value} {st0 : List Value} (hz : (mR Mc).cells = 0) (hz2 : (mR Mc).slots = 0) (C : Ctx M S p s m args meth c D cI A ad0) (hr : RetQ M p l e s m args below meth c D cI A ad0 n0 Q P) (hR : Rel D cI (mR M) A s.heap ad0 n0 ad w H locs) (hl : lr ad (mL M) ls LS) (hE : Emb is wc w) (hnd : va_nd (is.take wc.length) = true)
    (hrun : va_Run p l e (mR M) s m args below meth c H locs k n (mR Mc).cells (mR Mc).slots (F0 m pc LS st0) (st.map (tv ad)) (PQ Mc D cI (fun j => ad (is.getD j 0)) wc H.size Pc a) (va_A (tw cI (fun j => ad (is.getD j 0)) wc) H.size))
    (h : ∀ r wc2, Pc r wc2 → wc2.length = wc.length → Ok M S (pc + 3) ls (r.toList ++ st) (pb w is wc2) k n P) : W p l e (mR M) s m args below meth c H locs k n Q (F0 m pc LS st0) := by
  intro T hT X
  obtain ⟨v, st₀, t, T', L, h0, X', hL, e1, e2, hq, go⟩ := hrun T hT X
  obtain ⟨⟨r, wc2, ad2, hoc, hpost, hcl, hz', -, -, hP', hD'⟩, hF1, hF2⟩ := hq
  have ev : v = r := by cases hoc; rfl
  subst ev
  obtain ⟨rfl, hlen⟩ := hz' hz
  rw [h0] at hF1 hF2
  have hS : va_S A s.heap T'.heap (locs ++ L) := by
    refine ⟨Nat.le_trans hR.2.2.1.1 (by rw [e1]; exact hF1), fun q h1 h2 => ?_, fun q hq => ?_⟩
    · rw [e1, hF2 q (Nat.lt_of_lt_of_le h1 hR.2.2.1.1) (fun z => h2 (sub_A C hR hE q z))]
      exact hR.2.2.1.2.1 q h1 h2
    · rcases List.mem_append.mp hq with h | h
      · exact hR.2.2.1.2.2 q h
      · exact sub_A C hR hE _ (hL q h)
  have K := h v wc2 hpost hlen p l e s m args below meth c D cI A ad0 n0 Q C hr ad T'.heap (locs ++ L) LS (rel_pb hR hE hnd hlen (by rw [e1]; exact hP') (fun q h1 h2 => by rw [e1]; exact hF2 q h1 h2) hS) hl
  have e3 : (v.toList ++ st).map (tv ad) = v.toList ++ st.map (tv ad) := by
    rw [List.map_append]
    cases v with
    | none => rfl
    | some v => simp [hcl v rfl]
  rw [e3] at K
  rw [hz, hz2] at X'
  obtain ⟨t2, a1, b1⟩ := K T' rfl X'
  exact ⟨t2, go t2 a1, b1⟩
end BACK
theorem gw_good : ∀ w ∈ GW, goodWord w = true := fun w h => (List.mem_filter.mp h).2
theorem gw_in {y : MethodName} {cc : ByteArray} {nL : Nat} {rt : Option FieldType} (h : Cond.code y cc nL rt ∈ GW) : GoodIn GW (Cond.code y cc nL rt :: GW) := fun w hw => by
  rcases List.mem_cons.mp hw with rfl | hw
  · exact ⟨h, good_of_word (gw_good _ h)⟩
  · exact ⟨hw, good_of_word (gw_good _ hw)⟩
theorem nest_of : ∀ w, isNest w = true → ∃ a i x h, w = Cond.methodLinkNest a i x h := fun w h => by
  cases w <;> first | exact ⟨_, _, _, _, rfl⟩ | (simp [isNest] at h; done)
theorem NWok.warm {s U : State} (hW : s.WarmedH U.vm) (h : NWok s) : NWok U := fun w hw => by
  obtain ⟨a, i, x, g, rfl⟩ := nest_of w (List.mem_filter.mp hw).2
  exact va_Nw.warmM hW (h _ hw)
theorem ppc_blind {D : va_G} {cI : ClassId} {ad : Nat → Nat} {w : PW} {sz : Nat} {av : List Value} : FrameBlind (va_Pc av (PPc D cI ad w sz)) := fun a U g mk q => by
  obtain ⟨q0, q1, qP, qK, qD, qN⟩ := q
  refine ⟨q0, q1, qP, va_K.moved (u := U) (U := U.calling g mk a) (Vm.Alike.refl U.vm) qK, qD, fun w hw => ?_⟩
  obtain ⟨b, i, x, h, rfl⟩ := nest_of w (List.mem_filter.mp hw).2
  exact va_Nw.same rfl (rfl : U.vm = (U.calling g mk a).vm) (qN _ hw)
/-- what the tables say of a method that is called: of an object's, of a static one -/
def CV (M : MI) (nA : Nat) : Prop := Cond.instanceMethod (mY M) ∈ GW ∧ Cond.selects (mY M).cls (mY M) (mY M) ∈ GW ∧ Cond.initialized (mY M).cls ∈ GW ∧ Cond.code (mY M) (mC M) (mL M) (mT M) ∈ GW ∧ ((mY M).cls ≠ "java/lang/invoke/MethodHandle" ∧ (mY M).cls ≠ "java/lang/invoke/VarHandle" ∧ (parseMethodDescriptor (mY M).desc).map (fun d => d.parameters.length) = some nA)
def CS (M : MI) (nA : Nat) : Prop := Cond.static (mY M) ∈ GW ∧ Cond.initialized (mY M).cls ∈ GW ∧ Cond.code (mY M) (mC M) (mL M) (mT M) ∈ GW ∧ ((mY M).cls ≠ "java/lang/invoke/MethodHandle" ∧ (mY M).cls ≠ "java/lang/invoke/VarHandle" ∧ (parseMethodDescriptor (mY M).desc).map (fun d => d.parameters.length) = some nA)
def Rm (M Mc : MI) : Prop := (mR Mc).frames + 1 ≤ (mR M).frames ∧ 8 + (mL Mc + 11) + (mR Mc).locals ≤ (mR M).locals
section CALL
variable {M Mc : MI} {S : Scr} {pc : Nat} {ls : List (Option Value)} {st stk : List Value} {w wc : PW} {k n : Nat} {P Pc : Option Value → PW → Prop} {is : List Nat} {asc : List Value} {idx nA : Nat}
theorem map_rv (ad : Nat → Nat) (is : List Nat) (as : List Value) : as.map (tv (fun j => ad (is.getD j 0))) = (as.map (rv is)).map (tv ad) := by
  rw [List.map_map]
  exact List.map_congr_left (fun v _ => tv_rv ad is v)
theorem o_callS (hM : PM Mc asc wc Pc) (hz : (mR Mc).cells = 0 ∧ (mR Mc).slots = 0) (hd : decode (mC M) pc = .ok (.invokestatic idx, 3)) (hlink : Cond.methodLink (mY M).cls idx (mY Mc) ∈ GW) (cs : CS Mc nA) (hn : asc.length = nA) (hrm : Rm M Mc) (hE : Emb is wc w) (hnd : va_nd (is.take wc.length) = true) (hst : (asc.map (rv is)).reverse ++ st = stk) (hcat : catS st ≤ 8) (hk : k ≤ (mR M).cells) (hk2 : n ≤ (mR M).slots)
    (h : ∀ r wc2, Pc r wc2 → wc2.length = wc.length → Ok M S (pc + 3) ls (r.toList ++ st) (pb w is wc2) k n P) : Ok M S pc ls stk w k n P := by
  subst hst
  intro p l e s m args below meth c D cI A ad0 n0 Q C hr ad H locs LS hR hl
  refine call_back hz.1 hz.2 C hr hR hl hE hnd (va_runS (As := asc.map (tv (fun j => ad (is.getD j 0)))) (n := asc.length) ⟨C.1.1, C.1.2.1, C.1.2.2.1, C.1.2.2.2.1, C.2.1⟩ (hM l D cI (fun j => ad (is.getD j 0)) H.size) ⟨callB_of asc.length C.2.1 (gw_in cs.2.2.1) rfl rfl rfl (C.2.1 _ cs.2.1) (C.2.1 _ hlink) (by rw [hn]; exact cs.2.2.2) hrm, C.2.1 _ cs.1⟩ ⟨ppc_blind, fun U hU hW => ⟨rfl, by rw [hU], by rw [hU]; exact sub_P hR hE, va_K.moved hW.alike C.2.2.1, sub_D hR hE hnd, NWok.warm hW C.2.2.2.1⟩⟩ rfl (by rw [List.length_map]) hl.1 ?_ ?_ hd ⟨by rw [hz.1]; exact hk, by rw [hz.2]; exact hk2⟩) h
  · show ((asc.map (rv is)).reverse ++ st).map (tv ad) = _
    rw [List.map_append, List.map_reverse, map_rv]
  · exact lv_room (by rw [catS_tv]; exact hcat)
theorem o_callSN {host : String} (hM : PM Mc asc wc Pc) (hz : (mR Mc).cells = 0 ∧ (mR Mc).slots = 0) (hd : decode (mC M) pc = .ok (.invokestatic idx, 3)) (hlink : Cond.methodLinkNest (mY M).cls idx (mY Mc) host ∈ NWl) (cs : CS Mc nA) (hn : asc.length = nA) (hrm : Rm M Mc) (hE : Emb is wc w) (hnd : va_nd (is.take wc.length) = true) (hst : (asc.map (rv is)).reverse ++ st = stk) (hcat : catS st ≤ 8) (hk : k ≤ (mR M).cells) (hk2 : n ≤ (mR M).slots)
    (h : ∀ r wc2, Pc r wc2 → wc2.length = wc.length → Ok M S (pc + 3) ls (r.toList ++ st) (pb w is wc2) k n P) : Ok M S pc ls stk w k n P := by
  subst hst
  intro p l e s m args below meth c D cI A ad0 n0 Q C hr ad H locs LS hR hl
  refine call_back hz.1 hz.2 C hr hR hl hE hnd (va_runSN (As := asc.map (tv (fun j => ad (is.getD j 0)))) (n := asc.length) ⟨C.1.1, C.1.2.1, C.1.2.2.1, C.1.2.2.2.1, C.2.1⟩ (hM l D cI (fun j => ad (is.getD j 0)) H.size) ⟨va_cnB asc.length C.2.1 (gw_in cs.2.2.1) rfl rfl rfl (C.2.2.2.1 _ hlink) (C.2.1 _ cs.2.1) (by rw [hn]; exact cs.2.2.2) hrm, C.2.1 _ cs.1, trivial⟩ ⟨ppc_blind, fun U hU hW => ⟨rfl, by rw [hU], by rw [hU]; exact sub_P hR hE, va_K.moved hW.alike C.2.2.1, sub_D hR hE hnd, NWok.warm hW C.2.2.2.1⟩⟩ rfl (by rw [List.length_map]) hl.1 ?_ ?_ hd ⟨by rw [hz.1]; exact hk, by rw [hz.2]; exact hk2⟩) h
  · show ((asc.map (rv is)).reverse ++ st).map (tv ad) = _
    rw [List.map_append, List.map_reverse, map_rv]
  · exact lv_room (by rw [catS_tv]; exact hcat)
theorem o_callV {ci N j0 : Nat} {T : u_T} {fs : List Value} (hM : PM Mc (.ref j0 :: asc) wc Pc) (hz : (mR Mc).cells = 0 ∧ (mR Mc).slots = 0) (hd : decode (mC M) pc = .ok (.invokevirtual idx, 3)) (hlink : Cond.methodLink (mY M).cls idx (mY Mc) ∈ GW) (cs : CV Mc nA) (hn : asc.length = nA) (hrm : Rm M Mc) (hc : vwCl[ci]? = some ((mY Mc).cls, T, N)) (hw : wc[j0]? = some (.inr (ci, fs))) (hE : Emb is wc w) (hnd : va_nd (is.take wc.length) = true) (hst : (asc.map (rv is)).reverse ++ rv is (.ref j0) :: st = stk) (hcat : catS st ≤ 8) (hk : k ≤ (mR M).cells) (hk2 : n ≤ (mR M).slots)
    (h : ∀ r wc2, Pc r wc2 → wc2.length = wc.length → Ok M S (pc + 3) ls (r.toList ++ st) (pb w is wc2) k n P) : Ok M S pc ls stk w k n P := by
  subst hst
  intro p l e s m args below meth c D cI A ad0 n0 Q C hr ad H locs LS hR hl
  refine call_back hz.1 hz.2 C hr hR hl hE hnd (va_runV (b := ad (is.getD j0 0)) (C := (mY Mc).cls) (As := asc.map (tv (fun j => ad (is.getD j 0)))) (n := asc.length) ⟨C.1.1, C.1.2.1, C.1.2.2.1, C.1.2.2.2.1, C.2.1⟩ (hM l D cI (fun j => ad (is.getD j 0)) H.size) ⟨callB_of asc.length C.2.1 (gw_in cs.2.2.2.1) rfl rfl rfl (C.2.1 _ cs.2.2.1) (C.2.1 _ hlink) (by rw [hn]; exact cs.2.2.2.2) hrm, C.2.1 _ cs.1, C.2.1 _ cs.2.1⟩ ⟨ppc_blind, va_recv C.2.2.1 (sub_P hR hE) hc (q0 := j0) (tw_at hw), fun U hU hW => ⟨rfl, by rw [hU], by rw [hU]; exact sub_P hR hE, va_K.moved hW.alike C.2.2.1, sub_D hR hE hnd, NWok.warm hW C.2.2.2.1⟩⟩ rfl (by rw [List.length_map]) hl.1 ?_ ?_ hd ⟨by rw [hz.1]; exact hk, by rw [hz.2]; exact hk2⟩) h
  · show ((asc.map (rv is)).reverse ++ rv is (.ref j0) :: st).map (tv ad) = _
    rw [List.map_append, List.map_reverse, map_rv]
    rfl
  · exact lv_room (by rw [catS_tv]; exact hcat)
end CALL
/-- a contract that says just what comes back -/
def PD (M : MI) (as : List Value) (w : PW) (r : Option Value) (w2 : PW) : Prop := PM M as w (fun r' w' => r' = r ∧ w' = w2)
section CALLD
variable {M Mc : MI} {S : Scr} {pc : Nat} {ls : List (Option Value)} {st stk : List Value} {w wc wc2 w2 : PW} {r : Option Value} {k n : Nat} {P : Option Value → PW → Prop} {is : List Nat} {asc : List Value} {idx nA : Nat}
theorem o_callSd (hM : PD Mc asc wc r wc2) (hz : (mR Mc).cells = 0 ∧ (mR Mc).slots = 0) (hd : decode (mC M) pc = .ok (.invokestatic idx, 3)) (hlink : Cond.methodLink (mY M).cls idx (mY Mc) ∈ GW) (cs : CS Mc nA) (hn : asc.length = nA) (hrm : Rm M Mc) (hE : Emb is wc w) (hnd : va_nd (is.take wc.length) = true) (hst : (asc.map (rv is)).reverse ++ st = stk) (hcat : catS st ≤ 8) (hk : k ≤ (mR M).cells) (hk2 : n ≤ (mR M).slots) (hw2 : pb w is wc2 = w2)
    (h : Ok M S (pc + 3) ls (r.toList ++ st) w2 k n P) : Ok M S pc ls stk w k n P :=
  o_callS hM hz hd hlink cs hn hrm hE hnd hst hcat hk hk2 (fun _ _ q _ => by obtain ⟨rfl, rfl⟩ := q; rw [hw2]; exact h)
theorem o_callSNd {host : String} (hM : PD Mc asc wc r wc2) (hz : (mR Mc).cells = 0 ∧ (mR Mc).slots = 0) (hd : decode (mC M) pc = .ok (.invokestatic idx, 3)) (hlink : Cond.methodLinkNest (mY M).cls idx (mY Mc) host ∈ NWl) (cs : CS Mc nA) (hn : asc.length = nA) (hrm : Rm M Mc) (hE : Emb is wc w) (hnd : va_nd (is.take wc.length) = true) (hst : (asc.map (rv is)).reverse ++ st = stk) (hcat : catS st ≤ 8) (hk : k ≤ (mR M).cells) (hk2 : n ≤ (mR M).slots) (hw2 : pb w is wc2 = w2)
    (h : Ok M S (pc + 3) ls (r.toList ++ st) w2 k n P) : Ok M S pc ls stk w k n P :=
  o_callSN hM hz hd hlink cs hn hrm hE hnd hst hcat hk hk2 (fun _ _ q _ => by obtain ⟨rfl, rfl⟩ := q; rw [hw2]; exact h)
theorem o_callVd {ci N j0 : Nat} {T : u_T} {fs : List Value} (hM : PD Mc (.ref j0 :: asc) wc r wc2) (hz : (mR Mc).cells = 0 ∧ (mR Mc).slots = 0) (hd : decode (mC M) pc = .ok (.invokevirtual idx, 3)) (hlink : Cond.methodLink (mY M).cls idx (mY Mc) ∈ GW) (cs : CV Mc nA) (hn : asc.length = nA) (hrm : Rm M Mc) (hc : vwCl[ci]? = some ((mY Mc).cls, T, N)) (hw : wc[j0]? = some (.inr (ci, fs))) (hE : Emb is wc w) (hnd : va_nd (is.take wc.length) = true) (hst : (asc.map (rv is)).reverse ++ rv is (.ref j0) :: st = stk) (hcat : catS st ≤ 8) (hk : k ≤ (mR M).cells) (hk2 : n ≤ (mR M).slots) (hw2 : pb w is wc2 = w2)
    (h : Ok M S (pc + 3) ls (r.toList ++ st) w2 k n P) : Ok M S pc ls stk w k n P :=
  o_callV hM hz hd hlink cs hn hrm hc hw hE hnd hst hcat hk hk2 (fun _ _ q _ => by obtain ⟨rfl, rfl⟩ := q; rw [hw2]; exact h)
end CALLD
end
