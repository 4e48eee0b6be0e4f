section
-- ===== PART A: goes FIRST, ahead of the names: the tables' words, and 'selects' of the private methods out of them =====
/-- a private method of a class that the tables say can be made, by its rows of tables_1 -/
def lw_okq (q : MethodName × Nat) : Prop := (q.1.cls ≠ "java/lang/invoke/MethodHandle" ∧ q.1.cls ≠ "java/lang/invoke/VarHandle") ∧ Cond.instantiable q.1.cls q.2 ∈ tables_1 ∧ Cond.privateMethod q.1 ∈ tables_1 ∧ Cond.instanceMethod q.1 ∈ tables_1
theorem lw_p0 : lw_okq (⟨"SwungShips$Search", "look", "(LSwungShips$Harbour;I)V"⟩, 7) := ⟨⟨by decide +kernel, by decide +kernel⟩, List.mem_of_getElem? (i := 120) (by decide +kernel), List.mem_of_getElem? (i := 281) (by decide +kernel), List.mem_of_getElem? (i := 282) (by decide +kernel)⟩
theorem lw_p1 : lw_okq (⟨"SwungShips$Search", "settlesRow", "(LSwungShips$Harbour;)Z"⟩, 7) := ⟨⟨by decide +kernel, by decide +kernel⟩, List.mem_of_getElem? (i := 120) (by decide +kernel), List.mem_of_getElem? (i := 325) (by decide +kernel), List.mem_of_getElem? (i := 326) (by decide +kernel)⟩
theorem lw_p2 : lw_okq (⟨"SwungShips$Search", "leftFor", "(LSwungShips$Harbour;II)J"⟩, 7) := ⟨⟨by decide +kernel, by decide +kernel⟩, List.mem_of_getElem? (i := 120) (by decide +kernel), List.mem_of_getElem? (i := 329) (by decide +kernel), List.mem_of_getElem? (i := 330) (by decide +kernel)⟩
theorem lw_p3 : lw_okq (⟨"SwungShips$Search", "around", "(III)J"⟩, 7) := ⟨⟨by decide +kernel, by decide +kernel⟩, List.mem_of_getElem? (i := 120) (by decide +kernel), List.mem_of_getElem? (i := 333) (by decide +kernel), List.mem_of_getElem? (i := 334) (by decide +kernel)⟩
theorem lw_p4 : lw_okq (⟨"SwungShips$Search", "settles", "(I)Z"⟩, 7) := ⟨⟨by decide +kernel, by decide +kernel⟩, List.mem_of_getElem? (i := 120) (by decide +kernel), List.mem_of_getElem? (i := 343) (by decide +kernel), List.mem_of_getElem? (i := 344) (by decide +kernel)⟩
theorem lw_p5 : lw_okq (⟨"SwungShips$Search", "settlesAt", "(II)Z"⟩, 7) := ⟨⟨by decide +kernel, by decide +kernel⟩, List.mem_of_getElem? (i := 120) (by decide +kernel), List.mem_of_getElem? (i := 350) (by decide +kernel), List.mem_of_getElem? (i := 351) (by decide +kernel)⟩
theorem lw_p6 : lw_okq (⟨"SwungShips", "cellOfSpot", "(I)I"⟩, 6) := ⟨⟨by decide +kernel, by decide +kernel⟩, List.mem_of_getElem? (i := 14) (by decide +kernel), List.mem_of_getElem? (i := 426) (by decide +kernel), List.mem_of_getElem? (i := 427) (by decide +kernel)⟩
theorem lw_p7 : lw_okq (⟨"SwungShips$Search", "settlesMoving", "(LSwungShips$Harbour;II)Z"⟩, 7) := ⟨⟨by decide +kernel, by decide +kernel⟩, List.mem_of_getElem? (i := 120) (by decide +kernel), List.mem_of_getElem? (i := 437) (by decide +kernel), List.mem_of_getElem? (i := 438) (by decide +kernel)⟩
theorem lw_p8 : lw_okq (⟨"SwungShips$Harbour", "copySlot", "(II)V"⟩, 12) := ⟨⟨by decide +kernel, by decide +kernel⟩, List.mem_of_getElem? (i := 22) (by decide +kernel), List.mem_of_getElem? (i := 507) (by decide +kernel), List.mem_of_getElem? (i := 508) (by decide +kernel)⟩
theorem lw_p9 : lw_okq (⟨"SwungShips", "draw", "(I)I"⟩, 6) := ⟨⟨by decide +kernel, by decide +kernel⟩, List.mem_of_getElem? (i := 14) (by decide +kernel), List.mem_of_getElem? (i := 551) (by decide +kernel), List.mem_of_getElem? (i := 552) (by decide +kernel)⟩
theorem lw_p10 : lw_okq (⟨"SwungShipsModel", "begin", "(II)V"⟩, 12) := ⟨⟨by decide +kernel, by decide +kernel⟩, List.mem_of_getElem? (i := 603) (by decide +kernel), List.mem_of_getElem? (i := 609) (by decide +kernel), List.mem_of_getElem? (i := 610) (by decide +kernel)⟩
theorem lw_p11 : lw_okq (⟨"SwungShipsModel", "danger", "()I"⟩, 12) := ⟨⟨by decide +kernel, by decide +kernel⟩, List.mem_of_getElem? (i := 603) (by decide +kernel), List.mem_of_getElem? (i := 655) (by decide +kernel), List.mem_of_getElem? (i := 656) (by decide +kernel)⟩
theorem lw_p12 : lw_okq (⟨"SwungShipsModel", "liesWell", "(I)Z"⟩, 12) := ⟨⟨by decide +kernel, by decide +kernel⟩, List.mem_of_getElem? (i := 603) (by decide +kernel), List.mem_of_getElem? (i := 659) (by decide +kernel), List.mem_of_getElem? (i := 660) (by decide +kernel)⟩
theorem lw_p13 : lw_okq (⟨"SwungShipsModel", "mayLie", "(II)Z"⟩, 12) := ⟨⟨by decide +kernel, by decide +kernel⟩, List.mem_of_getElem? (i := 603) (by decide +kernel), List.mem_of_getElem? (i := 666) (by decide +kernel), List.mem_of_getElem? (i := 667) (by decide +kernel)⟩
theorem lw_p14 : lw_okq (⟨"SwungShipsModel", "leastWater", "(IIZ)I"⟩, 12) := ⟨⟨by decide +kernel, by decide +kernel⟩, List.mem_of_getElem? (i := 603) (by decide +kernel), List.mem_of_getElem? (i := 670) (by decide +kernel), List.mem_of_getElem? (i := 671) (by decide +kernel)⟩
theorem lw_p15 : lw_okq (⟨"SwungShipsModel", "left", "(III)I"⟩, 12) := ⟨⟨by decide +kernel, by decide +kernel⟩, List.mem_of_getElem? (i := 603) (by decide +kernel), List.mem_of_getElem? (i := 677) (by decide +kernel), List.mem_of_getElem? (i := 678) (by decide +kernel)⟩
def lw_privs_1 : List (MethodName × Nat) := [(⟨"SwungShips$Search", "look", "(LSwungShips$Harbour;I)V"⟩, 7), (⟨"SwungShips$Search", "settlesRow", "(LSwungShips$Harbour;)Z"⟩, 7), (⟨"SwungShips$Search", "leftFor", "(LSwungShips$Harbour;II)J"⟩, 7), (⟨"SwungShips$Search", "around", "(III)J"⟩, 7), (⟨"SwungShips$Search", "settles", "(I)Z"⟩, 7), (⟨"SwungShips$Search", "settlesAt", "(II)Z"⟩, 7), (⟨"SwungShips", "cellOfSpot", "(I)I"⟩, 6), (⟨"SwungShips$Search", "settlesMoving", "(LSwungShips$Harbour;II)Z"⟩, 7), (⟨"SwungShips$Harbour", "copySlot", "(II)V"⟩, 12), (⟨"SwungShips", "draw", "(I)I"⟩, 6), (⟨"SwungShipsModel", "begin", "(II)V"⟩, 12), (⟨"SwungShipsModel", "danger", "()I"⟩, 12), (⟨"SwungShipsModel", "liesWell", "(I)Z"⟩, 12), (⟨"SwungShipsModel", "mayLie", "(II)Z"⟩, 12), (⟨"SwungShipsModel", "leastWater", "(IIZ)I"⟩, 12), (⟨"SwungShipsModel", "left", "(III)I"⟩, 12)]
theorem lw_r1 : ∀ q ∈ lw_privs_1, lw_okq q := List.forall_mem_cons.mpr ⟨lw_p0, List.forall_mem_cons.mpr ⟨lw_p1, List.forall_mem_cons.mpr ⟨lw_p2, List.forall_mem_cons.mpr ⟨lw_p3, List.forall_mem_cons.mpr ⟨lw_p4, List.forall_mem_cons.mpr ⟨lw_p5, List.forall_mem_cons.mpr ⟨lw_p6, List.forall_mem_cons.mpr ⟨lw_p7, List.forall_mem_cons.mpr ⟨lw_p8, List.forall_mem_cons.mpr ⟨lw_p9, List.forall_mem_cons.mpr ⟨lw_p10, List.forall_mem_cons.mpr ⟨lw_p11, List.forall_mem_cons.mpr ⟨lw_p12, List.forall_mem_cons.mpr ⟨lw_p13, List.forall_mem_cons.mpr ⟨lw_p14, List.forall_mem_cons.mpr ⟨lw_p15, fun _ h => absurd h List.not_mem_nil⟩⟩⟩⟩⟩⟩⟩⟩⟩⟩⟩⟩⟩⟩⟩⟩
theorem lw_p16 : lw_okq (⟨"SwungShipsModel", "top", "(III)I"⟩, 12) := ⟨⟨by decide +kernel, by decide +kernel⟩, List.mem_of_getElem? (i := 603) (by decide +kernel), List.mem_of_getElem? (i := 684) (by decide +kernel), List.mem_of_getElem? (i := 685) (by decide +kernel)⟩
theorem lw_p17 : lw_okq (⟨"SwungShipsModel", "isCell", "(II)Z"⟩, 12) := ⟨⟨by decide +kernel, by decide +kernel⟩, List.mem_of_getElem? (i := 603) (by decide +kernel), List.mem_of_getElem? (i := 691) (by decide +kernel), List.mem_of_getElem? (i := 692) (by decide +kernel)⟩
theorem lw_p18 : lw_okq (⟨"SwungShipsModel", "water", "(II)I"⟩, 12) := ⟨⟨by decide +kernel, by decide +kernel⟩, List.mem_of_getElem? (i := 603) (by decide +kernel), List.mem_of_getElem? (i := 698) (by decide +kernel), List.mem_of_getElem? (i := 699) (by decide +kernel)⟩
theorem lw_p19 : lw_okq (⟨"SwungShipsModel", "clashes", "(I)I"⟩, 12) := ⟨⟨by decide +kernel, by decide +kernel⟩, List.mem_of_getElem? (i := 603) (by decide +kernel), List.mem_of_getElem? (i := 702) (by decide +kernel), List.mem_of_getElem? (i := 703) (by decide +kernel)⟩
theorem lw_p20 : lw_okq (⟨"SwungShipsModel", "clash", "(IIII)Z"⟩, 12) := ⟨⟨by decide +kernel, by decide +kernel⟩, List.mem_of_getElem? (i := 603) (by decide +kernel), List.mem_of_getElem? (i := 706) (by decide +kernel), List.mem_of_getElem? (i := 707) (by decide +kernel)⟩
theorem lw_p21 : lw_okq (⟨"SwungShipsModel", "clashPairs", "()I"⟩, 12) := ⟨⟨by decide +kernel, by decide +kernel⟩, List.mem_of_getElem? (i := 603) (by decide +kernel), List.mem_of_getElem? (i := 713) (by decide +kernel), List.mem_of_getElem? (i := 714) (by decide +kernel)⟩
theorem lw_p22 : lw_okq (⟨"SwungShipsModel", "placesForAll", "()Z"⟩, 12) := ⟨⟨by decide +kernel, by decide +kernel⟩, List.mem_of_getElem? (i := 603) (by decide +kernel), List.mem_of_getElem? (i := 720) (by decide +kernel), List.mem_of_getElem? (i := 721) (by decide +kernel)⟩
theorem lw_p23 : lw_okq (⟨"SwungShipsModel", "tryRows", "(II)Z"⟩, 12) := ⟨⟨by decide +kernel, by decide +kernel⟩, List.mem_of_getElem? (i := 603) (by decide +kernel), List.mem_of_getElem? (i := 727) (by decide +kernel), List.mem_of_getElem? (i := 728) (by decide +kernel)⟩
theorem lw_p24 : lw_okq (⟨"SwungShipsModel", "layFree", "(II)V"⟩, 12) := ⟨⟨by decide +kernel, by decide +kernel⟩, List.mem_of_getElem? (i := 603) (by decide +kernel), List.mem_of_getElem? (i := 731) (by decide +kernel), List.mem_of_getElem? (i := 732) (by decide +kernel)⟩
theorem lw_p25 : lw_okq (⟨"SwungShipsModel", "cells", "()I"⟩, 12) := ⟨⟨by decide +kernel, by decide +kernel⟩, List.mem_of_getElem? (i := 603) (by decide +kernel), List.mem_of_getElem? (i := 735) (by decide +kernel), List.mem_of_getElem? (i := 736) (by decide +kernel)⟩
theorem lw_p26 : lw_okq (⟨"SwungShipsModel", "isFree", "(III)Z"⟩, 12) := ⟨⟨by decide +kernel, by decide +kernel⟩, List.mem_of_getElem? (i := 603) (by decide +kernel), List.mem_of_getElem? (i := 739) (by decide +kernel), List.mem_of_getElem? (i := 740) (by decide +kernel)⟩
theorem lw_p27 : lw_okq (⟨"SwungShipsModel", "fitsBehind", "(I)Z"⟩, 12) := ⟨⟨by decide +kernel, by decide +kernel⟩, List.mem_of_getElem? (i := 603) (by decide +kernel), List.mem_of_getElem? (i := 743) (by decide +kernel), List.mem_of_getElem? (i := 744) (by decide +kernel)⟩
theorem lw_p28 : lw_okq (⟨"SwungShipsModel", "threats", "()I"⟩, 12) := ⟨⟨by decide +kernel, by decide +kernel⟩, List.mem_of_getElem? (i := 603) (by decide +kernel), List.mem_of_getElem? (i := 747) (by decide +kernel), List.mem_of_getElem? (i := 748) (by decide +kernel)⟩
theorem lw_p29 : lw_okq (⟨"SwungShipsModel", "swept", "()I"⟩, 12) := ⟨⟨by decide +kernel, by decide +kernel⟩, List.mem_of_getElem? (i := 603) (by decide +kernel), List.mem_of_getElem? (i := 751) (by decide +kernel), List.mem_of_getElem? (i := 752) (by decide +kernel)⟩
theorem lw_p30 : lw_okq (⟨"SwungShipsModel", "sweepers", "(II)I"⟩, 12) := ⟨⟨by decide +kernel, by decide +kernel⟩, List.mem_of_getElem? (i := 603) (by decide +kernel), List.mem_of_getElem? (i := 755) (by decide +kernel), List.mem_of_getElem? (i := 756) (by decide +kernel)⟩
theorem lw_p31 : lw_okq (⟨"SwungShipsModel", "sweeps", "(IIII)Z"⟩, 12) := ⟨⟨by decide +kernel, by decide +kernel⟩, List.mem_of_getElem? (i := 603) (by decide +kernel), List.mem_of_getElem? (i := 759) (by decide +kernel), List.mem_of_getElem? (i := 760) (by decide +kernel)⟩
def lw_privs_2 : List (MethodName × Nat) := [(⟨"SwungShipsModel", "top", "(III)I"⟩, 12), (⟨"SwungShipsModel", "isCell", "(II)Z"⟩, 12), (⟨"SwungShipsModel", "water", "(II)I"⟩, 12), (⟨"SwungShipsModel", "clashes", "(I)I"⟩, 12), (⟨"SwungShipsModel", "clash", "(IIII)Z"⟩, 12), (⟨"SwungShipsModel", "clashPairs", "()I"⟩, 12), (⟨"SwungShipsModel", "placesForAll", "()Z"⟩, 12), (⟨"SwungShipsModel", "tryRows", "(II)Z"⟩, 12), (⟨"SwungShipsModel", "layFree", "(II)V"⟩, 12), (⟨"SwungShipsModel", "cells", "()I"⟩, 12), (⟨"SwungShipsModel", "isFree", "(III)Z"⟩, 12), (⟨"SwungShipsModel", "fitsBehind", "(I)Z"⟩, 12), (⟨"SwungShipsModel", "threats", "()I"⟩, 12), (⟨"SwungShipsModel", "swept", "()I"⟩, 12), (⟨"SwungShipsModel", "sweepers", "(II)I"⟩, 12), (⟨"SwungShipsModel", "sweeps", "(IIII)Z"⟩, 12)]
theorem lw_r2 : ∀ q ∈ lw_privs_2, lw_okq q := List.forall_mem_cons.mpr ⟨lw_p16, List.forall_mem_cons.mpr ⟨lw_p17, List.forall_mem_cons.mpr ⟨lw_p18, List.forall_mem_cons.mpr ⟨lw_p19, List.forall_mem_cons.mpr ⟨lw_p20, List.forall_mem_cons.mpr ⟨lw_p21, List.forall_mem_cons.mpr ⟨lw_p22, List.forall_mem_cons.mpr ⟨lw_p23, List.forall_mem_cons.mpr ⟨lw_p24, List.forall_mem_cons.mpr ⟨lw_p25, List.forall_mem_cons.mpr ⟨lw_p26, List.forall_mem_cons.mpr ⟨lw_p27, List.forall_mem_cons.mpr ⟨lw_p28, List.forall_mem_cons.mpr ⟨lw_p29, List.forall_mem_cons.mpr ⟨lw_p30, List.forall_mem_cons.mpr ⟨lw_p31, fun _ h => absurd h List.not_mem_nil⟩⟩⟩⟩⟩⟩⟩⟩⟩⟩⟩⟩⟩⟩⟩⟩
theorem lw_p32 : lw_okq (⟨"SwungShipsModel", "liesOn", "(IIIII)Z"⟩, 12) := ⟨⟨by decide +kernel, by decide +kernel⟩, List.mem_of_getElem? (i := 603) (by decide +kernel), List.mem_of_getElem? (i := 763) (by decide +kernel), List.mem_of_getElem? (i := 764) (by decide +kernel)⟩
theorem lw_p33 : lw_okq (⟨"SwungShipsModel", "wrongEntry", "()I"⟩, 12) := ⟨⟨by decide +kernel, by decide +kernel⟩, List.mem_of_getElem? (i := 603) (by decide +kernel), List.mem_of_getElem? (i := 767) (by decide +kernel), List.mem_of_getElem? (i := 768) (by decide +kernel)⟩
theorem lw_p34 : lw_okq (⟨"SwungShipsModel", "isShip", "(I)Z"⟩, 12) := ⟨⟨by decide +kernel, by decide +kernel⟩, List.mem_of_getElem? (i := 603) (by decide +kernel), List.mem_of_getElem? (i := 771) (by decide +kernel), List.mem_of_getElem? (i := 772) (by decide +kernel)⟩
theorem lw_p35 : lw_okq (⟨"SwungShipsModel", "fitters", "(I)I"⟩, 12) := ⟨⟨by decide +kernel, by decide +kernel⟩, List.mem_of_getElem? (i := 603) (by decide +kernel), List.mem_of_getElem? (i := 781) (by decide +kernel), List.mem_of_getElem? (i := 782) (by decide +kernel)⟩
theorem lw_p36 : lw_okq (⟨"SwungShipsModel", "sweptBy", "(I)I"⟩, 12) := ⟨⟨by decide +kernel, by decide +kernel⟩, List.mem_of_getElem? (i := 603) (by decide +kernel), List.mem_of_getElem? (i := 789) (by decide +kernel), List.mem_of_getElem? (i := 790) (by decide +kernel)⟩
theorem lw_p37 : lw_okq (⟨"SwungShipsModel", "isWaiting", "(I)Z"⟩, 12) := ⟨⟨by decide +kernel, by decide +kernel⟩, List.mem_of_getElem? (i := 603) (by decide +kernel), List.mem_of_getElem? (i := 797) (by decide +kernel), List.mem_of_getElem? (i := 798) (by decide +kernel)⟩
theorem lw_p38 : lw_okq (⟨"SwungShipsModel", "places", "(I)I"⟩, 12) := ⟨⟨by decide +kernel, by decide +kernel⟩, List.mem_of_getElem? (i := 603) (by decide +kernel), List.mem_of_getElem? (i := 801) (by decide +kernel), List.mem_of_getElem? (i := 802) (by decide +kernel)⟩
theorem lw_p39 : lw_okq (⟨"SwungShipsModel", "firstPlace", "(I)I"⟩, 12) := ⟨⟨by decide +kernel, by decide +kernel⟩, List.mem_of_getElem? (i := 603) (by decide +kernel), List.mem_of_getElem? (i := 805) (by decide +kernel), List.mem_of_getElem? (i := 806) (by decide +kernel)⟩
theorem lw_p40 : lw_okq (⟨"SwungShipsModel", "inFirst", "(I)I"⟩, 12) := ⟨⟨by decide +kernel, by decide +kernel⟩, List.mem_of_getElem? (i := 603) (by decide +kernel), List.mem_of_getElem? (i := 809) (by decide +kernel), List.mem_of_getElem? (i := 810) (by decide +kernel)⟩
theorem lw_p41 : lw_okq (⟨"SwungShipsModel", "layMoves", "(I)I"⟩, 12) := ⟨⟨by decide +kernel, by decide +kernel⟩, List.mem_of_getElem? (i := 603) (by decide +kernel), List.mem_of_getElem? (i := 813) (by decide +kernel), List.mem_of_getElem? (i := 814) (by decide +kernel)⟩
theorem lw_p42 : lw_okq (⟨"SwungShipsModel", "tryMoved", "(II)Z"⟩, 12) := ⟨⟨by decide +kernel, by decide +kernel⟩, List.mem_of_getElem? (i := 603) (by decide +kernel), List.mem_of_getElem? (i := 817) (by decide +kernel), List.mem_of_getElem? (i := 818) (by decide +kernel)⟩
theorem lw_p43 : lw_okq (⟨"SwungShipsModel", "movedBy", "(I)I"⟩, 12) := ⟨⟨by decide +kernel, by decide +kernel⟩, List.mem_of_getElem? (i := 603) (by decide +kernel), List.mem_of_getElem? (i := 821) (by decide +kernel), List.mem_of_getElem? (i := 822) (by decide +kernel)⟩
theorem lw_p44 : lw_okq (⟨"SwungShipsModel", "remember", "()V"⟩, 12) := ⟨⟨by decide +kernel, by decide +kernel⟩, List.mem_of_getElem? (i := 603) (by decide +kernel), List.mem_of_getElem? (i := 837) (by decide +kernel), List.mem_of_getElem? (i := 838) (by decide +kernel)⟩
theorem lw_p45 : lw_okq (⟨"SwungShipsModel", "copyRow", "(II)V"⟩, 12) := ⟨⟨by decide +kernel, by decide +kernel⟩, List.mem_of_getElem? (i := 603) (by decide +kernel), List.mem_of_getElem? (i := 841) (by decide +kernel), List.mem_of_getElem? (i := 842) (by decide +kernel)⟩
theorem lw_p46 : lw_okq (⟨"SwungShipsModel", "put", "(II)I"⟩, 12) := ⟨⟨by decide +kernel, by decide +kernel⟩, List.mem_of_getElem? (i := 603) (by decide +kernel), List.mem_of_getElem? (i := 849) (by decide +kernel), List.mem_of_getElem? (i := 850) (by decide +kernel)⟩
theorem lw_p47 : lw_okq (⟨"SwungShipsModel", "come", "(II)I"⟩, 12) := ⟨⟨by decide +kernel, by decide +kernel⟩, List.mem_of_getElem? (i := 603) (by decide +kernel), List.mem_of_getElem? (i := 871) (by decide +kernel), List.mem_of_getElem? (i := 872) (by decide +kernel)⟩
def lw_privs_3 : List (MethodName × Nat) := [(⟨"SwungShipsModel", "liesOn", "(IIIII)Z"⟩, 12), (⟨"SwungShipsModel", "wrongEntry", "()I"⟩, 12), (⟨"SwungShipsModel", "isShip", "(I)Z"⟩, 12), (⟨"SwungShipsModel", "fitters", "(I)I"⟩, 12), (⟨"SwungShipsModel", "sweptBy", "(I)I"⟩, 12), (⟨"SwungShipsModel", "isWaiting", "(I)Z"⟩, 12), (⟨"SwungShipsModel", "places", "(I)I"⟩, 12), (⟨"SwungShipsModel", "firstPlace", "(I)I"⟩, 12), (⟨"SwungShipsModel", "inFirst", "(I)I"⟩, 12), (⟨"SwungShipsModel", "layMoves", "(I)I"⟩, 12), (⟨"SwungShipsModel", "tryMoved", "(II)Z"⟩, 12), (⟨"SwungShipsModel", "movedBy", "(I)I"⟩, 12), (⟨"SwungShipsModel", "remember", "()V"⟩, 12), (⟨"SwungShipsModel", "copyRow", "(II)V"⟩, 12), (⟨"SwungShipsModel", "put", "(II)I"⟩, 12), (⟨"SwungShipsModel", "come", "(II)I"⟩, 12)]
theorem lw_r3 : ∀ q ∈ lw_privs_3, lw_okq q := List.forall_mem_cons.mpr ⟨lw_p32, List.forall_mem_cons.mpr ⟨lw_p33, List.forall_mem_cons.mpr ⟨lw_p34, List.forall_mem_cons.mpr ⟨lw_p35, List.forall_mem_cons.mpr ⟨lw_p36, List.forall_mem_cons.mpr ⟨lw_p37, List.forall_mem_cons.mpr ⟨lw_p38, List.forall_mem_cons.mpr ⟨lw_p39, List.forall_mem_cons.mpr ⟨lw_p40, List.forall_mem_cons.mpr ⟨lw_p41, List.forall_mem_cons.mpr ⟨lw_p42, List.forall_mem_cons.mpr ⟨lw_p43, List.forall_mem_cons.mpr ⟨lw_p44, List.forall_mem_cons.mpr ⟨lw_p45, List.forall_mem_cons.mpr ⟨lw_p46, List.forall_mem_cons.mpr ⟨lw_p47, fun _ h => absurd h List.not_mem_nil⟩⟩⟩⟩⟩⟩⟩⟩⟩⟩⟩⟩⟩⟩⟩⟩
theorem lw_p48 : lw_okq (⟨"SwungShipsModel", "moor", "(II)V"⟩, 12) := ⟨⟨by decide +kernel, by decide +kernel⟩, List.mem_of_getElem? (i := 603) (by decide +kernel), List.mem_of_getElem? (i := 875) (by decide +kernel), List.mem_of_getElem? (i := 876) (by decide +kernel)⟩
theorem lw_p49 : lw_okq (⟨"SwungShipsModel", "unwait", "(I)V"⟩, 12) := ⟨⟨by decide +kernel, by decide +kernel⟩, List.mem_of_getElem? (i := 603) (by decide +kernel), List.mem_of_getElem? (i := 879) (by decide +kernel), List.mem_of_getElem? (i := 880) (by decide +kernel)⟩
theorem lw_p50 : lw_okq (⟨"SwungShipsModel", "draw", "(I)I"⟩, 12) := ⟨⟨by decide +kernel, by decide +kernel⟩, List.mem_of_getElem? (i := 603) (by decide +kernel), List.mem_of_getElem? (i := 907) (by decide +kernel), List.mem_of_getElem? (i := 908) (by decide +kernel)⟩
def lw_privs_4 : List (MethodName × Nat) := [(⟨"SwungShipsModel", "moor", "(II)V"⟩, 12), (⟨"SwungShipsModel", "unwait", "(I)V"⟩, 12), (⟨"SwungShipsModel", "draw", "(I)I"⟩, 12)]
theorem lw_r4 : ∀ q ∈ lw_privs_4, lw_okq q := List.forall_mem_cons.mpr ⟨lw_p48, List.forall_mem_cons.mpr ⟨lw_p49, List.forall_mem_cons.mpr ⟨lw_p50, fun _ h => absurd h List.not_mem_nil⟩⟩⟩
def lw_privs : List (MethodName × Nat) := lw_privs_1 ++ (lw_privs_2 ++ (lw_privs_3 ++ (lw_privs_4)))
def lw_tbl : List Cond := k2_sels lw_privs ++ tables_1
theorem lw_privs_ok : ∀ q ∈ lw_privs, lw_okq q := by
  show ∀ q ∈ lw_privs_1 ++ (lw_privs_2 ++ (lw_privs_3 ++ (lw_privs_4))), lw_okq q
  exact List.forall_mem_append.mpr ⟨lw_r1, List.forall_mem_append.mpr ⟨lw_r2, List.forall_mem_append.mpr ⟨lw_r3, lw_r4⟩⟩⟩
-- ===== end of PART A; then your names; then what follows =====
end
section
/-! THE ABSTRACT MACHINE (own text): ints as Int, references as numbers of cells, one memory for all. Its judgement Wk stands on the kit's W. -/
/-- the tables' words that stay true while tables warm -/
def gtbl : List Cond := lw_tbl.filter goodWord
theorem g_mem {w : Cond} (i : Nat) (h : lw_tbl[i]? = some w) (hg : goodWord w = true) : w ∈ gtbl := List.mem_filter.mpr ⟨List.mem_of_getElem? h, hg⟩
theorem gtbl_good : ∀ w ∈ gtbl, w ∈ gtbl ∧ ((w.onTables && w.keeps) = true ∨ ∃ ty, w = .arrayClass ty) := fun w h => ⟨h, good_of_word (List.mem_filter.mp h).2⟩
/-- a method's context: its class, its bytes, its locals, what it answers, whether it is a constructor -/
abbrev CX : Type := String × ByteArray × Nat × Option FieldType × Bool
abbrev cxO (x : CX) : String := x.1
abbrev cxC (x : CX) : ByteArray := x.2.1
abbrev cxN (x : CX) : Nat := x.2.2.1
abbrev cxR (x : CX) : Option FieldType := x.2.2.2.1
abbrev cxI (x : CX) : Bool := x.2.2.2.2
/-- values: an int as a number, a long, a reference to a cell by its number, null -/
abbrev AV : Type := Int ⊕ (Int64 ⊕ Option Nat)
def vi (z : Int) : AV := .inl z
def vl (x : Int64) : AV := .inr (.inl x)
def vr (i : Nat) : AV := .inr (.inr (some i))
def vnull : AV := .inr (.inr none)
def nZ (z : Int) : Int32 := Int32.ofInt z
/-- a cell's shape: its kind (an object's class under 10; 10 int[], 11 long[], 12 boolean[], 13 Harbour[], 14 Image[]), its size, its references -/
abbrev SH : Type := Nat × Nat × (Nat → Option Nat)
/-- how many cells there are, and their shapes -/
abbrev LY : Type := Nat × (Nat → SH)
abbrev IM : Type := Nat → Int → Int
abbrev LM : Type := Nat → Int → Int64
/-- where the cells lie (from a number on), the cells that were there before, classes, array classes -/
abbrev GB : Type := Nat × (Nat → Nat) × va_G × (Nat → ClassId)
/-- the script: its length and its ints -/
abbrev RO : Type := Nat × (Int → Int)
def ad (g : GB) (i : Nat) : Nat := if i < 1000000 then g.1 + i else g.2.1 (i - 1000000)
def cv (g : GB) : AV → Value
  | .inl z => .int (nZ z)
  | .inr (.inl x) => .long x
  | .inr (.inr r) => va_rf (r.map (ad g))
def windX (w : Int) : Int := if w = 0 ∨ w = 4 then 0 else if w < 4 then 1 else -1
def windY (w : Int) : Int := if w = 2 ∨ w = 6 then 0 else if w < 2 ∨ 6 < w then 1 else -1
/-- fields that hold references -/
def rk (ci k : Nat) : Bool := match ci with
  | 0 => k < 2
  | 1 => 6 ≤ k
  | 2 => k < 1
  | 3 => k < 1
  | 4 => k < 2 || 4 ≤ k
  | 5 => k < 5
  | _ => k == 0 || (4 ≤ k && k < 7) || (8 ≤ k && k < 11)
def entO (g : GB) (I : IM) (id ci n : Nat) (rf : Nat → Option Nat) : List Value := (List.range n).map fun k => if rk ci k = true then va_rf ((rf k).map (ad g)) else .int (nZ (I id (k : Int)))
def ent (g : GB) (S : SH) (I : IM) (L : LM) (id : Nat) : va_E :=
  if S.1 < 10 then .inr (S.1, entO g I id S.1 S.2.1 S.2.2)
  else if S.1 = 11 then .inl (g.2.2.2 11, S.2.1, .inr (.inl fun j => L id (j : Int)))
  else if S.1 = 10 ∨ S.1 = 12 then .inl (g.2.2.2 S.1, S.2.1, .inl fun j => nZ (I id (j : Int)))
  else .inl (g.2.2.2 S.1, S.2.1, .inr (.inr (.inr (.inr fun j => (S.2.2 j).map (ad g)))))
def wsOf (g : GB) (X : LY) (I : IM) (L : LM) : va_W := (List.range X.1).map fun i => (ad g i, ent g (X.2 i) I L i)
def tysOf (g : GB) : List (ClassId × FieldType) := [(g.2.2.2 10, .int), (g.2.2.2 11, .long), (g.2.2.2 12, .boolean), (g.2.2.2 13, .object "SwungShips$Harbour"), (g.2.2.2 14, .object "SwungShips$Image")]
end
section
/-! printed by wip/whole/names.py: the classes, the methods, the links, each by its place in the tables -/
def T_Book : u_T := fun k => match k with
  | 0 => ("SwungShips$Book", "ships", "[I", true)
  | 1 => ("SwungShips$Book", "cells", "[I", true)
  | _ => ("SwungShips$Book", "entries", "I", false)
def t_Book : Nat → FieldType := fun k => match k with
  | 0 => .array .int
  | 1 => .array .int
  | _ => .int
def T_Harb : u_T := fun k => match k with
  | 0 => ("SwungShips$Harbour", "width", "I", false)
  | 1 => ("SwungShips$Harbour", "height", "I", false)
  | 2 => ("SwungShips$Harbour", "tideNow", "I", false)
  | 3 => ("SwungShips$Harbour", "foreseen", "I", false)
  | 4 => ("SwungShips$Harbour", "anchored", "I", false)
  | 5 => ("SwungShips$Harbour", "waiting", "I", false)
  | 6 => ("SwungShips$Harbour", "depths", "[I", true)
  | 7 => ("SwungShips$Harbour", "draughts", "[I", true)
  | 8 => ("SwungShips$Harbour", "chains", "[I", true)
  | 9 => ("SwungShips$Harbour", "sides", "[I", true)
  | 10 => ("SwungShips$Harbour", "xs", "[I", true)
  | _ => ("SwungShips$Harbour", "ys", "[I", true)
def t_Harb : Nat → FieldType := fun k => match k with
  | 0 => .int
  | 1 => .int
  | 2 => .int
  | 3 => .int
  | 4 => .int
  | 5 => .int
  | 6 => .array .int
  | 7 => .array .int
  | 8 => .array .int
  | 9 => .array .int
  | 10 => .array .int
  | _ => .array .int
def T_Hist : u_T := fun k => match k with
  | 0 => ("SwungShips$History", "before", "[LSwungShips$Harbour;", true)
  | 1 => ("SwungShips$History", "next", "I", false)
  | _ => ("SwungShips$History", "kept", "I", false)
def t_Hist : Nat → FieldType := fun k => match k with
  | 0 => .array (.object "SwungShips$Harbour")
  | 1 => .int
  | _ => .int
def T_Imag : u_T := fun k => match k with
  | 0 => ("SwungShips$Image", "shown", "LSwungShips$Harbour;", true)
  | 1 => ("SwungShips$Image", "seedThen", "I", false)
  | _ => ("SwungShips$Image", "taken", "Z", false)
def t_Imag : Nat → FieldType := fun k => match k with
  | 0 => .object "SwungShips$Harbour"
  | 1 => .int
  | _ => .boolean
def T_Sear : u_T := fun k => match k with
  | 0 => ("SwungShips$Search", "row", "[I", true)
  | 1 => ("SwungShips$Search", "chosen", "[I", true)
  | 2 => ("SwungShips$Search", "length", "I", false)
  | 3 => ("SwungShips$Search", "moved", "I", false)
  | 4 => ("SwungShips$Search", "good", "[J", true)
  | 5 => ("SwungShips$Search", "bad", "[J", true)
  | _ => ("SwungShips$Search", "free", "[J", true)
def t_Sear : Nat → FieldType := fun k => match k with
  | 0 => .array .int
  | 1 => .array .int
  | 2 => .int
  | 3 => .int
  | 4 => .array .long
  | 5 => .array .long
  | _ => .array .long
def T_Sw : u_T := fun k => match k with
  | 0 => ("SwungShips", "now", "LSwungShips$Harbour;", true)
  | 1 => ("SwungShips", "history", "LSwungShips$History;", true)
  | 2 => ("SwungShips", "search", "LSwungShips$Search;", true)
  | 3 => ("SwungShips", "book", "LSwungShips$Book;", true)
  | 4 => ("SwungShips", "images", "[LSwungShips$Image;", true)
  | _ => ("SwungShips", "seedNow", "I", false)
def t_Sw : Nat → FieldType := fun k => match k with
  | 0 => .object "SwungShips$Harbour"
  | 1 => .object "SwungShips$History"
  | 2 => .object "SwungShips$Search"
  | 3 => .object "SwungShips$Book"
  | 4 => .array (.object "SwungShips$Image")
  | _ => .int
def T_Mod : u_T := fun k => match k with
  | 0 => ("SwungShipsModel", "w", "[I", true)
  | 1 => ("SwungShipsModel", "known", "I", false)
  | 2 => ("SwungShipsModel", "kept", "I", false)
  | 3 => ("SwungShipsModel", "seed", "I", false)
  | 4 => ("SwungShipsModel", "keptSeed", "[I", true)
  | 5 => ("SwungShipsModel", "bookOf", "[I", true)
  | 6 => ("SwungShipsModel", "bookIs", "[I", true)
  | 7 => ("SwungShipsModel", "booked", "I", false)
  | 8 => ("SwungShipsModel", "trial", "[I", true)
  | 9 => ("SwungShipsModel", "ships", "[I", true)
  | 10 => ("SwungShipsModel", "free", "[Z", true)
  | _ => ("SwungShipsModel", "movedSet", "I", false)
def t_Mod : Nat → FieldType := fun k => match k with
  | 0 => .array .int
  | 1 => .int
  | 2 => .int
  | 3 => .int
  | 4 => .array .int
  | 5 => .array .int
  | 6 => .array .int
  | 7 => .int
  | 8 => .array .int
  | 9 => .array .int
  | 10 => .array .boolean
  | _ => .int
def cls0 : List vw_C := [("SwungShips$Book", T_Book, 3), ("SwungShips$Harbour", T_Harb, 12), ("SwungShips$History", T_Hist, 3), ("SwungShips$Image", T_Imag, 3), ("SwungShips$Search", T_Sear, 7), ("SwungShips", T_Sw, 6), ("SwungShipsModel", T_Mod, 12)]
/-- a class of ours, known: its place, its fields' words in the tables, their types, their names apart -/
def CK (ci : Nat) (C : String) (T : u_T) (N : Nat) (ty0 : Nat → FieldType) : Prop := cls0[ci]? = some (C, T, N) ∧ (∀ w ∈ u_ws C T N, w ∈ gtbl) ∧ (∀ k, k < N → parseFieldDescriptor (T k).2.2.1 = some (ty0 k)) ∧ (∀ a, a < N → ∀ b, b < N → a ≠ b → (T a).2.1 ≠ (T b).2.1) ∧ ci < 10
/-- a link to a field of ours -/
def FL (own : String) (idx ci k : Nat) : Prop := ∃ (C : String) (T : u_T) (N : Nat) (ty0 : Nat → FieldType), CK ci C T N ty0 ∧ k < N ∧ Cond.fieldLink own idx (T k).1 (T k).2.1 (T k).2.2.1 ∈ gtbl
/-- such a field may be written anywhere, with ints / with booleans; or in the constructor alone, with references -/
def FW (ci k : Nat) (ty : FieldType) (fin : Bool) : Prop := ∀ C T N ty0, CK ci C T N ty0 → (T k).2.2.2 = fin ∧ parseFieldDescriptor (T k).2.2.1 = some ty ∧ (T k).1 = C
/-- a method of ours, known -/
def MOK (y : MethodName) (x : CX) (n : Nat) : Prop := Cond.code y (cxC x) (cxN x) (cxR x) ∈ gtbl ∧ plainFor y = true ∧ y.cls = cxO x ∧ (y.cls ≠ "java/lang/invoke/MethodHandle" ∧ y.cls ≠ "java/lang/invoke/VarHandle" ∧ (parseMethodDescriptor y.desc).map (fun d => d.parameters.length) = some n) ∧ Cond.initialized y.cls ∈ gtbl ∧ (cxI x = true → y.name = "<init>") ∧ cxN x ≤ 40
/-- links to methods: static, virtual, constructors, static ones of a nest mate -/
def LkS (own : String) (idx : Nat) (y : MethodName) : Prop := Cond.methodLink own idx y ∈ gtbl ∧ Cond.static y ∈ gtbl
def LkV (own : String) (idx : Nat) (y : MethodName) : Prop := Cond.methodLink own idx y ∈ gtbl ∧ Cond.instanceMethod y ∈ gtbl ∧ Cond.selects y.cls y y ∈ gtbl
def LkI (own : String) (idx : Nat) (y : MethodName) : Prop := Cond.methodLink own idx y ∈ gtbl ∧ Cond.instanceMethod y ∈ gtbl ∧ y.name = "<init>"
theorem u_ws_in {C : String} {T : u_T} {N : Nat} (h : ∀ k, k < N → u_lay C T k ∈ gtbl) : ∀ w ∈ u_ws C T N, w ∈ gtbl := by
  intro w hw
  obtain ⟨k, hk, rfl⟩ := List.mem_map.mp hw
  exact h k (List.mem_range.mp hk)
theorem la_Book_0 : u_lay "SwungShips$Book" T_Book 0 ∈ gtbl := g_mem 213 (by decide +kernel) (by decide +kernel)
theorem la_Book_1 : u_lay "SwungShips$Book" T_Book 1 ∈ gtbl := g_mem 215 (by decide +kernel) (by decide +kernel)
theorem la_Book_2 : u_lay "SwungShips$Book" T_Book 2 ∈ gtbl := g_mem 217 (by decide +kernel) (by decide +kernel)
theorem ck_Book : CK 0 "SwungShips$Book" T_Book 3 t_Book := ⟨rfl, u_ws_in (fun k hk => match k, hk with
  | 0, _ => la_Book_0
  | 1, _ => la_Book_1
  | 2, _ => la_Book_2
  | k + 3, h => absurd h (by omega)), by decide +kernel, by decide +kernel, by decide⟩
theorem ckE_Book {C : String} {T : u_T} {N : Nat} {ty0 : Nat → FieldType} (h : CK 0 C T N ty0) : C = "SwungShips$Book" ∧ T = T_Book ∧ N = 3 := by
  have h1 := h.1
  cases h1
  exact ⟨rfl, rfl, rfl⟩
theorem fw_Book_0 : FW 0 0 (.array .int) true := fun C T N ty0 h => by
  obtain ⟨rfl, rfl, rfl⟩ := ckE_Book h
  exact ⟨rfl, by decide +kernel, rfl⟩
theorem fw_Book_1 : FW 0 1 (.array .int) true := fun C T N ty0 h => by
  obtain ⟨rfl, rfl, rfl⟩ := ckE_Book h
  exact ⟨rfl, by decide +kernel, rfl⟩
theorem fw_Book_2 : FW 0 2 (.int) false := fun C T N ty0 h => by
  obtain ⟨rfl, rfl, rfl⟩ := ckE_Book h
  exact ⟨rfl, by decide +kernel, rfl⟩
theorem la_Harb_0 : u_lay "SwungShips$Harbour" T_Harb 0 ∈ gtbl := g_mem 124 (by decide +kernel) (by decide +kernel)
theorem la_Harb_1 : u_lay "SwungShips$Harbour" T_Harb 1 ∈ gtbl := g_mem 126 (by decide +kernel) (by decide +kernel)
theorem la_Harb_2 : u_lay "SwungShips$Harbour" T_Harb 2 ∈ gtbl := g_mem 128 (by decide +kernel) (by decide +kernel)
theorem la_Harb_3 : u_lay "SwungShips$Harbour" T_Harb 3 ∈ gtbl := g_mem 130 (by decide +kernel) (by decide +kernel)
theorem la_Harb_4 : u_lay "SwungShips$Harbour" T_Harb 4 ∈ gtbl := g_mem 132 (by decide +kernel) (by decide +kernel)
theorem la_Harb_5 : u_lay "SwungShips$Harbour" T_Harb 5 ∈ gtbl := g_mem 134 (by decide +kernel) (by decide +kernel)
theorem la_Harb_6 : u_lay "SwungShips$Harbour" T_Harb 6 ∈ gtbl := g_mem 136 (by decide +kernel) (by decide +kernel)
theorem la_Harb_7 : u_lay "SwungShips$Harbour" T_Harb 7 ∈ gtbl := g_mem 138 (by decide +kernel) (by decide +kernel)
theorem la_Harb_8 : u_lay "SwungShips$Harbour" T_Harb 8 ∈ gtbl := g_mem 140 (by decide +kernel) (by decide +kernel)
theorem la_Harb_9 : u_lay "SwungShips$Harbour" T_Harb 9 ∈ gtbl := g_mem 142 (by decide +kernel) (by decide +kernel)
theorem la_Harb_10 : u_lay "SwungShips$Harbour" T_Harb 10 ∈ gtbl := g_mem 144 (by decide +kernel) (by decide +kernel)
theorem la_Harb_11 : u_lay "SwungShips$Harbour" T_Harb 11 ∈ gtbl := g_mem 146 (by decide +kernel) (by decide +kernel)
theorem ck_Harb : CK 1 "SwungShips$Harbour" T_Harb 12 t_Harb := ⟨rfl, u_ws_in (fun k hk => match k, hk with
  | 0, _ => la_Harb_0
  | 1, _ => la_Harb_1
  | 2, _ => la_Harb_2
  | 3, _ => la_Harb_3
  | 4, _ => la_Harb_4
  | 5, _ => la_Harb_5
  | 6, _ => la_Harb_6
  | 7, _ => la_Harb_7
  | 8, _ => la_Harb_8
  | 9, _ => la_Harb_9
  | 10, _ => la_Harb_10
  | 11, _ => la_Harb_11
  | k + 12, h => absurd h (by omega)), by decide +kernel, by decide +kernel, by decide⟩
theorem ckE_Harb {C : String} {T : u_T} {N : Nat} {ty0 : Nat → FieldType} (h : CK 1 C T N ty0) : C = "SwungShips$Harbour" ∧ T = T_Harb ∧ N = 12 := by
  have h1 := h.1
  cases h1
  exact ⟨rfl, rfl, rfl⟩
theorem fw_Harb_0 : FW 1 0 (.int) false := fun C T N ty0 h => by
  obtain ⟨rfl, rfl, rfl⟩ := ckE_Harb h
  exact ⟨rfl, by decide +kernel, rfl⟩
theorem fw_Harb_1 : FW 1 1 (.int) false := fun C T N ty0 h => by
  obtain ⟨rfl, rfl, rfl⟩ := ckE_Harb h
  exact ⟨rfl, by decide +kernel, rfl⟩
theorem fw_Harb_2 : FW 1 2 (.int) false := fun C T N ty0 h => by
  obtain ⟨rfl, rfl, rfl⟩ := ckE_Harb h
  exact ⟨rfl, by decide +kernel, rfl⟩
theorem fw_Harb_3 : FW 1 3 (.int) false := fun C T N ty0 h => by
  obtain ⟨rfl, rfl, rfl⟩ := ckE_Harb h
  exact ⟨rfl, by decide +kernel, rfl⟩
theorem fw_Harb_4 : FW 1 4 (.int) false := fun C T N ty0 h => by
  obtain ⟨rfl, rfl, rfl⟩ := ckE_Harb h
  exact ⟨rfl, by decide +kernel, rfl⟩
theorem fw_Harb_5 : FW 1 5 (.int) false := fun C T N ty0 h => by
  obtain ⟨rfl, rfl, rfl⟩ := ckE_Harb h
  exact ⟨rfl, by decide +kernel, rfl⟩
theorem fw_Harb_6 : FW 1 6 (.array .int) true := fun C T N ty0 h => by
  obtain ⟨rfl, rfl, rfl⟩ := ckE_Harb h
  exact ⟨rfl, by decide +kernel, rfl⟩
theorem fw_Harb_7 : FW 1 7 (.array .int) true := fun C T N ty0 h => by
  obtain ⟨rfl, rfl, rfl⟩ := ckE_Harb h
  exact ⟨rfl, by decide +kernel, rfl⟩
theorem fw_Harb_8 : FW 1 8 (.array .int) true := fun C T N ty0 h => by
  obtain ⟨rfl, rfl, rfl⟩ := ckE_Harb h
  exact ⟨rfl, by decide +kernel, rfl⟩
theorem fw_Harb_9 : FW 1 9 (.array .int) true := fun C T N ty0 h => by
  obtain ⟨rfl, rfl, rfl⟩ := ckE_Harb h
  exact ⟨rfl, by decide +kernel, rfl⟩
theorem fw_Harb_10 : FW 1 10 (.array .int) true := fun C T N ty0 h => by
  obtain ⟨rfl, rfl, rfl⟩ := ckE_Harb h
  exact ⟨rfl, by decide +kernel, rfl⟩
theorem fw_Harb_11 : FW 1 11 (.array .int) true := fun C T N ty0 h => by
  obtain ⟨rfl, rfl, rfl⟩ := ckE_Harb h
  exact ⟨rfl, by decide +kernel, rfl⟩
theorem la_Hist_0 : u_lay "SwungShips$History" T_Hist 0 ∈ gtbl := g_mem 163 (by decide +kernel) (by decide +kernel)
theorem la_Hist_1 : u_lay "SwungShips$History" T_Hist 1 ∈ gtbl := g_mem 165 (by decide +kernel) (by decide +kernel)
theorem la_Hist_2 : u_lay "SwungShips$History" T_Hist 2 ∈ gtbl := g_mem 167 (by decide +kernel) (by decide +kernel)
theorem ck_Hist : CK 2 "SwungShips$History" T_Hist 3 t_Hist := ⟨rfl, u_ws_in (fun k hk => match k, hk with
  | 0, _ => la_Hist_0
  | 1, _ => la_Hist_1
  | 2, _ => la_Hist_2
  | k + 3, h => absurd h (by omega)), by decide +kernel, by decide +kernel, by decide⟩
theorem ckE_Hist {C : String} {T : u_T} {N : Nat} {ty0 : Nat → FieldType} (h : CK 2 C T N ty0) : C = "SwungShips$History" ∧ T = T_Hist ∧ N = 3 := by
  have h1 := h.1
  cases h1
  exact ⟨rfl, rfl, rfl⟩
theorem fw_Hist_0 : FW 2 0 (.array (.object "SwungShips$Harbour")) true := fun C T N ty0 h => by
  obtain ⟨rfl, rfl, rfl⟩ := ckE_Hist h
  exact ⟨rfl, by decide +kernel, rfl⟩
theorem fw_Hist_1 : FW 2 1 (.int) false := fun C T N ty0 h => by
  obtain ⟨rfl, rfl, rfl⟩ := ckE_Hist h
  exact ⟨rfl, by decide +kernel, rfl⟩
theorem fw_Hist_2 : FW 2 2 (.int) false := fun C T N ty0 h => by
  obtain ⟨rfl, rfl, rfl⟩ := ckE_Hist h
  exact ⟨rfl, by decide +kernel, rfl⟩
theorem la_Imag_0 : u_lay "SwungShips$Image" T_Imag 0 ∈ gtbl := g_mem 235 (by decide +kernel) (by decide +kernel)
theorem la_Imag_1 : u_lay "SwungShips$Image" T_Imag 1 ∈ gtbl := g_mem 237 (by decide +kernel) (by decide +kernel)
theorem la_Imag_2 : u_lay "SwungShips$Image" T_Imag 2 ∈ gtbl := g_mem 239 (by decide +kernel) (by decide +kernel)
theorem ck_Imag : CK 3 "SwungShips$Image" T_Imag 3 t_Imag := ⟨rfl, u_ws_in (fun k hk => match k, hk with
  | 0, _ => la_Imag_0
  | 1, _ => la_Imag_1
  | 2, _ => la_Imag_2
  | k + 3, h => absurd h (by omega)), by decide +kernel, by decide +kernel, by decide⟩
theorem ckE_Imag {C : String} {T : u_T} {N : Nat} {ty0 : Nat → FieldType} (h : CK 3 C T N ty0) : C = "SwungShips$Image" ∧ T = T_Imag ∧ N = 3 := by
  have h1 := h.1
  cases h1
  exact ⟨rfl, rfl, rfl⟩
theorem fw_Imag_0 : FW 3 0 (.object "SwungShips$Harbour") true := fun C T N ty0 h => by
  obtain ⟨rfl, rfl, rfl⟩ := ckE_Imag h
  exact ⟨rfl, by decide +kernel, rfl⟩
theorem fw_Imag_1 : FW 3 1 (.int) false := fun C T N ty0 h => by
  obtain ⟨rfl, rfl, rfl⟩ := ckE_Imag h
  exact ⟨rfl, by decide +kernel, rfl⟩
theorem fw_Imag_2 : FW 3 2 (.boolean) false := fun C T N ty0 h => by
  obtain ⟨rfl, rfl, rfl⟩ := ckE_Imag h
  exact ⟨rfl, by decide +kernel, rfl⟩
theorem la_Sear_0 : u_lay "SwungShips$Search" T_Sear 0 ∈ gtbl := g_mem 187 (by decide +kernel) (by decide +kernel)
theorem la_Sear_1 : u_lay "SwungShips$Search" T_Sear 1 ∈ gtbl := g_mem 189 (by decide +kernel) (by decide +kernel)
theorem la_Sear_2 : u_lay "SwungShips$Search" T_Sear 2 ∈ gtbl := g_mem 191 (by decide +kernel) (by decide +kernel)
theorem la_Sear_3 : u_lay "SwungShips$Search" T_Sear 3 ∈ gtbl := g_mem 193 (by decide +kernel) (by decide +kernel)
theorem la_Sear_4 : u_lay "SwungShips$Search" T_Sear 4 ∈ gtbl := g_mem 195 (by decide +kernel) (by decide +kernel)
theorem la_Sear_5 : u_lay "SwungShips$Search" T_Sear 5 ∈ gtbl := g_mem 197 (by decide +kernel) (by decide +kernel)
theorem la_Sear_6 : u_lay "SwungShips$Search" T_Sear 6 ∈ gtbl := g_mem 199 (by decide +kernel) (by decide +kernel)
theorem ck_Sear : CK 4 "SwungShips$Search" T_Sear 7 t_Sear := ⟨rfl, u_ws_in (fun k hk => match k, hk with
  | 0, _ => la_Sear_0
  | 1, _ => la_Sear_1
  | 2, _ => la_Sear_2
  | 3, _ => la_Sear_3
  | 4, _ => la_Sear_4
  | 5, _ => la_Sear_5
  | 6, _ => la_Sear_6
  | k + 7, h => absurd h (by omega)), by decide +kernel, by decide +kernel, by decide⟩
theorem ckE_Sear {C : String} {T : u_T} {N : Nat} {ty0 : Nat → FieldType} (h : CK 4 C T N ty0) : C = "SwungShips$Search" ∧ T = T_Sear ∧ N = 7 := by
  have h1 := h.1
  cases h1
  exact ⟨rfl, rfl, rfl⟩
theorem fw_Sear_0 : FW 4 0 (.array .int) true := fun C T N ty0 h => by
  obtain ⟨rfl, rfl, rfl⟩ := ckE_Sear h
  exact ⟨rfl, by decide +kernel, rfl⟩
theorem fw_Sear_1 : FW 4 1 (.array .int) true := fun C T N ty0 h => by
  obtain ⟨rfl, rfl, rfl⟩ := ckE_Sear h
  exact ⟨rfl, by decide +kernel, rfl⟩
theorem fw_Sear_2 : FW 4 2 (.int) false := fun C T N ty0 h => by
  obtain ⟨rfl, rfl, rfl⟩ := ckE_Sear h
  exact ⟨rfl, by decide +kernel, rfl⟩
theorem fw_Sear_3 : FW 4 3 (.int) false := fun C T N ty0 h => by
  obtain ⟨rfl, rfl, rfl⟩ := ckE_Sear h
  exact ⟨rfl, by decide +kernel, rfl⟩
theorem fw_Sear_4 : FW 4 4 (.array .long) true := fun C T N ty0 h => by
  obtain ⟨rfl, rfl, rfl⟩ := ckE_Sear h
  exact ⟨rfl, by decide +kernel, rfl⟩
theorem fw_Sear_5 : FW 4 5 (.array .long) true := fun C T N ty0 h => by
  obtain ⟨rfl, rfl, rfl⟩ := ckE_Sear h
  exact ⟨rfl, by decide +kernel, rfl⟩
theorem fw_Sear_6 : FW 4 6 (.array .long) true := fun C T N ty0 h => by
  obtain ⟨rfl, rfl, rfl⟩ := ckE_Sear h
  exact ⟨rfl, by decide +kernel, rfl⟩
theorem la_Sw_0 : u_lay "SwungShips" T_Sw 0 ∈ gtbl := g_mem 248 (by decide +kernel) (by decide +kernel)
theorem la_Sw_1 : u_lay "SwungShips" T_Sw 1 ∈ gtbl := g_mem 250 (by decide +kernel) (by decide +kernel)
theorem la_Sw_2 : u_lay "SwungShips" T_Sw 2 ∈ gtbl := g_mem 252 (by decide +kernel) (by decide +kernel)
theorem la_Sw_3 : u_lay "SwungShips" T_Sw 3 ∈ gtbl := g_mem 254 (by decide +kernel) (by decide +kernel)
theorem la_Sw_4 : u_lay "SwungShips" T_Sw 4 ∈ gtbl := g_mem 256 (by decide +kernel) (by decide +kernel)
theorem la_Sw_5 : u_lay "SwungShips" T_Sw 5 ∈ gtbl := g_mem 258 (by decide +kernel) (by decide +kernel)
theorem ck_Sw : CK 5 "SwungShips" T_Sw 6 t_Sw := ⟨rfl, u_ws_in (fun k hk => match k, hk with
  | 0, _ => la_Sw_0
  | 1, _ => la_Sw_1
  | 2, _ => la_Sw_2
  | 3, _ => la_Sw_3
  | 4, _ => la_Sw_4
  | 5, _ => la_Sw_5
  | k + 6, h => absurd h (by omega)), by decide +kernel, by decide +kernel, by decide⟩
theorem ckE_Sw {C : String} {T : u_T} {N : Nat} {ty0 : Nat → FieldType} (h : CK 5 C T N ty0) : C = "SwungShips" ∧ T = T_Sw ∧ N = 6 := by
  have h1 := h.1
  cases h1
  exact ⟨rfl, rfl, rfl⟩
theorem fw_Sw_0 : FW 5 0 (.object "SwungShips$Harbour") true := fun C T N ty0 h => by
  obtain ⟨rfl, rfl, rfl⟩ := ckE_Sw h
  exact ⟨rfl, by decide +kernel, rfl⟩
theorem fw_Sw_1 : FW 5 1 (.object "SwungShips$History") true := fun C T N ty0 h => by
  obtain ⟨rfl, rfl, rfl⟩ := ckE_Sw h
  exact ⟨rfl, by decide +kernel, rfl⟩
theorem fw_Sw_2 : FW 5 2 (.object "SwungShips$Search") true := fun C T N ty0 h => by
  obtain ⟨rfl, rfl, rfl⟩ := ckE_Sw h
  exact ⟨rfl, by decide +kernel, rfl⟩
theorem fw_Sw_3 : FW 5 3 (.object "SwungShips$Book") true := fun C T N ty0 h => by
  obtain ⟨rfl, rfl, rfl⟩ := ckE_Sw h
  exact ⟨rfl, by decide +kernel, rfl⟩
theorem fw_Sw_4 : FW 5 4 (.array (.object "SwungShips$Image")) true := fun C T N ty0 h => by
  obtain ⟨rfl, rfl, rfl⟩ := ckE_Sw h
  exact ⟨rfl, by decide +kernel, rfl⟩
theorem fw_Sw_5 : FW 5 5 (.int) false := fun C T N ty0 h => by
  obtain ⟨rfl, rfl, rfl⟩ := ckE_Sw h
  exact ⟨rfl, by decide +kernel, rfl⟩
theorem la_Mod_0 : u_lay "SwungShipsModel" T_Mod 0 ∈ gtbl := g_mem 675 (by decide +kernel) (by decide +kernel)
theorem la_Mod_1 : u_lay "SwungShipsModel" T_Mod 1 ∈ gtbl := g_mem 677 (by decide +kernel) (by decide +kernel)
theorem la_Mod_2 : u_lay "SwungShipsModel" T_Mod 2 ∈ gtbl := g_mem 679 (by decide +kernel) (by decide +kernel)
theorem la_Mod_3 : u_lay "SwungShipsModel" T_Mod 3 ∈ gtbl := g_mem 681 (by decide +kernel) (by decide +kernel)
theorem la_Mod_4 : u_lay "SwungShipsModel" T_Mod 4 ∈ gtbl := g_mem 683 (by decide +kernel) (by decide +kernel)
theorem la_Mod_5 : u_lay "SwungShipsModel" T_Mod 5 ∈ gtbl := g_mem 685 (by decide +kernel) (by decide +kernel)
theorem la_Mod_6 : u_lay "SwungShipsModel" T_Mod 6 ∈ gtbl := g_mem 687 (by decide +kernel) (by decide +kernel)
theorem la_Mod_7 : u_lay "SwungShipsModel" T_Mod 7 ∈ gtbl := g_mem 689 (by decide +kernel) (by decide +kernel)
theorem la_Mod_8 : u_lay "SwungShipsModel" T_Mod 8 ∈ gtbl := g_mem 691 (by decide +kernel) (by decide +kernel)
theorem la_Mod_9 : u_lay "SwungShipsModel" T_Mod 9 ∈ gtbl := g_mem 693 (by decide +kernel) (by decide +kernel)
theorem la_Mod_10 : u_lay "SwungShipsModel" T_Mod 10 ∈ gtbl := g_mem 695 (by decide +kernel) (by decide +kernel)
theorem la_Mod_11 : u_lay "SwungShipsModel" T_Mod 11 ∈ gtbl := g_mem 697 (by decide +kernel) (by decide +kernel)
theorem ck_Mod : CK 6 "SwungShipsModel" T_Mod 12 t_Mod := ⟨rfl, u_ws_in (fun k hk => match k, hk with
  | 0, _ => la_Mod_0
  | 1, _ => la_Mod_1
  | 2, _ => la_Mod_2
  | 3, _ => la_Mod_3
  | 4, _ => la_Mod_4
  | 5, _ => la_Mod_5
  | 6, _ => la_Mod_6
  | 7, _ => la_Mod_7
  | 8, _ => la_Mod_8
  | 9, _ => la_Mod_9
  | 10, _ => la_Mod_10
  | 11, _ => la_Mod_11
  | k + 12, h => absurd h (by omega)), by decide +kernel, by decide +kernel, by decide⟩
theorem ckE_Mod {C : String} {T : u_T} {N : Nat} {ty0 : Nat → FieldType} (h : CK 6 C T N ty0) : C = "SwungShipsModel" ∧ T = T_Mod ∧ N = 12 := by
  have h1 := h.1
  cases h1
  exact ⟨rfl, rfl, rfl⟩
theorem fw_Mod_0 : FW 6 0 (.array .int) true := fun C T N ty0 h => by
  obtain ⟨rfl, rfl, rfl⟩ := ckE_Mod h
  exact ⟨rfl, by decide +kernel, rfl⟩
theorem fw_Mod_1 : FW 6 1 (.int) false := fun C T N ty0 h => by
  obtain ⟨rfl, rfl, rfl⟩ := ckE_Mod h
  exact ⟨rfl, by decide +kernel, rfl⟩
theorem fw_Mod_2 : FW 6 2 (.int) false := fun C T N ty0 h => by
  obtain ⟨rfl, rfl, rfl⟩ := ckE_Mod h
  exact ⟨rfl, by decide +kernel, rfl⟩
theorem fw_Mod_3 : FW 6 3 (.int) false := fun C T N ty0 h => by
  obtain ⟨rfl, rfl, rfl⟩ := ckE_Mod h
  exact ⟨rfl, by decide +kernel, rfl⟩
theorem fw_Mod_4 : FW 6 4 (.array .int) true := fun C T N ty0 h => by
  obtain ⟨rfl, rfl, rfl⟩ := ckE_Mod h
  exact ⟨rfl, by decide +kernel, rfl⟩
theorem fw_Mod_5 : FW 6 5 (.array .int) true := fun C T N ty0 h => by
  obtain ⟨rfl, rfl, rfl⟩ := ckE_Mod h
  exact ⟨rfl, by decide +kernel, rfl⟩
theorem fw_Mod_6 : FW 6 6 (.array .int) true := fun C T N ty0 h => by
  obtain ⟨rfl, rfl, rfl⟩ := ckE_Mod h
  exact ⟨rfl, by decide +kernel, rfl⟩
theorem fw_Mod_7 : FW 6 7 (.int) false := fun C T N ty0 h => by
  obtain ⟨rfl, rfl, rfl⟩ := ckE_Mod h
  exact ⟨rfl, by decide +kernel, rfl⟩
theorem fw_Mod_8 : FW 6 8 (.array .int) true := fun C T N ty0 h => by
  obtain ⟨rfl, rfl, rfl⟩ := ckE_Mod h
  exact ⟨rfl, by decide +kernel, rfl⟩
theorem fw_Mod_9 : FW 6 9 (.array .int) true := fun C T N ty0 h => by
  obtain ⟨rfl, rfl, rfl⟩ := ckE_Mod h
  exact ⟨rfl, by decide +kernel, rfl⟩
theorem fw_Mod_10 : FW 6 10 (.array .boolean) true := fun C T N ty0 h => by
  obtain ⟨rfl, rfl, rfl⟩ := ckE_Mod h
  exact ⟨rfl, by decide +kernel, rfl⟩
theorem fw_Mod_11 : FW 6 11 (.int) false := fun C T N ty0 h => by
  obtain ⟨rfl, rfl, rfl⟩ := ckE_Mod h
  exact ⟨rfl, by decide +kernel, rfl⟩
def y_Sw_init : MethodName := ⟨"SwungShips", "<init>", "()V"⟩
def x_Sw_init : CX := ("SwungShips", prog_1_method_1_code, 2, none, true)
theorem m_Sw_init : MOK y_Sw_init x_Sw_init 0 := ⟨g_mem 68 (by decide +kernel) (by decide +kernel), by decide +kernel, rfl, by decide +kernel, g_mem 52 (by decide +kernel) (by decide +kernel), by decide, by decide⟩
def y_Harb_init : MethodName := ⟨"SwungShips$Harbour", "<init>", "()V"⟩
def x_Harb_init : CX := ("SwungShips$Harbour", prog_3_method_1_code, 1, none, true)
theorem m_Harb_init : MOK y_Harb_init x_Harb_init 0 := ⟨g_mem 76 (by decide +kernel) (by decide +kernel), by decide +kernel, rfl, by decide +kernel, g_mem 53 (by decide +kernel) (by decide +kernel), by decide, by decide⟩
def y_Harb_layOut : MethodName := ⟨"SwungShips$Harbour", "layOut", "(II)V"⟩
def x_Harb_layOut : CX := ("SwungShips$Harbour", prog_3_method_2_code, 4, none, false)
theorem m_Harb_layOut : MOK y_Harb_layOut x_Harb_layOut 2 := ⟨g_mem 81 (by decide +kernel) (by decide +kernel), by decide +kernel, rfl, by decide +kernel, g_mem 53 (by decide +kernel) (by decide +kernel), by decide, by decide⟩
def y_Hist_init : MethodName := ⟨"SwungShips$History", "<init>", "()V"⟩
def x_Hist_init : CX := ("SwungShips$History", prog_4_method_1_code, 2, none, true)
theorem m_Hist_init : MOK y_Hist_init x_Hist_init 0 := ⟨g_mem 154 (by decide +kernel) (by decide +kernel), by decide +kernel, rfl, by decide +kernel, g_mem 54 (by decide +kernel) (by decide +kernel), by decide, by decide⟩
def y_Sear_init : MethodName := ⟨"SwungShips$Search", "<init>", "()V"⟩
def x_Sear_init : CX := ("SwungShips$Search", prog_6_method_1_code, 1, none, true)
theorem m_Sear_init : MOK y_Sear_init x_Sear_init 0 := ⟨g_mem 174 (by decide +kernel) (by decide +kernel), by decide +kernel, rfl, by decide +kernel, g_mem 55 (by decide +kernel) (by decide +kernel), by decide, by decide⟩
def y_Book_init : MethodName := ⟨"SwungShips$Book", "<init>", "()V"⟩
def x_Book_init : CX := ("SwungShips$Book", prog_2_method_1_code, 1, none, true)
theorem m_Book_init : MOK y_Book_init x_Book_init 0 := ⟨g_mem 207 (by decide +kernel) (by decide +kernel), by decide +kernel, rfl, by decide +kernel, g_mem 56 (by decide +kernel) (by decide +kernel), by decide, by decide⟩
def y_Imag_init : MethodName := ⟨"SwungShips$Image", "<init>", "()V"⟩
def x_Imag_init : CX := ("SwungShips$Image", prog_5_method_1_code, 1, none, true)
theorem m_Imag_init : MOK y_Imag_init x_Imag_init 0 := ⟨g_mem 225 (by decide +kernel) (by decide +kernel), by decide +kernel, rfl, by decide +kernel, g_mem 57 (by decide +kernel) (by decide +kernel), by decide, by decide⟩
def y_Sw_told : MethodName := ⟨"SwungShips", "told", "(I)I"⟩
def x_Sw_told : CX := ("SwungShips", prog_1_method_2_code, 2, some .int, false)
theorem m_Sw_told : MOK y_Sw_told x_Sw_told 1 := ⟨g_mem 264 (by decide +kernel) (by decide +kernel), by decide +kernel, rfl, by decide +kernel, g_mem 52 (by decide +kernel) (by decide +kernel), by decide, by decide⟩
def y_Swing_inDanger : MethodName := ⟨"SwungShips$Swing", "inDanger", "(LSwungShips$Harbour;I)I"⟩
def x_Swing_inDanger : CX := ("SwungShips$Swing", prog_7_method_17_code, 4, some .int, false)
theorem m_Swing_inDanger : MOK y_Swing_inDanger x_Swing_inDanger 2 := ⟨g_mem 267 (by decide +kernel) (by decide +kernel), by decide +kernel, rfl, by decide +kernel, g_mem 59 (by decide +kernel) (by decide +kernel), by decide, by decide⟩
def y_Swing_liesWell : MethodName := ⟨"SwungShips$Swing", "liesWell", "(LSwungShips$Harbour;II)Z"⟩
def x_Swing_liesWell : CX := ("SwungShips$Swing", prog_7_method_12_code, 3, some .boolean, false)
theorem m_Swing_liesWell : MOK y_Swing_liesWell x_Swing_liesWell 3 := ⟨g_mem 270 (by decide +kernel) (by decide +kernel), by decide +kernel, rfl, by decide +kernel, g_mem 59 (by decide +kernel) (by decide +kernel), by decide, by decide⟩
def y_Swing_leastWater : MethodName := ⟨"SwungShips$Swing", "leastWater", "(LSwungShips$Harbour;II)I"⟩
def x_Swing_leastWater : CX := ("SwungShips$Swing", prog_7_method_10_code, 5, some .int, false)
theorem m_Swing_leastWater : MOK y_Swing_leastWater x_Swing_leastWater 3 := ⟨g_mem 273 (by decide +kernel) (by decide +kernel), by decide +kernel, rfl, by decide +kernel, g_mem 59 (by decide +kernel) (by decide +kernel), by decide, by decide⟩
def y_Swing_blows : MethodName := ⟨"SwungShips$Swing", "blows", "(II)Z"⟩
def x_Swing_blows : CX := ("SwungShips$Swing", prog_7_method_2_code, 2, some .boolean, false)
theorem m_Swing_blows : MOK y_Swing_blows x_Swing_blows 2 := ⟨g_mem 277 (by decide +kernel) (by decide +kernel), by decide +kernel, rfl, by decide +kernel, g_mem 59 (by decide +kernel) (by decide +kernel), by decide, by decide⟩
def y_Swing_leastWaterBy : MethodName := ⟨"SwungShips$Swing", "leastWaterBy", "(LSwungShips$Harbour;II)I"⟩
def x_Swing_leastWaterBy : CX := ("SwungShips$Swing", prog_7_method_11_code, 8, some .int, false)
theorem m_Swing_leastWaterBy : MOK y_Swing_leastWaterBy x_Swing_leastWaterBy 3 := ⟨g_mem 280 (by decide +kernel) (by decide +kernel), by decide +kernel, rfl, by decide +kernel, g_mem 59 (by decide +kernel) (by decide +kernel), by decide, by decide⟩
def y_Swing_firstX : MethodName := ⟨"SwungShips$Swing", "firstX", "(LSwungShips$Harbour;II)I"⟩
def x_Swing_firstX : CX := ("SwungShips$Swing", prog_7_method_3_code, 3, some .int, false)
theorem m_Swing_firstX : MOK y_Swing_firstX x_Swing_firstX 3 := ⟨g_mem 283 (by decide +kernel) (by decide +kernel), by decide +kernel, rfl, by decide +kernel, g_mem 59 (by decide +kernel) (by decide +kernel), by decide, by decide⟩
def y_Swing_firstY : MethodName := ⟨"SwungShips$Swing", "firstY", "(LSwungShips$Harbour;II)I"⟩
def x_Swing_firstY : CX := ("SwungShips$Swing", prog_7_method_4_code, 3, some .int, false)
theorem m_Swing_firstY : MOK y_Swing_firstY x_Swing_firstY 3 := ⟨g_mem 288 (by decide +kernel) (by decide +kernel), by decide +kernel, rfl, by decide +kernel, g_mem 59 (by decide +kernel) (by decide +kernel), by decide, by decide⟩
def y_Harb_water : MethodName := ⟨"SwungShips$Harbour", "water", "(II)I"⟩
def x_Harb_water : CX := ("SwungShips$Harbour", prog_3_method_10_code, 3, some .int, false)
theorem m_Harb_water : MOK y_Harb_water x_Harb_water 2 := ⟨g_mem 294 (by decide +kernel) (by decide +kernel), by decide +kernel, rfl, by decide +kernel, g_mem 53 (by decide +kernel) (by decide +kernel), by decide, by decide⟩
def y_Harb_hasCell : MethodName := ⟨"SwungShips$Harbour", "hasCell", "(II)Z"⟩
def x_Harb_hasCell : CX := ("SwungShips$Harbour", prog_3_method_4_code, 3, some .boolean, false)
theorem m_Harb_hasCell : MOK y_Harb_hasCell x_Harb_hasCell 2 := ⟨g_mem 298 (by decide +kernel) (by decide +kernel), by decide +kernel, rfl, by decide +kernel, g_mem 53 (by decide +kernel) (by decide +kernel), by decide, by decide⟩
def y_Harb_cellAt : MethodName := ⟨"SwungShips$Harbour", "cellAt", "(II)I"⟩
def x_Harb_cellAt : CX := ("SwungShips$Harbour", prog_3_method_8_code, 3, some .int, false)
theorem m_Harb_cellAt : MOK y_Harb_cellAt x_Harb_cellAt 2 := ⟨g_mem 302 (by decide +kernel) (by decide +kernel), by decide +kernel, rfl, by decide +kernel, g_mem 53 (by decide +kernel) (by decide +kernel), by decide, by decide⟩
def y_Math_max : MethodName := ⟨"java/lang/Math", "max", "(II)I"⟩
def x_Math_max : CX := ("java/lang/Math", prog_12_method_65_code, 2, some .int, false)
def y_Math_min : MethodName := ⟨"java/lang/Math", "min", "(II)I"⟩
def x_Math_min : CX := ("java/lang/Math", prog_12_method_69_code, 2, some .int, false)
def y_Swing_clashesOf : MethodName := ⟨"SwungShips$Swing", "clashesOf", "(LSwungShips$Harbour;II)I"⟩
def x_Swing_clashesOf : CX := ("SwungShips$Swing", prog_7_method_15_code, 5, some .int, false)
theorem m_Swing_clashesOf : MOK y_Swing_clashesOf x_Swing_clashesOf 3 := ⟨g_mem 311 (by decide +kernel) (by decide +kernel), by decide +kernel, rfl, by decide +kernel, g_mem 59 (by decide +kernel) (by decide +kernel), by decide, by decide⟩
def y_Swing_clash : MethodName := ⟨"SwungShips$Swing", "clash", "(LSwungShips$Harbour;III)Z"⟩
def x_Swing_clash : CX := ("SwungShips$Swing", prog_7_method_13_code, 5, some .boolean, false)
theorem m_Swing_clash : MOK y_Swing_clash x_Swing_clash 4 := ⟨g_mem 314 (by decide +kernel) (by decide +kernel), by decide +kernel, rfl, by decide +kernel, g_mem 59 (by decide +kernel) (by decide +kernel), by decide, by decide⟩
def y_Swing_clashBy : MethodName := ⟨"SwungShips$Swing", "clashBy", "(LSwungShips$Harbour;III)Z"⟩
def x_Swing_clashBy : CX := ("SwungShips$Swing", prog_7_method_14_code, 6, some .boolean, false)
theorem m_Swing_clashBy : MOK y_Swing_clashBy x_Swing_clashBy 4 := ⟨g_mem 317 (by decide +kernel) (by decide +kernel), by decide +kernel, rfl, by decide +kernel, g_mem 59 (by decide +kernel) (by decide +kernel), by decide, by decide⟩
def y_Swing_pairsThatClash : MethodName := ⟨"SwungShips$Swing", "pairsThatClash", "(LSwungShips$Harbour;)I"⟩
def x_Swing_pairsThatClash : CX := ("SwungShips$Swing", prog_7_method_16_code, 3, some .int, false)
theorem m_Swing_pairsThatClash : MOK y_Swing_pairsThatClash x_Swing_pairsThatClash 1 := ⟨g_mem 320 (by decide +kernel) (by decide +kernel), by decide +kernel, rfl, by decide +kernel, g_mem 59 (by decide +kernel) (by decide +kernel), by decide, by decide⟩
def y_Integer_bitCount : MethodName := ⟨"java/lang/Integer", "bitCount", "(I)I"⟩
def x_Integer_bitCount : CX := ("java/lang/Integer", prog_10_method_49_code, 1, some .int, false)
theorem m_Integer_bitCount : MOK y_Integer_bitCount x_Integer_bitCount 1 := ⟨g_mem 323 (by decide +kernel) (by decide +kernel), by decide +kernel, rfl, by decide +kernel, g_mem 61 (by decide +kernel) (by decide +kernel), by decide, by decide⟩
def y_Sear_settlesAll : MethodName := ⟨"SwungShips$Search", "settlesAll", "(LSwungShips$Harbour;)Z"⟩
def x_Sear_settlesAll : CX := ("SwungShips$Search", prog_6_method_4_code, 3, some .boolean, false)
theorem m_Sear_settlesAll : MOK y_Sear_settlesAll x_Sear_settlesAll 1 := ⟨g_mem 330 (by decide +kernel) (by decide +kernel), by decide +kernel, rfl, by decide +kernel, g_mem 55 (by decide +kernel) (by decide +kernel), by decide, by decide⟩
def y_Sear_look : MethodName := ⟨"SwungShips$Search", "look", "(LSwungShips$Harbour;I)V"⟩
def x_Sear_look : CX := ("SwungShips$Search", prog_6_method_12_code, 4, none, false)
theorem m_Sear_look : MOK y_Sear_look x_Sear_look 2 := ⟨g_mem 334 (by decide +kernel) (by decide +kernel), by decide +kernel, rfl, by decide +kernel, g_mem 55 (by decide +kernel) (by decide +kernel), by decide, by decide⟩
def y_Sear_goodSpots : MethodName := ⟨"SwungShips$Search", "goodSpots", "(LSwungShips$Harbour;I)J"⟩
def x_Sear_goodSpots : CX := ("SwungShips$Search", prog_6_method_13_code, 9, some .long, false)
theorem m_Sear_goodSpots : MOK y_Sear_goodSpots x_Sear_goodSpots 2 := ⟨g_mem 337 (by decide +kernel) (by decide +kernel), by decide +kernel, rfl, by decide +kernel, g_mem 55 (by decide +kernel) (by decide +kernel), by decide, by decide⟩
def y_Sear_deepSpots : MethodName := ⟨"SwungShips$Search", "deepSpots", "(LSwungShips$Harbour;I)J"⟩
def x_Sear_deepSpots : CX := ("SwungShips$Search", prog_6_method_14_code, 6, some .long, false)
theorem m_Sear_deepSpots : MOK y_Sear_deepSpots x_Sear_deepSpots 2 := ⟨g_mem 340 (by decide +kernel) (by decide +kernel), by decide +kernel, rfl, by decide +kernel, g_mem 55 (by decide +kernel) (by decide +kernel), by decide, by decide⟩
def y_Sw_spotAt : MethodName := ⟨"SwungShips", "spotAt", "(II)I"⟩
def x_Sw_spotAt : CX := ("SwungShips", prog_1_method_27_code, 2, some .int, false)
theorem m_Sw_spotAt : MOK y_Sw_spotAt x_Sw_spotAt 2 := ⟨g_mem 344 (by decide +kernel) (by decide +kernel), by decide +kernel, rfl, by decide +kernel, g_mem 52 (by decide +kernel) (by decide +kernel), by decide, by decide⟩
def y_Sear_squareIn : MethodName := ⟨"SwungShips$Search", "squareIn", "(JIII)J"⟩
def x_Sear_squareIn : CX := ("SwungShips$Search", prog_6_method_15_code, 9, some .long, false)
theorem m_Sear_squareIn : MOK y_Sear_squareIn x_Sear_squareIn 4 := ⟨g_mem 350 (by decide +kernel) (by decide +kernel), by decide +kernel, rfl, by decide +kernel, g_mem 55 (by decide +kernel) (by decide +kernel), by decide, by decide⟩
def y_Sear_seenFrom : MethodName := ⟨"SwungShips$Search", "seenFrom", "(JII)J"⟩
def x_Sear_seenFrom : CX := ("SwungShips$Search", prog_6_method_18_code, 9, some .long, false)
theorem m_Sear_seenFrom : MOK y_Sear_seenFrom x_Sear_seenFrom 3 := ⟨g_mem 354 (by decide +kernel) (by decide +kernel), by decide +kernel, rfl, by decide +kernel, g_mem 55 (by decide +kernel) (by decide +kernel), by decide, by decide⟩
def y_Harb_hasSlot : MethodName := ⟨"SwungShips$Harbour", "hasSlot", "(I)Z"⟩
def x_Harb_hasSlot : CX := ("SwungShips$Harbour", prog_3_method_7_code, 2, some .boolean, false)
theorem m_Harb_hasSlot : MOK y_Harb_hasSlot x_Harb_hasSlot 1 := ⟨g_mem 360 (by decide +kernel) (by decide +kernel), by decide +kernel, rfl, by decide +kernel, g_mem 53 (by decide +kernel) (by decide +kernel), by decide, by decide⟩
def y_Harb_hasAnchored : MethodName := ⟨"SwungShips$Harbour", "hasAnchored", "(I)Z"⟩
def x_Harb_hasAnchored : CX := ("SwungShips$Harbour", prog_3_method_5_code, 2, some .boolean, false)
theorem m_Harb_hasAnchored : MOK y_Harb_hasAnchored x_Harb_hasAnchored 1 := ⟨g_mem 364 (by decide +kernel) (by decide +kernel), by decide +kernel, rfl, by decide +kernel, g_mem 53 (by decide +kernel) (by decide +kernel), by decide, by decide⟩
def y_Harb_hasWaiting : MethodName := ⟨"SwungShips$Harbour", "hasWaiting", "(I)Z"⟩
def x_Harb_hasWaiting : CX := ("SwungShips$Harbour", prog_3_method_6_code, 2, some .boolean, false)
theorem m_Harb_hasWaiting : MOK y_Harb_hasWaiting x_Harb_hasWaiting 1 := ⟨g_mem 368 (by decide +kernel) (by decide +kernel), by decide +kernel, rfl, by decide +kernel, g_mem 53 (by decide +kernel) (by decide +kernel), by decide, by decide⟩
def y_Sear_badSpots : MethodName := ⟨"SwungShips$Search", "badSpots", "(LSwungShips$Harbour;II)J"⟩
def x_Sear_badSpots : CX := ("SwungShips$Search", prog_6_method_16_code, 9, some .long, false)
theorem m_Sear_badSpots : MOK y_Sear_badSpots x_Sear_badSpots 3 := ⟨g_mem 371 (by decide +kernel) (by decide +kernel), by decide +kernel, rfl, by decide +kernel, g_mem 55 (by decide +kernel) (by decide +kernel), by decide, by decide⟩
def y_Sear_square : MethodName := ⟨"SwungShips$Search", "square", "(III)J"⟩
def x_Sear_square : CX := ("SwungShips$Search", prog_6_method_17_code, 7, some .long, false)
theorem m_Sear_square : MOK y_Sear_square x_Sear_square 3 := ⟨g_mem 374 (by decide +kernel) (by decide +kernel), by decide +kernel, rfl, by decide +kernel, g_mem 55 (by decide +kernel) (by decide +kernel), by decide, by decide⟩
def y_Sear_settlesRow : MethodName := ⟨"SwungShips$Search", "settlesRow", "(LSwungShips$Harbour;)Z"⟩
def x_Sear_settlesRow : CX := ("SwungShips$Search", prog_6_method_7_code, 3, some .boolean, false)
theorem m_Sear_settlesRow : MOK y_Sear_settlesRow x_Sear_settlesRow 1 := ⟨g_mem 378 (by decide +kernel) (by decide +kernel), by decide +kernel, rfl, by decide +kernel, g_mem 55 (by decide +kernel) (by decide +kernel), by decide, by decide⟩
def y_Sear_leftFor : MethodName := ⟨"SwungShips$Search", "leftFor", "(LSwungShips$Harbour;II)J"⟩
def x_Sear_leftFor : CX := ("SwungShips$Search", prog_6_method_10_code, 7, some .long, false)
theorem m_Sear_leftFor : MOK y_Sear_leftFor x_Sear_leftFor 3 := ⟨g_mem 382 (by decide +kernel) (by decide +kernel), by decide +kernel, rfl, by decide +kernel, g_mem 55 (by decide +kernel) (by decide +kernel), by decide, by decide⟩
def y_Sear_around : MethodName := ⟨"SwungShips$Search", "around", "(III)J"⟩
def x_Sear_around : CX := ("SwungShips$Search", prog_6_method_11_code, 4, some .long, false)
theorem m_Sear_around : MOK y_Sear_around x_Sear_around 3 := ⟨g_mem 386 (by decide +kernel) (by decide +kernel), by decide +kernel, rfl, by decide +kernel, g_mem 55 (by decide +kernel) (by decide +kernel), by decide, by decide⟩
def y_Sw_columnOf : MethodName := ⟨"SwungShips", "columnOf", "(I)I"⟩
def x_Sw_columnOf : CX := ("SwungShips", prog_1_method_28_code, 1, some .int, false)
theorem m_Sw_columnOf : MOK y_Sw_columnOf x_Sw_columnOf 1 := ⟨g_mem 389 (by decide +kernel) (by decide +kernel), by decide +kernel, rfl, by decide +kernel, g_mem 52 (by decide +kernel) (by decide +kernel), by decide, by decide⟩
def y_Sw_lineOf : MethodName := ⟨"SwungShips", "lineOf", "(I)I"⟩
def x_Sw_lineOf : CX := ("SwungShips", prog_1_method_29_code, 1, some .int, false)
theorem m_Sw_lineOf : MOK y_Sw_lineOf x_Sw_lineOf 1 := ⟨g_mem 392 (by decide +kernel) (by decide +kernel), by decide +kernel, rfl, by decide +kernel, g_mem 52 (by decide +kernel) (by decide +kernel), by decide, by decide⟩
def y_Sear_settles : MethodName := ⟨"SwungShips$Search", "settles", "(I)Z"⟩
def x_Sear_settles : CX := ("SwungShips$Search", prog_6_method_8_code, 5, some .boolean, false)
theorem m_Sear_settles : MOK y_Sear_settles x_Sear_settles 1 := ⟨g_mem 396 (by decide +kernel) (by decide +kernel), by decide +kernel, rfl, by decide +kernel, g_mem 55 (by decide +kernel) (by decide +kernel), by decide, by decide⟩
def y_Sw_holds : MethodName := ⟨"SwungShips", "holds", "(JI)Z"⟩
def x_Sw_holds : CX := ("SwungShips", prog_1_method_30_code, 3, some .boolean, false)
theorem m_Sw_holds : MOK y_Sw_holds x_Sw_holds 2 := ⟨g_mem 399 (by decide +kernel) (by decide +kernel), by decide +kernel, rfl, by decide +kernel, g_mem 52 (by decide +kernel) (by decide +kernel), by decide, by decide⟩
def y_Sear_settlesAt : MethodName := ⟨"SwungShips$Search", "settlesAt", "(II)Z"⟩
def x_Sear_settlesAt : CX := ("SwungShips$Search", prog_6_method_9_code, 6, some .boolean, false)
theorem m_Sear_settlesAt : MOK y_Sear_settlesAt x_Sear_settlesAt 2 := ⟨g_mem 403 (by decide +kernel) (by decide +kernel), by decide +kernel, rfl, by decide +kernel, g_mem 55 (by decide +kernel) (by decide +kernel), by decide, by decide⟩
def y_Swing_threats : MethodName := ⟨"SwungShips$Swing", "threats", "(LSwungShips$Harbour;)I"⟩
def x_Swing_threats : CX := ("SwungShips$Swing", prog_7_method_18_code, 5, some .int, false)
theorem m_Swing_threats : MOK y_Swing_threats x_Swing_threats 1 := ⟨g_mem 406 (by decide +kernel) (by decide +kernel), by decide +kernel, rfl, by decide +kernel, g_mem 59 (by decide +kernel) (by decide +kernel), by decide, by decide⟩
def y_Swing_sweptByAll : MethodName := ⟨"SwungShips$Swing", "sweptByAll", "(LSwungShips$Harbour;)J"⟩
def x_Swing_sweptByAll : CX := ("SwungShips$Swing", prog_7_method_8_code, 4, some .long, false)
theorem m_Swing_sweptByAll : MOK y_Swing_sweptByAll x_Swing_sweptByAll 1 := ⟨g_mem 410 (by decide +kernel) (by decide +kernel), by decide +kernel, rfl, by decide +kernel, g_mem 59 (by decide +kernel) (by decide +kernel), by decide, by decide⟩
def y_Swing_sweptBy : MethodName := ⟨"SwungShips$Swing", "sweptBy", "(LSwungShips$Harbour;I)J"⟩
def x_Swing_sweptBy : CX := ("SwungShips$Swing", prog_7_method_6_code, 5, some .long, false)
theorem m_Swing_sweptBy : MOK y_Swing_sweptBy x_Swing_sweptBy 2 := ⟨g_mem 413 (by decide +kernel) (by decide +kernel), by decide +kernel, rfl, by decide +kernel, g_mem 59 (by decide +kernel) (by decide +kernel), by decide, by decide⟩
def y_Swing_lainOn : MethodName := ⟨"SwungShips$Swing", "lainOn", "(LSwungShips$Harbour;II)J"⟩
def x_Swing_lainOn : CX := ("SwungShips$Swing", prog_7_method_7_code, 9, some .long, false)
theorem m_Swing_lainOn : MOK y_Swing_lainOn x_Swing_lainOn 3 := ⟨g_mem 416 (by decide +kernel) (by decide +kernel), by decide +kernel, rfl, by decide +kernel, g_mem 59 (by decide +kernel) (by decide +kernel), by decide, by decide⟩
def y_Long_bitCount : MethodName := ⟨"java/lang/Long", "bitCount", "(J)I"⟩
def x_Long_bitCount : CX := ("java/lang/Long", prog_11_method_50_code, 2, some .int, false)
theorem m_Long_bitCount : MOK y_Long_bitCount x_Long_bitCount 1 := ⟨g_mem 421 (by decide +kernel) (by decide +kernel), by decide +kernel, rfl, by decide +kernel, g_mem 62 (by decide +kernel) (by decide +kernel), by decide, by decide⟩
def y_Book_firstWrong : MethodName := ⟨"SwungShips$Book", "firstWrong", "(LSwungShips$Harbour;)I"⟩
def x_Book_firstWrong : CX := ("SwungShips$Book", prog_2_method_3_code, 4, some .int, false)
theorem m_Book_firstWrong : MOK y_Book_firstWrong x_Book_firstWrong 1 := ⟨g_mem 428 (by decide +kernel) (by decide +kernel), by decide +kernel, rfl, by decide +kernel, g_mem 56 (by decide +kernel) (by decide +kernel), by decide, by decide⟩
def y_Sw_cell : MethodName := ⟨"SwungShips", "cell", "(III)I"⟩
def x_Sw_cell : CX := ("SwungShips", prog_1_method_3_code, 4, some .int, false)
theorem m_Sw_cell : MOK y_Sw_cell x_Sw_cell 3 := ⟨g_mem 435 (by decide +kernel) (by decide +kernel), by decide +kernel, rfl, by decide +kernel, g_mem 52 (by decide +kernel) (by decide +kernel), by decide, by decide⟩
def y_Harb_depthAt : MethodName := ⟨"SwungShips$Harbour", "depthAt", "(II)I"⟩
def x_Harb_depthAt : CX := ("SwungShips$Harbour", prog_3_method_9_code, 3, some .int, false)
theorem m_Harb_depthAt : MOK y_Harb_depthAt x_Harb_depthAt 2 := ⟨g_mem 441 (by decide +kernel) (by decide +kernel), by decide +kernel, rfl, by decide +kernel, g_mem 53 (by decide +kernel) (by decide +kernel), by decide, by decide⟩
def y_Swing_sweepersOf : MethodName := ⟨"SwungShips$Swing", "sweepersOf", "(LSwungShips$Harbour;I)I"⟩
def x_Swing_sweepersOf : CX := ("SwungShips$Swing", prog_7_method_9_code, 4, some .int, false)
theorem m_Swing_sweepersOf : MOK y_Swing_sweepersOf x_Swing_sweepersOf 2 := ⟨g_mem 446 (by decide +kernel) (by decide +kernel), by decide +kernel, rfl, by decide +kernel, g_mem 59 (by decide +kernel) (by decide +kernel), by decide, by decide⟩
def y_Sear_waitersFor : MethodName := ⟨"SwungShips$Search", "waitersFor", "(LSwungShips$Harbour;I)I"⟩
def x_Sear_waitersFor : CX := ("SwungShips$Search", prog_6_method_3_code, 5, some .int, false)
theorem m_Sear_waitersFor : MOK y_Sear_waitersFor x_Sear_waitersFor 2 := ⟨g_mem 451 (by decide +kernel) (by decide +kernel), by decide +kernel, rfl, by decide +kernel, g_mem 55 (by decide +kernel) (by decide +kernel), by decide, by decide⟩
def y_Sear_placesFor : MethodName := ⟨"SwungShips$Search", "placesFor", "(LSwungShips$Harbour;I)J"⟩
def x_Sear_placesFor : CX := ("SwungShips$Search", prog_6_method_2_code, 4, some .long, false)
theorem m_Sear_placesFor : MOK y_Sear_placesFor x_Sear_placesFor 2 := ⟨g_mem 455 (by decide +kernel) (by decide +kernel), by decide +kernel, rfl, by decide +kernel, g_mem 55 (by decide +kernel) (by decide +kernel), by decide, by decide⟩
def y_Sw_ship : MethodName := ⟨"SwungShips", "ship", "(II)I"⟩
def x_Sw_ship : CX := ("SwungShips", prog_1_method_4_code, 3, some .int, false)
theorem m_Sw_ship : MOK y_Sw_ship x_Sw_ship 2 := ⟨g_mem 459 (by decide +kernel) (by decide +kernel), by decide +kernel, rfl, by decide +kernel, g_mem 52 (by decide +kernel) (by decide +kernel), by decide, by decide⟩
def y_Sw_waits : MethodName := ⟨"SwungShips", "waits", "(II)I"⟩
def x_Sw_waits : CX := ("SwungShips", prog_1_method_5_code, 4, some .int, false)
theorem m_Sw_waits : MOK y_Sw_waits x_Sw_waits 2 := ⟨g_mem 469 (by decide +kernel) (by decide +kernel), by decide +kernel, rfl, by decide +kernel, g_mem 52 (by decide +kernel) (by decide +kernel), by decide, by decide⟩
def y_Sw_firstOf : MethodName := ⟨"SwungShips", "firstOf", "(J)I"⟩
def x_Sw_firstOf : CX := ("SwungShips", prog_1_method_31_code, 3, some .int, false)
theorem m_Sw_firstOf : MOK y_Sw_firstOf x_Sw_firstOf 1 := ⟨g_mem 474 (by decide +kernel) (by decide +kernel), by decide +kernel, rfl, by decide +kernel, g_mem 52 (by decide +kernel) (by decide +kernel), by decide, by decide⟩
def y_Sw_cellOfSpot : MethodName := ⟨"SwungShips", "cellOfSpot", "(I)I"⟩
def x_Sw_cellOfSpot : CX := ("SwungShips", prog_1_method_32_code, 2, some .int, false)
theorem m_Sw_cellOfSpot : MOK y_Sw_cellOfSpot x_Sw_cellOfSpot 1 := ⟨g_mem 479 (by decide +kernel) (by decide +kernel), by decide +kernel, rfl, by decide +kernel, g_mem 52 (by decide +kernel) (by decide +kernel), by decide, by decide⟩
def y_Sear_settlesByMoves : MethodName := ⟨"SwungShips$Search", "settlesByMoves", "(LSwungShips$Harbour;I)Z"⟩
def x_Sear_settlesByMoves : CX := ("SwungShips$Search", prog_6_method_5_code, 5, some .boolean, false)
theorem m_Sear_settlesByMoves : MOK y_Sear_settlesByMoves x_Sear_settlesByMoves 2 := ⟨g_mem 485 (by decide +kernel) (by decide +kernel), by decide +kernel, rfl, by decide +kernel, g_mem 55 (by decide +kernel) (by decide +kernel), by decide, by decide⟩
def y_Sear_settlesMoving : MethodName := ⟨"SwungShips$Search", "settlesMoving", "(LSwungShips$Harbour;II)Z"⟩
def x_Sear_settlesMoving : CX := ("SwungShips$Search", prog_6_method_6_code, 5, some .boolean, false)
theorem m_Sear_settlesMoving : MOK y_Sear_settlesMoving x_Sear_settlesMoving 3 := ⟨g_mem 490 (by decide +kernel) (by decide +kernel), by decide +kernel, rfl, by decide +kernel, g_mem 55 (by decide +kernel) (by decide +kernel), by decide, by decide⟩
def y_Sw_moves : MethodName := ⟨"SwungShips", "moves", "(II)I"⟩
def x_Sw_moves : CX := ("SwungShips", prog_1_method_6_code, 3, some .int, false)
theorem m_Sw_moves : MOK y_Sw_moves x_Sw_moves 2 := ⟨g_mem 495 (by decide +kernel) (by decide +kernel), by decide +kernel, rfl, by decide +kernel, g_mem 52 (by decide +kernel) (by decide +kernel), by decide, by decide⟩
def y_Sw_lies : MethodName := ⟨"SwungShips", "lies", "(IIII)I"⟩
def x_Sw_lies : CX := ("SwungShips", prog_1_method_7_code, 5, some .int, false)
theorem m_Sw_lies : MOK y_Sw_lies x_Sw_lies 4 := ⟨g_mem 499 (by decide +kernel) (by decide +kernel), by decide +kernel, rfl, by decide +kernel, g_mem 52 (by decide +kernel) (by decide +kernel), by decide, by decide⟩
def y_Swing_liesOn : MethodName := ⟨"SwungShips$Swing", "liesOn", "(LSwungShips$Harbour;IIII)Z"⟩
def x_Swing_liesOn : CX := ("SwungShips$Swing", prog_7_method_5_code, 7, some .boolean, false)
theorem m_Swing_liesOn : MOK y_Swing_liesOn x_Swing_liesOn 5 := ⟨g_mem 502 (by decide +kernel) (by decide +kernel), by decide +kernel, rfl, by decide +kernel, g_mem 59 (by decide +kernel) (by decide +kernel), by decide, by decide⟩
def y_Sw_harbour : MethodName := ⟨"SwungShips", "harbour", "(II)I"⟩
def x_Sw_harbour : CX := ("SwungShips", prog_1_method_8_code, 4, some .int, false)
theorem m_Sw_harbour : MOK y_Sw_harbour x_Sw_harbour 2 := ⟨g_mem 506 (by decide +kernel) (by decide +kernel), by decide +kernel, rfl, by decide +kernel, g_mem 52 (by decide +kernel) (by decide +kernel), by decide, by decide⟩
def y_Sw_isOut : MethodName := ⟨"SwungShips", "isOut", "(III)Z"⟩
def x_Sw_isOut : CX := ("SwungShips", prog_1_method_26_code, 3, some .boolean, false)
theorem m_Sw_isOut : MOK y_Sw_isOut x_Sw_isOut 3 := ⟨g_mem 509 (by decide +kernel) (by decide +kernel), by decide +kernel, rfl, by decide +kernel, g_mem 52 (by decide +kernel) (by decide +kernel), by decide, by decide⟩
def y_Hist_remember : MethodName := ⟨"SwungShips$History", "remember", "(LSwungShips$Harbour;)V"⟩
def x_Hist_remember : CX := ("SwungShips$History", prog_4_method_2_code, 2, none, false)
theorem m_Hist_remember : MOK y_Hist_remember x_Hist_remember 1 := ⟨g_mem 513 (by decide +kernel) (by decide +kernel), by decide +kernel, rfl, by decide +kernel, g_mem 54 (by decide +kernel) (by decide +kernel), by decide, by decide⟩
def y_Harb_copyFrom : MethodName := ⟨"SwungShips$Harbour", "copyFrom", "(LSwungShips$Harbour;)V"⟩
def x_Harb_copyFrom : CX := ("SwungShips$Harbour", prog_3_method_3_code, 2, none, false)
theorem m_Harb_copyFrom : MOK y_Harb_copyFrom x_Harb_copyFrom 1 := ⟨g_mem 517 (by decide +kernel) (by decide +kernel), by decide +kernel, rfl, by decide +kernel, g_mem 53 (by decide +kernel) (by decide +kernel), by decide, by decide⟩
def y_Sw_depth : MethodName := ⟨"SwungShips", "depth", "(III)I"⟩
def x_Sw_depth : CX := ("SwungShips", prog_1_method_9_code, 5, some .int, false)
theorem m_Sw_depth : MOK y_Sw_depth x_Sw_depth 3 := ⟨g_mem 526 (by decide +kernel) (by decide +kernel), by decide +kernel, rfl, by decide +kernel, g_mem 52 (by decide +kernel) (by decide +kernel), by decide, by decide⟩
def y_Harb_changeDepth : MethodName := ⟨"SwungShips$Harbour", "changeDepth", "(II)V"⟩
def x_Harb_changeDepth : CX := ("SwungShips$Harbour", prog_3_method_11_code, 3, none, false)
theorem m_Harb_changeDepth : MOK y_Harb_changeDepth x_Harb_changeDepth 2 := ⟨g_mem 530 (by decide +kernel) (by decide +kernel), by decide +kernel, rfl, by decide +kernel, g_mem 53 (by decide +kernel) (by decide +kernel), by decide, by decide⟩
def y_Sw_tide : MethodName := ⟨"SwungShips", "tide", "(I)I"⟩
def x_Sw_tide : CX := ("SwungShips", prog_1_method_10_code, 3, some .int, false)
theorem m_Sw_tide : MOK y_Sw_tide x_Sw_tide 1 := ⟨g_mem 534 (by decide +kernel) (by decide +kernel), by decide +kernel, rfl, by decide +kernel, g_mem 52 (by decide +kernel) (by decide +kernel), by decide, by decide⟩
def y_Sw_winds : MethodName := ⟨"SwungShips", "winds", "(I)I"⟩
def x_Sw_winds : CX := ("SwungShips", prog_1_method_11_code, 3, some .int, false)
theorem m_Sw_winds : MOK y_Sw_winds x_Sw_winds 1 := ⟨g_mem 538 (by decide +kernel) (by decide +kernel), by decide +kernel, rfl, by decide +kernel, g_mem 52 (by decide +kernel) (by decide +kernel), by decide, by decide⟩
def y_Sw_arrive : MethodName := ⟨"SwungShips", "arrive", "(III)I"⟩
def x_Sw_arrive : CX := ("SwungShips", prog_1_method_12_code, 4, some .int, false)
theorem m_Sw_arrive : MOK y_Sw_arrive x_Sw_arrive 3 := ⟨g_mem 542 (by decide +kernel) (by decide +kernel), by decide +kernel, rfl, by decide +kernel, g_mem 52 (by decide +kernel) (by decide +kernel), by decide, by decide⟩
def y_Harb_letWait : MethodName := ⟨"SwungShips$Harbour", "letWait", "(III)V"⟩
def x_Harb_letWait : CX := ("SwungShips$Harbour", prog_3_method_12_code, 5, none, false)
theorem m_Harb_letWait : MOK y_Harb_letWait x_Harb_letWait 3 := ⟨g_mem 547 (by decide +kernel) (by decide +kernel), by decide +kernel, rfl, by decide +kernel, g_mem 53 (by decide +kernel) (by decide +kernel), by decide, by decide⟩
def y_Sw_anchor : MethodName := ⟨"SwungShips", "anchor", "(III)I"⟩
def x_Sw_anchor : CX := ("SwungShips", prog_1_method_13_code, 5, some .int, false)
theorem m_Sw_anchor : MOK y_Sw_anchor x_Sw_anchor 3 := ⟨g_mem 551 (by decide +kernel) (by decide +kernel), by decide +kernel, rfl, by decide +kernel, g_mem 52 (by decide +kernel) (by decide +kernel), by decide, by decide⟩
def y_Harb_bringToAnchor : MethodName := ⟨"SwungShips$Harbour", "bringToAnchor", "(II)V"⟩
def x_Harb_bringToAnchor : CX := ("SwungShips$Harbour", prog_3_method_14_code, 3, none, false)
theorem m_Harb_bringToAnchor : MOK y_Harb_bringToAnchor x_Harb_bringToAnchor 2 := ⟨g_mem 556 (by decide +kernel) (by decide +kernel), by decide +kernel, rfl, by decide +kernel, g_mem 53 (by decide +kernel) (by decide +kernel), by decide, by decide⟩
def y_Harb_copySlot : MethodName := ⟨"SwungShips$Harbour", "copySlot", "(II)V"⟩
def x_Harb_copySlot : CX := ("SwungShips$Harbour", prog_3_method_17_code, 3, none, false)
theorem m_Harb_copySlot : MOK y_Harb_copySlot x_Harb_copySlot 2 := ⟨g_mem 560 (by decide +kernel) (by decide +kernel), by decide +kernel, rfl, by decide +kernel, g_mem 53 (by decide +kernel) (by decide +kernel), by decide, by decide⟩
def y_Harb_putAt : MethodName := ⟨"SwungShips$Harbour", "putAt", "(II)V"⟩
def x_Harb_putAt : CX := ("SwungShips$Harbour", prog_3_method_13_code, 3, none, false)
theorem m_Harb_putAt : MOK y_Harb_putAt x_Harb_putAt 2 := ⟨g_mem 564 (by decide +kernel) (by decide +kernel), by decide +kernel, rfl, by decide +kernel, g_mem 53 (by decide +kernel) (by decide +kernel), by decide, by decide⟩
def y_Harb_dropWaiting : MethodName := ⟨"SwungShips$Harbour", "dropWaiting", "(I)V"⟩
def x_Harb_dropWaiting : CX := ("SwungShips$Harbour", prog_3_method_16_code, 3, none, false)
theorem m_Harb_dropWaiting : MOK y_Harb_dropWaiting x_Harb_dropWaiting 1 := ⟨g_mem 570 (by decide +kernel) (by decide +kernel), by decide +kernel, rfl, by decide +kernel, g_mem 53 (by decide +kernel) (by decide +kernel), by decide, by decide⟩
def y_Sw_fit : MethodName := ⟨"SwungShips", "fit", "(I)I"⟩
def x_Sw_fit : CX := ("SwungShips", prog_1_method_14_code, 3, some .int, false)
theorem m_Sw_fit : MOK y_Sw_fit x_Sw_fit 1 := ⟨g_mem 574 (by decide +kernel) (by decide +kernel), by decide +kernel, rfl, by decide +kernel, g_mem 52 (by decide +kernel) (by decide +kernel), by decide, by decide⟩
def y_Sw_fitAll : MethodName := ⟨"SwungShips", "fitAll", "()I"⟩
def x_Sw_fitAll : CX := ("SwungShips", prog_1_method_15_code, 3, some .int, false)
theorem m_Sw_fitAll : MOK y_Sw_fitAll x_Sw_fitAll 0 := ⟨g_mem 578 (by decide +kernel) (by decide +kernel), by decide +kernel, rfl, by decide +kernel, g_mem 52 (by decide +kernel) (by decide +kernel), by decide, by decide⟩
def y_Sw_shift : MethodName := ⟨"SwungShips", "shift", "(I)I"⟩
def x_Sw_shift : CX := ("SwungShips", prog_1_method_16_code, 3, some .int, false)
theorem m_Sw_shift : MOK y_Sw_shift x_Sw_shift 1 := ⟨g_mem 582 (by decide +kernel) (by decide +kernel), by decide +kernel, rfl, by decide +kernel, g_mem 52 (by decide +kernel) (by decide +kernel), by decide, by decide⟩
def y_Sw_leave : MethodName := ⟨"SwungShips", "leave", "(I)I"⟩
def x_Sw_leave : CX := ("SwungShips", prog_1_method_17_code, 2, some .int, false)
theorem m_Sw_leave : MOK y_Sw_leave x_Sw_leave 1 := ⟨g_mem 587 (by decide +kernel) (by decide +kernel), by decide +kernel, rfl, by decide +kernel, g_mem 52 (by decide +kernel) (by decide +kernel), by decide, by decide⟩
def y_Harb_dropAnchored : MethodName := ⟨"SwungShips$Harbour", "dropAnchored", "(I)V"⟩
def x_Harb_dropAnchored : CX := ("SwungShips$Harbour", prog_3_method_15_code, 3, none, false)
theorem m_Harb_dropAnchored : MOK y_Harb_dropAnchored x_Harb_dropAnchored 1 := ⟨g_mem 591 (by decide +kernel) (by decide +kernel), by decide +kernel, rfl, by decide +kernel, g_mem 53 (by decide +kernel) (by decide +kernel), by decide, by decide⟩
def y_Sw_turnAway : MethodName := ⟨"SwungShips", "turnAway", "(I)I"⟩
def x_Sw_turnAway : CX := ("SwungShips", prog_1_method_18_code, 2, some .int, false)
theorem m_Sw_turnAway : MOK y_Sw_turnAway x_Sw_turnAway 1 := ⟨g_mem 595 (by decide +kernel) (by decide +kernel), by decide +kernel, rfl, by decide +kernel, g_mem 52 (by decide +kernel) (by decide +kernel), by decide, by decide⟩
def y_Sw_drift : MethodName := ⟨"SwungShips", "drift", "(I)I"⟩
def x_Sw_drift : CX := ("SwungShips", prog_1_method_19_code, 4, some .int, false)
theorem m_Sw_drift : MOK y_Sw_drift x_Sw_drift 1 := ⟨g_mem 600 (by decide +kernel) (by decide +kernel), by decide +kernel, rfl, by decide +kernel, g_mem 52 (by decide +kernel) (by decide +kernel), by decide, by decide⟩
def y_Sw_draw : MethodName := ⟨"SwungShips", "draw", "(I)I"⟩
def x_Sw_draw : CX := ("SwungShips", prog_1_method_33_code, 2, some .int, false)
theorem m_Sw_draw : MOK y_Sw_draw x_Sw_draw 1 := ⟨g_mem 604 (by decide +kernel) (by decide +kernel), by decide +kernel, rfl, by decide +kernel, g_mem 52 (by decide +kernel) (by decide +kernel), by decide, by decide⟩
def y_Sw_undo : MethodName := ⟨"SwungShips", "undo", "(I)I"⟩
def x_Sw_undo : CX := ("SwungShips", prog_1_method_20_code, 2, some .int, false)
theorem m_Sw_undo : MOK y_Sw_undo x_Sw_undo 1 := ⟨g_mem 611 (by decide +kernel) (by decide +kernel), by decide +kernel, rfl, by decide +kernel, g_mem 52 (by decide +kernel) (by decide +kernel), by decide, by decide⟩
def y_Hist_bringBack : MethodName := ⟨"SwungShips$History", "bringBack", "(ILSwungShips$Harbour;)V"⟩
def x_Hist_bringBack : CX := ("SwungShips$History", prog_4_method_3_code, 3, none, false)
theorem m_Hist_bringBack : MOK y_Hist_bringBack x_Hist_bringBack 2 := ⟨g_mem 615 (by decide +kernel) (by decide +kernel), by decide +kernel, rfl, by decide +kernel, g_mem 54 (by decide +kernel) (by decide +kernel), by decide, by decide⟩
def y_Math_floorMod : MethodName := ⟨"java/lang/Math", "floorMod", "(II)I"⟩
def x_Math_floorMod : CX := ("java/lang/Math", prog_12_method_50_code, 3, some .int, false)
theorem m_Math_floorMod : MOK y_Math_floorMod x_Math_floorMod 2 := ⟨g_mem 618 (by decide +kernel) (by decide +kernel), by decide +kernel, rfl, by decide +kernel, g_mem 60 (by decide +kernel) (by decide +kernel), by decide, by decide⟩
def y_Sw_write : MethodName := ⟨"SwungShips", "write", "(II)I"⟩
def x_Sw_write : CX := ("SwungShips", prog_1_method_21_code, 3, some .int, false)
theorem m_Sw_write : MOK y_Sw_write x_Sw_write 2 := ⟨g_mem 622 (by decide +kernel) (by decide +kernel), by decide +kernel, rfl, by decide +kernel, g_mem 52 (by decide +kernel) (by decide +kernel), by decide, by decide⟩
def y_Book_add : MethodName := ⟨"SwungShips$Book", "add", "(II)V"⟩
def x_Book_add : CX := ("SwungShips$Book", prog_2_method_2_code, 3, none, false)
theorem m_Book_add : MOK y_Book_add x_Book_add 2 := ⟨g_mem 626 (by decide +kernel) (by decide +kernel), by decide +kernel, rfl, by decide +kernel, g_mem 56 (by decide +kernel) (by decide +kernel), by decide, by decide⟩
def y_Sw_tear : MethodName := ⟨"SwungShips", "tear", "()I"⟩
def x_Sw_tear : CX := ("SwungShips", prog_1_method_22_code, 2, some .int, false)
theorem m_Sw_tear : MOK y_Sw_tear x_Sw_tear 0 := ⟨g_mem 630 (by decide +kernel) (by decide +kernel), by decide +kernel, rfl, by decide +kernel, g_mem 52 (by decide +kernel) (by decide +kernel), by decide, by decide⟩
def y_Sw_seed : MethodName := ⟨"SwungShips", "seed", "(I)I"⟩
def x_Sw_seed : CX := ("SwungShips", prog_1_method_23_code, 3, some .int, false)
theorem m_Sw_seed : MOK y_Sw_seed x_Sw_seed 1 := ⟨g_mem 634 (by decide +kernel) (by decide +kernel), by decide +kernel, rfl, by decide +kernel, g_mem 52 (by decide +kernel) (by decide +kernel), by decide, by decide⟩
def y_Sw_keep : MethodName := ⟨"SwungShips", "keep", "(I)I"⟩
def x_Sw_keep : CX := ("SwungShips", prog_1_method_24_code, 2, some .int, false)
theorem m_Sw_keep : MOK y_Sw_keep x_Sw_keep 1 := ⟨g_mem 638 (by decide +kernel) (by decide +kernel), by decide +kernel, rfl, by decide +kernel, g_mem 52 (by decide +kernel) (by decide +kernel), by decide, by decide⟩
def y_Imag_take : MethodName := ⟨"SwungShips$Image", "take", "(LSwungShips$Harbour;I)V"⟩
def x_Imag_take : CX := ("SwungShips$Image", prog_5_method_2_code, 3, none, false)
theorem m_Imag_take : MOK y_Imag_take x_Imag_take 2 := ⟨g_mem 642 (by decide +kernel) (by decide +kernel), by decide +kernel, rfl, by decide +kernel, g_mem 57 (by decide +kernel) (by decide +kernel), by decide, by decide⟩
def y_Hist_forget : MethodName := ⟨"SwungShips$History", "forget", "()V"⟩
def x_Hist_forget : CX := ("SwungShips$History", prog_4_method_4_code, 1, none, false)
theorem m_Hist_forget : MOK y_Hist_forget x_Hist_forget 0 := ⟨g_mem 647 (by decide +kernel) (by decide +kernel), by decide +kernel, rfl, by decide +kernel, g_mem 54 (by decide +kernel) (by decide +kernel), by decide, by decide⟩
def y_Sw_goBack : MethodName := ⟨"SwungShips", "goBack", "(I)I"⟩
def x_Sw_goBack : CX := ("SwungShips", prog_1_method_25_code, 2, some .int, false)
theorem m_Sw_goBack : MOK y_Sw_goBack x_Sw_goBack 1 := ⟨g_mem 651 (by decide +kernel) (by decide +kernel), by decide +kernel, rfl, by decide +kernel, g_mem 52 (by decide +kernel) (by decide +kernel), by decide, by decide⟩
def y_Mod_init : MethodName := ⟨"SwungShipsModel", "<init>", "()V"⟩
def x_Mod_init : CX := ("SwungShipsModel", prog_9_method_1_code, 1, none, true)
theorem m_Mod_init : MOK y_Mod_init x_Mod_init 0 := ⟨g_mem 657 (by decide +kernel) (by decide +kernel), by decide +kernel, rfl, by decide +kernel, g_mem 58 (by decide +kernel) (by decide +kernel), by decide, by decide⟩
def y_Mod_begin : MethodName := ⟨"SwungShipsModel", "begin", "(II)V"⟩
def x_Mod_begin : CX := ("SwungShipsModel", prog_9_method_2_code, 4, none, false)
theorem m_Mod_begin : MOK y_Mod_begin x_Mod_begin 2 := ⟨g_mem 662 (by decide +kernel) (by decide +kernel), by decide +kernel, rfl, by decide +kernel, g_mem 58 (by decide +kernel) (by decide +kernel), by decide, by decide⟩
def y_Mod_told : MethodName := ⟨"SwungShipsModel", "told", "(I)I"⟩
def x_Mod_told : CX := ("SwungShipsModel", prog_9_method_42_code, 2, some .int, false)
theorem m_Mod_told : MOK y_Mod_told x_Mod_told 1 := ⟨g_mem 704 (by decide +kernel) (by decide +kernel), by decide +kernel, rfl, by decide +kernel, g_mem 58 (by decide +kernel) (by decide +kernel), by decide, by decide⟩
def y_Mod_danger : MethodName := ⟨"SwungShipsModel", "danger", "()I"⟩
def x_Mod_danger : CX := ("SwungShipsModel", prog_9_method_25_code, 3, some .int, false)
theorem m_Mod_danger : MOK y_Mod_danger x_Mod_danger 0 := ⟨g_mem 708 (by decide +kernel) (by decide +kernel), by decide +kernel, rfl, by decide +kernel, g_mem 58 (by decide +kernel) (by decide +kernel), by decide, by decide⟩
def y_Mod_liesWell : MethodName := ⟨"SwungShipsModel", "liesWell", "(I)Z"⟩
def x_Mod_liesWell : CX := ("SwungShipsModel", prog_9_method_24_code, 2, some .boolean, false)
theorem m_Mod_liesWell : MOK y_Mod_liesWell x_Mod_liesWell 1 := ⟨g_mem 712 (by decide +kernel) (by decide +kernel), by decide +kernel, rfl, by decide +kernel, g_mem 58 (by decide +kernel) (by decide +kernel), by decide, by decide⟩
def y_Mod_shipAt : MethodName := ⟨"SwungShipsModel", "shipAt", "(I)I"⟩
def x_Mod_shipAt : CX := ("SwungShipsModel", prog_9_method_6_code, 1, some .int, false)
theorem m_Mod_shipAt : MOK y_Mod_shipAt x_Mod_shipAt 1 := ⟨g_mem 715 (by decide +kernel) (by decide +kernel), by decide +kernel, rfl, by decide +kernel, g_mem 58 (by decide +kernel) (by decide +kernel), by decide, by decide⟩
def y_Mod_mayLie : MethodName := ⟨"SwungShipsModel", "mayLie", "(II)Z"⟩
def x_Mod_mayLie : CX := ("SwungShipsModel", prog_9_method_20_code, 3, some .boolean, false)
theorem m_Mod_mayLie : MOK y_Mod_mayLie x_Mod_mayLie 2 := ⟨g_mem 719 (by decide +kernel) (by decide +kernel), by decide +kernel, rfl, by decide +kernel, g_mem 58 (by decide +kernel) (by decide +kernel), by decide, by decide⟩
def y_Mod_leastWater : MethodName := ⟨"SwungShipsModel", "leastWater", "(IIZ)I"⟩
def x_Mod_leastWater : CX := ("SwungShipsModel", prog_9_method_19_code, 10, some .int, false)
theorem m_Mod_leastWater : MOK y_Mod_leastWater x_Mod_leastWater 3 := ⟨g_mem 723 (by decide +kernel) (by decide +kernel), by decide +kernel, rfl, by decide +kernel, g_mem 58 (by decide +kernel) (by decide +kernel), by decide, by decide⟩
def y_Mod_has : MethodName := ⟨"SwungShipsModel", "has", "(II)Z"⟩
def x_Mod_has : CX := ("SwungShipsModel", prog_9_method_4_code, 2, some .boolean, false)
theorem m_Mod_has : MOK y_Mod_has x_Mod_has 2 := ⟨g_mem 726 (by decide +kernel) (by decide +kernel), by decide +kernel, rfl, by decide +kernel, g_mem 58 (by decide +kernel) (by decide +kernel), by decide, by decide⟩
def y_Mod_left : MethodName := ⟨"SwungShipsModel", "left", "(III)I"⟩
def x_Mod_left : CX := ("SwungShipsModel", prog_9_method_15_code, 4, some .int, false)
theorem m_Mod_left : MOK y_Mod_left x_Mod_left 3 := ⟨g_mem 730 (by decide +kernel) (by decide +kernel), by decide +kernel, rfl, by decide +kernel, g_mem 58 (by decide +kernel) (by decide +kernel), by decide, by decide⟩
def y_Mod_windX : MethodName := ⟨"SwungShipsModel", "windX", "(I)I"⟩
def x_Mod_windX : CX := ("SwungShipsModel", prog_9_method_13_code, 1, some .int, false)
theorem m_Mod_windX : MOK y_Mod_windX x_Mod_windX 1 := ⟨g_mem 733 (by decide +kernel) (by decide +kernel), by decide +kernel, rfl, by decide +kernel, g_mem 58 (by decide +kernel) (by decide +kernel), by decide, by decide⟩
def y_Mod_top : MethodName := ⟨"SwungShipsModel", "top", "(III)I"⟩
def x_Mod_top : CX := ("SwungShipsModel", prog_9_method_16_code, 4, some .int, false)
theorem m_Mod_top : MOK y_Mod_top x_Mod_top 3 := ⟨g_mem 737 (by decide +kernel) (by decide +kernel), by decide +kernel, rfl, by decide +kernel, g_mem 58 (by decide +kernel) (by decide +kernel), by decide, by decide⟩
def y_Mod_windY : MethodName := ⟨"SwungShipsModel", "windY", "(I)I"⟩
def x_Mod_windY : CX := ("SwungShipsModel", prog_9_method_14_code, 1, some .int, false)
theorem m_Mod_windY : MOK y_Mod_windY x_Mod_windY 1 := ⟨g_mem 740 (by decide +kernel) (by decide +kernel), by decide +kernel, rfl, by decide +kernel, g_mem 58 (by decide +kernel) (by decide +kernel), by decide, by decide⟩
def y_Mod_isCell : MethodName := ⟨"SwungShipsModel", "isCell", "(II)Z"⟩
def x_Mod_isCell : CX := ("SwungShipsModel", prog_9_method_11_code, 3, some .boolean, false)
theorem m_Mod_isCell : MOK y_Mod_isCell x_Mod_isCell 2 := ⟨g_mem 744 (by decide +kernel) (by decide +kernel), by decide +kernel, rfl, by decide +kernel, g_mem 58 (by decide +kernel) (by decide +kernel), by decide, by decide⟩
def y_Mod_in : MethodName := ⟨"SwungShipsModel", "in", "(III)Z"⟩
def x_Mod_in : CX := ("SwungShipsModel", prog_9_method_3_code, 3, some .boolean, false)
theorem m_Mod_in : MOK y_Mod_in x_Mod_in 3 := ⟨g_mem 747 (by decide +kernel) (by decide +kernel), by decide +kernel, rfl, by decide +kernel, g_mem 58 (by decide +kernel) (by decide +kernel), by decide, by decide⟩
def y_Mod_water : MethodName := ⟨"SwungShipsModel", "water", "(II)I"⟩
def x_Mod_water : CX := ("SwungShipsModel", prog_9_method_12_code, 4, some .int, false)
theorem m_Mod_water : MOK y_Mod_water x_Mod_water 2 := ⟨g_mem 751 (by decide +kernel) (by decide +kernel), by decide +kernel, rfl, by decide +kernel, g_mem 58 (by decide +kernel) (by decide +kernel), by decide, by decide⟩
def y_Mod_clashes : MethodName := ⟨"SwungShipsModel", "clashes", "(I)I"⟩
def x_Mod_clashes : CX := ("SwungShipsModel", prog_9_method_23_code, 4, some .int, false)
theorem m_Mod_clashes : MOK y_Mod_clashes x_Mod_clashes 1 := ⟨g_mem 755 (by decide +kernel) (by decide +kernel), by decide +kernel, rfl, by decide +kernel, g_mem 58 (by decide +kernel) (by decide +kernel), by decide, by decide⟩
def y_Mod_clash : MethodName := ⟨"SwungShipsModel", "clash", "(IIII)Z"⟩
def x_Mod_clash : CX := ("SwungShipsModel", prog_9_method_22_code, 9, some .boolean, false)
theorem m_Mod_clash : MOK y_Mod_clash x_Mod_clash 4 := ⟨g_mem 759 (by decide +kernel) (by decide +kernel), by decide +kernel, rfl, by decide +kernel, g_mem 58 (by decide +kernel) (by decide +kernel), by decide, by decide⟩
def y_Mod_share : MethodName := ⟨"SwungShipsModel", "share", "(IIII)Z"⟩
def x_Mod_share : CX := ("SwungShipsModel", prog_9_method_21_code, 4, some .boolean, false)
theorem m_Mod_share : MOK y_Mod_share x_Mod_share 4 := ⟨g_mem 762 (by decide +kernel) (by decide +kernel), by decide +kernel, rfl, by decide +kernel, g_mem 58 (by decide +kernel) (by decide +kernel), by decide, by decide⟩
def y_Mod_clashPairs : MethodName := ⟨"SwungShipsModel", "clashPairs", "()I"⟩
def x_Mod_clashPairs : CX := ("SwungShipsModel", prog_9_method_37_code, 3, some .int, false)
theorem m_Mod_clashPairs : MOK y_Mod_clashPairs x_Mod_clashPairs 0 := ⟨g_mem 766 (by decide +kernel) (by decide +kernel), by decide +kernel, rfl, by decide +kernel, g_mem 58 (by decide +kernel) (by decide +kernel), by decide, by decide⟩
def y_Mod_ones : MethodName := ⟨"SwungShipsModel", "ones", "(I)I"⟩
def x_Mod_ones : CX := ("SwungShipsModel", prog_9_method_34_code, 3, some .int, false)
theorem m_Mod_ones : MOK y_Mod_ones x_Mod_ones 1 := ⟨g_mem 769 (by decide +kernel) (by decide +kernel), by decide +kernel, rfl, by decide +kernel, g_mem 58 (by decide +kernel) (by decide +kernel), by decide, by decide⟩
def y_Mod_placesForAll : MethodName := ⟨"SwungShipsModel", "placesForAll", "()Z"⟩
def x_Mod_placesForAll : CX := ("SwungShipsModel", prog_9_method_33_code, 2, some .boolean, false)
theorem m_Mod_placesForAll : MOK y_Mod_placesForAll x_Mod_placesForAll 0 := ⟨g_mem 773 (by decide +kernel) (by decide +kernel), by decide +kernel, rfl, by decide +kernel, g_mem 58 (by decide +kernel) (by decide +kernel), by decide, by decide⟩
def y_Mod_waitAt : MethodName := ⟨"SwungShipsModel", "waitAt", "(I)I"⟩
def x_Mod_waitAt : CX := ("SwungShipsModel", prog_9_method_7_code, 1, some .int, false)
theorem m_Mod_waitAt : MOK y_Mod_waitAt x_Mod_waitAt 1 := ⟨g_mem 776 (by decide +kernel) (by decide +kernel), by decide +kernel, rfl, by decide +kernel, g_mem 58 (by decide +kernel) (by decide +kernel), by decide, by decide⟩
def y_Mod_tryRows : MethodName := ⟨"SwungShipsModel", "tryRows", "(II)Z"⟩
def x_Mod_tryRows : CX := ("SwungShipsModel", prog_9_method_32_code, 4, some .boolean, false)
theorem m_Mod_tryRows : MOK y_Mod_tryRows x_Mod_tryRows 2 := ⟨g_mem 780 (by decide +kernel) (by decide +kernel), by decide +kernel, rfl, by decide +kernel, g_mem 58 (by decide +kernel) (by decide +kernel), by decide, by decide⟩
def y_Mod_layFree : MethodName := ⟨"SwungShipsModel", "layFree", "(II)V"⟩
def x_Mod_layFree : CX := ("SwungShipsModel", prog_9_method_31_code, 5, none, false)
theorem m_Mod_layFree : MOK y_Mod_layFree x_Mod_layFree 2 := ⟨g_mem 784 (by decide +kernel) (by decide +kernel), by decide +kernel, rfl, by decide +kernel, g_mem 58 (by decide +kernel) (by decide +kernel), by decide, by decide⟩
def y_Mod_cells : MethodName := ⟨"SwungShipsModel", "cells", "()I"⟩
def x_Mod_cells : CX := ("SwungShipsModel", prog_9_method_8_code, 1, some .int, false)
theorem m_Mod_cells : MOK y_Mod_cells x_Mod_cells 0 := ⟨g_mem 788 (by decide +kernel) (by decide +kernel), by decide +kernel, rfl, by decide +kernel, g_mem 58 (by decide +kernel) (by decide +kernel), by decide, by decide⟩
def y_Mod_isFree : MethodName := ⟨"SwungShipsModel", "isFree", "(III)Z"⟩
def x_Mod_isFree : CX := ("SwungShipsModel", prog_9_method_27_code, 6, some .boolean, false)
theorem m_Mod_isFree : MOK y_Mod_isFree x_Mod_isFree 3 := ⟨g_mem 792 (by decide +kernel) (by decide +kernel), by decide +kernel, rfl, by decide +kernel, g_mem 58 (by decide +kernel) (by decide +kernel), by decide, by decide⟩
def y_Mod_fitsBehind : MethodName := ⟨"SwungShipsModel", "fitsBehind", "(I)Z"⟩
def x_Mod_fitsBehind : CX := ("SwungShipsModel", prog_9_method_30_code, 4, some .boolean, false)
theorem m_Mod_fitsBehind : MOK y_Mod_fitsBehind x_Mod_fitsBehind 1 := ⟨g_mem 796 (by decide +kernel) (by decide +kernel), by decide +kernel, rfl, by decide +kernel, g_mem 58 (by decide +kernel) (by decide +kernel), by decide, by decide⟩
def y_Mod_threats : MethodName := ⟨"SwungShipsModel", "threats", "()I"⟩
def x_Mod_threats : CX := ("SwungShipsModel", prog_9_method_26_code, 5, some .int, false)
theorem m_Mod_threats : MOK y_Mod_threats x_Mod_threats 0 := ⟨g_mem 800 (by decide +kernel) (by decide +kernel), by decide +kernel, rfl, by decide +kernel, g_mem 58 (by decide +kernel) (by decide +kernel), by decide, by decide⟩
def y_Mod_swept : MethodName := ⟨"SwungShipsModel", "swept", "()I"⟩
def x_Mod_swept : CX := ("SwungShipsModel", prog_9_method_39_code, 3, some .int, false)
theorem m_Mod_swept : MOK y_Mod_swept x_Mod_swept 0 := ⟨g_mem 804 (by decide +kernel) (by decide +kernel), by decide +kernel, rfl, by decide +kernel, g_mem 58 (by decide +kernel) (by decide +kernel), by decide, by decide⟩
def y_Mod_sweepers : MethodName := ⟨"SwungShipsModel", "sweepers", "(II)I"⟩
def x_Mod_sweepers : CX := ("SwungShipsModel", prog_9_method_38_code, 5, some .int, false)
theorem m_Mod_sweepers : MOK y_Mod_sweepers x_Mod_sweepers 2 := ⟨g_mem 808 (by decide +kernel) (by decide +kernel), by decide +kernel, rfl, by decide +kernel, g_mem 58 (by decide +kernel) (by decide +kernel), by decide, by decide⟩
def y_Mod_sweeps : MethodName := ⟨"SwungShipsModel", "sweeps", "(IIII)Z"⟩
def x_Mod_sweeps : CX := ("SwungShipsModel", prog_9_method_18_code, 7, some .boolean, false)
theorem m_Mod_sweeps : MOK y_Mod_sweeps x_Mod_sweeps 4 := ⟨g_mem 812 (by decide +kernel) (by decide +kernel), by decide +kernel, rfl, by decide +kernel, g_mem 58 (by decide +kernel) (by decide +kernel), by decide, by decide⟩
def y_Mod_liesOn : MethodName := ⟨"SwungShipsModel", "liesOn", "(IIIII)Z"⟩
def x_Mod_liesOn : CX := ("SwungShipsModel", prog_9_method_17_code, 8, some .boolean, false)
theorem m_Mod_liesOn : MOK y_Mod_liesOn x_Mod_liesOn 5 := ⟨g_mem 816 (by decide +kernel) (by decide +kernel), by decide +kernel, rfl, by decide +kernel, g_mem 58 (by decide +kernel) (by decide +kernel), by decide, by decide⟩
def y_Mod_wrongEntry : MethodName := ⟨"SwungShipsModel", "wrongEntry", "()I"⟩
def x_Mod_wrongEntry : CX := ("SwungShipsModel", prog_9_method_41_code, 2, some .int, false)
theorem m_Mod_wrongEntry : MOK y_Mod_wrongEntry x_Mod_wrongEntry 0 := ⟨g_mem 820 (by decide +kernel) (by decide +kernel), by decide +kernel, rfl, by decide +kernel, g_mem 58 (by decide +kernel) (by decide +kernel), by decide, by decide⟩
def y_Mod_isShip : MethodName := ⟨"SwungShipsModel", "isShip", "(I)Z"⟩
def x_Mod_isShip : CX := ("SwungShipsModel", prog_9_method_9_code, 2, some .boolean, false)
theorem m_Mod_isShip : MOK y_Mod_isShip x_Mod_isShip 1 := ⟨g_mem 824 (by decide +kernel) (by decide +kernel), by decide +kernel, rfl, by decide +kernel, g_mem 58 (by decide +kernel) (by decide +kernel), by decide, by decide⟩
def y_Mod_cell : MethodName := ⟨"SwungShipsModel", "cell", "(III)I"⟩
def x_Mod_cell : CX := ("SwungShipsModel", prog_9_method_44_code, 5, some .int, false)
theorem m_Mod_cell : MOK y_Mod_cell x_Mod_cell 3 := ⟨g_mem 829 (by decide +kernel) (by decide +kernel), by decide +kernel, rfl, by decide +kernel, g_mem 58 (by decide +kernel) (by decide +kernel), by decide, by decide⟩
def y_Mod_fitters : MethodName := ⟨"SwungShipsModel", "fitters", "(I)I"⟩
def x_Mod_fitters : CX := ("SwungShipsModel", prog_9_method_43_code, 4, some .int, false)
theorem m_Mod_fitters : MOK y_Mod_fitters x_Mod_fitters 1 := ⟨g_mem 834 (by decide +kernel) (by decide +kernel), by decide +kernel, rfl, by decide +kernel, g_mem 58 (by decide +kernel) (by decide +kernel), by decide, by decide⟩
def y_Mod_ship : MethodName := ⟨"SwungShipsModel", "ship", "(II)I"⟩
def x_Mod_ship : CX := ("SwungShipsModel", prog_9_method_45_code, 4, some .int, false)
theorem m_Mod_ship : MOK y_Mod_ship x_Mod_ship 2 := ⟨g_mem 838 (by decide +kernel) (by decide +kernel), by decide +kernel, rfl, by decide +kernel, g_mem 58 (by decide +kernel) (by decide +kernel), by decide, by decide⟩
def y_Mod_sweptBy : MethodName := ⟨"SwungShipsModel", "sweptBy", "(I)I"⟩
def x_Mod_sweptBy : CX := ("SwungShipsModel", prog_9_method_40_code, 4, some .int, false)
theorem m_Mod_sweptBy : MOK y_Mod_sweptBy x_Mod_sweptBy 1 := ⟨g_mem 842 (by decide +kernel) (by decide +kernel), by decide +kernel, rfl, by decide +kernel, g_mem 58 (by decide +kernel) (by decide +kernel), by decide, by decide⟩
def y_Mod_waits : MethodName := ⟨"SwungShipsModel", "waits", "(II)I"⟩
def x_Mod_waits : CX := ("SwungShipsModel", prog_9_method_48_code, 3, some .int, false)
theorem m_Mod_waits : MOK y_Mod_waits x_Mod_waits 2 := ⟨g_mem 846 (by decide +kernel) (by decide +kernel), by decide +kernel, rfl, by decide +kernel, g_mem 58 (by decide +kernel) (by decide +kernel), by decide, by decide⟩
def y_Mod_isWaiting : MethodName := ⟨"SwungShipsModel", "isWaiting", "(I)Z"⟩
def x_Mod_isWaiting : CX := ("SwungShipsModel", prog_9_method_10_code, 2, some .boolean, false)
theorem m_Mod_isWaiting : MOK y_Mod_isWaiting x_Mod_isWaiting 1 := ⟨g_mem 850 (by decide +kernel) (by decide +kernel), by decide +kernel, rfl, by decide +kernel, g_mem 58 (by decide +kernel) (by decide +kernel), by decide, by decide⟩
def y_Mod_places : MethodName := ⟨"SwungShipsModel", "places", "(I)I"⟩
def x_Mod_places : CX := ("SwungShipsModel", prog_9_method_28_code, 4, some .int, false)
theorem m_Mod_places : MOK y_Mod_places x_Mod_places 1 := ⟨g_mem 854 (by decide +kernel) (by decide +kernel), by decide +kernel, rfl, by decide +kernel, g_mem 58 (by decide +kernel) (by decide +kernel), by decide, by decide⟩
def y_Mod_firstPlace : MethodName := ⟨"SwungShipsModel", "firstPlace", "(I)I"⟩
def x_Mod_firstPlace : CX := ("SwungShipsModel", prog_9_method_29_code, 3, some .int, false)
theorem m_Mod_firstPlace : MOK y_Mod_firstPlace x_Mod_firstPlace 1 := ⟨g_mem 858 (by decide +kernel) (by decide +kernel), by decide +kernel, rfl, by decide +kernel, g_mem 58 (by decide +kernel) (by decide +kernel), by decide, by decide⟩
def y_Mod_inFirst : MethodName := ⟨"SwungShipsModel", "inFirst", "(I)I"⟩
def x_Mod_inFirst : CX := ("SwungShipsModel", prog_9_method_46_code, 2, some .int, false)
theorem m_Mod_inFirst : MOK y_Mod_inFirst x_Mod_inFirst 1 := ⟨g_mem 862 (by decide +kernel) (by decide +kernel), by decide +kernel, rfl, by decide +kernel, g_mem 58 (by decide +kernel) (by decide +kernel), by decide, by decide⟩
def y_Mod_layMoves : MethodName := ⟨"SwungShipsModel", "layMoves", "(I)I"⟩
def x_Mod_layMoves : CX := ("SwungShipsModel", prog_9_method_36_code, 4, some .int, false)
theorem m_Mod_layMoves : MOK y_Mod_layMoves x_Mod_layMoves 1 := ⟨g_mem 866 (by decide +kernel) (by decide +kernel), by decide +kernel, rfl, by decide +kernel, g_mem 58 (by decide +kernel) (by decide +kernel), by decide, by decide⟩
def y_Mod_tryMoved : MethodName := ⟨"SwungShipsModel", "tryMoved", "(II)Z"⟩
def x_Mod_tryMoved : CX := ("SwungShipsModel", prog_9_method_35_code, 5, some .boolean, false)
theorem m_Mod_tryMoved : MOK y_Mod_tryMoved x_Mod_tryMoved 2 := ⟨g_mem 870 (by decide +kernel) (by decide +kernel), by decide +kernel, rfl, by decide +kernel, g_mem 58 (by decide +kernel) (by decide +kernel), by decide, by decide⟩
def y_Mod_movedBy : MethodName := ⟨"SwungShipsModel", "movedBy", "(I)I"⟩
def x_Mod_movedBy : CX := ("SwungShipsModel", prog_9_method_47_code, 2, some .int, false)
theorem m_Mod_movedBy : MOK y_Mod_movedBy x_Mod_movedBy 1 := ⟨g_mem 874 (by decide +kernel) (by decide +kernel), by decide +kernel, rfl, by decide +kernel, g_mem 58 (by decide +kernel) (by decide +kernel), by decide, by decide⟩
def y_Mod_moves : MethodName := ⟨"SwungShipsModel", "moves", "(II)I"⟩
def x_Mod_moves : CX := ("SwungShipsModel", prog_9_method_49_code, 3, some .int, false)
theorem m_Mod_moves : MOK y_Mod_moves x_Mod_moves 2 := ⟨g_mem 878 (by decide +kernel) (by decide +kernel), by decide +kernel, rfl, by decide +kernel, g_mem 58 (by decide +kernel) (by decide +kernel), by decide, by decide⟩
def y_Mod_lies : MethodName := ⟨"SwungShipsModel", "lies", "(IIII)I"⟩
def x_Mod_lies : CX := ("SwungShipsModel", prog_9_method_50_code, 5, some .int, false)
theorem m_Mod_lies : MOK y_Mod_lies x_Mod_lies 4 := ⟨g_mem 882 (by decide +kernel) (by decide +kernel), by decide +kernel, rfl, by decide +kernel, g_mem 58 (by decide +kernel) (by decide +kernel), by decide, by decide⟩
def y_Mod_harbour : MethodName := ⟨"SwungShipsModel", "harbour", "(II)I"⟩
def x_Mod_harbour : CX := ("SwungShipsModel", prog_9_method_53_code, 4, some .int, false)
theorem m_Mod_harbour : MOK y_Mod_harbour x_Mod_harbour 2 := ⟨g_mem 886 (by decide +kernel) (by decide +kernel), by decide +kernel, rfl, by decide +kernel, g_mem 58 (by decide +kernel) (by decide +kernel), by decide, by decide⟩
def y_Mod_remember : MethodName := ⟨"SwungShipsModel", "remember", "()V"⟩
def x_Mod_remember : CX := ("SwungShipsModel", prog_9_method_51_code, 2, none, false)
theorem m_Mod_remember : MOK y_Mod_remember x_Mod_remember 0 := ⟨g_mem 890 (by decide +kernel) (by decide +kernel), by decide +kernel, rfl, by decide +kernel, g_mem 58 (by decide +kernel) (by decide +kernel), by decide, by decide⟩
def y_Mod_copyRow : MethodName := ⟨"SwungShipsModel", "copyRow", "(II)V"⟩
def x_Mod_copyRow : CX := ("SwungShipsModel", prog_9_method_5_code, 4, none, false)
theorem m_Mod_copyRow : MOK y_Mod_copyRow x_Mod_copyRow 2 := ⟨g_mem 894 (by decide +kernel) (by decide +kernel), by decide +kernel, rfl, by decide +kernel, g_mem 58 (by decide +kernel) (by decide +kernel), by decide, by decide⟩
def y_Mod_depth : MethodName := ⟨"SwungShipsModel", "depth", "(III)I"⟩
def x_Mod_depth : CX := ("SwungShipsModel", prog_9_method_54_code, 4, some .int, false)
theorem m_Mod_depth : MOK y_Mod_depth x_Mod_depth 3 := ⟨g_mem 898 (by decide +kernel) (by decide +kernel), by decide +kernel, rfl, by decide +kernel, g_mem 58 (by decide +kernel) (by decide +kernel), by decide, by decide⟩
def y_Mod_put : MethodName := ⟨"SwungShipsModel", "put", "(II)I"⟩
def x_Mod_put : CX := ("SwungShipsModel", prog_9_method_52_code, 4, some .int, false)
theorem m_Mod_put : MOK y_Mod_put x_Mod_put 2 := ⟨g_mem 902 (by decide +kernel) (by decide +kernel), by decide +kernel, rfl, by decide +kernel, g_mem 58 (by decide +kernel) (by decide +kernel), by decide, by decide⟩
def y_Mod_tide : MethodName := ⟨"SwungShipsModel", "tide", "(I)I"⟩
def x_Mod_tide : CX := ("SwungShipsModel", prog_9_method_55_code, 2, some .int, false)
theorem m_Mod_tide : MOK y_Mod_tide x_Mod_tide 1 := ⟨g_mem 906 (by decide +kernel) (by decide +kernel), by decide +kernel, rfl, by decide +kernel, g_mem 58 (by decide +kernel) (by decide +kernel), by decide, by decide⟩
def y_Mod_winds : MethodName := ⟨"SwungShipsModel", "winds", "(I)I"⟩
def x_Mod_winds : CX := ("SwungShipsModel", prog_9_method_56_code, 2, some .int, false)
theorem m_Mod_winds : MOK y_Mod_winds x_Mod_winds 1 := ⟨g_mem 910 (by decide +kernel) (by decide +kernel), by decide +kernel, rfl, by decide +kernel, g_mem 58 (by decide +kernel) (by decide +kernel), by decide, by decide⟩
def y_Mod_arrive : MethodName := ⟨"SwungShipsModel", "arrive", "(III)I"⟩
def x_Mod_arrive : CX := ("SwungShipsModel", prog_9_method_57_code, 5, some .int, false)
theorem m_Mod_arrive : MOK y_Mod_arrive x_Mod_arrive 3 := ⟨g_mem 914 (by decide +kernel) (by decide +kernel), by decide +kernel, rfl, by decide +kernel, g_mem 58 (by decide +kernel) (by decide +kernel), by decide, by decide⟩
def y_Mod_anchor : MethodName := ⟨"SwungShipsModel", "anchor", "(III)I"⟩
def x_Mod_anchor : CX := ("SwungShipsModel", prog_9_method_61_code, 5, some .int, false)
theorem m_Mod_anchor : MOK y_Mod_anchor x_Mod_anchor 3 := ⟨g_mem 919 (by decide +kernel) (by decide +kernel), by decide +kernel, rfl, by decide +kernel, g_mem 58 (by decide +kernel) (by decide +kernel), by decide, by decide⟩
def y_Mod_come : MethodName := ⟨"SwungShipsModel", "come", "(II)I"⟩
def x_Mod_come : CX := ("SwungShipsModel", prog_9_method_60_code, 3, some .int, false)
theorem m_Mod_come : MOK y_Mod_come x_Mod_come 2 := ⟨g_mem 924 (by decide +kernel) (by decide +kernel), by decide +kernel, rfl, by decide +kernel, g_mem 58 (by decide +kernel) (by decide +kernel), by decide, by decide⟩
def y_Mod_moor : MethodName := ⟨"SwungShipsModel", "moor", "(II)V"⟩
def x_Mod_moor : CX := ("SwungShipsModel", prog_9_method_59_code, 5, none, false)
theorem m_Mod_moor : MOK y_Mod_moor x_Mod_moor 2 := ⟨g_mem 928 (by decide +kernel) (by decide +kernel), by decide +kernel, rfl, by decide +kernel, g_mem 58 (by decide +kernel) (by decide +kernel), by decide, by decide⟩
def y_Mod_unwait : MethodName := ⟨"SwungShipsModel", "unwait", "(I)V"⟩
def x_Mod_unwait : CX := ("SwungShipsModel", prog_9_method_58_code, 3, none, false)
theorem m_Mod_unwait : MOK y_Mod_unwait x_Mod_unwait 1 := ⟨g_mem 932 (by decide +kernel) (by decide +kernel), by decide +kernel, rfl, by decide +kernel, g_mem 58 (by decide +kernel) (by decide +kernel), by decide, by decide⟩
def y_Mod_fit : MethodName := ⟨"SwungShipsModel", "fit", "(I)I"⟩
def x_Mod_fit : CX := ("SwungShipsModel", prog_9_method_62_code, 3, some .int, false)
theorem m_Mod_fit : MOK y_Mod_fit x_Mod_fit 1 := ⟨g_mem 936 (by decide +kernel) (by decide +kernel), by decide +kernel, rfl, by decide +kernel, g_mem 58 (by decide +kernel) (by decide +kernel), by decide, by decide⟩
def y_Mod_fitAll : MethodName := ⟨"SwungShipsModel", "fitAll", "()I"⟩
def x_Mod_fitAll : CX := ("SwungShipsModel", prog_9_method_63_code, 3, some .int, false)
theorem m_Mod_fitAll : MOK y_Mod_fitAll x_Mod_fitAll 0 := ⟨g_mem 940 (by decide +kernel) (by decide +kernel), by decide +kernel, rfl, by decide +kernel, g_mem 58 (by decide +kernel) (by decide +kernel), by decide, by decide⟩
def y_Mod_shift : MethodName := ⟨"SwungShipsModel", "shift", "(I)I"⟩
def x_Mod_shift : CX := ("SwungShipsModel", prog_9_method_64_code, 5, some .int, false)
theorem m_Mod_shift : MOK y_Mod_shift x_Mod_shift 1 := ⟨g_mem 944 (by decide +kernel) (by decide +kernel), by decide +kernel, rfl, by decide +kernel, g_mem 58 (by decide +kernel) (by decide +kernel), by decide, by decide⟩
def y_Mod_leave : MethodName := ⟨"SwungShipsModel", "leave", "(I)I"⟩
def x_Mod_leave : CX := ("SwungShipsModel", prog_9_method_65_code, 3, some .int, false)
theorem m_Mod_leave : MOK y_Mod_leave x_Mod_leave 1 := ⟨g_mem 948 (by decide +kernel) (by decide +kernel), by decide +kernel, rfl, by decide +kernel, g_mem 58 (by decide +kernel) (by decide +kernel), by decide, by decide⟩
def y_Mod_turnAway : MethodName := ⟨"SwungShipsModel", "turnAway", "(I)I"⟩
def x_Mod_turnAway : CX := ("SwungShipsModel", prog_9_method_66_code, 2, some .int, false)
theorem m_Mod_turnAway : MOK y_Mod_turnAway x_Mod_turnAway 1 := ⟨g_mem 952 (by decide +kernel) (by decide +kernel), by decide +kernel, rfl, by decide +kernel, g_mem 58 (by decide +kernel) (by decide +kernel), by decide, by decide⟩
def y_Mod_drift : MethodName := ⟨"SwungShipsModel", "drift", "(I)I"⟩
def x_Mod_drift : CX := ("SwungShipsModel", prog_9_method_68_code, 4, some .int, false)
theorem m_Mod_drift : MOK y_Mod_drift x_Mod_drift 1 := ⟨g_mem 956 (by decide +kernel) (by decide +kernel), by decide +kernel, rfl, by decide +kernel, g_mem 58 (by decide +kernel) (by decide +kernel), by decide, by decide⟩
def y_Mod_draw : MethodName := ⟨"SwungShipsModel", "draw", "(I)I"⟩
def x_Mod_draw : CX := ("SwungShipsModel", prog_9_method_67_code, 4, some .int, false)
theorem m_Mod_draw : MOK y_Mod_draw x_Mod_draw 1 := ⟨g_mem 960 (by decide +kernel) (by decide +kernel), by decide +kernel, rfl, by decide +kernel, g_mem 58 (by decide +kernel) (by decide +kernel), by decide, by decide⟩
def y_Mod_undo : MethodName := ⟨"SwungShipsModel", "undo", "(I)I"⟩
def x_Mod_undo : CX := ("SwungShipsModel", prog_9_method_69_code, 2, some .int, false)
theorem m_Mod_undo : MOK y_Mod_undo x_Mod_undo 1 := ⟨g_mem 968 (by decide +kernel) (by decide +kernel), by decide +kernel, rfl, by decide +kernel, g_mem 58 (by decide +kernel) (by decide +kernel), by decide, by decide⟩
def y_Mod_write : MethodName := ⟨"SwungShipsModel", "write", "(II)I"⟩
def x_Mod_write : CX := ("SwungShipsModel", prog_9_method_70_code, 3, some .int, false)
theorem m_Mod_write : MOK y_Mod_write x_Mod_write 2 := ⟨g_mem 972 (by decide +kernel) (by decide +kernel), by decide +kernel, rfl, by decide +kernel, g_mem 58 (by decide +kernel) (by decide +kernel), by decide, by decide⟩
def y_Mod_tear : MethodName := ⟨"SwungShipsModel", "tear", "()I"⟩
def x_Mod_tear : CX := ("SwungShipsModel", prog_9_method_71_code, 2, some .int, false)
theorem m_Mod_tear : MOK y_Mod_tear x_Mod_tear 0 := ⟨g_mem 976 (by decide +kernel) (by decide +kernel), by decide +kernel, rfl, by decide +kernel, g_mem 58 (by decide +kernel) (by decide +kernel), by decide, by decide⟩
def y_Mod_seed : MethodName := ⟨"SwungShipsModel", "seed", "(I)I"⟩
def x_Mod_seed : CX := ("SwungShipsModel", prog_9_method_72_code, 3, some .int, false)
theorem m_Mod_seed : MOK y_Mod_seed x_Mod_seed 1 := ⟨g_mem 980 (by decide +kernel) (by decide +kernel), by decide +kernel, rfl, by decide +kernel, g_mem 58 (by decide +kernel) (by decide +kernel), by decide, by decide⟩
def y_Mod_keep : MethodName := ⟨"SwungShipsModel", "keep", "(I)I"⟩
def x_Mod_keep : CX := ("SwungShipsModel", prog_9_method_73_code, 2, some .int, false)
theorem m_Mod_keep : MOK y_Mod_keep x_Mod_keep 1 := ⟨g_mem 984 (by decide +kernel) (by decide +kernel), by decide +kernel, rfl, by decide +kernel, g_mem 58 (by decide +kernel) (by decide +kernel), by decide, by decide⟩
def y_Mod_goBack : MethodName := ⟨"SwungShipsModel", "goBack", "(I)I"⟩
def x_Mod_goBack : CX := ("SwungShipsModel", prog_9_method_74_code, 2, some .int, false)
theorem m_Mod_goBack : MOK y_Mod_goBack x_Mod_goBack 1 := ⟨g_mem 988 (by decide +kernel) (by decide +kernel), by decide +kernel, rfl, by decide +kernel, g_mem 58 (by decide +kernel) (by decide +kernel), by decide, by decide⟩
theorem c_Law_7 : Cond.classLink "SwungShipsLaw" 7 "SwungShips" ∈ gtbl := g_mem 64 (by decide +kernel) (by decide +kernel)
theorem n_Sw : Cond.instantiable "SwungShips" 6 ∈ gtbl ∧ Cond.initialized "SwungShips" ∈ gtbl := ⟨g_mem 65 (by decide +kernel) (by decide +kernel), g_mem 52 (by decide +kernel) (by decide +kernel)⟩
theorem l_Law_9 : LkI "SwungShipsLaw" 9 y_Sw_init := ⟨g_mem 66 (by decide +kernel) (by decide +kernel), g_mem 67 (by decide +kernel) (by decide +kernel), rfl⟩
theorem o_Sw_3 : Cond.methodLink "SwungShips" 3 objectInit ∈ gtbl := g_mem 69 (by decide +kernel) (by decide +kernel)
theorem c_Sw_9 : Cond.classLink "SwungShips" 9 "SwungShips$Harbour" ∈ gtbl := g_mem 72 (by decide +kernel) (by decide +kernel)
theorem n_Harb : Cond.instantiable "SwungShips$Harbour" 12 ∈ gtbl ∧ Cond.initialized "SwungShips$Harbour" ∈ gtbl := ⟨g_mem 73 (by decide +kernel) (by decide +kernel), g_mem 53 (by decide +kernel) (by decide +kernel)⟩
theorem l_Sw_11 : LkI "SwungShips" 11 y_Harb_init := ⟨g_mem 74 (by decide +kernel) (by decide +kernel), g_mem 75 (by decide +kernel) (by decide +kernel), rfl⟩
theorem o_Harb_3 : Cond.methodLink "SwungShips$Harbour" 3 objectInit ∈ gtbl := g_mem 77 (by decide +kernel) (by decide +kernel)
theorem l_Harb_37 : LkV "SwungShips$Harbour" 37 y_Harb_layOut := ⟨g_mem 78 (by decide +kernel) (by decide +kernel), g_mem 79 (by decide +kernel) (by decide +kernel), g_mem 80 (by decide +kernel) (by decide +kernel)⟩
theorem f_Harb_41 : FL "SwungShips$Harbour" 41 1 0 := ⟨_, _, _, _, ck_Harb, by decide, g_mem 82 (by decide +kernel) (by decide +kernel)⟩
theorem f_Sw_48 : FL "SwungShips" 48 1 0 := ⟨_, _, _, _, ck_Harb, by decide, g_mem 83 (by decide +kernel) (by decide +kernel)⟩
theorem f_Sear_149 : FL "SwungShips$Search" 149 1 0 := ⟨_, _, _, _, ck_Harb, by decide, g_mem 84 (by decide +kernel) (by decide +kernel)⟩
theorem f_Harb_44 : FL "SwungShips$Harbour" 44 1 1 := ⟨_, _, _, _, ck_Harb, by decide, g_mem 85 (by decide +kernel) (by decide +kernel)⟩
theorem f_Sw_51 : FL "SwungShips" 51 1 1 := ⟨_, _, _, _, ck_Harb, by decide, g_mem 86 (by decide +kernel) (by decide +kernel)⟩
theorem f_Sear_146 : FL "SwungShips$Search" 146 1 1 := ⟨_, _, _, _, ck_Harb, by decide, g_mem 87 (by decide +kernel) (by decide +kernel)⟩
theorem f_Harb_30 : FL "SwungShips$Harbour" 30 1 2 := ⟨_, _, _, _, ck_Harb, by decide, g_mem 88 (by decide +kernel) (by decide +kernel)⟩
theorem f_Sw_54 : FL "SwungShips" 54 1 2 := ⟨_, _, _, _, ck_Harb, by decide, g_mem 89 (by decide +kernel) (by decide +kernel)⟩
theorem f_Harb_34 : FL "SwungShips$Harbour" 34 1 3 := ⟨_, _, _, _, ck_Harb, by decide, g_mem 90 (by decide +kernel) (by decide +kernel)⟩
theorem f_Sw_57 : FL "SwungShips" 57 1 3 := ⟨_, _, _, _, ck_Harb, by decide, g_mem 91 (by decide +kernel) (by decide +kernel)⟩
theorem f_Swing_39 : FL "SwungShips$Swing" 39 1 3 := ⟨_, _, _, _, ck_Harb, by decide, g_mem 92 (by decide +kernel) (by decide +kernel)⟩
theorem f_Sear_122 : FL "SwungShips$Search" 122 1 3 := ⟨_, _, _, _, ck_Harb, by decide, g_mem 93 (by decide +kernel) (by decide +kernel)⟩
theorem f_Harb_47 : FL "SwungShips$Harbour" 47 1 4 := ⟨_, _, _, _, ck_Harb, by decide, g_mem 94 (by decide +kernel) (by decide +kernel)⟩
theorem f_Sw_60 : FL "SwungShips" 60 1 4 := ⟨_, _, _, _, ck_Harb, by decide, g_mem 95 (by decide +kernel) (by decide +kernel)⟩
theorem f_Sear_60 : FL "SwungShips$Search" 60 1 4 := ⟨_, _, _, _, ck_Harb, by decide, g_mem 96 (by decide +kernel) (by decide +kernel)⟩
theorem f_Swing_58 : FL "SwungShips$Swing" 58 1 4 := ⟨_, _, _, _, ck_Harb, by decide, g_mem 97 (by decide +kernel) (by decide +kernel)⟩
theorem f_Harb_50 : FL "SwungShips$Harbour" 50 1 5 := ⟨_, _, _, _, ck_Harb, by decide, g_mem 98 (by decide +kernel) (by decide +kernel)⟩
theorem f_Sw_63 : FL "SwungShips" 63 1 5 := ⟨_, _, _, _, ck_Harb, by decide, g_mem 99 (by decide +kernel) (by decide +kernel)⟩
theorem f_Sear_36 : FL "SwungShips$Search" 36 1 5 := ⟨_, _, _, _, ck_Harb, by decide, g_mem 100 (by decide +kernel) (by decide +kernel)⟩
theorem f_Harb_9 : FL "SwungShips$Harbour" 9 1 6 := ⟨_, _, _, _, ck_Harb, by decide, g_mem 101 (by decide +kernel) (by decide +kernel)⟩
theorem f_Harb_15 : FL "SwungShips$Harbour" 15 1 7 := ⟨_, _, _, _, ck_Harb, by decide, g_mem 102 (by decide +kernel) (by decide +kernel)⟩
theorem f_Sw_128 : FL "SwungShips" 128 1 7 := ⟨_, _, _, _, ck_Harb, by decide, g_mem 103 (by decide +kernel) (by decide +kernel)⟩
theorem f_Swing_84 : FL "SwungShips$Swing" 84 1 7 := ⟨_, _, _, _, ck_Harb, by decide, g_mem 104 (by decide +kernel) (by decide +kernel)⟩
theorem f_Sear_116 : FL "SwungShips$Search" 116 1 7 := ⟨_, _, _, _, ck_Harb, by decide, g_mem 105 (by decide +kernel) (by decide +kernel)⟩
theorem f_Harb_18 : FL "SwungShips$Harbour" 18 1 8 := ⟨_, _, _, _, ck_Harb, by decide, g_mem 106 (by decide +kernel) (by decide +kernel)⟩
theorem f_Swing_15 : FL "SwungShips$Swing" 15 1 8 := ⟨_, _, _, _, ck_Harb, by decide, g_mem 107 (by decide +kernel) (by decide +kernel)⟩
theorem f_Sw_132 : FL "SwungShips" 132 1 8 := ⟨_, _, _, _, ck_Harb, by decide, g_mem 108 (by decide +kernel) (by decide +kernel)⟩
theorem f_Sear_130 : FL "SwungShips$Search" 130 1 8 := ⟨_, _, _, _, ck_Harb, by decide, g_mem 109 (by decide +kernel) (by decide +kernel)⟩
theorem f_Harb_21 : FL "SwungShips$Harbour" 21 1 9 := ⟨_, _, _, _, ck_Harb, by decide, g_mem 110 (by decide +kernel) (by decide +kernel)⟩
theorem f_Sw_135 : FL "SwungShips" 135 1 9 := ⟨_, _, _, _, ck_Harb, by decide, g_mem 111 (by decide +kernel) (by decide +kernel)⟩
theorem f_Swing_36 : FL "SwungShips$Swing" 36 1 9 := ⟨_, _, _, _, ck_Harb, by decide, g_mem 112 (by decide +kernel) (by decide +kernel)⟩
theorem f_Sear_139 : FL "SwungShips$Search" 139 1 9 := ⟨_, _, _, _, ck_Harb, by decide, g_mem 113 (by decide +kernel) (by decide +kernel)⟩
theorem f_Harb_24 : FL "SwungShips$Harbour" 24 1 10 := ⟨_, _, _, _, ck_Harb, by decide, g_mem 114 (by decide +kernel) (by decide +kernel)⟩
theorem f_Swing_9 : FL "SwungShips$Swing" 9 1 10 := ⟨_, _, _, _, ck_Harb, by decide, g_mem 115 (by decide +kernel) (by decide +kernel)⟩
theorem f_Book_28 : FL "SwungShips$Book" 28 1 10 := ⟨_, _, _, _, ck_Harb, by decide, g_mem 116 (by decide +kernel) (by decide +kernel)⟩
theorem f_Sw_138 : FL "SwungShips" 138 1 10 := ⟨_, _, _, _, ck_Harb, by decide, g_mem 117 (by decide +kernel) (by decide +kernel)⟩
theorem f_Sear_87 : FL "SwungShips$Search" 87 1 10 := ⟨_, _, _, _, ck_Harb, by decide, g_mem 118 (by decide +kernel) (by decide +kernel)⟩
theorem f_Harb_27 : FL "SwungShips$Harbour" 27 1 11 := ⟨_, _, _, _, ck_Harb, by decide, g_mem 119 (by decide +kernel) (by decide +kernel)⟩
theorem f_Book_31 : FL "SwungShips$Book" 31 1 11 := ⟨_, _, _, _, ck_Harb, by decide, g_mem 120 (by decide +kernel) (by decide +kernel)⟩
theorem f_Swing_21 : FL "SwungShips$Swing" 21 1 11 := ⟨_, _, _, _, ck_Harb, by decide, g_mem 121 (by decide +kernel) (by decide +kernel)⟩
theorem f_Sw_141 : FL "SwungShips" 141 1 11 := ⟨_, _, _, _, ck_Harb, by decide, g_mem 122 (by decide +kernel) (by decide +kernel)⟩
theorem f_Sear_90 : FL "SwungShips$Search" 90 1 11 := ⟨_, _, _, _, ck_Harb, by decide, g_mem 123 (by decide +kernel) (by decide +kernel)⟩
theorem a_int : Cond.arrayClass .int ∈ gtbl := g_mem 149 (by decide +kernel) (by decide +kernel)
theorem c_Sw_16 : Cond.classLink "SwungShips" 16 "SwungShips$History" ∈ gtbl := g_mem 150 (by decide +kernel) (by decide +kernel)
theorem n_Hist : Cond.instantiable "SwungShips$History" 3 ∈ gtbl ∧ Cond.initialized "SwungShips$History" ∈ gtbl := ⟨g_mem 151 (by decide +kernel) (by decide +kernel), g_mem 54 (by decide +kernel) (by decide +kernel)⟩
theorem l_Sw_18 : LkI "SwungShips" 18 y_Hist_init := ⟨g_mem 152 (by decide +kernel) (by decide +kernel), g_mem 153 (by decide +kernel) (by decide +kernel), rfl⟩
theorem o_Hist_3 : Cond.methodLink "SwungShips$History" 3 objectInit ∈ gtbl := g_mem 155 (by decide +kernel) (by decide +kernel)
theorem c_Hist_9 : Cond.classLink "SwungShips$History" 9 "SwungShips$Harbour" ∈ gtbl := g_mem 156 (by decide +kernel) (by decide +kernel)
theorem l_Hist_17 : LkI "SwungShips$History" 17 y_Harb_init := ⟨g_mem 158 (by decide +kernel) (by decide +kernel), g_mem 75 (by decide +kernel) (by decide +kernel), rfl⟩
theorem f_Hist_11 : FL "SwungShips$History" 11 2 0 := ⟨_, _, _, _, ck_Hist, by decide, g_mem 159 (by decide +kernel) (by decide +kernel)⟩
theorem f_Hist_18 : FL "SwungShips$History" 18 2 1 := ⟨_, _, _, _, ck_Hist, by decide, g_mem 160 (by decide +kernel) (by decide +kernel)⟩
theorem f_Hist_26 : FL "SwungShips$History" 26 2 2 := ⟨_, _, _, _, ck_Hist, by decide, g_mem 161 (by decide +kernel) (by decide +kernel)⟩
theorem f_Sw_99 : FL "SwungShips" 99 2 2 := ⟨_, _, _, _, ck_Hist, by decide, g_mem 162 (by decide +kernel) (by decide +kernel)⟩
theorem c_Sw_23 : Cond.classLink "SwungShips" 23 "SwungShips$Search" ∈ gtbl := g_mem 170 (by decide +kernel) (by decide +kernel)
theorem n_Sear : Cond.instantiable "SwungShips$Search" 7 ∈ gtbl ∧ Cond.initialized "SwungShips$Search" ∈ gtbl := ⟨g_mem 171 (by decide +kernel) (by decide +kernel), g_mem 55 (by decide +kernel) (by decide +kernel)⟩
theorem l_Sw_25 : LkI "SwungShips" 25 y_Sear_init := ⟨g_mem 172 (by decide +kernel) (by decide +kernel), g_mem 173 (by decide +kernel) (by decide +kernel), rfl⟩
theorem o_Sear_3 : Cond.methodLink "SwungShips$Search" 3 objectInit ∈ gtbl := g_mem 175 (by decide +kernel) (by decide +kernel)
theorem f_Sear_11 : FL "SwungShips$Search" 11 4 0 := ⟨_, _, _, _, ck_Sear, by decide, g_mem 176 (by decide +kernel) (by decide +kernel)⟩
theorem f_Sw_224 : FL "SwungShips" 224 4 0 := ⟨_, _, _, _, ck_Sear, by decide, g_mem 177 (by decide +kernel) (by decide +kernel)⟩
theorem f_Sear_15 : FL "SwungShips$Search" 15 4 1 := ⟨_, _, _, _, ck_Sear, by decide, g_mem 178 (by decide +kernel) (by decide +kernel)⟩
theorem f_Sw_175 : FL "SwungShips" 175 4 1 := ⟨_, _, _, _, ck_Sear, by decide, g_mem 179 (by decide +kernel) (by decide +kernel)⟩
theorem f_Sear_50 : FL "SwungShips$Search" 50 4 2 := ⟨_, _, _, _, ck_Sear, by decide, g_mem 180 (by decide +kernel) (by decide +kernel)⟩
theorem f_Sw_221 : FL "SwungShips" 221 4 2 := ⟨_, _, _, _, ck_Sear, by decide, g_mem 181 (by decide +kernel) (by decide +kernel)⟩
theorem f_Sear_53 : FL "SwungShips$Search" 53 4 3 := ⟨_, _, _, _, ck_Sear, by decide, g_mem 182 (by decide +kernel) (by decide +kernel)⟩
theorem f_Sw_182 : FL "SwungShips" 182 4 3 := ⟨_, _, _, _, ck_Sear, by decide, g_mem 183 (by decide +kernel) (by decide +kernel)⟩
theorem f_Sear_18 : FL "SwungShips$Search" 18 4 4 := ⟨_, _, _, _, ck_Sear, by decide, g_mem 184 (by decide +kernel) (by decide +kernel)⟩
theorem f_Sear_22 : FL "SwungShips$Search" 22 4 5 := ⟨_, _, _, _, ck_Sear, by decide, g_mem 185 (by decide +kernel) (by decide +kernel)⟩
theorem f_Sear_25 : FL "SwungShips$Search" 25 4 6 := ⟨_, _, _, _, ck_Sear, by decide, g_mem 186 (by decide +kernel) (by decide +kernel)⟩
theorem a_long : Cond.arrayClass .long ∈ gtbl := g_mem 202 (by decide +kernel) (by decide +kernel)
theorem c_Sw_30 : Cond.classLink "SwungShips" 30 "SwungShips$Book" ∈ gtbl := g_mem 203 (by decide +kernel) (by decide +kernel)
theorem n_Book : Cond.instantiable "SwungShips$Book" 3 ∈ gtbl ∧ Cond.initialized "SwungShips$Book" ∈ gtbl := ⟨g_mem 204 (by decide +kernel) (by decide +kernel), g_mem 56 (by decide +kernel) (by decide +kernel)⟩
theorem l_Sw_32 : LkI "SwungShips" 32 y_Book_init := ⟨g_mem 205 (by decide +kernel) (by decide +kernel), g_mem 206 (by decide +kernel) (by decide +kernel), rfl⟩
theorem o_Book_3 : Cond.methodLink "SwungShips$Book" 3 objectInit ∈ gtbl := g_mem 208 (by decide +kernel) (by decide +kernel)
theorem f_Book_9 : FL "SwungShips$Book" 9 0 0 := ⟨_, _, _, _, ck_Book, by decide, g_mem 209 (by decide +kernel) (by decide +kernel)⟩
theorem f_Book_15 : FL "SwungShips$Book" 15 0 1 := ⟨_, _, _, _, ck_Book, by decide, g_mem 210 (by decide +kernel) (by decide +kernel)⟩
theorem f_Book_18 : FL "SwungShips$Book" 18 0 2 := ⟨_, _, _, _, ck_Book, by decide, g_mem 211 (by decide +kernel) (by decide +kernel)⟩
theorem f_Sw_93 : FL "SwungShips" 93 0 2 := ⟨_, _, _, _, ck_Book, by decide, g_mem 212 (by decide +kernel) (by decide +kernel)⟩
theorem c_Sw_37 : Cond.classLink "SwungShips" 37 "SwungShips$Image" ∈ gtbl := g_mem 220 (by decide +kernel) (by decide +kernel)
theorem n_Imag : Cond.instantiable "SwungShips$Image" 3 ∈ gtbl ∧ Cond.initialized "SwungShips$Image" ∈ gtbl := ⟨g_mem 222 (by decide +kernel) (by decide +kernel), g_mem 57 (by decide +kernel) (by decide +kernel)⟩
theorem l_Sw_43 : LkI "SwungShips" 43 y_Imag_init := ⟨g_mem 223 (by decide +kernel) (by decide +kernel), g_mem 224 (by decide +kernel) (by decide +kernel), rfl⟩
theorem o_Imag_1 : Cond.methodLink "SwungShips$Image" 1 objectInit ∈ gtbl := g_mem 226 (by decide +kernel) (by decide +kernel)
theorem c_Imag_7 : Cond.classLink "SwungShips$Image" 7 "SwungShips$Harbour" ∈ gtbl := g_mem 227 (by decide +kernel) (by decide +kernel)
theorem l_Imag_9 : LkI "SwungShips$Image" 9 y_Harb_init := ⟨g_mem 228 (by decide +kernel) (by decide +kernel), g_mem 75 (by decide +kernel) (by decide +kernel), rfl⟩
theorem f_Imag_10 : FL "SwungShips$Image" 10 3 0 := ⟨_, _, _, _, ck_Imag, by decide, g_mem 229 (by decide +kernel) (by decide +kernel)⟩
theorem f_Sw_258 : FL "SwungShips" 258 3 0 := ⟨_, _, _, _, ck_Imag, by decide, g_mem 230 (by decide +kernel) (by decide +kernel)⟩
theorem f_Imag_20 : FL "SwungShips$Image" 20 3 1 := ⟨_, _, _, _, ck_Imag, by decide, g_mem 231 (by decide +kernel) (by decide +kernel)⟩
theorem f_Sw_264 : FL "SwungShips" 264 3 1 := ⟨_, _, _, _, ck_Imag, by decide, g_mem 232 (by decide +kernel) (by decide +kernel)⟩
theorem f_Imag_24 : FL "SwungShips$Image" 24 3 2 := ⟨_, _, _, _, ck_Imag, by decide, g_mem 233 (by decide +kernel) (by decide +kernel)⟩
theorem f_Sw_254 : FL "SwungShips" 254 3 2 := ⟨_, _, _, _, ck_Imag, by decide, g_mem 234 (by decide +kernel) (by decide +kernel)⟩
theorem f_Sw_12 : FL "SwungShips" 12 5 0 := ⟨_, _, _, _, ck_Sw, by decide, g_mem 242 (by decide +kernel) (by decide +kernel)⟩
theorem f_Sw_19 : FL "SwungShips" 19 5 1 := ⟨_, _, _, _, ck_Sw, by decide, g_mem 243 (by decide +kernel) (by decide +kernel)⟩
theorem f_Sw_26 : FL "SwungShips" 26 5 2 := ⟨_, _, _, _, ck_Sw, by decide, g_mem 244 (by decide +kernel) (by decide +kernel)⟩
theorem f_Sw_33 : FL "SwungShips" 33 5 3 := ⟨_, _, _, _, ck_Sw, by decide, g_mem 245 (by decide +kernel) (by decide +kernel)⟩
theorem f_Sw_39 : FL "SwungShips" 39 5 4 := ⟨_, _, _, _, ck_Sw, by decide, g_mem 246 (by decide +kernel) (by decide +kernel)⟩
theorem f_Sw_44 : FL "SwungShips" 44 5 5 := ⟨_, _, _, _, ck_Sw, by decide, g_mem 247 (by decide +kernel) (by decide +kernel)⟩
theorem l_Law_13 : LkV "SwungShipsLaw" 13 y_Sw_told := ⟨g_mem 261 (by decide +kernel) (by decide +kernel), g_mem 262 (by decide +kernel) (by decide +kernel), g_mem 263 (by decide +kernel) (by decide +kernel)⟩
theorem l_Sw_66 : LkS "SwungShips" 66 y_Swing_inDanger := ⟨g_mem 265 (by decide +kernel) (by decide +kernel), g_mem 266 (by decide +kernel) (by decide +kernel)⟩
theorem l_Swing_103 : LkS "SwungShips$Swing" 103 y_Swing_liesWell := ⟨g_mem 268 (by decide +kernel) (by decide +kernel), g_mem 269 (by decide +kernel) (by decide +kernel)⟩
theorem l_Swing_81 : LkS "SwungShips$Swing" 81 y_Swing_leastWater := ⟨g_mem 271 (by decide +kernel) (by decide +kernel), g_mem 272 (by decide +kernel) (by decide +kernel)⟩
theorem k_Swing_69 : Cond.constant "SwungShips$Swing" 69 (2147483647) ∈ gtbl := g_mem 274 (by decide +kernel) (by decide +kernel)
theorem l_Swing_43 : LkS "SwungShips$Swing" 43 y_Swing_blows := ⟨g_mem 275 (by decide +kernel) (by decide +kernel), g_mem 276 (by decide +kernel) (by decide +kernel)⟩
theorem l_Swing_70 : LkS "SwungShips$Swing" 70 y_Swing_leastWaterBy := ⟨g_mem 278 (by decide +kernel) (by decide +kernel), g_mem 279 (by decide +kernel) (by decide +kernel)⟩
theorem l_Swing_27 : LkS "SwungShips$Swing" 27 y_Swing_firstX := ⟨g_mem 281 (by decide +kernel) (by decide +kernel), g_mem 282 (by decide +kernel) (by decide +kernel)⟩
theorem l_Swing_33 : LkS "SwungShips$Swing" 33 y_Swing_firstY := ⟨g_mem 286 (by decide +kernel) (by decide +kernel), g_mem 287 (by decide +kernel) (by decide +kernel)⟩
theorem l_Swing_78 : LkV "SwungShips$Swing" 78 y_Harb_water := ⟨g_mem 291 (by decide +kernel) (by decide +kernel), g_mem 292 (by decide +kernel) (by decide +kernel), g_mem 293 (by decide +kernel) (by decide +kernel)⟩
theorem l_Harb_66 : LkV "SwungShips$Harbour" 66 y_Harb_hasCell := ⟨g_mem 295 (by decide +kernel) (by decide +kernel), g_mem 296 (by decide +kernel) (by decide +kernel), g_mem 297 (by decide +kernel) (by decide +kernel)⟩
theorem l_Harb_70 : LkV "SwungShips$Harbour" 70 y_Harb_cellAt := ⟨g_mem 299 (by decide +kernel) (by decide +kernel), g_mem 300 (by decide +kernel) (by decide +kernel), g_mem 301 (by decide +kernel) (by decide +kernel)⟩
theorem l_Harb_74 : LkS "SwungShips$Harbour" 74 y_Math_max := ⟨g_mem 303 (by decide +kernel) (by decide +kernel), g_mem 304 (by decide +kernel) (by decide +kernel)⟩
theorem l_Swing_73 : LkS "SwungShips$Swing" 73 y_Math_min := ⟨g_mem 306 (by decide +kernel) (by decide +kernel), g_mem 307 (by decide +kernel) (by decide +kernel)⟩
theorem l_Swing_94 : LkS "SwungShips$Swing" 94 y_Swing_clashesOf := ⟨g_mem 309 (by decide +kernel) (by decide +kernel), g_mem 310 (by decide +kernel) (by decide +kernel)⟩
theorem l_Swing_91 : LkS "SwungShips$Swing" 91 y_Swing_clash := ⟨g_mem 312 (by decide +kernel) (by decide +kernel), g_mem 313 (by decide +kernel) (by decide +kernel)⟩
theorem l_Swing_87 : LkS "SwungShips$Swing" 87 y_Swing_clashBy := ⟨g_mem 315 (by decide +kernel) (by decide +kernel), g_mem 316 (by decide +kernel) (by decide +kernel)⟩
theorem l_Sw_72 : LkS "SwungShips" 72 y_Swing_pairsThatClash := ⟨g_mem 318 (by decide +kernel) (by decide +kernel), g_mem 319 (by decide +kernel) (by decide +kernel)⟩
theorem l_Swing_97 : LkS "SwungShips$Swing" 97 y_Integer_bitCount := ⟨g_mem 321 (by decide +kernel) (by decide +kernel), g_mem 322 (by decide +kernel) (by decide +kernel)⟩
theorem k_Integer_265 : Cond.constant "java/lang/Integer" 265 (1431655765) ∈ gtbl := g_mem 324 (by decide +kernel) (by decide +kernel)
theorem k_Integer_266 : Cond.constant "java/lang/Integer" 266 (858993459) ∈ gtbl := g_mem 325 (by decide +kernel) (by decide +kernel)
theorem k_Integer_267 : Cond.constant "java/lang/Integer" 267 (252645135) ∈ gtbl := g_mem 326 (by decide +kernel) (by decide +kernel)
theorem l_Sw_76 : LkV "SwungShips" 76 y_Sear_settlesAll := ⟨g_mem 327 (by decide +kernel) (by decide +kernel), g_mem 328 (by decide +kernel) (by decide +kernel), g_mem 329 (by decide +kernel) (by decide +kernel)⟩
theorem l_Sear_28 : LkV "SwungShips$Search" 28 y_Sear_look := ⟨g_mem 331 (by decide +kernel) (by decide +kernel), g_mem 333 (by decide +kernel) (by decide +kernel), g_mem 0 (by decide +kernel) (by decide +kernel)⟩
theorem l_Sear_107 : LkS "SwungShips$Search" 107 y_Sear_goodSpots := ⟨g_mem 335 (by decide +kernel) (by decide +kernel), g_mem 336 (by decide +kernel) (by decide +kernel)⟩
theorem l_Sear_119 : LkS "SwungShips$Search" 119 y_Sear_deepSpots := ⟨g_mem 338 (by decide +kernel) (by decide +kernel), g_mem 339 (by decide +kernel) (by decide +kernel)⟩
theorem l_Sear_152 : LkV "SwungShips$Search" 152 y_Harb_water := ⟨g_mem 341 (by decide +kernel) (by decide +kernel), g_mem 292 (by decide +kernel) (by decide +kernel), g_mem 293 (by decide +kernel) (by decide +kernel)⟩
theorem l_Sear_125 : LkS "SwungShips$Search" 125 y_Swing_blows := ⟨g_mem 345 (by decide +kernel) (by decide +kernel), g_mem 276 (by decide +kernel) (by decide +kernel)⟩
theorem l_Sear_142 : LkS "SwungShips$Search" 142 y_Sear_squareIn := ⟨g_mem 348 (by decide +kernel) (by decide +kernel), g_mem 349 (by decide +kernel) (by decide +kernel)⟩
theorem k_Sear_85 : Cond.constantLong "SwungShips$Search" 85 (-1) ∈ gtbl := g_mem 351 (by decide +kernel) (by decide +kernel)
theorem l_Sear_103 : LkS "SwungShips$Search" 103 y_Sear_seenFrom := ⟨g_mem 352 (by decide +kernel) (by decide +kernel), g_mem 353 (by decide +kernel) (by decide +kernel)⟩
theorem k_Sear_158 : Cond.constantLong "SwungShips$Search" 158 (255) ∈ gtbl := g_mem 355 (by decide +kernel) (by decide +kernel)
theorem k_Sear_160 : Cond.constantLong "SwungShips$Search" 160 (72340172838076673) ∈ gtbl := g_mem 356 (by decide +kernel) (by decide +kernel)
theorem l_Sear_110 : LkV "SwungShips$Search" 110 y_Harb_hasSlot := ⟨g_mem 357 (by decide +kernel) (by decide +kernel), g_mem 358 (by decide +kernel) (by decide +kernel), g_mem 359 (by decide +kernel) (by decide +kernel)⟩
theorem l_Harb_59 : LkV "SwungShips$Harbour" 59 y_Harb_hasAnchored := ⟨g_mem 361 (by decide +kernel) (by decide +kernel), g_mem 362 (by decide +kernel) (by decide +kernel), g_mem 363 (by decide +kernel) (by decide +kernel)⟩
theorem l_Harb_63 : LkV "SwungShips$Harbour" 63 y_Harb_hasWaiting := ⟨g_mem 365 (by decide +kernel) (by decide +kernel), g_mem 366 (by decide +kernel) (by decide +kernel), g_mem 367 (by decide +kernel) (by decide +kernel)⟩
theorem l_Sear_113 : LkS "SwungShips$Search" 113 y_Sear_badSpots := ⟨g_mem 369 (by decide +kernel) (by decide +kernel), g_mem 370 (by decide +kernel) (by decide +kernel)⟩
theorem l_Sear_155 : LkS "SwungShips$Search" 155 y_Sear_square := ⟨g_mem 372 (by decide +kernel) (by decide +kernel), g_mem 373 (by decide +kernel) (by decide +kernel)⟩
theorem l_Sear_56 : LkV "SwungShips$Search" 56 y_Sear_settlesRow := ⟨g_mem 375 (by decide +kernel) (by decide +kernel), g_mem 377 (by decide +kernel) (by decide +kernel), g_mem 1 (by decide +kernel) (by decide +kernel)⟩
theorem l_Sear_32 : LkV "SwungShips$Search" 32 y_Sear_leftFor := ⟨g_mem 379 (by decide +kernel) (by decide +kernel), g_mem 381 (by decide +kernel) (by decide +kernel), g_mem 2 (by decide +kernel) (by decide +kernel)⟩
theorem l_Sear_81 : LkV "SwungShips$Search" 81 y_Sear_around := ⟨g_mem 383 (by decide +kernel) (by decide +kernel), g_mem 385 (by decide +kernel) (by decide +kernel), g_mem 3 (by decide +kernel) (by decide +kernel)⟩
theorem l_Sear_73 : LkV "SwungShips$Search" 73 y_Sear_settles := ⟨g_mem 393 (by decide +kernel) (by decide +kernel), g_mem 395 (by decide +kernel) (by decide +kernel), g_mem 4 (by decide +kernel) (by decide +kernel)⟩
theorem l_Sear_77 : LkV "SwungShips$Search" 77 y_Sear_settlesAt := ⟨g_mem 400 (by decide +kernel) (by decide +kernel), g_mem 402 (by decide +kernel) (by decide +kernel), g_mem 5 (by decide +kernel) (by decide +kernel)⟩
theorem l_Sw_80 : LkS "SwungShips" 80 y_Swing_threats := ⟨g_mem 404 (by decide +kernel) (by decide +kernel), g_mem 405 (by decide +kernel) (by decide +kernel)⟩
theorem l_Swing_107 : LkS "SwungShips$Swing" 107 y_Swing_inDanger := ⟨g_mem 407 (by decide +kernel) (by decide +kernel), g_mem 266 (by decide +kernel) (by decide +kernel)⟩
theorem l_Sw_83 : LkS "SwungShips" 83 y_Swing_sweptByAll := ⟨g_mem 408 (by decide +kernel) (by decide +kernel), g_mem 409 (by decide +kernel) (by decide +kernel)⟩
theorem l_Swing_61 : LkS "SwungShips$Swing" 61 y_Swing_sweptBy := ⟨g_mem 411 (by decide +kernel) (by decide +kernel), g_mem 412 (by decide +kernel) (by decide +kernel)⟩
theorem l_Swing_47 : LkS "SwungShips$Swing" 47 y_Swing_lainOn := ⟨g_mem 414 (by decide +kernel) (by decide +kernel), g_mem 415 (by decide +kernel) (by decide +kernel)⟩
theorem l_Swing_51 : LkV "SwungShips$Swing" 51 y_Harb_hasCell := ⟨g_mem 417 (by decide +kernel) (by decide +kernel), g_mem 296 (by decide +kernel) (by decide +kernel), g_mem 297 (by decide +kernel) (by decide +kernel)⟩
theorem l_Sw_87 : LkS "SwungShips" 87 y_Long_bitCount := ⟨g_mem 419 (by decide +kernel) (by decide +kernel), g_mem 420 (by decide +kernel) (by decide +kernel)⟩
theorem k_Long_314 : Cond.constantLong "java/lang/Long" 314 (6148914691236517205) ∈ gtbl := g_mem 422 (by decide +kernel) (by decide +kernel)
theorem k_Long_316 : Cond.constantLong "java/lang/Long" 316 (3689348814741910323) ∈ gtbl := g_mem 423 (by decide +kernel) (by decide +kernel)
theorem k_Long_318 : Cond.constantLong "java/lang/Long" 318 (1085102592571150095) ∈ gtbl := g_mem 424 (by decide +kernel) (by decide +kernel)
theorem l_Sw_96 : LkV "SwungShips" 96 y_Book_firstWrong := ⟨g_mem 425 (by decide +kernel) (by decide +kernel), g_mem 426 (by decide +kernel) (by decide +kernel), g_mem 427 (by decide +kernel) (by decide +kernel)⟩
theorem l_Book_22 : LkV "SwungShips$Book" 22 y_Harb_hasAnchored := ⟨g_mem 429 (by decide +kernel) (by decide +kernel), g_mem 362 (by decide +kernel) (by decide +kernel), g_mem 363 (by decide +kernel) (by decide +kernel)⟩
theorem l_Book_34 : LkV "SwungShips$Book" 34 y_Harb_cellAt := ⟨g_mem 430 (by decide +kernel) (by decide +kernel), g_mem 300 (by decide +kernel) (by decide +kernel), g_mem 301 (by decide +kernel) (by decide +kernel)⟩
theorem k_Sw_102 : Cond.constant "SwungShips" 102 (-1000000002) ∈ gtbl := g_mem 431 (by decide +kernel) (by decide +kernel)
theorem l_Law_18 : LkV "SwungShipsLaw" 18 y_Sw_cell := ⟨g_mem 432 (by decide +kernel) (by decide +kernel), g_mem 433 (by decide +kernel) (by decide +kernel), g_mem 434 (by decide +kernel) (by decide +kernel)⟩
theorem l_Sw_103 : LkV "SwungShips" 103 y_Harb_hasCell := ⟨g_mem 436 (by decide +kernel) (by decide +kernel), g_mem 296 (by decide +kernel) (by decide +kernel), g_mem 297 (by decide +kernel) (by decide +kernel)⟩
theorem k_Sw_107 : Cond.constant "SwungShips" 107 (-1000000001) ∈ gtbl := g_mem 437 (by decide +kernel) (by decide +kernel)
theorem l_Sw_108 : LkV "SwungShips" 108 y_Harb_depthAt := ⟨g_mem 438 (by decide +kernel) (by decide +kernel), g_mem 439 (by decide +kernel) (by decide +kernel), g_mem 440 (by decide +kernel) (by decide +kernel)⟩
theorem l_Sw_112 : LkV "SwungShips" 112 y_Harb_water := ⟨g_mem 442 (by decide +kernel) (by decide +kernel), g_mem 292 (by decide +kernel) (by decide +kernel), g_mem 293 (by decide +kernel) (by decide +kernel)⟩
theorem l_Sw_115 : LkS "SwungShips" 115 y_Sw_spotAt := ⟨g_mem 443 (by decide +kernel) (by decide +kernel), g_mem 343 (by decide +kernel) (by decide +kernel)⟩
theorem l_Sw_118 : LkS "SwungShips" 118 y_Swing_sweepersOf := ⟨g_mem 444 (by decide +kernel) (by decide +kernel), g_mem 445 (by decide +kernel) (by decide +kernel)⟩
theorem l_Sw_121 : LkV "SwungShips" 121 y_Sear_waitersFor := ⟨g_mem 448 (by decide +kernel) (by decide +kernel), g_mem 449 (by decide +kernel) (by decide +kernel), g_mem 450 (by decide +kernel) (by decide +kernel)⟩
theorem l_Sear_42 : LkV "SwungShips$Search" 42 y_Sear_placesFor := ⟨g_mem 452 (by decide +kernel) (by decide +kernel), g_mem 453 (by decide +kernel) (by decide +kernel), g_mem 454 (by decide +kernel) (by decide +kernel)⟩
theorem l_Law_23 : LkV "SwungShipsLaw" 23 y_Sw_ship := ⟨g_mem 456 (by decide +kernel) (by decide +kernel), g_mem 457 (by decide +kernel) (by decide +kernel), g_mem 458 (by decide +kernel) (by decide +kernel)⟩
theorem l_Sw_124 : LkV "SwungShips" 124 y_Harb_hasAnchored := ⟨g_mem 460 (by decide +kernel) (by decide +kernel), g_mem 362 (by decide +kernel) (by decide +kernel), g_mem 363 (by decide +kernel) (by decide +kernel)⟩
theorem l_Sw_144 : LkV "SwungShips" 144 y_Harb_cellAt := ⟨g_mem 461 (by decide +kernel) (by decide +kernel), g_mem 300 (by decide +kernel) (by decide +kernel), g_mem 301 (by decide +kernel) (by decide +kernel)⟩
theorem l_Sw_147 : LkS "SwungShips" 147 y_Swing_sweptBy := ⟨g_mem 462 (by decide +kernel) (by decide +kernel), g_mem 412 (by decide +kernel) (by decide +kernel)⟩
theorem l_Sw_151 : LkS "SwungShips" 151 y_Swing_clashesOf := ⟨g_mem 463 (by decide +kernel) (by decide +kernel), g_mem 310 (by decide +kernel) (by decide +kernel)⟩
theorem l_Sw_155 : LkS "SwungShips" 155 y_Swing_liesWell := ⟨g_mem 464 (by decide +kernel) (by decide +kernel), g_mem 269 (by decide +kernel) (by decide +kernel)⟩
theorem l_Sw_159 : LkS "SwungShips" 159 y_Swing_leastWater := ⟨g_mem 465 (by decide +kernel) (by decide +kernel), g_mem 272 (by decide +kernel) (by decide +kernel)⟩
theorem l_Law_28 : LkV "SwungShipsLaw" 28 y_Sw_waits := ⟨g_mem 466 (by decide +kernel) (by decide +kernel), g_mem 467 (by decide +kernel) (by decide +kernel), g_mem 468 (by decide +kernel) (by decide +kernel)⟩
theorem l_Sw_162 : LkV "SwungShips" 162 y_Harb_hasWaiting := ⟨g_mem 470 (by decide +kernel) (by decide +kernel), g_mem 366 (by decide +kernel) (by decide +kernel), g_mem 367 (by decide +kernel) (by decide +kernel)⟩
theorem l_Sw_165 : LkV "SwungShips" 165 y_Sear_placesFor := ⟨g_mem 471 (by decide +kernel) (by decide +kernel), g_mem 453 (by decide +kernel) (by decide +kernel), g_mem 454 (by decide +kernel) (by decide +kernel)⟩
theorem l_Sw_168 : LkS "SwungShips" 168 y_Sw_firstOf := ⟨g_mem 472 (by decide +kernel) (by decide +kernel), g_mem 473 (by decide +kernel) (by decide +kernel)⟩
theorem l_Sw_213 : LkS "SwungShips" 213 y_Sw_holds := ⟨g_mem 475 (by decide +kernel) (by decide +kernel), g_mem 398 (by decide +kernel) (by decide +kernel)⟩
theorem l_Sw_171 : LkV "SwungShips" 171 y_Sw_cellOfSpot := ⟨g_mem 476 (by decide +kernel) (by decide +kernel), g_mem 478 (by decide +kernel) (by decide +kernel), g_mem 6 (by decide +kernel) (by decide +kernel)⟩
theorem l_Sw_267 : LkS "SwungShips" 267 y_Sw_columnOf := ⟨g_mem 480 (by decide +kernel) (by decide +kernel), g_mem 388 (by decide +kernel) (by decide +kernel)⟩
theorem l_Sw_270 : LkS "SwungShips" 270 y_Sw_lineOf := ⟨g_mem 481 (by decide +kernel) (by decide +kernel), g_mem 391 (by decide +kernel) (by decide +kernel)⟩
theorem l_Sw_178 : LkV "SwungShips" 178 y_Sear_settlesByMoves := ⟨g_mem 482 (by decide +kernel) (by decide +kernel), g_mem 483 (by decide +kernel) (by decide +kernel), g_mem 484 (by decide +kernel) (by decide +kernel)⟩
theorem l_Sear_63 : LkS "SwungShips$Search" 63 y_Integer_bitCount := ⟨g_mem 486 (by decide +kernel) (by decide +kernel), g_mem 322 (by decide +kernel) (by decide +kernel)⟩
theorem l_Sear_69 : LkV "SwungShips$Search" 69 y_Sear_settlesMoving := ⟨g_mem 487 (by decide +kernel) (by decide +kernel), g_mem 489 (by decide +kernel) (by decide +kernel), g_mem 7 (by decide +kernel) (by decide +kernel)⟩
theorem l_Sw_185 : LkS "SwungShips" 185 y_Integer_bitCount := ⟨g_mem 491 (by decide +kernel) (by decide +kernel), g_mem 322 (by decide +kernel) (by decide +kernel)⟩
theorem l_Law_32 : LkV "SwungShipsLaw" 32 y_Sw_moves := ⟨g_mem 492 (by decide +kernel) (by decide +kernel), g_mem 493 (by decide +kernel) (by decide +kernel), g_mem 494 (by decide +kernel) (by decide +kernel)⟩
theorem l_Law_36 : LkV "SwungShipsLaw" 36 y_Sw_lies := ⟨g_mem 496 (by decide +kernel) (by decide +kernel), g_mem 497 (by decide +kernel) (by decide +kernel), g_mem 498 (by decide +kernel) (by decide +kernel)⟩
theorem l_Sw_189 : LkS "SwungShips" 189 y_Swing_liesOn := ⟨g_mem 500 (by decide +kernel) (by decide +kernel), g_mem 501 (by decide +kernel) (by decide +kernel)⟩
theorem l_Law_41 : LkV "SwungShipsLaw" 41 y_Sw_harbour := ⟨g_mem 503 (by decide +kernel) (by decide +kernel), g_mem 504 (by decide +kernel) (by decide +kernel), g_mem 505 (by decide +kernel) (by decide +kernel)⟩
theorem l_Sw_193 : LkS "SwungShips" 193 y_Sw_isOut := ⟨g_mem 507 (by decide +kernel) (by decide +kernel), g_mem 508 (by decide +kernel) (by decide +kernel)⟩
theorem l_Sw_197 : LkV "SwungShips" 197 y_Hist_remember := ⟨g_mem 510 (by decide +kernel) (by decide +kernel), g_mem 511 (by decide +kernel) (by decide +kernel), g_mem 512 (by decide +kernel) (by decide +kernel)⟩
theorem l_Hist_22 : LkV "SwungShips$History" 22 y_Harb_copyFrom := ⟨g_mem 514 (by decide +kernel) (by decide +kernel), g_mem 515 (by decide +kernel) (by decide +kernel), g_mem 516 (by decide +kernel) (by decide +kernel)⟩
theorem ac_Harb_53 : Cond.methodLink "SwungShips$Harbour" 53 arraycopyName ∈ gtbl := g_mem 518 (by decide +kernel) (by decide +kernel)
theorem l_Hist_29 : LkS "SwungShips$History" 29 y_Math_min := ⟨g_mem 521 (by decide +kernel) (by decide +kernel), g_mem 307 (by decide +kernel) (by decide +kernel)⟩
theorem l_Sw_201 : LkV "SwungShips" 201 y_Harb_layOut := ⟨g_mem 522 (by decide +kernel) (by decide +kernel), g_mem 79 (by decide +kernel) (by decide +kernel), g_mem 80 (by decide +kernel) (by decide +kernel)⟩
theorem l_Law_45 : LkV "SwungShipsLaw" 45 y_Sw_depth := ⟨g_mem 523 (by decide +kernel) (by decide +kernel), g_mem 524 (by decide +kernel) (by decide +kernel), g_mem 525 (by decide +kernel) (by decide +kernel)⟩
theorem l_Sw_205 : LkV "SwungShips" 205 y_Harb_changeDepth := ⟨g_mem 527 (by decide +kernel) (by decide +kernel), g_mem 528 (by decide +kernel) (by decide +kernel), g_mem 529 (by decide +kernel) (by decide +kernel)⟩
theorem l_Law_49 : LkV "SwungShipsLaw" 49 y_Sw_tide := ⟨g_mem 531 (by decide +kernel) (by decide +kernel), g_mem 532 (by decide +kernel) (by decide +kernel), g_mem 533 (by decide +kernel) (by decide +kernel)⟩
theorem l_Law_53 : LkV "SwungShipsLaw" 53 y_Sw_winds := ⟨g_mem 535 (by decide +kernel) (by decide +kernel), g_mem 536 (by decide +kernel) (by decide +kernel), g_mem 537 (by decide +kernel) (by decide +kernel)⟩
theorem l_Law_57 : LkV "SwungShipsLaw" 57 y_Sw_arrive := ⟨g_mem 539 (by decide +kernel) (by decide +kernel), g_mem 540 (by decide +kernel) (by decide +kernel), g_mem 541 (by decide +kernel) (by decide +kernel)⟩
theorem k_Sw_208 : Cond.constant "SwungShips" 208 (-1000000004) ∈ gtbl := g_mem 543 (by decide +kernel) (by decide +kernel)
theorem l_Sw_209 : LkV "SwungShips" 209 y_Harb_letWait := ⟨g_mem 544 (by decide +kernel) (by decide +kernel), g_mem 545 (by decide +kernel) (by decide +kernel), g_mem 546 (by decide +kernel) (by decide +kernel)⟩
theorem l_Law_61 : LkV "SwungShipsLaw" 61 y_Sw_anchor := ⟨g_mem 548 (by decide +kernel) (by decide +kernel), g_mem 549 (by decide +kernel) (by decide +kernel), g_mem 550 (by decide +kernel) (by decide +kernel)⟩
theorem k_Sw_217 : Cond.constant "SwungShips" 217 (-1000000003) ∈ gtbl := g_mem 552 (by decide +kernel) (by decide +kernel)
theorem l_Sw_218 : LkV "SwungShips" 218 y_Harb_bringToAnchor := ⟨g_mem 553 (by decide +kernel) (by decide +kernel), g_mem 554 (by decide +kernel) (by decide +kernel), g_mem 555 (by decide +kernel) (by decide +kernel)⟩
theorem l_Harb_86 : LkV "SwungShips$Harbour" 86 y_Harb_copySlot := ⟨g_mem 557 (by decide +kernel) (by decide +kernel), g_mem 559 (by decide +kernel) (by decide +kernel), g_mem 8 (by decide +kernel) (by decide +kernel)⟩
theorem l_Harb_89 : LkV "SwungShips$Harbour" 89 y_Harb_putAt := ⟨g_mem 561 (by decide +kernel) (by decide +kernel), g_mem 562 (by decide +kernel) (by decide +kernel), g_mem 563 (by decide +kernel) (by decide +kernel)⟩
theorem l_Harb_92 : LkV "SwungShips$Harbour" 92 y_Harb_dropWaiting := ⟨g_mem 567 (by decide +kernel) (by decide +kernel), g_mem 568 (by decide +kernel) (by decide +kernel), g_mem 569 (by decide +kernel) (by decide +kernel)⟩
theorem l_Law_65 : LkV "SwungShipsLaw" 65 y_Sw_fit := ⟨g_mem 571 (by decide +kernel) (by decide +kernel), g_mem 572 (by decide +kernel) (by decide +kernel), g_mem 573 (by decide +kernel) (by decide +kernel)⟩
theorem l_Law_69 : LkV "SwungShipsLaw" 69 y_Sw_fitAll := ⟨g_mem 575 (by decide +kernel) (by decide +kernel), g_mem 576 (by decide +kernel) (by decide +kernel), g_mem 577 (by decide +kernel) (by decide +kernel)⟩
theorem l_Law_74 : LkV "SwungShipsLaw" 74 y_Sw_shift := ⟨g_mem 579 (by decide +kernel) (by decide +kernel), g_mem 580 (by decide +kernel) (by decide +kernel), g_mem 581 (by decide +kernel) (by decide +kernel)⟩
theorem l_Sw_227 : LkV "SwungShips" 227 y_Harb_putAt := ⟨g_mem 583 (by decide +kernel) (by decide +kernel), g_mem 562 (by decide +kernel) (by decide +kernel), g_mem 563 (by decide +kernel) (by decide +kernel)⟩
theorem l_Law_78 : LkV "SwungShipsLaw" 78 y_Sw_leave := ⟨g_mem 584 (by decide +kernel) (by decide +kernel), g_mem 585 (by decide +kernel) (by decide +kernel), g_mem 586 (by decide +kernel) (by decide +kernel)⟩
theorem l_Sw_230 : LkV "SwungShips" 230 y_Harb_dropAnchored := ⟨g_mem 588 (by decide +kernel) (by decide +kernel), g_mem 589 (by decide +kernel) (by decide +kernel), g_mem 590 (by decide +kernel) (by decide +kernel)⟩
theorem l_Law_82 : LkV "SwungShipsLaw" 82 y_Sw_turnAway := ⟨g_mem 592 (by decide +kernel) (by decide +kernel), g_mem 593 (by decide +kernel) (by decide +kernel), g_mem 594 (by decide +kernel) (by decide +kernel)⟩
theorem l_Sw_234 : LkV "SwungShips" 234 y_Harb_dropWaiting := ⟨g_mem 596 (by decide +kernel) (by decide +kernel), g_mem 568 (by decide +kernel) (by decide +kernel), g_mem 569 (by decide +kernel) (by decide +kernel)⟩
theorem l_Law_86 : LkV "SwungShipsLaw" 86 y_Sw_drift := ⟨g_mem 597 (by decide +kernel) (by decide +kernel), g_mem 598 (by decide +kernel) (by decide +kernel), g_mem 599 (by decide +kernel) (by decide +kernel)⟩
theorem l_Sw_237 : LkV "SwungShips" 237 y_Sw_draw := ⟨g_mem 601 (by decide +kernel) (by decide +kernel), g_mem 603 (by decide +kernel) (by decide +kernel), g_mem 9 (by decide +kernel) (by decide +kernel)⟩
theorem k_Sw_273 : Cond.constant "SwungShips" 273 (1103515245) ∈ gtbl := g_mem 605 (by decide +kernel) (by decide +kernel)
theorem k_Sw_274 : Cond.constant "SwungShips" 274 (2147483647) ∈ gtbl := g_mem 606 (by decide +kernel) (by decide +kernel)
theorem k_Sw_275 : Cond.constant "SwungShips" 275 (65536) ∈ gtbl := g_mem 607 (by decide +kernel) (by decide +kernel)
theorem l_Law_90 : LkV "SwungShipsLaw" 90 y_Sw_undo := ⟨g_mem 608 (by decide +kernel) (by decide +kernel), g_mem 609 (by decide +kernel) (by decide +kernel), g_mem 610 (by decide +kernel) (by decide +kernel)⟩
theorem l_Sw_240 : LkV "SwungShips" 240 y_Hist_bringBack := ⟨g_mem 612 (by decide +kernel) (by decide +kernel), g_mem 613 (by decide +kernel) (by decide +kernel), g_mem 614 (by decide +kernel) (by decide +kernel)⟩
theorem l_Hist_35 : LkS "SwungShips$History" 35 y_Math_floorMod := ⟨g_mem 616 (by decide +kernel) (by decide +kernel), g_mem 617 (by decide +kernel) (by decide +kernel)⟩
theorem l_Law_94 : LkV "SwungShipsLaw" 94 y_Sw_write := ⟨g_mem 619 (by decide +kernel) (by decide +kernel), g_mem 620 (by decide +kernel) (by decide +kernel), g_mem 621 (by decide +kernel) (by decide +kernel)⟩
theorem l_Sw_244 : LkV "SwungShips" 244 y_Book_add := ⟨g_mem 623 (by decide +kernel) (by decide +kernel), g_mem 624 (by decide +kernel) (by decide +kernel), g_mem 625 (by decide +kernel) (by decide +kernel)⟩
theorem l_Law_98 : LkV "SwungShipsLaw" 98 y_Sw_tear := ⟨g_mem 627 (by decide +kernel) (by decide +kernel), g_mem 628 (by decide +kernel) (by decide +kernel), g_mem 629 (by decide +kernel) (by decide +kernel)⟩
theorem l_Law_102 : LkV "SwungShipsLaw" 102 y_Sw_seed := ⟨g_mem 631 (by decide +kernel) (by decide +kernel), g_mem 632 (by decide +kernel) (by decide +kernel), g_mem 633 (by decide +kernel) (by decide +kernel)⟩
theorem l_Law_106 : LkV "SwungShipsLaw" 106 y_Sw_keep := ⟨g_mem 635 (by decide +kernel) (by decide +kernel), g_mem 636 (by decide +kernel) (by decide +kernel), g_mem 637 (by decide +kernel) (by decide +kernel)⟩
theorem l_Sw_247 : LkV "SwungShips" 247 y_Imag_take := ⟨g_mem 639 (by decide +kernel) (by decide +kernel), g_mem 640 (by decide +kernel) (by decide +kernel), g_mem 641 (by decide +kernel) (by decide +kernel)⟩
theorem l_Imag_16 : LkV "SwungShips$Image" 16 y_Harb_copyFrom := ⟨g_mem 643 (by decide +kernel) (by decide +kernel), g_mem 515 (by decide +kernel) (by decide +kernel), g_mem 516 (by decide +kernel) (by decide +kernel)⟩
theorem l_Sw_251 : LkV "SwungShips" 251 y_Hist_forget := ⟨g_mem 644 (by decide +kernel) (by decide +kernel), g_mem 645 (by decide +kernel) (by decide +kernel), g_mem 646 (by decide +kernel) (by decide +kernel)⟩
theorem l_Law_110 : LkV "SwungShipsLaw" 110 y_Sw_goBack := ⟨g_mem 648 (by decide +kernel) (by decide +kernel), g_mem 649 (by decide +kernel) (by decide +kernel), g_mem 650 (by decide +kernel) (by decide +kernel)⟩
theorem l_Sw_261 : LkV "SwungShips" 261 y_Harb_copyFrom := ⟨g_mem 652 (by decide +kernel) (by decide +kernel), g_mem 515 (by decide +kernel) (by decide +kernel), g_mem 516 (by decide +kernel) (by decide +kernel)⟩
theorem c_Law_10 : Cond.classLink "SwungShipsLaw" 10 "SwungShipsModel" ∈ gtbl := g_mem 653 (by decide +kernel) (by decide +kernel)
theorem n_Mod : Cond.instantiable "SwungShipsModel" 12 ∈ gtbl ∧ Cond.initialized "SwungShipsModel" ∈ gtbl := ⟨g_mem 654 (by decide +kernel) (by decide +kernel), g_mem 58 (by decide +kernel) (by decide +kernel)⟩
theorem l_Law_12 : LkI "SwungShipsLaw" 12 y_Mod_init := ⟨g_mem 655 (by decide +kernel) (by decide +kernel), g_mem 656 (by decide +kernel) (by decide +kernel), rfl⟩
theorem o_Mod_1 : Cond.methodLink "SwungShipsModel" 1 objectInit ∈ gtbl := g_mem 658 (by decide +kernel) (by decide +kernel)
theorem l_Mod_32 : LkV "SwungShipsModel" 32 y_Mod_begin := ⟨g_mem 659 (by decide +kernel) (by decide +kernel), g_mem 661 (by decide +kernel) (by decide +kernel), g_mem 10 (by decide +kernel) (by decide +kernel)⟩
theorem f_Mod_7 : FL "SwungShipsModel" 7 6 0 := ⟨_, _, _, _, ck_Mod, by decide, g_mem 663 (by decide +kernel) (by decide +kernel)⟩
theorem f_Mod_153 : FL "SwungShipsModel" 153 6 1 := ⟨_, _, _, _, ck_Mod, by decide, g_mem 664 (by decide +kernel) (by decide +kernel)⟩
theorem f_Mod_216 : FL "SwungShipsModel" 216 6 2 := ⟨_, _, _, _, ck_Mod, by decide, g_mem 665 (by decide +kernel) (by decide +kernel)⟩
theorem f_Mod_156 : FL "SwungShipsModel" 156 6 3 := ⟨_, _, _, _, ck_Mod, by decide, g_mem 666 (by decide +kernel) (by decide +kernel)⟩
theorem f_Mod_13 : FL "SwungShipsModel" 13 6 4 := ⟨_, _, _, _, ck_Mod, by decide, g_mem 667 (by decide +kernel) (by decide +kernel)⟩
theorem f_Mod_16 : FL "SwungShipsModel" 16 6 5 := ⟨_, _, _, _, ck_Mod, by decide, g_mem 668 (by decide +kernel) (by decide +kernel)⟩
theorem f_Mod_19 : FL "SwungShipsModel" 19 6 6 := ⟨_, _, _, _, ck_Mod, by decide, g_mem 669 (by decide +kernel) (by decide +kernel)⟩
theorem f_Mod_131 : FL "SwungShipsModel" 131 6 7 := ⟨_, _, _, _, ck_Mod, by decide, g_mem 670 (by decide +kernel) (by decide +kernel)⟩
theorem f_Mod_22 : FL "SwungShipsModel" 22 6 8 := ⟨_, _, _, _, ck_Mod, by decide, g_mem 671 (by decide +kernel) (by decide +kernel)⟩
theorem f_Mod_25 : FL "SwungShipsModel" 25 6 9 := ⟨_, _, _, _, ck_Mod, by decide, g_mem 672 (by decide +kernel) (by decide +kernel)⟩
theorem f_Mod_28 : FL "SwungShipsModel" 28 6 10 := ⟨_, _, _, _, ck_Mod, by decide, g_mem 673 (by decide +kernel) (by decide +kernel)⟩
theorem f_Mod_121 : FL "SwungShipsModel" 121 6 11 := ⟨_, _, _, _, ck_Mod, by decide, g_mem 674 (by decide +kernel) (by decide +kernel)⟩
theorem a_boolean : Cond.arrayClass .boolean ∈ gtbl := g_mem 700 (by decide +kernel) (by decide +kernel)
theorem l_Law_17 : LkV "SwungShipsLaw" 17 y_Mod_told := ⟨g_mem 701 (by decide +kernel) (by decide +kernel), g_mem 702 (by decide +kernel) (by decide +kernel), g_mem 703 (by decide +kernel) (by decide +kernel)⟩
theorem l_Mod_93 : LkV "SwungShipsModel" 93 y_Mod_danger := ⟨g_mem 705 (by decide +kernel) (by decide +kernel), g_mem 707 (by decide +kernel) (by decide +kernel), g_mem 11 (by decide +kernel) (by decide +kernel)⟩
theorem l_Mod_86 : LkV "SwungShipsModel" 86 y_Mod_liesWell := ⟨g_mem 709 (by decide +kernel) (by decide +kernel), g_mem 711 (by decide +kernel) (by decide +kernel), g_mem 12 (by decide +kernel) (by decide +kernel)⟩
theorem l_Mod_77 : LkS "SwungShipsModel" 77 y_Mod_shipAt := ⟨g_mem 713 (by decide +kernel) (by decide +kernel), g_mem 714 (by decide +kernel) (by decide +kernel)⟩
theorem l_Mod_83 : LkV "SwungShipsModel" 83 y_Mod_mayLie := ⟨g_mem 716 (by decide +kernel) (by decide +kernel), g_mem 718 (by decide +kernel) (by decide +kernel), g_mem 13 (by decide +kernel) (by decide +kernel)⟩
theorem l_Mod_69 : LkV "SwungShipsModel" 69 y_Mod_leastWater := ⟨g_mem 720 (by decide +kernel) (by decide +kernel), g_mem 722 (by decide +kernel) (by decide +kernel), g_mem 14 (by decide +kernel) (by decide +kernel)⟩
theorem l_Mod_58 : LkS "SwungShipsModel" 58 y_Mod_has := ⟨g_mem 724 (by decide +kernel) (by decide +kernel), g_mem 725 (by decide +kernel) (by decide +kernel)⟩
theorem l_Mod_51 : LkV "SwungShipsModel" 51 y_Mod_left := ⟨g_mem 727 (by decide +kernel) (by decide +kernel), g_mem 729 (by decide +kernel) (by decide +kernel), g_mem 15 (by decide +kernel) (by decide +kernel)⟩
theorem l_Mod_44 : LkS "SwungShipsModel" 44 y_Mod_windX := ⟨g_mem 731 (by decide +kernel) (by decide +kernel), g_mem 732 (by decide +kernel) (by decide +kernel)⟩
theorem l_Mod_55 : LkV "SwungShipsModel" 55 y_Mod_top := ⟨g_mem 734 (by decide +kernel) (by decide +kernel), g_mem 736 (by decide +kernel) (by decide +kernel), g_mem 16 (by decide +kernel) (by decide +kernel)⟩
theorem l_Mod_48 : LkS "SwungShipsModel" 48 y_Mod_windY := ⟨g_mem 738 (by decide +kernel) (by decide +kernel), g_mem 739 (by decide +kernel) (by decide +kernel)⟩
theorem l_Mod_40 : LkV "SwungShipsModel" 40 y_Mod_isCell := ⟨g_mem 741 (by decide +kernel) (by decide +kernel), g_mem 743 (by decide +kernel) (by decide +kernel), g_mem 17 (by decide +kernel) (by decide +kernel)⟩
theorem l_Mod_36 : LkS "SwungShipsModel" 36 y_Mod_in := ⟨g_mem 745 (by decide +kernel) (by decide +kernel), g_mem 746 (by decide +kernel) (by decide +kernel)⟩
theorem l_Mod_65 : LkV "SwungShipsModel" 65 y_Mod_water := ⟨g_mem 748 (by decide +kernel) (by decide +kernel), g_mem 750 (by decide +kernel) (by decide +kernel), g_mem 18 (by decide +kernel) (by decide +kernel)⟩
theorem l_Mod_90 : LkV "SwungShipsModel" 90 y_Mod_clashes := ⟨g_mem 752 (by decide +kernel) (by decide +kernel), g_mem 754 (by decide +kernel) (by decide +kernel), g_mem 19 (by decide +kernel) (by decide +kernel)⟩
theorem l_Mod_80 : LkV "SwungShipsModel" 80 y_Mod_clash := ⟨g_mem 756 (by decide +kernel) (by decide +kernel), g_mem 758 (by decide +kernel) (by decide +kernel), g_mem 20 (by decide +kernel) (by decide +kernel)⟩
theorem l_Mod_73 : LkS "SwungShipsModel" 73 y_Mod_share := ⟨g_mem 760 (by decide +kernel) (by decide +kernel), g_mem 761 (by decide +kernel) (by decide +kernel)⟩
theorem l_Mod_137 : LkV "SwungShipsModel" 137 y_Mod_clashPairs := ⟨g_mem 763 (by decide +kernel) (by decide +kernel), g_mem 765 (by decide +kernel) (by decide +kernel), g_mem 21 (by decide +kernel) (by decide +kernel)⟩
theorem l_Mod_115 : LkS "SwungShipsModel" 115 y_Mod_ones := ⟨g_mem 767 (by decide +kernel) (by decide +kernel), g_mem 768 (by decide +kernel) (by decide +kernel)⟩
theorem l_Mod_140 : LkV "SwungShipsModel" 140 y_Mod_placesForAll := ⟨g_mem 770 (by decide +kernel) (by decide +kernel), g_mem 772 (by decide +kernel) (by decide +kernel), g_mem 22 (by decide +kernel) (by decide +kernel)⟩
theorem l_Mod_100 : LkS "SwungShipsModel" 100 y_Mod_waitAt := ⟨g_mem 774 (by decide +kernel) (by decide +kernel), g_mem 775 (by decide +kernel) (by decide +kernel)⟩
theorem l_Mod_112 : LkV "SwungShipsModel" 112 y_Mod_tryRows := ⟨g_mem 777 (by decide +kernel) (by decide +kernel), g_mem 779 (by decide +kernel) (by decide +kernel), g_mem 23 (by decide +kernel) (by decide +kernel)⟩
theorem l_Mod_106 : LkV "SwungShipsModel" 106 y_Mod_layFree := ⟨g_mem 781 (by decide +kernel) (by decide +kernel), g_mem 783 (by decide +kernel) (by decide +kernel), g_mem 24 (by decide +kernel) (by decide +kernel)⟩
theorem l_Mod_97 : LkV "SwungShipsModel" 97 y_Mod_cells := ⟨g_mem 785 (by decide +kernel) (by decide +kernel), g_mem 787 (by decide +kernel) (by decide +kernel), g_mem 25 (by decide +kernel) (by decide +kernel)⟩
theorem l_Mod_103 : LkV "SwungShipsModel" 103 y_Mod_isFree := ⟨g_mem 789 (by decide +kernel) (by decide +kernel), g_mem 791 (by decide +kernel) (by decide +kernel), g_mem 26 (by decide +kernel) (by decide +kernel)⟩
theorem l_Mod_109 : LkV "SwungShipsModel" 109 y_Mod_fitsBehind := ⟨g_mem 793 (by decide +kernel) (by decide +kernel), g_mem 795 (by decide +kernel) (by decide +kernel), g_mem 27 (by decide +kernel) (by decide +kernel)⟩
theorem l_Mod_144 : LkV "SwungShipsModel" 144 y_Mod_threats := ⟨g_mem 797 (by decide +kernel) (by decide +kernel), g_mem 799 (by decide +kernel) (by decide +kernel), g_mem 28 (by decide +kernel) (by decide +kernel)⟩
theorem l_Mod_147 : LkV "SwungShipsModel" 147 y_Mod_swept := ⟨g_mem 801 (by decide +kernel) (by decide +kernel), g_mem 803 (by decide +kernel) (by decide +kernel), g_mem 29 (by decide +kernel) (by decide +kernel)⟩
theorem l_Mod_128 : LkV "SwungShipsModel" 128 y_Mod_sweepers := ⟨g_mem 805 (by decide +kernel) (by decide +kernel), g_mem 807 (by decide +kernel) (by decide +kernel), g_mem 30 (by decide +kernel) (by decide +kernel)⟩
theorem l_Mod_125 : LkV "SwungShipsModel" 125 y_Mod_sweeps := ⟨g_mem 809 (by decide +kernel) (by decide +kernel), g_mem 811 (by decide +kernel) (by decide +kernel), g_mem 31 (by decide +kernel) (by decide +kernel)⟩
theorem l_Mod_61 : LkV "SwungShipsModel" 61 y_Mod_liesOn := ⟨g_mem 813 (by decide +kernel) (by decide +kernel), g_mem 815 (by decide +kernel) (by decide +kernel), g_mem 32 (by decide +kernel) (by decide +kernel)⟩
theorem l_Mod_150 : LkV "SwungShipsModel" 150 y_Mod_wrongEntry := ⟨g_mem 817 (by decide +kernel) (by decide +kernel), g_mem 819 (by decide +kernel) (by decide +kernel), g_mem 33 (by decide +kernel) (by decide +kernel)⟩
theorem l_Mod_134 : LkV "SwungShipsModel" 134 y_Mod_isShip := ⟨g_mem 821 (by decide +kernel) (by decide +kernel), g_mem 823 (by decide +kernel) (by decide +kernel), g_mem 34 (by decide +kernel) (by decide +kernel)⟩
theorem k_Mod_159 : Cond.constant "SwungShipsModel" 159 (-1000000002) ∈ gtbl := g_mem 825 (by decide +kernel) (by decide +kernel)
theorem l_Law_22 : LkV "SwungShipsLaw" 22 y_Mod_cell := ⟨g_mem 826 (by decide +kernel) (by decide +kernel), g_mem 827 (by decide +kernel) (by decide +kernel), g_mem 828 (by decide +kernel) (by decide +kernel)⟩
theorem k_Mod_160 : Cond.constant "SwungShipsModel" 160 (-1000000001) ∈ gtbl := g_mem 830 (by decide +kernel) (by decide +kernel)
theorem l_Mod_161 : LkV "SwungShipsModel" 161 y_Mod_fitters := ⟨g_mem 831 (by decide +kernel) (by decide +kernel), g_mem 833 (by decide +kernel) (by decide +kernel), g_mem 35 (by decide +kernel) (by decide +kernel)⟩
theorem l_Law_27 : LkV "SwungShipsLaw" 27 y_Mod_ship := ⟨g_mem 835 (by decide +kernel) (by decide +kernel), g_mem 836 (by decide +kernel) (by decide +kernel), g_mem 837 (by decide +kernel) (by decide +kernel)⟩
theorem l_Mod_164 : LkV "SwungShipsModel" 164 y_Mod_sweptBy := ⟨g_mem 839 (by decide +kernel) (by decide +kernel), g_mem 841 (by decide +kernel) (by decide +kernel), g_mem 36 (by decide +kernel) (by decide +kernel)⟩
theorem l_Law_31 : LkV "SwungShipsLaw" 31 y_Mod_waits := ⟨g_mem 843 (by decide +kernel) (by decide +kernel), g_mem 844 (by decide +kernel) (by decide +kernel), g_mem 845 (by decide +kernel) (by decide +kernel)⟩
theorem l_Mod_170 : LkV "SwungShipsModel" 170 y_Mod_isWaiting := ⟨g_mem 847 (by decide +kernel) (by decide +kernel), g_mem 849 (by decide +kernel) (by decide +kernel), g_mem 37 (by decide +kernel) (by decide +kernel)⟩
theorem l_Mod_173 : LkV "SwungShipsModel" 173 y_Mod_places := ⟨g_mem 851 (by decide +kernel) (by decide +kernel), g_mem 853 (by decide +kernel) (by decide +kernel), g_mem 38 (by decide +kernel) (by decide +kernel)⟩
theorem l_Mod_176 : LkV "SwungShipsModel" 176 y_Mod_firstPlace := ⟨g_mem 855 (by decide +kernel) (by decide +kernel), g_mem 857 (by decide +kernel) (by decide +kernel), g_mem 39 (by decide +kernel) (by decide +kernel)⟩
theorem l_Mod_179 : LkV "SwungShipsModel" 179 y_Mod_inFirst := ⟨g_mem 859 (by decide +kernel) (by decide +kernel), g_mem 861 (by decide +kernel) (by decide +kernel), g_mem 40 (by decide +kernel) (by decide +kernel)⟩
theorem l_Mod_167 : LkV "SwungShipsModel" 167 y_Mod_layMoves := ⟨g_mem 863 (by decide +kernel) (by decide +kernel), g_mem 865 (by decide +kernel) (by decide +kernel), g_mem 41 (by decide +kernel) (by decide +kernel)⟩
theorem l_Mod_118 : LkV "SwungShipsModel" 118 y_Mod_tryMoved := ⟨g_mem 867 (by decide +kernel) (by decide +kernel), g_mem 869 (by decide +kernel) (by decide +kernel), g_mem 42 (by decide +kernel) (by decide +kernel)⟩
theorem l_Mod_182 : LkV "SwungShipsModel" 182 y_Mod_movedBy := ⟨g_mem 871 (by decide +kernel) (by decide +kernel), g_mem 873 (by decide +kernel) (by decide +kernel), g_mem 43 (by decide +kernel) (by decide +kernel)⟩
theorem l_Law_35 : LkV "SwungShipsLaw" 35 y_Mod_moves := ⟨g_mem 875 (by decide +kernel) (by decide +kernel), g_mem 876 (by decide +kernel) (by decide +kernel), g_mem 877 (by decide +kernel) (by decide +kernel)⟩
theorem l_Law_40 : LkV "SwungShipsLaw" 40 y_Mod_lies := ⟨g_mem 879 (by decide +kernel) (by decide +kernel), g_mem 880 (by decide +kernel) (by decide +kernel), g_mem 881 (by decide +kernel) (by decide +kernel)⟩
theorem l_Law_44 : LkV "SwungShipsLaw" 44 y_Mod_harbour := ⟨g_mem 883 (by decide +kernel) (by decide +kernel), g_mem 884 (by decide +kernel) (by decide +kernel), g_mem 885 (by decide +kernel) (by decide +kernel)⟩
theorem l_Mod_188 : LkV "SwungShipsModel" 188 y_Mod_remember := ⟨g_mem 887 (by decide +kernel) (by decide +kernel), g_mem 889 (by decide +kernel) (by decide +kernel), g_mem 44 (by decide +kernel) (by decide +kernel)⟩
theorem l_Mod_185 : LkV "SwungShipsModel" 185 y_Mod_copyRow := ⟨g_mem 891 (by decide +kernel) (by decide +kernel), g_mem 893 (by decide +kernel) (by decide +kernel), g_mem 45 (by decide +kernel) (by decide +kernel)⟩
theorem l_Law_48 : LkV "SwungShipsLaw" 48 y_Mod_depth := ⟨g_mem 895 (by decide +kernel) (by decide +kernel), g_mem 896 (by decide +kernel) (by decide +kernel), g_mem 897 (by decide +kernel) (by decide +kernel)⟩
theorem l_Mod_191 : LkV "SwungShipsModel" 191 y_Mod_put := ⟨g_mem 899 (by decide +kernel) (by decide +kernel), g_mem 901 (by decide +kernel) (by decide +kernel), g_mem 46 (by decide +kernel) (by decide +kernel)⟩
theorem l_Law_52 : LkV "SwungShipsLaw" 52 y_Mod_tide := ⟨g_mem 903 (by decide +kernel) (by decide +kernel), g_mem 904 (by decide +kernel) (by decide +kernel), g_mem 905 (by decide +kernel) (by decide +kernel)⟩
theorem l_Law_56 : LkV "SwungShipsLaw" 56 y_Mod_winds := ⟨g_mem 907 (by decide +kernel) (by decide +kernel), g_mem 908 (by decide +kernel) (by decide +kernel), g_mem 909 (by decide +kernel) (by decide +kernel)⟩
theorem l_Law_60 : LkV "SwungShipsLaw" 60 y_Mod_arrive := ⟨g_mem 911 (by decide +kernel) (by decide +kernel), g_mem 912 (by decide +kernel) (by decide +kernel), g_mem 913 (by decide +kernel) (by decide +kernel)⟩
theorem k_Mod_194 : Cond.constant "SwungShipsModel" 194 (-1000000004) ∈ gtbl := g_mem 915 (by decide +kernel) (by decide +kernel)
theorem l_Law_64 : LkV "SwungShipsLaw" 64 y_Mod_anchor := ⟨g_mem 916 (by decide +kernel) (by decide +kernel), g_mem 917 (by decide +kernel) (by decide +kernel), g_mem 918 (by decide +kernel) (by decide +kernel)⟩
theorem k_Mod_202 : Cond.constant "SwungShipsModel" 202 (-1000000003) ∈ gtbl := g_mem 920 (by decide +kernel) (by decide +kernel)
theorem l_Mod_203 : LkV "SwungShipsModel" 203 y_Mod_come := ⟨g_mem 921 (by decide +kernel) (by decide +kernel), g_mem 923 (by decide +kernel) (by decide +kernel), g_mem 47 (by decide +kernel) (by decide +kernel)⟩
theorem l_Mod_195 : LkV "SwungShipsModel" 195 y_Mod_moor := ⟨g_mem 925 (by decide +kernel) (by decide +kernel), g_mem 927 (by decide +kernel) (by decide +kernel), g_mem 48 (by decide +kernel) (by decide +kernel)⟩
theorem l_Mod_198 : LkV "SwungShipsModel" 198 y_Mod_unwait := ⟨g_mem 929 (by decide +kernel) (by decide +kernel), g_mem 931 (by decide +kernel) (by decide +kernel), g_mem 49 (by decide +kernel) (by decide +kernel)⟩
theorem l_Law_68 : LkV "SwungShipsLaw" 68 y_Mod_fit := ⟨g_mem 933 (by decide +kernel) (by decide +kernel), g_mem 934 (by decide +kernel) (by decide +kernel), g_mem 935 (by decide +kernel) (by decide +kernel)⟩
theorem l_Law_73 : LkV "SwungShipsLaw" 73 y_Mod_fitAll := ⟨g_mem 937 (by decide +kernel) (by decide +kernel), g_mem 938 (by decide +kernel) (by decide +kernel), g_mem 939 (by decide +kernel) (by decide +kernel)⟩
theorem l_Law_77 : LkV "SwungShipsLaw" 77 y_Mod_shift := ⟨g_mem 941 (by decide +kernel) (by decide +kernel), g_mem 942 (by decide +kernel) (by decide +kernel), g_mem 943 (by decide +kernel) (by decide +kernel)⟩
theorem l_Law_81 : LkV "SwungShipsLaw" 81 y_Mod_leave := ⟨g_mem 945 (by decide +kernel) (by decide +kernel), g_mem 946 (by decide +kernel) (by decide +kernel), g_mem 947 (by decide +kernel) (by decide +kernel)⟩
theorem l_Law_85 : LkV "SwungShipsLaw" 85 y_Mod_turnAway := ⟨g_mem 949 (by decide +kernel) (by decide +kernel), g_mem 950 (by decide +kernel) (by decide +kernel), g_mem 951 (by decide +kernel) (by decide +kernel)⟩
theorem l_Law_89 : LkV "SwungShipsLaw" 89 y_Mod_drift := ⟨g_mem 953 (by decide +kernel) (by decide +kernel), g_mem 954 (by decide +kernel) (by decide +kernel), g_mem 955 (by decide +kernel) (by decide +kernel)⟩
theorem l_Mod_213 : LkV "SwungShipsModel" 213 y_Mod_draw := ⟨g_mem 957 (by decide +kernel) (by decide +kernel), g_mem 959 (by decide +kernel) (by decide +kernel), g_mem 50 (by decide +kernel) (by decide +kernel)⟩
theorem k_Mod_206 : Cond.constantLong "SwungShipsModel" 206 (1103515245) ∈ gtbl := g_mem 961 (by decide +kernel) (by decide +kernel)
theorem k_Mod_208 : Cond.constantLong "SwungShipsModel" 208 (12345) ∈ gtbl := g_mem 962 (by decide +kernel) (by decide +kernel)
theorem k_Mod_210 : Cond.constantLong "SwungShipsModel" 210 (2147483648) ∈ gtbl := g_mem 963 (by decide +kernel) (by decide +kernel)
theorem k_Mod_212 : Cond.constant "SwungShipsModel" 212 (65536) ∈ gtbl := g_mem 964 (by decide +kernel) (by decide +kernel)
theorem l_Law_93 : LkV "SwungShipsLaw" 93 y_Mod_undo := ⟨g_mem 965 (by decide +kernel) (by decide +kernel), g_mem 966 (by decide +kernel) (by decide +kernel), g_mem 967 (by decide +kernel) (by decide +kernel)⟩
theorem l_Law_97 : LkV "SwungShipsLaw" 97 y_Mod_write := ⟨g_mem 969 (by decide +kernel) (by decide +kernel), g_mem 970 (by decide +kernel) (by decide +kernel), g_mem 971 (by decide +kernel) (by decide +kernel)⟩
theorem l_Law_101 : LkV "SwungShipsLaw" 101 y_Mod_tear := ⟨g_mem 973 (by decide +kernel) (by decide +kernel), g_mem 974 (by decide +kernel) (by decide +kernel), g_mem 975 (by decide +kernel) (by decide +kernel)⟩
theorem l_Law_105 : LkV "SwungShipsLaw" 105 y_Mod_seed := ⟨g_mem 977 (by decide +kernel) (by decide +kernel), g_mem 978 (by decide +kernel) (by decide +kernel), g_mem 979 (by decide +kernel) (by decide +kernel)⟩
theorem l_Law_109 : LkV "SwungShipsLaw" 109 y_Mod_keep := ⟨g_mem 981 (by decide +kernel) (by decide +kernel), g_mem 982 (by decide +kernel) (by decide +kernel), g_mem 983 (by decide +kernel) (by decide +kernel)⟩
theorem l_Law_113 : LkV "SwungShipsLaw" 113 y_Mod_goBack := ⟨g_mem 985 (by decide +kernel) (by decide +kernel), g_mem 986 (by decide +kernel) (by decide +kernel), g_mem 987 (by decide +kernel) (by decide +kernel)⟩
/-- links to nest mates: these words are carried beside the tables -/
def nestW : List Cond := [.fieldLinkNest "SwungShips$Swing" 18 "SwungShips" "WIND_X" "[I" "SwungShips", .fieldLinkNest "SwungShips$Swing" 24 "SwungShips" "WIND_Y" "[I" "SwungShips", .methodLinkNest "SwungShips$Search" 93 y_Sw_spotAt "SwungShips", .fieldLinkNest "SwungShips$Search" 133 "SwungShips" "WIND_X" "[I" "SwungShips", .fieldLinkNest "SwungShips$Search" 136 "SwungShips" "WIND_Y" "[I" "SwungShips", .methodLinkNest "SwungShips$Search" 97 y_Sw_columnOf "SwungShips", .methodLinkNest "SwungShips$Search" 100 y_Sw_lineOf "SwungShips", .methodLinkNest "SwungShips$Search" 46 y_Sw_holds "SwungShips", .methodLinkNest "SwungShips$Swing" 54 y_Sw_spotAt "SwungShips", .methodLinkNest "SwungShips$Swing" 65 y_Sw_holds "SwungShips", .methodLinkNest "SwungShips$Harbour" 79 y_Sw_columnOf "SwungShips", .methodLinkNest "SwungShips$Harbour" 83 y_Sw_lineOf "SwungShips"]
theorem nestW_in : ∀ w ∈ nestW, w ∈ lw_tbl := fun w h => by
  have h1 : nestW = [284, 289, 342, 346, 347, 387, 390, 397, 418, 447, 565, 566].filterMap (fun i => lw_tbl[i]?) := by decide +kernel
  rw [h1] at h
  obtain ⟨i, -, hi⟩ := List.mem_filterMap.mp h
  exact List.mem_of_getElem? hi
theorem nestW_tab : ∀ w ∈ nestW, w.onTables = true := by decide +kernel
def LkN (own : String) (idx : Nat) (y : MethodName) (host : String) : Prop := Cond.methodLinkNest own idx y host ∈ nestW ∧ Cond.static y ∈ gtbl
def FLS (own : String) (idx : Nat) (n : String) : Prop := Cond.fieldLinkNest own idx "SwungShips" n "[I" "SwungShips" ∈ nestW
theorem fs_Swing_18 : FLS "SwungShips$Swing" 18 "WIND_X" := List.mem_of_getElem? (i := 0) (by decide +kernel)
theorem fs_Swing_24 : FLS "SwungShips$Swing" 24 "WIND_Y" := List.mem_of_getElem? (i := 1) (by decide +kernel)
theorem ln_Sear_93 : LkN "SwungShips$Search" 93 y_Sw_spotAt "SwungShips" := ⟨List.mem_of_getElem? (i := 2) (by decide +kernel), g_mem 343 (by decide +kernel) (by decide +kernel)⟩
theorem fs_Sear_133 : FLS "SwungShips$Search" 133 "WIND_X" := List.mem_of_getElem? (i := 3) (by decide +kernel)
theorem fs_Sear_136 : FLS "SwungShips$Search" 136 "WIND_Y" := List.mem_of_getElem? (i := 4) (by decide +kernel)
theorem ln_Sear_97 : LkN "SwungShips$Search" 97 y_Sw_columnOf "SwungShips" := ⟨List.mem_of_getElem? (i := 5) (by decide +kernel), g_mem 388 (by decide +kernel) (by decide +kernel)⟩
theorem ln_Sear_100 : LkN "SwungShips$Search" 100 y_Sw_lineOf "SwungShips" := ⟨List.mem_of_getElem? (i := 6) (by decide +kernel), g_mem 391 (by decide +kernel) (by decide +kernel)⟩
theorem ln_Sear_46 : LkN "SwungShips$Search" 46 y_Sw_holds "SwungShips" := ⟨List.mem_of_getElem? (i := 7) (by decide +kernel), g_mem 398 (by decide +kernel) (by decide +kernel)⟩
theorem ln_Swing_54 : LkN "SwungShips$Swing" 54 y_Sw_spotAt "SwungShips" := ⟨List.mem_of_getElem? (i := 8) (by decide +kernel), g_mem 343 (by decide +kernel) (by decide +kernel)⟩
theorem ln_Swing_65 : LkN "SwungShips$Swing" 65 y_Sw_holds "SwungShips" := ⟨List.mem_of_getElem? (i := 9) (by decide +kernel), g_mem 398 (by decide +kernel) (by decide +kernel)⟩
theorem ln_Harb_79 : LkN "SwungShips$Harbour" 79 y_Sw_columnOf "SwungShips" := ⟨List.mem_of_getElem? (i := 10) (by decide +kernel), g_mem 388 (by decide +kernel) (by decide +kernel)⟩
theorem ln_Harb_83 : LkN "SwungShips$Harbour" 83 y_Sw_lineOf "SwungShips" := ⟨List.mem_of_getElem? (i := 11) (by decide +kernel), g_mem 391 (by decide +kernel) (by decide +kernel)⟩
theorem oi_code : Cond.code objectInit ⟨#[0xb1]⟩ 1 none ∈ gtbl := g_mem 71 (by decide +kernel) (by decide +kernel)
theorem oi_inst : Cond.instanceMethod objectInit ∈ gtbl := g_mem 70 (by decide +kernel) (by decide +kernel)
theorem ac_nat : Cond.native arraycopyName ∈ gtbl := g_mem 520 (by decide +kernel) (by decide +kernel)
theorem ac_stat : Cond.static arraycopyName ∈ gtbl := g_mem 519 (by decide +kernel) (by decide +kernel)
theorem ac_ini : Cond.initialized "java/lang/System" ∈ gtbl := g_mem 63 (by decide +kernel) (by decide +kernel)
-- arrayOver 157 (Jvm.ClassFile.FieldType.object "SwungShips$Harbour")
-- arrayOver 221 (Jvm.ClassFile.FieldType.object "SwungShips$Image")
-- laysStatic 285 "SwungShips" "WIND_X" "[I"
-- laysStatic 290 "SwungShips" "WIND_Y" "[I"
end
section
/-! THE JUDGEMENT Wk, AND ITS ROWS: an instruction a row, over numbers and cells by their numbers -/
theorem nZ_add (a b : Int) : nZ (a + b) = nZ a + nZ b := Int32.ofInt_add a b
theorem nZ_sub (a b : Int) : nZ (a - b) = nZ a - nZ b := Int32.ofInt_sub a b
theorem nZ_mul (a b : Int) : nZ (a * b) = nZ a * nZ b := Int32.ofInt_mul a b
theorem nZ_neg (a : Int) : nZ (-a) = -nZ a := Int32.ofInt_neg a
theorem nZ_toInt {a : Int} (h1 : -2147483648 ≤ a) (h2 : a ≤ 2147483647) : (nZ a).toInt = a := Int32.toInt_ofInt_of_le (by omega) (by omega)
theorem nZ_self (x : Int32) : nZ x.toInt = x := Int32.ofInt_toInt x
theorem nZ_lt {a b : Int} (ha : -2147483648 ≤ a ∧ a ≤ 2147483647) (hb : -2147483648 ≤ b ∧ b ≤ 2147483647) : nZ a < nZ b ↔ a < b := by
  rw [Int32.lt_iff_toInt_lt, nZ_toInt ha.1 ha.2, nZ_toInt hb.1 hb.2]
theorem nZ_le {a b : Int} (ha : -2147483648 ≤ a ∧ a ≤ 2147483647) (hb : -2147483648 ≤ b ∧ b ≤ 2147483647) : nZ a ≤ nZ b ↔ a ≤ b := by
  rw [Int32.le_iff_toInt_le, nZ_toInt ha.1 ha.2, nZ_toInt hb.1 hb.2]
theorem nZ_eq {a b : Int} (ha : -2147483648 ≤ a ∧ a ≤ 2147483647) (hb : -2147483648 ≤ b ∧ b ≤ 2147483647) : nZ a = nZ b ↔ a = b := by
  rw [← Int32.toInt_inj, nZ_toInt ha.1 ha.2, nZ_toInt hb.1 hb.2]
theorem nZ_0 : nZ 0 = 0 := by decide +kernel
theorem nZ_cl {a : Int} (h1 : 0 ≤ a) (h2 : a ≤ 2147483647) : (nZ a).toNatClampNeg = a.toNat := Int32.toNatClampNeg_ofInt_of_le (by omega) (by omega)
theorem nZ_in {a : Int} {n : Nat} (h1 : 0 ≤ a) (h2 : a < n) (hn : n < 2147483648) : vp_in (nZ a) n := by
  rw [vp_in_iff, nZ_toInt (by omega) (by omega)]
  exact ⟨h1, h2⟩
/-- what holds all the while, at a frame's start -/
def GOK (g : GB) (xs : RO) (s : State) : Prop :=
  g.1 ≤ s.heap.size ∧ va_K g.2.2.1 cls0 (tysOf g) s
  ∧ va_Z "SwungShips" "WIND_X" "[I" (.ref (g.2.1 1)) (fun q => g.1 ≤ q) s s.heap ∧ va_T .int (g.2.1 1) 8 (fun j => .int (nZ (windX j))) (fun q => g.1 ≤ q) s s.heap
  ∧ va_Z "SwungShips" "WIND_Y" "[I" (.ref (g.2.1 2)) (fun q => g.1 ≤ q) s s.heap ∧ va_T .int (g.2.1 2) 8 (fun j => .int (nZ (windY j))) (fun q => g.1 ≤ q) s s.heap
  ∧ va_T .int (g.2.1 0) xs.1 (fun j => .int (nZ (xs.2 j))) (fun q => g.1 ≤ q) s s.heap
  ∧ (∀ w ∈ nestW, va_Nw w s) ∧ va_AO "SwungShips$Harbour" s ∧ va_AO "SwungShips$Image" s ∧ xs.1 < 2147483648
theorem nest_warm {s U : State} (hW : s.WarmedH U.vm) : ∀ w ∈ nestW, va_Nw w s → va_Nw w U := by
  intro w hw h
  simp only [nestW, List.mem_cons, List.not_mem_nil, or_false] at hw
  rcases hw with rfl | rfl | rfl | rfl | rfl | rfl | rfl | rfl | rfl | rfl | rfl | rfl
  all_goals first | exact va_Nw.warmF hW h | exact va_Nw.warmM hW h
theorem GOK.moved {g : GB} {xs : RO} {s U : State} {H : Heap} {locs : List Loc} (h : GOK g xs s) (hS : va_S (fun q => g.1 ≤ q) s.heap H locs) (hU : U.heap = H) (hW : s.WarmedH U.vm) : GOK g xs U := by
  obtain ⟨h1, h2, h3, h4, h5, h6, h7, h8, h9, h10, h11⟩ := h
  subst hU
  have hk : ∀ a : Nat, a < s.heap.size → ¬ g.1 ≤ a → U.heap[a]? = s.heap[a]? := hS.2.1
  exact ⟨Nat.le_trans h1 hS.1, h2.moved hW.alike, (h3.moved hW.alike).kept hk, (h4.moved hW.alike).kept hk, (h5.moved hW.alike).kept hk, (h6.moved hW.alike).kept hk, (h7.moved hW.alike).kept hk, fun w hw => nest_warm hW w hw (h8 w hw), h9.moved hW.alike, h10.moved hW.alike, h11⟩
/-- the same heap and tables -/
theorem GOK.same {g : GB} {xs : RO} {s U : State} (h : GOK g xs s) (hU : U.heap = s.heap) (hv : s.vm = U.vm) : GOK g xs U := by
  obtain ⟨h1, h2, h3, h4, h5, h6, h7, h8, h9, h10, h11⟩ := h
  have ha : s.vm.Alike U.vm := by rw [hv]; exact Vm.Alike.refl U.vm
  rw [← hU] at h1 h3 h4 h5 h6 h7
  exact ⟨h1, h2.moved ha, h3.moved ha, h4.moved ha, h5.moved ha, h6.moved ha, h7.moved ha, fun w hw => (h8 w hw).same (nestW_tab w hw) hv, h9.moved ha, h10.moved ha, h11⟩
/-- a frame of ours: the machine, its code, the tables' words, the room for d calls one in another -/
def FOK (g : GB) (xs : RO) (cx : CX) (d : Nat) (p : Program) (R : Room) (s : State) (m : MethodId) (args : Array Value) (meth : Method) (c : Code) : Prop :=
  p.tables.exec = Jvm.exec ∧ c.code = cxC cx ∧ c.maxLocals = cxN cx ∧ s.vm.findClass (cxO cx) = some m.cls ∧ (∀ w ∈ gtbl, w.before args s = true) ∧ (cxI cx = true → meth.name = "<init>") ∧ d ≤ R.frames ∧ 64 * d ≤ R.locals ∧ GOK g xs s
/-- the heap holds the memory -/
def Rep (g : GB) (X : LY) (I : IM) (L : LM) (s : State) (H : Heap) (locs : List Loc) : Prop :=
  va_P g.2.2.1 cls0 (wsOf g X I L) H ∧ X.1 < 1000000 ∧ va_S (fun q => g.1 ≤ q) s.heap H locs
theorem wsOf_at {g : GB} {X : LY} {I : IM} {L : LM} {id : Nat} (h : id < X.1) : (wsOf g X I L)[id]? = some (ad g id, ent g (X.2 id) I L id) := by
  simp [wsOf, h]
theorem wsOf_get {g : GB} {X : LY} {I : IM} {L : LM} {k : Nat} {q : Nat × va_E} (h : (wsOf g X I L)[k]? = some q) : k < X.1 ∧ q = (ad g k, ent g (X.2 k) I L k) := by
  have hk : k < X.1 := by
    have := (List.getElem?_eq_some_iff.mp h).1
    simpa [wsOf] using this
  rw [wsOf_at hk] at h
  exact ⟨hk, (Option.some.inj h).symm⟩
theorem wsOf_D {g : GB} {X : LY} {I : IM} {L : LM} (h : X.1 < 1000000) : va_D (fun q => g.1 ≤ q) (wsOf g X I L) := by
  refine ⟨fun i j p q hi hj e => ?_, fun k q hk => ?_⟩
  · obtain ⟨h1, rfl⟩ := wsOf_get hi
    obtain ⟨h2, rfl⟩ := wsOf_get hj
    simp only [ad] at e
    rw [if_pos (by omega), if_pos (by omega)] at e
    omega
  · obtain ⟨h1, rfl⟩ := wsOf_get hk
    simp only [ad]
    rw [if_pos (by omega)]
    omega
/-- the locals, by their places -/
def lvc (g : GB) : Nat → List (Option AV) → List (Nat × Value)
  | _, [] => []
  | k, none :: r => lvc g (k + 1) r
  | k, some v :: r => (k, cv g v) :: lvc g (k + 1) r
theorem lvc_mem {g : GB} : ∀ {lv : List (Option AV)} {b : Nat} {q : Nat × Value}, q ∈ lvc g b lv ↔ ∃ (k : Nat) (v : AV), lv[k]? = some (some v) ∧ q = (b + k, cv g v)
  | [], b, q => by simp [lvc]
  | none :: r, b, q => by
    simp only [lvc]
    rw [lvc_mem]
    constructor
    · rintro ⟨k, v, h1, rfl⟩
      exact ⟨k + 1, v, by simpa using h1, by rw [show b + 1 + k = b + (k + 1) by omega]⟩
    · rintro ⟨k, v, h1, rfl⟩
      cases k with
      | zero => simp at h1
      | succ k => exact ⟨k, v, by simpa using h1, by rw [show b + 1 + k = b + (k + 1) by omega]⟩
  | some w :: r, b, q => by
    simp only [lvc, List.mem_cons]
    rw [lvc_mem]
    constructor
    · rintro (rfl | ⟨k, v, h1, rfl⟩)
      · exact ⟨0, w, by simp, by simp⟩
      · exact ⟨k + 1, v, by simpa using h1, by rw [show b + 1 + k = b + (k + 1) by omega]⟩
    · rintro ⟨k, v, h1, rfl⟩
      cases k with
      | zero => left; simp at h1; rw [h1]; rfl
      | succ k => right; exact ⟨k, v, by simpa using h1, by rw [show b + 1 + k = b + (k + 1) by omega]⟩
/-- what a return at pc answers -/
def retI (cx : CX) (v : Option AV) (pc : Nat) : Prop := match v with
  | none => decode (cxC cx) pc = .ok (.return_, 1) ∧ cxR cx = none
  | some (.inl z) => decode (cxC cx) pc = .ok (.ireturn, 1) ∧ ∃ ty, cxR cx = some ty ∧ narrow ty (.int (nZ z)) = .int (nZ z)
  | some (.inr (.inl _)) => decode (cxC cx) pc = .ok (.lreturn, 1) ∧ cxR cx = some .long
  | some (.inr (.inr _)) => False
/-- THE JUDGEMENT: from here, in a frame of cx with room for d calls, at most bc cells of bs slots are made, and the method comes to a return with post -/
def Wk (xs : RO) (cx : CX) (d bc bs pc : Nat) (lv : List (Option AV)) (st : List AV) (X : LY) (I : IM) (L : LM) (post : Option AV → LY → IM → LM → Prop) : Prop :=
  ∀ (l : Launch) (g : GB) (p : Program) (e : Env) (R : Room) (s : State) (m : MethodId) (args : Array Value) (below : List Frame) (meth : Method) (c : Code) (Q : State → Prop) (H : Heap) (locs : List Loc) (cells slots : Nat) (ls : Array Slot),
    FOK g xs cx d p R s m args meth c → cells + bc ≤ R.cells → slots + bs ≤ R.slots → Rep g X I L s H locs → s.heap.size + cells = g.1 + X.1 → lv_has ls (cxN cx) (lvc g 0 lv) →
    (∀ (v : Option AV) (X' : LY) (I' : IM) (L' : LM) (H' : Heap) (locs' : List Loc) (cells' slots' : Nat) (ls' : Array Slot) (pc' : Nat), post v X' I' L' → cells' ≤ cells + bc → slots' ≤ slots + bs → Rep g X' I' L' s H' locs' → s.heap.size + cells' = g.1 + X'.1 → retI cx v pc' → W p l e R s m args below meth c H' locs' cells' slots' Q (F0 m pc' ls' (v.toList.map (cv g)))) →
    W p l e R s m args below meth c H locs cells slots Q (F0 m pc ls (st.map (cv g)))
section WKR
variable {xs : RO} {cx : CX} {d bc bs pc q : Nat} {lv lv' : List (Option AV)} {st st' : List AV} {X : LY} {I : IM} {L : LM} {post : Option AV → LY → IM → LM → Prop}
/-- a step that leaves the memory -/
theorem Wk.go (h : ∀ (l : Launch) (g : GB) (p : Program) (e : Env) (R : Room) (s : State) (m : MethodId) (args : Array Value) (below : List Frame) (meth : Method) (c : Code) (Q : State → Prop) (H : Heap) (locs : List Loc) (cells slots : Nat) (ls : Array Slot),
    FOK g xs cx d p R s m args meth c → cells ≤ R.cells → slots ≤ R.slots → Rep g X I L s H locs → lv_has ls (cxN cx) (lvc g 0 lv) →
    (∀ ls' : Array Slot, lv_has ls' (cxN cx) (lvc g 0 lv') → W p l e R s m args below meth c H locs cells slots Q (F0 m q ls' (st'.map (cv g)))) → W p l e R s m args below meth c H locs cells slots Q (F0 m pc ls (st.map (cv g))))
    (k : Wk xs cx d bc bs q lv' st' X I L post) : Wk xs cx d bc bs pc lv st X I L post := by
  intro l g p e R s m args below meth c Q H locs cells slots ls hF hc hs hR hE hl hex
  exact h l g p e R s m args below meth c Q H locs cells slots ls hF (by omega) (by omega) hR hl (fun ls' hl' => k l g p e R s m args below meth c Q H locs cells slots ls' hF hc hs hR hE hl' hex)
/-- the same, with the same locals -/
theorem Wk.go1 (h : ∀ (l : Launch) (g : GB) (p : Program) (e : Env) (R : Room) (s : State) (m : MethodId) (args : Array Value) (below : List Frame) (meth : Method) (c : Code) (Q : State → Prop) (H : Heap) (locs : List Loc) (cells slots : Nat) (ls : Array Slot),
    FOK g xs cx d p R s m args meth c → cells ≤ R.cells → slots ≤ R.slots → Rep g X I L s H locs → lv_has ls (cxN cx) (lvc g 0 lv) →
    W p l e R s m args below meth c H locs cells slots Q (F0 m q ls (st'.map (cv g))) → W p l e R s m args below meth c H locs cells slots Q (F0 m pc ls (st.map (cv g))))
    (k : Wk xs cx d bc bs q lv st' X I L post) : Wk xs cx d bc bs pc lv st X I L post :=
  Wk.go (fun l g p e R s m args below meth c Q H locs cells slots ls hF hc hs hR hl k => h l g p e R s m args below meth c Q H locs cells slots ls hF hc hs hR hl (k ls hl)) k
theorem Wk.iconst {n : Int} (hd : decode (cxC cx) pc = .ok (.iconst n, 1)) (hq : pc + 1 = q) (k : Wk xs cx d bc bs q lv (vi n :: st) X I L post) : Wk xs cx d bc bs pc lv st X I L post := by
  subst hq
  exact Wk.go1 (fun _ g _ _ _ _ _ _ _ _ _ _ _ _ _ _ _ hF _ _ _ _ k => lv_iconst hF.1 hF.2.1 hd rfl k) k
theorem Wk.bipush {n : Int} (hd : decode (cxC cx) pc = .ok (.bipush n, 2)) (hn : (Int8.ofInt n).toInt32 = nZ n) (hq : pc + 2 = q) (k : Wk xs cx d bc bs q lv (vi n :: st) X I L post) : Wk xs cx d bc bs pc lv st X I L post := by
  subst hq
  exact Wk.go1 (fun _ g _ _ _ _ _ _ _ _ _ _ _ _ _ _ _ hF _ _ _ _ k => lv_bipush hF.1 hF.2.1 hd hn k) k
theorem Wk.sipush {n : Int} (hd : decode (cxC cx) pc = .ok (.sipush n, 3)) (hn : (Int16.ofInt n).toInt32 = nZ n) (hq : pc + 3 = q) (k : Wk xs cx d bc bs q lv (vi n :: st) X I L post) : Wk xs cx d bc bs pc lv st X I L post := by
  subst hq
  exact Wk.go1 (fun _ g _ _ _ _ _ _ _ _ _ _ _ _ _ _ _ hF _ _ _ _ k => lv_sipush hF.1 hF.2.1 hd hn k) k
theorem Wk.lconst {n : Fin 2} {v : Int64} (hd : decode (cxC cx) pc = .ok (.lconst n, 1)) (hv : Int64.ofNat (n : Nat) = v) (hq : pc + 1 = q) (k : Wk xs cx d bc bs q lv (vl v :: st) X I L post) : Wk xs cx d bc bs pc lv st X I L post := by
  subst hq
  exact Wk.go1 (fun _ g _ _ _ _ _ _ _ _ _ _ _ _ _ _ _ hF _ _ _ _ k => lv_lconst hF.1 hF.2.1 hd hv k) k
theorem Wk.ldc {idx : Nat} {v : Int32} {z : Int} (hw : Cond.constant (cxO cx) idx v ∈ gtbl) (hv : nZ z = v) (hd : decode (cxC cx) pc = .ok (.ldc idx, 2)) (hq : pc + 2 = q) (k : Wk xs cx d bc bs q lv (vi z :: st) X I L post) : Wk xs cx d bc bs pc lv st X I L post := by
  subst hq; subst hv
  exact Wk.go1 (fun _ g _ _ _ _ _ _ _ _ _ _ _ _ _ _ _ hF _ _ _ _ k => lv_ldc hF.1 hF.2.1 hF.2.2.2.1 (hF.2.2.2.2.1 _ hw) hd k) k
theorem Wk.ldcw {idx : Nat} {v : Int32} {z : Int} (hw : Cond.constant (cxO cx) idx v ∈ gtbl) (hv : nZ z = v) (hd : decode (cxC cx) pc = .ok (.ldc_w idx, 3)) (hq : pc + 3 = q) (k : Wk xs cx d bc bs q lv (vi z :: st) X I L post) : Wk xs cx d bc bs pc lv st X I L post := by
  subst hq; subst hv
  exact Wk.go1 (fun _ g _ _ _ _ _ _ _ _ _ _ _ _ _ _ _ hF _ _ _ _ k => lv_ldcw hF.1 hF.2.1 hF.2.2.2.1 (hF.2.2.2.2.1 _ hw) hd k) k
theorem Wk.ldc2 {idx : Nat} {v : Int64} (hw : Cond.constantLong (cxO cx) idx v ∈ gtbl) (hd : decode (cxC cx) pc = .ok (.ldc2_w idx, 3)) (hq : pc + 3 = q) (k : Wk xs cx d bc bs q lv (vl v :: st) X I L post) : Wk xs cx d bc bs pc lv st X I L post := by
  subst hq
  exact Wk.go1 (fun _ g _ _ _ _ _ _ _ _ _ _ _ _ _ _ _ hF _ _ _ _ k => lv_ldc2 hF.1 hF.2.1 hF.2.2.2.1 (hF.2.2.2.2.1 _ hw) hd k) k
end WKR
end
section
/-! Wk's rows for locals, arithmetic, branches -/
def lget : List (Option AV) → Nat → Option AV
  | [], _ => none
  | v :: _, 0 => v
  | _ :: r, k + 1 => lget r k
def lset : List (Option AV) → Nat → Option AV → List (Option AV)
  | [], _, _ => []
  | _ :: r, 0, v => v :: r
  | w :: r, k + 1, v => w :: lset r k v
/-- the same, told to whoever asks: so that a row computes the list -/
def lsetK : List (Option AV) → Nat → Option AV → (List (Option AV) → Prop) → Prop
  | [], _, _, K => K []
  | _ :: r, 0, v, K => K (v :: r)
  | w :: r, k + 1, v, K => lsetK r k v (fun r' => K (w :: r'))
theorem lsetK_eq : ∀ (lv : List (Option AV)) (k : Nat) (v : Option AV) (K : List (Option AV) → Prop), lsetK lv k v K → K (lset lv k v)
  | [], _, _, _, h => h
  | _ :: _, 0, _, _, h => h
  | _ :: r, k + 1, v, _, h => lsetK_eq r k v _ h
theorem lset_of {lv lv' : List (Option AV)} {k : Nat} {v : Option AV} (h : ∀ K : List (Option AV) → Prop, K lv' → lsetK lv k v K) : lset lv k v = lv' := lsetK_eq lv k v (fun r => r = lv') (h _ rfl)
def notLong : Option AV → Bool
  | some (.inr (.inl _)) => false
  | _ => true
def okS (lv : List (Option AV)) : Nat → Bool
  | 0 => true
  | i + 1 => notLong (lget lv i)
theorem lget_eq : ∀ {lv : List (Option AV)} {k : Nat} {v : AV}, lget lv k = some v → lv[k]? = some (some v)
  | [], _, _, h => by simp [lget] at h
  | w :: _, 0, v, h => by simp only [lget] at h; simp [h]
  | _ :: r, k + 1, v, h => by simp only [lget] at h; simpa using lget_eq h
theorem lget_of : ∀ {lv : List (Option AV)} {k : Nat} {v : AV}, lv[k]? = some (some v) → lget lv k = some v
  | [], _, _, h => by simp at h
  | w :: _, 0, v, h => by simpa [lget] using h
  | _ :: r, k + 1, v, h => by simp only [lget]; exact lget_of (by simpa using h)
theorem lset_get : ∀ {lv : List (Option AV)} {i k : Nat} {v w : Option AV}, (lset lv i v)[k]? = some w → (k = i ∧ w = v) ∨ (k ≠ i ∧ lv[k]? = some w)
  | [], i, k, v, w, h => by simp [lset] at h
  | a :: r, 0, 0, v, w, h => by simp [lset] at h; exact Or.inl ⟨rfl, h.symm⟩
  | a :: r, 0, k + 1, v, w, h => by simp [lset] at h; exact Or.inr ⟨by omega, by simpa using h⟩
  | a :: r, i + 1, 0, v, w, h => by simp [lset] at h; exact Or.inr ⟨by omega, by simpa using h⟩
  | a :: r, i + 1, k + 1, v, w, h => by
    simp only [lset, List.getElem?_cons_succ] at h
    rcases lset_get h with ⟨rfl, h2⟩ | ⟨h1, h2⟩
    · exact Or.inl ⟨rfl, h2⟩
    · exact Or.inr ⟨by omega, by simpa using h2⟩
theorem cv_cat {g : GB} {v : AV} (h : notLong (some v) = true) : ¬ (cv g v).category = 2 := by
  rcases v with z | x | r
  · simp [cv, Value.category]
  · simp [notLong] at h
  · rcases r with _ | r <;> simp [cv, va_rf, Value.category]
theorem lv_get {g : GB} {ls : Array Slot} {n : Nat} {lv : List (Option AV)} {k : Nat} {v : AV} (hl : lv_has ls n (lvc g 0 lv)) (h : lget lv k = some v) : ls[k]? = some (.val (cv g v)) :=
  hl.2.2 (k, cv g v) (lvc_mem.mpr ⟨k, v, lget_eq h, by simp⟩)
theorem lv_put1 {g : GB} {ls : Array Slot} {n : Nat} {lv : List (Option AV)} {i : Nat} {v : AV} (ho : okS lv i = true) (hl : lv_has ls n ((i, cv g v) :: (lvc g 0 lv).filter (fun q => !(q.1 == i) && !(q.1 + 1 == i && q.2.category == 2)))) : lv_has ls n (lvc g 0 (lset lv i (some v))) := by
  refine ⟨hl.1, hl.2.1, fun q hq => hl.2.2 q ?_⟩
  obtain ⟨k, w, hk, rfl⟩ := lvc_mem.mp hq
  rcases lset_get hk with ⟨rfl, h2⟩ | ⟨h1, h2⟩
  · cases h2
    simp
  · refine List.mem_cons_of_mem _ (List.mem_filter.mpr ⟨lvc_mem.mpr ⟨k, w, h2, rfl⟩, ?_⟩)
    cases i with
    | zero => simp; omega
    | succ i =>
      simp only [okS] at ho
      have hki : ¬ k = i + 1 := h1
      by_cases hk1 : k = i
      · subst hk1
        rw [lget_of h2] at ho
        have := cv_cat (g := g) ho
        simp [this]
      · simp; omega
theorem lv_put2 {g : GB} {ls : Array Slot} {n : Nat} {lv : List (Option AV)} {i : Nat} {v : AV} (ho : okS lv i = true) (hl : lv_has ls n ((i, cv g v) :: (lvc g 0 lv).filter (fun q => !(q.1 == i) && (!(q.1 == i + 1) && !(q.1 + 1 == i && q.2.category == 2))))) : lv_has ls n (lvc g 0 (lset (lset lv i (some v)) (i + 1) none)) := by
  refine ⟨hl.1, hl.2.1, fun q hq => hl.2.2 q ?_⟩
  obtain ⟨k, w, hk, rfl⟩ := lvc_mem.mp hq
  rcases lset_get hk with ⟨rfl, h2⟩ | ⟨h0, h2⟩
  · cases h2
  rcases lset_get h2 with ⟨rfl, h3⟩ | ⟨h1, h3⟩
  · cases h3
    simp
  · refine List.mem_cons_of_mem _ (List.mem_filter.mpr ⟨lvc_mem.mpr ⟨k, w, h3, rfl⟩, ?_⟩)
    cases i with
    | zero => simp; omega
    | succ i =>
      simp only [okS] at ho
      by_cases hk1 : k = i
      · subst hk1
        rw [lget_of h3] at ho
        have := cv_cat (g := g) ho
        simp [this]; omega
      · simp; omega
section WKL
variable {xs : RO} {cx : CX} {d bc bs pc q : Nat} {lv lv' : List (Option AV)} {st st' : List AV} {X : LY} {I : IM} {L : LM} {post : Option AV → LY → IM → LM → Prop}
theorem Wk.iload_n {k : Fin 4} {i : Nat} {z : Int} (hd : decode (cxC cx) pc = .ok (.iload_n k, 1)) (hi : (k : Nat) = i) (hg : lget lv i = some (vi z)) (hq : pc + 1 = q) (k : Wk xs cx d bc bs q lv (vi z :: st) X I L post) : Wk xs cx d bc bs pc lv (st) X I L post := by
  subst hq
  exact Wk.go1 (fun _ g _ _ _ _ _ _ _ _ _ _ _ _ _ _ ls hF _ _ _ hl k => lv_iload_n hF.1 hF.2.1 hd hi (lv_get hl hg) k) k
theorem Wk.iload {i : Nat} {z : Int} (hd : decode (cxC cx) pc = .ok (.iload i, 2)) (hg : lget lv i = some (vi z)) (hq : pc + 2 = q) (k : Wk xs cx d bc bs q lv (vi z :: st) X I L post) : Wk xs cx d bc bs pc lv (st) X I L post := by
  subst hq
  exact Wk.go1 (fun _ g _ _ _ _ _ _ _ _ _ _ _ _ _ _ ls hF _ _ _ hl k => lv_iload hF.1 hF.2.1 hd (lv_get hl hg) k) k
theorem Wk.lload_n {k : Fin 4} {i : Nat} {z : Int64} (hd : decode (cxC cx) pc = .ok (.lload_n k, 1)) (hi : (k : Nat) = i) (hg : lget lv i = some (vl z)) (hq : pc + 1 = q) (k : Wk xs cx d bc bs q lv (vl z :: st) X I L post) : Wk xs cx d bc bs pc lv (st) X I L post := by
  subst hq
  exact Wk.go1 (fun _ g _ _ _ _ _ _ _ _ _ _ _ _ _ _ ls hF _ _ _ hl k => lv_lload_n hF.1 hF.2.1 hd hi (lv_get hl hg) k) k
theorem Wk.lload {i : Nat} {z : Int64} (hd : decode (cxC cx) pc = .ok (.lload i, 2)) (hg : lget lv i = some (vl z)) (hq : pc + 2 = q) (k : Wk xs cx d bc bs q lv (vl z :: st) X I L post) : Wk xs cx d bc bs pc lv (st) X I L post := by
  subst hq
  exact Wk.go1 (fun _ g _ _ _ _ _ _ _ _ _ _ _ _ _ _ ls hF _ _ _ hl k => lv_lload hF.1 hF.2.1 hd (lv_get hl hg) k) k
theorem Wk.aload_n {k : Fin 4} {i : Nat} {z : Nat} (hd : decode (cxC cx) pc = .ok (.aload_n k, 1)) (hi : (k : Nat) = i) (hg : lget lv i = some (vr z)) (hq : pc + 1 = q) (k : Wk xs cx d bc bs q lv (vr z :: st) X I L post) : Wk xs cx d bc bs pc lv (st) X I L post := by
  subst hq
  exact Wk.go1 (fun _ g _ _ _ _ _ _ _ _ _ _ _ _ _ _ ls hF _ _ _ hl k => lv_aload_n hF.1 hF.2.1 hd hi (lv_get hl hg) k) k
theorem Wk.aload {i : Nat} {z : Nat} (hd : decode (cxC cx) pc = .ok (.aload i, 2)) (hg : lget lv i = some (vr z)) (hq : pc + 2 = q) (k : Wk xs cx d bc bs q lv (vr z :: st) X I L post) : Wk xs cx d bc bs pc lv (st) X I L post := by
  subst hq
  exact Wk.go1 (fun _ g _ _ _ _ _ _ _ _ _ _ _ _ _ _ ls hF _ _ _ hl k => lv_aload hF.1 hF.2.1 hd (lv_get hl hg) k) k
theorem Wk.istore_n {k : Fin 4} {i : Nat} {z : Int} (hd : decode (cxC cx) pc = .ok (.istore_n k, 1)) (hi : (k : Nat) = i) (hn : i < cxN cx) (ho : okS lv i = true) (hs : ∀ K : List (Option AV) → Prop, K lv' → lsetK lv i (some (vi z)) K) (hq : pc + 1 = q) (k : Wk xs cx d bc bs q lv' (st) X I L post) : Wk xs cx d bc bs pc lv (vi z :: st) X I L post := by
  subst hq
  exact Wk.go (fun _ g _ _ _ _ _ _ _ _ _ _ _ _ _ _ ls hF _ _ _ hl k => lv_istore_n hF.1 hF.2.1 hd hi hl hn rfl (fun ls' hl' => k ls' (lset_of hs ▸ lv_put1 ho hl'))) k
theorem Wk.istore {i : Nat} {z : Int} (hd : decode (cxC cx) pc = .ok (.istore i, 2)) (hn : i < cxN cx) (ho : okS lv i = true) (hs : ∀ K : List (Option AV) → Prop, K lv' → lsetK lv i (some (vi z)) K) (hq : pc + 2 = q) (k : Wk xs cx d bc bs q lv' (st) X I L post) : Wk xs cx d bc bs pc lv (vi z :: st) X I L post := by
  subst hq
  exact Wk.go (fun _ g _ _ _ _ _ _ _ _ _ _ _ _ _ _ ls hF _ _ _ hl k => lv_istore hF.1 hF.2.1 hd hl hn rfl (fun ls' hl' => k ls' (lset_of hs ▸ lv_put1 ho hl'))) k
theorem Wk.astore_n {k : Fin 4} {i : Nat} {z : Nat} (hd : decode (cxC cx) pc = .ok (.astore_n k, 1)) (hi : (k : Nat) = i) (hn : i < cxN cx) (ho : okS lv i = true) (hs : ∀ K : List (Option AV) → Prop, K lv' → lsetK lv i (some (vr z)) K) (hq : pc + 1 = q) (k : Wk xs cx d bc bs q lv' (st) X I L post) : Wk xs cx d bc bs pc lv (vr z :: st) X I L post := by
  subst hq
  exact Wk.go (fun _ g _ _ _ _ _ _ _ _ _ _ _ _ _ _ ls hF _ _ _ hl k => lv_astore_n hF.1 hF.2.1 hd hi hl hn rfl (fun ls' hl' => k ls' (lset_of hs ▸ lv_put1 ho hl'))) k
theorem Wk.astore {i : Nat} {z : Nat} (hd : decode (cxC cx) pc = .ok (.astore i, 2)) (hn : i < cxN cx) (ho : okS lv i = true) (hs : ∀ K : List (Option AV) → Prop, K lv' → lsetK lv i (some (vr z)) K) (hq : pc + 2 = q) (k : Wk xs cx d bc bs q lv' (st) X I L post) : Wk xs cx d bc bs pc lv (vr z :: st) X I L post := by
  subst hq
  exact Wk.go (fun _ g _ _ _ _ _ _ _ _ _ _ _ _ _ _ ls hF _ _ _ hl k => lv_astore hF.1 hF.2.1 hd hl hn rfl (fun ls' hl' => k ls' (lset_of hs ▸ lv_put1 ho hl'))) k
theorem lset2_of {lv lv' : List (Option AV)} {i : Nat} {v : Option AV} (h : ∀ K : List (Option AV) → Prop, K lv' → lsetK lv i v (fun r => lsetK r (i + 1) none K)) : lset (lset lv i v) (i + 1) none = lv' :=
  lsetK_eq _ _ _ (fun r => r = lv') (lsetK_eq lv i v (fun r => lsetK r (i + 1) none (fun r => r = lv')) (h _ rfl))
theorem Wk.lstore_n {k : Fin 4} {i : Nat} {z : Int64} (hd : decode (cxC cx) pc = .ok (.lstore_n k, 1)) (hi : (k : Nat) = i) (hn : i + 1 < cxN cx) (ho : okS lv i = true) (hs : ∀ K : List (Option AV) → Prop, K lv' → lsetK lv i (some (vl z)) (fun r => lsetK r (i + 1) none K)) (hq : pc + 1 = q) (k : Wk xs cx d bc bs q lv' (st) X I L post) : Wk xs cx d bc bs pc lv (vl z :: st) X I L post := by
  subst hq
  exact Wk.go (fun _ g _ _ _ _ _ _ _ _ _ _ _ _ _ _ ls hF _ _ _ hl k => lv_lstore_n hF.1 hF.2.1 hd hi hl hn rfl (fun ls' hl' => k ls' (lset2_of hs ▸ lv_put2 ho hl'))) k
theorem Wk.lstore {i : Nat} {z : Int64} (hd : decode (cxC cx) pc = .ok (.lstore i, 2)) (hn : i + 1 < cxN cx) (ho : okS lv i = true) (hs : ∀ K : List (Option AV) → Prop, K lv' → lsetK lv i (some (vl z)) (fun r => lsetK r (i + 1) none K)) (hq : pc + 2 = q) (k : Wk xs cx d bc bs q lv' (st) X I L post) : Wk xs cx d bc bs pc lv (vl z :: st) X I L post := by
  subst hq
  exact Wk.go (fun _ g _ _ _ _ _ _ _ _ _ _ _ _ _ _ ls hF _ _ _ hl k => lv_lstore hF.1 hF.2.1 hd hl hn rfl (fun ls' hl' => k ls' (lset2_of hs ▸ lv_put2 ho hl'))) k
theorem Wk.iinc {i : Nat} {n z : Int} (hd : decode (cxC cx) pc = .ok (.iinc i n, 3)) (hg : lget lv i = some (vi z)) (hn : i < cxN cx) (ho : okS lv i = true) (hs : ∀ K : List (Option AV) → Prop, K lv' → lsetK lv i (some (vi (z + n))) K) (hq : pc + 3 = q) (k : Wk xs cx d bc bs q lv' st X I L post) : Wk xs cx d bc bs pc lv st X I L post := by
  subst hq
  refine Wk.go (fun _ g _ _ _ _ _ _ _ _ _ _ _ _ _ _ ls hF _ _ _ hl k => ?_) k
  have hm : (i, cv g (vi z)) ∈ lvc g 0 lv := lvc_mem.mpr ⟨i, vi z, lget_eq hg, by simp⟩
  obtain ⟨j, hj⟩ := List.getElem?_of_mem hm
  exact lv_iinc (v := nZ (z + n)) hF.1 hF.2.1 hd hl hj (nZ_add z n).symm hn rfl (fun ls' hl' => k ls' (lset_of hs ▸ lv_put1 (v := vi (z + n)) ho hl'))
theorem Wk.iadd {a b : Int} (hd : decode (cxC cx) pc = .ok (.iadd, 1)) (hq : pc + 1 = q) (k : Wk xs cx d bc bs q lv (vi (a + b) :: st) X I L post) : Wk xs cx d bc bs pc lv (vi b :: vi a :: st) X I L post := by
  subst hq
  exact Wk.go1 (fun _ g _ _ _ _ _ _ _ _ _ _ _ _ _ _ ls hF _ _ _ hl k => lv_iadd hF.1 hF.2.1 hd (by have k2 := k; simp only [List.map, cv, vi, nZ_add] at k2; exact k2)) k
theorem Wk.isub {a b : Int} (hd : decode (cxC cx) pc = .ok (.isub, 1)) (hq : pc + 1 = q) (k : Wk xs cx d bc bs q lv (vi (a - b) :: st) X I L post) : Wk xs cx d bc bs pc lv (vi b :: vi a :: st) X I L post := by
  subst hq
  exact Wk.go1 (fun _ g _ _ _ _ _ _ _ _ _ _ _ _ _ _ ls hF _ _ _ hl k => lv_isub hF.1 hF.2.1 hd (by have k2 := k; simp only [List.map, cv, vi, nZ_sub] at k2; exact k2)) k
theorem Wk.imul {a b : Int} (hd : decode (cxC cx) pc = .ok (.imul, 1)) (hq : pc + 1 = q) (k : Wk xs cx d bc bs q lv (vi (a * b) :: st) X I L post) : Wk xs cx d bc bs pc lv (vi b :: vi a :: st) X I L post := by
  subst hq
  exact Wk.go1 (fun _ g _ _ _ _ _ _ _ _ _ _ _ _ _ _ ls hF _ _ _ hl k => lv_imul hF.1 hF.2.1 hd (by have k2 := k; simp only [List.map, cv, vi, nZ_mul] at k2; exact k2)) k
theorem Wk.ineg {a : Int} (hd : decode (cxC cx) pc = .ok (.ineg, 1)) (hq : pc + 1 = q) (k : Wk xs cx d bc bs q lv (vi (-a) :: st) X I L post) : Wk xs cx d bc bs pc lv (vi a :: st) X I L post := by
  subst hq
  exact Wk.go1 (fun _ g _ _ _ _ _ _ _ _ _ _ _ _ _ _ ls hF _ _ _ hl k => lv_ineg hF.1 hF.2.1 hd (by have k2 := k; simp only [List.map, cv, vi, nZ_neg] at k2; exact k2)) k
theorem nZ_div {a b : Int} (ha : 0 ≤ a ∧ a ≤ 2147483647) (hb : 0 < b ∧ b ≤ 2147483647) : nZ (a / b) = nZ a / nZ b := by
  rw [← Int.tdiv_eq_ediv_of_nonneg ha.1]
  have e1 : Int32.minValue.toInt = -2147483648 := by decide
  have e2 : Int32.maxValue.toInt = 2147483647 := by decide
  exact Int32.ofInt_tdiv (by rw [e1]; omega) (by rw [e2]; omega) (by rw [e1]; omega) (by rw [e2]; omega)
theorem nZ_rem {a b : Int} (ha : 0 ≤ a ∧ a ≤ 2147483647) (hb : 0 < b ∧ b ≤ 2147483647) : nZ (a % b) = nZ a - nZ a / nZ b * nZ b := by
  rw [Int.emod_def, nZ_sub, Int.mul_comm, nZ_mul, nZ_div ha hb]
theorem nZ_ne0 {b : Int} (hb : 0 < b ∧ b ≤ 2147483647) : ¬ nZ b = 0 := by
  intro h
  rw [← nZ_0, nZ_eq (by omega) (by omega)] at h
  omega
theorem Wk.idiv {a b : Int} (hd : decode (cxC cx) pc = .ok (.idiv, 1)) (ha : 0 ≤ a ∧ a ≤ 2147483647) (hb : 0 < b ∧ b ≤ 2147483647) (hq : pc + 1 = q) (k : Wk xs cx d bc bs q lv (vi (a / b) :: st) X I L post) : Wk xs cx d bc bs pc lv (vi b :: vi a :: st) X I L post := by
  subst hq
  exact Wk.go1 (fun _ g _ _ _ _ _ _ _ _ _ _ _ _ _ _ ls hF _ _ _ hl k => lv_idiv hF.1 hF.2.1 hd (nZ_ne0 hb) (by have k2 := k; simp only [List.map, cv, vi, nZ_div ha hb] at k2; exact k2)) k
theorem Wk.irem {a b : Int} (hd : decode (cxC cx) pc = .ok (.irem, 1)) (ha : 0 ≤ a ∧ a ≤ 2147483647) (hb : 0 < b ∧ b ≤ 2147483647) (hq : pc + 1 = q) (k : Wk xs cx d bc bs q lv (vi (a % b) :: st) X I L post) : Wk xs cx d bc bs pc lv (vi b :: vi a :: st) X I L post := by
  subst hq
  exact Wk.go1 (fun _ g _ _ _ _ _ _ _ _ _ _ _ _ _ _ ls hF _ _ _ hl k => lv_irem hF.1 hF.2.1 hd (nZ_ne0 hb) (by have k2 := k; simp only [List.map, cv, vi, nZ_rem ha hb] at k2; exact k2)) k
theorem Wk.iand {a b : Int} (hd : decode (cxC cx) pc = .ok (.iand, 1)) (hq : pc + 1 = q) (k : Wk xs cx d bc bs q lv (vi (nZ a &&& nZ b).toInt :: st) X I L post) : Wk xs cx d bc bs pc lv (vi b :: vi a :: st) X I L post := by
  subst hq
  exact Wk.go1 (fun _ g _ _ _ _ _ _ _ _ _ _ _ _ _ _ ls hF _ _ _ hl k => lv_iand hF.1 hF.2.1 hd (by have k2 := k; simp only [List.map, cv, vi, nZ_self] at k2; exact k2)) k
theorem Wk.ior {a b : Int} (hd : decode (cxC cx) pc = .ok (.ior, 1)) (hq : pc + 1 = q) (k : Wk xs cx d bc bs q lv (vi (nZ a ||| nZ b).toInt :: st) X I L post) : Wk xs cx d bc bs pc lv (vi b :: vi a :: st) X I L post := by
  subst hq
  exact Wk.go1 (fun _ g _ _ _ _ _ _ _ _ _ _ _ _ _ _ ls hF _ _ _ hl k => lv_ior hF.1 hF.2.1 hd (by have k2 := k; simp only [List.map, cv, vi, nZ_self] at k2; exact k2)) k
theorem Wk.ixor {a b : Int} (hd : decode (cxC cx) pc = .ok (.ixor, 1)) (hq : pc + 1 = q) (k : Wk xs cx d bc bs q lv (vi (nZ a ^^^ nZ b).toInt :: st) X I L post) : Wk xs cx d bc bs pc lv (vi b :: vi a :: st) X I L post := by
  subst hq
  exact Wk.go1 (fun _ g _ _ _ _ _ _ _ _ _ _ _ _ _ _ ls hF _ _ _ hl k => lv_ixor hF.1 hF.2.1 hd (by have k2 := k; simp only [List.map, cv, vi, nZ_self] at k2; exact k2)) k
theorem Wk.ishl {a b : Int} (hd : decode (cxC cx) pc = .ok (.ishl, 1)) (hq : pc + 1 = q) (k : Wk xs cx d bc bs q lv (vi (nZ a <<< (nZ b &&& 31)).toInt :: st) X I L post) : Wk xs cx d bc bs pc lv (vi b :: vi a :: st) X I L post := by
  subst hq
  exact Wk.go1 (fun _ g _ _ _ _ _ _ _ _ _ _ _ _ _ _ ls hF _ _ _ hl k => lv_ishl hF.1 hF.2.1 hd (by have k2 := k; simp only [List.map, cv, vi, nZ_self] at k2; exact k2)) k
theorem Wk.ishr {a b : Int} (hd : decode (cxC cx) pc = .ok (.ishr, 1)) (hq : pc + 1 = q) (k : Wk xs cx d bc bs q lv (vi (nZ a >>> (nZ b &&& 31)).toInt :: st) X I L post) : Wk xs cx d bc bs pc lv (vi b :: vi a :: st) X I L post := by
  subst hq
  exact Wk.go1 (fun _ g _ _ _ _ _ _ _ _ _ _ _ _ _ _ ls hF _ _ _ hl k => lv_ishr hF.1 hF.2.1 hd (by have k2 := k; simp only [List.map, cv, vi, nZ_self] at k2; exact k2)) k
theorem Wk.iushr {a b : Int} (hd : decode (cxC cx) pc = .ok (.iushr, 1)) (hq : pc + 1 = q) (k : Wk xs cx d bc bs q lv (vi ((nZ a).toUInt32 >>> ((nZ b).toUInt32 &&& Int32.toUInt32 31)).toInt32.toInt :: st) X I L post) : Wk xs cx d bc bs pc lv (vi b :: vi a :: st) X I L post := by
  subst hq
  exact Wk.go1 (fun _ g _ _ _ _ _ _ _ _ _ _ _ _ _ _ ls hF _ _ _ hl k => lv_iushr hF.1 hF.2.1 hd rfl (by have k2 := k; simp only [List.map, cv, vi, nZ_self] at k2; exact k2)) k
theorem Wk.ladd {a b : Int64} (hd : decode (cxC cx) pc = .ok (.ladd, 1)) (hq : pc + 1 = q) (k : Wk xs cx d bc bs q lv (vl (a + b) :: st) X I L post) : Wk xs cx d bc bs pc lv (vl b :: vl a :: st) X I L post := by
  subst hq
  exact Wk.go1 (fun _ g _ _ _ _ _ _ _ _ _ _ _ _ _ _ ls hF _ _ _ hl k => lv_ladd hF.1 hF.2.1 hd k) k
theorem Wk.lsub {a b : Int64} (hd : decode (cxC cx) pc = .ok (.lsub, 1)) (hq : pc + 1 = q) (k : Wk xs cx d bc bs q lv (vl (a - b) :: st) X I L post) : Wk xs cx d bc bs pc lv (vl b :: vl a :: st) X I L post := by
  subst hq
  exact Wk.go1 (fun _ g _ _ _ _ _ _ _ _ _ _ _ _ _ _ ls hF _ _ _ hl k => lv_lsub hF.1 hF.2.1 hd k) k
theorem Wk.lmul {a b : Int64} (hd : decode (cxC cx) pc = .ok (.lmul, 1)) (hq : pc + 1 = q) (k : Wk xs cx d bc bs q lv (vl (a * b) :: st) X I L post) : Wk xs cx d bc bs pc lv (vl b :: vl a :: st) X I L post := by
  subst hq
  exact Wk.go1 (fun _ g _ _ _ _ _ _ _ _ _ _ _ _ _ _ ls hF _ _ _ hl k => lv_lmul hF.1 hF.2.1 hd k) k
theorem Wk.land {a b : Int64} (hd : decode (cxC cx) pc = .ok (.land, 1)) (hq : pc + 1 = q) (k : Wk xs cx d bc bs q lv (vl (a &&& b) :: st) X I L post) : Wk xs cx d bc bs pc lv (vl b :: vl a :: st) X I L post := by
  subst hq
  exact Wk.go1 (fun _ g _ _ _ _ _ _ _ _ _ _ _ _ _ _ ls hF _ _ _ hl k => lv_land hF.1 hF.2.1 hd k) k
theorem Wk.lor {a b : Int64} (hd : decode (cxC cx) pc = .ok (.lor, 1)) (hq : pc + 1 = q) (k : Wk xs cx d bc bs q lv (vl (a ||| b) :: st) X I L post) : Wk xs cx d bc bs pc lv (vl b :: vl a :: st) X I L post := by
  subst hq
  exact Wk.go1 (fun _ g _ _ _ _ _ _ _ _ _ _ _ _ _ _ ls hF _ _ _ hl k => lv_lor hF.1 hF.2.1 hd k) k
theorem Wk.lxor {a b : Int64} (hd : decode (cxC cx) pc = .ok (.lxor, 1)) (hq : pc + 1 = q) (k : Wk xs cx d bc bs q lv (vl (a ^^^ b) :: st) X I L post) : Wk xs cx d bc bs pc lv (vl b :: vl a :: st) X I L post := by
  subst hq
  exact Wk.go1 (fun _ g _ _ _ _ _ _ _ _ _ _ _ _ _ _ ls hF _ _ _ hl k => lv_lxor hF.1 hF.2.1 hd k) k
theorem Wk.lushr {a : Int64} {b : Int} (hd : decode (cxC cx) pc = .ok (.lushr, 1)) (hq : pc + 1 = q) (k : Wk xs cx d bc bs q lv (vl (a.toUInt64 >>> ((nZ b).toInt64.toUInt64 &&& Int64.toUInt64 63)).toInt64 :: st) X I L post) : Wk xs cx d bc bs pc lv (vi b :: vl a :: st) X I L post := by
  subst hq
  exact Wk.go1 (fun _ g _ _ _ _ _ _ _ _ _ _ _ _ _ _ ls hF _ _ _ hl k => lv_lushr hF.1 hF.2.1 hd rfl k) k
theorem Wk.lshl {a : Int64} {b : Int} (hd : decode (cxC cx) pc = .ok (.lshl, 1)) (hq : pc + 1 = q) (k : Wk xs cx d bc bs q lv (vl (a <<< ((nZ b).toInt64 &&& 63)) :: st) X I L post) : Wk xs cx d bc bs pc lv (vi b :: vl a :: st) X I L post := by
  subst hq
  exact Wk.go1 (fun _ g _ _ _ _ _ _ _ _ _ _ _ _ _ _ ls hF _ _ _ hl k => lv_lshl hF.1 hF.2.1 hd rfl k) k
theorem Wk.i2l {a : Int} (hd : decode (cxC cx) pc = .ok (.i2l, 1)) (hq : pc + 1 = q) (k : Wk xs cx d bc bs q lv (vl (nZ a).toInt64 :: st) X I L post) : Wk xs cx d bc bs pc lv (vi a :: st) X I L post := by
  subst hq
  exact Wk.go1 (fun _ g _ _ _ _ _ _ _ _ _ _ _ _ _ _ ls hF _ _ _ hl k => lv_i2l hF.1 hF.2.1 hd rfl k) k
theorem Wk.l2i {a : Int64} (hd : decode (cxC cx) pc = .ok (.l2i, 1)) (hq : pc + 1 = q) (k : Wk xs cx d bc bs q lv (vi a.toInt32.toInt :: st) X I L post) : Wk xs cx d bc bs pc lv (vl a :: st) X I L post := by
  subst hq
  exact Wk.go1 (fun _ g _ _ _ _ _ _ _ _ _ _ _ _ _ _ ls hF _ _ _ hl k => lv_l2i hF.1 hF.2.1 hd rfl (by have k2 := k; simp only [List.map, cv, vi, nZ_self] at k2; exact k2)) k
theorem Wk.dup {v : AV} (hd : decode (cxC cx) pc = .ok (.dup, 1)) (hv : notLong (some v) = true) (hq : pc + 1 = q) (k : Wk xs cx d bc bs q lv (v :: v :: st) X I L post) : Wk xs cx d bc bs pc lv (v :: st) X I L post := by
  subst hq
  exact Wk.go1 (fun _ g _ _ _ _ _ _ _ _ _ _ _ _ _ _ ls hF _ _ _ hl k => lv_dup hF.1 hF.2.1 hd ((lv_cat _).resolve_right (cv_cat hv)) k) k
theorem Wk.pop {v : AV} (hd : decode (cxC cx) pc = .ok (.pop, 1)) (hv : notLong (some v) = true) (hq : pc + 1 = q) (k : Wk xs cx d bc bs q lv (st) X I L post) : Wk xs cx d bc bs pc lv (v :: st) X I L post := by
  subst hq
  exact Wk.go1 (fun _ g _ _ _ _ _ _ _ _ _ _ _ _ _ _ ls hF _ _ _ hl k => lv_pop hF.1 hF.2.1 hd ((lv_cat _).resolve_right (cv_cat hv)) k) k
theorem Wk.dup2 {v w : AV} (hd : decode (cxC cx) pc = .ok (.dup2, 1)) (hv : notLong (some v) = true) (hw : notLong (some w) = true) (hq : pc + 1 = q) (k : Wk xs cx d bc bs q lv (v :: w :: v :: w :: st) X I L post) : Wk xs cx d bc bs pc lv (v :: w :: st) X I L post := by
  subst hq
  exact Wk.go1 (fun _ g _ _ _ _ _ _ _ _ _ _ _ _ _ _ ls hF _ _ _ hl k => lv_dup2_11 hF.1 hF.2.1 hd ((lv_cat _).resolve_right (cv_cat hv)) ((lv_cat _).resolve_right (cv_cat hw)) k) k
theorem Wk.goto {off : Int} (hd : decode (cxC cx) pc = .ok (.goto off, 3)) (ht : (pc : Int) + off = (q : Int)) (k : Wk xs cx d bc bs q lv st X I L post) : Wk xs cx d bc bs pc lv st X I L post :=
  Wk.go1 (fun _ g _ _ _ _ _ _ _ _ _ _ _ _ _ _ ls hF _ _ _ hl k => lv_goto hF.1 hF.2.1 hd ht k) k
/-- a branch: two ways on -/
theorem Wk.two {A B : Prop} {t : Nat} (h : ∀ (l : Launch) (g : GB) (p : Program) (e : Env) (R : Room) (s : State) (m : MethodId) (args : Array Value) (below : List Frame) (meth : Method) (c : Code) (Q : State → Prop) (H : Heap) (locs : List Loc) (cells slots : Nat) (ls : Array Slot),
    FOK g xs cx d p R s m args meth c → (A → W p l e R s m args below meth c H locs cells slots Q (F0 m t ls (st'.map (cv g)))) → (B → W p l e R s m args below meth c H locs cells slots Q (F0 m q ls (st'.map (cv g)))) → W p l e R s m args below meth c H locs cells slots Q (F0 m pc ls (st.map (cv g))))
    (kt : A → Wk xs cx d bc bs t lv st' X I L post) (kf : B → Wk xs cx d bc bs q lv st' X I L post) : Wk xs cx d bc bs pc lv st X I L post := by
  intro l g p e R s m args below meth c Q H locs cells slots ls hF hc hs hR hE hl hex
  exact h l g p e R s m args below meth c Q H locs cells slots ls hF (fun a => kt a l g p e R s m args below meth c Q H locs cells slots ls hF hc hs hR hE hl hex) (fun b => kf b l g p e R s m args below meth c Q H locs cells slots ls hF hc hs hR hE hl hex)
theorem Wk.icmp_eq {a b off : Int} {t : Nat} (hd : decode (cxC cx) pc = .ok (.if_icmp .eq off, 3)) (ht : (pc : Int) + off = (t : Int)) (hq : pc + 3 = q) (ha : -2147483648 ≤ a ∧ a ≤ 2147483647) (hb : -2147483648 ≤ b ∧ b ≤ 2147483647) (kt : a = b → Wk xs cx d bc bs t lv st X I L post) (kf : ¬ a = b → Wk xs cx d bc bs q lv st X I L post) : Wk xs cx d bc bs pc lv (vi b :: vi a :: st) X I L post := by
  subst hq
  exact Wk.two (fun _ g _ _ _ _ _ _ _ _ _ _ _ _ _ _ ls hF kt kf => lv_icmp_eq hF.1 hF.2.1 hd ht (fun h => kt ((nZ_eq ha hb).mp h)) (fun h => kf (fun z => h ((nZ_eq ha hb).mpr z)))) kt kf
theorem Wk.if_eq {a off : Int} {t : Nat} (hd : decode (cxC cx) pc = .ok (.ifCond .eq off, 3)) (ht : (pc : Int) + off = (t : Int)) (hq : pc + 3 = q) (ha : -2147483648 ≤ a ∧ a ≤ 2147483647) (kt : a = 0 → Wk xs cx d bc bs t lv st X I L post) (kf : ¬ a = 0 → Wk xs cx d bc bs q lv st X I L post) : Wk xs cx d bc bs pc lv (vi a :: st) X I L post := by
  subst hq
  have h00 : -2147483648 ≤ (0 : Int) ∧ (0 : Int) ≤ 2147483647 := by omega
  exact Wk.two (fun _ g _ _ _ _ _ _ _ _ _ _ _ _ _ _ ls hF kt kf => lv_if_eq hF.1 hF.2.1 hd ht (fun h => by rw [← nZ_0] at h; exact kt ((nZ_eq ha h00).mp h)) (fun h => by rw [← nZ_0] at h; exact kf (fun z => h ((nZ_eq ha h00).mpr z)))) kt kf
theorem Wk.icmp_ne {a b off : Int} {t : Nat} (hd : decode (cxC cx) pc = .ok (.if_icmp .ne off, 3)) (ht : (pc : Int) + off = (t : Int)) (hq : pc + 3 = q) (ha : -2147483648 ≤ a ∧ a ≤ 2147483647) (hb : -2147483648 ≤ b ∧ b ≤ 2147483647) (kt : ¬ a = b → Wk xs cx d bc bs t lv st X I L post) (kf : a = b → Wk xs cx d bc bs q lv st X I L post) : Wk xs cx d bc bs pc lv (vi b :: vi a :: st) X I L post := by
  subst hq
  exact Wk.two (fun _ g _ _ _ _ _ _ _ _ _ _ _ _ _ _ ls hF kt kf => lv_icmp_ne hF.1 hF.2.1 hd ht (fun h => kt (fun z => h ((nZ_eq ha hb).mpr z))) (fun h => kf ((nZ_eq ha hb).mp h))) kt kf
theorem Wk.if_ne {a off : Int} {t : Nat} (hd : decode (cxC cx) pc = .ok (.ifCond .ne off, 3)) (ht : (pc : Int) + off = (t : Int)) (hq : pc + 3 = q) (ha : -2147483648 ≤ a ∧ a ≤ 2147483647) (kt : ¬ a = 0 → Wk xs cx d bc bs t lv st X I L post) (kf : a = 0 → Wk xs cx d bc bs q lv st X I L post) : Wk xs cx d bc bs pc lv (vi a :: st) X I L post := by
  subst hq
  have h00 : -2147483648 ≤ (0 : Int) ∧ (0 : Int) ≤ 2147483647 := by omega
  exact Wk.two (fun _ g _ _ _ _ _ _ _ _ _ _ _ _ _ _ ls hF kt kf => lv_if_ne hF.1 hF.2.1 hd ht (fun h => by rw [← nZ_0] at h; exact kt (fun z => h ((nZ_eq ha h00).mpr z))) (fun h => by rw [← nZ_0] at h; exact kf ((nZ_eq ha h00).mp h))) kt kf
theorem Wk.icmp_lt {a b off : Int} {t : Nat} (hd : decode (cxC cx) pc = .ok (.if_icmp .lt off, 3)) (ht : (pc : Int) + off = (t : Int)) (hq : pc + 3 = q) (ha : -2147483648 ≤ a ∧ a ≤ 2147483647) (hb : -2147483648 ≤ b ∧ b ≤ 2147483647) (kt : a < b → Wk xs cx d bc bs t lv st X I L post) (kf : b ≤ a → Wk xs cx d bc bs q lv st X I L post) : Wk xs cx d bc bs pc lv (vi b :: vi a :: st) X I L post := by
  subst hq
  exact Wk.two (fun _ g _ _ _ _ _ _ _ _ _ _ _ _ _ _ ls hF kt kf => lv_icmp_lt hF.1 hF.2.1 hd ht (fun h => kt ((nZ_lt ha hb).mp h)) (fun h => kf (Int.not_lt.mp (fun z => h ((nZ_lt ha hb).mpr z))))) kt kf
theorem Wk.if_lt {a off : Int} {t : Nat} (hd : decode (cxC cx) pc = .ok (.ifCond .lt off, 3)) (ht : (pc : Int) + off = (t : Int)) (hq : pc + 3 = q) (ha : -2147483648 ≤ a ∧ a ≤ 2147483647) (kt : a < 0 → Wk xs cx d bc bs t lv st X I L post) (kf : 0 ≤ a → Wk xs cx d bc bs q lv st X I L post) : Wk xs cx d bc bs pc lv (vi a :: st) X I L post := by
  subst hq
  have h00 : -2147483648 ≤ (0 : Int) ∧ (0 : Int) ≤ 2147483647 := by omega
  exact Wk.two (fun _ g _ _ _ _ _ _ _ _ _ _ _ _ _ _ ls hF kt kf => lv_if_lt hF.1 hF.2.1 hd ht (fun h => by rw [← nZ_0] at h; exact kt ((nZ_lt ha h00).mp h)) (fun h => by rw [← nZ_0] at h; exact kf (Int.not_lt.mp (fun z => h ((nZ_lt ha h00).mpr z))))) kt kf
theorem Wk.icmp_ge {a b off : Int} {t : Nat} (hd : decode (cxC cx) pc = .ok (.if_icmp .ge off, 3)) (ht : (pc : Int) + off = (t : Int)) (hq : pc + 3 = q) (ha : -2147483648 ≤ a ∧ a ≤ 2147483647) (hb : -2147483648 ≤ b ∧ b ≤ 2147483647) (kt : b ≤ a → Wk xs cx d bc bs t lv st X I L post) (kf : a < b → Wk xs cx d bc bs q lv st X I L post) : Wk xs cx d bc bs pc lv (vi b :: vi a :: st) X I L post := by
  subst hq
  exact Wk.two (fun _ g _ _ _ _ _ _ _ _ _ _ _ _ _ _ ls hF kt kf => lv_icmp_ge hF.1 hF.2.1 hd ht (fun h => kt ((nZ_le hb ha).mp h)) (fun h => kf (Int.not_le.mp (fun z => h ((nZ_le hb ha).mpr z))))) kt kf
theorem Wk.if_ge {a off : Int} {t : Nat} (hd : decode (cxC cx) pc = .ok (.ifCond .ge off, 3)) (ht : (pc : Int) + off = (t : Int)) (hq : pc + 3 = q) (ha : -2147483648 ≤ a ∧ a ≤ 2147483647) (kt : 0 ≤ a → Wk xs cx d bc bs t lv st X I L post) (kf : a < 0 → Wk xs cx d bc bs q lv st X I L post) : Wk xs cx d bc bs pc lv (vi a :: st) X I L post := by
  subst hq
  have h00 : -2147483648 ≤ (0 : Int) ∧ (0 : Int) ≤ 2147483647 := by omega
  exact Wk.two (fun _ g _ _ _ _ _ _ _ _ _ _ _ _ _ _ ls hF kt kf => lv_if_ge hF.1 hF.2.1 hd ht (fun h => by rw [← nZ_0] at h; exact kt ((nZ_le h00 ha).mp h)) (fun h => by rw [← nZ_0] at h; exact kf (Int.not_le.mp (fun z => h ((nZ_le h00 ha).mpr z))))) kt kf
theorem Wk.icmp_gt {a b off : Int} {t : Nat} (hd : decode (cxC cx) pc = .ok (.if_icmp .gt off, 3)) (ht : (pc : Int) + off = (t : Int)) (hq : pc + 3 = q) (ha : -2147483648 ≤ a ∧ a ≤ 2147483647) (hb : -2147483648 ≤ b ∧ b ≤ 2147483647) (kt : b < a → Wk xs cx d bc bs t lv st X I L post) (kf : a ≤ b → Wk xs cx d bc bs q lv st X I L post) : Wk xs cx d bc bs pc lv (vi b :: vi a :: st) X I L post := by
  subst hq
  exact Wk.two (fun _ g _ _ _ _ _ _ _ _ _ _ _ _ _ _ ls hF kt kf => lv_icmp_gt hF.1 hF.2.1 hd ht (fun h => kt ((nZ_lt hb ha).mp h)) (fun h => kf (Int.not_lt.mp (fun z => h ((nZ_lt hb ha).mpr z))))) kt kf
theorem Wk.if_gt {a off : Int} {t : Nat} (hd : decode (cxC cx) pc = .ok (.ifCond .gt off, 3)) (ht : (pc : Int) + off = (t : Int)) (hq : pc + 3 = q) (ha : -2147483648 ≤ a ∧ a ≤ 2147483647) (kt : 0 < a → Wk xs cx d bc bs t lv st X I L post) (kf : a ≤ 0 → Wk xs cx d bc bs q lv st X I L post) : Wk xs cx d bc bs pc lv (vi a :: st) X I L post := by
  subst hq
  have h00 : -2147483648 ≤ (0 : Int) ∧ (0 : Int) ≤ 2147483647 := by omega
  exact Wk.two (fun _ g _ _ _ _ _ _ _ _ _ _ _ _ _ _ ls hF kt kf => lv_if_gt hF.1 hF.2.1 hd ht (fun h => by rw [← nZ_0] at h; exact kt ((nZ_lt h00 ha).mp h)) (fun h => by rw [← nZ_0] at h; exact kf (Int.not_lt.mp (fun z => h ((nZ_lt h00 ha).mpr z))))) kt kf
theorem Wk.icmp_le {a b off : Int} {t : Nat} (hd : decode (cxC cx) pc = .ok (.if_icmp .le off, 3)) (ht : (pc : Int) + off = (t : Int)) (hq : pc + 3 = q) (ha : -2147483648 ≤ a ∧ a ≤ 2147483647) (hb : -2147483648 ≤ b ∧ b ≤ 2147483647) (kt : a ≤ b → Wk xs cx d bc bs t lv st X I L post) (kf : b < a → Wk xs cx d bc bs q lv st X I L post) : Wk xs cx d bc bs pc lv (vi b :: vi a :: st) X I L post := by
  subst hq
  exact Wk.two (fun _ g _ _ _ _ _ _ _ _ _ _ _ _ _ _ ls hF kt kf => lv_icmp_le hF.1 hF.2.1 hd ht (fun h => kt ((nZ_le ha hb).mp h)) (fun h => kf (Int.not_le.mp (fun z => h ((nZ_le ha hb).mpr z))))) kt kf
theorem Wk.if_le {a off : Int} {t : Nat} (hd : decode (cxC cx) pc = .ok (.ifCond .le off, 3)) (ht : (pc : Int) + off = (t : Int)) (hq : pc + 3 = q) (ha : -2147483648 ≤ a ∧ a ≤ 2147483647) (kt : a ≤ 0 → Wk xs cx d bc bs t lv st X I L post) (kf : 0 < a → Wk xs cx d bc bs q lv st X I L post) : Wk xs cx d bc bs pc lv (vi a :: st) X I L post := by
  subst hq
  have h00 : -2147483648 ≤ (0 : Int) ∧ (0 : Int) ≤ 2147483647 := by omega
  exact Wk.two (fun _ g _ _ _ _ _ _ _ _ _ _ _ _ _ _ ls hF kt kf => lv_if_le hF.1 hF.2.1 hd ht (fun h => by rw [← nZ_0] at h; exact kt ((nZ_le ha h00).mp h)) (fun h => by rw [← nZ_0] at h; exact kf (Int.not_le.mp (fun z => h ((nZ_le ha h00).mpr z))))) kt kf
end WKL
end
section
/-! Wk's rows for the memory: fields, arrays, statics, the script, new cells -/
def iup (I : IM) (id : Nat) (z v : Int) : IM := fun a b => if a = id ∧ b = z then v else I a b
def lup (L : LM) (id : Nat) (z : Int) (v : Int64) : LM := fun a b => if a = id ∧ b = z then v else L a b
def sup (X : LY) (id : Nat) (S : SH) : LY := (X.1, fun k => if k = id then S else X.2 k)
theorem ent_cong {g : GB} {S : SH} {I I' : IM} {L L' : LM} {k : Nat} (hI : I' k = I k) (hL : L' k = L k) : ent g S I' L' k = ent g S I L k := by
  unfold ent entO
  rw [hI, hL]
theorem wsOf_set {g : GB} {X X' : LY} {I I' : IM} {L L' : LM} {id : Nat} {e : va_E} (hn : X'.1 = X.1) (hk : ∀ k, k ≠ id → X'.2 k = X.2 k ∧ I' k = I k ∧ L' k = L k) (he : ent g (X'.2 id) I' L' id = e) : (wsOf g X I L).set id (ad g id, e) = wsOf g X' I' L' := by
  apply List.ext_getElem?
  intro k
  by_cases hkn : k < X.1
  · rw [wsOf_at (by rw [hn]; exact hkn)]
    by_cases h : k = id
    · subst h
      rw [List.getElem?_set_self (by simpa [wsOf] using hkn), he]
    · rw [List.getElem?_set_ne (Ne.symm h), wsOf_at hkn]
      obtain ⟨h1, h2, h3⟩ := hk k h
      rw [h1, ent_cong h2 h3]
  · have e1 : (wsOf g X' I' L')[k]? = none := by simp [wsOf, hn]; omega
    have e2 : ((wsOf g X I L).set id (ad g id, e))[k]? = none := by simp [wsOf]; omega
    rw [e1, e2]
theorem wsOf_push {g : GB} {X X' : LY} {I I' : IM} {L L' : LM} {e : va_E} (hn : X'.1 = X.1 + 1) (hk : ∀ k, k < X.1 → X'.2 k = X.2 k ∧ I' k = I k ∧ L' k = L k) (he : ent g (X'.2 X.1) I' L' X.1 = e) : wsOf g X I L ++ [(ad g X.1, e)] = wsOf g X' I' L' := by
  unfold wsOf
  rw [hn, List.range_succ, List.map_append]
  congr 1
  · refine List.map_congr_left fun i hi => ?_
    obtain ⟨h1, h2, h3⟩ := hk i (List.mem_range.mp hi)
    rw [h1, ent_cong h2 h3]
  · simp [he]
theorem iup_other {I : IM} {id : Nat} {z v : Int} {k : Nat} (h : k ≠ id) : iup I id z v k = I k := by
  funext b
  simp [iup, h]
theorem lup_other {L : LM} {id : Nat} {z : Int} {v : Int64} {k : Nat} (h : k ≠ id) : lup L id z v k = L k := by
  funext b
  simp [lup, h]
/-- shapes of cells -/
def isO (X : LY) (id ci n : Nat) : Prop := id < X.1 ∧ (X.2 id).1 = ci ∧ (X.2 id).2.1 = n ∧ ci < 10
def isA (X : LY) (id tg : Nat) (N : Int) : Prop := id < X.1 ∧ (X.2 id).1 = tg ∧ ((X.2 id).2.1 : Int) = N ∧ N ≤ 1000000
theorem ent_o {g : GB} {X : LY} {I : IM} {L : LM} {id ci n : Nat} (h : isO X id ci n) : (wsOf g X I L)[id]? = some (ad g id, .inr (ci, entO g I id ci n (X.2 id).2.2)) := by
  obtain ⟨h1, h2, h3, h4⟩ := h
  rw [wsOf_at h1, ent, h2, h3, if_pos h4]
theorem ent_i {g : GB} {X : LY} {I : IM} {L : LM} {id : Nat} {N : Int} (h : isA X id 10 N) : (wsOf g X I L)[id]? = some (ad g id, .inl (g.2.2.2 10, (X.2 id).2.1, .inl fun j => nZ (I id (j : Int)))) := by
  obtain ⟨h1, h2, h3, -⟩ := h
  rw [wsOf_at h1, ent, h2, if_neg (by omega), if_neg (by omega), if_pos (by omega)]
theorem ent_z {g : GB} {X : LY} {I : IM} {L : LM} {id : Nat} {N : Int} (h : isA X id 12 N) : (wsOf g X I L)[id]? = some (ad g id, .inl (g.2.2.2 12, (X.2 id).2.1, .inl fun j => nZ (I id (j : Int)))) := by
  obtain ⟨h1, h2, h3, -⟩ := h
  rw [wsOf_at h1, ent, h2, if_neg (by omega), if_neg (by omega), if_pos (by omega)]
theorem ent_l {g : GB} {X : LY} {I : IM} {L : LM} {id : Nat} {N : Int} (h : isA X id 11 N) : (wsOf g X I L)[id]? = some (ad g id, .inl (g.2.2.2 11, (X.2 id).2.1, .inr (.inl fun j => L id (j : Int)))) := by
  obtain ⟨h1, h2, h3, -⟩ := h
  rw [wsOf_at h1, ent, h2, if_neg (by omega), if_pos rfl]
theorem ent_q {g : GB} {X : LY} {I : IM} {L : LM} {id tg : Nat} {N : Int} (h : isA X id tg N) (ht : tg = 13 ∨ tg = 14) : (wsOf g X I L)[id]? = some (ad g id, .inl (g.2.2.2 tg, (X.2 id).2.1, .inr (.inr (.inr (.inr fun j => ((X.2 id).2.2 j).map (ad g)))))) := by
  obtain ⟨h1, h2, h3, -⟩ := h
  rw [wsOf_at h1, ent, h2, if_neg (by omega), if_neg (by omega), if_neg (by omega)]
theorem entO_at {g : GB} {I : IM} {id ci n k : Nat} {rf : Nat → Option Nat} (hk : k < n) : (entO g I id ci n rf)[k]? = some (if rk ci k = true then va_rf ((rf k).map (ad g)) else .int (nZ (I id (k : Int)))) := by
  simp [entO, hk]
section WKM
variable {xs : RO} {cx : CX} {d bc bs pc q : Nat} {lv lv' : List (Option AV)} {st st' : List AV} {X : LY} {I : IM} {L : LM} {post : Option AV → LY → IM → LM → Prop}
theorem Wk.getI {idx ci n id k : Nat} {z : Int} (hF : FL (cxO cx) idx ci k) (hd : decode (cxC cx) pc = .ok (.getfield idx, 3)) (hO : isO X id ci n) (hk : k < n) (hr : rk ci k = false) (hz : (k : Int) = z) (hq : pc + 3 = q) (kk : Wk xs cx d bc bs q lv (vi (I id z) :: st) X I L post) : Wk xs cx d bc bs pc lv (vr id :: st) X I L post := by
  subst hq; subst hz
  obtain ⟨C, T, N, ty0, hC, hkN, hlk⟩ := hF
  refine Wk.go1 (fun _ g _ _ _ _ _ _ _ _ _ _ _ _ _ _ ls hF _ _ hR hl k2 => ?_) kk
  exact va_get (D := g.2.2.1) (cl := cls0) hF.1 hF.2.1 hF.2.2.2.2.1 hC.2.1 hF.2.2.2.1 hF.2.2.2.2.2.2.2.2.2.1 hR.1 id (ent_o hO) hC.1 k hkN (hF.2.2.2.2.1 _ hlk) (fun _ h => h) (by rw [entO_at hk, hr, if_neg (by decide)]; rfl) hd k2
theorem Wk.getR {idx ci n id k r : Nat} (hF : FL (cxO cx) idx ci k) (hd : decode (cxC cx) pc = .ok (.getfield idx, 3)) (hO : isO X id ci n) (hk : k < n) (hr : rk ci k = true) (hz : (X.2 id).2.2 k = some r) (hq : pc + 3 = q) (kk : Wk xs cx d bc bs q lv (vr r :: st) X I L post) : Wk xs cx d bc bs pc lv (vr id :: st) X I L post := by
  subst hq
  obtain ⟨C, T, N, ty0, hC, hkN, hlk⟩ := hF
  refine Wk.go1 (fun _ g _ _ _ _ _ _ _ _ _ _ _ _ _ _ ls hF _ _ hR hl k2 => ?_) kk
  exact va_get (D := g.2.2.1) (cl := cls0) hF.1 hF.2.1 hF.2.2.2.2.1 hC.2.1 hF.2.2.2.1 hF.2.2.2.2.2.2.2.2.2.1 hR.1 id (ent_o hO) hC.1 k hkN (hF.2.2.2.2.1 _ hlk) (fun _ h => h) (by rw [entO_at hk, hr, if_pos rfl, hz]; rfl) hd k2
/-- a step that changes the memory, not the number of cells -/
theorem Wk.goM {X' : LY} {I' : IM} {L' : LM} (h : ∀ (l : Launch) (g : GB) (p : Program) (e : Env) (R : Room) (s : State) (m : MethodId) (args : Array Value) (below : List Frame) (meth : Method) (c : Code) (Q : State → Prop) (H : Heap) (locs : List Loc) (cells slots : Nat) (ls : Array Slot),
    FOK g xs cx d p R s m args meth c → Rep g X I L s H locs → va_D (fun q => g.1 ≤ q) (wsOf g X I L) → ls.size = cxN cx →
    (∀ (H' : Heap) (locs' : List Loc), va_P g.2.2.1 cls0 (wsOf g X' I' L') H' → va_S (fun q => g.1 ≤ q) s.heap H' locs' → W p l e R s m args below meth c H' locs' cells slots Q (F0 m q ls (st'.map (cv g)))) → W p l e R s m args below meth c H locs cells slots Q (F0 m pc ls (st.map (cv g))))
    (hX : X'.1 = X.1) (k : Wk xs cx d bc bs q lv st' X' I' L' post) : Wk xs cx d bc bs pc lv st X I L post := by
  intro l g p e R s m args below meth c Q H locs cells slots ls hF hc hs hR hE hl hex
  exact h l g p e R s m args below meth c Q H locs cells slots ls hF hR (wsOf_D hR.2.1) hl.1 (fun H' locs' hP hS => k l g p e R s m args below meth c Q H' locs' cells slots ls hF hc hs ⟨hP, by rw [hX]; exact hR.2.1, hS⟩ (by rw [hX]; exact hE) hl hex)
theorem entO_setI {g : GB} {I : IM} {id ci n k : Nat} {rf : Nat → Option Nat} {v : Int} (hr : rk ci k = false) : (entO g I id ci n rf).set k (.int (nZ v)) = entO g (iup I id (k : Int) v) id ci n rf := by
  apply List.ext_getElem?
  intro j
  by_cases hj : j < n
  · rw [entO_at hj]
    by_cases h : j = k
    · subst h
      rw [List.getElem?_set_self (by simpa [entO] using hj), hr]
      simp [iup]
    · rw [List.getElem?_set_ne (Ne.symm h), entO_at hj]
      have : ¬ ((j : Int) = (k : Int)) := by omega
      simp [iup, this]
  · have e1 : ((entO g I id ci n rf).set k (.int (nZ v)))[j]? = none := by simp [entO]; omega
    have e2 : (entO g (iup I id (k : Int) v) id ci n rf)[j]? = none := by simp [entO]; omega
    rw [e1, e2]
theorem entO_setR {g : GB} {I : IM} {id ci n k r : Nat} {rf : Nat → Option Nat} (hr : rk ci k = true) : (entO g I id ci n rf).set k (.ref (ad g r)) = entO g I id ci n (fun j => if j = k then some r else rf j) := by
  apply List.ext_getElem?
  intro j
  by_cases hj : j < n
  · rw [entO_at hj]
    by_cases h : j = k
    · subst h
      rw [List.getElem?_set_self (by simpa [entO] using hj), hr]
      simp [va_rf]
    · rw [List.getElem?_set_ne (Ne.symm h), entO_at hj]
      simp [h]
  · have e1 : ((entO g I id ci n rf).set k (.ref (ad g r)))[j]? = none := by simp [entO]; omega
    have e2 : (entO g I id ci n (fun j => if j = k then some r else rf j))[j]? = none := by simp [entO]; omega
    rw [e1, e2]
theorem ent_obj {g : GB} {S : SH} {I : IM} {L : LM} {id : Nat} (h : S.1 < 10) : ent g S I L id = .inr (S.1, entO g I id S.1 S.2.1 S.2.2) := by
  rw [ent, if_pos h]
/-- a field of ints (or a boolean one) is written -/
theorem Wk.putI {idx ci n id k : Nat} {z v : Int} {ty : FieldType} (hF : FL (cxO cx) idx ci k) (hw : FW ci k ty false) (hd : decode (cxC cx) pc = .ok (.putfield idx, 3)) (hO : isO X id ci n) (hk : k < n) (hr : rk ci k = false) (hz : (k : Int) = z) (hn : narrow ty (.int (nZ v)) = .int (nZ v) ∧ fits ty (.int (nZ v)) = true) (hq : pc + 3 = q) (kk : Wk xs cx d bc bs q lv st X (iup I id z v) L post) : Wk xs cx d bc bs pc lv (vi v :: vr id :: st) X I L post := by
  subst hq; subst hz
  obtain ⟨C, T, N, ty0, hC, hkN, hlk⟩ := hF
  obtain ⟨w1, w2, -⟩ := hw _ _ _ _ hC
  refine Wk.goM (fun _ g _ _ _ _ _ _ _ _ _ _ _ _ _ _ ls hF hR hD _ k2 => ?_) rfl kk
  refine va_put (D := g.2.2.1) (cl := cls0) (v := .int (nZ v)) hF.1 hF.2.1 hF.2.2.2.2.1 hC.2.1 ty0 hC.2.2.1 hC.2.2.2.1 hF.2.2.2.1 hF.2.2.2.2.2.2.2.2.2.1 hR.1 hD hR.2.2 id (ent_o hO) hC.1 k hkN (hF.2.2.2.2.1 _ hlk) (fun _ h => h) w1 w2 hn.1 hn.2 (by simpa [entO] using hk) hd (fun H1 locs1 hP _ hS => k2 H1 locs1 ?_ hS)
  rw [entO_setI hr, wsOf_set (X' := X) (I' := iup I id (k : Int) v) (L' := L) rfl (fun j hj => ⟨rfl, iup_other hj, rfl⟩) (by rw [ent_obj (by rw [hO.2.1]; exact hO.2.2.2), hO.2.1, hO.2.2.1])] at hP
  exact hP
/-- a final field of references is written, in the constructor -/
theorem Wk.putF {idx ci n id k r : Nat} {ty : FieldType} (hF : FL (cxO cx) idx ci k) (hw : FW ci k ty true) (hi : cxI cx = true) (hown : ∀ C T N ty0, CK ci C T N ty0 → C = cxO cx) (hd : decode (cxC cx) pc = .ok (.putfield idx, 3)) (hO : isO X id ci n) (hk : k < n) (hr : rk ci k = true) (hn : ∀ a : Nat, narrow ty (.ref a) = .ref a ∧ fits ty (.ref a) = true) (hq : pc + 3 = q) (kk : Wk xs cx d bc bs q lv st (sup X id (ci, n, fun j => if j = k then some r else (X.2 id).2.2 j)) I L post) : Wk xs cx d bc bs pc lv (vr r :: vr id :: st) X I L post := by
  subst hq
  obtain ⟨C, T, N, ty0, hC, hkN, hlk⟩ := hF
  obtain ⟨w1, w2, w3⟩ := hw _ _ _ _ hC
  refine Wk.goM (fun _ g _ _ _ _ _ _ _ _ _ _ _ _ _ _ ls hF hR hD _ k2 => ?_) (by rfl) kk
  refine va_putF (D := g.2.2.1) (cl := cls0) (v := .ref (ad g r)) hF.1 hF.2.1 hF.2.2.2.2.1 hC.2.1 ty0 hC.2.2.1 hC.2.2.2.1 hF.2.2.2.1 hF.2.2.2.2.2.2.2.2.2.1 hR.1 hD hR.2.2 id (ent_o hO) hC.1 k hkN (hF.2.2.2.2.1 _ hlk) (fun _ h => h) w1 (hF.2.2.2.2.2.1 hi) (w3.trans (hown _ _ _ _ hC)) w2 (hn _).1 (hn _).2 (by simpa [entO] using hk) hd (fun H1 locs1 hP _ hS => k2 H1 locs1 ?_ hS)
  rw [entO_setR hr, wsOf_set (X := X) (X' := sup X id (ci, n, fun j => if j = k then some r else (X.2 id).2.2 j)) (I' := I) (L' := L) rfl (fun j hj => ⟨by simp [sup, hj], rfl, rfl⟩) (by simp only [sup, if_true]; rw [ent_obj hO.2.2.2])] at hP
  exact hP
theorem Wk.iaload {id : Nat} {z N : Int} (hd : decode (cxC cx) pc = .ok (.iaload, 1)) (hA : isA X id 10 N) (h0 : 0 ≤ z) (h1 : z < N) (hq : pc + 1 = q) (kk : Wk xs cx d bc bs q lv (vi (I id z) :: st) X I L post) : Wk xs cx d bc bs pc lv (vi z :: vr id :: st) X I L post := by
  subst hq
  have hN := hA.2.2.1
  have hM := hA.2.2.2
  refine Wk.go1 (fun _ g _ _ _ _ _ _ _ _ _ _ _ _ _ _ ls hF _ _ hR hl k2 => ?_) kk
  refine va_iald (D := g.2.2.1) (cl := cls0) hF.1 hF.2.1 hF.2.2.2.2.2.2.2.2.2.1 hR.1 id 0 (ent_i hA) rfl (nZ_in h0 (by omega) (by omega)) hd ?_
  rw [nZ_cl h0 (by omega), Int.toNat_of_nonneg h0]
  exact k2
theorem Wk.baload {id : Nat} {z N : Int} (hd : decode (cxC cx) pc = .ok (.baload, 1)) (hA : isA X id 12 N) (h0 : 0 ≤ z) (h1 : z < N) (hq : pc + 1 = q) (kk : Wk xs cx d bc bs q lv (vi (I id z) :: st) X I L post) : Wk xs cx d bc bs pc lv (vi z :: vr id :: st) X I L post := by
  subst hq
  have hN := hA.2.2.1
  have hM := hA.2.2.2
  refine Wk.go1 (fun _ g _ _ _ _ _ _ _ _ _ _ _ _ _ _ ls hF _ _ hR hl k2 => ?_) kk
  refine va_zald (D := g.2.2.1) (cl := cls0) hF.1 hF.2.1 hF.2.2.2.2.2.2.2.2.2.1 hR.1 id 2 (ent_z hA) rfl (nZ_in h0 (by omega) (by omega)) hd ?_
  rw [nZ_cl h0 (by omega), Int.toNat_of_nonneg h0]
  exact k2
theorem Wk.laload {id : Nat} {z N : Int} (hd : decode (cxC cx) pc = .ok (.laload, 1)) (hA : isA X id 11 N) (h0 : 0 ≤ z) (h1 : z < N) (hq : pc + 1 = q) (kk : Wk xs cx d bc bs q lv (vl (L id z) :: st) X I L post) : Wk xs cx d bc bs pc lv (vi z :: vr id :: st) X I L post := by
  subst hq
  have hN := hA.2.2.1
  have hM := hA.2.2.2
  refine Wk.go1 (fun _ g _ _ _ _ _ _ _ _ _ _ _ _ _ _ ls hF _ _ hR hl k2 => ?_) kk
  refine va_lald (D := g.2.2.1) (cl := cls0) hF.1 hF.2.1 hF.2.2.2.2.2.2.2.2.2.1 hR.1 id 1 (ent_l hA) rfl (nZ_in h0 (by omega) (by omega)) hd ?_
  rw [nZ_cl h0 (by omega), Int.toNat_of_nonneg h0]
  exact k2
theorem Wk.aaload {id r tg : Nat} {z N : Int} (hd : decode (cxC cx) pc = .ok (.aaload, 1)) (hA : isA X id tg N) (ht : tg = 13 ∨ tg = 14) (h0 : 0 ≤ z) (h1 : z < N) (hz : (X.2 id).2.2 z.toNat = some r) (hq : pc + 1 = q) (kk : Wk xs cx d bc bs q lv (vr r :: st) X I L post) : Wk xs cx d bc bs pc lv (vi z :: vr id :: st) X I L post := by
  subst hq
  have hN := hA.2.2.1
  have hM := hA.2.2.2
  refine Wk.go1 (fun _ g _ _ _ _ _ _ _ _ _ _ _ _ _ _ ls hF _ _ hR hl k2 => ?_) kk
  rcases ht with rfl | rfl
  · refine va_aldq (D := g.2.2.1) (cl := cls0) hF.1 hF.2.1 hF.2.2.2.2.2.2.2.2.2.1 hR.1 id 3 (ent_q hA (Or.inl rfl)) rfl (nZ_in h0 (by omega) (by omega)) hd ?_
    rw [nZ_cl h0 (by omega), hz]
    exact k2
  · refine va_aldq (D := g.2.2.1) (cl := cls0) hF.1 hF.2.1 hF.2.2.2.2.2.2.2.2.2.1 hR.1 id 4 (ent_q hA (Or.inr rfl)) rfl (nZ_in h0 (by omega) (by omega)) hd ?_
    rw [nZ_cl h0 (by omega), hz]
    exact k2
theorem upd_iup {I : IM} {id : Nat} {z v : Int} (h0 : 0 ≤ z) : (upd (fun j : Nat => nZ (I id (j : Int))) z.toNat (nZ v)) = fun j : Nat => nZ (iup I id z v id (j : Int)) := by
  funext j
  by_cases h : j = z.toNat
  · subst h
    rw [pk_us]
    have e : ((z.toNat : Nat) : Int) = z := Int.toNat_of_nonneg h0
    simp only [iup, e, and_self, if_true]
  · rw [pk_un h]
    have : ¬ ((j : Int) = z) := by omega
    simp [iup, this]
theorem ent_arr {g : GB} {S : SH} {I : IM} {L : LM} {id tg : Nat} (h : S.1 = tg) (ht : tg = 10 ∨ tg = 12) : ent g S I L id = .inl (g.2.2.2 tg, S.2.1, .inl fun j => nZ (I id (j : Int))) := by
  rw [ent, if_neg (by omega), if_neg (by omega), if_pos (by omega), h]
theorem Wk.iastore {id : Nat} {z v N : Int} (hd : decode (cxC cx) pc = .ok (.iastore, 1)) (hA : isA X id 10 N) (h0 : 0 ≤ z) (h1 : z < N) (hq : pc + 1 = q) (kk : Wk xs cx d bc bs q lv st X (iup I id z v) L post) : Wk xs cx d bc bs pc lv (vi v :: vi z :: vr id :: st) X I L post := by
  subst hq
  have hN := hA.2.2.1
  have hM := hA.2.2.2
  refine Wk.goM (fun _ g _ _ _ _ _ _ _ _ _ _ _ _ _ _ ls hF hR hD _ k2 => ?_) rfl kk
  refine va_iast (D := g.2.2.1) (cl := cls0) hF.1 hF.2.1 hF.2.2.2.2.2.2.2.2.2.1 hR.1 hD hR.2.2 id 0 (ent_i hA) rfl (nZ_in h0 (by omega) (by omega)) hd (fun H1 locs1 hP _ hS => k2 H1 locs1 ?_ hS)
  rw [nZ_cl h0 (by omega), upd_iup h0, wsOf_set (X' := X) (I' := iup I id z v) (L' := L) rfl (fun j hj => ⟨rfl, iup_other hj, rfl⟩) (ent_arr hA.2.1 (Or.inl rfl))] at hP
  exact hP
theorem Wk.bastore {id : Nat} {z v N : Int} (hd : decode (cxC cx) pc = .ok (.bastore, 1)) (hA : isA X id 12 N) (h0 : 0 ≤ z) (h1 : z < N) (hv : v = 0 ∨ v = 1) (hq : pc + 1 = q) (kk : Wk xs cx d bc bs q lv st X (iup I id z v) L post) : Wk xs cx d bc bs pc lv (vi v :: vi z :: vr id :: st) X I L post := by
  subst hq
  have hN := hA.2.2.1
  have hM := hA.2.2.2
  refine Wk.goM (fun _ g _ _ _ _ _ _ _ _ _ _ _ _ _ _ ls hF hR hD _ k2 => ?_) rfl kk
  refine va_zast (D := g.2.2.1) (cl := cls0) hF.1 hF.2.1 hF.2.2.2.2.2.2.2.2.2.1 hR.1 hD hR.2.2 id 2 (ent_z hA) rfl (nZ_in h0 (by omega) (by omega)) hd (fun H1 locs1 hP _ hS => k2 H1 locs1 ?_ hS)
  have hv2 : vp_nar .boolean (nZ v) = nZ v := by rcases hv with rfl | rfl <;> decide +kernel
  rw [hv2, nZ_cl h0 (by omega), upd_iup h0, wsOf_set (X' := X) (I' := iup I id z v) (L' := L) rfl (fun j hj => ⟨rfl, iup_other hj, rfl⟩) (ent_arr hA.2.1 (Or.inr rfl))] at hP
  exact hP
theorem upd_lup {L : LM} {id : Nat} {z : Int} {v : Int64} (h0 : 0 ≤ z) : (vp_updL (fun j : Nat => L id (j : Int)) z.toNat v) = fun j : Nat => lup L id z v id (j : Int) := by
  funext j
  by_cases h : j = z.toNat
  · subst h
    rw [pk_uLs]
    have e : ((z.toNat : Nat) : Int) = z := Int.toNat_of_nonneg h0
    simp only [lup, e, and_self, if_true]
  · rw [pk_uLn h]
    have : ¬ ((j : Int) = z) := by omega
    simp [lup, this]
theorem Wk.lastore {id : Nat} {z N : Int} {v : Int64} (hd : decode (cxC cx) pc = .ok (.lastore, 1)) (hA : isA X id 11 N) (h0 : 0 ≤ z) (h1 : z < N) (hq : pc + 1 = q) (kk : Wk xs cx d bc bs q lv st X I (lup L id z v) post) : Wk xs cx d bc bs pc lv (vl v :: vi z :: vr id :: st) X I L post := by
  subst hq
  have hN := hA.2.2.1
  have hM := hA.2.2.2
  refine Wk.goM (fun _ g _ _ _ _ _ _ _ _ _ _ _ _ _ _ ls hF hR hD _ k2 => ?_) rfl kk
  refine va_last (D := g.2.2.1) (cl := cls0) hF.1 hF.2.1 hF.2.2.2.2.2.2.2.2.2.1 hR.1 hD hR.2.2 id 1 (ent_l hA) rfl (nZ_in h0 (by omega) (by omega)) hd (fun H1 locs1 hP _ hS => k2 H1 locs1 ?_ hS)
  rw [nZ_cl h0 (by omega), upd_lup h0, wsOf_set (X' := X) (I' := I) (L' := lup L id z v) rfl (fun j hj => ⟨rfl, rfl, lup_other hj⟩) (by rw [ent, if_neg (by rw [hA.2.1]; omega), if_pos hA.2.1])] at hP
  exact hP
theorem Wk.alen {id tg : Nat} {N : Int} (hd : decode (cxC cx) pc = .ok (.arraylength, 1)) (hA : isA X id tg N) (ht : tg = 10) (hq : pc + 1 = q) (kk : Wk xs cx d bc bs q lv (vi N :: st) X I L post) : Wk xs cx d bc bs pc lv (vr id :: st) X I L post := by
  subst hq; subst ht
  have hN := hA.2.2.1
  refine Wk.go1 (fun _ g _ _ _ _ _ _ _ _ _ _ _ _ _ _ ls hF _ _ hR hl k2 => ?_) kk
  refine va_alen (D := g.2.2.1) (cl := cls0) (v := nZ N) hF.1 hF.2.1 hF.2.2.2.2.2.2.2.2.2.1 hR.1 id 0 (ent_i hA) rfl ?_ hd k2
  rw [← hN]
  rfl
/-- the tables of winds: two statics, read -/
theorem Wk.getsX {idx : Nat} (hF : FLS (cxO cx) idx "WIND_X") (hd : decode (cxC cx) pc = .ok (.getstatic idx, 3)) (hq : pc + 3 = q) (kk : Wk xs cx d bc bs q lv (vr 1000001 :: st) X I L post) : Wk xs cx d bc bs pc lv st X I L post := by
  subst hq
  refine Wk.go1 (fun _ g _ _ _ _ _ _ _ _ _ _ _ _ _ _ ls hF2 _ _ hR hl k2 => ?_) kk
  exact va_getsN hF2.1 hF2.2.1 hF2.2.2.2.2.2.2.2.2.2.2.1 hR.2.2 hF2.2.2.2.1 (va_Nw.use rfl (hF2.2.2.2.2.2.2.2.2.2.2.2.2.2.2.2.1 _ hF)) (fun _ h => h) hd k2
theorem Wk.getsY {idx : Nat} (hF : FLS (cxO cx) idx "WIND_Y") (hd : decode (cxC cx) pc = .ok (.getstatic idx, 3)) (hq : pc + 3 = q) (kk : Wk xs cx d bc bs q lv (vr 1000002 :: st) X I L post) : Wk xs cx d bc bs pc lv st X I L post := by
  subst hq
  refine Wk.go1 (fun _ g _ _ _ _ _ _ _ _ _ _ _ _ _ _ ls hF2 _ _ hR hl k2 => ?_) kk
  exact va_getsN hF2.1 hF2.2.1 hF2.2.2.2.2.2.2.2.2.2.2.2.2.1 hR.2.2 hF2.2.2.2.1 (va_Nw.use rfl (hF2.2.2.2.2.2.2.2.2.2.2.2.2.2.2.2.1 _ hF)) (fun _ h => h) hd k2
theorem Wk.ialX {z : Int} (hd : decode (cxC cx) pc = .ok (.iaload, 1)) (h0 : 0 ≤ z) (h1 : z < 8) (hq : pc + 1 = q) (kk : Wk xs cx d bc bs q lv (vi (windX z) :: st) X I L post) : Wk xs cx d bc bs pc lv (vi z :: vr 1000001 :: st) X I L post := by
  subst hq
  refine Wk.go1 (fun _ g _ _ _ _ _ _ _ _ _ _ _ _ _ _ ls hF _ _ hR hl k2 => ?_) kk
  exact va_ti hF.1 hF.2.1 hF.2.2.2.2.2.2.2.2.2.2.2.1 hR.2.2 (nZ_in h0 (by omega) (by omega)) (by rw [nZ_cl h0 (by omega), Int.toNat_of_nonneg h0]; rfl) hd k2
theorem Wk.ialY {z : Int} (hd : decode (cxC cx) pc = .ok (.iaload, 1)) (h0 : 0 ≤ z) (h1 : z < 8) (hq : pc + 1 = q) (kk : Wk xs cx d bc bs q lv (vi (windY z) :: st) X I L post) : Wk xs cx d bc bs pc lv (vi z :: vr 1000002 :: st) X I L post := by
  subst hq
  refine Wk.go1 (fun _ g _ _ _ _ _ _ _ _ _ _ _ _ _ _ ls hF _ _ hR hl k2 => ?_) kk
  exact va_ti hF.1 hF.2.1 hF.2.2.2.2.2.2.2.2.2.2.2.2.2.1 hR.2.2 (nZ_in h0 (by omega) (by omega)) (by rw [nZ_cl h0 (by omega), Int.toNat_of_nonneg h0]; rfl) hd k2
/-- the script, read -/
theorem Wk.ialS {z : Int} (hd : decode (cxC cx) pc = .ok (.iaload, 1)) (h0 : 0 ≤ z) (h1 : z < xs.1) (hq : pc + 1 = q) (kk : Wk xs cx d bc bs q lv (vi (xs.2 z) :: st) X I L post) : Wk xs cx d bc bs pc lv (vi z :: vr 1000000 :: st) X I L post := by
  subst hq
  refine Wk.go1 (fun _ g _ _ _ _ _ _ _ _ _ _ _ _ _ _ ls hF _ _ hR hl k2 => ?_) kk
  have hb : xs.1 < 2147483648 := hF.2.2.2.2.2.2.2.2.2.2.2.2.2.2.2.2.2.2
  exact va_ti hF.1 hF.2.1 hF.2.2.2.2.2.2.2.2.2.2.2.2.2.2.1 hR.2.2 (nZ_in h0 h1 hb) (by rw [nZ_cl h0 (by omega), Int.toNat_of_nonneg h0]; rfl) hd k2
theorem Wk.alenS {N : Int} (hN : (xs.1 : Int) = N) (hd : decode (cxC cx) pc = .ok (.arraylength, 1)) (hq : pc + 1 = q) (kk : Wk xs cx d bc bs q lv (vi N :: st) X I L post) : Wk xs cx d bc bs pc lv (vr 1000000 :: st) X I L post := by
  subst hq; subst hN
  refine Wk.go1 (fun _ g _ _ _ _ _ _ _ _ _ _ _ _ _ _ ls hF _ _ hR hl k2 => ?_) kk
  exact va_tlen hF.1 hF.2.1 hF.2.2.2.2.2.2.2.2.2.2.2.2.2.2.1 hR.2.2 rfl hd k2
end WKM
end
section
/-! Wk's rows for returns, calls, new cells, switches -/
theorem Wsize {p : Program} {l : Launch} {e : Env} {R : Room} {s : State} {m : MethodId} {args : Array Value} {below : List Frame} {meth : Method} {c : Code} {H : Heap} {locs : List Loc} {cells slots : Nat} {Q : State → Prop} {f : JFrame} (k : H.size ≤ s.heap.size + cells → W p l e R s m args below meth c H locs cells slots Q f) : W p l e R s m args below meth c H locs cells slots Q f := fun T hT X => k (hT ▸ X.heapSize) T hT X
theorem Rep.le {g : GB} {xs : RO} {X : LY} {I : IM} {L : LM} {s : State} {H : Heap} {locs : List Loc} (hG : GOK g xs s) (h : Rep g X I L s H locs) : g.1 + X.1 ≤ H.size := by
  by_cases h0 : X.1 = 0
  · have := hG.1
    have := h.2.2.1
    omega
  · have h1 := (h.1 (X.1 - 1) _ (wsOf_at (by omega))).lt
    have h2 := h.2.1
    simp only [ad] at h1
    rw [if_pos (by omega)] at h1
    omega
def lentA : List AV → List (Option AV)
  | [] => []
  | .inr (.inl x) :: r => some (.inr (.inl x)) :: none :: lentA r
  | v :: r => some v :: lentA r
def lent (n : Nat) (As : List AV) : List (Option AV) := lentA As ++ List.replicate (n - (lentA As).length) none
theorem lvc_none {g : GB} : ∀ (k b : Nat), lvc g b (List.replicate k none) = []
  | 0, _ => rfl
  | k + 1, b => by rw [List.replicate_succ]; exact lvc_none k (b + 1)
theorem lvc_ent {g : GB} (k : Nat) : ∀ (As : List AV) (b : Nat), lvc g b (lentA As ++ List.replicate k none) = lv_args b (As.map (cv g))
  | [], b => lvc_none k b
  | .inl z :: r, b => by
    have h := lvc_ent (g := g) k r (b + 1)
    simp only [lentA, List.cons_append, lvc, List.map, lv_args, h]
    rfl
  | .inr (.inl x) :: r, b => by
    have h := lvc_ent (g := g) k r (b + 2)
    simp only [lentA, List.cons_append, lvc, List.map, lv_args, h]
    rfl
  | .inr (.inr none) :: r, b => by
    have h := lvc_ent (g := g) k r (b + 1)
    simp only [lentA, List.cons_append, lvc, List.map, lv_args, h]
    rfl
  | .inr (.inr (some i)) :: r, b => by
    have h := lvc_ent (g := g) k r (b + 1)
    simp only [lentA, List.cons_append, lvc, List.map, lv_args, h]
    rfl
theorem lent_len {g : GB} : ∀ (As : List AV), (lg_sl (As.map (cv g))).length = (lentA As).length
  | [] => rfl
  | .inl z :: r => by
    have h := lent_len (g := g) r
    simp only [lg_sl, List.map, List.flatMap_cons, lentA, List.length_append, List.length_cons] at h ⊢
    rw [h]
    simp [cv, Value.category]
    omega
  | .inr (.inl x) :: r => by
    have h := lent_len (g := g) r
    simp only [lg_sl, List.map, List.flatMap_cons, lentA, List.length_append, List.length_cons] at h ⊢
    rw [h]
    simp [cv, Value.category]
    omega
  | .inr (.inr none) :: r => by
    have h := lent_len (g := g) r
    simp only [lg_sl, List.map, List.flatMap_cons, lentA, List.length_append, List.length_cons] at h ⊢
    rw [h]
    simp [cv, va_rf, Value.category]
    omega
  | .inr (.inr (some i)) :: r => by
    have h := lent_len (g := g) r
    simp only [lg_sl, List.map, List.flatMap_cons, lentA, List.length_append, List.length_cons] at h ⊢
    rw [h]
    simp [cv, va_rf, Value.category]
    omega
/-- a contract's start and end, in the abstract machine's words -/
def PcW (g : GB) (xs : RO) (As : List AV) (X : LY) (I : IM) (L : LM) : Array Value → State → Prop := va_Pc (As.map (cv g)) (fun U => GOK g xs U ∧ va_P g.2.2.1 cls0 (wsOf g X I L) U.heap ∧ U.heap.size = g.1 + X.1 ∧ X.1 < 1000000)
def QcW (g : GB) (post : Option AV → LY → IM → LM → Prop) : Array Value → State → Outcome → State → Prop := fun _ st o t => ∃ (v : Option AV) (X' : LY) (I' : IM) (L' : LM), o = .returned (v.map (cv g)) ∧ post v X' I' L' ∧ va_P g.2.2.1 cls0 (wsOf g X' I' L') t.heap ∧ X'.1 < 1000000 ∧ va_F (fun q => g.1 ≤ q) st t
theorem PcW_blind {g : GB} {xs : RO} {As : List AV} {X : LY} {I : IM} {L : LM} : FrameBlind (PcW g xs As X I L) := by
  intro a U f mk h
  obtain ⟨h1, h2, h3⟩ := h
  exact ⟨h1, GOK.same (U := U.calling f mk a) h2 rfl rfl, h3⟩
abbrev wsM (y : MethodName) (x : CX) : List Cond := Cond.code y (cxC x) (cxN x) (cxR x) :: gtbl
/-- a contract out of a walk of the method's body, whatever her class, if no row of the natives is hers -/
theorem Met.ofWF {l : Launch} {y : MethodName} {ws ws' : List Cond} {rm : Room} {Pc : Array Value → State → Prop} {Qc : Array Value → State → Outcome → State → Prop} {mc ms : Nat} {free : Addr → Prop} {cc : ByteArray} {maxL : Nat} {ret : Option FieldType}
    (hy : plainFor y = true) (hw : ws = Cond.code y cc maxL ret :: ws')
    (body : ∀ p e s m args below meth c s₁, BodyLoose p l y (headSpec ws rm) cc maxL ret e s m args below meth c s₁ → c.maxLocals = maxL → Pc args s →
      W p l e (headSpec ws rm).room s m args below meth c s.heap [] 0 0 (MQ below Qc args s mc ms free) (entryFrame m args maxL)) : Met l y ws rm Pc Qc mc ms free := by
  refine MetFree.of_bodySF (code := cc) (maxLocals := maxL) (ret := ret) hy (fun args s m h hn => ?_) (fun p e s m args below meth c s₁ B hml hP _ => ?_)
  · obtain ⟨meth, c, h1, h2, h3, h4, h5, h6, -, -⟩ := Cond.code_spec hn (atoms_spec (ws := ws) h _ (by rw [hw]; exact List.mem_cons_self))
    exact ⟨meth, c, h1, h2, h3, h4, h5, h6⟩
  · obtain ⟨t, a1, o, b1, b2, b3⟩ := body p e s m args below meth c s₁ B hml hP s₁ (by rw [B.state]; rfl) (Stand.of_body B)
    exact ⟨t, o, a1, b1, b2, ⟨b3.1, b3.2⟩⟩
/-- A CONTRACT OUT OF A WALK -/
theorem met_of {y : MethodName} {x : CX} {n : Nat} (hM : MOK y x n) {xs : RO} {d mc ms : Nat} {As : List AV} {X : LY} {I : IM} {L : LM} {post : Option AV → LY → IM → LM → Prop} (hn : (lentA As).length ≤ cxN x) (hw : Wk xs x d mc ms 0 (lent (cxN x) As) [] X I L post) (l : Launch) (g : GB) :
    Met l y (wsM y x) { frames := d, cells := mc, slots := ms, locals := 64 * d } (PcW g xs As X I L) (QcW g post) mc ms (fun q => g.1 ≤ q) := by
  obtain ⟨hcode, hplain, hown, hpar, hini, hinit, hsm⟩ := hM
  refine Met.ofWF (cc := cxC x) (maxL := cxN x) (ret := cxR x) hplain rfl ?_
  intro p e s m args below meth c s₁ B hml hv
  obtain ⟨rfl, hG, hP, hsz, hlt⟩ := hv
  have hts := atoms_spec (ws := wsM y x) B.pre
  have hcls : s.vm.findClass (cxO x) = some m.cls := by rw [← hown]; exact findClass_of_methodNamed B.named
  have hl := lv_entry (As.map (cv g)) (n := cxN x) (by rw [lent_len]; exact hn)
  rw [lg_entry_eq]
  have hl2 : lv_has ((lg_sl (As.map (cv g)) ++ List.replicate (cxN x - (lg_sl (As.map (cv g))).length) Slot.unset).toArray) (cxN x) (lvc g 0 (lent (cxN x) As)) := by
    unfold lent
    rw [lvc_ent]
    exact hl
  refine hw l g p e _ s m _ below meth c _ s.heap [] 0 0 _ ⟨B.exec, B.bytes, hml, hcls, fun w h => hts w (List.mem_cons_of_mem _ h), fun hi => by rw [(name_of_methodNamed B.named B.method).1]; exact hinit hi, Nat.le_refl d, Nat.le_refl (64 * d), hG⟩ (by show 0 + mc ≤ mc; omega) (by show 0 + ms ≤ ms; omega) ⟨hP, hlt, va_S.rf⟩ (by omega) hl2 ?_
  intro v X' I' L' H' locs' cells' slots' ls' pc' hp hc hs hR hE hret
  refine W.widen (k := mc) (n := ms) (by omega) (by omega) ?_
  have hlocks := B.notSynchronized
  have hr := B.returns
  rcases v with _ | (z | (w | w))
  · obtain ⟨hd, h0⟩ := hret
    exact W.vret B.exec B.bytes (hr.trans h0) (fun t ht hW => ⟨none, X', I', L', rfl, hp, by rw [ht]; exact hR.1, hR.2.1, hR.2.2.F ht⟩) hR.2.2.2.2 hd
  · obtain ⟨hd, ty, h0, hn0⟩ := hret
    exact W.zret B.exec B.bytes (hr.trans h0) hn0 (fun t ht hW => ⟨some (.inl z), X', I', L', rfl, hp, by rw [ht]; exact hR.1, hR.2.1, hR.2.2.F ht⟩) hR.2.2.2.2 hd
  · obtain ⟨hd, h0⟩ := hret
    exact W.lret B.exec B.bytes (hr.trans h0) (fun t ht hW => ⟨some (.inr (.inl w)), X', I', L', rfl, hp, by rw [ht]; exact hR.1, hR.2.1, hR.2.2.F ht⟩) hR.2.2.2.2 hd
  · exact absurd hret (by simp [retI])
theorem callW {p : Program} {l : Launch} {e : Env} {R : Room} {s : State} {m : MethodId} {args : Array Value} {below : List Frame} {meth : Method} {c : Code} {H : Heap} {locs : List Loc} {cells slots mc ms pc : Nat} {Q : State → Prop} {ls : Array Slot} {st0 : List Value} {rest : List AV} {g : GB} {postc : Option AV → LY → IM → LM → Prop} {a : Array Value}
    (hr : va_Run p l e R s m args below meth c H locs cells slots mc ms (F0 m pc ls st0) (rest.map (cv g)) (QcW g postc a) (fun q => g.1 ≤ q)) (hS : va_S (fun q => g.1 ≤ q) s.heap H locs)
    (kk : ∀ (v : Option AV) (X' : LY) (I' : IM) (L' : LM) (H' : Heap) (locs' : List Loc), postc v X' I' L' → Rep g X' I' L' s H' locs' → W p l e R s m args below meth c H' locs' (cells + mc) (slots + ms) Q (F0 m (pc + 3) ls ((v.toList ++ rest).map (cv g)))) : W p l e R s m args below meth c H locs cells slots Q (F0 m pc ls st0) := by
  intro T hT X
  obtain ⟨v, st₀, t, T', L, h0, X', hL, e1, e2, ⟨v', X1, I1, L1, ho, hp, hP, hlt, hz, hk⟩, st⟩ := hr T hT X
  rw [h0] at hz hk
  have hv : v = v'.map (cv g) := by injection ho
  obtain ⟨t2, a1, b1⟩ := kk v' X1 I1 L1 T'.heap (locs ++ L) hp ⟨by rw [e1]; exact hP, hlt, Nat.le_trans hS.1 (by rw [e1]; exact hz), fun q h1 h2 => by rw [e1, hk q (Nat.lt_of_lt_of_le h1 hS.1) h2]; exact hS.2.1 q h1 h2, fun q hq => by
      rcases List.mem_append.mp hq with h | h
      · exact hS.2.2 q h
      · exact hL q h⟩ T' rfl X'
  refine ⟨t2, st t2 ?_, b1⟩
  rw [hv]
  have e3 : (v'.map (cv g)).toList ++ rest.map (cv g) = (v'.toList ++ rest).map (cv g) := by cases v' <;> rfl
  rw [e3]
  exact a1
/-- the operands of a call, told to whoever asks -/
def splitK : Nat → List AV → List AV → (List AV → List AV → Prop) → Prop
  | 0, acc, st, K => K acc st
  | n + 1, acc, v :: st, K => splitK n (v :: acc) st K
  | _ + 1, _, [], _ => False
theorem splitK_eq : ∀ (n : Nat) (acc st As rest : List AV), splitK n acc st (fun a r => a = As ∧ r = rest) → As.reverse ++ rest = acc.reverse ++ st ∧ As.length = n + acc.length
  | 0, acc, st, As, rest, h => by obtain ⟨rfl, rfl⟩ := h; simp
  | n + 1, acc, v :: st, As, rest, h => by
    obtain ⟨h1, h2⟩ := splitK_eq n (v :: acc) st As rest h
    refine ⟨by rw [h1]; simp, by rw [h2]; simp; omega⟩
  | n + 1, acc, [], As, rest, h => absurd h (by simp [splitK])
theorem split_of {n : Nat} {stk As rest : List AV} (h : ∀ K : List AV → List AV → Prop, K As rest → splitK n [] stk K) : stk = As.reverse ++ rest ∧ As.length = n := by
  obtain ⟨h1, h2⟩ := splitK_eq n [] stk As rest (h _ ⟨rfl, rfl⟩)
  exact ⟨by simpa using h1.symm, by simpa using h2⟩
def wcat : List AV → Nat
  | [] => 0
  | .inr (.inl _) :: r => wcat r + 2
  | _ :: r => wcat r + 1
theorem wcat_eq {g : GB} : ∀ (st : List AV), ((st.map (cv g)).map fun v => v.category).sum = wcat st
  | [] => rfl
  | .inl z :: r => by have h := wcat_eq (g := g) r; simp only [List.map, List.sum_cons, wcat, h]; simp [cv, Value.category]; omega
  | .inr (.inl x) :: r => by have h := wcat_eq (g := g) r; simp only [List.map, List.sum_cons, wcat, h]; simp [cv, Value.category]; omega
  | .inr (.inr none) :: r => by have h := wcat_eq (g := g) r; simp only [List.map, List.sum_cons, wcat, h]; simp [cv, va_rf, Value.category]; omega
  | .inr (.inr (some i)) :: r => by have h := wcat_eq (g := g) r; simp only [List.map, List.sum_cons, wcat, h]; simp [cv, va_rf, Value.category]; omega
theorem goodM {y : MethodName} {x : CX} {n : Nat} (hM : MOK y x n) : GoodIn gtbl (wsM y x) := fun w hw => (List.mem_cons.mp hw).elim (fun e => e ▸ gtbl_good _ hM.1) (fun h => gtbl_good w h)
section WKC
variable {xs : RO} {cx : CX} {d bc bs pc q : Nat} {lv lv' : List (Option AV)} {st st' : List AV} {X : LY} {I : IM} {L : LM} {post : Option AV → LY → IM → LM → Prop}
variable {y : MethodName} {cx' : CX} {n idx mc ms : Nat} {stk As : List AV} {lv0 : List (Option AV)} {postc : Option AV → LY → IM → LM → Prop}
theorem callB_W {R : Room} {s : State} {args : Array Value} {own : String} (hts : ∀ w ∈ gtbl, w.before args s = true) (hM : MOK y cx' n) (hl : Cond.methodLink own idx y ∈ gtbl) (h1 : d + 1 ≤ R.frames) (h2 : 64 * (d + 1) ≤ R.locals) : CallB R s args own idx y (cxC cx') (cxN cx') (cxR cx') (wsM y cx') { frames := d, cells := mc, slots := ms, locals := 64 * d } mc ms n := by
  have := hM.2.2.2.2.2.2
  exact callB_of n hts (goodM hM) rfl rfl rfl (hts _ hM.2.2.2.2.1) (hts _ hl) hM.2.2.2.1 ⟨h1, by show 8 + (cxN cx' + 11) + 64 * d ≤ R.locals; omega⟩
/-- a static method of ours is called -/
theorem Wk.callS (hL : LkS (cxO cx) idx y) (hM : MOK y cx' n) (hd : decode (cxC cx) pc = .ok (.invokestatic idx, 3)) (hs : ∀ K : List AV → List AV → Prop, K As st → splitK n [] stk K) (hwc : wcat st ≤ 8) (hn : (lentA As).length ≤ cxN cx') (hl : lent (cxN cx') As = lv0) (hc : Wk xs cx' d mc ms 0 lv0 [] X I L postc) (hX : ∀ v X' I' L', postc v X' I' L' → X'.1 = X.1 + mc) (hq : pc + 3 = q)
    (kk : ∀ v X' I' L', postc v X' I' L' → Wk xs cx (d + 1) bc bs q lv (v.toList ++ st) X' I' L' post) : Wk xs cx (d + 1) (mc + bc) (ms + bs) pc lv stk X I L post := by
  subst hq; subst hl
  obtain ⟨rfl, hlen⟩ := split_of hs
  intro l g p e R s m args below meth c Q H locs cells slots ls hF hcl hsl hR hE hl hex
  refine Wsize (fun hsz => ?_)
  have hge := hR.le hF.2.2.2.2.2.2.2.2
  refine callW (rest := st) (va_runS (As := As.map (cv g)) (rest := st.map (cv g)) ⟨hF.1, hF.2.1, hF.2.2.1, hF.2.2.2.1, hF.2.2.2.2.1⟩ (met_of hM hn hc l g) ⟨callB_W hF.2.2.2.2.1 hM hL.1 hF.2.2.2.2.2.2.1 hF.2.2.2.2.2.2.2.1, hF.2.2.2.2.1 _ hL.2⟩ ⟨PcW_blind, fun U hU hW => ⟨rfl, GOK.moved hF.2.2.2.2.2.2.2.2 hR.2.2 hU hW, by rw [hU]; exact hR.1, by rw [hU]; omega, hR.2.1⟩⟩ rfl (by rw [List.length_map]; exact hlen) hl.1 (by rw [List.map_append, List.map_reverse]) (lv_room (by rw [wcat_eq]; exact hwc)) hd ⟨by omega, by omega⟩) hR.2.2 (fun v X' I' L' H' locs' hp hR' => ?_)
  have hX' := hX v X' I' L' hp
  exact kk v X' I' L' hp l g p e R s m args below meth c Q H' locs' (cells + mc) (slots + ms) ls hF (by omega) (by omega) hR' (by omega) hl (fun v X1 I1 L1 H1 locs1 cells1 slots1 ls1 pc1 hp1 hc1 hs1 => hex v X1 I1 L1 H1 locs1 cells1 slots1 ls1 pc1 hp1 (by omega) (by omega))
/-- a static method of a nest mate -/
theorem Wk.callN {host : String} (hL : LkN (cxO cx) idx y host) (hM : MOK y cx' n) (hd : decode (cxC cx) pc = .ok (.invokestatic idx, 3)) (hs : ∀ K : List AV → List AV → Prop, K As st → splitK n [] stk K) (hwc : wcat st ≤ 8) (hn : (lentA As).length ≤ cxN cx') (hl : lent (cxN cx') As = lv0) (hc : Wk xs cx' d mc ms 0 lv0 [] X I L postc) (hX : ∀ v X' I' L', postc v X' I' L' → X'.1 = X.1 + mc) (hq : pc + 3 = q)
    (kk : ∀ v X' I' L', postc v X' I' L' → Wk xs cx (d + 1) bc bs q lv (v.toList ++ st) X' I' L' post) : Wk xs cx (d + 1) (mc + bc) (ms + bs) pc lv stk X I L post := by
  subst hq; subst hl
  obtain ⟨rfl, hlen⟩ := split_of hs
  intro l g p e R s m args below meth c Q H locs cells slots ls hF hcl hsl hR hE hl hex
  refine Wsize (fun hsz => ?_)
  have hge := hR.le hF.2.2.2.2.2.2.2.2
  have h40 := hM.2.2.2.2.2.2
  have hfr := hF.2.2.2.2.2.2.1
  have hlo := hF.2.2.2.2.2.2.2.1
  refine callW (rest := st) (va_runSN (As := As.map (cv g)) (rest := st.map (cv g)) ⟨hF.1, hF.2.1, hF.2.2.1, hF.2.2.2.1, hF.2.2.2.2.1⟩ (met_of hM hn hc l g) ⟨va_cnB n hF.2.2.2.2.1 (goodM hM) rfl rfl rfl (hF.2.2.2.2.2.2.2.2.2.2.2.2.2.2.2.1 _ hL.1) (hF.2.2.2.2.1 _ hM.2.2.2.2.1) hM.2.2.2.1 ⟨hfr, by show 8 + (cxN cx' + 11) + 64 * d ≤ R.locals; omega⟩, hF.2.2.2.2.1 _ hL.2, trivial⟩ ⟨PcW_blind, fun U hU hW => ⟨rfl, GOK.moved hF.2.2.2.2.2.2.2.2 hR.2.2 hU hW, by rw [hU]; exact hR.1, by rw [hU]; omega, hR.2.1⟩⟩ rfl (by rw [List.length_map]; exact hlen) hl.1 (by rw [List.map_append, List.map_reverse]) (lv_room (by rw [wcat_eq]; exact hwc)) hd ⟨by omega, by omega⟩) hR.2.2 (fun v X' I' L' H' locs' hp hR' => ?_)
  have hX' := hX v X' I' L' hp
  exact kk v X' I' L' hp l g p e R s m args below meth c Q H' locs' (cells + mc) (slots + ms) ls hF (by omega) (by omega) hR' (by omega) hl (fun v X1 I1 L1 H1 locs1 cells1 slots1 ls1 pc1 hp1 hc1 hs1 => hex v X1 I1 L1 H1 locs1 cells1 slots1 ls1 pc1 hp1 (by omega) (by omega))
/-- a method of an object of ours -/
theorem Wk.callV {id ci nf : Nat} (hL : LkV (cxO cx) idx y) (hM : MOK y cx' n) (hd : decode (cxC cx) pc = .ok (.invokevirtual idx, 3)) (hs : ∀ K : List AV → List AV → Prop, K (vr id :: As) st → splitK (n + 1) [] stk K) (hO : isO X id ci nf) (hcl : cls0[ci]?.map (fun r => r.1) = some y.cls) (hwc : wcat st ≤ 8) (hn : (lentA (vr id :: As)).length ≤ cxN cx') (hl : lent (cxN cx') (vr id :: As) = lv0) (hc : Wk xs cx' d mc ms 0 lv0 [] X I L postc) (hX : ∀ v X' I' L', postc v X' I' L' → X'.1 = X.1 + mc) (hq : pc + 3 = q)
    (kk : ∀ v X' I' L', postc v X' I' L' → Wk xs cx (d + 1) bc bs q lv (v.toList ++ st) X' I' L' post) : Wk xs cx (d + 1) (mc + bc) (ms + bs) pc lv stk X I L post := by
  subst hq; subst hl
  obtain ⟨rfl, hlen⟩ := split_of hs
  intro l g p e R s m args below meth c Q H locs cells slots ls hF hcl2 hsl hR hE hl hex
  refine Wsize (fun hsz => ?_)
  have hge := hR.le hF.2.2.2.2.2.2.2.2
  obtain ⟨r, hr1, hr2⟩ : ∃ r, cls0[ci]? = some r ∧ r.1 = y.cls := by
    cases h : cls0[ci]? with
    | none => rw [h] at hcl; cases hcl
    | some r => rw [h] at hcl; exact ⟨r, rfl, Option.some.inj hcl⟩
  have hrec := va_recv hF.2.2.2.2.2.2.2.2.2.1 hR.1 hr1 (ent_o hO)
  rw [hr2] at hrec
  refine callW (rest := st) (va_runV (C := y.cls) (b := ad g id) (As := As.map (cv g)) (rest := st.map (cv g)) ⟨hF.1, hF.2.1, hF.2.2.1, hF.2.2.2.1, hF.2.2.2.2.1⟩ (met_of hM hn hc l g) ⟨callB_W hF.2.2.2.2.1 hM hL.1 hF.2.2.2.2.2.2.1 hF.2.2.2.2.2.2.2.1, hF.2.2.2.2.1 _ hL.2.1, hF.2.2.2.2.1 _ hL.2.2⟩ ⟨PcW_blind, hrec, fun U hU hW => ⟨rfl, GOK.moved hF.2.2.2.2.2.2.2.2 hR.2.2 hU hW, by rw [hU]; exact hR.1, by rw [hU]; omega, hR.2.1⟩⟩ rfl (by rw [List.length_map]; simpa using hlen) hl.1 (by simp [List.map_reverse, cv, vr, va_rf]) (lv_room (by rw [wcat_eq]; exact hwc)) hd ⟨by omega, by omega⟩) hR.2.2 (fun v X' I' L' H' locs' hp hR' => ?_)
  have hX' := hX v X' I' L' hp
  exact kk v X' I' L' hp l g p e R s m args below meth c Q H' locs' (cells + mc) (slots + ms) ls hF (by omega) (by omega) hR' (by omega) hl (fun v X1 I1 L1 H1 locs1 cells1 slots1 ls1 pc1 hp1 hc1 hs1 => hex v X1 I1 L1 H1 locs1 cells1 slots1 ls1 pc1 hp1 (by omega) (by omega))
/-- a constructor of ours -/
theorem Wk.callI {id : Nat} (hL : LkI (cxO cx) idx y) (hM : MOK y cx' n) (hr0 : cxR cx' = none) (hd : decode (cxC cx) pc = .ok (.invokespecial idx, 3)) (hs : ∀ K : List AV → List AV → Prop, K (vr id :: As) st → splitK (n + 1) [] stk K) (hwc : wcat st ≤ 8) (hn : (lentA (vr id :: As)).length ≤ cxN cx') (hl : lent (cxN cx') (vr id :: As) = lv0) (hc : Wk xs cx' d mc ms 0 lv0 [] X I L postc) (hX : ∀ v X' I' L', postc v X' I' L' → X'.1 = X.1 + mc) (hq : pc + 3 = q)
    (kk : ∀ v X' I' L', postc v X' I' L' → Wk xs cx (d + 1) bc bs q lv (v.toList ++ st) X' I' L' post) : Wk xs cx (d + 1) (mc + bc) (ms + bs) pc lv stk X I L post := by
  subst hq; subst hl
  obtain ⟨rfl, hlen⟩ := split_of hs
  intro l g p e R s m args below meth c Q H locs cells slots ls hF hcl2 hsl hR hE hl hex
  refine Wsize (fun hsz => ?_)
  have hge := hR.le hF.2.2.2.2.2.2.2.2
  have hcb := callB_W (mc := mc) (ms := ms) (d := d) hF.2.2.2.2.1 hM hL.1 hF.2.2.2.2.2.2.1 hF.2.2.2.2.2.2.2.1
  rw [hr0] at hcb
  have hme := met_of hM hn hc l g
  have hws : wsM y cx' = Cond.code y (cxC cx') (cxN cx') none :: gtbl := by rw [wsM, hr0]
  rw [hws] at hcb hme
  refine callW (rest := st) (va_runI (b := ad g id) (As := As.map (cv g)) (rest := st.map (cv g)) ⟨hF.1, hF.2.1, hF.2.2.1, hF.2.2.2.1, hF.2.2.2.2.1⟩ hme ⟨hcb, hL.2.2, hF.2.2.2.2.1 _ hL.2.1⟩ ⟨PcW_blind, fun U hU hW => ⟨rfl, GOK.moved hF.2.2.2.2.2.2.2.2 hR.2.2 hU hW, by rw [hU]; exact hR.1, by rw [hU]; omega, hR.2.1⟩⟩ rfl (by rw [List.length_map]; simpa using hlen) hl.1 (by simp [List.map_reverse, cv, vr, va_rf]) (lv_room (by rw [wcat_eq]; exact hwc)) hd ⟨by omega, by omega⟩) hR.2.2 (fun v X' I' L' H' locs' hp hR' => ?_)
  have hX' := hX v X' I' L' hp
  exact kk v X' I' L' hp l g p e R s m args below meth c Q H' locs' (cells + mc) (slots + ms) ls hF (by omega) (by omega) hR' (by omega) hl (fun v X1 I1 L1 H1 locs1 cells1 slots1 ls1 pc1 hp1 hc1 hs1 => hex v X1 I1 L1 H1 locs1 cells1 slots1 ls1 pc1 hp1 (by omega) (by omega))
/-- returns -/
theorem Wk.iret {z : Int} (hd : decode (cxC cx) pc = .ok (.ireturn, 1)) (hr : cxR cx = some .int) (h : post (some (vi z)) X I L) : Wk xs cx d bc bs pc lv [vi z] X I L post := by
  intro l g p e R s m args below meth c Q H locs cells slots ls hF hcl hsl hR hE hl hex
  exact hex (some (vi z)) X I L H locs cells slots ls pc h (by omega) (by omega) hR hE ⟨hd, .int, hr, vp_nar_int _⟩
theorem Wk.zret {z : Int} (hd : decode (cxC cx) pc = .ok (.ireturn, 1)) (hr : cxR cx = some .boolean) (hz : z = 0 ∨ z = 1) (h : post (some (vi z)) X I L) : Wk xs cx d bc bs pc lv [vi z] X I L post := by
  intro l g p e R s m args below meth c Q H locs cells slots ls hF hcl hsl hR hE hl hex
  exact hex (some (vi z)) X I L H locs cells slots ls pc h (by omega) (by omega) hR hE ⟨hd, .boolean, hr, by rcases hz with rfl | rfl <;> decide +kernel⟩
theorem Wk.lret {z : Int64} (hd : decode (cxC cx) pc = .ok (.lreturn, 1)) (hr : cxR cx = some .long) (h : post (some (vl z)) X I L) : Wk xs cx d bc bs pc lv [vl z] X I L post := by
  intro l g p e R s m args below meth c Q H locs cells slots ls hF hcl hsl hR hE hl hex
  exact hex (some (vl z)) X I L H locs cells slots ls pc h (by omega) (by omega) hR hE ⟨hd, hr⟩
theorem Wk.vret (hd : decode (cxC cx) pc = .ok (.return_, 1)) (hr : cxR cx = none) (h : post none X I L) : Wk xs cx d bc bs pc lv [] X I L post := by
  intro l g p e R s m args below meth c Q H locs cells slots ls hF hcl hsl hR hE hl hex
  exact hex none X I L H locs cells slots ls pc h (by omega) (by omega) hR hE ⟨hd, hr⟩
end WKC
end
section
/-! Wk's rows for new cells, the library, switches, comparisons of longs -/
def iz (I : IM) (id : Nat) : IM := fun a b => if a = id then 0 else I a b
def lz (L : LM) (id : Nat) : LM := fun a b => if a = id then 0 else L a b
def spush (X : LY) (S : SH) : LY := (X.1 + 1, fun k => if k = X.1 then S else X.2 k)
theorem new_at {g : GB} {X : LY} {I : IM} {L : LM} {H1 : Heap} {a : Nat} {e : va_E} (hP : va_P g.2.2.1 cls0 (wsOf g X I L ++ [(a, e)]) H1) (hD : va_D (fun q => g.1 ≤ q) (wsOf g X I L ++ [(a, e)])) (hlt : X.1 < 1000000) (hz : H1.size ≤ g.1 + X.1 + 1) : a = ad g X.1 := by
  have hlen : (wsOf g X I L).length = X.1 := by simp [wsOf]
  have hl : (wsOf g X I L ++ [(a, e)])[X.1]? = some (a, e) := by
    rw [List.getElem?_append_right (by omega), hlen, Nat.sub_self]
    rfl
  have h1 := (hP X.1 _ hl).lt
  have h2 : g.1 ≤ a := hD.2 X.1 _ hl
  have h3 : ad g X.1 = g.1 + X.1 := by simp [ad, hlt]
  rw [h3]
  by_cases h : a = g.1 + X.1
  · exact h
  · exfalso
    have hk : a - g.1 < X.1 := by simp only at h1; omega
    have hl2 : (wsOf g X I L ++ [(a, e)])[a - g.1]? = some (ad g (a - g.1), ent g (X.2 (a - g.1)) I L (a - g.1)) := by
      rw [List.getElem?_append_left (by omega), wsOf_at hk]
    have := hD.1 X.1 (a - g.1) _ _ hl hl2 (by simp only [ad]; rw [if_pos (by omega)]; omega)
    omega
section WKN
variable {xs : RO} {cx : CX} {d bc bs pc q : Nat} {lv lv' : List (Option AV)} {st st' : List AV} {X : LY} {I : IM} {L : LM} {post : Option AV → LY → IM → LM → Prop}
theorem Wk.newO {idx ci n : Nat} {C : String} {T : u_T} {ty0 : Nat → FieldType} (hcl : Cond.classLink (cxO cx) idx C ∈ gtbl) (hin : Cond.instantiable C n ∈ gtbl ∧ Cond.initialized C ∈ gtbl) (hC : CK ci C T n ty0) (hdf : ∀ k, k < n → defaultValue (ty0 k) = if rk ci k = true then .null else .int 0) (hd : decode (cxC cx) pc = .ok (.new idx, 3)) (hX : X.1 + 1 < 1000000) (hq : pc + 3 = q)
    (kk : Wk xs cx d bc bs q lv (vr X.1 :: st) (spush X (ci, n, fun _ => none)) (iz I X.1) L post) : Wk xs cx d (bc + 1) (bs + n) pc lv st X I L post := by
  subst hq
  intro l g p e R s m args below meth c Q H locs cells slots ls hF hc hs hR hE hl hex
  refine va_new (D := g.2.2.1) (cl := cls0) (ci := ci) (fs := entO g (iz I X.1) X.1 ci n (fun _ => none)) hF.1 hF.2.1 hF.2.2.2.2.1 hC.2.1 ty0 hC.2.2.1 hF.2.2.2.1 (hF.2.2.2.2.1 _ hcl) (hF.2.2.2.2.1 _ hin.1) (hF.2.2.2.2.1 _ hin.2) hF.2.2.2.2.2.2.2.2.2.1 hR.1 (wsOf_D hR.2.1) hR.2.2 (fun q h => Nat.le_trans hF.2.2.2.2.2.2.2.2.1 h) hC.1 (fun j hj => ?_) (by omega) (by omega) hd (fun a H1 hP hD hS => ?_)
  · rw [hdf j hj]
    have : (entO g (iz I X.1) X.1 ci n (fun _ => none))[j]? = _ := entO_at hj
    simp only [vp_V, List.getD, this, Option.getD_some]
    split
    · rfl
    · simp [iz, nZ_0]
  · refine Wsize (fun hz => ?_)
    have ha := new_at hP hD hR.2.1 (by omega)
    subst ha
    rw [wsOf_push (X' := spush X (ci, n, fun _ => none)) (I' := iz I X.1) (L' := L) rfl (fun k hk => ⟨by simp only [spush]; rw [if_neg (by omega)], by funext b; simp only [iz]; rw [if_neg (by omega)], rfl⟩) (by simp only [spush, if_true]; rw [ent_obj hC.2.2.2.2])] at hP
    exact kk l g p e R s m args below meth c Q H1 locs (cells + 1) (slots + n) ls hF (by omega) (by omega) ⟨hP, hX, hS⟩ (by show s.heap.size + (cells + 1) = g.1 + (X.1 + 1); omega) hl (fun v X1 I1 L1 H1 locs1 cells1 slots1 ls1 pc1 hp1 hc1 hs1 => hex v X1 I1 L1 H1 locs1 cells1 slots1 ls1 pc1 hp1 (by omega) (by omega))
theorem tys_eq {g : GB} {s : State} {tg : Nat} {ty : FieldType} {cA : ClassId} (hK : va_K g.2.2.1 cls0 (tysOf g) s) (hK1 : va_K g.2.2.1 cls0 (tysOf g ++ [(cA, ty)]) s) (ht : (tysOf g)[tg - 10]? = some (g.2.2.2 tg, ty)) (hty : ty = .int ∨ ty = .long ∨ ty = .boolean ∨ ∃ C, ty = .object C) : cA = g.2.2.2 tg := by
  have h1 := (hK.2 (tg - 10) _ ht).2
  have h2 := (hK1.2 5 (cA, ty) rfl).2
  rcases hty with rfl | rfl | rfl | ⟨C, rfl⟩
  · exact Option.some.inj (h2.symm.trans h1)
  · exact Option.some.inj (h2.symm.trans h1)
  · exact Option.some.inj (h2.symm.trans h1)
  · obtain ⟨-, -, -, -, -, e1⟩ := h1
    obtain ⟨-, -, -, -, -, e2⟩ := h2
    exact Option.some.inj (e2.symm.trans e1)
theorem Wk.newI {N : Nat} {z : Int} (hz : (N : Int) = z) (hN : N ≤ 100000) (hd : decode (cxC cx) pc = .ok (.newarray .int, 2)) (hX : X.1 + 1 < 1000000) (hq : pc + 2 = q)
    (kk : Wk xs cx d bc bs q lv (vr X.1 :: st) (spush X (10, N, fun _ => none)) (iz I X.1) L post) : Wk xs cx d (bc + 1) (bs + N) pc lv (vi z :: st) X I L post := by
  subst hq; subst hz
  intro l g p e R s m args below meth c Q H locs cells slots ls hF hc hs hR hE hl hex
  refine va_newa (D := g.2.2.1) (cl := cls0) (atype := .int) (ty := .int) (N' := N) (a0 := (N, .inl fun _ => 0)) hF.1 hF.2.1 (hF.2.2.2.2.1 _ a_int) rfl hF.2.2.2.2.2.2.2.2.2.1 hR.1 (wsOf_D hR.2.1) hR.2.2 (fun q h => Nat.le_trans hF.2.2.2.2.2.2.2.2.1 h) (fun _ => rfl) (by rw [← nZ_0, nZ_lt (by omega) (by omega)]; omega) (by rw [nZ_cl (by omega) (by omega)]; omega) (by show N * 4 ≤ _; omega) (by omega) (by omega) hd (fun a cA H1 hK hP hD hS => ?_)
  have hcA := tys_eq (tg := 10) hF.2.2.2.2.2.2.2.2.2.1 hK rfl (Or.inl rfl)
  subst hcA
  refine Wsize (fun hz => ?_)
  have ha := new_at hP hD hR.2.1 (by omega)
  subst ha
  rw [wsOf_push (X' := spush X (10, N, fun _ => none)) (I' := iz I X.1) (L' := L) rfl (fun k hk => ⟨by simp only [spush]; rw [if_neg (by omega)], by funext b; simp only [iz]; rw [if_neg (by omega)], rfl⟩) (by simp only [spush, if_true]; rw [ent_arr rfl (Or.inl rfl)]; simp only [iz, if_true, nZ_0])] at hP
  exact kk l g p e R s m args below meth c Q H1 locs (cells + 1) (slots + N) ls hF (by omega) (by omega) ⟨hP, hX, hS⟩ (by show s.heap.size + (cells + 1) = g.1 + (X.1 + 1); omega) hl (fun v X1 I1 L1 H1 locs1 cells1 slots1 ls1 pc1 hp1 hc1 hs1 => hex v X1 I1 L1 H1 locs1 cells1 slots1 ls1 pc1 hp1 (by omega) (by omega))
theorem Wk.newZ {N : Nat} {z : Int} (hz : (N : Int) = z) (hN : N ≤ 100000) (hd : decode (cxC cx) pc = .ok (.newarray .boolean, 2)) (hX : X.1 + 1 < 1000000) (hq : pc + 2 = q)
    (kk : Wk xs cx d bc bs q lv (vr X.1 :: st) (spush X (12, N, fun _ => none)) (iz I X.1) L post) : Wk xs cx d (bc + 1) (bs + N) pc lv (vi z :: st) X I L post := by
  subst hq; subst hz
  intro l g p e R s m args below meth c Q H locs cells slots ls hF hc hs hR hE hl hex
  refine va_newa (D := g.2.2.1) (cl := cls0) (atype := .boolean) (ty := .boolean) (N' := N) (a0 := (N, .inl fun _ => 0)) hF.1 hF.2.1 (hF.2.2.2.2.1 _ a_boolean) rfl hF.2.2.2.2.2.2.2.2.2.1 hR.1 (wsOf_D hR.2.1) hR.2.2 (fun q h => Nat.le_trans hF.2.2.2.2.2.2.2.2.1 h) (fun _ => rfl) (by rw [← nZ_0, nZ_lt (by omega) (by omega)]; omega) (by rw [nZ_cl (by omega) (by omega)]; omega) (by show N * 1 ≤ _; omega) (by omega) (by omega) hd (fun a cA H1 hK hP hD hS => ?_)
  have hcA := tys_eq (tg := 12) hF.2.2.2.2.2.2.2.2.2.1 hK rfl (Or.inr (Or.inr (Or.inl rfl)))
  subst hcA
  refine Wsize (fun hz => ?_)
  have ha := new_at hP hD hR.2.1 (by omega)
  subst ha
  rw [wsOf_push (X' := spush X (12, N, fun _ => none)) (I' := iz I X.1) (L' := L) rfl (fun k hk => ⟨by simp only [spush]; rw [if_neg (by omega)], by funext b; simp only [iz]; rw [if_neg (by omega)], rfl⟩) (by simp only [spush, if_true]; rw [ent_arr rfl (Or.inr rfl)]; simp only [iz, if_true, nZ_0])] at hP
  exact kk l g p e R s m args below meth c Q H1 locs (cells + 1) (slots + N) ls hF (by omega) (by omega) ⟨hP, hX, hS⟩ (by show s.heap.size + (cells + 1) = g.1 + (X.1 + 1); omega) hl (fun v X1 I1 L1 H1 locs1 cells1 slots1 ls1 pc1 hp1 hc1 hs1 => hex v X1 I1 L1 H1 locs1 cells1 slots1 ls1 pc1 hp1 (by omega) (by omega))
theorem Wk.newL {N : Nat} {z : Int} (hz : (N : Int) = z) (hN : N ≤ 100000) (hd : decode (cxC cx) pc = .ok (.newarray .long, 2)) (hX : X.1 + 1 < 1000000) (hq : pc + 2 = q)
    (kk : Wk xs cx d bc bs q lv (vr X.1 :: st) (spush X (11, N, fun _ => none)) I (lz L X.1) post) : Wk xs cx d (bc + 1) (bs + N) pc lv (vi z :: st) X I L post := by
  subst hq; subst hz
  intro l g p e R s m args below meth c Q H locs cells slots ls hF hc hs hR hE hl hex
  refine va_newa (D := g.2.2.1) (cl := cls0) (atype := .long) (ty := .long) (N' := N) (a0 := (N, .inr (.inl fun _ => 0))) hF.1 hF.2.1 (hF.2.2.2.2.1 _ a_long) rfl hF.2.2.2.2.2.2.2.2.2.1 hR.1 (wsOf_D hR.2.1) hR.2.2 (fun q h => Nat.le_trans hF.2.2.2.2.2.2.2.2.1 h) (fun _ => rfl) (by rw [← nZ_0, nZ_lt (by omega) (by omega)]; omega) (by rw [nZ_cl (by omega) (by omega)]; omega) (by show N * 8 ≤ _; omega) (by omega) (by omega) hd (fun a cA H1 hK hP hD hS => ?_)
  have hcA := tys_eq (tg := 11) hF.2.2.2.2.2.2.2.2.2.1 hK rfl (Or.inr (Or.inl rfl))
  subst hcA
  refine Wsize (fun hz => ?_)
  have ha := new_at hP hD hR.2.1 (by omega)
  subst ha
  rw [wsOf_push (X' := spush X (11, N, fun _ => none)) (I' := I) (L' := lz L X.1) rfl (fun k hk => ⟨by simp only [spush]; rw [if_neg (by omega)], rfl, by funext b; simp only [lz]; rw [if_neg (by omega)]⟩) (by simp only [spush, if_true]; rw [ent, if_neg (by show ¬ (11 : Nat) < 10; omega), if_pos rfl]; simp only [lz, if_true])] at hP
  exact kk l g p e R s m args below meth c Q H1 locs (cells + 1) (slots + N) ls hF (by omega) (by omega) ⟨hP, hX, hS⟩ (by show s.heap.size + (cells + 1) = g.1 + (X.1 + 1); omega) hl (fun v X1 I1 L1 H1 locs1 cells1 slots1 ls1 pc1 hp1 hc1 hs1 => hex v X1 I1 L1 H1 locs1 cells1 slots1 ls1 pc1 hp1 (by omega) (by omega))
theorem Wk.newQ {N tg idx : Nat} {z : Int} {C : String} (hcl : Cond.classLink (cxO cx) idx C ∈ gtbl) (htg : tg = 13 ∧ C = "SwungShips$Harbour" ∨ tg = 14 ∧ C = "SwungShips$Image") (hz : (N : Int) = z) (hN : N ≤ 100000) (hd : decode (cxC cx) pc = .ok (.anewarray idx, 3)) (hX : X.1 + 1 < 1000000) (hq : pc + 3 = q)
    (kk : Wk xs cx d bc bs q lv (vr X.1 :: st) (spush X (tg, N, fun _ => none)) I L post) : Wk xs cx d (bc + 1) (bs + N) pc lv (vi z :: st) X I L post := by
  subst hq; subst hz
  intro l g p e R s m args below meth c Q H locs cells slots ls hF hc hs hR hE hl hex
  have hover : va_AO C s := by
    rcases htg with ⟨-, rfl⟩ | ⟨-, rfl⟩
    · exact hF.2.2.2.2.2.2.2.2.2.2.2.2.2.2.2.2.1
    · exact hF.2.2.2.2.2.2.2.2.2.2.2.2.2.2.2.2.2.1
  refine va_newq (D := g.2.2.1) (cl := cls0) (N' := N) hF.1 hF.2.1 hF.2.2.2.1 (hF.2.2.2.2.1 _ hcl) hover hF.2.2.2.2.2.2.2.2.2.1 hR.1 (wsOf_D hR.2.1) hR.2.2 (fun q h => Nat.le_trans hF.2.2.2.2.2.2.2.2.1 h) (by rw [← nZ_0, nZ_lt (by omega) (by omega)]; omega) (by rw [nZ_cl (by omega) (by omega)]; omega) (by omega) (by omega) (by omega) hd (fun a cA H1 hK hP hD hS => ?_)
  have hcA : cA = g.2.2.2 tg := by
    rcases htg with ⟨rfl, rfl⟩ | ⟨rfl, rfl⟩
    · exact tys_eq (tg := 13) hF.2.2.2.2.2.2.2.2.2.1 hK rfl (Or.inr (Or.inr (Or.inr ⟨_, rfl⟩)))
    · exact tys_eq (tg := 14) hF.2.2.2.2.2.2.2.2.2.1 hK rfl (Or.inr (Or.inr (Or.inr ⟨_, rfl⟩)))
  subst hcA
  refine Wsize (fun hz => ?_)
  have ha := new_at hP hD hR.2.1 (by omega)
  subst ha
  rw [wsOf_push (X' := spush X (tg, N, fun _ => none)) (I' := I) (L' := L) rfl (fun k hk => ⟨by simp only [spush]; rw [if_neg (by omega)], rfl, rfl⟩) (by simp only [spush, if_true]; rw [ent, if_neg (by omega), if_neg (by omega), if_neg (by omega)]; rfl)] at hP
  exact kk l g p e R s m args below meth c Q H1 locs (cells + 1) (slots + N) ls hF (by omega) (by omega) ⟨hP, hX, hS⟩ (by show s.heap.size + (cells + 1) = g.1 + (X.1 + 1); omega) hl (fun v X1 I1 L1 H1 locs1 cells1 slots1 ls1 pc1 hp1 hc1 hs1 => hex v X1 I1 L1 H1 locs1 cells1 slots1 ls1 pc1 hp1 (by omega) (by omega))
theorem up_refs {g : GB} {rf : Nat → Option Nat} {z : Int} {r : Nat} : va_up (fun j : Nat => (rf j).map (ad g)) z.toNat (some (ad g r)) = fun j : Nat => (if j = z.toNat then some r else rf j).map (ad g) := by
  funext j
  simp only [va_up]
  split <;> rfl
theorem Wk.aastore {id r tg ci n N : Nat} {z : Int} (hd : decode (cxC cx) pc = .ok (.aastore, 1)) (hA : id < X.1 ∧ X.2 id = (tg, N, (X.2 id).2.2)) (hN : N ≤ 100000) (htg : tg = 13 ∧ ci = 1 ∨ tg = 14 ∧ ci = 3) (hO : isO X r ci n) (h0 : 0 ≤ z) (h1 : z < N) (hq : pc + 1 = q) (kk : Wk xs cx d bc bs q lv st (sup X id (tg, N, fun j => if j = z.toNat then some r else (X.2 id).2.2 j)) I L post) : Wk xs cx d bc bs pc lv (vr r :: vi z :: vr id :: st) X I L post := by
  subst hq
  obtain ⟨hA1, hA2⟩ := hA
  have hA3 : isA X id tg N := ⟨hA1, by rw [hA2], by rw [hA2], by omega⟩
  have hsz : (X.2 id).2.1 = N := by rw [hA2]
  refine Wk.goM (fun _ g _ _ _ _ _ _ _ _ _ _ _ _ _ _ ls hF hR hD _ k2 => ?_) (by rfl) kk
  have hent := ent_q (g := g) (I := I) (L := L) hA3 (by omega)
  rw [hsz] at hent
  have hfin : ∀ {H1 : Heap}, va_P g.2.2.1 cls0 ((wsOf g X I L).set id (ad g id, .inl (g.2.2.2 tg, N, .inr (.inr (.inr (.inr (va_up (fun j : Nat => ((X.2 id).2.2 j).map (ad g)) (nZ z).toNatClampNeg (some (ad g r))))))))) H1 → va_P g.2.2.1 cls0 (wsOf g (sup X id (tg, N, fun j => if j = z.toNat then some r else (X.2 id).2.2 j)) I L) H1 := by
    intro H1 hP
    rw [nZ_cl h0 (by omega), up_refs, wsOf_set (X := X) (X' := sup X id (tg, N, fun j => if j = z.toNat then some r else (X.2 id).2.2 j)) (I' := I) (L' := L) rfl (fun j hj => ⟨by simp [sup, hj], rfl, rfl⟩) (by simp only [sup, if_true]; rw [ent, if_neg (by omega), if_neg (by omega), if_neg (by omega)])] at hP
    exact hP
  rcases htg with ⟨rfl, rfl⟩ | ⟨rfl, rfl⟩
  · exact va_astq (D := g.2.2.1) (cl := cls0) hF.1 hF.2.1 hF.2.2.2.2.2.2.2.2.2.1 hR.1 hD hR.2.2 id 3 r 1 (r := ("SwungShips$Harbour", T_Harb, 12)) hent rfl (ent_o hO) rfl (nZ_in h0 h1 (by omega)) hd (fun H1 locs1 hP _ hS => k2 H1 locs1 (hfin hP) hS)
  · exact va_astq (D := g.2.2.1) (cl := cls0) hF.1 hF.2.1 hF.2.2.2.2.2.2.2.2.2.1 hR.1 hD hR.2.2 id 4 r 3 (r := ("SwungShips$Image", T_Imag, 3)) hent rfl (ent_o hO) rfl (nZ_in h0 h1 (by omega)) hd (fun H1 locs1 hP _ hS => k2 H1 locs1 (hfin hP) hS)
theorem Wk.objInit {idx id : Nat} (hL : Cond.methodLink (cxO cx) idx objectInit ∈ gtbl) (hd : decode (cxC cx) pc = .ok (.invokespecial idx, 3)) (hw : wcat st ≤ 8) (hq : pc + 3 = q) (kk : Wk xs cx (d + 1) bc bs q lv st X I L post) : Wk xs cx (d + 1) bc bs pc lv (vr id :: st) X I L post := by
  subst hq
  refine Wk.go1 (fun _ g _ _ R _ m _ _ _ c _ _ _ _ _ ls hF _ _ hR hl k2 => ?_) kk
  have h1 := hF.2.2.2.2.2.2.1
  have h2 := hF.2.2.2.2.2.2.2.1
  have h3 := wcat_eq (g := g) st
  exact W.objInit hF.1 hF.2.1 hF.2.2.2.1 (hF.2.2.2.2.1 _ hL) (hF.2.2.2.2.1 _ oi_inst) (hF.2.2.2.2.1 _ oi_code) rfl (by rw [hF.2.2.1]; exact hl.1) (a := ad g id) rfl hd (by omega) (by show 2 * 0 + _ + 12 ≤ _; omega) k2
def icpy (I : IM) (s : Nat) (sp : Int) (t : Nat) (dp n : Int) : IM := fun a b => if a = t ∧ dp ≤ b ∧ b < dp + n then I s (sp + (b - dp)) else I a b
theorem cpy_of {I : IM} {s t : Nat} {sp dp n : Int} (h1 : 0 ≤ sp) (h2 : 0 ≤ dp) (h3 : 0 ≤ n) : va_cpy (fun j : Nat => nZ (I s (j : Int))) (fun j : Nat => nZ (I t (j : Int))) sp.toNat dp.toNat n.toNat = fun j : Nat => nZ (icpy I s sp t dp n t (j : Int)) := by
  funext j
  by_cases h : dp ≤ (j : Int) ∧ (j : Int) < dp + n
  · simp only [va_cpy, icpy]
    rw [if_pos (by omega), if_pos ⟨trivial, h.1, h.2⟩]
    congr 2
    omega
  · simp only [va_cpy, icpy]
    rw [if_neg (by omega), if_neg (fun z => h z.2)]
theorem Wk.arraycopy {idx s t : Nat} {sp dp n N M : Int} (hL : Cond.methodLink (cxO cx) idx arraycopyName ∈ gtbl) (hd : decode (cxC cx) pc = .ok (.invokestatic idx, 3)) (hs : isA X s 10 N) (ht : isA X t 10 M) (h1 : 0 ≤ sp) (h2 : 0 ≤ dp) (h3 : 0 ≤ n) (h4 : sp + n ≤ N) (h5 : dp + n ≤ M) (hw : wcat st ≤ 8) (hq : pc + 3 = q) (kk : Wk xs cx (d + 1) bc bs q lv st X (icpy I s sp t dp n) L post) : Wk xs cx (d + 1) bc bs pc lv (vi n :: vi dp :: vr t :: vi sp :: vr s :: st) X I L post := by
  subst hq
  have e1 := hs.2.2.1
  have e2 := hs.2.2.2
  have e3 := ht.2.2.1
  have e4 := ht.2.2.2
  refine Wk.goM (fun _ g _ _ R _ _ _ _ _ _ _ _ _ _ _ ls hF hR hD hls k2 => ?_) rfl kk
  have h7 := hF.2.2.2.2.2.2.1
  have h8 := hF.2.2.2.2.2.2.2.1
  have h9 := wcat_eq (g := g) st
  have hnf : nativeFrameWords "java/lang/System" "arraycopy" 5 + 11 ≤ 40 := by decide +kernel
  refine va_copyi (D := g.2.2.1) (cl := cls0) (ty := .int) hF.1 hF.2.1 (by rw [hF.2.2.1, hls]) hF.2.2.2.1 (hF.2.2.2.2.1 _ hL) (hF.2.2.2.2.1 _ ac_nat) (hF.2.2.2.2.1 _ ac_stat) (hF.2.2.2.2.1 _ ac_ini) hF.2.2.2.2.2.2.2.2.2.1 hR.1 hD hR.2.2 s t 0 0 (ent_i hs) (ent_i ht) rfl rfl rfl (by rw [← nZ_0, nZ_lt (by omega) (by omega)]; omega) (by rw [← nZ_0, nZ_lt (by omega) (by omega)]; omega) (by rw [← nZ_0, nZ_lt (by omega) (by omega)]; omega) (by rw [nZ_cl (by omega) (by omega), nZ_cl (by omega) (by omega)]; omega) (by rw [nZ_cl (by omega) (by omega), nZ_cl (by omega) (by omega)]; omega) (fun _ _ => rfl) (by omega) (by omega) hd (fun H1 locs1 hP _ hS => k2 H1 locs1 ?_ hS)
  rw [nZ_cl h1 (by omega), nZ_cl h2 (by omega), nZ_cl h3 (by omega), cpy_of h1 h2 h3, wsOf_set (X := X) (X' := X) (I' := icpy I s sp t dp n) (L' := L) rfl (fun j hj => ⟨rfl, by funext b; simp only [icpy]; rw [if_neg (fun z => hj z.1)], rfl⟩) (ent_arr ht.2.1 (Or.inl rfl))] at hP
  exact hP
theorem m_max : Cond.static Lib.Math.max.name ∈ gtbl ∧ Cond.initialized "java/lang/Math" ∈ gtbl ∧ Cond.code Lib.Math.max.name Lib.Math.max.code 2 (some .int) ∈ gtbl := ⟨g_mem 304 (by decide +kernel) (by decide +kernel), g_mem 60 (by decide +kernel) (by decide +kernel), g_mem 305 (by decide +kernel) (by decide +kernel)⟩
theorem m_min : Cond.static Lib.Math.min.name ∈ gtbl ∧ Cond.initialized "java/lang/Math" ∈ gtbl ∧ Cond.code Lib.Math.min.name Lib.Math.min.code 2 (some .int) ∈ gtbl := ⟨g_mem 307 (by decide +kernel) (by decide +kernel), g_mem 60 (by decide +kernel) (by decide +kernel), g_mem 308 (by decide +kernel) (by decide +kernel)⟩
theorem Wk.max {idx : Nat} {a b : Int} (hL : LkS (cxO cx) idx Lib.Math.max.name) (hd : decode (cxC cx) pc = .ok (.invokestatic idx, 3)) (ha : -2147483648 ≤ a ∧ a ≤ 2147483647) (hb : -2147483648 ≤ b ∧ b ≤ 2147483647) (hw : wcat st ≤ 8) (hq : pc + 3 = q) (kk : Wk xs cx (d + 1) bc bs q lv (vi (if a < b then b else a) :: st) X I L post) : Wk xs cx (d + 1) bc bs pc lv (vi b :: vi a :: st) X I L post := by
  subst hq
  refine Wk.go1 (fun _ g _ _ R _ _ _ _ _ _ _ _ _ _ _ ls hF hc hs hR hl k2 => ?_) kk
  have h7 := hF.2.2.2.2.2.2.1
  have h8 := hF.2.2.2.2.2.2.2.1
  have h9 := wcat_eq (g := g) st
  refine va_mmax hF.1 hF.2.1 (by rw [hF.2.2.1, hl.1]) hF.2.2.2.1 (hF.2.2.2.2.1 _ hL.1) (hF.2.2.2.2.1 _ m_max.1) (hF.2.2.2.2.1 _ m_max.2.1) (hF.2.2.2.2.1 _ m_max.2.2) (by omega) (by omega) hc hs hd ?_
  have e : (if nZ a < nZ b then nZ b else nZ a) = nZ (if a < b then b else a) := by
    by_cases h : a < b
    · rw [if_pos ((nZ_lt ha hb).mpr h), if_pos h]
    · rw [if_neg (fun z => h ((nZ_lt ha hb).mp z)), if_neg h]
  rw [e]
  exact k2
theorem Wk.min {idx : Nat} {a b : Int} (hL : LkS (cxO cx) idx Lib.Math.min.name) (hd : decode (cxC cx) pc = .ok (.invokestatic idx, 3)) (ha : -2147483648 ≤ a ∧ a ≤ 2147483647) (hb : -2147483648 ≤ b ∧ b ≤ 2147483647) (hw : wcat st ≤ 8) (hq : pc + 3 = q) (kk : Wk xs cx (d + 1) bc bs q lv (vi (if b < a then b else a) :: st) X I L post) : Wk xs cx (d + 1) bc bs pc lv (vi b :: vi a :: st) X I L post := by
  subst hq
  refine Wk.go1 (fun _ g _ _ R _ _ _ _ _ _ _ _ _ _ _ ls hF hc hs hR hl k2 => ?_) kk
  have h7 := hF.2.2.2.2.2.2.1
  have h8 := hF.2.2.2.2.2.2.2.1
  have h9 := wcat_eq (g := g) st
  refine va_mmin hF.1 hF.2.1 (by rw [hF.2.2.1, hl.1]) hF.2.2.2.1 (hF.2.2.2.2.1 _ hL.1) (hF.2.2.2.2.1 _ m_min.1) (hF.2.2.2.2.1 _ m_min.2.1) (hF.2.2.2.2.1 _ m_min.2.2) (by omega) (by omega) hc hs hd ?_
  have e : (if nZ b < nZ a then nZ b else nZ a) = nZ (if b < a then b else a) := by
    by_cases h : b < a
    · rw [if_pos ((nZ_lt hb ha).mpr h), if_pos h]
    · rw [if_neg (fun z => h ((nZ_lt hb ha).mp z)), if_neg h]
  rw [e]
  exact k2
/-- two longs are compared -/
theorem Wk.lcmp {a b : Int64} (hd : decode (cxC cx) pc = .ok (.lcmp, 1)) (hq : pc + 1 = q) (kk : Wk xs cx d bc bs q lv (vi (if a = b then 0 else if b < a then 1 else -1) :: st) X I L post) : Wk xs cx d bc bs pc lv (vl b :: vl a :: st) X I L post := by
  subst hq
  refine Wk.go1 (fun _ g _ _ R _ _ _ _ _ _ _ _ _ _ _ ls hF hc hs hR hl k2 => ?_) kk
  refine W.lcmp hF.1 hF.2.1 hd ?_
  have e : lg_cmp a b = nZ (if a = b then 0 else if b < a then 1 else -1) := by
    unfold lg_cmp
    by_cases h : a = b
    · subst h
      have : ¬ a < a := fun h => lg_lt_not h h
      simp [this, nZ_0]
    · by_cases h2 : b < a
      · have e1 : (if a = b then (0 : Int) else if b < a then 1 else -1) = 1 := by rw [if_neg h, if_pos h2]
        rw [e1, if_pos h2]
        decide +kernel
      · have e1 : (if a = b then (0 : Int) else if b < a then 1 else -1) = -1 := by rw [if_neg h, if_neg h2]
        rw [e1, if_neg h2, if_neg h]
        decide +kernel
  rw [e]
  exact k2
/-- a switch: the place by the number, or none -/
theorem Wk.tabIn {dflt lo hi off z : Int} {offs : Array Int} {len t : Nat} (hd : decode (cxC cx) pc = .ok (.tableswitch dflt lo hi offs, len)) (hz : -2147483648 ≤ z ∧ z ≤ 2147483647) (h1 : lo ≤ z) (h2 : z ≤ hi) (ho : offs[(z - lo).toNat]? = some off) (ht : (pc : Int) + off = (t : Int)) (kk : Wk xs cx d bc bs t lv st X I L post) : Wk xs cx d bc bs pc lv (vi z :: st) X I L post := by
  refine Wk.go1 (fun _ g _ _ R _ _ _ _ _ _ _ _ _ _ _ ls hF hc hs hR hl k2 => ?_) kk
  have e := nZ_toInt hz.1 hz.2
  exact lv_tableIn hF.1 hF.2.1 hd (by rw [e]; omega) (by rw [e]; omega) (by rw [e]; exact ho) ht k2
theorem Wk.tabOut {dflt lo hi z : Int} {offs : Array Int} {len t : Nat} (hd : decode (cxC cx) pc = .ok (.tableswitch dflt lo hi offs, len)) (hz : -2147483648 ≤ z ∧ z ≤ 2147483647) (h : z < lo ∨ hi < z) (ht : (pc : Int) + dflt = (t : Int)) (kk : Wk xs cx d bc bs t lv st X I L post) : Wk xs cx d bc bs pc lv (vi z :: st) X I L post := by
  refine Wk.go1 (fun _ g _ _ R _ _ _ _ _ _ _ _ _ _ _ ls hF hc hs hR hl k2 => ?_) kk
  have e := nZ_toInt hz.1 hz.2
  exact lv_tableOut hF.1 hF.2.1 hd (by rw [e]; exact h) ht k2
end WKN
end
section
/-! THE LAYOUT once both objects are made: 156 cells; nothing is made later. 0 SwungShips; 1 its Harbour (2 depths .. 7 ys); 8 History (9 its row, Harbours at 10 + 7 i); 122 Search (123 row, 124 chosen, 125 good, 126 bad, 127 free); 128 Book; 131 the images' row, images at 132 + 8 i, their Harbours at 133 + 8 i; 148 the reference (149 w, 150 keptSeed, 151 bookOf, 152 bookIs, 153 trial, 154 ships, 155 free) -/
def noR : Nat → Option Nat := fun _ => none
def rH (o : Nat) : Nat → Option Nat := fun k => if 6 ≤ k ∧ k < 12 then some (o + (k - 5)) else none
def r1 : Nat → Option Nat := fun k => if k = 11 then some 7 else if k = 10 then some 6 else if k = 9 then some 5 else if k = 8 then some 4 else if k = 7 then some 3 else if k = 6 then some 2 else none
def r0 : Nat → Option Nat := fun k => if k = 4 then some 131 else if k = 3 then some 128 else if k = 2 then some 122 else if k = 1 then some 8 else if k = 0 then some 1 else none
def r122 : Nat → Option Nat := fun k => if k = 6 then some 127 else if k = 5 then some 126 else if k = 4 then some 125 else if k = 1 then some 124 else if k = 0 then some 123 else none
def r148 : Nat → Option Nat := fun k => if k = 10 then some 155 else if k = 9 then some 154 else if k = 8 then some 153 else if k = 6 then some 152 else if k = 5 then some 151 else if k = 4 then some 150 else if k = 0 then some 149 else none
def shH (o k : Nat) : SH := if k = 0 then (1, 12, rH o) else if k = 1 then (10, 49, noR) else (10, 8, noR)
def sh2 (i : Nat) : SH :=
  if i = 1 then (1, 12, r1) else if i = 149 then (10, 1710, noR) else if i = 0 then (5, 6, r0) else if i = 148 then (6, 12, r148)
  else if i = 2 then (10, 49, noR) else if i < 8 then (10, 8, noR)
  else if i = 8 then (2, 3, fun k => if k = 0 then some 9 else none) else if i = 9 then (13, 16, fun k => if k < 16 then some (10 + 7 * k) else none)
  else if i < 122 then shH (10 + 7 * ((i - 10) / 7)) ((i - 10) % 7)
  else if i = 122 then (4, 7, r122) else if i < 125 then (10, 3, noR) else if i = 125 then (11, 8, noR) else if i = 126 then (11, 64, noR) else if i = 127 then (11, 9, noR)
  else if i = 128 then (0, 3, fun k => if k = 1 then some 130 else if k = 0 then some 129 else none) else if i < 131 then (10, 20, noR)
  else if i = 131 then (14, 2, fun k => if k < 2 then some (132 + 8 * k) else none)
  else if i < 148 then (if (i - 132) % 8 = 0 then (3, 3, fun k => if k = 0 then some (i + 1) else none) else shH (133 + 8 * ((i - 132) / 8)) ((i - 132) % 8 - 1))
  else if i = 150 then (10, 2, noR) else if i < 153 then (10, 20, noR) else if i < 155 then (10, 3, noR) else (12, 147, noR)
def X2 : LY := (156, sh2)
theorem O_0 : isO X2 0 5 6 := by unfold isO; decide +kernel
theorem O_1 : isO X2 1 1 12 := by unfold isO; decide +kernel
theorem O_8 : isO X2 8 2 3 := by unfold isO; decide +kernel
theorem O_122 : isO X2 122 4 7 := by unfold isO; decide +kernel
theorem O_128 : isO X2 128 0 3 := by unfold isO; decide +kernel
theorem O_148 : isO X2 148 6 12 := by unfold isO; decide +kernel
theorem A_2 : isA X2 2 10 49 := by unfold isA; decide +kernel
theorem A_3 : isA X2 3 10 8 := by unfold isA; decide +kernel
theorem A_4 : isA X2 4 10 8 := by unfold isA; decide +kernel
theorem A_5 : isA X2 5 10 8 := by unfold isA; decide +kernel
theorem A_6 : isA X2 6 10 8 := by unfold isA; decide +kernel
theorem A_7 : isA X2 7 10 8 := by unfold isA; decide +kernel
theorem A_9 : isA X2 9 13 16 := by unfold isA; decide +kernel
theorem A_123 : isA X2 123 10 3 := by unfold isA; decide +kernel
theorem A_124 : isA X2 124 10 3 := by unfold isA; decide +kernel
theorem A_125 : isA X2 125 11 8 := by unfold isA; decide +kernel
theorem A_126 : isA X2 126 11 64 := by unfold isA; decide +kernel
theorem A_127 : isA X2 127 11 9 := by unfold isA; decide +kernel
theorem A_129 : isA X2 129 10 20 := by unfold isA; decide +kernel
theorem A_130 : isA X2 130 10 20 := by unfold isA; decide +kernel
theorem A_131 : isA X2 131 14 2 := by unfold isA; decide +kernel
theorem A_149 : isA X2 149 10 1710 := by unfold isA; decide +kernel
theorem A_150 : isA X2 150 10 2 := by unfold isA; decide +kernel
theorem A_151 : isA X2 151 10 20 := by unfold isA; decide +kernel
theorem A_152 : isA X2 152 10 20 := by unfold isA; decide +kernel
theorem A_153 : isA X2 153 10 3 := by unfold isA; decide +kernel
theorem A_154 : isA X2 154 10 3 := by unfold isA; decide +kernel
theorem A_155 : isA X2 155 12 147 := by unfold isA; decide +kernel
/-- ends over that layout: any; an int / a long with the memory as it was; nothing, with a memory -/
def p2 (P : Option AV → IM → LM → Prop) : Option AV → LY → IM → LM → Prop := fun v X I L => X = X2 ∧ P v I L
def pI (z : Int) (I : IM) (L : LM) : Option AV → LY → IM → LM → Prop := p2 fun v I' L' => v = some (vi z) ∧ I' = I ∧ L' = L
def pL (z : Int64) (I : IM) (L : LM) : Option AV → LY → IM → LM → Prop := p2 fun v I' L' => v = some (vl z) ∧ I' = I ∧ L' = L
def pV (I : IM) (L : LM) : Option AV → LY → IM → LM → Prop := p2 fun v I' L' => v = none ∧ I' = I ∧ L' = L
section WK2
variable {xs : RO} {cx : CX} {d bc bs pc q : Nat} {lv lv' : List (Option AV)} {st st' : List AV} {I I1 : IM} {L L1 : LM} {post : Option AV → LY → IM → LM → Prop}
variable {y : MethodName} {cx' : CX} {n idx : Nat} {stk As : List AV} {lv0 : List (Option AV)} {P : Option AV → IM → LM → Prop} {z : Int} {w : Int64}
theorem p2X {P : Option AV → IM → LM → Prop} : ∀ v X' I' L', p2 P v X' I' L' → X'.1 = X2.1 + 0 := fun _ _ _ _ h => by obtain ⟨h, -⟩ := h; subst h; rfl
theorem w00 {X : LY} (h : Wk xs cx d (0 + 0) (0 + 0) pc lv st X I L post) : Wk xs cx d 0 0 pc lv st X I L post := h
/-- calls with any end -/
theorem Wk.cS (hL : LkS (cxO cx) idx y) (hM : MOK y cx' n) (hd : decode (cxC cx) pc = .ok (.invokestatic idx, 3)) (hs : ∀ K : List AV → List AV → Prop, K As st → splitK n [] stk K) (hwc : wcat st ≤ 8) (hn : (lentA As).length ≤ cxN cx') (hl : lent (cxN cx') As = lv0) (hc : Wk xs cx' d 0 0 0 lv0 [] X2 I L (p2 P)) (hq : pc + 3 = q) (kk : ∀ v I' L', P v I' L' → Wk xs cx (d + 1) 0 0 q lv (v.toList ++ st) X2 I' L' post) : Wk xs cx (d + 1) 0 0 pc lv stk X2 I L post :=
  w00 (Wk.callS hL hM hd hs hwc hn hl hc p2X hq (fun v X' I' L' h => by obtain ⟨rfl, h⟩ := h; exact kk v I' L' h))
theorem Wk.cN {host : String} (hL : LkN (cxO cx) idx y host) (hM : MOK y cx' n) (hd : decode (cxC cx) pc = .ok (.invokestatic idx, 3)) (hs : ∀ K : List AV → List AV → Prop, K As st → splitK n [] stk K) (hwc : wcat st ≤ 8) (hn : (lentA As).length ≤ cxN cx') (hl : lent (cxN cx') As = lv0) (hc : Wk xs cx' d 0 0 0 lv0 [] X2 I L (p2 P)) (hq : pc + 3 = q) (kk : ∀ v I' L', P v I' L' → Wk xs cx (d + 1) 0 0 q lv (v.toList ++ st) X2 I' L' post) : Wk xs cx (d + 1) 0 0 pc lv stk X2 I L post :=
  w00 (Wk.callN hL hM hd hs hwc hn hl hc p2X hq (fun v X' I' L' h => by obtain ⟨rfl, h⟩ := h; exact kk v I' L' h))
theorem Wk.cV {id ci nf : Nat} (hL : LkV (cxO cx) idx y) (hM : MOK y cx' n) (hd : decode (cxC cx) pc = .ok (.invokevirtual idx, 3)) (hs : ∀ K : List AV → List AV → Prop, K (vr id :: As) st → splitK (n + 1) [] stk K) (hO : isO X2 id ci nf) (hcl : cls0[ci]?.map (fun r => r.1) = some y.cls) (hwc : wcat st ≤ 8) (hn : (lentA (vr id :: As)).length ≤ cxN cx') (hl : lent (cxN cx') (vr id :: As) = lv0) (hc : Wk xs cx' d 0 0 0 lv0 [] X2 I L (p2 P)) (hq : pc + 3 = q) (kk : ∀ v I' L', P v I' L' → Wk xs cx (d + 1) 0 0 q lv (v.toList ++ st) X2 I' L' post) : Wk xs cx (d + 1) 0 0 pc lv stk X2 I L post :=
  w00 (Wk.callV hL hM hd hs hO hcl hwc hn hl hc p2X hq (fun v X' I' L' h => by obtain ⟨rfl, h⟩ := h; exact kk v I' L' h))
/-- calls that answer an int and leave the memory -/
theorem Wk.cSi (hL : LkS (cxO cx) idx y) (hM : MOK y cx' n) (hd : decode (cxC cx) pc = .ok (.invokestatic idx, 3)) (hs : ∀ K : List AV → List AV → Prop, K As st → splitK n [] stk K) (hwc : wcat st ≤ 8) (hn : (lentA As).length ≤ cxN cx') (hl : lent (cxN cx') As = lv0) (hc : Wk xs cx' d 0 0 0 lv0 [] X2 I L (pI z I L)) (hq : pc + 3 = q) (kk : Wk xs cx (d + 1) 0 0 q lv (vi z :: st) X2 I L post) : Wk xs cx (d + 1) 0 0 pc lv stk X2 I L post :=
  Wk.cS hL hM hd hs hwc hn hl hc hq (fun v I' L' h => by obtain ⟨rfl, rfl, rfl⟩ := h; exact kk)
theorem Wk.cNi {host : String} (hL : LkN (cxO cx) idx y host) (hM : MOK y cx' n) (hd : decode (cxC cx) pc = .ok (.invokestatic idx, 3)) (hs : ∀ K : List AV → List AV → Prop, K As st → splitK n [] stk K) (hwc : wcat st ≤ 8) (hn : (lentA As).length ≤ cxN cx') (hl : lent (cxN cx') As = lv0) (hc : Wk xs cx' d 0 0 0 lv0 [] X2 I L (pI z I L)) (hq : pc + 3 = q) (kk : Wk xs cx (d + 1) 0 0 q lv (vi z :: st) X2 I L post) : Wk xs cx (d + 1) 0 0 pc lv stk X2 I L post :=
  Wk.cN hL hM hd hs hwc hn hl hc hq (fun v I' L' h => by obtain ⟨rfl, rfl, rfl⟩ := h; exact kk)
theorem Wk.cVi {id ci nf : Nat} (hL : LkV (cxO cx) idx y) (hM : MOK y cx' n) (hd : decode (cxC cx) pc = .ok (.invokevirtual idx, 3)) (hs : ∀ K : List AV → List AV → Prop, K (vr id :: As) st → splitK (n + 1) [] stk K) (hO : isO X2 id ci nf) (hcl : cls0[ci]?.map (fun r => r.1) = some y.cls) (hwc : wcat st ≤ 8) (hn : (lentA (vr id :: As)).length ≤ cxN cx') (hl : lent (cxN cx') (vr id :: As) = lv0) (hc : Wk xs cx' d 0 0 0 lv0 [] X2 I L (pI z I L)) (hq : pc + 3 = q) (kk : Wk xs cx (d + 1) 0 0 q lv (vi z :: st) X2 I L post) : Wk xs cx (d + 1) 0 0 pc lv stk X2 I L post :=
  Wk.cV hL hM hd hs hO hcl hwc hn hl hc hq (fun v I' L' h => by obtain ⟨rfl, rfl, rfl⟩ := h; exact kk)
/-- the same with a long -/
theorem Wk.cSl (hL : LkS (cxO cx) idx y) (hM : MOK y cx' n) (hd : decode (cxC cx) pc = .ok (.invokestatic idx, 3)) (hs : ∀ K : List AV → List AV → Prop, K As st → splitK n [] stk K) (hwc : wcat st ≤ 8) (hn : (lentA As).length ≤ cxN cx') (hl : lent (cxN cx') As = lv0) (hc : Wk xs cx' d 0 0 0 lv0 [] X2 I L (pL w I L)) (hq : pc + 3 = q) (kk : Wk xs cx (d + 1) 0 0 q lv (vl w :: st) X2 I L post) : Wk xs cx (d + 1) 0 0 pc lv stk X2 I L post :=
  Wk.cS hL hM hd hs hwc hn hl hc hq (fun v I' L' h => by obtain ⟨rfl, rfl, rfl⟩ := h; exact kk)
theorem Wk.cVl {id ci nf : Nat} (hL : LkV (cxO cx) idx y) (hM : MOK y cx' n) (hd : decode (cxC cx) pc = .ok (.invokevirtual idx, 3)) (hs : ∀ K : List AV → List AV → Prop, K (vr id :: As) st → splitK (n + 1) [] stk K) (hO : isO X2 id ci nf) (hcl : cls0[ci]?.map (fun r => r.1) = some y.cls) (hwc : wcat st ≤ 8) (hn : (lentA (vr id :: As)).length ≤ cxN cx') (hl : lent (cxN cx') (vr id :: As) = lv0) (hc : Wk xs cx' d 0 0 0 lv0 [] X2 I L (pL w I L)) (hq : pc + 3 = q) (kk : Wk xs cx (d + 1) 0 0 q lv (vl w :: st) X2 I L post) : Wk xs cx (d + 1) 0 0 pc lv stk X2 I L post :=
  Wk.cV hL hM hd hs hO hcl hwc hn hl hc hq (fun v I' L' h => by obtain ⟨rfl, rfl, rfl⟩ := h; exact kk)
/-- calls that answer nothing and leave a memory -/
theorem Wk.cVv {id ci nf : Nat} (hL : LkV (cxO cx) idx y) (hM : MOK y cx' n) (hd : decode (cxC cx) pc = .ok (.invokevirtual idx, 3)) (hs : ∀ K : List AV → List AV → Prop, K (vr id :: As) st → splitK (n + 1) [] stk K) (hO : isO X2 id ci nf) (hcl : cls0[ci]?.map (fun r => r.1) = some y.cls) (hwc : wcat st ≤ 8) (hn : (lentA (vr id :: As)).length ≤ cxN cx') (hl : lent (cxN cx') (vr id :: As) = lv0) (hc : Wk xs cx' d 0 0 0 lv0 [] X2 I L (pV I1 L1)) (hq : pc + 3 = q) (kk : Wk xs cx (d + 1) 0 0 q lv st X2 I1 L1 post) : Wk xs cx (d + 1) 0 0 pc lv stk X2 I L post :=
  Wk.cV hL hM hd hs hO hcl hwc hn hl hc hq (fun v I' L' h => by obtain ⟨rfl, rfl, rfl⟩ := h; exact kk)
/-- returns -/
theorem Wk.rI {v : Int} (hd : decode (cxC cx) pc = .ok (.ireturn, 1)) (hr : cxR cx = some .int) (h : v = z) : Wk xs cx d bc bs pc lv [vi v] X2 I L (pI z I L) := Wk.iret hd hr ⟨rfl, by rw [h], rfl, rfl⟩
theorem Wk.rZ {v : Int} (hd : decode (cxC cx) pc = .ok (.ireturn, 1)) (hr : cxR cx = some .boolean) (hv : v = 0 ∨ v = 1) (h : v = z) : Wk xs cx d bc bs pc lv [vi v] X2 I L (pI z I L) := Wk.zret hd hr hv ⟨rfl, by rw [h], rfl, rfl⟩
theorem Wk.rL {v : Int64} (hd : decode (cxC cx) pc = .ok (.lreturn, 1)) (hr : cxR cx = some .long) (h : v = w) : Wk xs cx d bc bs pc lv [vl v] X2 I L (pL w I L) := Wk.lret hd hr ⟨rfl, by rw [h], rfl, rfl⟩
theorem Wk.rV (hd : decode (cxC cx) pc = .ok (.return_, 1)) (hr : cxR cx = none) (hI : I = I1) (hL : L = L1) : Wk xs cx d bc bs pc lv [] X2 I L (pV I1 L1) := Wk.vret hd hr ⟨rfl, rfl, hI, hL⟩
theorem Wk.riP (hd : decode (cxC cx) pc = .ok (.ireturn, 1)) (hr : cxR cx = some .int) (h : P (some (vi z)) I L) : Wk xs cx d bc bs pc lv [vi z] X2 I L (p2 P) := Wk.iret hd hr ⟨rfl, h⟩
theorem Wk.rzP (hd : decode (cxC cx) pc = .ok (.ireturn, 1)) (hr : cxR cx = some .boolean) (hv : z = 0 ∨ z = 1) (h : P (some (vi z)) I L) : Wk xs cx d bc bs pc lv [vi z] X2 I L (p2 P) := Wk.zret hd hr hv ⟨rfl, h⟩
theorem Wk.rlP (hd : decode (cxC cx) pc = .ok (.lreturn, 1)) (hr : cxR cx = some .long) (h : P (some (vl w)) I L) : Wk xs cx d bc bs pc lv [vl w] X2 I L (p2 P) := Wk.lret hd hr ⟨rfl, h⟩
theorem Wk.rvP (hd : decode (cxC cx) pc = .ok (.return_, 1)) (hr : cxR cx = none) (h : P none I L) : Wk xs cx d bc bs pc lv [] X2 I L (p2 P) := Wk.vret hd hr ⟨rfl, h⟩
end WK2
/-- a counted loop: from k0 on, at its head, to e -/
theorem loopI (V : Int → Prop) (e k0 : Int) (h0 : k0 ≤ e) (he : V e) (hs : ∀ k, k0 ≤ k → k < e → V (k + 1) → V k) : V k0 := by
  have key : ∀ (n : Nat) (k : Int), k0 ≤ k → k + n = e → V k := by
    intro n
    induction n with
    | zero => intro k _ h; have : k = e := by omega
              rw [this]; exact he
    | succ n ih => intro k h1 h2; exact hs k h1 (by omega) (ih (k + 1) (by omega) (by omega))
  exact key (e - k0).toNat k0 (Int.le_refl _) (by omega)
/-- a counted loop with a state of its own -/
theorem loopS {σ : Type} (V : Int → σ → Prop) (J : Int → σ → Prop) (e k0 : Int) (s0 : σ) (h0 : k0 ≤ e) (hJ : J k0 s0) (he : ∀ s, J e s → V e s) (hs : ∀ k s, k0 ≤ k → k < e → J k s → (∀ s', J (k + 1) s' → V (k + 1) s') → V k s) : V k0 s0 := by
  have key : ∀ (n : Nat) (k : Int) (s : σ), k0 ≤ k → k + n = e → J k s → V k s := by
    intro n
    induction n with
    | zero => intro k s _ h hj; have : k = e := by omega
              subst this; exact he s hj
    | succ n ih => intro k s h1 h2 hj; exact hs k s h1 (by omega) hj (fun s' hj' => ih (k + 1) s' (by omega) (by omega) hj')
  exact key (e - k0).toNat k0 s0 (Int.le_refl _) (by omega) hJ
end
section
/-! WORDS OF THE SPECIFICATION, and the smallest methods of the class -/
noncomputable def bi (p : Prop) : Int := @ite Int p (Classical.propDecidable p) 1 0
theorem bi_t {p : Prop} (h : p) : bi p = 1 := by unfold bi; rw [if_pos h]
theorem bi_f {p : Prop} (h : ¬ p) : bi p = 0 := by unfold bi; rw [if_neg h]
theorem bi_01 (p : Prop) : bi p = 0 ∨ bi p = 1 := by
  by_cases h : p
  · exact Or.inr (bi_t h)
  · exact Or.inl (bi_f h)
theorem bi_range (p : Prop) : 0 ≤ bi p ∧ bi p ≤ 1 := by rcases bi_01 p with h | h <;> omega
theorem bi_eq1 {p : Prop} : bi p = 1 ↔ p := by
  by_cases h : p
  · exact ⟨fun _ => h, fun _ => bi_t h⟩
  · exact ⟨fun z => by rw [bi_f h] at z; omega, fun z => absurd z h⟩
theorem bi_eq0 {p : Prop} : bi p = 0 ↔ ¬ p := by
  by_cases h : p
  · exact ⟨fun z => by rw [bi_t h] at z; omega, fun z => absurd h z⟩
  · exact ⟨fun _ => h, fun _ => bi_f h⟩
theorem bi_cong {p q : Prop} (h : p ↔ q) : bi p = bi q := by rw [propext h]
/-- bit k of a set, of a long -/
def bt (F k : Int) : Bool := F.toNat.testBit k.toNat
def bl (w : Int64) (k : Int) : Bool := w.toBitVec.getLsbD k.toNat
theorem and_mask {a : Int} (h0 : 0 ≤ a) (h1 : a ≤ 2147483647) (k : Nat) (m : Int) (hm : (nZ m).toBitVec.toNat = 2 ^ k - 1) (hk : k ≤ 31) : (nZ a &&& nZ m).toInt = a % (2 ^ k : Nat) := by
  rw [pk_and (nZ a) k hm]
  have e : (nZ a).toBitVec.toNat = a.toNat := by
    have h2 : nZ a = nI a.toNat := by
      show Int32.ofInt a = Int32.ofNat a.toNat
      rw [← Int32.ofInt_eq_ofNat, Int.toNat_of_nonneg h0]
    rw [h2, pk_tn (by omega)]
  rw [e]
  have hlt : a.toNat % 2 ^ k < 2 ^ 31 := Nat.lt_of_le_of_lt (Nat.mod_le _ _) (by omega)
  rw [nI_toInt hlt]
  have : (a.toNat : Int) = a := Int.toNat_of_nonneg h0
  rw [Int.natCast_emod, this]
section SW
variable {xs : RO} {d : Nat} {I : IM} {L : LM}

theorem c_Sw_isOut {v l m : Int} (hv : -2147483648 ≤ v ∧ v ≤ 2147483647) (hl : -2147483648 ≤ l ∧ l ≤ 2147483647) (hm : -2147483648 ≤ m ∧ m ≤ 2147483647) : Wk xs x_Sw_isOut d 0 0 0 [some (vi v), some (vi l), some (vi m)] [] X2 I L (pI (bi (v < l ∨ m < v)) I L) := by
  refine Wk.iload_n (k := 0) (q := 1) (by decide +kernel) rfl rfl rfl ?_
  refine Wk.iload_n (k := 1) (q := 2) (by decide +kernel) rfl rfl rfl ?_
  refine Wk.icmp_lt (off := (8)) (t := 10) (q := 5) (by decide +kernel) (by decide) rfl (by omega) (by omega) (fun hc2 => ?_) (fun hc2 => ?_)
  · refine Wk.iconst (n := 1) (q := 11) (by decide +kernel) rfl ?_
    refine Wk.goto (off := (4)) (q := 15) (by decide +kernel) (by decide) ?_
    exact Wk.rZ (by decide +kernel) rfl (by first | omega | decide) (by first | rw [bi_t (by omega)] | rw [bi_f (by omega)])
  · refine Wk.iload_n (k := 0) (q := 6) (by decide +kernel) rfl rfl rfl ?_
    refine Wk.iload_n (k := 2) (q := 7) (by decide +kernel) rfl rfl rfl ?_
    refine Wk.icmp_le (off := (7)) (t := 14) (q := 10) (by decide +kernel) (by decide) rfl (by omega) (by omega) (fun hc7 => ?_) (fun hc7 => ?_)
    · refine Wk.iconst (n := 0) (q := 15) (by decide +kernel) rfl ?_
      exact Wk.rZ (by decide +kernel) rfl (by first | omega | decide) (by first | rw [bi_t (by omega)] | rw [bi_f (by omega)])
    · refine Wk.iconst (n := 1) (q := 11) (by decide +kernel) rfl ?_
      refine Wk.goto (off := (4)) (q := 15) (by decide +kernel) (by decide) ?_
      exact Wk.rZ (by decide +kernel) rfl (by first | omega | decide) (by first | rw [bi_t (by omega)] | rw [bi_f (by omega)])
theorem c_Sw_spotAt {x y : Int} : Wk xs x_Sw_spotAt d 0 0 0 [some (vi x), some (vi y)] [] X2 I L (pI (y * 8 + x) I L) := by
  refine Wk.iload_n (k := 1) (q := 1) (by decide +kernel) rfl rfl rfl ?_
  refine Wk.bipush (n := 8) (q := 3) (by decide +kernel) (by decide +kernel) rfl ?_
  refine Wk.imul (q := 4) (by decide +kernel) rfl ?_
  refine Wk.iload_n (k := 0) (q := 5) (by decide +kernel) rfl rfl rfl ?_
  refine Wk.iadd (q := 6) (by decide +kernel) rfl ?_
  exact Wk.rI (by decide +kernel) rfl (rfl)
theorem c_Sw_columnOf {s : Int} (h0 : 0 ≤ s) (h1 : s ≤ 2147483647) : Wk xs x_Sw_columnOf d 0 0 0 [some (vi s)] [] X2 I L (pI (s % 8) I L) := by
  refine Wk.iload_n (k := 0) (q := 1) (by decide +kernel) rfl rfl rfl ?_
  refine Wk.bipush (n := 7) (q := 3) (by decide +kernel) (by decide +kernel) rfl ?_
  refine Wk.iand (q := 4) (by decide +kernel) rfl ?_
  exact Wk.rI (by decide +kernel) rfl (and_mask h0 h1 3 7 (by decide +kernel) (by omega))
theorem c_Sw_lineOf {s : Int} (h0 : 0 ≤ s) (h1 : s ≤ 2147483647) : Wk xs x_Sw_lineOf d 0 0 0 [some (vi s)] [] X2 I L (pI (s / 8) I L) := by
  refine Wk.iload_n (k := 0) (q := 1) (by decide +kernel) rfl rfl rfl ?_
  refine Wk.bipush (n := 8) (q := 3) (by decide +kernel) (by decide +kernel) rfl ?_
  refine Wk.idiv (q := 4) (by decide +kernel) (by omega) (by omega) rfl ?_
  exact Wk.rI (by decide +kernel) rfl (rfl)
theorem c_Harb_hasCell {x y : Int} (hx : -2147483648 ≤ x ∧ x ≤ 2147483647) (hy : -2147483648 ≤ y ∧ y ≤ 2147483647) (hW : 0 ≤ I 1 0 ∧ I 1 0 ≤ 7) (hH : 0 ≤ I 1 1 ∧ I 1 1 ≤ 7) : Wk xs x_Harb_hasCell d 0 0 0 [some (vr 1), some (vi x), some (vi y)] [] X2 I L (pI (bi (0 ≤ x ∧ x < I 1 0 ∧ 0 ≤ y ∧ y < I 1 1)) I L) := by
  refine Wk.iload_n (k := 1) (q := 1) (by decide +kernel) rfl rfl rfl ?_
  refine Wk.if_lt (off := (27)) (t := 28) (q := 4) (by decide +kernel) (by decide) rfl (by omega) (fun hc1 => ?_) (fun hc1 => ?_)
  · refine Wk.iconst (n := 0) (q := 29) (by decide +kernel) rfl ?_
    exact Wk.rZ (by decide +kernel) rfl (by first | omega | decide) (by first | rw [bi_t (by omega)] | rw [bi_f (by omega)])
  · refine Wk.iload_n (k := 1) (q := 5) (by decide +kernel) rfl rfl rfl ?_
    refine Wk.aload_n (k := 0) (q := 6) (by decide +kernel) rfl rfl rfl ?_
    refine Wk.getI (z := 0) (q := 9) f_Harb_41 (by decide +kernel) O_1 (by decide) rfl rfl rfl ?_
    refine Wk.icmp_ge (off := (19)) (t := 28) (q := 12) (by decide +kernel) (by decide) rfl (by omega) (by omega) (fun hc9 => ?_) (fun hc9 => ?_)
    · refine Wk.iconst (n := 0) (q := 29) (by decide +kernel) rfl ?_
      exact Wk.rZ (by decide +kernel) rfl (by first | omega | decide) (by first | rw [bi_t (by omega)] | rw [bi_f (by omega)])
    · refine Wk.iload_n (k := 2) (q := 13) (by decide +kernel) rfl rfl rfl ?_
      refine Wk.if_lt (off := (15)) (t := 28) (q := 16) (by decide +kernel) (by decide) rfl (by omega) (fun hc13 => ?_) (fun hc13 => ?_)
      · refine Wk.iconst (n := 0) (q := 29) (by decide +kernel) rfl ?_
        exact Wk.rZ (by decide +kernel) rfl (by first | omega | decide) (by first | rw [bi_t (by omega)] | rw [bi_f (by omega)])
      · refine Wk.iload_n (k := 2) (q := 17) (by decide +kernel) rfl rfl rfl ?_
        refine Wk.aload_n (k := 0) (q := 18) (by decide +kernel) rfl rfl rfl ?_
        refine Wk.getI (z := 1) (q := 21) f_Harb_44 (by decide +kernel) O_1 (by decide) rfl rfl rfl ?_
        refine Wk.icmp_ge (off := (7)) (t := 28) (q := 24) (by decide +kernel) (by decide) rfl (by omega) (by omega) (fun hc21 => ?_) (fun hc21 => ?_)
        · refine Wk.iconst (n := 0) (q := 29) (by decide +kernel) rfl ?_
          exact Wk.rZ (by decide +kernel) rfl (by first | omega | decide) (by first | rw [bi_t (by omega)] | rw [bi_f (by omega)])
        · refine Wk.iconst (n := 1) (q := 25) (by decide +kernel) rfl ?_
          refine Wk.goto (off := (4)) (q := 29) (by decide +kernel) (by decide) ?_
          exact Wk.rZ (by decide +kernel) rfl (by first | omega | decide) (by first | rw [bi_t (by omega)] | rw [bi_f (by omega)])
theorem c_Harb_hasAnchored {a : Int} (ha : -2147483648 ≤ a ∧ a ≤ 2147483647) (hA : 0 ≤ I 1 4 ∧ I 1 4 ≤ 5) : Wk xs x_Harb_hasAnchored d 0 0 0 [some (vr 1), some (vi a)] [] X2 I L (pI (bi (0 ≤ a ∧ a < I 1 4)) I L) := by
  refine Wk.iload_n (k := 1) (q := 1) (by decide +kernel) rfl rfl rfl ?_
  refine Wk.if_lt (off := (15)) (t := 16) (q := 4) (by decide +kernel) (by decide) rfl (by omega) (fun hc1 => ?_) (fun hc1 => ?_)
  · refine Wk.iconst (n := 0) (q := 17) (by decide +kernel) rfl ?_
    exact Wk.rZ (by decide +kernel) rfl (by first | omega | decide) (by first | rw [bi_t (by omega)] | rw [bi_f (by omega)])
  · refine Wk.iload_n (k := 1) (q := 5) (by decide +kernel) rfl rfl rfl ?_
    refine Wk.aload_n (k := 0) (q := 6) (by decide +kernel) rfl rfl rfl ?_
    refine Wk.getI (z := 4) (q := 9) f_Harb_47 (by decide +kernel) O_1 (by decide) rfl rfl rfl ?_
    refine Wk.icmp_ge (off := (7)) (t := 16) (q := 12) (by decide +kernel) (by decide) rfl (by omega) (by omega) (fun hc9 => ?_) (fun hc9 => ?_)
    · refine Wk.iconst (n := 0) (q := 17) (by decide +kernel) rfl ?_
      exact Wk.rZ (by decide +kernel) rfl (by first | omega | decide) (by first | rw [bi_t (by omega)] | rw [bi_f (by omega)])
    · refine Wk.iconst (n := 1) (q := 13) (by decide +kernel) rfl ?_
      refine Wk.goto (off := (4)) (q := 17) (by decide +kernel) (by decide) ?_
      exact Wk.rZ (by decide +kernel) rfl (by first | omega | decide) (by first | rw [bi_t (by omega)] | rw [bi_f (by omega)])
theorem c_Harb_hasWaiting {a : Int} (ha : -2147483648 ≤ a ∧ a ≤ 2147483647) (hA : 0 ≤ I 1 5 ∧ I 1 5 ≤ 3) : Wk xs x_Harb_hasWaiting d 0 0 0 [some (vr 1), some (vi a)] [] X2 I L (pI (bi (0 ≤ a ∧ a < I 1 5)) I L) := by
  refine Wk.iload_n (k := 1) (q := 1) (by decide +kernel) rfl rfl rfl ?_
  refine Wk.if_lt (off := (15)) (t := 16) (q := 4) (by decide +kernel) (by decide) rfl (by omega) (fun hc1 => ?_) (fun hc1 => ?_)
  · refine Wk.iconst (n := 0) (q := 17) (by decide +kernel) rfl ?_
    exact Wk.rZ (by decide +kernel) rfl (by first | omega | decide) (by first | rw [bi_t (by omega)] | rw [bi_f (by omega)])
  · refine Wk.iload_n (k := 1) (q := 5) (by decide +kernel) rfl rfl rfl ?_
    refine Wk.aload_n (k := 0) (q := 6) (by decide +kernel) rfl rfl rfl ?_
    refine Wk.getI (z := 5) (q := 9) f_Harb_50 (by decide +kernel) O_1 (by decide) rfl rfl rfl ?_
    refine Wk.icmp_ge (off := (7)) (t := 16) (q := 12) (by decide +kernel) (by decide) rfl (by omega) (by omega) (fun hc9 => ?_) (fun hc9 => ?_)
    · refine Wk.iconst (n := 0) (q := 17) (by decide +kernel) rfl ?_
      exact Wk.rZ (by decide +kernel) rfl (by first | omega | decide) (by first | rw [bi_t (by omega)] | rw [bi_f (by omega)])
    · refine Wk.iconst (n := 1) (q := 13) (by decide +kernel) rfl ?_
      refine Wk.goto (off := (4)) (q := 17) (by decide +kernel) (by decide) ?_
      exact Wk.rZ (by decide +kernel) rfl (by first | omega | decide) (by first | rw [bi_t (by omega)] | rw [bi_f (by omega)])
theorem c_Harb_cellAt {x y : Int} : Wk xs x_Harb_cellAt d 0 0 0 [some (vr 1), some (vi x), some (vi y)] [] X2 I L (pI (y * I 1 0 + x) I L) := by
  refine Wk.iload_n (k := 2) (q := 1) (by decide +kernel) rfl rfl rfl ?_
  refine Wk.aload_n (k := 0) (q := 2) (by decide +kernel) rfl rfl rfl ?_
  refine Wk.getI (z := 0) (q := 5) f_Harb_41 (by decide +kernel) O_1 (by decide) rfl rfl rfl ?_
  refine Wk.imul (q := 6) (by decide +kernel) rfl ?_
  refine Wk.iload_n (k := 1) (q := 7) (by decide +kernel) rfl rfl rfl ?_
  refine Wk.iadd (q := 8) (by decide +kernel) rfl ?_
  exact Wk.rI (by decide +kernel) rfl (rfl)
end SW
end
section
/-! BITS, of ints as numbers and of longs -/
theorem nZ_nI {z : Int} (h : 0 ≤ z) : nZ z = nI z.toNat := by
  show Int32.ofInt z = Int32.ofNat z.toNat
  rw [← Int32.ofInt_eq_ofNat, Int.toNat_of_nonneg h]
theorem nI_nZ (n : Nat) : nI n = nZ (n : Int) := by rw [nZ_nI (by omega)]; rfl
theorem sm32 : ∀ n, n < 32 → ((nI n &&& 31).toBitVec.smod 32).toNat = n := by decide +kernel
theorem shr_int {F k : Int} (h0 : 0 ≤ F) (h1 : F ≤ 2147483647) (hk : 0 ≤ k) (hk1 : k ≤ 30) : (nZ F >>> (nZ k &&& 31)).toInt = F / (2 ^ k.toNat : Nat) := by
  rw [nZ_nI h0, nZ_nI hk, pk_shrN (by omega) _ k.toNat (sm32 _ (by omega)), nI_toInt (Nat.lt_of_le_of_lt (Nat.div_le_self _ _) (by omega)), Int.natCast_ediv, Int.toNat_of_nonneg h0]
theorem bt_div {F k : Int} (h0 : 0 ≤ F) : bt F k = true ↔ F / (2 ^ k.toNat : Nat) % 2 = 1 := by
  unfold bt
  rw [Nat.testBit_eq_decide_div_mod_eq, decide_eq_true_eq]
  constructor
  · intro h
    have : ((F.toNat / 2 ^ k.toNat % 2 : Nat) : Int) = 1 := by rw [h]; rfl
    rw [Int.natCast_emod, Int.natCast_ediv, Int.toNat_of_nonneg h0] at this
    exact this
  · intro h
    have : ((F.toNat / 2 ^ k.toNat % 2 : Nat) : Int) = 1 := by
      rw [Int.natCast_emod, Int.natCast_ediv, Int.toNat_of_nonneg h0]
      exact h
    omega
/-- (F >> k) & 1 -/
theorem bit_int {F k : Int} (h0 : 0 ≤ F) (h1 : F ≤ 2147483647) (hk : 0 ≤ k) (hk1 : k ≤ 30) : (nZ (nZ F >>> (nZ k &&& 31)).toInt &&& nZ 1).toInt = bi (bt F k = true) := by
  have hpos : (0 : Int) < (2 ^ k.toNat : Nat) := by have := Nat.two_pow_pos k.toNat; omega
  have hd0 : 0 ≤ F / (2 ^ k.toNat : Nat) := Int.ediv_nonneg h0 (by omega)
  have hd1 : F / (2 ^ k.toNat : Nat) ≤ F := Int.ediv_le_self _ h0
  rw [shr_int h0 h1 hk hk1, and_mask hd0 (by omega) 1 1 (by decide +kernel) (by omega)]
  by_cases h : bt F k = true
  · rw [bi_t h]
    exact (bt_div h0).mp h
  · rw [bi_f h]
    have := mt (bt_div (k := k) h0).mpr h
    have h2 : ((2 ^ 1 : Nat) : Int) = 2 := rfl
    rw [h2]
    omega
/-- 1 << k -/
theorem shl_one {k : Int} (hk : 0 ≤ k) (hk1 : k ≤ 30) : (nZ 1 <<< (nZ k &&& 31)).toInt = (2 ^ k.toNat : Nat) := by
  have hp : 2 ^ k.toNat ≤ 2 ^ 30 := Nat.pow_le_pow_right (by decide) (by omega)
  rw [nZ_nI (show (0 : Int) ≤ 1 by omega), nZ_nI hk, show (1 : Int).toNat = 1 from rfl, pk_shlN _ k.toNat (sm32 _ (by omega)) (by omega), nI_toInt (by omega)]
  omega
/-- a set and one bit above it -/
theorem or_above {a k : Int} (h0 : 0 ≤ a) (h1 : a < (2 ^ k.toNat : Nat)) (hk : 0 ≤ k) (hk1 : k ≤ 30) : (nZ a ||| nZ (nZ 1 <<< (nZ k &&& 31)).toInt).toInt = a + (2 ^ k.toNat : Nat) := by
  have hp : 2 ^ k.toNat ≤ 2 ^ 30 := Nat.pow_le_pow_right (by decide) (by omega)
  rw [shl_one hk hk1, nZ_nI h0, nZ_nI (show (0 : Int) ≤ ((2 ^ k.toNat : Nat) : Int) by omega)]
  have e : nI a.toNat ||| nI ((2 ^ k.toNat : Nat) : Int).toNat = nI (a.toNat + 2 ^ k.toNat) := by
    apply Int32.toBitVec_inj.1
    show BitVec.ofNat 32 _ ||| BitVec.ofNat 32 _ = BitVec.ofNat 32 _
    rw [Int.toNat_natCast]
    have e2 : a.toNat + 2 ^ k.toNat = 2 ^ k.toNat ||| a.toNat := by
      have := Nat.two_pow_add_eq_or_of_lt (i := k.toNat) (b := a.toNat) (by omega) 1
      rw [Nat.mul_one] at this
      omega
    rw [e2, Nat.or_comm]
    apply BitVec.eq_of_getLsbD_eq
    intro i hi
    simp [hi, Nat.testBit_or]
  rw [e, nI_toInt (by omega)]
  omega
/-! longs -/
theorem bl_ext {a b : Int64} (h : ∀ i : Int, 0 ≤ i → i < 64 → bl a i = bl b i) : a = b := by
  apply Int64.toBitVec_inj.1
  apply BitVec.eq_of_getLsbD_eq
  intro i hi
  exact h (i : Int) (by omega) (by omega)
theorem bl_and (a b : Int64) (i : Int) : bl (a &&& b) i = (bl a i && bl b i) := by
  unfold bl
  rw [Int64.toBitVec_and, BitVec.getLsbD_and]
theorem bl_or (a b : Int64) (i : Int) : bl (a ||| b) i = (bl a i || bl b i) := by
  unfold bl
  rw [Int64.toBitVec_or, BitVec.getLsbD_or]
theorem bl_0 (i : Int) : bl 0 i = false := by
  unfold bl
  simp
theorem bl_m1 {i : Int} (h : 0 ≤ i) (h1 : i < 64) : bl (-1) i = true := by
  unfold bl
  show (BitVec.allOnes 64).getLsbD i.toNat = true
  rw [BitVec.getLsbD_allOnes]
  simp
  omega
theorem bl_not (a : Int64) {i : Int} (h : 0 ≤ i) (h1 : i < 64) : bl (a ^^^ (-1)) i = !bl a i := by
  have h2 := bl_m1 h h1
  unfold bl at *
  rw [Int64.toBitVec_xor, BitVec.getLsbD_xor, h2]
  simp
theorem cu64 : ∀ k, k < 64 → ((nI k).toInt64.toUInt64 &&& Int64.toUInt64 63).toNat = k := by decide +kernel
theorem cs64 : ∀ k, k < 64 → (((nI k).toInt64 &&& 63).toBitVec.smod 64).toNat = k := by decide +kernel
theorem bl_ushr (w : Int64) {s i : Int} (hs : 0 ≤ s) (hs1 : s < 64) (hi : 0 ≤ i) : bl (w.toUInt64 >>> ((nZ s).toInt64.toUInt64 &&& Int64.toUInt64 63)).toInt64 i = bl w (i + s) := by
  have e : (w.toUInt64 >>> ((nZ s).toInt64.toUInt64 &&& Int64.toUInt64 63)).toInt64.toBitVec = w.toBitVec >>> s.toNat := by
    apply BitVec.eq_of_toNat_eq
    show (w.toUInt64 >>> ((nZ s).toInt64.toUInt64 &&& Int64.toUInt64 63)).toNat = _
    rw [UInt64.toNat_shiftRight, nZ_nI hs, cu64 _ (by omega), Nat.mod_eq_of_lt (by omega), BitVec.toNat_ushiftRight]
    rfl
  unfold bl
  rw [e, BitVec.getLsbD_ushiftRight]
  congr 1
  omega
theorem bl_shl (w : Int64) {s i : Int} (hs : 0 ≤ s) (hs1 : s < 64) (hi : 0 ≤ i) (hi1 : i < 64) : bl (w <<< ((nZ s).toInt64 &&& 63)) i = (decide (s ≤ i) && bl w (i - s)) := by
  unfold bl
  rw [Int64.toBitVec_shiftLeft]
  show (w.toBitVec <<< (((nZ s).toInt64 &&& 63).toBitVec.smod 64).toNat).getLsbD i.toNat = _
  rw [nZ_nI hs, cs64 _ (by omega), BitVec.getLsbD_shiftLeft]
  by_cases h : s ≤ i
  · have e : (i - s).toNat = i.toNat - s.toNat := by omega
    have e2 : ¬ i.toNat < s.toNat := by omega
    have e3 : i.toNat < 64 := by omega
    simp [h, e, e2, e3]
  · have e2 : i.toNat < s.toNat := by omega
    simp [h, e2]
theorem bl_1 {i : Int} (h : 0 ≤ i) : bl 1 i = decide (i = 0) := by
  unfold bl
  show (1#64).getLsbD i.toNat = _
  rw [BitVec.getLsbD_one]
  by_cases h0 : i = 0
  · subst h0; rfl
  · have : ¬ i.toNat = 0 := by omega
    simp [h0, this]
/-- 1L << s -/
theorem bl_one {s i : Int} (hs : 0 ≤ s) (hs1 : s < 64) (hi : 0 ≤ i) (hi1 : i < 64) : bl ((1 : Int64) <<< ((nZ s).toInt64 &&& 63)) i = decide (i = s) := by
  rw [bl_shl 1 hs hs1 hi hi1]
  by_cases h : s ≤ i
  · rw [bl_1 (by omega)]
    by_cases h2 : i = s
    · subst h2; simp
    · have : ¬ i - s = 0 := by omega
      simp [h2, this]
  · have : ¬ i = s := by omega
    simp [h, this]
/-- ((w >>> s) & 1L) is 0 or not -/
theorem bl_holds (w : Int64) {s : Int} (hs : 0 ≤ s) (hs1 : s < 64) : ((w.toUInt64 >>> ((nZ s).toInt64.toUInt64 &&& Int64.toUInt64 63)).toInt64 &&& 1) = 0 ↔ bl w s = false := by
  constructor
  · intro h
    have h1 := congrArg (fun x => bl x 0) h
    simp only [bl_and, bl_0, bl_1 (Int.le_refl 0), bl_ushr w hs hs1 (Int.le_refl 0), Int.zero_add] at h1
    simpa using h1
  · intro h
    apply bl_ext
    intro i h0 h1
    rw [bl_and, bl_0, bl_1 h0, bl_ushr w hs hs1 h0]
    by_cases h2 : i = 0
    · subst h2
      rw [Int.zero_add, h]
      simp
    · simp [h2]
theorem bl_zero {w : Int64} : w = 0 ↔ ∀ i : Int, 0 ≤ i → i < 64 → bl w i = false := by
  constructor
  · intro h i _ _
    rw [h, bl_0]
  · intro h
    apply bl_ext
    intro i h0 h1
    rw [h i h0 h1, bl_0]
/-- sets of numbers under n as an int; how many -/
noncomputable def so (P : Int → Prop) : Nat → Int
  | 0 => 0
  | n + 1 => so P n + bi (P n) * (2 ^ n : Nat)
noncomputable def ct (P : Int → Prop) : Nat → Int
  | 0 => 0
  | n + 1 => ct P n + bi (P n)
theorem so_range (P : Int → Prop) : ∀ n, 0 ≤ so P n ∧ so P n < (2 ^ n : Nat)
  | 0 => by simp [so]
  | n + 1 => by
    have h := so_range P n
    have hb := bi_01 (P n)
    have hp : (2 ^ (n + 1) : Nat) = 2 ^ n + 2 ^ n := by rw [Nat.pow_succ]; omega
    simp only [so, hp]
    rcases hb with e | e <;> rw [e] <;> constructor <;> omega
theorem so_cong {P Q : Int → Prop} : ∀ {n : Nat}, (∀ k : Int, 0 ≤ k → k < n → (P k ↔ Q k)) → so P n = so Q n
  | 0, _ => rfl
  | n + 1, h => by
    simp only [so]
    rw [so_cong (fun k h0 h1 => h k h0 (by omega)), bi_cong (h n (by omega) (by omega))]
theorem ct_cong {P Q : Int → Prop} : ∀ {n : Nat}, (∀ k : Int, 0 ≤ k → k < n → (P k ↔ Q k)) → ct P n = ct Q n
  | 0, _ => rfl
  | n + 1, h => by
    simp only [ct]
    rw [ct_cong (fun k h0 h1 => h k h0 (by omega)), bi_cong (h n (by omega) (by omega))]
theorem ct_range (P : Int → Prop) : ∀ n : Nat, 0 ≤ ct P n ∧ ct P n ≤ n
  | 0 => by simp [ct]
  | n + 1 => by
    have h := ct_range P n
    have hb := bi_range (P n)
    simp only [ct]
    omega
theorem so_step (P : Int → Prop) {k : Int} (h : 0 ≤ k) : so P (k + 1).toNat = so P k.toNat + bi (P k) * (2 ^ k.toNat : Nat) := by
  have e : (k + 1).toNat = k.toNat + 1 := by omega
  rw [e]
  simp only [so]
  rw [Int.toNat_of_nonneg h]
theorem ct_step (P : Int → Prop) {k : Int} (h : 0 ≤ k) : ct P (k + 1).toNat = ct P k.toNat + bi (P k) := by
  have e : (k + 1).toNat = k.toNat + 1 := by omega
  rw [e]
  simp only [ct]
  rw [Int.toNat_of_nonneg h]
theorem so_zero {P : Int → Prop} : ∀ {n : Nat}, so P n = 0 ↔ ∀ k : Int, 0 ≤ k → k < n → ¬ P k
  | 0 => by simp [so]; intro k h0 h1; omega
  | n + 1 => by
    have h := so_range P n
    have hp := Nat.two_pow_pos n
    have ih := so_zero (P := P) (n := n)
    simp only [so]
    constructor
    · intro e k h0 h1
      rcases bi_01 (P n) with b | b
      · rw [b] at e
        by_cases hk : k = n
        · subst hk
          exact bi_eq0.mp b
        · exact ih.mp (by omega) k h0 (by omega)
      · rw [b] at e
        omega
    · intro e
      rw [bi_f (e n (by omega) (by omega)), ih.mpr (fun k h0 h1 => e k h0 (by omega))]
      omega
/-- the bits of such a set -/
theorem so_bt {P : Int → Prop} : ∀ {n : Nat} {k : Int}, 0 ≤ k → k < n → (bt (so P n) k = true ↔ P k)
  | 0, k, h0, h1 => by omega
  | n + 1, k, h0, h1 => by
    have h := so_range P n
    have h2 := so_range P (n + 1)
    have hp := Nat.two_pow_pos n
    unfold bt
    have e : (so P (n + 1)).toNat = 2 ^ n * (bi (P n)).toNat + (so P n).toNat := by
      simp only [so]
      rcases bi_01 (P n) with b | b <;> rw [b]
      · simp
      · have : (1 : Int).toNat = 1 := rfl
        rw [this]
        omega
    rw [e]
    by_cases hk : k = n
    · subst hk
      rw [show ((n : Int)).toNat = n from by omega, Nat.testBit_two_pow_mul_add _ (by omega)]
      simp only [Nat.lt_irrefl, if_false, Nat.sub_self]
      rcases bi_01 (P n) with b | b
      · rw [b]
        simp [bi_eq0.mp b]
      · rw [b]
        simp [bi_eq1.mp b]
    · rw [Nat.testBit_two_pow_mul_add _ (by omega), if_pos (by omega)]
      exact so_bt (n := n) h0 (by omega)
end
section
/-! THE HARBOUR of the class: its methods -/
theorem bi_rng (p : Prop) : -2147483648 ≤ bi p ∧ bi p ≤ 2147483647 := by have := bi_range p; omega
theorem Wk.ifB_eq {xs : RO} {cx : CX} {d bc bs pc q : Nat} {lv : List (Option AV)} {st : List AV} {X : LY} {I : IM} {L : LM} {post : Option AV → LY → IM → LM → Prop} {p : Prop} {off : Int} {t : Nat} (hd : decode (cxC cx) pc = .ok (.ifCond .eq off, 3)) (ht : (pc : Int) + off = (t : Int)) (hq : pc + 3 = q) (kt : ¬ p → Wk xs cx d bc bs t lv st X I L post) (kf : p → Wk xs cx d bc bs q lv st X I L post) : Wk xs cx d bc bs pc lv (vi (bi p) :: st) X I L post :=
  Wk.if_eq hd ht hq (bi_rng p) (fun h => kt (bi_eq0.mp h)) (fun h => kf (Classical.not_not.mp (fun z => h (bi_f z))))
theorem Wk.ifB_ne {xs : RO} {cx : CX} {d bc bs pc q : Nat} {lv : List (Option AV)} {st : List AV} {X : LY} {I : IM} {L : LM} {post : Option AV → LY → IM → LM → Prop} {p : Prop} {off : Int} {t : Nat} (hd : decode (cxC cx) pc = .ok (.ifCond .ne off, 3)) (ht : (pc : Int) + off = (t : Int)) (hq : pc + 3 = q) (kt : p → Wk xs cx d bc bs t lv st X I L post) (kf : ¬ p → Wk xs cx d bc bs q lv st X I L post) : Wk xs cx d bc bs pc lv (vi (bi p) :: st) X I L post :=
  Wk.if_ne hd ht hq (bi_rng p) (fun h => kt (Classical.not_not.mp (fun z => h (bi_f z)))) (fun h => kf (bi_eq0.mp h))
/-- a cell's number lies in the row -/
theorem cellB {x y W H : Int} (hx : 0 ≤ x ∧ x < W) (hy : 0 ≤ y ∧ y < H) : 0 ≤ y * W + x ∧ y * W + x < W * H ∧ 0 ≤ y * W := by
  have h1 : 0 ≤ y * W := Int.mul_nonneg hy.1 (by omega)
  have h2 : (y + 1) * W ≤ H * W := Int.mul_le_mul_of_nonneg_right (by omega) (by omega)
  have h3 : (y + 1) * W = y * W + W := by rw [Int.add_mul, Int.one_mul]
  have h4 : H * W = W * H := Int.mul_comm H W
  omega
theorem WH49 {W H : Int} (hW : 0 ≤ W ∧ W ≤ 7) (hH : 0 ≤ H ∧ H ≤ 7) : 0 ≤ W * H ∧ W * H ≤ 49 := by
  have h1 : 0 ≤ W * H := Int.mul_nonneg hW.1 hH.1
  have h2 : W * H ≤ 7 * H := Int.mul_le_mul_of_nonneg_right hW.2 hH.1
  omega
/-- scalars and depths as they should be -/
def CI0 (I : IM) : Prop := (2 ≤ I 1 0 ∧ I 1 0 ≤ 7) ∧ (2 ≤ I 1 1 ∧ I 1 1 ≤ 7) ∧ (-3 ≤ I 1 2 ∧ I 1 2 ≤ 3) ∧ (1 ≤ I 1 3 ∧ I 1 3 ≤ 255) ∧ (0 ≤ I 1 4 ∧ I 1 4 ≤ 5) ∧ (0 ≤ I 1 5 ∧ I 1 5 ≤ 3) ∧ ∀ k, 0 ≤ k → k < 49 → 0 ≤ I 2 k ∧ I 2 k ≤ 9
/-- a slot that holds a ship -/
def Slot1 (I : IM) (s : Int) : Prop := (0 ≤ s ∧ s < I 1 4) ∨ (5 ≤ s ∧ s < 5 + I 1 5)
def CI1 (I : IM) : Prop := ∀ s, Slot1 I s → (1 ≤ I 3 s ∧ I 3 s ≤ 9) ∧ (0 ≤ I 4 s ∧ I 4 s ≤ 2) ∧ (1 ≤ I 5 s ∧ I 5 s ≤ 2)
def CI2 (I : IM) : Prop := ∀ a, 0 ≤ a → a < I 1 4 → (0 ≤ I 6 a ∧ I 6 a < I 1 0) ∧ (0 ≤ I 7 a ∧ I 7 a < I 1 1)
def CW (I : IM) : Prop := CI0 I ∧ CI1 I ∧ CI2 I
/-- WATER -/
def inE (W H x y : Int) : Prop := 0 ≤ x ∧ x < W ∧ 0 ≤ y ∧ y < H
noncomputable def wat (W H t : Int) (dep : Int → Int) (x y : Int) : Int := @ite Int (inE W H x y) (Classical.propDecidable _) (max 0 (dep (y * W + x) + t)) 0
theorem wat_in {W H t : Int} {dep : Int → Int} {x y : Int} (h : inE W H x y) : wat W H t dep x y = max 0 (dep (y * W + x) + t) := by unfold wat; rw [if_pos h]
theorem wat_out {W H t : Int} {dep : Int → Int} {x y : Int} (h : ¬ inE W H x y) : wat W H t dep x y = 0 := by unfold wat; rw [if_neg h]
noncomputable abbrev cwat (I : IM) (x y : Int) : Int := wat (I 1 0) (I 1 1) (I 1 2) (I 2) x y
theorem cwat_range {I : IM} (h : CI0 I) (x y : Int) : 0 ≤ cwat I x y ∧ cwat I x y ≤ 12 := by
  by_cases hi : inE (I 1 0) (I 1 1) x y
  · obtain ⟨h1, h2, h3, -, -, -, h7⟩ := h
    have hb := cellB (W := I 1 0) (H := I 1 1) (x := x) (y := y) ⟨hi.1, hi.2.1⟩ ⟨hi.2.2.1, hi.2.2.2⟩
    have h49 := WH49 (W := I 1 0) (H := I 1 1) (by omega) (by omega)
    have := h7 (y * I 1 0 + x) (by omega) (by omega)
    rw [cwat, wat_in hi]
    omega
  · rw [cwat, wat_out hi]
    omega
theorem cmp0 {x : Int64} : (if x = 0 then (0 : Int) else if 0 < x then 1 else -1) = 0 ↔ x = 0 := by
  by_cases h : x = 0
  · simp [h]
  · rw [if_neg h]
    constructor
    · intro z
      split at z <;> omega
    · intro z
      exact absurd z h
section HB
variable {xs : RO} {d : Nat} {I : IM} {L : LM}

theorem c_Sw_holds {w : Int64} {s : Int} (h0 : 0 ≤ s) (h1 : s < 64) : Wk xs x_Sw_holds d 0 0 0 [some (vl w), none, some (vi s)] [] X2 I L (pI (bi (bl w s = true)) I L) := by
  refine Wk.lload_n (k := 0) (q := 1) (by decide +kernel) rfl rfl rfl ?_
  refine Wk.iload_n (k := 2) (q := 2) (by decide +kernel) rfl rfl rfl ?_
  refine Wk.lushr (q := 3) (by decide +kernel) rfl ?_
  refine Wk.lconst (n := 1) (v := 1) (q := 4) (by decide +kernel) rfl rfl ?_
  refine Wk.land (q := 5) (by decide +kernel) rfl ?_
  refine Wk.lconst (n := 0) (v := 0) (q := 6) (by decide +kernel) rfl rfl ?_
  refine Wk.lcmp (q := 7) (by decide +kernel) rfl ?_
  refine Wk.if_eq (off := (7)) (t := 14) (q := 10) (by decide +kernel) (by decide) rfl (by first | omega | (split <;> (try split) <;> omega)) (fun hc7 => ?_) (fun hc7 => ?_)
  · refine Wk.iconst (n := 0) (q := 15) (by decide +kernel) rfl ?_
    exact Wk.rZ (by decide +kernel) rfl (by first | omega | decide | exact bi_01 _) (by rw [cmp0, bl_holds w h0 h1] at hc7; first | (rw [bi_f (by rw [hc7]; decide)]; done) | (rw [bi_t (by simpa using hc7)]; done))
  · refine Wk.iconst (n := 1) (q := 11) (by decide +kernel) rfl ?_
    refine Wk.goto (off := (4)) (q := 15) (by decide +kernel) (by decide) ?_
    exact Wk.rZ (by decide +kernel) rfl (by first | omega | decide | exact bi_01 _) (by rw [cmp0, bl_holds w h0 h1] at hc7; first | (rw [bi_f (by rw [hc7]; decide)]; done) | (rw [bi_t (by simpa using hc7)]; done))
theorem c_Sw_firstOf {w : Int64} : Wk xs x_Sw_firstOf (d + 1) 0 0 0 [some (vl w), none, none] [] X2 I L (p2 fun v I' L' => (∃ s : Int, v = some (vi s) ∧ ((s = -1 ∧ ∀ i, 0 ≤ i → i < 64 → bl w i = false) ∨ (0 ≤ s ∧ s < 64 ∧ bl w s = true ∧ ∀ i, 0 ≤ i → i < s → bl w i = false))) ∧ I' = I ∧ L' = L) := by
  refine Wk.iconst (n := 0) (q := 1) (by decide +kernel) rfl ?_
  refine Wk.istore_n (k := 2) (q := 2) (by decide +kernel) rfl (by decide) rfl (fun _ h => h) rfl ?_
  refine loopS (σ := Unit) (fun k _ => Wk xs x_Sw_firstOf (d + 1) 0 0 2 [some (vl w), none, some (vi k)] [] X2 I L _) (fun k _ => ∀ i, 0 ≤ i → i < k → bl w i = false) 64 0 () (by omega) (fun i h0 h1 => by omega) ?_ ?_
  · intro _ hJ
    refine Wk.iload_n (k := 2) (q := 3) (by decide +kernel) rfl rfl rfl ?_
    refine Wk.bipush (n := 64) (q := 5) (by decide +kernel) (by decide +kernel) rfl ?_
    refine Wk.icmp_ge (off := (19)) (t := 24) (q := 8) (by decide +kernel) (by decide) rfl (by first | omega | exact bi_rng _) (by first | omega | exact bi_rng _) (fun hc5 => ?_) (fun hc5 => ?_)
    · refine Wk.iconst (n := (-1)) (q := 25) (by decide +kernel) rfl ?_
      exact Wk.riP (by decide +kernel) rfl (⟨⟨-1, rfl, Or.inl ⟨rfl, hJ⟩⟩, rfl, rfl⟩)
    · omega
  · intro k _ h0 h1 hJ ih
    refine Wk.iload_n (k := 2) (q := 3) (by decide +kernel) rfl rfl rfl ?_
    refine Wk.bipush (n := 64) (q := 5) (by decide +kernel) (by decide +kernel) rfl ?_
    refine Wk.icmp_ge (off := (19)) (t := 24) (q := 8) (by decide +kernel) (by decide) rfl (by first | omega | exact bi_rng _) (by first | omega | exact bi_rng _) (fun hc5 => ?_) (fun hc5 => ?_)
    · omega
    · refine Wk.lload_n (k := 0) (q := 9) (by decide +kernel) rfl rfl rfl ?_
      refine Wk.iload_n (k := 2) (q := 10) (by decide +kernel) rfl rfl rfl ?_
      refine Wk.cSi (q := 13) l_Sw_213 m_Sw_holds (by decide +kernel) (fun _ h => h) (Nat.le_of_ble_eq_true rfl) (Nat.le_of_ble_eq_true rfl) rfl (c_Sw_holds (by omega) (by omega)) rfl ?_
      refine Wk.ifB_eq (off := (5)) (t := 18) (q := 16) (by decide +kernel) (by decide) rfl (fun hc13 => ?_) (fun hc13 => ?_)
      · refine Wk.iinc (i := 2) (n := 1) (q := 21) (by decide +kernel) rfl (by decide) rfl (fun _ h => h) rfl ?_
        refine Wk.goto (off := (-19)) (q := 2) (by decide +kernel) (by decide) ?_
        exact ih () (fun i g0 g1 => by by_cases hi : i = k; subst hi; simpa using hc13; exact hJ i g0 (by omega))
      · refine Wk.iload_n (k := 2) (q := 17) (by decide +kernel) rfl rfl rfl ?_
        exact Wk.riP (by decide +kernel) rfl (⟨⟨k, rfl, Or.inr ⟨h0, h1, hc13, hJ⟩⟩, rfl, rfl⟩)
theorem c_Sw_cellOfSpot {s : Int} (h : s = -1 ∨ (0 ≤ s ∧ s < 64)) : Wk xs x_Sw_cellOfSpot (d + 1) 0 0 0 [some (vr 0), some (vi s)] [] X2 I L (pI (if s = -1 then -1 else (s / 8) * I 1 0 + s % 8) I L) := by
  refine Wk.iload_n (k := 1) (q := 1) (by decide +kernel) rfl rfl rfl ?_
  refine Wk.iconst (n := (-1)) (q := 2) (by decide +kernel) rfl ?_
  refine Wk.icmp_ne (off := (7)) (t := 9) (q := 5) (by decide +kernel) (by decide) rfl (by first | omega | exact bi_rng _) (by first | omega | exact bi_rng _) (fun hc2 => ?_) (fun hc2 => ?_)
  · refine Wk.aload_n (k := 0) (q := 10) (by decide +kernel) rfl rfl rfl ?_
    refine Wk.getR (r := 1) (q := 13) f_Sw_12 (by decide +kernel) O_0 (by decide) rfl rfl rfl ?_
    refine Wk.iload_n (k := 1) (q := 14) (by decide +kernel) rfl rfl rfl ?_
    refine Wk.cSi (q := 17) l_Sw_267 m_Sw_columnOf (by decide +kernel) (fun _ h => h) (Nat.le_of_ble_eq_true rfl) (Nat.le_of_ble_eq_true rfl) rfl (c_Sw_columnOf (by omega) (by omega)) rfl ?_
    refine Wk.iload_n (k := 1) (q := 18) (by decide +kernel) rfl rfl rfl ?_
    refine Wk.cSi (q := 21) l_Sw_270 m_Sw_lineOf (by decide +kernel) (fun _ h => h) (Nat.le_of_ble_eq_true rfl) (Nat.le_of_ble_eq_true rfl) rfl (c_Sw_lineOf (by omega) (by omega)) rfl ?_
    refine Wk.cVi (q := 24) l_Sw_144 m_Harb_cellAt (by decide +kernel) (fun _ h => h) O_1 rfl (Nat.le_of_ble_eq_true rfl) (Nat.le_of_ble_eq_true rfl) rfl (c_Harb_cellAt) rfl ?_
    exact Wk.rI (by decide +kernel) rfl (by first | rw [if_pos (by omega)] | rw [if_neg (by omega)])
  · refine Wk.iconst (n := (-1)) (q := 6) (by decide +kernel) rfl ?_
    refine Wk.goto (off := (18)) (q := 24) (by decide +kernel) (by decide) ?_
    exact Wk.rI (by decide +kernel) rfl (by first | rw [if_pos (by omega)] | rw [if_neg (by omega)])
theorem c_Harb_hasSlot {s : Int} (hs : 0 ≤ s ∧ s ≤ 7) (hA : 0 ≤ I 1 4 ∧ I 1 4 ≤ 5) (hB : 0 ≤ I 1 5 ∧ I 1 5 ≤ 3) : Wk xs x_Harb_hasSlot (d + 1) 0 0 0 [some (vr 1), some (vi s)] [] X2 I L (pI (bi (Slot1 I s)) I L) := by
  refine Wk.aload_n (k := 0) (q := 1) (by decide +kernel) rfl rfl rfl ?_
  refine Wk.iload_n (k := 1) (q := 2) (by decide +kernel) rfl rfl rfl ?_
  refine Wk.cVi (q := 5) l_Harb_59 m_Harb_hasAnchored (by decide +kernel) (fun _ h => h) O_1 rfl (Nat.le_of_ble_eq_true rfl) (Nat.le_of_ble_eq_true rfl) rfl (c_Harb_hasAnchored (by omega) hA) rfl ?_
  refine Wk.ifB_ne (off := (13)) (t := 18) (q := 8) (by decide +kernel) (by decide) rfl (fun hc5 => ?_) (fun hc5 => ?_)
  · refine Wk.iconst (n := 1) (q := 19) (by decide +kernel) rfl ?_
    refine Wk.goto (off := (4)) (q := 23) (by decide +kernel) (by decide) ?_
    exact Wk.rZ (by decide +kernel) rfl (by first | omega | decide | exact bi_01 _) (by first | rw [bi_t (by unfold Slot1; omega)] | rw [bi_f (by unfold Slot1; omega)])
  · refine Wk.aload_n (k := 0) (q := 9) (by decide +kernel) rfl rfl rfl ?_
    refine Wk.iload_n (k := 1) (q := 10) (by decide +kernel) rfl rfl rfl ?_
    refine Wk.iconst (n := 5) (q := 11) (by decide +kernel) rfl ?_
    refine Wk.isub (q := 12) (by decide +kernel) rfl ?_
    refine Wk.cVi (q := 15) l_Harb_63 m_Harb_hasWaiting (by decide +kernel) (fun _ h => h) O_1 rfl (Nat.le_of_ble_eq_true rfl) (Nat.le_of_ble_eq_true rfl) rfl (c_Harb_hasWaiting (by omega) hB) rfl ?_
    refine Wk.ifB_eq (off := (7)) (t := 22) (q := 18) (by decide +kernel) (by decide) rfl (fun hc15 => ?_) (fun hc15 => ?_)
    · refine Wk.iconst (n := 0) (q := 23) (by decide +kernel) rfl ?_
      exact Wk.rZ (by decide +kernel) rfl (by first | omega | decide | exact bi_01 _) (by first | rw [bi_t (by unfold Slot1; omega)] | rw [bi_f (by unfold Slot1; omega)])
    · refine Wk.iconst (n := 1) (q := 19) (by decide +kernel) rfl ?_
      refine Wk.goto (off := (4)) (q := 23) (by decide +kernel) (by decide) ?_
      exact Wk.rZ (by decide +kernel) rfl (by first | omega | decide | exact bi_01 _) (by first | rw [bi_t (by unfold Slot1; omega)] | rw [bi_f (by unfold Slot1; omega)])
theorem c_Harb_depthAt {x y : Int} (hi : inE (I 1 0) (I 1 1) x y) (hC : CI0 I) : Wk xs x_Harb_depthAt (d + 1) 0 0 0 [some (vr 1), some (vi x), some (vi y)] [] X2 I L (pI (I 2 (y * I 1 0 + x)) I L) := by
  obtain ⟨h1, h2, h3, -, -, -, h7⟩ := hC
  obtain ⟨i1, i2, i3, i4⟩ := hi
  have hb := cellB (W := I 1 0) (H := I 1 1) (x := x) (y := y) ⟨i1, i2⟩ ⟨i3, i4⟩
  have h49 := WH49 (W := I 1 0) (H := I 1 1) (by omega) (by omega)
  refine Wk.aload_n (k := 0) (q := 1) (by decide +kernel) rfl rfl rfl ?_
  refine Wk.iload_n (k := 1) (q := 2) (by decide +kernel) rfl rfl rfl ?_
  refine Wk.iload_n (k := 2) (q := 3) (by decide +kernel) rfl rfl rfl ?_
  refine Wk.cVi (q := 6) l_Harb_66 m_Harb_hasCell (by decide +kernel) (fun _ h => h) O_1 rfl (Nat.le_of_ble_eq_true rfl) (Nat.le_of_ble_eq_true rfl) rfl (c_Harb_hasCell (by omega) (by omega) (by omega) (by omega)) rfl ?_
  refine Wk.ifB_eq (off := (17)) (t := 23) (q := 9) (by decide +kernel) (by decide) rfl (fun hc6 => ?_) (fun hc6 => ?_)
  · refine Wk.iconst (n := 0) (q := 24) (by decide +kernel) rfl ?_
    exact Wk.rI (by decide +kernel) rfl (by first | rfl | exact absurd ⟨i1, i2, i3, i4⟩ hc6)
  · refine Wk.aload_n (k := 0) (q := 10) (by decide +kernel) rfl rfl rfl ?_
    refine Wk.getR (r := 2) (q := 13) f_Harb_9 (by decide +kernel) O_1 (by decide) rfl rfl rfl ?_
    refine Wk.aload_n (k := 0) (q := 14) (by decide +kernel) rfl rfl rfl ?_
    refine Wk.iload_n (k := 1) (q := 15) (by decide +kernel) rfl rfl rfl ?_
    refine Wk.iload_n (k := 2) (q := 16) (by decide +kernel) rfl rfl rfl ?_
    refine Wk.cVi (q := 19) l_Harb_70 m_Harb_cellAt (by decide +kernel) (fun _ h => h) O_1 rfl (Nat.le_of_ble_eq_true rfl) (Nat.le_of_ble_eq_true rfl) rfl (c_Harb_cellAt) rfl ?_
    refine Wk.iaload (q := 20) (by decide +kernel) A_2 (by first | omega | exact bi_rng _) (by first | omega | exact bi_rng _) rfl ?_
    refine Wk.goto (off := (4)) (q := 24) (by decide +kernel) (by decide) ?_
    exact Wk.rI (by decide +kernel) rfl (by first | rfl | exact absurd ⟨i1, i2, i3, i4⟩ hc6)
theorem c_Harb_water {x y : Int} (hx : -2147483648 ≤ x ∧ x ≤ 2147483647) (hy : -2147483648 ≤ y ∧ y ≤ 2147483647) (hC : CI0 I) : Wk xs x_Harb_water (d + 1) 0 0 0 [some (vr 1), some (vi x), some (vi y)] [] X2 I L (pI (cwat I x y) I L) := by
  obtain ⟨h1, h2, h3, -, -, -, h7⟩ := hC
  refine Wk.aload_n (k := 0) (q := 1) (by decide +kernel) rfl rfl rfl ?_
  refine Wk.iload_n (k := 1) (q := 2) (by decide +kernel) rfl rfl rfl ?_
  refine Wk.iload_n (k := 2) (q := 3) (by decide +kernel) rfl rfl rfl ?_
  refine Wk.cVi (q := 6) l_Harb_66 m_Harb_hasCell (by decide +kernel) (fun _ h => h) O_1 rfl (Nat.le_of_ble_eq_true rfl) (Nat.le_of_ble_eq_true rfl) rfl (c_Harb_hasCell (by omega) (by omega) (by omega) (by omega)) rfl ?_
  refine Wk.ifB_eq (off := (26)) (t := 32) (q := 9) (by decide +kernel) (by decide) rfl (fun hc6 => ?_) (fun hc6 => ?_)
  · have hout : ¬ inE (I 1 0) (I 1 1) x y := hc6
    refine Wk.iconst (n := 0) (q := 33) (by decide +kernel) rfl ?_
    exact Wk.rI (by decide +kernel) rfl (by first | (rw [cwat, wat_out hout]) | (rw [cwat, wat_in hc6]; split <;> omega))
  · have hb := cellB (W := I 1 0) (H := I 1 1) (x := x) (y := y) ⟨hc6.1, hc6.2.1⟩ ⟨hc6.2.2.1, hc6.2.2.2⟩
    have h49 := WH49 (W := I 1 0) (H := I 1 1) (by omega) (by omega)
    have hdp := h7 (y * I 1 0 + x) (by omega) (by omega)
    refine Wk.iconst (n := 0) (q := 10) (by decide +kernel) rfl ?_
    refine Wk.aload_n (k := 0) (q := 11) (by decide +kernel) rfl rfl rfl ?_
    refine Wk.getR (r := 2) (q := 14) f_Harb_9 (by decide +kernel) O_1 (by decide) rfl rfl rfl ?_
    refine Wk.aload_n (k := 0) (q := 15) (by decide +kernel) rfl rfl rfl ?_
    refine Wk.iload_n (k := 1) (q := 16) (by decide +kernel) rfl rfl rfl ?_
    refine Wk.iload_n (k := 2) (q := 17) (by decide +kernel) rfl rfl rfl ?_
    refine Wk.cVi (q := 20) l_Harb_70 m_Harb_cellAt (by decide +kernel) (fun _ h => h) O_1 rfl (Nat.le_of_ble_eq_true rfl) (Nat.le_of_ble_eq_true rfl) rfl (c_Harb_cellAt) rfl ?_
    refine Wk.iaload (q := 21) (by decide +kernel) A_2 (by first | omega | exact bi_rng _) (by first | omega | exact bi_rng _) rfl ?_
    refine Wk.aload_n (k := 0) (q := 22) (by decide +kernel) rfl rfl rfl ?_
    refine Wk.getI (z := 2) (q := 25) f_Harb_30 (by decide +kernel) O_1 (by decide) rfl rfl rfl ?_
    refine Wk.iadd (q := 26) (by decide +kernel) rfl ?_
    refine Wk.max (q := 29) l_Harb_74 (by decide +kernel) (by first | omega | exact bi_rng _) (by first | omega | exact bi_rng _) (Nat.le_of_ble_eq_true rfl) rfl ?_
    refine Wk.goto (off := (4)) (q := 33) (by decide +kernel) (by decide) ?_
    exact Wk.rI (by decide +kernel) rfl (by first | (rw [cwat, wat_out hout]) | (rw [cwat, wat_in hc6]; split <;> omega))
theorem c_Harb_changeDepth {n v : Int} (h0 : 0 ≤ n) (h1 : n < 49) : Wk xs x_Harb_changeDepth d 0 0 0 [some (vr 1), some (vi n), some (vi v)] [] X2 I L (pV (iup I 2 n v) L) := by
  refine Wk.iload_n (k := 1) (q := 1) (by decide +kernel) rfl rfl rfl ?_
  refine Wk.if_lt (off := (19)) (t := 20) (q := 4) (by decide +kernel) (by decide) rfl (by first | omega | exact bi_rng _) (fun hc1 => ?_) (fun hc1 => ?_)
  · exact Wk.rV (by decide +kernel) rfl (by first | rfl | omega) rfl
  · refine Wk.iload_n (k := 1) (q := 5) (by decide +kernel) rfl rfl rfl ?_
    refine Wk.aload_n (k := 0) (q := 6) (by decide +kernel) rfl rfl rfl ?_
    refine Wk.getR (r := 2) (q := 9) f_Harb_9 (by decide +kernel) O_1 (by decide) rfl rfl rfl ?_
    refine Wk.alen (q := 10) (by decide +kernel) A_2 rfl rfl ?_
    refine Wk.icmp_ge (off := (10)) (t := 20) (q := 13) (by decide +kernel) (by decide) rfl (by first | omega | exact bi_rng _) (by first | omega | exact bi_rng _) (fun hc10 => ?_) (fun hc10 => ?_)
    · exact Wk.rV (by decide +kernel) rfl (by first | rfl | omega) rfl
    · refine Wk.aload_n (k := 0) (q := 14) (by decide +kernel) rfl rfl rfl ?_
      refine Wk.getR (r := 2) (q := 17) f_Harb_9 (by decide +kernel) O_1 (by decide) rfl rfl rfl ?_
      refine Wk.iload_n (k := 1) (q := 18) (by decide +kernel) rfl rfl rfl ?_
      refine Wk.iload_n (k := 2) (q := 19) (by decide +kernel) rfl rfl rfl ?_
      refine Wk.iastore (q := 20) (by decide +kernel) A_2 (by first | omega | exact bi_rng _) (by first | omega | exact bi_rng _) rfl ?_
      exact Wk.rV (by decide +kernel) rfl (by first | rfl | omega) rfl
/-- a ship's slot copied; one that waits added -/
def cpS (I : IM) (f t : Int) : IM := iup (iup (iup (iup (iup I 3 t (I 3 f)) 4 t (I 4 f)) 5 t (I 5 f)) 6 t (I 6 f)) 7 t (I 7 f)
theorem c_Harb_copySlot {f t : Int} (hf : 0 ≤ f ∧ f < 8) (ht : 0 ≤ t ∧ t < 8) : Wk xs x_Harb_copySlot d 0 0 0 [some (vr 1), some (vi f), some (vi t)] [] X2 I L (pV (cpS I f t) L) := by
  refine Wk.aload_n (k := 0) (q := 1) (by decide +kernel) rfl rfl rfl ?_
  refine Wk.getR (r := 3) (q := 4) f_Harb_15 (by decide +kernel) O_1 (by decide) rfl rfl rfl ?_
  refine Wk.iload_n (k := 2) (q := 5) (by decide +kernel) rfl rfl rfl ?_
  refine Wk.aload_n (k := 0) (q := 6) (by decide +kernel) rfl rfl rfl ?_
  refine Wk.getR (r := 3) (q := 9) f_Harb_15 (by decide +kernel) O_1 (by decide) rfl rfl rfl ?_
  refine Wk.iload_n (k := 1) (q := 10) (by decide +kernel) rfl rfl rfl ?_
  refine Wk.iaload (q := 11) (by decide +kernel) A_3 (by first | omega | exact bi_rng _) (by first | omega | exact bi_rng _) rfl ?_
  refine Wk.iastore (q := 12) (by decide +kernel) A_3 (by first | omega | exact bi_rng _) (by first | omega | exact bi_rng _) rfl ?_
  refine Wk.aload_n (k := 0) (q := 13) (by decide +kernel) rfl rfl rfl ?_
  refine Wk.getR (r := 4) (q := 16) f_Harb_18 (by decide +kernel) O_1 (by decide) rfl rfl rfl ?_
  refine Wk.iload_n (k := 2) (q := 17) (by decide +kernel) rfl rfl rfl ?_
  refine Wk.aload_n (k := 0) (q := 18) (by decide +kernel) rfl rfl rfl ?_
  refine Wk.getR (r := 4) (q := 21) f_Harb_18 (by decide +kernel) O_1 (by decide) rfl rfl rfl ?_
  refine Wk.iload_n (k := 1) (q := 22) (by decide +kernel) rfl rfl rfl ?_
  refine Wk.iaload (q := 23) (by decide +kernel) A_4 (by first | omega | exact bi_rng _) (by first | omega | exact bi_rng _) rfl ?_
  refine Wk.iastore (q := 24) (by decide +kernel) A_4 (by first | omega | exact bi_rng _) (by first | omega | exact bi_rng _) rfl ?_
  refine Wk.aload_n (k := 0) (q := 25) (by decide +kernel) rfl rfl rfl ?_
  refine Wk.getR (r := 5) (q := 28) f_Harb_21 (by decide +kernel) O_1 (by decide) rfl rfl rfl ?_
  refine Wk.iload_n (k := 2) (q := 29) (by decide +kernel) rfl rfl rfl ?_
  refine Wk.aload_n (k := 0) (q := 30) (by decide +kernel) rfl rfl rfl ?_
  refine Wk.getR (r := 5) (q := 33) f_Harb_21 (by decide +kernel) O_1 (by decide) rfl rfl rfl ?_
  refine Wk.iload_n (k := 1) (q := 34) (by decide +kernel) rfl rfl rfl ?_
  refine Wk.iaload (q := 35) (by decide +kernel) A_5 (by first | omega | exact bi_rng _) (by first | omega | exact bi_rng _) rfl ?_
  refine Wk.iastore (q := 36) (by decide +kernel) A_5 (by first | omega | exact bi_rng _) (by first | omega | exact bi_rng _) rfl ?_
  refine Wk.aload_n (k := 0) (q := 37) (by decide +kernel) rfl rfl rfl ?_
  refine Wk.getR (r := 6) (q := 40) f_Harb_24 (by decide +kernel) O_1 (by decide) rfl rfl rfl ?_
  refine Wk.iload_n (k := 2) (q := 41) (by decide +kernel) rfl rfl rfl ?_
  refine Wk.aload_n (k := 0) (q := 42) (by decide +kernel) rfl rfl rfl ?_
  refine Wk.getR (r := 6) (q := 45) f_Harb_24 (by decide +kernel) O_1 (by decide) rfl rfl rfl ?_
  refine Wk.iload_n (k := 1) (q := 46) (by decide +kernel) rfl rfl rfl ?_
  refine Wk.iaload (q := 47) (by decide +kernel) A_6 (by first | omega | exact bi_rng _) (by first | omega | exact bi_rng _) rfl ?_
  refine Wk.iastore (q := 48) (by decide +kernel) A_6 (by first | omega | exact bi_rng _) (by first | omega | exact bi_rng _) rfl ?_
  refine Wk.aload_n (k := 0) (q := 49) (by decide +kernel) rfl rfl rfl ?_
  refine Wk.getR (r := 7) (q := 52) f_Harb_27 (by decide +kernel) O_1 (by decide) rfl rfl rfl ?_
  refine Wk.iload_n (k := 2) (q := 53) (by decide +kernel) rfl rfl rfl ?_
  refine Wk.aload_n (k := 0) (q := 54) (by decide +kernel) rfl rfl rfl ?_
  refine Wk.getR (r := 7) (q := 57) f_Harb_27 (by decide +kernel) O_1 (by decide) rfl rfl rfl ?_
  refine Wk.iload_n (k := 1) (q := 58) (by decide +kernel) rfl rfl rfl ?_
  refine Wk.iaload (q := 59) (by decide +kernel) A_7 (by first | omega | exact bi_rng _) (by first | omega | exact bi_rng _) rfl ?_
  refine Wk.iastore (q := 60) (by decide +kernel) A_7 (by first | omega | exact bi_rng _) (by first | omega | exact bi_rng _) rfl ?_
  exact Wk.rV (by decide +kernel) rfl (rfl) rfl
theorem c_Harb_letWait {a b c : Int} (h : 0 ≤ I 1 5 ∧ I 1 5 < 3) : Wk xs x_Harb_letWait d 0 0 0 [some (vr 1), some (vi a), some (vi b), some (vi c), none] [] X2 I L (pV (iup (iup (iup (iup I 3 (5 + I 1 5) a) 4 (5 + I 1 5) b) 5 (5 + I 1 5) c) 1 5 (I 1 5 + 1)) L) := by
  refine Wk.aload_n (k := 0) (q := 1) (by decide +kernel) rfl rfl rfl ?_
  refine Wk.getI (z := 5) (q := 4) f_Harb_50 (by decide +kernel) O_1 (by decide) rfl rfl rfl ?_
  refine Wk.iconst (n := 3) (q := 5) (by decide +kernel) rfl ?_
  refine Wk.icmp_lt (off := (4)) (t := 9) (q := 8) (by decide +kernel) (by decide) rfl (by first | omega | exact bi_rng _) (by first | omega | exact bi_rng _) (fun hc5 => ?_) (fun hc5 => ?_)
  · refine Wk.iconst (n := 5) (q := 10) (by decide +kernel) rfl ?_
    refine Wk.aload_n (k := 0) (q := 11) (by decide +kernel) rfl rfl rfl ?_
    refine Wk.getI (z := 5) (q := 14) f_Harb_50 (by decide +kernel) O_1 (by decide) rfl rfl rfl ?_
    refine Wk.iadd (q := 15) (by decide +kernel) rfl ?_
    refine Wk.istore (i := 4) (q := 17) (by decide +kernel) (by decide) rfl (fun _ h => h) rfl ?_
    refine Wk.aload_n (k := 0) (q := 18) (by decide +kernel) rfl rfl rfl ?_
    refine Wk.getR (r := 3) (q := 21) f_Harb_15 (by decide +kernel) O_1 (by decide) rfl rfl rfl ?_
    refine Wk.iload (i := 4) (q := 23) (by decide +kernel) rfl rfl ?_
    refine Wk.iload_n (k := 1) (q := 24) (by decide +kernel) rfl rfl rfl ?_
    refine Wk.iastore (q := 25) (by decide +kernel) A_3 (by first | omega | exact bi_rng _) (by first | omega | exact bi_rng _) rfl ?_
    refine Wk.aload_n (k := 0) (q := 26) (by decide +kernel) rfl rfl rfl ?_
    refine Wk.getR (r := 4) (q := 29) f_Harb_18 (by decide +kernel) O_1 (by decide) rfl rfl rfl ?_
    refine Wk.iload (i := 4) (q := 31) (by decide +kernel) rfl rfl ?_
    refine Wk.iload_n (k := 2) (q := 32) (by decide +kernel) rfl rfl rfl ?_
    refine Wk.iastore (q := 33) (by decide +kernel) A_4 (by first | omega | exact bi_rng _) (by first | omega | exact bi_rng _) rfl ?_
    refine Wk.aload_n (k := 0) (q := 34) (by decide +kernel) rfl rfl rfl ?_
    refine Wk.getR (r := 5) (q := 37) f_Harb_21 (by decide +kernel) O_1 (by decide) rfl rfl rfl ?_
    refine Wk.iload (i := 4) (q := 39) (by decide +kernel) rfl rfl ?_
    refine Wk.iload_n (k := 3) (q := 40) (by decide +kernel) rfl rfl rfl ?_
    refine Wk.iastore (q := 41) (by decide +kernel) A_5 (by first | omega | exact bi_rng _) (by first | omega | exact bi_rng _) rfl ?_
    refine Wk.aload_n (k := 0) (q := 42) (by decide +kernel) rfl rfl rfl ?_
    refine Wk.dup (q := 43) (by decide +kernel) rfl rfl ?_
    refine Wk.getI (z := 5) (q := 46) f_Harb_50 (by decide +kernel) O_1 (by decide) rfl rfl rfl ?_
    refine Wk.iconst (n := 1) (q := 47) (by decide +kernel) rfl ?_
    refine Wk.iadd (q := 48) (by decide +kernel) rfl ?_
    refine Wk.putI (z := 5) (q := 51) f_Harb_50 fw_Harb_5 (by decide +kernel) O_1 (by decide) rfl rfl ⟨rfl, rfl⟩ rfl ?_
    exact Wk.rV (by decide +kernel) rfl (by first | omega | rfl) rfl
  · exact Wk.rV (by decide +kernel) rfl (by first | omega | rfl) rfl
theorem c_Harb_putAt {s p : Int} (h : 0 ≤ s ∧ s < 8) (hp : 0 ≤ p ∧ p < 64) : Wk xs x_Harb_putAt (d + 1) 0 0 0 [some (vr 1), some (vi s), some (vi p)] [] X2 I L (pV (iup (iup I 6 s (p % 8)) 7 s (p / 8)) L) := by
  refine Wk.iload_n (k := 1) (q := 1) (by decide +kernel) rfl rfl rfl ?_
  refine Wk.if_lt (off := (29)) (t := 30) (q := 4) (by decide +kernel) (by decide) rfl (by first | omega | exact bi_rng _) (fun hc1 => ?_) (fun hc1 => ?_)
  · exact Wk.rV (by decide +kernel) rfl (by first | rfl | omega) rfl
  · refine Wk.iload_n (k := 1) (q := 5) (by decide +kernel) rfl rfl rfl ?_
    refine Wk.bipush (n := 8) (q := 7) (by decide +kernel) (by decide +kernel) rfl ?_
    refine Wk.icmp_ge (off := (23)) (t := 30) (q := 10) (by decide +kernel) (by decide) rfl (by first | omega | exact bi_rng _) (by first | omega | exact bi_rng _) (fun hc7 => ?_) (fun hc7 => ?_)
    · exact Wk.rV (by decide +kernel) rfl (by first | rfl | omega) rfl
    · refine Wk.aload_n (k := 0) (q := 11) (by decide +kernel) rfl rfl rfl ?_
      refine Wk.getR (r := 6) (q := 14) f_Harb_24 (by decide +kernel) O_1 (by decide) rfl rfl rfl ?_
      refine Wk.iload_n (k := 1) (q := 15) (by decide +kernel) rfl rfl rfl ?_
      refine Wk.iload_n (k := 2) (q := 16) (by decide +kernel) rfl rfl rfl ?_
      refine Wk.cNi (q := 19) ln_Harb_79 m_Sw_columnOf (by decide +kernel) (fun _ h => h) (Nat.le_of_ble_eq_true rfl) (Nat.le_of_ble_eq_true rfl) rfl (c_Sw_columnOf (by omega) (by omega)) rfl ?_
      refine Wk.iastore (q := 20) (by decide +kernel) A_6 (by first | omega | exact bi_rng _) (by first | omega | exact bi_rng _) rfl ?_
      refine Wk.aload_n (k := 0) (q := 21) (by decide +kernel) rfl rfl rfl ?_
      refine Wk.getR (r := 7) (q := 24) f_Harb_27 (by decide +kernel) O_1 (by decide) rfl rfl rfl ?_
      refine Wk.iload_n (k := 1) (q := 25) (by decide +kernel) rfl rfl rfl ?_
      refine Wk.iload_n (k := 2) (q := 26) (by decide +kernel) rfl rfl rfl ?_
      refine Wk.cNi (q := 29) ln_Harb_83 m_Sw_lineOf (by decide +kernel) (fun _ h => h) (Nat.le_of_ble_eq_true rfl) (Nat.le_of_ble_eq_true rfl) rfl (c_Sw_lineOf (by omega) (by omega)) rfl ?_
      refine Wk.iastore (q := 30) (by decide +kernel) A_7 (by first | omega | exact bi_rng _) (by first | omega | exact bi_rng _) rfl ?_
      exact Wk.rV (by decide +kernel) rfl (by first | rfl | omega) rfl
end HB
end
section
/-! ships that go: slots move down -/
/-- slots a to k - 1 hold what the next ones held -/
def shA (I : IM) (a k : Int) : IM := fun c b => if (3 ≤ c ∧ c ≤ 7) ∧ a ≤ b ∧ b < k then I c (b + 1) else I c b
theorem shA_0 (I : IM) (a : Int) : shA I a a = I := by
  funext c b
  simp only [shA]
  rw [if_neg (by omega)]
theorem shA_step {I : IM} {a k : Int} (h : a ≤ k) : cpS (shA I a k) (k + 1) k = shA I a (k + 1) := by
  funext c b
  by_cases hb : b = k
  · subst hb
    by_cases hc : 3 ≤ c ∧ c ≤ 7
    · have h5 : c = 3 ∨ c = 4 ∨ c = 5 ∨ c = 6 ∨ c = 7 := by omega
      have e1 : ¬ (b + 1 < b) := by omega
      have e2 : b < b + 1 := by omega
      rcases h5 with rfl | rfl | rfl | rfl | rfl <;> simp [cpS, iup, shA, h, e1, e2]
    · have h5 : c ≠ 3 ∧ c ≠ 4 ∧ c ≠ 5 ∧ c ≠ 6 ∧ c ≠ 7 := by omega
      simp only [cpS, iup, shA, h5.1, h5.2.1, h5.2.2.1, h5.2.2.2.1, h5.2.2.2.2, false_and, if_false]
      rw [if_neg (by omega), if_neg (by omega)]
  · simp only [cpS, iup, shA, hb, and_false, if_false]
    by_cases hc : (3 ≤ c ∧ c ≤ 7) ∧ a ≤ b ∧ b < k
    · rw [if_pos hc, if_pos (by omega)]
    · rw [if_neg hc, if_neg (by omega)]
theorem shA_1 (I : IM) (a k b : Int) : shA I a k 1 b = I 1 b := by
  simp [shA]
def dropA (I : IM) (a : Int) : IM := iup (shA I a (I 1 4 - 1)) 1 4 (I 1 4 - 1)
def dropW (I : IM) (k : Int) : IM := iup (shA I (5 + k) (5 + I 1 5 - 1)) 1 5 (I 1 5 - 1)
section DR
variable {xs : RO} {d : Nat} {I : IM} {L : LM}

theorem c_Harb_dropAnchored {a : Int} (h0 : 0 ≤ a) (h1 : a < I 1 4) (hA : I 1 4 ≤ 5) : Wk xs x_Harb_dropAnchored (d + 1) 0 0 0 [some (vr 1), some (vi a), none] [] X2 I L (pV (dropA I a) L) := by
  have key : Wk xs x_Harb_dropAnchored (d + 1) 0 0 11 [some (vr 1), some (vi a), some (vi a)] [] X2 I L (pV (dropA I a) L) := by
    have h2 := loopI (fun k => Wk xs x_Harb_dropAnchored (d + 1) 0 0 11 [some (vr 1), some (vi a), some (vi k)] [] X2 (shA I a k) L (pV (dropA I a) L)) (I 1 4 - 1) a (by omega) ?_ ?_
    · rw [shA_0] at h2
      exact h2
    · have e := shA_1 I a (I 1 4 - 1) 4
      refine Wk.iload_n (k := 2) (q := 12) (by decide +kernel) rfl rfl rfl ?_
      refine Wk.iconst (n := 1) (q := 13) (by decide +kernel) rfl ?_
      refine Wk.iadd (q := 14) (by decide +kernel) rfl ?_
      refine Wk.aload_n (k := 0) (q := 15) (by decide +kernel) rfl rfl rfl ?_
      refine Wk.getI (z := 4) (q := 18) f_Harb_47 (by decide +kernel) O_1 (by decide) rfl rfl rfl ?_
      refine Wk.icmp_ge (off := (17)) (t := 35) (q := 21) (by decide +kernel) (by decide) rfl (by first | omega | exact bi_rng _) (by first | omega | exact bi_rng _) (fun hc18 => ?_) (fun hc18 => ?_)
      · refine Wk.aload_n (k := 0) (q := 36) (by decide +kernel) rfl rfl rfl ?_
        refine Wk.dup (q := 37) (by decide +kernel) rfl rfl ?_
        refine Wk.getI (z := 4) (q := 40) f_Harb_47 (by decide +kernel) O_1 (by decide) rfl rfl rfl ?_
        refine Wk.iconst (n := 1) (q := 41) (by decide +kernel) rfl ?_
        refine Wk.isub (q := 42) (by decide +kernel) rfl ?_
        refine Wk.putI (z := 4) (q := 45) f_Harb_47 fw_Harb_4 (by decide +kernel) O_1 (by decide) rfl rfl ⟨rfl, rfl⟩ rfl ?_
        exact Wk.rV (by decide +kernel) rfl (by rw [e]; rfl) rfl
      · omega
    · intro k g0 g1 ih
      have e := shA_1 I a k 4
      refine Wk.iload_n (k := 2) (q := 12) (by decide +kernel) rfl rfl rfl ?_
      refine Wk.iconst (n := 1) (q := 13) (by decide +kernel) rfl ?_
      refine Wk.iadd (q := 14) (by decide +kernel) rfl ?_
      refine Wk.aload_n (k := 0) (q := 15) (by decide +kernel) rfl rfl rfl ?_
      refine Wk.getI (z := 4) (q := 18) f_Harb_47 (by decide +kernel) O_1 (by decide) rfl rfl rfl ?_
      refine Wk.icmp_ge (off := (17)) (t := 35) (q := 21) (by decide +kernel) (by decide) rfl (by first | omega | exact bi_rng _) (by first | omega | exact bi_rng _) (fun hc18 => ?_) (fun hc18 => ?_)
      · omega
      · refine Wk.aload_n (k := 0) (q := 22) (by decide +kernel) rfl rfl rfl ?_
        refine Wk.iload_n (k := 2) (q := 23) (by decide +kernel) rfl rfl rfl ?_
        refine Wk.iconst (n := 1) (q := 24) (by decide +kernel) rfl ?_
        refine Wk.iadd (q := 25) (by decide +kernel) rfl ?_
        refine Wk.iload_n (k := 2) (q := 26) (by decide +kernel) rfl rfl rfl ?_
        refine Wk.cVv (q := 29) l_Harb_86 m_Harb_copySlot (by decide +kernel) (fun _ h => h) O_1 rfl (Nat.le_of_ble_eq_true rfl) (Nat.le_of_ble_eq_true rfl) rfl (c_Harb_copySlot (by omega) (by omega)) rfl ?_
        refine Wk.iinc (i := 2) (n := 1) (q := 32) (by decide +kernel) rfl (by decide) rfl (fun _ h => h) rfl ?_
        refine Wk.goto (off := (-21)) (q := 11) (by decide +kernel) (by decide) ?_
        rw [shA_step g0]
        exact ih
  refine Wk.aload_n (k := 0) (q := 1) (by decide +kernel) rfl rfl rfl ?_
  refine Wk.iload_n (k := 1) (q := 2) (by decide +kernel) rfl rfl rfl ?_
  refine Wk.cVi (q := 5) l_Harb_59 m_Harb_hasAnchored (by decide +kernel) (fun _ h => h) O_1 rfl (Nat.le_of_ble_eq_true rfl) (Nat.le_of_ble_eq_true rfl) rfl (c_Harb_hasAnchored (by omega) (by omega)) rfl ?_
  refine Wk.ifB_ne (off := (4)) (t := 9) (q := 8) (by decide +kernel) (by decide) rfl (fun hc5 => ?_) (fun hc5 => ?_)
  · refine Wk.iload_n (k := 1) (q := 10) (by decide +kernel) rfl rfl rfl ?_
    refine Wk.istore_n (k := 2) (q := 11) (by decide +kernel) rfl (by decide) rfl (fun _ h => h) rfl ?_
    exact key
  · exact Wk.rV (by decide +kernel) rfl (absurd ⟨h0, h1⟩ hc5) rfl
theorem c_Harb_dropWaiting {a : Int} (h0 : 0 ≤ a) (h1 : a < I 1 5) (hA : I 1 5 ≤ 3) : Wk xs x_Harb_dropWaiting (d + 1) 0 0 0 [some (vr 1), some (vi a), none] [] X2 I L (pV (dropW I a) L) := by
  have key : Wk xs x_Harb_dropWaiting (d + 1) 0 0 13 [some (vr 1), some (vi a), some (vi (5 + a))] [] X2 I L (pV (dropW I a) L) := by
    have h2 := loopI (fun k => Wk xs x_Harb_dropWaiting (d + 1) 0 0 13 [some (vr 1), some (vi a), some (vi k)] [] X2 (shA I (5 + a) k) L (pV (dropW I a) L)) (5 + I 1 5 - 1) (5 + a) (by omega) ?_ ?_
    · rw [shA_0] at h2
      exact h2
    · have e := shA_1 I (5 + a) (5 + I 1 5 - 1) 5
      refine Wk.iload_n (k := 2) (q := 14) (by decide +kernel) rfl rfl rfl ?_
      refine Wk.iconst (n := 1) (q := 15) (by decide +kernel) rfl ?_
      refine Wk.iadd (q := 16) (by decide +kernel) rfl ?_
      refine Wk.iconst (n := 5) (q := 17) (by decide +kernel) rfl ?_
      refine Wk.aload_n (k := 0) (q := 18) (by decide +kernel) rfl rfl rfl ?_
      refine Wk.getI (z := 5) (q := 21) f_Harb_50 (by decide +kernel) O_1 (by decide) rfl rfl rfl ?_
      refine Wk.iadd (q := 22) (by decide +kernel) rfl ?_
      refine Wk.icmp_ge (off := (17)) (t := 39) (q := 25) (by decide +kernel) (by decide) rfl (by first | omega | exact bi_rng _) (by first | omega | exact bi_rng _) (fun hc22 => ?_) (fun hc22 => ?_)
      · refine Wk.aload_n (k := 0) (q := 40) (by decide +kernel) rfl rfl rfl ?_
        refine Wk.dup (q := 41) (by decide +kernel) rfl rfl ?_
        refine Wk.getI (z := 5) (q := 44) f_Harb_50 (by decide +kernel) O_1 (by decide) rfl rfl rfl ?_
        refine Wk.iconst (n := 1) (q := 45) (by decide +kernel) rfl ?_
        refine Wk.isub (q := 46) (by decide +kernel) rfl ?_
        refine Wk.putI (z := 5) (q := 49) f_Harb_50 fw_Harb_5 (by decide +kernel) O_1 (by decide) rfl rfl ⟨rfl, rfl⟩ rfl ?_
        exact Wk.rV (by decide +kernel) rfl (by rw [e]; rfl) rfl
      · omega
    · intro k g0 g1 ih
      have e := shA_1 I (5 + a) k 5
      refine Wk.iload_n (k := 2) (q := 14) (by decide +kernel) rfl rfl rfl ?_
      refine Wk.iconst (n := 1) (q := 15) (by decide +kernel) rfl ?_
      refine Wk.iadd (q := 16) (by decide +kernel) rfl ?_
      refine Wk.iconst (n := 5) (q := 17) (by decide +kernel) rfl ?_
      refine Wk.aload_n (k := 0) (q := 18) (by decide +kernel) rfl rfl rfl ?_
      refine Wk.getI (z := 5) (q := 21) f_Harb_50 (by decide +kernel) O_1 (by decide) rfl rfl rfl ?_
      refine Wk.iadd (q := 22) (by decide +kernel) rfl ?_
      refine Wk.icmp_ge (off := (17)) (t := 39) (q := 25) (by decide +kernel) (by decide) rfl (by first | omega | exact bi_rng _) (by first | omega | exact bi_rng _) (fun hc22 => ?_) (fun hc22 => ?_)
      · omega
      · refine Wk.aload_n (k := 0) (q := 26) (by decide +kernel) rfl rfl rfl ?_
        refine Wk.iload_n (k := 2) (q := 27) (by decide +kernel) rfl rfl rfl ?_
        refine Wk.iconst (n := 1) (q := 28) (by decide +kernel) rfl ?_
        refine Wk.iadd (q := 29) (by decide +kernel) rfl ?_
        refine Wk.iload_n (k := 2) (q := 30) (by decide +kernel) rfl rfl rfl ?_
        refine Wk.cVv (q := 33) l_Harb_86 m_Harb_copySlot (by decide +kernel) (fun _ h => h) O_1 rfl (Nat.le_of_ble_eq_true rfl) (Nat.le_of_ble_eq_true rfl) rfl (c_Harb_copySlot (by omega) (by omega)) rfl ?_
        refine Wk.iinc (i := 2) (n := 1) (q := 36) (by decide +kernel) rfl (by decide) rfl (fun _ h => h) rfl ?_
        refine Wk.goto (off := (-23)) (q := 13) (by decide +kernel) (by decide) ?_
        rw [shA_step g0]
        exact ih
  refine Wk.aload_n (k := 0) (q := 1) (by decide +kernel) rfl rfl rfl ?_
  refine Wk.iload_n (k := 1) (q := 2) (by decide +kernel) rfl rfl rfl ?_
  refine Wk.cVi (q := 5) l_Harb_63 m_Harb_hasWaiting (by decide +kernel) (fun _ h => h) O_1 rfl (Nat.le_of_ble_eq_true rfl) (Nat.le_of_ble_eq_true rfl) rfl (c_Harb_hasWaiting (by omega) (by omega)) rfl ?_
  refine Wk.ifB_ne (off := (4)) (t := 9) (q := 8) (by decide +kernel) (by decide) rfl (fun hc5 => ?_) (fun hc5 => ?_)
  · refine Wk.iconst (n := 5) (q := 10) (by decide +kernel) rfl ?_
    refine Wk.iload_n (k := 1) (q := 11) (by decide +kernel) rfl rfl rfl ?_
    refine Wk.iadd (q := 12) (by decide +kernel) rfl ?_
    refine Wk.istore_n (k := 2) (q := 13) (by decide +kernel) rfl (by decide) rfl (fun _ h => h) rfl ?_
    exact key
  · exact Wk.rV (by decide +kernel) rfl (absurd ⟨h0, h1⟩ hc5) rfl
/-- one that waits comes to anchor at a spot, behind the others -/
def toAnch (I : IM) (k p : Int) : IM := dropW (iup (iup (iup (cpS I (5 + k) (I 1 4)) 6 (I 1 4) (p % 8)) 7 (I 1 4) (p / 8)) 1 4 (I 1 4 + 1)) k
theorem c_Harb_bringToAnchor {k p : Int} (h0 : 0 ≤ k) (h1 : k < I 1 5) (hA : I 1 5 ≤ 3) (h4 : 0 ≤ I 1 4 ∧ I 1 4 < 5) (hp : 0 ≤ p ∧ p < 64) : Wk xs x_Harb_bringToAnchor (d + 2) 0 0 0 [some (vr 1), some (vi k), some (vi p)] [] X2 I L (pV (toAnch I k p) L) := by
  refine Wk.aload_n (k := 0) (q := 1) (by decide +kernel) rfl rfl rfl ?_
  refine Wk.iload_n (k := 1) (q := 2) (by decide +kernel) rfl rfl rfl ?_
  refine Wk.cVi (q := 5) l_Harb_63 m_Harb_hasWaiting (by decide +kernel) (fun _ h => h) O_1 rfl (Nat.le_of_ble_eq_true rfl) (Nat.le_of_ble_eq_true rfl) rfl (c_Harb_hasWaiting (by omega) (by omega)) rfl ?_
  refine Wk.ifB_eq (off := (11)) (t := 16) (q := 8) (by decide +kernel) (by decide) rfl (fun hc5 => ?_) (fun hc5 => ?_)
  · exact Wk.rV (by decide +kernel) rfl (by first | omega | exact absurd ⟨h0, h1⟩ hc5) rfl
  · refine Wk.aload_n (k := 0) (q := 9) (by decide +kernel) rfl rfl rfl ?_
    refine Wk.getI (z := 4) (q := 12) f_Harb_47 (by decide +kernel) O_1 (by decide) rfl rfl rfl ?_
    refine Wk.iconst (n := 5) (q := 13) (by decide +kernel) rfl ?_
    refine Wk.icmp_lt (off := (4)) (t := 17) (q := 16) (by decide +kernel) (by decide) rfl (by first | omega | exact bi_rng _) (by first | omega | exact bi_rng _) (fun hc13 => ?_) (fun hc13 => ?_)
    · refine Wk.aload_n (k := 0) (q := 18) (by decide +kernel) rfl rfl rfl ?_
      refine Wk.iconst (n := 5) (q := 19) (by decide +kernel) rfl ?_
      refine Wk.iload_n (k := 1) (q := 20) (by decide +kernel) rfl rfl rfl ?_
      refine Wk.iadd (q := 21) (by decide +kernel) rfl ?_
      refine Wk.aload_n (k := 0) (q := 22) (by decide +kernel) rfl rfl rfl ?_
      refine Wk.getI (z := 4) (q := 25) f_Harb_47 (by decide +kernel) O_1 (by decide) rfl rfl rfl ?_
      refine Wk.cVv (q := 28) l_Harb_86 m_Harb_copySlot (by decide +kernel) (fun _ h => h) O_1 rfl (Nat.le_of_ble_eq_true rfl) (Nat.le_of_ble_eq_true rfl) rfl (c_Harb_copySlot (by omega) (by omega)) rfl ?_
      refine Wk.aload_n (k := 0) (q := 29) (by decide +kernel) rfl rfl rfl ?_
      refine Wk.aload_n (k := 0) (q := 30) (by decide +kernel) rfl rfl rfl ?_
      refine Wk.getI (z := 4) (q := 33) f_Harb_47 (by decide +kernel) O_1 (by decide) rfl rfl rfl ?_
      refine Wk.iload_n (k := 2) (q := 34) (by decide +kernel) rfl rfl rfl ?_
      refine Wk.cVv (q := 37) l_Harb_89 m_Harb_putAt (by decide +kernel) (fun _ h => h) O_1 rfl (Nat.le_of_ble_eq_true rfl) (Nat.le_of_ble_eq_true rfl) rfl (c_Harb_putAt (by show 0 ≤ I 1 4 ∧ I 1 4 < 8; omega) (by omega)) rfl ?_
      refine Wk.aload_n (k := 0) (q := 38) (by decide +kernel) rfl rfl rfl ?_
      refine Wk.dup (q := 39) (by decide +kernel) rfl rfl ?_
      refine Wk.getI (z := 4) (q := 42) f_Harb_47 (by decide +kernel) O_1 (by decide) rfl rfl rfl ?_
      refine Wk.iconst (n := 1) (q := 43) (by decide +kernel) rfl ?_
      refine Wk.iadd (q := 44) (by decide +kernel) rfl ?_
      refine Wk.putI (z := 4) (q := 47) f_Harb_47 fw_Harb_4 (by decide +kernel) O_1 (by decide) rfl rfl ⟨rfl, rfl⟩ rfl ?_
      refine Wk.aload_n (k := 0) (q := 48) (by decide +kernel) rfl rfl rfl ?_
      refine Wk.iload_n (k := 1) (q := 49) (by decide +kernel) rfl rfl rfl ?_
      refine Wk.cVv (q := 52) l_Harb_92 m_Harb_dropWaiting (by decide +kernel) (fun _ h => h) O_1 rfl (Nat.le_of_ble_eq_true rfl) (Nat.le_of_ble_eq_true rfl) rfl (c_Harb_dropWaiting h0 (by show k < I 1 5; omega) (by show I 1 5 ≤ 3; omega)) rfl ?_
      exact Wk.rV (by decide +kernel) rfl (rfl) rfl
    · exact Wk.rV (by decide +kernel) rfl (by first | omega | exact absurd ⟨h0, h1⟩ hc5) rfl
/-- THE SEED's step -/
def nextSeed (s : Int) : Int := (s * 1103515245 + 12345) % 2147483648
theorem seed_and (s : Int) : (nZ (s * 1103515245 + 12345) &&& nZ 2147483647).toInt = nextSeed s := by
  rw [pk_and (nZ (s * 1103515245 + 12345)) 31 (by decide +kernel)]
  have hlt := Nat.mod_lt (nZ (s * 1103515245 + 12345)).toBitVec.toNat (show 0 < 2 ^ 31 by omega)
  rw [nI_toInt hlt]
  have e : ((nZ (s * 1103515245 + 12345)).toBitVec.toNat : Int) = (s * 1103515245 + 12345) % 4294967296 := by
    show ((BitVec.ofInt 32 (s * 1103515245 + 12345)).toNat : Int) = _
    rw [BitVec.toNat_ofInt]
    have : (0 : Int) ≤ (s * 1103515245 + 12345) % ((2 ^ 32 : Nat) : Int) := Int.emod_nonneg _ (by decide)
    rw [Int.toNat_of_nonneg this]
    rfl
  rw [Int.natCast_emod, e, nextSeed]
  have e2 : ((2 ^ 31 : Nat) : Int) = 2147483648 := by decide
  rw [e2]
  omega
theorem nextSeed_range (s : Int) : 0 ≤ nextSeed s ∧ nextSeed s ≤ 2147483647 := by unfold nextSeed; omega
theorem c_Sw_draw {n : Int} (h0 : 0 < n) (h1 : n ≤ 100) : Wk xs x_Sw_draw d 0 0 0 [some (vr 0), some (vi n)] [] X2 I L (p2 fun v I' L' => v = some (vi (nextSeed (I 0 5) / 65536 % n)) ∧ I' = iup I 0 5 (nextSeed (I 0 5)) ∧ L' = L) := by
  have hr := nextSeed_range (I 0 5)
  refine Wk.aload_n (k := 0) (q := 1) (by decide +kernel) rfl rfl rfl ?_
  refine Wk.aload_n (k := 0) (q := 2) (by decide +kernel) rfl rfl rfl ?_
  refine Wk.getI (z := 5) (q := 5) f_Sw_44 (by decide +kernel) O_0 (by decide) rfl rfl rfl ?_
  refine Wk.ldcw (z := 1103515245) (q := 8) k_Sw_273 (by decide +kernel) (by decide +kernel) rfl ?_
  refine Wk.imul (q := 9) (by decide +kernel) rfl ?_
  refine Wk.sipush (n := 12345) (q := 12) (by decide +kernel) (by decide +kernel) rfl ?_
  refine Wk.iadd (q := 13) (by decide +kernel) rfl ?_
  refine Wk.ldcw (z := 2147483647) (q := 16) k_Sw_274 (by decide +kernel) (by decide +kernel) rfl ?_
  refine Wk.iand (q := 17) (by decide +kernel) rfl ?_
  rw [seed_and]
  refine Wk.putI (z := 5) (q := 20) f_Sw_44 fw_Sw_5 (by decide +kernel) O_0 (by decide) rfl rfl ⟨rfl, rfl⟩ rfl ?_
  refine Wk.iload_n (k := 1) (q := 21) (by decide +kernel) rfl rfl rfl ?_
  refine Wk.if_le (off := (16)) (t := 37) (q := 24) (by decide +kernel) (by decide) rfl (by first | omega | exact bi_rng _) (fun hc21 => ?_) (fun hc21 => ?_)
  · refine Wk.iconst (n := 0) (q := 38) (by decide +kernel) rfl ?_
    exact Wk.riP (by decide +kernel) rfl (by first | omega | exact ⟨rfl, rfl, rfl⟩)
  · refine Wk.aload_n (k := 0) (q := 25) (by decide +kernel) rfl rfl rfl ?_
    refine Wk.getI (z := 5) (q := 28) f_Sw_44 (by decide +kernel) O_0 (by decide) rfl rfl rfl ?_
    refine Wk.ldcw (z := 65536) (q := 31) k_Sw_275 (by decide +kernel) (by decide +kernel) rfl ?_
    refine Wk.idiv (q := 32) (by decide +kernel) (by first | omega | (show 0 ≤ nextSeed (I 0 5) ∧ nextSeed (I 0 5) ≤ 2147483647; omega)) (by first | omega | (show 0 ≤ nextSeed (I 0 5) ∧ nextSeed (I 0 5) ≤ 2147483647; omega)) rfl ?_
    refine Wk.iload_n (k := 1) (q := 33) (by decide +kernel) rfl rfl rfl ?_
    refine Wk.irem (q := 34) (by decide +kernel) (by first | omega | (show 0 ≤ nextSeed (I 0 5) / 65536 ∧ nextSeed (I 0 5) / 65536 ≤ 2147483647; omega)) (by first | omega | (show 0 ≤ nextSeed (I 0 5) / 65536 ∧ nextSeed (I 0 5) / 65536 ≤ 2147483647; omega)) rfl ?_
    refine Wk.goto (off := (4)) (q := 38) (by decide +kernel) (by decide) ?_
    exact Wk.riP (by decide +kernel) rfl (by first | omega | exact ⟨rfl, rfl, rfl⟩)
end DR
end
section
/-! HOW SHIPS LIE: the words, and the class's Swing -/
theorem windX_r (w : Int) : -1 ≤ windX w ∧ windX w ≤ 1 := by unfold windX; repeat' split <;> omega
theorem windY_r (w : Int) : -1 ≤ windY w ∧ windY w ≤ 1 := by unfold windY; repeat' split <;> omega
theorem mulB {c v : Int} (hc : 0 ≤ c ∧ c ≤ 2) (hv : -1 ≤ v ∧ v ≤ 1) : -2 ≤ c * v ∧ c * v ≤ 2 := by
  have h : v = -1 ∨ v = 0 ∨ v = 1 := by omega
  rcases h with rfl | rfl | rfl <;> omega
/-- lies on, by a wind; may lie; clash; sweeps -/
def LO (ch sd x y w cx cy : Int) : Prop := (x + ch * windX w ≤ cx ∧ cx < x + ch * windX w + sd) ∧ y + ch * windY w ≤ cy ∧ cy < y + ch * windY w + sd
def ML (W H t : Int) (dep : Int → Int) (F dr ch sd x y : Int) : Prop := ∀ w cx cy, 0 ≤ w → w < 8 → bt F w = true → LO ch sd x y w cx cy → inE W H cx cy ∧ dr ≤ wat W H t dep cx cy
def CLw (ch sd x y ch2 sd2 x2 y2 w : Int) : Prop := (x + ch * windX w < x2 + ch2 * windX w + sd2 ∧ x2 + ch2 * windX w < x + ch * windX w + sd) ∧ y + ch * windY w < y2 + ch2 * windY w + sd2 ∧ y2 + ch2 * windY w < y + ch * windY w + sd
def CL (F ch sd x y ch2 sd2 x2 y2 : Int) : Prop := ∃ w, 0 ≤ w ∧ w < 8 ∧ bt F w = true ∧ CLw ch sd x y ch2 sd2 x2 y2 w
def SWP (F ch sd x y cx cy : Int) : Prop := ∃ w, 0 ≤ w ∧ w < 8 ∧ bt F w = true ∧ LO ch sd x y w cx cy
abbrev cLO (I : IM) (a w cx cy : Int) : Prop := LO (I 4 a) (I 5 a) (I 6 a) (I 7 a) w cx cy
abbrev cML (I : IM) (F a : Int) : Prop := ML (I 1 0) (I 1 1) (I 1 2) (I 2) F (I 3 a) (I 4 a) (I 5 a) (I 6 a) (I 7 a)
abbrev cCL (I : IM) (F a b : Int) : Prop := CL F (I 4 a) (I 5 a) (I 6 a) (I 7 a) (I 4 b) (I 5 b) (I 6 b) (I 7 b)
abbrev cSW (I : IM) (F a cx cy : Int) : Prop := SWP F (I 4 a) (I 5 a) (I 6 a) (I 7 a) cx cy
/-- the least of some numbers, or T if there are none -/
def MinOf (T : Int) (Pr : Int → Prop) (z : Int) : Prop := (∀ v, Pr v → z ≤ v) ∧ ((z = T ∧ ∀ v, ¬ Pr v) ∨ Pr z)
theorem MinOf.none {T : Int} {Pr : Int → Prop} (h : ∀ v, ¬ Pr v) : MinOf T Pr T := ⟨fun v hv => absurd hv (h v), Or.inl ⟨rfl, h⟩⟩
theorem MinOf.cong {T z : Int} {P Q : Int → Prop} (h : MinOf T P z) (e : ∀ v, P v ↔ Q v) : MinOf T Q z := ⟨fun v hv => h.1 v ((e v).mpr hv), h.2.imp (fun x => ⟨x.1, fun v hv => x.2 v ((e v).mpr hv)⟩) (fun x => (e z).mp x)⟩
theorem MinOf.add {T z v : Int} {P : Int → Prop} (h : MinOf T P z) (hv : v ≤ T) : MinOf T (fun u => P u ∨ u = v) (if v < z then v else z) := by
  obtain ⟨h1, h2⟩ := h
  refine ⟨fun u hu => ?_, ?_⟩
  · rcases hu with hu | rfl
    · have := h1 u hu
      split <;> omega
    · split <;> omega
  · right
    split
    · exact Or.inr rfl
    · rcases h2 with ⟨rfl, -⟩ | h2
      · right; omega
      · exact Or.inl h2
theorem MinOf.join {T z v : Int} {P Q : Int → Prop} (h : MinOf T P z) (g : MinOf T Q v) (hv : Q v) (hT : v ≤ T) : MinOf T (fun u => P u ∨ Q u) (if v < z then v else z) := by
  obtain ⟨h1, h2⟩ := h
  obtain ⟨g1, g2⟩ := g
  refine ⟨fun u hu => ?_, ?_⟩
  · rcases hu with hu | hu
    · have := h1 u hu
      split <;> omega
    · have := g1 u hu
      split <;> omega
  · right
    split
    · exact Or.inr hv
    · rcases h2 with ⟨rfl, -⟩ | h2
      · right
        have : v = z := by omega
        rw [← this]; exact hv
      · exact Or.inl h2
theorem MinOf.ge {T z d : Int} {P : Int → Prop} (h : MinOf T P z) (hT : d ≤ T) : d ≤ z ↔ ∀ v, P v → d ≤ v := by
  constructor
  · intro hz v hv
    have := h.1 v hv
    omega
  · intro hall
    rcases h.2 with ⟨rfl, -⟩ | h2
    · exact hT
    · exact hall z h2
theorem MinOf.uniq {T T2 z z2 : Int} {P : Int → Prop} (h : MinOf T P z) (g : MinOf T2 P z2) (hz : P z) : z = z2 := by
  have h1 := g.1 z hz
  rcases g.2 with ⟨-, hn⟩ | hp
  · exact absurd hz (hn z)
  · have := h.1 z2 hp
    omega
/-- a slot's numbers -/
theorem slotB {I : IM} (h : CI1 I) {s : Int} (hs : Slot1 I s) : (1 ≤ I 3 s ∧ I 3 s ≤ 9) ∧ (0 ≤ I 4 s ∧ I 4 s ≤ 2) ∧ (1 ≤ I 5 s ∧ I 5 s ≤ 2) := h s hs
theorem ext1 {P : Int → Prop} {b k : Int} (h : ∀ w, b ≤ w → w < k → P w) (hk : P k) : ∀ w, b ≤ w → w < k + 1 → P w := fun w h0 h1 => by
  rcases Classical.em (w = k) with e | e
  · rw [e]; exact hk
  · exact h w h0 (by omega)
section SWG
variable {xs : RO} {d : Nat} {I : IM} {L : LM}

theorem c_Swing_blows {F w : Int} (h0 : 0 ≤ F) (h1 : F ≤ 2147483647) (h2 : 0 ≤ w) (h3 : w ≤ 30) : Wk xs x_Swing_blows d 0 0 0 [some (vi F), some (vi w)] [] X2 I L (pI (bi (bt F w = true)) I L) := by
  refine Wk.iload_n (k := 0) (q := 1) (by decide +kernel) rfl rfl rfl ?_
  refine Wk.iload_n (k := 1) (q := 2) (by decide +kernel) rfl rfl rfl ?_
  refine Wk.ishr (q := 3) (by decide +kernel) rfl ?_
  refine Wk.iconst (n := 1) (q := 4) (by decide +kernel) rfl ?_
  refine Wk.iand (q := 5) (by decide +kernel) rfl ?_
  rw [bit_int h0 h1 h2 h3]
  refine Wk.if_eq (off := (7)) (t := 12) (q := 8) (by decide +kernel) (by decide) rfl (by first | omega | exact bi_rng _) (fun hc5 => ?_) (fun hc5 => ?_)
  · refine Wk.iconst (n := 0) (q := 13) (by decide +kernel) rfl ?_
    exact Wk.rZ (by decide +kernel) rfl (by first | omega | decide | exact bi_01 _) (by first | (rw [bi_eq0] at hc5; rw [bi_f hc5]; done) | (rw [bi_eq0, Classical.not_not] at hc5; rw [bi_t hc5]; done))
  · refine Wk.iconst (n := 1) (q := 9) (by decide +kernel) rfl ?_
    refine Wk.goto (off := (4)) (q := 13) (by decide +kernel) (by decide) ?_
    exact Wk.rZ (by decide +kernel) rfl (by first | omega | decide | exact bi_01 _) (by first | (rw [bi_eq0] at hc5; rw [bi_f hc5]; done) | (rw [bi_eq0, Classical.not_not] at hc5; rw [bi_t hc5]; done))
theorem c_Swing_firstX {s w : Int} (h0 : 0 ≤ s) (h1 : s < 8) (h2 : 0 ≤ w) (h3 : w < 8) : Wk xs x_Swing_firstX d 0 0 0 [some (vr 1), some (vi s), some (vi w)] [] X2 I L (pI (I 6 s + I 4 s * windX w) I L) := by
  refine Wk.aload_n (k := 0) (q := 1) (by decide +kernel) rfl rfl rfl ?_
  refine Wk.getR (r := 6) (q := 4) f_Swing_9 (by decide +kernel) O_1 (by decide) rfl rfl rfl ?_
  refine Wk.iload_n (k := 1) (q := 5) (by decide +kernel) rfl rfl rfl ?_
  refine Wk.iaload (q := 6) (by decide +kernel) A_6 (by first | omega | exact bi_rng _) (by first | omega | exact bi_rng _) rfl ?_
  refine Wk.aload_n (k := 0) (q := 7) (by decide +kernel) rfl rfl rfl ?_
  refine Wk.getR (r := 4) (q := 10) f_Swing_15 (by decide +kernel) O_1 (by decide) rfl rfl rfl ?_
  refine Wk.iload_n (k := 1) (q := 11) (by decide +kernel) rfl rfl rfl ?_
  refine Wk.iaload (q := 12) (by decide +kernel) A_4 (by first | omega | exact bi_rng _) (by first | omega | exact bi_rng _) rfl ?_
  refine Wk.getsX (q := 15) fs_Swing_18 (by decide +kernel) rfl ?_
  refine Wk.iload_n (k := 2) (q := 16) (by decide +kernel) rfl rfl rfl ?_
  refine Wk.ialX (q := 17) (by decide +kernel) (by first | omega | exact bi_rng _) (by first | omega | exact bi_rng _) rfl ?_
  refine Wk.imul (q := 18) (by decide +kernel) rfl ?_
  refine Wk.iadd (q := 19) (by decide +kernel) rfl ?_
  exact Wk.rI (by decide +kernel) rfl (rfl)
theorem c_Swing_firstY {s w : Int} (h0 : 0 ≤ s) (h1 : s < 8) (h2 : 0 ≤ w) (h3 : w < 8) : Wk xs x_Swing_firstY d 0 0 0 [some (vr 1), some (vi s), some (vi w)] [] X2 I L (pI (I 7 s + I 4 s * windY w) I L) := by
  refine Wk.aload_n (k := 0) (q := 1) (by decide +kernel) rfl rfl rfl ?_
  refine Wk.getR (r := 7) (q := 4) f_Swing_21 (by decide +kernel) O_1 (by decide) rfl rfl rfl ?_
  refine Wk.iload_n (k := 1) (q := 5) (by decide +kernel) rfl rfl rfl ?_
  refine Wk.iaload (q := 6) (by decide +kernel) A_7 (by first | omega | exact bi_rng _) (by first | omega | exact bi_rng _) rfl ?_
  refine Wk.aload_n (k := 0) (q := 7) (by decide +kernel) rfl rfl rfl ?_
  refine Wk.getR (r := 4) (q := 10) f_Swing_15 (by decide +kernel) O_1 (by decide) rfl rfl rfl ?_
  refine Wk.iload_n (k := 1) (q := 11) (by decide +kernel) rfl rfl rfl ?_
  refine Wk.iaload (q := 12) (by decide +kernel) A_4 (by first | omega | exact bi_rng _) (by first | omega | exact bi_rng _) rfl ?_
  refine Wk.getsY (q := 15) fs_Swing_24 (by decide +kernel) rfl ?_
  refine Wk.iload_n (k := 2) (q := 16) (by decide +kernel) rfl rfl rfl ?_
  refine Wk.ialY (q := 17) (by decide +kernel) (by first | omega | exact bi_rng _) (by first | omega | exact bi_rng _) rfl ?_
  refine Wk.imul (q := 18) (by decide +kernel) rfl ?_
  refine Wk.iadd (q := 19) (by decide +kernel) rfl ?_
  exact Wk.rI (by decide +kernel) rfl (rfl)
theorem c_Swing_liesOn {a w x y : Int} (h0 : 0 ≤ a) (h1 : a < I 1 4) (h2 : 0 ≤ w) (h3 : w < 8) (hC : CW I) (hcx : 0 ≤ x ∧ x ≤ 6) (hcy : 0 ≤ y ∧ y ≤ 6) : Wk xs x_Swing_liesOn (d + 1) 0 0 0 [some (vr 1), some (vi a), some (vi w), some (vi x), some (vi y), none, none] [] X2 I L (pI (bi (cLO I a w x y)) I L) := by
  obtain ⟨⟨hW, hH, -, -, hA, -, -⟩, hS, hP⟩ := id hC
  obtain ⟨hdr, hch, hsd⟩ := hS a (Or.inl ⟨h0, h1⟩)
  obtain ⟨hx, hy⟩ := hP a h0 h1
  have m1 := mulB hch (windX_r w)
  have m2 := mulB hch (windY_r w)
  refine Wk.iload_n (k := 3) (q := 1) (by decide +kernel) rfl rfl rfl ?_
  refine Wk.aload_n (k := 0) (q := 2) (by decide +kernel) rfl rfl rfl ?_
  refine Wk.iload_n (k := 1) (q := 3) (by decide +kernel) rfl rfl rfl ?_
  refine Wk.iload_n (k := 2) (q := 4) (by decide +kernel) rfl rfl rfl ?_
  refine Wk.cSi (q := 7) l_Swing_27 m_Swing_firstX (by decide +kernel) (fun _ h => h) (Nat.le_of_ble_eq_true rfl) (Nat.le_of_ble_eq_true rfl) rfl (c_Swing_firstX (by omega) (by omega) (by omega) (by omega)) rfl ?_
  refine Wk.isub (q := 8) (by decide +kernel) rfl ?_
  refine Wk.istore (i := 5) (q := 10) (by decide +kernel) (by decide) rfl (fun _ h => h) rfl ?_
  refine Wk.iload (i := 4) (q := 12) (by decide +kernel) rfl rfl ?_
  refine Wk.aload_n (k := 0) (q := 13) (by decide +kernel) rfl rfl rfl ?_
  refine Wk.iload_n (k := 1) (q := 14) (by decide +kernel) rfl rfl rfl ?_
  refine Wk.iload_n (k := 2) (q := 15) (by decide +kernel) rfl rfl rfl ?_
  refine Wk.cSi (q := 18) l_Swing_33 m_Swing_firstY (by decide +kernel) (fun _ h => h) (Nat.le_of_ble_eq_true rfl) (Nat.le_of_ble_eq_true rfl) rfl (c_Swing_firstY (by omega) (by omega) (by omega) (by omega)) rfl ?_
  refine Wk.isub (q := 19) (by decide +kernel) rfl ?_
  refine Wk.istore (i := 6) (q := 21) (by decide +kernel) (by decide) rfl (fun _ h => h) rfl ?_
  refine Wk.iload (i := 5) (q := 23) (by decide +kernel) rfl rfl ?_
  refine Wk.if_lt (off := (34)) (t := 57) (q := 26) (by decide +kernel) (by decide) rfl (by first | omega | exact bi_rng _) (fun hc23 => ?_) (fun hc23 => ?_)
  · refine Wk.iconst (n := 0) (q := 58) (by decide +kernel) rfl ?_
    exact Wk.rZ (by decide +kernel) rfl (by first | omega | decide | exact bi_01 _) (by first | rw [bi_t (by unfold cLO LO; omega)] | rw [bi_f (by unfold cLO LO; omega)])
  · refine Wk.iload (i := 5) (q := 28) (by decide +kernel) rfl rfl ?_
    refine Wk.aload_n (k := 0) (q := 29) (by decide +kernel) rfl rfl rfl ?_
    refine Wk.getR (r := 5) (q := 32) f_Swing_36 (by decide +kernel) O_1 (by decide) rfl rfl rfl ?_
    refine Wk.iload_n (k := 1) (q := 33) (by decide +kernel) rfl rfl rfl ?_
    refine Wk.iaload (q := 34) (by decide +kernel) A_5 (by first | omega | exact bi_rng _) (by first | omega | exact bi_rng _) rfl ?_
    refine Wk.icmp_ge (off := (23)) (t := 57) (q := 37) (by decide +kernel) (by decide) rfl (by first | omega | exact bi_rng _) (by first | omega | exact bi_rng _) (fun hc34 => ?_) (fun hc34 => ?_)
    · refine Wk.iconst (n := 0) (q := 58) (by decide +kernel) rfl ?_
      exact Wk.rZ (by decide +kernel) rfl (by first | omega | decide | exact bi_01 _) (by first | rw [bi_t (by unfold cLO LO; omega)] | rw [bi_f (by unfold cLO LO; omega)])
    · refine Wk.iload (i := 6) (q := 39) (by decide +kernel) rfl rfl ?_
      refine Wk.if_lt (off := (18)) (t := 57) (q := 42) (by decide +kernel) (by decide) rfl (by first | omega | exact bi_rng _) (fun hc39 => ?_) (fun hc39 => ?_)
      · refine Wk.iconst (n := 0) (q := 58) (by decide +kernel) rfl ?_
        exact Wk.rZ (by decide +kernel) rfl (by first | omega | decide | exact bi_01 _) (by first | rw [bi_t (by unfold cLO LO; omega)] | rw [bi_f (by unfold cLO LO; omega)])
      · refine Wk.iload (i := 6) (q := 44) (by decide +kernel) rfl rfl ?_
        refine Wk.aload_n (k := 0) (q := 45) (by decide +kernel) rfl rfl rfl ?_
        refine Wk.getR (r := 5) (q := 48) f_Swing_36 (by decide +kernel) O_1 (by decide) rfl rfl rfl ?_
        refine Wk.iload_n (k := 1) (q := 49) (by decide +kernel) rfl rfl rfl ?_
        refine Wk.iaload (q := 50) (by decide +kernel) A_5 (by first | omega | exact bi_rng _) (by first | omega | exact bi_rng _) rfl ?_
        refine Wk.icmp_ge (off := (7)) (t := 57) (q := 53) (by decide +kernel) (by decide) rfl (by first | omega | exact bi_rng _) (by first | omega | exact bi_rng _) (fun hc50 => ?_) (fun hc50 => ?_)
        · refine Wk.iconst (n := 0) (q := 58) (by decide +kernel) rfl ?_
          exact Wk.rZ (by decide +kernel) rfl (by first | omega | decide | exact bi_01 _) (by first | rw [bi_t (by unfold cLO LO; omega)] | rw [bi_f (by unfold cLO LO; omega)])
        · refine Wk.iconst (n := 1) (q := 54) (by decide +kernel) rfl ?_
          refine Wk.goto (off := (4)) (q := 58) (by decide +kernel) (by decide) ?_
          exact Wk.rZ (by decide +kernel) rfl (by first | omega | decide | exact bi_01 _) (by first | rw [bi_t (by unfold cLO LO; omega)] | rw [bi_f (by unfold cLO LO; omega)])
theorem c_Swing_clashBy {a b w : Int} (h0 : 0 ≤ a) (h1 : a < I 1 4) (g0 : 0 ≤ b) (g1 : b < I 1 4) (h2 : 0 ≤ w) (h3 : w < 8) (hC : CW I) : Wk xs x_Swing_clashBy (d + 1) 0 0 0 [some (vr 1), some (vi a), some (vi b), some (vi w), none, none] [] X2 I L (pI (bi (CLw (I 4 a) (I 5 a) (I 6 a) (I 7 a) (I 4 b) (I 5 b) (I 6 b) (I 7 b) w)) I L) := by
  obtain ⟨⟨hW, hH, -, -, hA, -, -⟩, hS, hP⟩ := id hC
  obtain ⟨hdr, hch, hsd⟩ := hS a (Or.inl ⟨h0, h1⟩)
  obtain ⟨hx, hy⟩ := hP a h0 h1
  obtain ⟨-, hch2, hsd2⟩ := hS b (Or.inl ⟨g0, g1⟩)
  obtain ⟨hx2, hy2⟩ := hP b g0 g1
  have m1 := mulB hch (windX_r w)
  have m2 := mulB hch (windY_r w)
  have m3 := mulB hch2 (windX_r w)
  have m4 := mulB hch2 (windY_r w)
  refine Wk.aload_n (k := 0) (q := 1) (by decide +kernel) rfl rfl rfl ?_
  refine Wk.iload_n (k := 2) (q := 2) (by decide +kernel) rfl rfl rfl ?_
  refine Wk.iload_n (k := 3) (q := 3) (by decide +kernel) rfl rfl rfl ?_
  refine Wk.cSi (q := 6) l_Swing_27 m_Swing_firstX (by decide +kernel) (fun _ h => h) (Nat.le_of_ble_eq_true rfl) (Nat.le_of_ble_eq_true rfl) rfl (c_Swing_firstX (by omega) (by omega) (by omega) (by omega)) rfl ?_
  refine Wk.aload_n (k := 0) (q := 7) (by decide +kernel) rfl rfl rfl ?_
  refine Wk.iload_n (k := 1) (q := 8) (by decide +kernel) rfl rfl rfl ?_
  refine Wk.iload_n (k := 3) (q := 9) (by decide +kernel) rfl rfl rfl ?_
  refine Wk.cSi (q := 12) l_Swing_27 m_Swing_firstX (by decide +kernel) (fun _ h => h) (Nat.le_of_ble_eq_true rfl) (Nat.le_of_ble_eq_true rfl) rfl (c_Swing_firstX (by omega) (by omega) (by omega) (by omega)) rfl ?_
  refine Wk.isub (q := 13) (by decide +kernel) rfl ?_
  refine Wk.istore (i := 4) (q := 15) (by decide +kernel) (by decide) rfl (fun _ h => h) rfl ?_
  refine Wk.aload_n (k := 0) (q := 16) (by decide +kernel) rfl rfl rfl ?_
  refine Wk.iload_n (k := 2) (q := 17) (by decide +kernel) rfl rfl rfl ?_
  refine Wk.iload_n (k := 3) (q := 18) (by decide +kernel) rfl rfl rfl ?_
  refine Wk.cSi (q := 21) l_Swing_33 m_Swing_firstY (by decide +kernel) (fun _ h => h) (Nat.le_of_ble_eq_true rfl) (Nat.le_of_ble_eq_true rfl) rfl (c_Swing_firstY (by omega) (by omega) (by omega) (by omega)) rfl ?_
  refine Wk.aload_n (k := 0) (q := 22) (by decide +kernel) rfl rfl rfl ?_
  refine Wk.iload_n (k := 1) (q := 23) (by decide +kernel) rfl rfl rfl ?_
  refine Wk.iload_n (k := 3) (q := 24) (by decide +kernel) rfl rfl rfl ?_
  refine Wk.cSi (q := 27) l_Swing_33 m_Swing_firstY (by decide +kernel) (fun _ h => h) (Nat.le_of_ble_eq_true rfl) (Nat.le_of_ble_eq_true rfl) rfl (c_Swing_firstY (by omega) (by omega) (by omega) (by omega)) rfl ?_
  refine Wk.isub (q := 28) (by decide +kernel) rfl ?_
  refine Wk.istore (i := 5) (q := 30) (by decide +kernel) (by decide) rfl (fun _ h => h) rfl ?_
  refine Wk.iload (i := 4) (q := 32) (by decide +kernel) rfl rfl ?_
  refine Wk.aload_n (k := 0) (q := 33) (by decide +kernel) rfl rfl rfl ?_
  refine Wk.getR (r := 5) (q := 36) f_Swing_36 (by decide +kernel) O_1 (by decide) rfl rfl rfl ?_
  refine Wk.iload_n (k := 1) (q := 37) (by decide +kernel) rfl rfl rfl ?_
  refine Wk.iaload (q := 38) (by decide +kernel) A_5 (by first | omega | exact bi_rng _) (by first | omega | exact bi_rng _) rfl ?_
  refine Wk.icmp_ge (off := (42)) (t := 80) (q := 41) (by decide +kernel) (by decide) rfl (by first | omega | exact bi_rng _) (by first | omega | exact bi_rng _) (fun hc38 => ?_) (fun hc38 => ?_)
  · refine Wk.iconst (n := 0) (q := 81) (by decide +kernel) rfl ?_
    exact Wk.rZ (by decide +kernel) rfl (by first | omega | decide | exact bi_01 _) (by first | rw [bi_t (by unfold CLw; omega)] | rw [bi_f (by unfold CLw; omega)])
  · refine Wk.iload (i := 4) (q := 43) (by decide +kernel) rfl rfl ?_
    refine Wk.ineg (q := 44) (by decide +kernel) rfl ?_
    refine Wk.aload_n (k := 0) (q := 45) (by decide +kernel) rfl rfl rfl ?_
    refine Wk.getR (r := 5) (q := 48) f_Swing_36 (by decide +kernel) O_1 (by decide) rfl rfl rfl ?_
    refine Wk.iload_n (k := 2) (q := 49) (by decide +kernel) rfl rfl rfl ?_
    refine Wk.iaload (q := 50) (by decide +kernel) A_5 (by first | omega | exact bi_rng _) (by first | omega | exact bi_rng _) rfl ?_
    refine Wk.icmp_ge (off := (30)) (t := 80) (q := 53) (by decide +kernel) (by decide) rfl (by first | omega | exact bi_rng _) (by first | omega | exact bi_rng _) (fun hc50 => ?_) (fun hc50 => ?_)
    · refine Wk.iconst (n := 0) (q := 81) (by decide +kernel) rfl ?_
      exact Wk.rZ (by decide +kernel) rfl (by first | omega | decide | exact bi_01 _) (by first | rw [bi_t (by unfold CLw; omega)] | rw [bi_f (by unfold CLw; omega)])
    · refine Wk.iload (i := 5) (q := 55) (by decide +kernel) rfl rfl ?_
      refine Wk.aload_n (k := 0) (q := 56) (by decide +kernel) rfl rfl rfl ?_
      refine Wk.getR (r := 5) (q := 59) f_Swing_36 (by decide +kernel) O_1 (by decide) rfl rfl rfl ?_
      refine Wk.iload_n (k := 1) (q := 60) (by decide +kernel) rfl rfl rfl ?_
      refine Wk.iaload (q := 61) (by decide +kernel) A_5 (by first | omega | exact bi_rng _) (by first | omega | exact bi_rng _) rfl ?_
      refine Wk.icmp_ge (off := (19)) (t := 80) (q := 64) (by decide +kernel) (by decide) rfl (by first | omega | exact bi_rng _) (by first | omega | exact bi_rng _) (fun hc61 => ?_) (fun hc61 => ?_)
      · refine Wk.iconst (n := 0) (q := 81) (by decide +kernel) rfl ?_
        exact Wk.rZ (by decide +kernel) rfl (by first | omega | decide | exact bi_01 _) (by first | rw [bi_t (by unfold CLw; omega)] | rw [bi_f (by unfold CLw; omega)])
      · refine Wk.iload (i := 5) (q := 66) (by decide +kernel) rfl rfl ?_
        refine Wk.ineg (q := 67) (by decide +kernel) rfl ?_
        refine Wk.aload_n (k := 0) (q := 68) (by decide +kernel) rfl rfl rfl ?_
        refine Wk.getR (r := 5) (q := 71) f_Swing_36 (by decide +kernel) O_1 (by decide) rfl rfl rfl ?_
        refine Wk.iload_n (k := 2) (q := 72) (by decide +kernel) rfl rfl rfl ?_
        refine Wk.iaload (q := 73) (by decide +kernel) A_5 (by first | omega | exact bi_rng _) (by first | omega | exact bi_rng _) rfl ?_
        refine Wk.icmp_ge (off := (7)) (t := 80) (q := 76) (by decide +kernel) (by decide) rfl (by first | omega | exact bi_rng _) (by first | omega | exact bi_rng _) (fun hc73 => ?_) (fun hc73 => ?_)
        · refine Wk.iconst (n := 0) (q := 81) (by decide +kernel) rfl ?_
          exact Wk.rZ (by decide +kernel) rfl (by first | omega | decide | exact bi_01 _) (by first | rw [bi_t (by unfold CLw; omega)] | rw [bi_f (by unfold CLw; omega)])
        · refine Wk.iconst (n := 1) (q := 77) (by decide +kernel) rfl ?_
          refine Wk.goto (off := (4)) (q := 81) (by decide +kernel) (by decide) ?_
          exact Wk.rZ (by decide +kernel) rfl (by first | omega | decide | exact bi_01 _) (by first | rw [bi_t (by unfold CLw; omega)] | rw [bi_f (by unfold CLw; omega)])
theorem c_Swing_clash {a b F : Int} (h0 : 0 ≤ a) (h1 : a < I 1 4) (g0 : 0 ≤ b) (g1 : b < I 1 4) (hF : 0 ≤ F ∧ F ≤ 255) (hC : CW I) : Wk xs x_Swing_clash (d + 2) 0 0 0 [some (vr 1), some (vi a), some (vi b), some (vi F), none] [] X2 I L (pI (bi (cCL I F a b)) I L) := by
  have key : Wk xs x_Swing_clash (d + 2) 0 0 3 [some (vr 1), some (vi a), some (vi b), some (vi F), some (vi 0)] [] X2 I L (pI (bi (cCL I F a b)) I L) := by
    refine loopS (σ := Unit) (fun k _ => Wk xs x_Swing_clash (d + 2) 0 0 3 [some (vr 1), some (vi a), some (vi b), some (vi F), some (vi k)] [] X2 I L (pI (bi (cCL I F a b)) I L)) (fun k _ => ∀ w, 0 ≤ w → w < k → bt F w = true → ¬ CLw (I 4 a) (I 5 a) (I 6 a) (I 7 a) (I 4 b) (I 5 b) (I 6 b) (I 7 b) w) 8 0 () (by omega) (fun w z0 z1 => by omega) ?_ ?_
    · intro _ hJ
      refine Wk.iload (i := 4) (q := 5) (by decide +kernel) rfl rfl ?_
      refine Wk.bipush (n := 8) (q := 7) (by decide +kernel) (by decide +kernel) rfl ?_
      refine Wk.icmp_ge (off := (31)) (t := 38) (q := 10) (by decide +kernel) (by decide) rfl (by first | omega | exact bi_rng _) (by first | omega | exact bi_rng _) (fun hc7 => ?_) (fun hc7 => ?_)
      · refine Wk.iconst (n := 0) (q := 39) (by decide +kernel) rfl ?_
        exact Wk.rZ (by decide +kernel) rfl (by first | omega | decide | exact bi_01 _) (by rw [bi_f]; intro hz; obtain ⟨w, z0, z1, z2, z3⟩ := hz; exact hJ w z0 z1 z2 z3)
      · omega
    · intro k _ k0 k1 hJ ih
      refine Wk.iload (i := 4) (q := 5) (by decide +kernel) rfl rfl ?_
      refine Wk.bipush (n := 8) (q := 7) (by decide +kernel) (by decide +kernel) rfl ?_
      refine Wk.icmp_ge (off := (31)) (t := 38) (q := 10) (by decide +kernel) (by decide) rfl (by first | omega | exact bi_rng _) (by first | omega | exact bi_rng _) (fun hc7 => ?_) (fun hc7 => ?_)
      · omega
      · refine Wk.iload_n (k := 3) (q := 11) (by decide +kernel) rfl rfl rfl ?_
        refine Wk.iload (i := 4) (q := 13) (by decide +kernel) rfl rfl ?_
        refine Wk.cSi (q := 16) l_Swing_43 m_Swing_blows (by decide +kernel) (fun _ h => h) (Nat.le_of_ble_eq_true rfl) (Nat.le_of_ble_eq_true rfl) rfl (c_Swing_blows (by omega) (by omega) (by omega) (by omega)) rfl ?_
        refine Wk.ifB_eq (off := (16)) (t := 32) (q := 19) (by decide +kernel) (by decide) rfl (fun hc16 => ?_) (fun hc16 => ?_)
        · refine Wk.iinc (i := 4) (n := 1) (q := 35) (by decide +kernel) rfl (by decide) rfl (fun _ h => h) rfl ?_
          refine Wk.goto (off := (-32)) (q := 3) (by decide +kernel) (by decide) ?_
          exact ih () (ext1 hJ (fun z2 z3 => by first | exact hc16 z2 | exact hc27 z3))
        · refine Wk.aload_n (k := 0) (q := 20) (by decide +kernel) rfl rfl rfl ?_
          refine Wk.iload_n (k := 1) (q := 21) (by decide +kernel) rfl rfl rfl ?_
          refine Wk.iload_n (k := 2) (q := 22) (by decide +kernel) rfl rfl rfl ?_
          refine Wk.iload (i := 4) (q := 24) (by decide +kernel) rfl rfl ?_
          refine Wk.cSi (q := 27) l_Swing_87 m_Swing_clashBy (by decide +kernel) (fun _ h => h) (Nat.le_of_ble_eq_true rfl) (Nat.le_of_ble_eq_true rfl) rfl (c_Swing_clashBy h0 h1 g0 g1 (by omega) (by omega) hC) rfl ?_
          refine Wk.ifB_eq (off := (5)) (t := 32) (q := 30) (by decide +kernel) (by decide) rfl (fun hc27 => ?_) (fun hc27 => ?_)
          · refine Wk.iinc (i := 4) (n := 1) (q := 35) (by decide +kernel) rfl (by decide) rfl (fun _ h => h) rfl ?_
            refine Wk.goto (off := (-32)) (q := 3) (by decide +kernel) (by decide) ?_
            exact ih () (ext1 hJ (fun z2 z3 => by first | exact hc16 z2 | exact hc27 z3))
          · refine Wk.iconst (n := 1) (q := 31) (by decide +kernel) rfl ?_
            exact Wk.rZ (by decide +kernel) rfl (by first | omega | decide | exact bi_01 _) (by rw [bi_t]; exact ⟨k, k0, k1, hc16, hc27⟩)
  refine Wk.iconst (n := 0) (q := 1) (by decide +kernel) rfl ?_
  refine Wk.istore (i := 4) (q := 3) (by decide +kernel) (by decide) rfl (fun _ h => h) rfl ?_
  exact key
theorem c_Swing_clashesOf {a F : Int} (h0 : 0 ≤ a) (h1 : a < I 1 4) (hF : 0 ≤ F ∧ F ≤ 255) (hC : CW I) : Wk xs x_Swing_clashesOf (d + 3) 0 0 0 [some (vr 1), some (vi a), some (vi F), none, none] [] X2 I L (pI (so (fun b => ¬ b = a ∧ cCL I F a b) (I 1 4).toNat) I L) := by
  have hA : 0 ≤ I 1 4 ∧ I 1 4 ≤ 5 := hC.1.2.2.2.2.1
  have key : Wk xs x_Swing_clashesOf (d + 3) 0 0 5 [some (vr 1), some (vi a), some (vi F), some (vi (so (fun b => ¬ b = a ∧ cCL I F a b) (0 : Int).toNat)), some (vi 0)] [] X2 I L (pI (so (fun b => ¬ b = a ∧ cCL I F a b) (I 1 4).toNat) I L) := by
    refine loopI (fun k => Wk xs x_Swing_clashesOf (d + 3) 0 0 5 [some (vr 1), some (vi a), some (vi F), some (vi (so (fun b => ¬ b = a ∧ cCL I F a b) k.toNat)), some (vi k)] [] X2 I L (pI (so (fun b => ¬ b = a ∧ cCL I F a b) (I 1 4).toNat) I L)) (I 1 4) 0 (by omega) ?_ ?_
    · refine Wk.iload (i := 4) (q := 7) (by decide +kernel) rfl rfl ?_
      refine Wk.aload_n (k := 0) (q := 8) (by decide +kernel) rfl rfl rfl ?_
      refine Wk.getI (z := 4) (q := 11) f_Swing_58 (by decide +kernel) O_1 (by decide) rfl rfl rfl ?_
      refine Wk.icmp_ge (off := (33)) (t := 44) (q := 14) (by decide +kernel) (by decide) rfl (by first | omega | exact bi_rng _) (by first | omega | exact bi_rng _) (fun hc11 => ?_) (fun hc11 => ?_)
      · refine Wk.iload_n (k := 3) (q := 45) (by decide +kernel) rfl rfl rfl ?_
        exact Wk.rI (by decide +kernel) rfl (rfl)
      · omega
    · intro k k0 k1 ih
      have hs := so_range (fun b => ¬ b = a ∧ cCL I F a b) k.toNat
      rw [so_step _ k0] at ih
      refine Wk.iload (i := 4) (q := 7) (by decide +kernel) rfl rfl ?_
      refine Wk.aload_n (k := 0) (q := 8) (by decide +kernel) rfl rfl rfl ?_
      refine Wk.getI (z := 4) (q := 11) f_Swing_58 (by decide +kernel) O_1 (by decide) rfl rfl rfl ?_
      refine Wk.icmp_ge (off := (33)) (t := 44) (q := 14) (by decide +kernel) (by decide) rfl (by first | omega | exact bi_rng _) (by first | omega | exact bi_rng _) (fun hc11 => ?_) (fun hc11 => ?_)
      · omega
      · refine Wk.iload (i := 4) (q := 16) (by decide +kernel) rfl rfl ?_
        refine Wk.iload_n (k := 1) (q := 17) (by decide +kernel) rfl rfl rfl ?_
        refine Wk.icmp_eq (off := (21)) (t := 38) (q := 20) (by decide +kernel) (by decide) rfl (by first | omega | exact bi_rng _) (by first | omega | exact bi_rng _) (fun hc17 => ?_) (fun hc17 => ?_)
        · refine Wk.iinc (i := 4) (n := 1) (q := 41) (by decide +kernel) rfl (by decide) rfl (fun _ h => h) rfl ?_
          refine Wk.goto (off := (-36)) (q := 5) (by decide +kernel) (by decide) ?_
          first | (rw [or_above hs.1 hs.2 k0 (by omega)]; rw [bi_t ⟨hc17, hc28⟩, Int.one_mul] at ih; exact ih) | (rw [bi_f (fun z => by first | exact z.1 hc17 | exact hc28 z.2), Int.zero_mul, Int.add_zero] at ih; exact ih)
        · refine Wk.aload_n (k := 0) (q := 21) (by decide +kernel) rfl rfl rfl ?_
          refine Wk.iload_n (k := 1) (q := 22) (by decide +kernel) rfl rfl rfl ?_
          refine Wk.iload (i := 4) (q := 24) (by decide +kernel) rfl rfl ?_
          refine Wk.iload_n (k := 2) (q := 25) (by decide +kernel) rfl rfl rfl ?_
          refine Wk.cSi (q := 28) l_Swing_91 m_Swing_clash (by decide +kernel) (fun _ h => h) (Nat.le_of_ble_eq_true rfl) (Nat.le_of_ble_eq_true rfl) rfl (c_Swing_clash h0 h1 (by omega) (by omega) hF hC) rfl ?_
          refine Wk.ifB_eq (off := (10)) (t := 38) (q := 31) (by decide +kernel) (by decide) rfl (fun hc28 => ?_) (fun hc28 => ?_)
          · refine Wk.iinc (i := 4) (n := 1) (q := 41) (by decide +kernel) rfl (by decide) rfl (fun _ h => h) rfl ?_
            refine Wk.goto (off := (-36)) (q := 5) (by decide +kernel) (by decide) ?_
            first | (rw [or_above hs.1 hs.2 k0 (by omega)]; rw [bi_t ⟨hc17, hc28⟩, Int.one_mul] at ih; exact ih) | (rw [bi_f (fun z => by first | exact z.1 hc17 | exact hc28 z.2), Int.zero_mul, Int.add_zero] at ih; exact ih)
          · refine Wk.iload_n (k := 3) (q := 32) (by decide +kernel) rfl rfl rfl ?_
            refine Wk.iconst (n := 1) (q := 33) (by decide +kernel) rfl ?_
            refine Wk.iload (i := 4) (q := 35) (by decide +kernel) rfl rfl ?_
            refine Wk.ishl (q := 36) (by decide +kernel) rfl ?_
            refine Wk.ior (q := 37) (by decide +kernel) rfl ?_
            refine Wk.istore_n (k := 3) (q := 38) (by decide +kernel) rfl (by decide) rfl (fun _ h => h) rfl ?_
            refine Wk.iinc (i := 4) (n := 1) (q := 41) (by decide +kernel) rfl (by decide) rfl (fun _ h => h) rfl ?_
            refine Wk.goto (off := (-36)) (q := 5) (by decide +kernel) (by decide) ?_
            first | (rw [or_above hs.1 hs.2 k0 (by omega)]; rw [bi_t ⟨hc17, hc28⟩, Int.one_mul] at ih; exact ih) | (rw [bi_f (fun z => by first | exact z.1 hc17 | exact hc28 z.2), Int.zero_mul, Int.add_zero] at ih; exact ih)
  refine Wk.iconst (n := 0) (q := 1) (by decide +kernel) rfl ?_
  refine Wk.istore_n (k := 3) (q := 2) (by decide +kernel) rfl (by decide) rfl (fun _ h => h) rfl ?_
  refine Wk.iconst (n := 0) (q := 3) (by decide +kernel) rfl ?_
  refine Wk.istore (i := 4) (q := 5) (by decide +kernel) (by decide) rfl (fun _ h => h) rfl ?_
  exact key
end SWG
end
section
/-! THE LEAST WATER, cells swept, danger -/
section SWH
variable {xs : RO} {d : Nat} {I : IM} {L : LM}

theorem c_Swing_leastWaterBy {a w : Int} (h0 : 0 ≤ a) (h1 : a < I 1 4) (h2 : 0 ≤ w) (h3 : w < 8) (hC : CW I) : Wk xs x_Swing_leastWaterBy (d + 2) 0 0 0 [some (vr 1), some (vi a), some (vi w), none, none, none, none, none] [] X2 I L (p2 fun v I' L' => (∃ z, v = some (vi z) ∧ MinOf 2147483647 (fun v => ∃ cx cy, cLO I a w cx cy ∧ v = cwat I cx cy) z ∧ 0 ≤ z ∧ z ≤ 12) ∧ I' = I ∧ L' = L) := by
  obtain ⟨⟨hW, hH, -, -, hA, -, -⟩, hS, hP⟩ := id hC
  obtain ⟨hdr, hch, hsd⟩ := hS a (Or.inl ⟨h0, h1⟩)
  obtain ⟨hx, hy⟩ := hP a h0 h1
  have m1 := mulB hch (windX_r w)
  have m2 := mulB hch (windY_r w)
  have key : ∀ o8 : Option AV, Wk xs x_Swing_leastWaterBy (d + 2) 0 0 23 [some (vr 1), some (vi a), some (vi w), some (vi 2147483647), some (vi (I 6 a + I 4 a * windX w)), some (vi (I 7 a + I 4 a * windY w)), some (vi (I 7 a + I 4 a * windY w)), o8] [] X2 I L (p2 fun v I' L' => (∃ z, v = some (vi z) ∧ MinOf 2147483647 (fun v => ∃ cx cy, cLO I a w cx cy ∧ v = cwat I cx cy) z ∧ 0 ≤ z ∧ z ≤ 12) ∧ I' = I ∧ L' = L) := by
    intro o8
    refine loopS (σ := Int × Option AV) (fun y s => Wk xs x_Swing_leastWaterBy (d + 2) 0 0 23 [some (vr 1), some (vi a), some (vi w), some (vi s.1), some (vi (I 6 a + I 4 a * windX w)), some (vi (I 7 a + I 4 a * windY w)), some (vi y), s.2] [] X2 I L (p2 fun v I' L' => (∃ z, v = some (vi z) ∧ MinOf 2147483647 (fun v => ∃ cx cy, cLO I a w cx cy ∧ v = cwat I cx cy) z ∧ 0 ≤ z ∧ z ≤ 12) ∧ I' = I ∧ L' = L)) (fun y s => MinOf 2147483647 (fun v => ∃ cx cy, ((I 6 a + I 4 a * windX w) ≤ cx ∧ cx < (I 6 a + I 4 a * windX w) + I 5 a) ∧ ((I 7 a + I 4 a * windY w) ≤ cy ∧ cy < y) ∧ v = cwat I cx cy) s.1 ∧ 0 ≤ s.1 ∧ s.1 ≤ 2147483647) ((I 7 a + I 4 a * windY w) + I 5 a) (I 7 a + I 4 a * windY w) (2147483647, o8) (by omega) ⟨MinOf.none (fun v hv => by obtain ⟨cx, cy, q1, q2, q3⟩ := hv; omega), by omega, by omega⟩ ?_ ?_
    · intro s hJ
      obtain ⟨m, o9⟩ := s
      obtain ⟨hJ, hm0, hm1⟩ := hJ
      simp only at hJ hm0 hm1 ⊢
      refine Wk.iload (i := 6) (q := 25) (by decide +kernel) rfl rfl ?_
      refine Wk.iload (i := 5) (q := 27) (by decide +kernel) rfl rfl ?_
      refine Wk.aload_n (k := 0) (q := 28) (by decide +kernel) rfl rfl rfl ?_
      refine Wk.getR (r := 5) (q := 31) f_Swing_36 (by decide +kernel) O_1 (by decide) rfl rfl rfl ?_
      refine Wk.iload_n (k := 1) (q := 32) (by decide +kernel) rfl rfl rfl ?_
      refine Wk.iaload (q := 33) (by decide +kernel) A_5 (by first | omega | exact bi_rng _) (by first | omega | exact bi_rng _) rfl ?_
      refine Wk.iadd (q := 34) (by decide +kernel) rfl ?_
      refine Wk.icmp_ge (off := (46)) (t := 80) (q := 37) (by decide +kernel) (by decide) rfl (by first | omega | exact bi_rng _) (by first | omega | exact bi_rng _) (fun hc34 => ?_) (fun hc34 => ?_)
      · have hJ2 := hJ.cong (Q := fun v => ∃ cx cy, cLO I a w cx cy ∧ v = cwat I cx cy) (fun v => ⟨fun ⟨cx, cy, q1, q2, q3⟩ => ⟨cx, cy, ⟨q1, q2⟩, q3⟩, fun ⟨cx, cy, ⟨q1, q2⟩, q3⟩ => ⟨cx, cy, q1, q2, q3⟩⟩)
        have hm12 : m ≤ 12 := by
          have q := hJ.1 (cwat I (I 6 a + I 4 a * windX w) (I 7 a + I 4 a * windY w)) ⟨(I 6 a + I 4 a * windX w), (I 7 a + I 4 a * windY w), by omega, by omega, rfl⟩
          have := (cwat_range hC.1 (I 6 a + I 4 a * windX w) (I 7 a + I 4 a * windY w)).2
          omega
        refine Wk.iload_n (k := 3) (q := 81) (by decide +kernel) rfl rfl rfl ?_
        exact Wk.riP (by decide +kernel) rfl (⟨⟨m, rfl, hJ2, hm0, hm12⟩, rfl, rfl⟩)
      · omega
    · intro y s y0 y1 hJ ih
      obtain ⟨m, o9⟩ := s
      obtain ⟨hJ, hm0, hm1⟩ := hJ
      simp only at hJ hm0 hm1 ⊢
      refine Wk.iload (i := 6) (q := 25) (by decide +kernel) rfl rfl ?_
      refine Wk.iload (i := 5) (q := 27) (by decide +kernel) rfl rfl ?_
      refine Wk.aload_n (k := 0) (q := 28) (by decide +kernel) rfl rfl rfl ?_
      refine Wk.getR (r := 5) (q := 31) f_Swing_36 (by decide +kernel) O_1 (by decide) rfl rfl rfl ?_
      refine Wk.iload_n (k := 1) (q := 32) (by decide +kernel) rfl rfl rfl ?_
      refine Wk.iaload (q := 33) (by decide +kernel) A_5 (by first | omega | exact bi_rng _) (by first | omega | exact bi_rng _) rfl ?_
      refine Wk.iadd (q := 34) (by decide +kernel) rfl ?_
      refine Wk.icmp_ge (off := (46)) (t := 80) (q := 37) (by decide +kernel) (by decide) rfl (by first | omega | exact bi_rng _) (by first | omega | exact bi_rng _) (fun hc34 => ?_) (fun hc34 => ?_)
      · omega
      · have key2 : Wk xs x_Swing_leastWaterBy (d + 2) 0 0 41 [some (vr 1), some (vi a), some (vi w), some (vi m), some (vi (I 6 a + I 4 a * windX w)), some (vi (I 7 a + I 4 a * windY w)), some (vi y), some (vi (I 6 a + I 4 a * windX w))] [] X2 I L (p2 fun v I' L' => (∃ z, v = some (vi z) ∧ MinOf 2147483647 (fun v => ∃ cx cy, cLO I a w cx cy ∧ v = cwat I cx cy) z ∧ 0 ≤ z ∧ z ≤ 12) ∧ I' = I ∧ L' = L) := by
          refine loopS (σ := Int) (fun x m => Wk xs x_Swing_leastWaterBy (d + 2) 0 0 41 [some (vr 1), some (vi a), some (vi w), some (vi m), some (vi (I 6 a + I 4 a * windX w)), some (vi (I 7 a + I 4 a * windY w)), some (vi y), some (vi x)] [] X2 I L (p2 fun v I' L' => (∃ z, v = some (vi z) ∧ MinOf 2147483647 (fun v => ∃ cx cy, cLO I a w cx cy ∧ v = cwat I cx cy) z ∧ 0 ≤ z ∧ z ≤ 12) ∧ I' = I ∧ L' = L)) (fun x m => MinOf 2147483647 (fun v => (∃ cx cy, ((I 6 a + I 4 a * windX w) ≤ cx ∧ cx < (I 6 a + I 4 a * windX w) + I 5 a) ∧ ((I 7 a + I 4 a * windY w) ≤ cy ∧ cy < y) ∧ v = cwat I cx cy) ∨ ∃ cx, ((I 6 a + I 4 a * windX w) ≤ cx ∧ cx < x) ∧ v = cwat I cx y) m ∧ 0 ≤ m ∧ m ≤ 2147483647) ((I 6 a + I 4 a * windX w) + I 5 a) (I 6 a + I 4 a * windX w) m (by omega) ⟨hJ.cong (fun v => ⟨fun q => Or.inl q, fun q => q.elim id (fun ⟨cx, q1, q2⟩ => by omega)⟩), hm0, hm1⟩ ?_ ?_
          · intro m hM
            obtain ⟨hM, hm0, hm1⟩ := hM
            refine Wk.iload (i := 7) (q := 43) (by decide +kernel) rfl rfl ?_
            refine Wk.iload (i := 4) (q := 45) (by decide +kernel) rfl rfl ?_
            refine Wk.aload_n (k := 0) (q := 46) (by decide +kernel) rfl rfl rfl ?_
            refine Wk.getR (r := 5) (q := 49) f_Swing_36 (by decide +kernel) O_1 (by decide) rfl rfl rfl ?_
            refine Wk.iload_n (k := 1) (q := 50) (by decide +kernel) rfl rfl rfl ?_
            refine Wk.iaload (q := 51) (by decide +kernel) A_5 (by first | omega | exact bi_rng _) (by first | omega | exact bi_rng _) rfl ?_
            refine Wk.iadd (q := 52) (by decide +kernel) rfl ?_
            refine Wk.icmp_ge (off := (22)) (t := 74) (q := 55) (by decide +kernel) (by decide) rfl (by first | omega | exact bi_rng _) (by first | omega | exact bi_rng _) (fun hc52 => ?_) (fun hc52 => ?_)
            · refine Wk.iinc (i := 6) (n := 1) (q := 77) (by decide +kernel) rfl (by decide) rfl (fun _ h => h) rfl ?_
              refine Wk.goto (off := (-54)) (q := 23) (by decide +kernel) (by decide) ?_
              exact ih (m, _) ⟨hM.cong (fun v => ⟨fun q => q.elim (fun ⟨cx, cy, q1, q2, q3⟩ => ⟨cx, cy, q1, by omega, q3⟩) (fun ⟨cx, q1, q2⟩ => ⟨cx, y, q1, by omega, q2⟩), fun ⟨cx, cy, q1, q2, q3⟩ => by
                rcases Classical.em (cy = y) with e | e
                · exact Or.inr ⟨cx, q1, by rw [← e]; exact q3⟩
                · exact Or.inl ⟨cx, cy, q1, by omega, q3⟩⟩), hm0, hm1⟩
            · omega
          · intro x m x0 x1 hM ih2
            obtain ⟨hM, hm0, hm1⟩ := hM
            have hw := cwat_range hC.1 x y
            refine Wk.iload (i := 7) (q := 43) (by decide +kernel) rfl rfl ?_
            refine Wk.iload (i := 4) (q := 45) (by decide +kernel) rfl rfl ?_
            refine Wk.aload_n (k := 0) (q := 46) (by decide +kernel) rfl rfl rfl ?_
            refine Wk.getR (r := 5) (q := 49) f_Swing_36 (by decide +kernel) O_1 (by decide) rfl rfl rfl ?_
            refine Wk.iload_n (k := 1) (q := 50) (by decide +kernel) rfl rfl rfl ?_
            refine Wk.iaload (q := 51) (by decide +kernel) A_5 (by first | omega | exact bi_rng _) (by first | omega | exact bi_rng _) rfl ?_
            refine Wk.iadd (q := 52) (by decide +kernel) rfl ?_
            refine Wk.icmp_ge (off := (22)) (t := 74) (q := 55) (by decide +kernel) (by decide) rfl (by first | omega | exact bi_rng _) (by first | omega | exact bi_rng _) (fun hc52 => ?_) (fun hc52 => ?_)
            · omega
            · refine Wk.iload_n (k := 3) (q := 56) (by decide +kernel) rfl rfl rfl ?_
              refine Wk.aload_n (k := 0) (q := 57) (by decide +kernel) rfl rfl rfl ?_
              refine Wk.iload (i := 7) (q := 59) (by decide +kernel) rfl rfl ?_
              refine Wk.iload (i := 6) (q := 61) (by decide +kernel) rfl rfl ?_
              refine Wk.cVi (q := 64) l_Swing_78 m_Harb_water (by decide +kernel) (fun _ h => h) O_1 rfl (Nat.le_of_ble_eq_true rfl) (Nat.le_of_ble_eq_true rfl) rfl (c_Harb_water (by omega) (by omega) hC.1) rfl ?_
              refine Wk.min (q := 67) l_Swing_73 (by decide +kernel) (by first | omega | exact bi_rng _) (by first | omega | exact bi_rng _) (Nat.le_of_ble_eq_true rfl) rfl ?_
              refine Wk.istore_n (k := 3) (q := 68) (by decide +kernel) rfl (by decide) rfl (fun _ h => h) rfl ?_
              refine Wk.iinc (i := 7) (n := 1) (q := 71) (by decide +kernel) rfl (by decide) rfl (fun _ h => h) rfl ?_
              refine Wk.goto (off := (-30)) (q := 41) (by decide +kernel) (by decide) ?_
              refine ih2 _ ⟨(hM.add (v := cwat I x y) (by omega)).cong (fun v => ⟨fun q => q.elim (fun q => q.elim Or.inl (fun ⟨cx, q1, q2⟩ => Or.inr ⟨cx, by omega, q2⟩)) (fun q => Or.inr ⟨x, by omega, q⟩), fun q => q.elim (fun q => Or.inl (Or.inl q)) (fun ⟨cx, q1, q2⟩ => ?_)⟩), ?_, ?_⟩
              · rcases Classical.em (cx = x) with e | e
                · exact Or.inr (by rw [← e]; exact q2)
                · exact Or.inl (Or.inr ⟨cx, by omega, q2⟩)
              · split <;> omega
              · split <;> omega
        refine Wk.iload (i := 4) (q := 39) (by decide +kernel) rfl rfl ?_
        refine Wk.istore (i := 7) (q := 41) (by decide +kernel) (by decide) rfl (fun _ h => h) rfl ?_
        exact key2
  refine Wk.ldc (z := 2147483647) (q := 2) k_Swing_69 (by decide +kernel) (by decide +kernel) rfl ?_
  refine Wk.istore_n (k := 3) (q := 3) (by decide +kernel) rfl (by decide) rfl (fun _ h => h) rfl ?_
  refine Wk.aload_n (k := 0) (q := 4) (by decide +kernel) rfl rfl rfl ?_
  refine Wk.iload_n (k := 1) (q := 5) (by decide +kernel) rfl rfl rfl ?_
  refine Wk.iload_n (k := 2) (q := 6) (by decide +kernel) rfl rfl rfl ?_
  refine Wk.cSi (q := 9) l_Swing_27 m_Swing_firstX (by decide +kernel) (fun _ h => h) (Nat.le_of_ble_eq_true rfl) (Nat.le_of_ble_eq_true rfl) rfl (c_Swing_firstX (by omega) (by omega) (by omega) (by omega)) rfl ?_
  refine Wk.istore (i := 4) (q := 11) (by decide +kernel) (by decide) rfl (fun _ h => h) rfl ?_
  refine Wk.aload_n (k := 0) (q := 12) (by decide +kernel) rfl rfl rfl ?_
  refine Wk.iload_n (k := 1) (q := 13) (by decide +kernel) rfl rfl rfl ?_
  refine Wk.iload_n (k := 2) (q := 14) (by decide +kernel) rfl rfl rfl ?_
  refine Wk.cSi (q := 17) l_Swing_33 m_Swing_firstY (by decide +kernel) (fun _ h => h) (Nat.le_of_ble_eq_true rfl) (Nat.le_of_ble_eq_true rfl) rfl (c_Swing_firstY (by omega) (by omega) (by omega) (by omega)) rfl ?_
  refine Wk.istore (i := 5) (q := 19) (by decide +kernel) (by decide) rfl (fun _ h => h) rfl ?_
  refine Wk.iload (i := 5) (q := 21) (by decide +kernel) rfl rfl ?_
  refine Wk.istore (i := 6) (q := 23) (by decide +kernel) (by decide) rfl (fun _ h => h) rfl ?_
  exact key none
theorem c_Swing_leastWater {a F : Int} (h0 : 0 ≤ a) (h1 : a < I 1 4) (hF : 0 ≤ F ∧ F ≤ 255) (hC : CW I) : Wk xs x_Swing_leastWater (d + 3) 0 0 0 [some (vr 1), some (vi a), some (vi F), none, none] [] X2 I L (p2 fun v I' L' => (∃ z, v = some (vi z) ∧ MinOf 2147483647 (fun v => ∃ w cx cy, (0 ≤ w ∧ w < 8) ∧ bt F w = true ∧ cLO I a w cx cy ∧ v = cwat I cx cy) z ∧ 0 ≤ z ∧ z ≤ 2147483647) ∧ I' = I ∧ L' = L) := by
  have key : Wk xs x_Swing_leastWater (d + 3) 0 0 6 [some (vr 1), some (vi a), some (vi F), some (vi 2147483647), some (vi 0)] [] X2 I L (p2 fun v I' L' => (∃ z, v = some (vi z) ∧ MinOf 2147483647 (fun v => ∃ w cx cy, (0 ≤ w ∧ w < 8) ∧ bt F w = true ∧ cLO I a w cx cy ∧ v = cwat I cx cy) z ∧ 0 ≤ z ∧ z ≤ 2147483647) ∧ I' = I ∧ L' = L) := by
    refine loopS (σ := Int) (fun k m => Wk xs x_Swing_leastWater (d + 3) 0 0 6 [some (vr 1), some (vi a), some (vi F), some (vi m), some (vi k)] [] X2 I L (p2 fun v I' L' => (∃ z, v = some (vi z) ∧ MinOf 2147483647 (fun v => ∃ w cx cy, (0 ≤ w ∧ w < 8) ∧ bt F w = true ∧ cLO I a w cx cy ∧ v = cwat I cx cy) z ∧ 0 ≤ z ∧ z ≤ 2147483647) ∧ I' = I ∧ L' = L)) (fun k m => MinOf 2147483647 (fun v => ∃ w cx cy, (0 ≤ w ∧ w < k) ∧ bt F w = true ∧ cLO I a w cx cy ∧ v = cwat I cx cy) m ∧ 0 ≤ m ∧ m ≤ 2147483647) 8 0 2147483647 (by omega) ⟨MinOf.none (fun v hv => by obtain ⟨w, cx, cy, q1, q2⟩ := hv; omega), by omega, by omega⟩ ?_ ?_
    · intro m hJ
      refine Wk.iload (i := 4) (q := 8) (by decide +kernel) rfl rfl ?_
      refine Wk.bipush (n := 8) (q := 10) (by decide +kernel) (by decide +kernel) rfl ?_
      refine Wk.icmp_ge (off := (30)) (t := 40) (q := 13) (by decide +kernel) (by decide) rfl (by first | omega | exact bi_rng _) (by first | omega | exact bi_rng _) (fun hc10 => ?_) (fun hc10 => ?_)
      · refine Wk.iload_n (k := 3) (q := 41) (by decide +kernel) rfl rfl rfl ?_
        exact Wk.riP (by decide +kernel) rfl (⟨⟨m, rfl, hJ.1, hJ.2⟩, rfl, rfl⟩)
      · omega
    · intro k m k0 k1 hJ ih
      obtain ⟨hJ, hm0, hm1⟩ := hJ
      refine Wk.iload (i := 4) (q := 8) (by decide +kernel) rfl rfl ?_
      refine Wk.bipush (n := 8) (q := 10) (by decide +kernel) (by decide +kernel) rfl ?_
      refine Wk.icmp_ge (off := (30)) (t := 40) (q := 13) (by decide +kernel) (by decide) rfl (by first | omega | exact bi_rng _) (by first | omega | exact bi_rng _) (fun hc10 => ?_) (fun hc10 => ?_)
      · omega
      · refine Wk.iload_n (k := 2) (q := 14) (by decide +kernel) rfl rfl rfl ?_
        refine Wk.iload (i := 4) (q := 16) (by decide +kernel) rfl rfl ?_
        refine Wk.cSi (q := 19) l_Swing_43 m_Swing_blows (by decide +kernel) (fun _ h => h) (Nat.le_of_ble_eq_true rfl) (Nat.le_of_ble_eq_true rfl) rfl (c_Swing_blows (by omega) (by omega) (by omega) (by omega)) rfl ?_
        refine Wk.ifB_eq (off := (15)) (t := 34) (q := 22) (by decide +kernel) (by decide) rfl (fun hc19 => ?_) (fun hc19 => ?_)
        · refine Wk.iinc (i := 4) (n := 1) (q := 37) (by decide +kernel) rfl (by decide) rfl (fun _ h => h) rfl ?_
          refine Wk.goto (off := (-31)) (q := 6) (by decide +kernel) (by decide) ?_
          first
            | (refine ih m ⟨hJ.cong (fun v => ⟨fun ⟨w, cx, cy, q1, q2⟩ => ⟨w, cx, cy, by omega, q2⟩, fun ⟨w, cx, cy, q1, q2, q3⟩ => ⟨w, cx, cy, ?_, q2, q3⟩⟩), hm0, hm1⟩
               refine ⟨q1.1, ?_⟩
               rcases Classical.em (w = k) with e | e
               · rw [e] at q2
                 exact absurd q2 hc19
               · omega)
            | (have hzP : (fun v => ∃ cx cy, cLO I' a k cx cy ∧ v = cwat I' cx cy) z := by
                 rcases hz.2 with ⟨q, -⟩ | q
                 · omega
                 · exact q
               refine ih _ ⟨(hJ.join hz hzP (by omega)).cong (fun v => ⟨fun q => q.elim (fun ⟨w, cx, cy, q1, q2⟩ => ⟨w, cx, cy, by omega, q2⟩) (fun ⟨cx, cy, q1, q2⟩ => ⟨k, cx, cy, by omega, hc19, q1, q2⟩), fun ⟨w, cx, cy, q1, q2, q3⟩ => ?_⟩), ?_, ?_⟩
               · rcases Classical.em (w = k) with e | e
                 · subst e
                   exact Or.inr ⟨cx, cy, q3⟩
                 · exact Or.inl ⟨w, cx, cy, by omega, q2, q3⟩
               · split <;> omega
               · split <;> omega)
        · refine Wk.iload_n (k := 3) (q := 23) (by decide +kernel) rfl rfl rfl ?_
          refine Wk.aload_n (k := 0) (q := 24) (by decide +kernel) rfl rfl rfl ?_
          refine Wk.iload_n (k := 1) (q := 25) (by decide +kernel) rfl rfl rfl ?_
          refine Wk.iload (i := 4) (q := 27) (by decide +kernel) rfl rfl ?_
          refine Wk.cS (q := 30) l_Swing_70 m_Swing_leastWaterBy (by decide +kernel) (fun _ h => h) (Nat.le_of_ble_eq_true rfl) (Nat.le_of_ble_eq_true rfl) rfl (c_Swing_leastWaterBy h0 h1 k0 k1 hC) rfl (fun v I' L' hP => ?_)
          obtain ⟨⟨z, rfl, hz, hz0, hz1⟩, rfl, rfl⟩ := hP
          refine Wk.min (q := 33) l_Swing_73 (by decide +kernel) (by first | omega | exact bi_rng _) (by first | omega | exact bi_rng _) (Nat.le_of_ble_eq_true rfl) rfl ?_
          refine Wk.istore_n (k := 3) (q := 34) (by decide +kernel) rfl (by decide) rfl (fun _ h => h) rfl ?_
          refine Wk.iinc (i := 4) (n := 1) (q := 37) (by decide +kernel) rfl (by decide) rfl (fun _ h => h) rfl ?_
          refine Wk.goto (off := (-31)) (q := 6) (by decide +kernel) (by decide) ?_
          first
            | (refine ih m ⟨hJ.cong (fun v => ⟨fun ⟨w, cx, cy, q1, q2⟩ => ⟨w, cx, cy, by omega, q2⟩, fun ⟨w, cx, cy, q1, q2, q3⟩ => ⟨w, cx, cy, ?_, q2, q3⟩⟩), hm0, hm1⟩
               refine ⟨q1.1, ?_⟩
               rcases Classical.em (w = k) with e | e
               · rw [e] at q2
                 exact absurd q2 hc19
               · omega)
            | (have hzP : (fun v => ∃ cx cy, cLO I' a k cx cy ∧ v = cwat I' cx cy) z := by
                 rcases hz.2 with ⟨q, -⟩ | q
                 · omega
                 · exact q
               refine ih _ ⟨(hJ.join hz hzP (by omega)).cong (fun v => ⟨fun q => q.elim (fun ⟨w, cx, cy, q1, q2⟩ => ⟨w, cx, cy, by omega, q2⟩) (fun ⟨cx, cy, q1, q2⟩ => ⟨k, cx, cy, by omega, hc19, q1, q2⟩), fun ⟨w, cx, cy, q1, q2, q3⟩ => ?_⟩), ?_, ?_⟩
               · rcases Classical.em (w = k) with e | e
                 · subst e
                   exact Or.inr ⟨cx, cy, q3⟩
                 · exact Or.inl ⟨w, cx, cy, by omega, q2, q3⟩
               · split <;> omega
               · split <;> omega)
  refine Wk.ldc (z := 2147483647) (q := 2) k_Swing_69 (by decide +kernel) (by decide +kernel) rfl ?_
  refine Wk.istore_n (k := 3) (q := 3) (by decide +kernel) rfl (by decide) rfl (fun _ h => h) rfl ?_
  refine Wk.iconst (n := 0) (q := 4) (by decide +kernel) rfl ?_
  refine Wk.istore (i := 4) (q := 6) (by decide +kernel) (by decide) rfl (fun _ h => h) rfl ?_
  exact key
end SWH
end
section
/-! DANGER, THREATS, cells swept -/
theorem so_r5 (P : Int → Prop) {n : Nat} (h : n ≤ 5) : 0 ≤ so P n ∧ so P n < 32 := by
  have h1 := so_range P n
  have h2 : 2 ^ n ≤ 2 ^ 5 := Nat.pow_le_pow_right (by decide) h
  omega
theorem ml_iff {W H t : Int} {dep : Int → Int} {F dr ch sd x y : Int} (hd : 1 ≤ dr) : ML W H t dep F dr ch sd x y ↔ ∀ v, (∃ w cx cy, (0 ≤ w ∧ w < 8) ∧ bt F w = true ∧ LO ch sd x y w cx cy ∧ v = wat W H t dep cx cy) → dr ≤ v := by
  constructor
  · intro h v ⟨w, cx, cy, q1, q2, q3, q4⟩
    rw [q4]
    exact (h w cx cy q1.1 q1.2 q2 q3).2
  · intro h w cx cy q0 q1 q2 q3
    have h1 := h _ ⟨w, cx, cy, ⟨q0, q1⟩, q2, q3, rfl⟩
    refine ⟨Classical.not_not.mp (fun hn => ?_), h1⟩
    rw [wat_out hn] at h1
    omega
/-- IN DANGER, as a set, by winds F -/
abbrev cDP (I : IM) (F a : Int) : Prop := ¬ cML I F a ∨ ∃ b, (0 ≤ b ∧ b < I 1 4) ∧ ¬ b = a ∧ cCL I F a b
noncomputable def cDG (I : IM) (F : Int) : Int := so (cDP I F) (I 1 4).toNat
theorem cl_zero {I : IM} {F a : Int} : so (fun b => ¬ b = a ∧ cCL I F a b) (I 1 4).toNat = 0 ↔ ¬ ∃ b, (0 ≤ b ∧ b < I 1 4) ∧ ¬ b = a ∧ cCL I F a b := by
  rw [so_zero]
  constructor
  · intro h ⟨b, h1, h2⟩
    exact h b h1.1 (by omega) h2
  · intro h b h1 h2 h3
    exact h ⟨b, by omega, h3⟩
/-- one more wind -/
def orb (F w : Int) : Int := (nZ F ||| nZ (nZ 1 <<< (nZ w &&& 31)).toInt).toInt
theorem orb_dec : ∀ f, f < 256 → ∀ w, w < 8 → 0 ≤ orb (f : Nat) (w : Nat) ∧ orb (f : Nat) (w : Nat) ≤ 255 := by decide +kernel
theorem orb_range {F w : Int} (hF : 0 ≤ F ∧ F ≤ 255) (hw : 0 ≤ w ∧ w < 8) : 0 ≤ orb F w ∧ orb F w ≤ 255 := by
  have h := orb_dec F.toNat (by omega) w.toNat (by omega)
  rw [Int.toNat_of_nonneg hF.1, Int.toNat_of_nonneg hw.1] at h
  exact h
theorem cDG_range {I : IM} (h : I 1 4 ≤ 5) (F : Int) : 0 ≤ cDG I F ∧ cDG I F < 32 := so_r5 _ (by omega)
section SWI
variable {xs : RO} {d : Nat} {I : IM} {L : LM}

theorem c_Swing_liesWell {a F : Int} (h0 : 0 ≤ a) (h1 : a < I 1 4) (hF : 0 ≤ F ∧ F ≤ 255) (hC : CW I) : Wk xs x_Swing_liesWell (d + 4) 0 0 0 [some (vr 1), some (vi a), some (vi F)] [] X2 I L (pI (bi (cML I F a)) I L) := by
  obtain ⟨⟨hW, hH, -, -, hA, -, -⟩, hS, hP⟩ := id hC
  obtain ⟨hdr, hch, hsd⟩ := hS a (Or.inl ⟨h0, h1⟩)
  obtain ⟨hx, hy⟩ := hP a h0 h1
  refine Wk.aload_n (k := 0) (q := 1) (by decide +kernel) rfl rfl rfl ?_
  refine Wk.iload_n (k := 1) (q := 2) (by decide +kernel) rfl rfl rfl ?_
  refine Wk.iload_n (k := 2) (q := 3) (by decide +kernel) rfl rfl rfl ?_
  refine Wk.cS (q := 6) l_Swing_81 m_Swing_leastWater (by decide +kernel) (fun _ h => h) (Nat.le_of_ble_eq_true rfl) (Nat.le_of_ble_eq_true rfl) rfl (c_Swing_leastWater h0 h1 hF hC) rfl (fun v I' L' hP => ?_)
  obtain ⟨⟨z, rfl, hz, hz0, hz1⟩, rfl, rfl⟩ := hP
  have hg := (hz.ge (d := I' 3 a) (by omega)).trans (ml_iff hdr.1).symm
  refine Wk.aload_n (k := 0) (q := 7) (by decide +kernel) rfl rfl rfl ?_
  refine Wk.getR (r := 3) (q := 10) f_Swing_84 (by decide +kernel) O_1 (by decide) rfl rfl rfl ?_
  refine Wk.iload_n (k := 1) (q := 11) (by decide +kernel) rfl rfl rfl ?_
  refine Wk.iaload (q := 12) (by decide +kernel) A_3 (by first | omega | exact bi_rng _) (by first | omega | exact bi_rng _) rfl ?_
  refine Wk.icmp_lt (off := (7)) (t := 19) (q := 15) (by decide +kernel) (by decide) rfl (by first | omega | exact bi_rng _) (by first | omega | exact bi_rng _) (fun hc12 => ?_) (fun hc12 => ?_)
  · refine Wk.iconst (n := 0) (q := 20) (by decide +kernel) rfl ?_
    exact Wk.rZ (by decide +kernel) rfl (by first | omega | decide | exact bi_01 _) (by first | (rw [bi_f (fun q => by have := hg.mpr q; omega)]; done) | (rw [bi_t (hg.mp (by omega))]; done))
  · refine Wk.iconst (n := 1) (q := 16) (by decide +kernel) rfl ?_
    refine Wk.goto (off := (4)) (q := 20) (by decide +kernel) (by decide) ?_
    exact Wk.rZ (by decide +kernel) rfl (by first | omega | decide | exact bi_01 _) (by first | (rw [bi_f (fun q => by have := hg.mpr q; omega)]; done) | (rw [bi_t (hg.mp (by omega))]; done))
theorem c_Swing_inDanger {F : Int} (hF : 0 ≤ F ∧ F ≤ 255) (hC : CW I) : Wk xs x_Swing_inDanger (d + 5) 0 0 0 [some (vr 1), some (vi F), none, none] [] X2 I L (pI (cDG I F) I L) := by
  have hA : 0 ≤ I 1 4 ∧ I 1 4 ≤ 5 := hC.1.2.2.2.2.1
  have key : Wk xs x_Swing_inDanger (d + 5) 0 0 4 [some (vr 1), some (vi F), some (vi (so (cDP I F) (0 : Int).toNat)), some (vi 0)] [] X2 I L (pI (cDG I F) I L) := by
    refine loopI (fun k => Wk xs x_Swing_inDanger (d + 5) 0 0 4 [some (vr 1), some (vi F), some (vi (so (cDP I F) k.toNat)), some (vi k)] [] X2 I L (pI (cDG I F) I L)) (I 1 4) 0 (by omega) ?_ ?_
    · refine Wk.iload_n (k := 3) (q := 5) (by decide +kernel) rfl rfl rfl ?_
      refine Wk.aload_n (k := 0) (q := 6) (by decide +kernel) rfl rfl rfl ?_
      refine Wk.getI (z := 4) (q := 9) f_Swing_58 (by decide +kernel) O_1 (by decide) rfl rfl rfl ?_
      refine Wk.icmp_ge (off := (33)) (t := 42) (q := 12) (by decide +kernel) (by decide) rfl (by first | omega | exact bi_rng _) (by first | omega | exact bi_rng _) (fun hc9 => ?_) (fun hc9 => ?_)
      · refine Wk.iload_n (k := 2) (q := 43) (by decide +kernel) rfl rfl rfl ?_
        exact Wk.rI (by decide +kernel) rfl (rfl)
      · omega
    · intro k k0 k1 ih
      have hs := so_range (cDP I F) k.toNat
      rw [so_step _ k0] at ih
      refine Wk.iload_n (k := 3) (q := 5) (by decide +kernel) rfl rfl rfl ?_
      refine Wk.aload_n (k := 0) (q := 6) (by decide +kernel) rfl rfl rfl ?_
      refine Wk.getI (z := 4) (q := 9) f_Swing_58 (by decide +kernel) O_1 (by decide) rfl rfl rfl ?_
      refine Wk.icmp_ge (off := (33)) (t := 42) (q := 12) (by decide +kernel) (by decide) rfl (by first | omega | exact bi_rng _) (by first | omega | exact bi_rng _) (fun hc9 => ?_) (fun hc9 => ?_)
      · omega
      · refine Wk.aload_n (k := 0) (q := 13) (by decide +kernel) rfl rfl rfl ?_
        refine Wk.iload_n (k := 3) (q := 14) (by decide +kernel) rfl rfl rfl ?_
        refine Wk.iload_n (k := 1) (q := 15) (by decide +kernel) rfl rfl rfl ?_
        refine Wk.cSi (q := 18) l_Swing_103 m_Swing_liesWell (by decide +kernel) (fun _ h => h) (Nat.le_of_ble_eq_true rfl) (Nat.le_of_ble_eq_true rfl) rfl (c_Swing_liesWell k0 k1 hF hC) rfl ?_
        refine Wk.ifB_eq (off := (12)) (t := 30) (q := 21) (by decide +kernel) (by decide) rfl (fun hc18 => ?_) (fun hc18 => ?_)
        · refine Wk.iload_n (k := 2) (q := 31) (by decide +kernel) rfl rfl rfl ?_
          refine Wk.iconst (n := 1) (q := 32) (by decide +kernel) rfl ?_
          refine Wk.iload_n (k := 3) (q := 33) (by decide +kernel) rfl rfl rfl ?_
          refine Wk.ishl (q := 34) (by decide +kernel) rfl ?_
          refine Wk.ior (q := 35) (by decide +kernel) rfl ?_
          refine Wk.istore_n (k := 2) (q := 36) (by decide +kernel) rfl (by decide) rfl (fun _ h => h) rfl ?_
          refine Wk.iinc (i := 3) (n := 1) (q := 39) (by decide +kernel) rfl (by decide) rfl (fun _ h => h) rfl ?_
          refine Wk.goto (off := (-35)) (q := 4) (by decide +kernel) (by decide) ?_
          first
            | (rw [or_above hs.1 hs.2 k0 (by omega)]
               first
                 | (rw [bi_t (Or.inl hc18), Int.one_mul] at ih; exact ih)
                 | (rw [bi_t (Or.inr (Classical.not_not.mp (fun z => hc27 (cl_zero.mpr z)))), Int.one_mul] at ih; exact ih))
            | (rw [bi_f (fun z => by rcases z with z | z; exact z hc18; exact (cl_zero.mp hc27) z), Int.zero_mul, Int.add_zero] at ih
               exact ih)
        · refine Wk.aload_n (k := 0) (q := 22) (by decide +kernel) rfl rfl rfl ?_
          refine Wk.iload_n (k := 3) (q := 23) (by decide +kernel) rfl rfl rfl ?_
          refine Wk.iload_n (k := 1) (q := 24) (by decide +kernel) rfl rfl rfl ?_
          refine Wk.cSi (q := 27) l_Swing_94 m_Swing_clashesOf (by decide +kernel) (fun _ h => h) (Nat.le_of_ble_eq_true rfl) (Nat.le_of_ble_eq_true rfl) rfl (c_Swing_clashesOf k0 k1 hF hC) rfl ?_
          refine Wk.if_eq (off := (9)) (t := 36) (q := 30) (by decide +kernel) (by decide) rfl (by have := so_r5 (fun b => ¬ b = k ∧ cCL I F k b) (n := (I 1 4).toNat) (by omega); omega) (fun hc27 => ?_) (fun hc27 => ?_)
          · refine Wk.iinc (i := 3) (n := 1) (q := 39) (by decide +kernel) rfl (by decide) rfl (fun _ h => h) rfl ?_
            refine Wk.goto (off := (-35)) (q := 4) (by decide +kernel) (by decide) ?_
            first
              | (rw [or_above hs.1 hs.2 k0 (by omega)]
                 first
                   | (rw [bi_t (Or.inl hc18), Int.one_mul] at ih; exact ih)
                   | (rw [bi_t (Or.inr (Classical.not_not.mp (fun z => hc27 (cl_zero.mpr z)))), Int.one_mul] at ih; exact ih))
              | (rw [bi_f (fun z => by rcases z with z | z; exact z hc18; exact (cl_zero.mp hc27) z), Int.zero_mul, Int.add_zero] at ih
                 exact ih)
          · refine Wk.iload_n (k := 2) (q := 31) (by decide +kernel) rfl rfl rfl ?_
            refine Wk.iconst (n := 1) (q := 32) (by decide +kernel) rfl ?_
            refine Wk.iload_n (k := 3) (q := 33) (by decide +kernel) rfl rfl rfl ?_
            refine Wk.ishl (q := 34) (by decide +kernel) rfl ?_
            refine Wk.ior (q := 35) (by decide +kernel) rfl ?_
            refine Wk.istore_n (k := 2) (q := 36) (by decide +kernel) rfl (by decide) rfl (fun _ h => h) rfl ?_
            refine Wk.iinc (i := 3) (n := 1) (q := 39) (by decide +kernel) rfl (by decide) rfl (fun _ h => h) rfl ?_
            refine Wk.goto (off := (-35)) (q := 4) (by decide +kernel) (by decide) ?_
            first
              | (rw [or_above hs.1 hs.2 k0 (by omega)]
                 first
                   | (rw [bi_t (Or.inl hc18), Int.one_mul] at ih; exact ih)
                   | (rw [bi_t (Or.inr (Classical.not_not.mp (fun z => hc27 (cl_zero.mpr z)))), Int.one_mul] at ih; exact ih))
              | (rw [bi_f (fun z => by rcases z with z | z; exact z hc18; exact (cl_zero.mp hc27) z), Int.zero_mul, Int.add_zero] at ih
                 exact ih)
  refine Wk.iconst (n := 0) (q := 1) (by decide +kernel) rfl ?_
  refine Wk.istore_n (k := 2) (q := 2) (by decide +kernel) rfl (by decide) rfl (fun _ h => h) rfl ?_
  refine Wk.iconst (n := 0) (q := 3) (by decide +kernel) rfl ?_
  refine Wk.istore_n (k := 3) (q := 4) (by decide +kernel) rfl (by decide) rfl (fun _ h => h) rfl ?_
  exact key
theorem c_Swing_threats (hC : CW I) : Wk xs x_Swing_threats (d + 6) 0 0 0 [some (vr 1), none, none, none, none] [] X2 I L (pI (so (fun w => ¬ orb (I 1 3) w = I 1 3 ∧ ¬ cDG I (orb (I 1 3) w) = cDG I (I 1 3)) 8) I L) := by
  have hA : 0 ≤ I 1 4 ∧ I 1 4 ≤ 5 := hC.1.2.2.2.2.1
  have hF : 1 ≤ I 1 3 ∧ I 1 3 ≤ 255 := hC.1.2.2.2.1
  have hd0 := cDG_range hA.2 (I 1 3)
  have key : Wk xs x_Swing_threats (d + 6) 0 0 13 [some (vr 1), some (vi (cDG I (I 1 3))), some (vi (so (fun w => ¬ orb (I 1 3) w = I 1 3 ∧ ¬ cDG I (orb (I 1 3) w) = cDG I (I 1 3)) (0 : Int).toNat)), some (vi 0), none] [] X2 I L (pI (so (fun w => ¬ orb (I 1 3) w = I 1 3 ∧ ¬ cDG I (orb (I 1 3) w) = cDG I (I 1 3)) 8) I L) := by
    refine loopS (σ := Option AV) (fun k s => Wk xs x_Swing_threats (d + 6) 0 0 13 [some (vr 1), some (vi (cDG I (I 1 3))), some (vi (so (fun w => ¬ orb (I 1 3) w = I 1 3 ∧ ¬ cDG I (orb (I 1 3) w) = cDG I (I 1 3)) k.toNat)), some (vi k), s] [] X2 I L (pI (so (fun w => ¬ orb (I 1 3) w = I 1 3 ∧ ¬ cDG I (orb (I 1 3) w) = cDG I (I 1 3)) 8) I L)) (fun _ _ => True) 8 0 none (by omega) trivial ?_ ?_
    · intro s _
      refine Wk.iload_n (k := 3) (q := 14) (by decide +kernel) rfl rfl rfl ?_
      refine Wk.bipush (n := 8) (q := 16) (by decide +kernel) (by decide +kernel) rfl ?_
      refine Wk.icmp_ge (off := (44)) (t := 60) (q := 19) (by decide +kernel) (by decide) rfl (by first | omega | exact bi_rng _) (by first | omega | exact bi_rng _) (fun hc16 => ?_) (fun hc16 => ?_)
      · refine Wk.iload_n (k := 2) (q := 61) (by decide +kernel) rfl rfl rfl ?_
        exact Wk.rI (by decide +kernel) rfl (rfl)
      · omega
    · intro k s k0 k1 _ ih
      have hs := so_range (fun w => ¬ orb (I 1 3) w = I 1 3 ∧ ¬ cDG I (orb (I 1 3) w) = cDG I (I 1 3)) k.toNat
      have ho := orb_range (F := I 1 3) (w := k) (by omega) (by omega)
      have hd1 := cDG_range hA.2 (orb (I 1 3) k)
      rw [so_step _ k0] at ih
      refine Wk.iload_n (k := 3) (q := 14) (by decide +kernel) rfl rfl rfl ?_
      refine Wk.bipush (n := 8) (q := 16) (by decide +kernel) (by decide +kernel) rfl ?_
      refine Wk.icmp_ge (off := (44)) (t := 60) (q := 19) (by decide +kernel) (by decide) rfl (by first | omega | exact bi_rng _) (by first | omega | exact bi_rng _) (fun hc16 => ?_) (fun hc16 => ?_)
      · omega
      · refine Wk.aload_n (k := 0) (q := 20) (by decide +kernel) rfl rfl rfl ?_
        refine Wk.getI (z := 3) (q := 23) f_Swing_39 (by decide +kernel) O_1 (by decide) rfl rfl rfl ?_
        refine Wk.iconst (n := 1) (q := 24) (by decide +kernel) rfl ?_
        refine Wk.iload_n (k := 3) (q := 25) (by decide +kernel) rfl rfl rfl ?_
        refine Wk.ishl (q := 26) (by decide +kernel) rfl ?_
        refine Wk.ior (q := 27) (by decide +kernel) rfl ?_
        refine Wk.istore (i := 4) (q := 29) (by decide +kernel) (by decide) rfl (fun _ h => h) rfl ?_
        rw [show (nZ (I 1 3) ||| nZ (nZ 1 <<< (nZ k &&& 31)).toInt).toInt = orb (I 1 3) k from rfl]
        refine Wk.iload (i := 4) (q := 31) (by decide +kernel) rfl rfl ?_
        refine Wk.aload_n (k := 0) (q := 32) (by decide +kernel) rfl rfl rfl ?_
        refine Wk.getI (z := 3) (q := 35) f_Swing_39 (by decide +kernel) O_1 (by decide) rfl rfl rfl ?_
        refine Wk.icmp_eq (off := (19)) (t := 54) (q := 38) (by decide +kernel) (by decide) rfl (by first | omega | exact ⟨by have := ho.1; omega, by have := ho.2; omega⟩) (by first | omega | exact ⟨by have := ho.1; omega, by have := ho.2; omega⟩) (fun hc35 => ?_) (fun hc35 => ?_)
        · refine Wk.iinc (i := 3) (n := 1) (q := 57) (by decide +kernel) rfl (by decide) rfl (fun _ h => h) rfl ?_
          refine Wk.goto (off := (-44)) (q := 13) (by decide +kernel) (by decide) ?_
          first
            | (rw [or_above hs.1 hs.2 k0 (by omega)]
               rw [bi_t ⟨hc35, hc45⟩, Int.one_mul] at ih
               exact ih _ trivial)
            | (rw [bi_f (fun z => by first | exact z.1 hc35 | exact z.2 hc45), Int.zero_mul, Int.add_zero] at ih
               exact ih _ trivial)
        · refine Wk.aload_n (k := 0) (q := 39) (by decide +kernel) rfl rfl rfl ?_
          refine Wk.iload (i := 4) (q := 41) (by decide +kernel) rfl rfl ?_
          refine Wk.cSi (q := 44) l_Swing_107 m_Swing_inDanger (by decide +kernel) (fun _ h => h) (Nat.le_of_ble_eq_true rfl) (Nat.le_of_ble_eq_true rfl) rfl (c_Swing_inDanger ho hC) rfl ?_
          refine Wk.iload_n (k := 1) (q := 45) (by decide +kernel) rfl rfl rfl ?_
          refine Wk.icmp_eq (off := (9)) (t := 54) (q := 48) (by decide +kernel) (by decide) rfl (by first | omega | exact bi_rng _) (by first | omega | exact bi_rng _) (fun hc45 => ?_) (fun hc45 => ?_)
          · refine Wk.iinc (i := 3) (n := 1) (q := 57) (by decide +kernel) rfl (by decide) rfl (fun _ h => h) rfl ?_
            refine Wk.goto (off := (-44)) (q := 13) (by decide +kernel) (by decide) ?_
            first
              | (rw [or_above hs.1 hs.2 k0 (by omega)]
                 rw [bi_t ⟨hc35, hc45⟩, Int.one_mul] at ih
                 exact ih _ trivial)
              | (rw [bi_f (fun z => by first | exact z.1 hc35 | exact z.2 hc45), Int.zero_mul, Int.add_zero] at ih
                 exact ih _ trivial)
          · refine Wk.iload_n (k := 2) (q := 49) (by decide +kernel) rfl rfl rfl ?_
            refine Wk.iconst (n := 1) (q := 50) (by decide +kernel) rfl ?_
            refine Wk.iload_n (k := 3) (q := 51) (by decide +kernel) rfl rfl rfl ?_
            refine Wk.ishl (q := 52) (by decide +kernel) rfl ?_
            refine Wk.ior (q := 53) (by decide +kernel) rfl ?_
            refine Wk.istore_n (k := 2) (q := 54) (by decide +kernel) rfl (by decide) rfl (fun _ h => h) rfl ?_
            refine Wk.iinc (i := 3) (n := 1) (q := 57) (by decide +kernel) rfl (by decide) rfl (fun _ h => h) rfl ?_
            refine Wk.goto (off := (-44)) (q := 13) (by decide +kernel) (by decide) ?_
            first
              | (rw [or_above hs.1 hs.2 k0 (by omega)]
                 rw [bi_t ⟨hc35, hc45⟩, Int.one_mul] at ih
                 exact ih _ trivial)
              | (rw [bi_f (fun z => by first | exact z.1 hc35 | exact z.2 hc45), Int.zero_mul, Int.add_zero] at ih
                 exact ih _ trivial)
  refine Wk.aload_n (k := 0) (q := 1) (by decide +kernel) rfl rfl rfl ?_
  refine Wk.aload_n (k := 0) (q := 2) (by decide +kernel) rfl rfl rfl ?_
  refine Wk.getI (z := 3) (q := 5) f_Swing_39 (by decide +kernel) O_1 (by decide) rfl rfl rfl ?_
  refine Wk.cSi (q := 8) l_Swing_107 m_Swing_inDanger (by decide +kernel) (fun _ h => h) (Nat.le_of_ble_eq_true rfl) (Nat.le_of_ble_eq_true rfl) rfl (c_Swing_inDanger (by omega) hC) rfl ?_
  refine Wk.istore_n (k := 1) (q := 9) (by decide +kernel) rfl (by decide) rfl (fun _ h => h) rfl ?_
  refine Wk.iconst (n := 0) (q := 10) (by decide +kernel) rfl ?_
  refine Wk.istore_n (k := 2) (q := 11) (by decide +kernel) rfl (by decide) rfl (fun _ h => h) rfl ?_
  refine Wk.iconst (n := 0) (q := 12) (by decide +kernel) rfl ?_
  refine Wk.istore_n (k := 3) (q := 13) (by decide +kernel) rfl (by decide) rfl (fun _ h => h) rfl ?_
  exact key
end SWI
end
section
/-! CELLS SWEPT, as bits of a long: bit y * 8 + x -/
/-- the spots of a long are just those with P -/
def LB (v : Int64) (P : Int → Int → Prop) : Prop := ∀ s, 0 ≤ s → s < 64 → (bl v s = true ↔ P (s % 8) (s / 8))
theorem LB.zero {P : Int → Int → Prop} (h : ∀ x y, ¬ P x y) : LB 0 P := fun s _ _ => by rw [bl_0]; exact ⟨fun z => (by cases z), fun z => absurd z (h _ _)⟩
theorem LB.cong {v : Int64} {P Q : Int → Int → Prop} (h : LB v P) (e : ∀ x y, 0 ≤ x → x < 8 → 0 ≤ y → y < 8 → (P x y ↔ Q x y)) : LB v Q := fun s h0 h1 => (h s h0 h1).trans (e _ _ (by omega) (by omega) (by omega) (by omega))
theorem LB.or {v u : Int64} {P Q : Int → Int → Prop} (h : LB v P) (g : LB u Q) : LB (v ||| u) (fun x y => P x y ∨ Q x y) := fun s h0 h1 => by
  rw [bl_or, Bool.or_eq_true, h s h0 h1, g s h0 h1]
theorem LB.and {v u : Int64} {P Q : Int → Int → Prop} (h : LB v P) (g : LB u Q) : LB (v &&& u) (fun x y => P x y ∧ Q x y) := fun s h0 h1 => by
  rw [bl_and, Bool.and_eq_true, h s h0 h1, g s h0 h1]
theorem LB.not {v : Int64} {P : Int → Int → Prop} (h : LB v P) : LB (v ^^^ (-1)) (fun x y => ¬ P x y) := fun s h0 h1 => by
  have := h s h0 h1
  rw [bl_not v h0 h1, Bool.not_eq_true']
  constructor
  · intro e q
    rw [this.mpr q] at e
    cases e
  · intro q
    cases hb : bl v s with
    | false => rfl
    | true => exact absurd (this.mp hb) q
theorem LB.one {x y : Int} (hx : 0 ≤ x ∧ x < 8) (hy : 0 ≤ y ∧ y < 8) : LB ((1 : Int64) <<< ((nZ (y * 8 + x)).toInt64 &&& 63)) (fun cx cy => cx = x ∧ cy = y) := fun s h0 h1 => by
  rw [bl_one (by omega) (by omega) h0 h1, decide_eq_true_eq]
  omega
theorem LB.at {v : Int64} {P : Int → Int → Prop} (h : LB v P) {x y : Int} (hx : 0 ≤ x ∧ x < 8) (hy : 0 ≤ y ∧ y < 8) : bl v (y * 8 + x) = true ↔ P x y := by
  rw [h _ (by omega) (by omega)]
  have e1 : (y * 8 + x) % 8 = x := by omega
  have e2 : (y * 8 + x) / 8 = y := by omega
  rw [e1, e2]
theorem LB.uniq {v u : Int64} {P : Int → Int → Prop} (h : LB v P) (g : LB u P) : v = u := bl_ext fun i h0 h1 => Bool.eq_iff_iff.mpr ((h i h0 h1).trans (g i h0 h1).symm)
theorem LB.zero_iff {v : Int64} {P : Int → Int → Prop} (h : LB v P) : v = 0 ↔ ∀ x y, 0 ≤ x → x < 8 → 0 ≤ y → y < 8 → ¬ P x y := by
  rw [bl_zero]
  constructor
  · intro z x y a b c e q
    have := (h.at ⟨a, b⟩ ⟨c, e⟩).mpr q
    rw [z _ (by omega) (by omega)] at this
    cases this
  · intro z i h0 h1
    cases hb : bl v i with
    | false => rfl
    | true => exact absurd ((h i h0 h1).mp hb) (z _ _ (by omega) (by omega) (by omega) (by omega))
/-- an end: a long of which P holds, the memory as it was -/
def pLB (P : Int → Int → Prop) (I : IM) (L : LM) : Option AV → LY → IM → LM → Prop := p2 fun v I' L' => (∃ u : Int64, v = some (vl u) ∧ LB u P) ∧ I' = I ∧ L' = L
section SWJ
variable {xs : RO} {d : Nat} {I : IM} {L : LM}

theorem c_Swing_lainOn {a w : Int} (h0 : 0 ≤ a) (h1 : a < I 1 4) (h2 : 0 ≤ w) (h3 : w < 8) (hC : CW I) : Wk xs x_Swing_lainOn (d + 1) 0 0 0 [some (vr 1), some (vi a), some (vi w), none, none, none, none, none, none] [] X2 I L (pLB (fun cx cy => inE (I 1 0) (I 1 1) cx cy ∧ cLO I a w cx cy) I L) := by
  obtain ⟨⟨hW, hH, -, -, hA, -, -⟩, hS, hP⟩ := id hC
  obtain ⟨hdr, hch, hsd⟩ := hS a (Or.inl ⟨h0, h1⟩)
  obtain ⟨hx, hy⟩ := hP a h0 h1
  have m1 := mulB hch (windX_r w)
  have m2 := mulB hch (windY_r w)
  have key : ∀ o8 : Option AV, Wk xs x_Swing_lainOn (d + 1) 0 0 22 [some (vr 1), some (vi a), some (vi w), some (vl 0), none, some (vi (I 6 a + I 4 a * windX w)), some (vi (I 7 a + I 4 a * windY w)), some (vi (I 7 a + I 4 a * windY w)), o8] [] X2 I L (pLB (fun cx cy => inE (I 1 0) (I 1 1) cx cy ∧ cLO I a w cx cy) I L) := by
    intro o8
    refine loopS (σ := Int64 × Option AV) (fun y s => Wk xs x_Swing_lainOn (d + 1) 0 0 22 [some (vr 1), some (vi a), some (vi w), some (vl s.1), none, some (vi (I 6 a + I 4 a * windX w)), some (vi (I 7 a + I 4 a * windY w)), some (vi y), s.2] [] X2 I L (pLB (fun cx cy => inE (I 1 0) (I 1 1) cx cy ∧ cLO I a w cx cy) I L)) (fun y s => LB s.1 (fun cx cy => inE (I 1 0) (I 1 1) cx cy ∧ ((I 6 a + I 4 a * windX w) ≤ cx ∧ cx < (I 6 a + I 4 a * windX w) + I 5 a) ∧ (I 7 a + I 4 a * windY w) ≤ cy ∧ cy < y)) ((I 7 a + I 4 a * windY w) + I 5 a) (I 7 a + I 4 a * windY w) (0, o8) (by omega) (LB.zero (fun x y q => by omega)) ?_ ?_
    · intro s hJ
      obtain ⟨u, o9⟩ := s
      simp only at hJ ⊢
      refine Wk.iload (i := 7) (q := 24) (by decide +kernel) rfl rfl ?_
      refine Wk.iload (i := 6) (q := 26) (by decide +kernel) rfl rfl ?_
      refine Wk.aload_n (k := 0) (q := 27) (by decide +kernel) rfl rfl rfl ?_
      refine Wk.getR (r := 5) (q := 30) f_Swing_36 (by decide +kernel) O_1 (by decide) rfl rfl rfl ?_
      refine Wk.iload_n (k := 1) (q := 31) (by decide +kernel) rfl rfl rfl ?_
      refine Wk.iaload (q := 32) (by decide +kernel) A_5 (by first | omega | exact bi_rng _) (by first | omega | exact bi_rng _) rfl ?_
      refine Wk.iadd (q := 33) (by decide +kernel) rfl ?_
      refine Wk.icmp_ge (off := (56)) (t := 89) (q := 36) (by decide +kernel) (by decide) rfl (by first | omega | exact bi_rng _) (by first | omega | exact bi_rng _) (fun hc33 => ?_) (fun hc33 => ?_)
      · refine Wk.lload_n (k := 3) (q := 90) (by decide +kernel) rfl rfl rfl ?_
        exact Wk.rlP (by decide +kernel) rfl (⟨⟨u, rfl, hJ.cong (fun cx cy _ _ _ _ => by unfold cLO LO; exact Iff.rfl)⟩, rfl, rfl⟩)
      · omega
    · intro y s y0 y1 hJ ih
      obtain ⟨u, o9⟩ := s
      simp only at hJ ⊢
      refine Wk.iload (i := 7) (q := 24) (by decide +kernel) rfl rfl ?_
      refine Wk.iload (i := 6) (q := 26) (by decide +kernel) rfl rfl ?_
      refine Wk.aload_n (k := 0) (q := 27) (by decide +kernel) rfl rfl rfl ?_
      refine Wk.getR (r := 5) (q := 30) f_Swing_36 (by decide +kernel) O_1 (by decide) rfl rfl rfl ?_
      refine Wk.iload_n (k := 1) (q := 31) (by decide +kernel) rfl rfl rfl ?_
      refine Wk.iaload (q := 32) (by decide +kernel) A_5 (by first | omega | exact bi_rng _) (by first | omega | exact bi_rng _) rfl ?_
      refine Wk.iadd (q := 33) (by decide +kernel) rfl ?_
      refine Wk.icmp_ge (off := (56)) (t := 89) (q := 36) (by decide +kernel) (by decide) rfl (by first | omega | exact bi_rng _) (by first | omega | exact bi_rng _) (fun hc33 => ?_) (fun hc33 => ?_)
      · omega
      · have key2 : Wk xs x_Swing_lainOn (d + 1) 0 0 40 [some (vr 1), some (vi a), some (vi w), some (vl u), none, some (vi (I 6 a + I 4 a * windX w)), some (vi (I 7 a + I 4 a * windY w)), some (vi y), some (vi (I 6 a + I 4 a * windX w))] [] X2 I L (pLB (fun cx cy => inE (I 1 0) (I 1 1) cx cy ∧ cLO I a w cx cy) I L) := by
          refine loopS (σ := Int64) (fun x u => Wk xs x_Swing_lainOn (d + 1) 0 0 40 [some (vr 1), some (vi a), some (vi w), some (vl u), none, some (vi (I 6 a + I 4 a * windX w)), some (vi (I 7 a + I 4 a * windY w)), some (vi y), some (vi x)] [] X2 I L (pLB (fun cx cy => inE (I 1 0) (I 1 1) cx cy ∧ cLO I a w cx cy) I L)) (fun x u => LB u (fun cx cy => inE (I 1 0) (I 1 1) cx cy ∧ ((((I 6 a + I 4 a * windX w) ≤ cx ∧ cx < (I 6 a + I 4 a * windX w) + I 5 a) ∧ (I 7 a + I 4 a * windY w) ≤ cy ∧ cy < y) ∨ (((I 6 a + I 4 a * windX w) ≤ cx ∧ cx < x) ∧ cy = y)))) ((I 6 a + I 4 a * windX w) + I 5 a) (I 6 a + I 4 a * windX w) u (by omega) (hJ.cong (fun cx cy _ _ _ _ => by constructor <;> intro q <;> refine ⟨q.1, ?_⟩ <;> omega)) ?_ ?_
          · intro u hM
            refine Wk.iload (i := 8) (q := 42) (by decide +kernel) rfl rfl ?_
            refine Wk.iload (i := 5) (q := 44) (by decide +kernel) rfl rfl ?_
            refine Wk.aload_n (k := 0) (q := 45) (by decide +kernel) rfl rfl rfl ?_
            refine Wk.getR (r := 5) (q := 48) f_Swing_36 (by decide +kernel) O_1 (by decide) rfl rfl rfl ?_
            refine Wk.iload_n (k := 1) (q := 49) (by decide +kernel) rfl rfl rfl ?_
            refine Wk.iaload (q := 50) (by decide +kernel) A_5 (by first | omega | exact bi_rng _) (by first | omega | exact bi_rng _) rfl ?_
            refine Wk.iadd (q := 51) (by decide +kernel) rfl ?_
            refine Wk.icmp_ge (off := (32)) (t := 83) (q := 54) (by decide +kernel) (by decide) rfl (by first | omega | exact bi_rng _) (by first | omega | exact bi_rng _) (fun hc51 => ?_) (fun hc51 => ?_)
            · refine Wk.iinc (i := 7) (n := 1) (q := 86) (by decide +kernel) rfl (by decide) rfl (fun _ h => h) rfl ?_
              refine Wk.goto (off := (-64)) (q := 22) (by decide +kernel) (by decide) ?_
              exact ih (u, _) (hM.cong (fun cx cy _ _ _ _ => by constructor <;> intro q <;> refine ⟨q.1, ?_⟩ <;> omega))
            · omega
          · intro x u x0 x1 hM ih2
            refine Wk.iload (i := 8) (q := 42) (by decide +kernel) rfl rfl ?_
            refine Wk.iload (i := 5) (q := 44) (by decide +kernel) rfl rfl ?_
            refine Wk.aload_n (k := 0) (q := 45) (by decide +kernel) rfl rfl rfl ?_
            refine Wk.getR (r := 5) (q := 48) f_Swing_36 (by decide +kernel) O_1 (by decide) rfl rfl rfl ?_
            refine Wk.iload_n (k := 1) (q := 49) (by decide +kernel) rfl rfl rfl ?_
            refine Wk.iaload (q := 50) (by decide +kernel) A_5 (by first | omega | exact bi_rng _) (by first | omega | exact bi_rng _) rfl ?_
            refine Wk.iadd (q := 51) (by decide +kernel) rfl ?_
            refine Wk.icmp_ge (off := (32)) (t := 83) (q := 54) (by decide +kernel) (by decide) rfl (by first | omega | exact bi_rng _) (by first | omega | exact bi_rng _) (fun hc51 => ?_) (fun hc51 => ?_)
            · omega
            · refine Wk.aload_n (k := 0) (q := 55) (by decide +kernel) rfl rfl rfl ?_
              refine Wk.iload (i := 8) (q := 57) (by decide +kernel) rfl rfl ?_
              refine Wk.iload (i := 7) (q := 59) (by decide +kernel) rfl rfl ?_
              refine Wk.cVi (q := 62) l_Swing_51 m_Harb_hasCell (by decide +kernel) (fun _ h => h) O_1 rfl (Nat.le_of_ble_eq_true rfl) (Nat.le_of_ble_eq_true rfl) rfl (c_Harb_hasCell (by omega) (by omega) (by omega) (by omega)) rfl ?_
              refine Wk.ifB_eq (off := (15)) (t := 77) (q := 65) (by decide +kernel) (by decide) rfl (fun hc62 => ?_) (fun hc62 => ?_)
              · refine Wk.iinc (i := 8) (n := 1) (q := 80) (by decide +kernel) rfl (by decide) rfl (fun _ h => h) rfl ?_
                refine Wk.goto (off := (-40)) (q := 40) (by decide +kernel) (by decide) ?_
                first
                  | (refine ih2 _ (hM.cong (fun cx cy _ _ _ _ => ⟨fun q => ⟨q.1, by omega⟩, fun q => ⟨q.1, ?_⟩⟩))
                     have q1 := q.1
                     unfold inE at q1
                     omega)
                  | (refine ih2 _ ((hM.or (LB.one (x := x) (y := y) (by omega) (by omega))).cong (fun cx cy _ _ _ _ => ⟨fun q => ?_, fun q => ?_⟩))
                     · rcases q with q | ⟨rfl, rfl⟩
                       · exact ⟨q.1, by omega⟩
                       · exact ⟨hc62, by omega⟩
                     · rcases Classical.em (cx = x ∧ cy = y) with e | e
                       · exact Or.inr e
                       · exact Or.inl ⟨q.1, by omega⟩)
              · refine Wk.lload_n (k := 3) (q := 66) (by decide +kernel) rfl rfl rfl ?_
                refine Wk.lconst (n := 1) (v := 1) (q := 67) (by decide +kernel) rfl rfl ?_
                refine Wk.iload (i := 8) (q := 69) (by decide +kernel) rfl rfl ?_
                refine Wk.iload (i := 7) (q := 71) (by decide +kernel) rfl rfl ?_
                refine Wk.cNi (q := 74) ln_Swing_54 m_Sw_spotAt (by decide +kernel) (fun _ h => h) (Nat.le_of_ble_eq_true rfl) (Nat.le_of_ble_eq_true rfl) rfl (c_Sw_spotAt) rfl ?_
                refine Wk.lshl (q := 75) (by decide +kernel) rfl ?_
                refine Wk.lor (q := 76) (by decide +kernel) rfl ?_
                refine Wk.lstore_n (k := 3) (q := 77) (by decide +kernel) rfl (by decide) rfl (fun _ h => h) rfl ?_
                refine Wk.iinc (i := 8) (n := 1) (q := 80) (by decide +kernel) rfl (by decide) rfl (fun _ h => h) rfl ?_
                refine Wk.goto (off := (-40)) (q := 40) (by decide +kernel) (by decide) ?_
                first
                  | (refine ih2 _ (hM.cong (fun cx cy _ _ _ _ => ⟨fun q => ⟨q.1, by omega⟩, fun q => ⟨q.1, ?_⟩⟩))
                     have q1 := q.1
                     unfold inE at q1
                     omega)
                  | (refine ih2 _ ((hM.or (LB.one (x := x) (y := y) (by omega) (by omega))).cong (fun cx cy _ _ _ _ => ⟨fun q => ?_, fun q => ?_⟩))
                     · rcases q with q | ⟨rfl, rfl⟩
                       · exact ⟨q.1, by omega⟩
                       · exact ⟨hc62, by omega⟩
                     · rcases Classical.em (cx = x ∧ cy = y) with e | e
                       · exact Or.inr e
                       · exact Or.inl ⟨q.1, by omega⟩)
        refine Wk.iload (i := 5) (q := 38) (by decide +kernel) rfl rfl ?_
        refine Wk.istore (i := 8) (q := 40) (by decide +kernel) (by decide) rfl (fun _ h => h) rfl ?_
        exact key2
  refine Wk.lconst (n := 0) (v := 0) (q := 1) (by decide +kernel) rfl rfl ?_
  refine Wk.lstore_n (k := 3) (q := 2) (by decide +kernel) rfl (by decide) rfl (fun _ h => h) rfl ?_
  refine Wk.aload_n (k := 0) (q := 3) (by decide +kernel) rfl rfl rfl ?_
  refine Wk.iload_n (k := 1) (q := 4) (by decide +kernel) rfl rfl rfl ?_
  refine Wk.iload_n (k := 2) (q := 5) (by decide +kernel) rfl rfl rfl ?_
  refine Wk.cSi (q := 8) l_Swing_27 m_Swing_firstX (by decide +kernel) (fun _ h => h) (Nat.le_of_ble_eq_true rfl) (Nat.le_of_ble_eq_true rfl) rfl (c_Swing_firstX (by omega) (by omega) (by omega) (by omega)) rfl ?_
  refine Wk.istore (i := 5) (q := 10) (by decide +kernel) (by decide) rfl (fun _ h => h) rfl ?_
  refine Wk.aload_n (k := 0) (q := 11) (by decide +kernel) rfl rfl rfl ?_
  refine Wk.iload_n (k := 1) (q := 12) (by decide +kernel) rfl rfl rfl ?_
  refine Wk.iload_n (k := 2) (q := 13) (by decide +kernel) rfl rfl rfl ?_
  refine Wk.cSi (q := 16) l_Swing_33 m_Swing_firstY (by decide +kernel) (fun _ h => h) (Nat.le_of_ble_eq_true rfl) (Nat.le_of_ble_eq_true rfl) rfl (c_Swing_firstY (by omega) (by omega) (by omega) (by omega)) rfl ?_
  refine Wk.istore (i := 6) (q := 18) (by decide +kernel) (by decide) rfl (fun _ h => h) rfl ?_
  refine Wk.iload (i := 6) (q := 20) (by decide +kernel) rfl rfl ?_
  refine Wk.istore (i := 7) (q := 22) (by decide +kernel) (by decide) rfl (fun _ h => h) rfl ?_
  exact key none
theorem c_Swing_sweptBy {a : Int} (h0 : 0 ≤ a) (h1 : a < I 1 4) (hC : CW I) : Wk xs x_Swing_sweptBy (d + 2) 0 0 0 [some (vr 1), some (vi a), none, none, none] [] X2 I L (pLB (fun cx cy => inE (I 1 0) (I 1 1) cx cy ∧ cSW I (I 1 3) a cx cy) I L) := by
  have hF : 1 ≤ I 1 3 ∧ I 1 3 ≤ 255 := hC.1.2.2.2.1
  have key : Wk xs x_Swing_sweptBy (d + 2) 0 0 5 [some (vr 1), some (vi a), some (vl 0), none, some (vi 0)] [] X2 I L (pLB (fun cx cy => inE (I 1 0) (I 1 1) cx cy ∧ cSW I (I 1 3) a cx cy) I L) := by
    refine loopS (σ := Int64) (fun k u => Wk xs x_Swing_sweptBy (d + 2) 0 0 5 [some (vr 1), some (vi a), some (vl u), none, some (vi k)] [] X2 I L (pLB (fun cx cy => inE (I 1 0) (I 1 1) cx cy ∧ cSW I (I 1 3) a cx cy) I L)) (fun k u => LB u (fun cx cy => inE (I 1 0) (I 1 1) cx cy ∧ ∃ w, (0 ≤ w ∧ w < k) ∧ bt (I 1 3) w = true ∧ cLO I a w cx cy)) 8 0 0 (by omega) (LB.zero (fun x y q => by obtain ⟨-, w, q, -⟩ := q; omega)) ?_ ?_
    · intro u hJ
      refine Wk.iload (i := 4) (q := 7) (by decide +kernel) rfl rfl ?_
      refine Wk.bipush (n := 8) (q := 9) (by decide +kernel) (by decide +kernel) rfl ?_
      refine Wk.icmp_ge (off := (31)) (t := 40) (q := 12) (by decide +kernel) (by decide) rfl (by first | omega | exact bi_rng _) (by first | omega | exact bi_rng _) (fun hc9 => ?_) (fun hc9 => ?_)
      · refine Wk.lload_n (k := 2) (q := 41) (by decide +kernel) rfl rfl rfl ?_
        exact Wk.rlP (by decide +kernel) rfl (⟨⟨u, rfl, hJ.cong (fun cx cy _ _ _ _ => ⟨fun ⟨q, w, q1, q2, q3⟩ => ⟨q, w, q1.1, q1.2, q2, q3⟩, fun ⟨q, w, q1, q2, q3, q4⟩ => ⟨q, w, ⟨q1, q2⟩, q3, q4⟩⟩)⟩, rfl, rfl⟩)
      · omega
    · intro k u k0 k1 hJ ih
      refine Wk.iload (i := 4) (q := 7) (by decide +kernel) rfl rfl ?_
      refine Wk.bipush (n := 8) (q := 9) (by decide +kernel) (by decide +kernel) rfl ?_
      refine Wk.icmp_ge (off := (31)) (t := 40) (q := 12) (by decide +kernel) (by decide) rfl (by first | omega | exact bi_rng _) (by first | omega | exact bi_rng _) (fun hc9 => ?_) (fun hc9 => ?_)
      · omega
      · refine Wk.aload_n (k := 0) (q := 13) (by decide +kernel) rfl rfl rfl ?_
        refine Wk.getI (z := 3) (q := 16) f_Swing_39 (by decide +kernel) O_1 (by decide) rfl rfl rfl ?_
        refine Wk.iload (i := 4) (q := 18) (by decide +kernel) rfl rfl ?_
        refine Wk.cSi (q := 21) l_Swing_43 m_Swing_blows (by decide +kernel) (fun _ h => h) (Nat.le_of_ble_eq_true rfl) (Nat.le_of_ble_eq_true rfl) rfl (c_Swing_blows (by omega) (by omega) (by omega) (by omega)) rfl ?_
        refine Wk.ifB_eq (off := (13)) (t := 34) (q := 24) (by decide +kernel) (by decide) rfl (fun hc21 => ?_) (fun hc21 => ?_)
        · refine Wk.iinc (i := 4) (n := 1) (q := 37) (by decide +kernel) rfl (by decide) rfl (fun _ h => h) rfl ?_
          refine Wk.goto (off := (-32)) (q := 5) (by decide +kernel) (by decide) ?_
          first
            | (refine ih _ (hJ.cong (fun cx cy _ _ _ _ => ⟨fun ⟨q, w, q1, q2⟩ => ⟨q, w, by omega, q2⟩, fun ⟨q, w, q1, q2, q3⟩ => ⟨q, w, ⟨q1.1, ?_⟩, q2, q3⟩⟩))
               rcases Classical.em (w = k) with e | e
               · rw [e] at q2
                 exact absurd q2 hc21
               · omega)
            | (refine ih _ ((hJ.or hz).cong (fun cx cy _ _ _ _ => ⟨fun q => q.elim (fun ⟨q, w, q1, q2⟩ => ⟨q, w, by omega, q2⟩) (fun q => ⟨q.1, k, by omega, hc21, q.2⟩), fun ⟨q, w, q1, q2, q3⟩ => ?_⟩))
               rcases Classical.em (w = k) with e | e
               · rw [e] at q3
                 exact Or.inr ⟨q, q3⟩
               · exact Or.inl ⟨q, w, by omega, q2, q3⟩)
        · refine Wk.lload_n (k := 2) (q := 25) (by decide +kernel) rfl rfl rfl ?_
          refine Wk.aload_n (k := 0) (q := 26) (by decide +kernel) rfl rfl rfl ?_
          refine Wk.iload_n (k := 1) (q := 27) (by decide +kernel) rfl rfl rfl ?_
          refine Wk.iload (i := 4) (q := 29) (by decide +kernel) rfl rfl ?_
          refine Wk.cS (q := 32) l_Swing_47 m_Swing_lainOn (by decide +kernel) (fun _ h => h) (Nat.le_of_ble_eq_true rfl) (Nat.le_of_ble_eq_true rfl) rfl (c_Swing_lainOn h0 h1 k0 k1 hC) rfl (fun v I' L' hP => ?_)
          obtain ⟨⟨z, rfl, hz⟩, rfl, rfl⟩ := hP
          refine Wk.lor (q := 33) (by decide +kernel) rfl ?_
          refine Wk.lstore_n (k := 2) (q := 34) (by decide +kernel) rfl (by decide) rfl (fun _ h => h) rfl ?_
          refine Wk.iinc (i := 4) (n := 1) (q := 37) (by decide +kernel) rfl (by decide) rfl (fun _ h => h) rfl ?_
          refine Wk.goto (off := (-32)) (q := 5) (by decide +kernel) (by decide) ?_
          first
            | (refine ih _ (hJ.cong (fun cx cy _ _ _ _ => ⟨fun ⟨q, w, q1, q2⟩ => ⟨q, w, by omega, q2⟩, fun ⟨q, w, q1, q2, q3⟩ => ⟨q, w, ⟨q1.1, ?_⟩, q2, q3⟩⟩))
               rcases Classical.em (w = k) with e | e
               · rw [e] at q2
                 exact absurd q2 hc21
               · omega)
            | (refine ih _ ((hJ.or hz).cong (fun cx cy _ _ _ _ => ⟨fun q => q.elim (fun ⟨q, w, q1, q2⟩ => ⟨q, w, by omega, q2⟩) (fun q => ⟨q.1, k, by omega, hc21, q.2⟩), fun ⟨q, w, q1, q2, q3⟩ => ?_⟩))
               rcases Classical.em (w = k) with e | e
               · rw [e] at q3
                 exact Or.inr ⟨q, q3⟩
               · exact Or.inl ⟨q, w, by omega, q2, q3⟩)
  refine Wk.lconst (n := 0) (v := 0) (q := 1) (by decide +kernel) rfl rfl ?_
  refine Wk.lstore_n (k := 2) (q := 2) (by decide +kernel) rfl (by decide) rfl (fun _ h => h) rfl ?_
  refine Wk.iconst (n := 0) (q := 3) (by decide +kernel) rfl ?_
  refine Wk.istore (i := 4) (q := 5) (by decide +kernel) (by decide) rfl (fun _ h => h) rfl ?_
  exact key
theorem c_Swing_sweptByAll (hC : CW I) : Wk xs x_Swing_sweptByAll (d + 3) 0 0 0 [some (vr 1), none, none, none] [] X2 I L (pLB (fun cx cy => inE (I 1 0) (I 1 1) cx cy ∧ ∃ a, (0 ≤ a ∧ a < I 1 4) ∧ cSW I (I 1 3) a cx cy) I L) := by
  have hA : 0 ≤ I 1 4 ∧ I 1 4 ≤ 5 := hC.1.2.2.2.2.1
  have key : Wk xs x_Swing_sweptByAll (d + 3) 0 0 4 [some (vr 1), some (vl 0), none, some (vi 0)] [] X2 I L (pLB (fun cx cy => inE (I 1 0) (I 1 1) cx cy ∧ ∃ a, (0 ≤ a ∧ a < I 1 4) ∧ cSW I (I 1 3) a cx cy) I L) := by
    refine loopS (σ := Int64) (fun k u => Wk xs x_Swing_sweptByAll (d + 3) 0 0 4 [some (vr 1), some (vl u), none, some (vi k)] [] X2 I L (pLB (fun cx cy => inE (I 1 0) (I 1 1) cx cy ∧ ∃ a, (0 ≤ a ∧ a < I 1 4) ∧ cSW I (I 1 3) a cx cy) I L)) (fun k u => LB u (fun cx cy => inE (I 1 0) (I 1 1) cx cy ∧ ∃ a, (0 ≤ a ∧ a < k) ∧ cSW I (I 1 3) a cx cy)) (I 1 4) 0 0 (by omega) (LB.zero (fun x y q => by obtain ⟨-, w, q, -⟩ := q; omega)) ?_ ?_
    · intro u hJ
      refine Wk.iload_n (k := 3) (q := 5) (by decide +kernel) rfl rfl rfl ?_
      refine Wk.aload_n (k := 0) (q := 6) (by decide +kernel) rfl rfl rfl ?_
      refine Wk.getI (z := 4) (q := 9) f_Swing_58 (by decide +kernel) O_1 (by decide) rfl rfl rfl ?_
      refine Wk.icmp_ge (off := (17)) (t := 26) (q := 12) (by decide +kernel) (by decide) rfl (by first | omega | exact bi_rng _) (by first | omega | exact bi_rng _) (fun hc9 => ?_) (fun hc9 => ?_)
      · refine Wk.lload_n (k := 1) (q := 27) (by decide +kernel) rfl rfl rfl ?_
        exact Wk.rlP (by decide +kernel) rfl (⟨⟨u, rfl, hJ⟩, rfl, rfl⟩)
      · omega
    · intro k u k0 k1 hJ ih
      refine Wk.iload_n (k := 3) (q := 5) (by decide +kernel) rfl rfl rfl ?_
      refine Wk.aload_n (k := 0) (q := 6) (by decide +kernel) rfl rfl rfl ?_
      refine Wk.getI (z := 4) (q := 9) f_Swing_58 (by decide +kernel) O_1 (by decide) rfl rfl rfl ?_
      refine Wk.icmp_ge (off := (17)) (t := 26) (q := 12) (by decide +kernel) (by decide) rfl (by first | omega | exact bi_rng _) (by first | omega | exact bi_rng _) (fun hc9 => ?_) (fun hc9 => ?_)
      · omega
      · refine Wk.lload_n (k := 1) (q := 13) (by decide +kernel) rfl rfl rfl ?_
        refine Wk.aload_n (k := 0) (q := 14) (by decide +kernel) rfl rfl rfl ?_
        refine Wk.iload_n (k := 3) (q := 15) (by decide +kernel) rfl rfl rfl ?_
        refine Wk.cS (q := 18) l_Swing_61 m_Swing_sweptBy (by decide +kernel) (fun _ h => h) (Nat.le_of_ble_eq_true rfl) (Nat.le_of_ble_eq_true rfl) rfl (c_Swing_sweptBy k0 k1 hC) rfl (fun v I' L' hP => ?_)
        obtain ⟨⟨z, rfl, hz⟩, rfl, rfl⟩ := hP
        refine Wk.lor (q := 19) (by decide +kernel) rfl ?_
        refine Wk.lstore_n (k := 1) (q := 20) (by decide +kernel) rfl (by decide) rfl (fun _ h => h) rfl ?_
        refine Wk.iinc (i := 3) (n := 1) (q := 23) (by decide +kernel) rfl (by decide) rfl (fun _ h => h) rfl ?_
        refine Wk.goto (off := (-19)) (q := 4) (by decide +kernel) (by decide) ?_
        refine ih _ ((hJ.or hz).cong (fun cx cy _ _ _ _ => ⟨fun q => q.elim (fun ⟨q, w, q1, q2⟩ => ⟨q, w, by omega, q2⟩) (fun q => ⟨q.1, k, by omega, q.2⟩), fun ⟨q, w, q1, q3⟩ => ?_⟩))
        rcases Classical.em (w = k) with e | e
        · rw [e] at q3
          exact Or.inr ⟨q, q3⟩
        · exact Or.inl ⟨q, w, by omega, q3⟩
  refine Wk.lconst (n := 0) (v := 0) (q := 1) (by decide +kernel) rfl rfl ?_
  refine Wk.lstore_n (k := 1) (q := 2) (by decide +kernel) rfl (by decide) rfl (fun _ h => h) rfl ?_
  refine Wk.iconst (n := 0) (q := 3) (by decide +kernel) rfl ?_
  refine Wk.istore_n (k := 3) (q := 4) (by decide +kernel) rfl (by decide) rfl (fun _ h => h) rfl ?_
  exact key
theorem c_Swing_sweepersOf {x y : Int} (hi : inE (I 1 0) (I 1 1) x y) (hC : CW I) : Wk xs x_Swing_sweepersOf (d + 3) 0 0 0 [some (vr 1), some (vi (y * 8 + x)), none, none] [] X2 I L (pI (so (fun a => cSW I (I 1 3) a x y) (I 1 4).toNat) I L) := by
  obtain ⟨hW, hH, -, -, hA, -, -⟩ := id hC.1
  have hi2 := hi
  unfold inE at hi2
  have key : Wk xs x_Swing_sweepersOf (d + 3) 0 0 4 [some (vr 1), some (vi (y * 8 + x)), some (vi (so (fun a => cSW I (I 1 3) a x y) (0 : Int).toNat)), some (vi 0)] [] X2 I L (pI (so (fun a => cSW I (I 1 3) a x y) (I 1 4).toNat) I L) := by
    refine loopI (fun k => Wk xs x_Swing_sweepersOf (d + 3) 0 0 4 [some (vr 1), some (vi (y * 8 + x)), some (vi (so (fun a => cSW I (I 1 3) a x y) k.toNat)), some (vi k)] [] X2 I L (pI (so (fun a => cSW I (I 1 3) a x y) (I 1 4).toNat) I L)) (I 1 4) 0 (by omega) ?_ ?_
    · refine Wk.iload_n (k := 3) (q := 5) (by decide +kernel) rfl rfl rfl ?_
      refine Wk.aload_n (k := 0) (q := 6) (by decide +kernel) rfl rfl rfl ?_
      refine Wk.getI (z := 4) (q := 9) f_Swing_58 (by decide +kernel) O_1 (by decide) rfl rfl rfl ?_
      refine Wk.icmp_ge (off := (27)) (t := 36) (q := 12) (by decide +kernel) (by decide) rfl (by first | omega | exact bi_rng _) (by first | omega | exact bi_rng _) (fun hc9 => ?_) (fun hc9 => ?_)
      · refine Wk.iload_n (k := 2) (q := 37) (by decide +kernel) rfl rfl rfl ?_
        exact Wk.rI (by decide +kernel) rfl (rfl)
      · omega
    · intro k k0 k1 ih
      have hs := so_range (fun a => cSW I (I 1 3) a x y) k.toNat
      rw [so_step _ k0] at ih
      refine Wk.iload_n (k := 3) (q := 5) (by decide +kernel) rfl rfl rfl ?_
      refine Wk.aload_n (k := 0) (q := 6) (by decide +kernel) rfl rfl rfl ?_
      refine Wk.getI (z := 4) (q := 9) f_Swing_58 (by decide +kernel) O_1 (by decide) rfl rfl rfl ?_
      refine Wk.icmp_ge (off := (27)) (t := 36) (q := 12) (by decide +kernel) (by decide) rfl (by first | omega | exact bi_rng _) (by first | omega | exact bi_rng _) (fun hc9 => ?_) (fun hc9 => ?_)
      · omega
      · refine Wk.aload_n (k := 0) (q := 13) (by decide +kernel) rfl rfl rfl ?_
        refine Wk.iload_n (k := 3) (q := 14) (by decide +kernel) rfl rfl rfl ?_
        refine Wk.cS (q := 17) l_Swing_61 m_Swing_sweptBy (by decide +kernel) (fun _ h => h) (Nat.le_of_ble_eq_true rfl) (Nat.le_of_ble_eq_true rfl) rfl (c_Swing_sweptBy k0 k1 hC) rfl (fun v I' L' hP => ?_)
        obtain ⟨⟨z, rfl, hz⟩, rfl, rfl⟩ := hP
        have hb := hz.at (x := x) (y := y) (by omega) (by omega)
        refine Wk.iload_n (k := 1) (q := 18) (by decide +kernel) rfl rfl rfl ?_
        refine Wk.cNi (q := 21) ln_Swing_65 m_Sw_holds (by decide +kernel) (fun _ h => h) (Nat.le_of_ble_eq_true rfl) (Nat.le_of_ble_eq_true rfl) rfl (c_Sw_holds (by omega) (by omega)) rfl ?_
        refine Wk.ifB_eq (off := (9)) (t := 30) (q := 24) (by decide +kernel) (by decide) rfl (fun hc21 => ?_) (fun hc21 => ?_)
        · refine Wk.iinc (i := 3) (n := 1) (q := 33) (by decide +kernel) rfl (by decide) rfl (fun _ h => h) rfl ?_
          refine Wk.goto (off := (-29)) (q := 4) (by decide +kernel) (by decide) ?_
          first
            | (rw [or_above hs.1 hs.2 k0 (by omega)]
               rw [bi_t (hb.mp hc21).2, Int.one_mul] at ih
               exact ih)
            | (rw [bi_f (fun q => hc21 (hb.mpr ⟨hi, q⟩)), Int.zero_mul, Int.add_zero] at ih
               exact ih)
        · refine Wk.iload_n (k := 2) (q := 25) (by decide +kernel) rfl rfl rfl ?_
          refine Wk.iconst (n := 1) (q := 26) (by decide +kernel) rfl ?_
          refine Wk.iload_n (k := 3) (q := 27) (by decide +kernel) rfl rfl rfl ?_
          refine Wk.ishl (q := 28) (by decide +kernel) rfl ?_
          refine Wk.ior (q := 29) (by decide +kernel) rfl ?_
          refine Wk.istore_n (k := 2) (q := 30) (by decide +kernel) rfl (by decide) rfl (fun _ h => h) rfl ?_
          refine Wk.iinc (i := 3) (n := 1) (q := 33) (by decide +kernel) rfl (by decide) rfl (fun _ h => h) rfl ?_
          refine Wk.goto (off := (-29)) (q := 4) (by decide +kernel) (by decide) ?_
          first
            | (rw [or_above hs.1 hs.2 k0 (by omega)]
               rw [bi_t (hb.mp hc21).2, Int.one_mul] at ih
               exact ih)
            | (rw [bi_f (fun q => hc21 (hb.mpr ⟨hi, q⟩)), Int.zero_mul, Int.add_zero] at ih
               exact ih)
  refine Wk.iconst (n := 0) (q := 1) (by decide +kernel) rfl ?_
  refine Wk.istore_n (k := 2) (q := 2) (by decide +kernel) rfl (by decide) rfl (fun _ h => h) rfl ?_
  refine Wk.iconst (n := 0) (q := 3) (by decide +kernel) rfl ?_
  refine Wk.istore_n (k := 3) (q := 4) (by decide +kernel) rfl (by decide) rfl (fun _ h => h) rfl ?_
  exact key
end SWJ
end
section
/-! HOW MANY BITS: the library's two methods -/
/-- of an int under 32 -/
def cb5 (s : Nat) : Int := (if s.testBit 0 then 1 else 0) + (if s.testBit 1 then 1 else 0) + (if s.testBit 2 then 1 else 0) + (if s.testBit 3 then 1 else 0) + (if s.testBit 4 then 1 else 0)
theorem bi_dec {p : Prop} [Decidable p] : bi p = if p then 1 else 0 := by
  by_cases h : p
  · rw [bi_t h, if_pos h]
  · rw [bi_f h, if_neg h]
theorem ct5 (s : Nat) : ct (fun b => bt (s : Int) b = true) 5 = cb5 s := by
  simp only [ct, bt, cb5, bi_dec, Int.toNat_natCast]
  simp
section BC
variable {xs : RO} {d : Nat} {I : IM} {L : LM}

theorem c_Integer_bitCount {s : Int} (h0 : 0 ≤ s) (h1 : s < 32) : Wk xs x_Integer_bitCount d 0 0 0 [some (vi s)] [] X2 I L (pI (ct (fun b => bt s b = true) 5) I L) := by
  obtain ⟨n, rfl⟩ := Int.eq_ofNat_of_zero_le h0
  have hn : n < 32 := by omega
  clear h0 h1
  refine Wk.iload_n (k := 0) (q := 1) (by decide +kernel) rfl rfl rfl ?_
  refine Wk.iload_n (k := 0) (q := 2) (by decide +kernel) rfl rfl rfl ?_
  refine Wk.iconst (n := 1) (q := 3) (by decide +kernel) rfl ?_
  refine Wk.iushr (q := 4) (by decide +kernel) rfl ?_
  refine Wk.ldcw (z := 1431655765) (q := 7) k_Integer_265 (by decide +kernel) (by decide +kernel) rfl ?_
  refine Wk.iand (q := 8) (by decide +kernel) rfl ?_
  refine Wk.isub (q := 9) (by decide +kernel) rfl ?_
  refine Wk.istore_n (k := 0) (q := 10) (by decide +kernel) rfl (by decide) rfl (fun _ h => h) rfl ?_
  refine Wk.iload_n (k := 0) (q := 11) (by decide +kernel) rfl rfl rfl ?_
  refine Wk.ldcw (z := 858993459) (q := 14) k_Integer_266 (by decide +kernel) (by decide +kernel) rfl ?_
  refine Wk.iand (q := 15) (by decide +kernel) rfl ?_
  refine Wk.iload_n (k := 0) (q := 16) (by decide +kernel) rfl rfl rfl ?_
  refine Wk.iconst (n := 2) (q := 17) (by decide +kernel) rfl ?_
  refine Wk.iushr (q := 18) (by decide +kernel) rfl ?_
  refine Wk.ldcw (z := 858993459) (q := 21) k_Integer_266 (by decide +kernel) (by decide +kernel) rfl ?_
  refine Wk.iand (q := 22) (by decide +kernel) rfl ?_
  refine Wk.iadd (q := 23) (by decide +kernel) rfl ?_
  refine Wk.istore_n (k := 0) (q := 24) (by decide +kernel) rfl (by decide) rfl (fun _ h => h) rfl ?_
  refine Wk.iload_n (k := 0) (q := 25) (by decide +kernel) rfl rfl rfl ?_
  refine Wk.iload_n (k := 0) (q := 26) (by decide +kernel) rfl rfl rfl ?_
  refine Wk.iconst (n := 4) (q := 27) (by decide +kernel) rfl ?_
  refine Wk.iushr (q := 28) (by decide +kernel) rfl ?_
  refine Wk.iadd (q := 29) (by decide +kernel) rfl ?_
  refine Wk.ldcw (z := 252645135) (q := 32) k_Integer_267 (by decide +kernel) (by decide +kernel) rfl ?_
  refine Wk.iand (q := 33) (by decide +kernel) rfl ?_
  refine Wk.istore_n (k := 0) (q := 34) (by decide +kernel) rfl (by decide) rfl (fun _ h => h) rfl ?_
  refine Wk.iload_n (k := 0) (q := 35) (by decide +kernel) rfl rfl rfl ?_
  refine Wk.iload_n (k := 0) (q := 36) (by decide +kernel) rfl rfl rfl ?_
  refine Wk.bipush (n := 8) (q := 38) (by decide +kernel) (by decide +kernel) rfl ?_
  refine Wk.iushr (q := 39) (by decide +kernel) rfl ?_
  refine Wk.iadd (q := 40) (by decide +kernel) rfl ?_
  refine Wk.istore_n (k := 0) (q := 41) (by decide +kernel) rfl (by decide) rfl (fun _ h => h) rfl ?_
  refine Wk.iload_n (k := 0) (q := 42) (by decide +kernel) rfl rfl rfl ?_
  refine Wk.iload_n (k := 0) (q := 43) (by decide +kernel) rfl rfl rfl ?_
  refine Wk.bipush (n := 16) (q := 45) (by decide +kernel) (by decide +kernel) rfl ?_
  refine Wk.iushr (q := 46) (by decide +kernel) rfl ?_
  refine Wk.iadd (q := 47) (by decide +kernel) rfl ?_
  refine Wk.istore_n (k := 0) (q := 48) (by decide +kernel) rfl (by decide) rfl (fun _ h => h) rfl ?_
  refine Wk.iload_n (k := 0) (q := 49) (by decide +kernel) rfl rfl rfl ?_
  refine Wk.bipush (n := 63) (q := 51) (by decide +kernel) (by decide +kernel) rfl ?_
  refine Wk.iand (q := 52) (by decide +kernel) rfl ?_
  exact Wk.rI (by decide +kernel) rfl (by rw [ct5]; revert n; decide +kernel)
end BC
/-! of a long: by bytes -/
theorem and_lo (a M c : Nat) (hc : c < 256) : a &&& (256 * M + c) = 256 * ((a / 256) &&& M) + ((a % 256) &&& c) := by
  apply Nat.eq_of_testBit_eq
  intro i
  have e0 : (a % 256) &&& c < 2 ^ 8 := Nat.and_lt_two_pow _ (by omega)
  rw [show (256 : Nat) = 2 ^ 8 from rfl, Nat.testBit_and, Nat.testBit_two_pow_mul_add _ (by omega), Nat.testBit_two_pow_mul_add _ e0]
  by_cases hi : i < 8
  · have e1 := Nat.testBit_mod_two_pow a 8 i
    rw [if_pos hi, if_pos hi, Nat.testBit_and, show a % 256 = a % 2 ^ 8 from rfl, e1]
    simp [hi]
  · rw [if_neg hi, if_neg hi, Nat.testBit_and, Nat.testBit_div_two_pow]
    congr 2
    omega
/-- masks of k bytes; the three steps within bytes -/
def mk (c : Nat) : Nat → Nat
  | 0 => 0
  | k + 1 => 256 * mk c k + c
def s1 (k n : Nat) : Nat := n - ((n / 2) &&& mk 0x55 k)
def s2 (k n : Nat) : Nat := (n &&& mk 0x33 k) + ((n / 4) &&& mk 0x33 k)
def s3 (k n : Nat) : Nat := (n + n / 16) &&& mk 0x0f k
theorem d1 : ∀ c, c < 256 → ∀ b, b < 2 → ((c / 2 + 128 * b) &&& 0x55) = (c / 2) &&& 0x55 := by decide +kernel
theorem d1b : ∀ c, c < 256 → (c / 2) &&& 0x55 ≤ c := by decide +kernel
theorem d2 : ∀ c, c < 256 → ∀ b, b < 4 → ((c / 4 + 64 * b) &&& 0x33) = (c / 4) &&& 0x33 := by decide +kernel
def pb (c : Nat) : Nat := c % 2 + c / 2 % 2 + c / 4 % 2 + c / 8 % 2 + c / 16 % 2 + c / 32 % 2 + c / 64 % 2 + c / 128 % 2
def b2 (c : Nat) : Nat := let e := c - ((c / 2) &&& 0x55); (e &&& 0x33) + ((e / 4) &&& 0x33)
theorem d3 : ∀ c, c < 256 → b2 c % 16 ≤ 4 ∧ b2 c / 16 ≤ 4 ∧ b2 c < 256 ∧ b2 c % 16 + b2 c / 16 = pb c ∧ c - ((c / 2) &&& 0x55) < 256 := by decide +kernel
theorem s1_step (k n : Nat) : s1 (k + 1) n = 256 * s1 k (n / 256) + (n % 256 - ((n % 256 / 2) &&& 0x55)) ∧ (n / 2) &&& mk 0x55 (k + 1) ≤ n := by
  have hle : ∀ (k n : Nat), (n / 2) &&& mk 0x55 k ≤ n := fun k n => Nat.le_trans (Nat.and_le_left) (Nat.div_le_self _ _)
  have e : (n / 2) &&& mk 0x55 (k + 1) = 256 * ((n / 256 / 2) &&& mk 0x55 k) + ((n % 256 / 2) &&& 0x55) := by
    rw [mk, and_lo _ _ _ (by omega)]
    have e1 : n / 2 / 256 = n / 256 / 2 := by omega
    have e2 : n / 2 % 256 = n % 256 / 2 + 128 * (n / 256 % 2) := by omega
    rw [e1, e2, d1 _ (by omega) _ (by omega)]
  refine ⟨?_, hle _ _⟩
  unfold s1
  rw [e]
  have h1 := hle k (n / 256)
  have h2 := d1b (n % 256) (by omega)
  omega
theorem s2_step (k n : Nat) : s2 (k + 1) n = 256 * s2 k (n / 256) + ((n % 256 &&& 0x33) + ((n % 256 / 4) &&& 0x33)) := by
  unfold s2
  rw [mk, and_lo _ _ _ (by omega), and_lo _ _ _ (by omega)]
  have e1 : n / 4 / 256 = n / 256 / 4 := by omega
  have e2 : n / 4 % 256 = n % 256 / 4 + 64 * (n / 256 % 4) := by omega
  rw [e1, e2, d2 _ (by omega) _ (by omega)]
  omega
/-- the sum of the bytes' bits, each in its byte -/
def sb : Nat → Nat → Nat
  | 0, _ => 0
  | k + 1, n => 256 * sb k (n / 256) + pb (n % 256)
theorem s12_step (k n : Nat) : s2 (k + 1) (s1 (k + 1) n) = 256 * s2 k (s1 k (n / 256)) + b2 (n % 256) := by
  have h := (s1_step k n).1
  have h3 := (d3 (n % 256) (by omega)).2.2.2.2
  rw [s2_step, h]
  have e1 : (256 * s1 k (n / 256) + (n % 256 - ((n % 256 / 2) &&& 0x55))) / 256 = s1 k (n / 256) := by omega
  have e2 : (256 * s1 k (n / 256) + (n % 256 - ((n % 256 / 2) &&& 0x55))) % 256 = n % 256 - ((n % 256 / 2) &&& 0x55) := by omega
  rw [e1, e2]
  rfl
theorem s123 : ∀ (k n : Nat), s3 k (s2 k (s1 k n)) = sb k n ∧ s2 k (s1 k n) % 16 ≤ 4
  | 0, n => by simp [s3, s2, s1, mk, sb]
  | k + 1, n => by
    obtain ⟨ih, ihm⟩ := s123 k (n / 256)
    obtain ⟨c1, c2, c3, c4, -⟩ := d3 (n % 256) (by omega)
    rw [s12_step]
    generalize hm : s2 k (s1 k (n / 256)) = m at ih ihm
    generalize hb : b2 (n % 256) = c at c1 c2 c3 c4
    refine ⟨?_, by omega⟩
    unfold s3 at ih ⊢
    rw [mk, and_lo _ _ _ (by omega)]
    have e1 : (256 * m + c + (256 * m + c) / 16) / 256 = m + m / 16 := by omega
    have e2 : (256 * m + c + (256 * m + c) / 16) % 256 = c + c / 16 + 16 * (m % 16) := by omega
    rw [e1, e2, ih, sb]
    have e3 : (c + c / 16 + 16 * (m % 16)) &&& 0x0f = (c + c / 16 + 16 * (m % 16)) % 16 := Nat.and_two_pow_sub_one_eq_mod _ 4
    rw [e3]
    omega
theorem pb_le : ∀ c, pb c ≤ 8 := fun c => by unfold pb; omega
/-- the bytes of sb, and their sum -/
def sm8 : Nat → Nat → Nat
  | 0, _ => 0
  | k + 1, n => sm8 k (n / 256) + pb (n % 256)
theorem dv {m q r : Nat} (h : r < m) : (m * q + r) / m = q := by
  rw [Nat.mul_add_div (by omega), Nat.div_eq_of_lt h, Nat.add_zero]
theorem fr2 {A0 A1 A2 A3 r0 r1 r2 : Nat} (h0 : A0 = 256 * A1 + r0) (h1 : A1 = 256 * A2 + r1) (h2 : A2 = 256 * A3 + r2) : A0 + A1 = 65536 * (A2 + A3) + (256 * (r1 + r2) + (r0 + r1)) := by omega
theorem fr3 {A0 A1 A2 A3 A4 r0 r1 r2 r3 : Nat} (h0 : A0 = 256 * A1 + r0) (h1 : A1 = 256 * A2 + r1) (h2 : A2 = 256 * A3 + r2) (h3 : A3 = 256 * A4 + r3) : A0 = 4294967296 * A4 + (16777216 * r3 + 65536 * r2 + 256 * r1 + r0) := by omega
theorem fold_r {A0 A1 A2 A3 A4 A5 A6 A7 r0 r1 r2 r3 r4 r5 r6 r7 : Nat} (h0 : A0 = 256 * A1 + r0) (h1 : A1 = 256 * A2 + r1) (h2 : A2 = 256 * A3 + r2) (h3 : A3 = 256 * A4 + r3) (h4 : A4 = 256 * A5 + r4) (h5 : A5 = 256 * A6 + r5) (h6 : A6 = 256 * A7 + r6) (h7 : A7 = 256 * 0 + r7) (g0 : r0 ≤ 8) (g1 : r1 ≤ 8) (g2 : r2 ≤ 8) (g3 : r3 ≤ 8) (g4 : r4 ≤ 8) (g5 : r5 ≤ 8) (g6 : r6 ≤ 8) (g7 : r7 ≤ 8) : (A0 + A0 / 256 + (A0 + A0 / 256) / 65536 + (A0 + A0 / 256 + (A0 + A0 / 256) / 65536) / 4294967296) % 128 = r0 + r1 + r2 + r3 + r4 + r5 + r6 + r7 := by
  have e1 : A0 / 256 = A1 := by rw [h0]; exact dv (by omega)
  have e2 : (A0 + A1) / 65536 = A2 + A3 := by
    rw [fr2 h0 h1 h2]
    exact dv (by clear h0 h1 h2 h3 h4 h5 h6 h7 e1; omega)
  have e3 : (A0 + A1 + (A2 + A3)) / 4294967296 = A4 + A5 + A6 + A7 := by
    have q0 := fr3 h0 h1 h2 h3
    have q1 := fr3 h1 h2 h3 h4
    have q2 := fr3 h2 h3 h4 h5
    have q3 := fr3 h3 h4 h5 h6
    have q : A0 + A1 + (A2 + A3) = 4294967296 * (A4 + A5 + A6 + A7) + ((16777216 * r3 + 65536 * r2 + 256 * r1 + r0) + (16777216 * r4 + 65536 * r3 + 256 * r2 + r1) + (16777216 * r5 + 65536 * r4 + 256 * r3 + r2) + (16777216 * r6 + 65536 * r5 + 256 * r4 + r3)) := by
      clear h0 h1 h2 h3 h4 h5 h6 h7 e1 e2
      rw [q0, q1, q2, q3]
      simp only [Nat.mul_add]
      ac_rfl
    rw [q]
    exact dv (by clear h0 h1 h2 h3 h4 h5 h6 h7 e1 e2 q0 q1 q2 q3 q; omega)
  rw [e1, e2, e3]
  have q : A0 + A1 + (A2 + A3) + (A4 + A5 + A6 + A7) = 128 * (2 * (A1 + A2 + A3 + A4 + A5 + A6 + A7)) + (r0 + r1 + r2 + r3 + r4 + r5 + r6 + r7) := by
    clear g0 g1 g2 g3 g4 g5 g6 g7 e1 e2 e3
    omega
  rw [q, Nat.mul_add_mod]
  exact Nat.mod_eq_of_lt (by clear h0 h1 h2 h3 h4 h5 h6 h7 e1 e2 e3 q; omega)
theorem fold8 (n : Nat) : (sb 8 n + sb 8 n / 256 + (sb 8 n + sb 8 n / 256) / 65536 + (sb 8 n + sb 8 n / 256 + (sb 8 n + sb 8 n / 256) / 65536) / 4294967296) % 128 = sm8 8 n := by
  have h := fold_r (A0 := sb 8 n) (A1 := sb 7 (n / 256)) (A2 := sb 6 (n / 256 / 256)) (A3 := sb 5 (n / 256 / 256 / 256)) (A4 := sb 4 (n / 256 / 256 / 256 / 256)) (A5 := sb 3 (n / 256 / 256 / 256 / 256 / 256)) (A6 := sb 2 (n / 256 / 256 / 256 / 256 / 256 / 256)) (A7 := sb 1 (n / 256 / 256 / 256 / 256 / 256 / 256 / 256)) (r0 := pb ((n) % 256)) (r1 := pb ((n / 256) % 256)) (r2 := pb ((n / 256 / 256) % 256)) (r3 := pb ((n / 256 / 256 / 256) % 256)) (r4 := pb ((n / 256 / 256 / 256 / 256) % 256)) (r5 := pb ((n / 256 / 256 / 256 / 256 / 256) % 256)) (r6 := pb ((n / 256 / 256 / 256 / 256 / 256 / 256) % 256)) (r7 := pb ((n / 256 / 256 / 256 / 256 / 256 / 256 / 256) % 256)) rfl rfl rfl rfl rfl rfl rfl rfl (pb_le _) (pb_le _) (pb_le _) (pb_le _) (pb_le _) (pb_le _) (pb_le _) (pb_le _)
  rw [h]
  simp only [sm8]
  omega
theorem sb_ar {u v p : Nat} (h : u + 8 ≤ v) (hp : p ≤ 8) : 256 * u + p * 255 + 8 ≤ 256 * v := by omega
theorem sb_lt : ∀ (k n : Nat), sb k n * 255 + 8 ≤ 8 * 256 ^ k
  | 0, n => by simp [sb]
  | k + 1, n => by
    have h := sb_lt k (n / 256)
    have hp := pb_le (n % 256)
    simp only [sb, Nat.pow_succ]
    generalize 256 ^ k = z at h ⊢
    generalize sb k (n / 256) = y at h ⊢
    generalize pb (n % 256) = p at hp ⊢
    have h2 : (256 * y + p) * 255 = 256 * (y * 255) + p * 255 := by rw [Nat.add_mul, Nat.mul_assoc]
    have h3 : 8 * (z * 256) = 256 * (8 * z) := by rw [Nat.mul_comm z 256, Nat.mul_left_comm]
    rw [h2, h3]
    exact sb_ar h hp
/-- as a count over places -/
theorem ct_split (P : Int → Prop) (m : Nat) : ∀ n : Nat, ct P (m + n) = ct P m + ct (fun k => P (k + m)) n
  | 0 => by simp [ct]
  | n + 1 => by
    rw [show m + (n + 1) = (m + n) + 1 from rfl]
    simp only [ct]
    rw [ct_split P m n, show ((m + n : Nat) : Int) = (n : Int) + m by omega]
    omega
theorem pb_ct : ∀ c, c < 256 → (pb c : Int) = (if c.testBit 0 then 1 else 0) + (if c.testBit 1 then 1 else 0) + (if c.testBit 2 then 1 else 0) + (if c.testBit 3 then 1 else 0) + (if c.testBit 4 then 1 else 0) + (if c.testBit 5 then 1 else 0) + (if c.testBit 6 then 1 else 0) + (if c.testBit 7 then 1 else 0) := by decide +kernel
theorem ct8 (n : Nat) : ct (fun b => n.testBit b.toNat = true) 8 = (pb (n % 256) : Int) := by
  rw [pb_ct _ (by omega)]
  simp only [ct, bi_dec, show (256 : Nat) = 2 ^ 8 from rfl, Nat.testBit_mod_two_pow]
  simp
theorem ct_sm : ∀ (k n : Nat), ct (fun b => n.testBit b.toNat = true) (8 * k) = (sm8 k n : Int)
  | 0, n => by simp [ct, sm8]
  | k + 1, n => by
    rw [show 8 * (k + 1) = 8 + 8 * k by omega, ct_split, ct8]
    have e : ct (fun b => n.testBit (b + (8 : Nat)).toNat = true) (8 * k) = ct (fun b => (n / 256).testBit b.toNat = true) (8 * k) := ct_cong (fun b h0 h1 => by
      rw [show (256 : Nat) = 2 ^ 8 from rfl, Nat.testBit_div_two_pow]
      have : (b + (8 : Nat)).toNat = b.toNat + 8 := by omega
      rw [this])
    rw [e, ct_sm k (n / 256), sm8]
    omega
/-- a long as the number that its bits are -/
def un (x : Int64) : Nat := x.toBitVec.toNat
theorem un_lt (x : Int64) : un x < 2 ^ 64 := x.toBitVec.isLt
theorem un_and (a b : Int64) : un (a &&& b) = un a &&& un b := by unfold un; rw [Int64.toBitVec_and, BitVec.toNat_and]
theorem un_add {a b : Int64} (h : un a + un b < 2 ^ 64) : un (a + b) = un a + un b := by
  unfold un at *
  rw [Int64.toBitVec_add, BitVec.toNat_add, Nat.mod_eq_of_lt h]
theorem un_sub {a b : Int64} (h : un b ≤ un a) : un (a - b) = un a - un b := by
  have ha := un_lt a
  unfold un at *
  rw [Int64.toBitVec_sub, BitVec.toNat_sub]
  omega
theorem un_shr (x : Int64) {k : Int} (h0 : 0 ≤ k) (h1 : k < 64) : un (x.toUInt64 >>> ((nZ k).toInt64.toUInt64 &&& Int64.toUInt64 63)).toInt64 = un x / 2 ^ k.toNat := by
  show (x.toUInt64 >>> ((nZ k).toInt64.toUInt64 &&& Int64.toUInt64 63)).toNat = _
  rw [UInt64.toNat_shiftRight, nZ_nI h0, cu64 _ (by omega), Nat.mod_eq_of_lt (by omega), Nat.shiftRight_eq_div_pow]
  rfl
theorem m55 : un 6148914691236517205 = mk 0x55 8 := by decide +kernel
theorem m33 : un 3689348814741910323 = mk 0x33 8 := by decide +kernel
theorem m0f : un 1085102592571150095 = mk 0x0f 8 := by decide +kernel
theorem low7 (x : Int64) : (nZ x.toInt32.toInt &&& nZ 127).toInt = (un x % 128 : Nat) := by
  rw [nZ_self, pk_and x.toInt32 7 (by decide +kernel)]
  have e : x.toInt32.toBitVec.toNat = un x % 2 ^ 32 := by
    rw [Int64.toBitVec_toInt32, BitVec.signExtend_eq_setWidth_of_le _ (by omega), BitVec.toNat_setWidth]
    rfl
  rw [e, Nat.mod_mod_of_dvd _ (by decide), nI_toInt (Nat.lt_of_lt_of_le (Nat.mod_lt _ (by decide)) (by decide))]
theorem un_pop {w x1 x2 x3 x4 x5 x6 : Int64} (h1 : x1 = w - ((w.toUInt64 >>> ((nZ 1).toInt64.toUInt64 &&& Int64.toUInt64 63)).toInt64 &&& 6148914691236517205)) (h2 : x2 = (x1 &&& 3689348814741910323) + ((x1.toUInt64 >>> ((nZ 2).toInt64.toUInt64 &&& Int64.toUInt64 63)).toInt64 &&& 3689348814741910323)) (h3 : x3 = (x2 + (x2.toUInt64 >>> ((nZ 4).toInt64.toUInt64 &&& Int64.toUInt64 63)).toInt64) &&& 1085102592571150095) (h4 : x4 = x3 + (x3.toUInt64 >>> ((nZ 8).toInt64.toUInt64 &&& Int64.toUInt64 63)).toInt64) (h5 : x5 = x4 + (x4.toUInt64 >>> ((nZ 16).toInt64.toUInt64 &&& Int64.toUInt64 63)).toInt64) (h6 : x6 = x5 + (x5.toUInt64 >>> ((nZ 32).toInt64.toUInt64 &&& Int64.toUInt64 63)).toInt64) : ((un x6 % 128 : Nat) : Int) = ct (fun s => bl w s = true) 64 := by
  have e1 : un x1 = s1 8 (un w) := by
    rw [h1, un_sub, un_and, un_shr w (by omega) (by omega), m55]
    · rfl
    · rw [un_and, un_shr w (by omega) (by omega)]
      exact Nat.le_trans Nat.and_le_left (Nat.div_le_self _ _)
  have b33 : mk 0x33 8 = 3689348814741910323 := by decide +kernel
  have e2 : un x2 = s2 8 (un x1) ∧ un x2 ≤ 7378697629483820646 := by
    have q1 : un x1 &&& mk 0x33 8 ≤ mk 0x33 8 := Nat.and_le_right
    have q2 : (un x1 / 2 ^ (2 : Int).toNat) &&& mk 0x33 8 ≤ mk 0x33 8 := Nat.and_le_right
    rw [h2, un_add, un_and, un_and, un_shr x1 (by omega) (by omega), m33]
    · exact ⟨rfl, by omega⟩
    · rw [un_and, un_and, un_shr x1 (by omega) (by omega), m33]
      omega
  have e3 : un x3 = s3 8 (un x2) := by
    have q := Nat.div_le_self (un x2) 16
    rw [h3, un_and, un_add, un_shr x2 (by omega) (by omega), m0f]
    · rfl
    · rw [un_shr x2 (by omega) (by omega)]
      show un x2 + un x2 / 16 < 2 ^ 64
      have := e2.2
      omega
  have e3b : un x3 = sb 8 (un w) := by rw [e3, e2.1, e1]; exact (s123 8 (un w)).1
  have hs := sb_lt 8 (un w)
  rw [← e3b] at hs
  have hs2 : un x3 ≤ 600000000000000000 := by
    have : (256 : Nat) ^ 8 = 18446744073709551616 := by decide
    rw [this] at hs
    omega
  clear hs
  have e4 : un x4 = un x3 + un x3 / 256 := by
    rw [h4, un_add, un_shr x3 (by omega) (by omega)]
    · rfl
    · rw [un_shr x3 (by omega) (by omega)]
      show un x3 + un x3 / 256 < 2 ^ 64
      omega
  have e5 : un x5 = un x4 + un x4 / 65536 := by
    rw [h5, un_add, un_shr x4 (by omega) (by omega)]
    · rfl
    · rw [un_shr x4 (by omega) (by omega)]
      show un x4 + un x4 / 65536 < 2 ^ 64
      omega
  have e6 : un x6 = un x5 + un x5 / 4294967296 := by
    rw [h6, un_add, un_shr x5 (by omega) (by omega)]
    · rfl
    · rw [un_shr x5 (by omega) (by omega)]
      show un x5 + un x5 / 4294967296 < 2 ^ 64
      omega
  rw [e6, e5, e4, e3b, fold8, ← ct_sm 8 (un w)]
  rfl
section BL
variable {xs : RO} {d : Nat} {I : IM} {L : LM}

theorem c_Long_bitCount {w : Int64} : Wk xs x_Long_bitCount d 0 0 0 [some (vl w), none] [] X2 I L (pI (ct (fun s => bl w s = true) 64) I L) := by
  refine Wk.lload_n (k := 0) (q := 1) (by decide +kernel) rfl rfl rfl ?_
  refine Wk.lload_n (k := 0) (q := 2) (by decide +kernel) rfl rfl rfl ?_
  refine Wk.iconst (n := 1) (q := 3) (by decide +kernel) rfl ?_
  refine Wk.lushr (q := 4) (by decide +kernel) rfl ?_
  refine Wk.ldc2 (q := 7) k_Long_314 (by decide +kernel) rfl ?_
  refine Wk.land (q := 8) (by decide +kernel) rfl ?_
  refine Wk.lsub (q := 9) (by decide +kernel) rfl ?_
  refine Wk.lstore_n (k := 0) (q := 10) (by decide +kernel) rfl (by decide) rfl (fun _ h => h) rfl ?_
  generalize hx1 : w - ((w.toUInt64 >>> ((nZ 1).toInt64.toUInt64 &&& Int64.toUInt64 63)).toInt64 &&& 6148914691236517205) = x1
  refine Wk.lload_n (k := 0) (q := 11) (by decide +kernel) rfl rfl rfl ?_
  refine Wk.ldc2 (q := 14) k_Long_316 (by decide +kernel) rfl ?_
  refine Wk.land (q := 15) (by decide +kernel) rfl ?_
  refine Wk.lload_n (k := 0) (q := 16) (by decide +kernel) rfl rfl rfl ?_
  refine Wk.iconst (n := 2) (q := 17) (by decide +kernel) rfl ?_
  refine Wk.lushr (q := 18) (by decide +kernel) rfl ?_
  refine Wk.ldc2 (q := 21) k_Long_316 (by decide +kernel) rfl ?_
  refine Wk.land (q := 22) (by decide +kernel) rfl ?_
  refine Wk.ladd (q := 23) (by decide +kernel) rfl ?_
  refine Wk.lstore_n (k := 0) (q := 24) (by decide +kernel) rfl (by decide) rfl (fun _ h => h) rfl ?_
  generalize hx2 : (x1 &&& 3689348814741910323) + ((x1.toUInt64 >>> ((nZ 2).toInt64.toUInt64 &&& Int64.toUInt64 63)).toInt64 &&& 3689348814741910323) = x2
  refine Wk.lload_n (k := 0) (q := 25) (by decide +kernel) rfl rfl rfl ?_
  refine Wk.lload_n (k := 0) (q := 26) (by decide +kernel) rfl rfl rfl ?_
  refine Wk.iconst (n := 4) (q := 27) (by decide +kernel) rfl ?_
  refine Wk.lushr (q := 28) (by decide +kernel) rfl ?_
  refine Wk.ladd (q := 29) (by decide +kernel) rfl ?_
  refine Wk.ldc2 (q := 32) k_Long_318 (by decide +kernel) rfl ?_
  refine Wk.land (q := 33) (by decide +kernel) rfl ?_
  refine Wk.lstore_n (k := 0) (q := 34) (by decide +kernel) rfl (by decide) rfl (fun _ h => h) rfl ?_
  generalize hx3 : (x2 + (x2.toUInt64 >>> ((nZ 4).toInt64.toUInt64 &&& Int64.toUInt64 63)).toInt64) &&& 1085102592571150095 = x3
  refine Wk.lload_n (k := 0) (q := 35) (by decide +kernel) rfl rfl rfl ?_
  refine Wk.lload_n (k := 0) (q := 36) (by decide +kernel) rfl rfl rfl ?_
  refine Wk.bipush (n := 8) (q := 38) (by decide +kernel) (by decide +kernel) rfl ?_
  refine Wk.lushr (q := 39) (by decide +kernel) rfl ?_
  refine Wk.ladd (q := 40) (by decide +kernel) rfl ?_
  refine Wk.lstore_n (k := 0) (q := 41) (by decide +kernel) rfl (by decide) rfl (fun _ h => h) rfl ?_
  generalize hx4 : x3 + (x3.toUInt64 >>> ((nZ 8).toInt64.toUInt64 &&& Int64.toUInt64 63)).toInt64 = x4
  refine Wk.lload_n (k := 0) (q := 42) (by decide +kernel) rfl rfl rfl ?_
  refine Wk.lload_n (k := 0) (q := 43) (by decide +kernel) rfl rfl rfl ?_
  refine Wk.bipush (n := 16) (q := 45) (by decide +kernel) (by decide +kernel) rfl ?_
  refine Wk.lushr (q := 46) (by decide +kernel) rfl ?_
  refine Wk.ladd (q := 47) (by decide +kernel) rfl ?_
  refine Wk.lstore_n (k := 0) (q := 48) (by decide +kernel) rfl (by decide) rfl (fun _ h => h) rfl ?_
  generalize hx5 : x4 + (x4.toUInt64 >>> ((nZ 16).toInt64.toUInt64 &&& Int64.toUInt64 63)).toInt64 = x5
  refine Wk.lload_n (k := 0) (q := 49) (by decide +kernel) rfl rfl rfl ?_
  refine Wk.lload_n (k := 0) (q := 50) (by decide +kernel) rfl rfl rfl ?_
  refine Wk.bipush (n := 32) (q := 52) (by decide +kernel) (by decide +kernel) rfl ?_
  refine Wk.lushr (q := 53) (by decide +kernel) rfl ?_
  refine Wk.ladd (q := 54) (by decide +kernel) rfl ?_
  refine Wk.lstore_n (k := 0) (q := 55) (by decide +kernel) rfl (by decide) rfl (fun _ h => h) rfl ?_
  generalize hx6 : x5 + (x5.toUInt64 >>> ((nZ 32).toInt64.toUInt64 &&& Int64.toUInt64 63)).toInt64 = x6
  refine Wk.lload_n (k := 0) (q := 56) (by decide +kernel) rfl rfl rfl ?_
  refine Wk.l2i (q := 57) (by decide +kernel) rfl ?_
  refine Wk.bipush (n := 127) (q := 59) (by decide +kernel) (by decide +kernel) rfl ?_
  refine Wk.iand (q := 60) (by decide +kernel) rfl ?_
  exact Wk.rI (by decide +kernel) rfl (by rw [low7]; exact un_pop hx1.symm hx2.symm hx3.symm hx4.symm hx5.symm hx6.symm)
end BL
end
section
/-! WHERE A SHIP MAY LIE, and where it clashes, as spots -/
theorem colP : ∀ n, n < 8 → ∀ s, s < 64 → bl (((255 : Int64).toUInt64 >>> ((nZ (n : Nat)).toInt64.toUInt64 &&& Int64.toUInt64 63)).toInt64 * 72340172838076673) (s : Nat) = decide (s % 8 + n < 8) := by decide +kernel
theorem colN : ∀ n, n < 8 → ∀ s, s < 64 → bl ((((255 : Int64) <<< ((nZ (n : Nat)).toInt64 &&& 63)) &&& 255) * 72340172838076673) (s : Nat) = decide (n ≤ s % 8) := by decide +kernel
theorem colP' {x s : Int} (hx : 0 ≤ x ∧ x < 8) (hs : 0 ≤ s ∧ s < 64) : bl (((255 : Int64).toUInt64 >>> ((nZ x).toInt64.toUInt64 &&& Int64.toUInt64 63)).toInt64 * 72340172838076673) s = true ↔ s % 8 + x < 8 := by
  have h := colP x.toNat (by omega) s.toNat (by omega)
  rw [Int.toNat_of_nonneg hx.1, Int.toNat_of_nonneg hs.1] at h
  rw [h, decide_eq_true_eq]
  omega
theorem colN' {x s : Int} (hx : 0 ≤ x ∧ x < 8) (hs : 0 ≤ s ∧ s < 64) : bl ((((255 : Int64) <<< ((nZ x).toInt64 &&& 63)) &&& 255) * 72340172838076673) s = true ↔ x ≤ s % 8 := by
  have h := colN x.toNat (by omega) s.toNat (by omega)
  rw [Int.toNat_of_nonneg hx.1, Int.toNat_of_nonneg hs.1] at h
  rw [h, decide_eq_true_eq]
  omega
theorem bl_big {w : Int64} {i : Int} (h : 64 ≤ i) : bl w i = false := by
  unfold bl
  exact BitVec.getLsbD_of_ge _ _ (by omega)
def in8 (x y : Int) : Prop := (0 ≤ x ∧ x < 8) ∧ 0 ≤ y ∧ y < 8
def offP (P : Int → Int → Prop) (x y : Int) : Int → Int → Prop := fun sx sy => in8 (sx + x) (sy + y) ∧ P (sx + x) (sy + y)
/-- the shifted long, behind the columns' mask -/
theorem seen_of {w c : Int64} {P : Int → Int → Prop} {x y : Int} (h : LB w P) (hx : -4 ≤ x ∧ x ≤ 4) (hy : -4 ≤ y ∧ y ≤ 4) (hc : ∀ s, 0 ≤ s → s < 64 → (bl c s = true ↔ 0 ≤ s % 8 + x ∧ s % 8 + x < 8)) {u : Int64} (hu : ∀ s, 0 ≤ s → s < 64 → (bl u s = true ↔ 0 ≤ s + (y * 8 + x) ∧ bl w (s + (y * 8 + x)) = true)) : LB (u &&& c) (offP P x y) := by
  intro s h0 h1
  rw [bl_and, Bool.and_eq_true, hc s h0 h1, hu s h0 h1]
  unfold offP in8
  constructor
  · rintro ⟨⟨a1, a2⟩, a3⟩
    by_cases hb : s / 8 + y < 8
    · have e : s + (y * 8 + x) = (s / 8 + y) * 8 + (s % 8 + x) := by omega
      rw [e, h.at (by omega) (by omega)] at a2
      exact ⟨⟨a3, by omega⟩, a2⟩
    · rw [bl_big (by omega)] at a2
      cases a2
  · rintro ⟨⟨a1, a2⟩, a3⟩
    have e : s + (y * 8 + x) = (s / 8 + y) * 8 + (s % 8 + x) := by omega
    refine ⟨⟨by omega, ?_⟩, a1⟩
    rw [e, h.at (by omega) (by omega)]
    exact a3
section SEA
variable {xs : RO} {d : Nat} {I : IM} {L : LM}

theorem c_Sear_seenFrom {w : Int64} {P : Int → Int → Prop} {x y : Int} (h : LB w P) (hx : -4 ≤ x ∧ x ≤ 4) (hy : -4 ≤ y ∧ y ≤ 4) : Wk xs x_Sear_seenFrom d 0 0 0 [some (vl w), none, some (vi x), some (vi y), none, none, none, none, none] [] X2 I L (pLB (offP P x y) I L) := by
  refine Wk.iload_n (k := 3) (q := 1) (by decide +kernel) rfl rfl rfl ?_
  refine Wk.bipush (n := 8) (q := 3) (by decide +kernel) (by decide +kernel) rfl ?_
  refine Wk.imul (q := 4) (by decide +kernel) rfl ?_
  refine Wk.iload_n (k := 2) (q := 5) (by decide +kernel) rfl rfl rfl ?_
  refine Wk.iadd (q := 6) (by decide +kernel) rfl ?_
  refine Wk.istore (i := 4) (q := 8) (by decide +kernel) (by decide) rfl (fun _ h => h) rfl ?_
  refine Wk.iload (i := 4) (q := 10) (by decide +kernel) rfl rfl ?_
  refine Wk.if_lt (off := (10)) (t := 20) (q := 13) (by decide +kernel) (by decide) rfl (by first | omega | exact bi_rng _) (fun hc10 => ?_) (fun hc10 => ?_)
  · refine Wk.lload_n (k := 0) (q := 21) (by decide +kernel) rfl rfl rfl ?_
    refine Wk.iload (i := 4) (q := 23) (by decide +kernel) rfl rfl ?_
    refine Wk.ineg (q := 24) (by decide +kernel) rfl ?_
    refine Wk.lshl (q := 25) (by decide +kernel) rfl ?_
    refine Wk.lstore (i := 5) (q := 27) (by decide +kernel) (by decide) rfl (fun _ h => h) rfl ?_
    refine Wk.iload_n (k := 2) (q := 28) (by decide +kernel) rfl rfl rfl ?_
    refine Wk.if_lt (off := (11)) (t := 39) (q := 31) (by decide +kernel) (by decide) rfl (by first | omega | exact bi_rng _) (fun hc28 => ?_) (fun hc28 => ?_)
    · refine Wk.ldc2 (q := 42) k_Sear_158 (by decide +kernel) rfl ?_
      refine Wk.iload_n (k := 2) (q := 43) (by decide +kernel) rfl rfl rfl ?_
      refine Wk.ineg (q := 44) (by decide +kernel) rfl ?_
      refine Wk.lshl (q := 45) (by decide +kernel) rfl ?_
      refine Wk.ldc2 (q := 48) k_Sear_158 (by decide +kernel) rfl ?_
      refine Wk.land (q := 49) (by decide +kernel) rfl ?_
      refine Wk.lstore (i := 7) (q := 51) (by decide +kernel) (by decide) rfl (fun _ h => h) rfl ?_
      refine Wk.lload (i := 5) (q := 53) (by decide +kernel) rfl rfl ?_
      refine Wk.lload (i := 7) (q := 55) (by decide +kernel) rfl rfl ?_
      refine Wk.ldc2 (q := 58) k_Sear_160 (by decide +kernel) rfl ?_
      refine Wk.lmul (q := 59) (by decide +kernel) rfl ?_
      refine Wk.land (q := 60) (by decide +kernel) rfl ?_
      exact Wk.rlP (by decide +kernel) rfl (⟨⟨_, rfl, seen_of h hx hy (fun s s0 s1 => by
      first
        | (rw [colP' (by omega) ⟨s0, s1⟩]; omega)
        | (rw [colN' (by omega) ⟨s0, s1⟩]; omega)) (fun s s0 s1 => by
      first
        | (rw [bl_ushr w (by omega) (by omega) s0]; exact ⟨fun q => ⟨by omega, q⟩, fun q => q.2⟩)
        | (rw [bl_shl w (by omega) (by omega) s0 s1, Bool.and_eq_true, decide_eq_true_eq, show s - -(y * 8 + x) = s + (y * 8 + x) by omega]; exact ⟨fun q => ⟨by omega, q.2⟩, fun q => ⟨by omega, q.2⟩⟩))⟩, rfl, rfl⟩)
    · refine Wk.ldc2 (q := 34) k_Sear_158 (by decide +kernel) rfl ?_
      refine Wk.iload_n (k := 2) (q := 35) (by decide +kernel) rfl rfl rfl ?_
      refine Wk.lushr (q := 36) (by decide +kernel) rfl ?_
      refine Wk.goto (off := (13)) (q := 49) (by decide +kernel) (by decide) ?_
      refine Wk.lstore (i := 7) (q := 51) (by decide +kernel) (by decide) rfl (fun _ h => h) rfl ?_
      refine Wk.lload (i := 5) (q := 53) (by decide +kernel) rfl rfl ?_
      refine Wk.lload (i := 7) (q := 55) (by decide +kernel) rfl rfl ?_
      refine Wk.ldc2 (q := 58) k_Sear_160 (by decide +kernel) rfl ?_
      refine Wk.lmul (q := 59) (by decide +kernel) rfl ?_
      refine Wk.land (q := 60) (by decide +kernel) rfl ?_
      exact Wk.rlP (by decide +kernel) rfl (⟨⟨_, rfl, seen_of h hx hy (fun s s0 s1 => by
      first
        | (rw [colP' (by omega) ⟨s0, s1⟩]; omega)
        | (rw [colN' (by omega) ⟨s0, s1⟩]; omega)) (fun s s0 s1 => by
      first
        | (rw [bl_ushr w (by omega) (by omega) s0]; exact ⟨fun q => ⟨by omega, q⟩, fun q => q.2⟩)
        | (rw [bl_shl w (by omega) (by omega) s0 s1, Bool.and_eq_true, decide_eq_true_eq, show s - -(y * 8 + x) = s + (y * 8 + x) by omega]; exact ⟨fun q => ⟨by omega, q.2⟩, fun q => ⟨by omega, q.2⟩⟩))⟩, rfl, rfl⟩)
  · refine Wk.lload_n (k := 0) (q := 14) (by decide +kernel) rfl rfl rfl ?_
    refine Wk.iload (i := 4) (q := 16) (by decide +kernel) rfl rfl ?_
    refine Wk.lushr (q := 17) (by decide +kernel) rfl ?_
    refine Wk.goto (off := (8)) (q := 25) (by decide +kernel) (by decide) ?_
    refine Wk.lstore (i := 5) (q := 27) (by decide +kernel) (by decide) rfl (fun _ h => h) rfl ?_
    refine Wk.iload_n (k := 2) (q := 28) (by decide +kernel) rfl rfl rfl ?_
    refine Wk.if_lt (off := (11)) (t := 39) (q := 31) (by decide +kernel) (by decide) rfl (by first | omega | exact bi_rng _) (fun hc28 => ?_) (fun hc28 => ?_)
    · refine Wk.ldc2 (q := 42) k_Sear_158 (by decide +kernel) rfl ?_
      refine Wk.iload_n (k := 2) (q := 43) (by decide +kernel) rfl rfl rfl ?_
      refine Wk.ineg (q := 44) (by decide +kernel) rfl ?_
      refine Wk.lshl (q := 45) (by decide +kernel) rfl ?_
      refine Wk.ldc2 (q := 48) k_Sear_158 (by decide +kernel) rfl ?_
      refine Wk.land (q := 49) (by decide +kernel) rfl ?_
      refine Wk.lstore (i := 7) (q := 51) (by decide +kernel) (by decide) rfl (fun _ h => h) rfl ?_
      refine Wk.lload (i := 5) (q := 53) (by decide +kernel) rfl rfl ?_
      refine Wk.lload (i := 7) (q := 55) (by decide +kernel) rfl rfl ?_
      refine Wk.ldc2 (q := 58) k_Sear_160 (by decide +kernel) rfl ?_
      refine Wk.lmul (q := 59) (by decide +kernel) rfl ?_
      refine Wk.land (q := 60) (by decide +kernel) rfl ?_
      exact Wk.rlP (by decide +kernel) rfl (⟨⟨_, rfl, seen_of h hx hy (fun s s0 s1 => by
      first
        | (rw [colP' (by omega) ⟨s0, s1⟩]; omega)
        | (rw [colN' (by omega) ⟨s0, s1⟩]; omega)) (fun s s0 s1 => by
      first
        | (rw [bl_ushr w (by omega) (by omega) s0]; exact ⟨fun q => ⟨by omega, q⟩, fun q => q.2⟩)
        | (rw [bl_shl w (by omega) (by omega) s0 s1, Bool.and_eq_true, decide_eq_true_eq, show s - -(y * 8 + x) = s + (y * 8 + x) by omega]; exact ⟨fun q => ⟨by omega, q.2⟩, fun q => ⟨by omega, q.2⟩⟩))⟩, rfl, rfl⟩)
    · refine Wk.ldc2 (q := 34) k_Sear_158 (by decide +kernel) rfl ?_
      refine Wk.iload_n (k := 2) (q := 35) (by decide +kernel) rfl rfl rfl ?_
      refine Wk.lushr (q := 36) (by decide +kernel) rfl ?_
      refine Wk.goto (off := (13)) (q := 49) (by decide +kernel) (by decide) ?_
      refine Wk.lstore (i := 7) (q := 51) (by decide +kernel) (by decide) rfl (fun _ h => h) rfl ?_
      refine Wk.lload (i := 5) (q := 53) (by decide +kernel) rfl rfl ?_
      refine Wk.lload (i := 7) (q := 55) (by decide +kernel) rfl rfl ?_
      refine Wk.ldc2 (q := 58) k_Sear_160 (by decide +kernel) rfl ?_
      refine Wk.lmul (q := 59) (by decide +kernel) rfl ?_
      refine Wk.land (q := 60) (by decide +kernel) rfl ?_
      exact Wk.rlP (by decide +kernel) rfl (⟨⟨_, rfl, seen_of h hx hy (fun s s0 s1 => by
      first
        | (rw [colP' (by omega) ⟨s0, s1⟩]; omega)
        | (rw [colN' (by omega) ⟨s0, s1⟩]; omega)) (fun s s0 s1 => by
      first
        | (rw [bl_ushr w (by omega) (by omega) s0]; exact ⟨fun q => ⟨by omega, q⟩, fun q => q.2⟩)
        | (rw [bl_shl w (by omega) (by omega) s0 s1, Bool.and_eq_true, decide_eq_true_eq, show s - -(y * 8 + x) = s + (y * 8 + x) by omega]; exact ⟨fun q => ⟨by omega, q.2⟩, fun q => ⟨by omega, q.2⟩⟩))⟩, rfl, rfl⟩)
theorem c_Sear_square {x y n : Int} (hx : 0 ≤ x ∧ x + n ≤ 8) (hy : 0 ≤ y ∧ y + n ≤ 8) (hn : 0 ≤ n ∧ n ≤ 3) : Wk xs x_Sear_square (d + 1) 0 0 0 [some (vi x), some (vi y), some (vi n), none, none, none, none] [] X2 I L (pLB (fun cx cy => (x ≤ cx ∧ cx < x + n) ∧ y ≤ cy ∧ cy < y + n) I L) := by
  have key : ∀ o8 : Option AV, Wk xs x_Sear_square (d + 1) 0 0 5 [some (vi x), some (vi y), some (vi n), some (vl 0), none, some (vi 0), o8] [] X2 I L (pLB (fun cx cy => (x ≤ cx ∧ cx < x + n) ∧ y ≤ cy ∧ cy < y + n) I L) := by
    intro o8
    refine loopS (σ := Int64 × Option AV) (fun j s => Wk xs x_Sear_square (d + 1) 0 0 5 [some (vi x), some (vi y), some (vi n), some (vl s.1), none, some (vi j), s.2] [] X2 I L (pLB (fun cx cy => (x ≤ cx ∧ cx < x + n) ∧ y ≤ cy ∧ cy < y + n) I L)) (fun j s => LB s.1 (fun cx cy => (x ≤ cx ∧ cx < x + n) ∧ y ≤ cy ∧ cy < y + j)) n 0 (0, o8) (by omega) (LB.zero (fun x y q => by omega)) ?_ ?_
    · intro s hJ
      obtain ⟨u, o9⟩ := s
      simp only at hJ ⊢
      refine Wk.iload (i := 5) (q := 7) (by decide +kernel) rfl rfl ?_
      refine Wk.iload_n (k := 2) (q := 8) (by decide +kernel) rfl rfl rfl ?_
      refine Wk.icmp_ge (off := (40)) (t := 48) (q := 11) (by decide +kernel) (by decide) rfl (by first | omega | exact bi_rng _) (by first | omega | exact bi_rng _) (fun hc8 => ?_) (fun hc8 => ?_)
      · refine Wk.lload_n (k := 3) (q := 49) (by decide +kernel) rfl rfl rfl ?_
        exact Wk.rlP (by decide +kernel) rfl (⟨⟨u, rfl, hJ⟩, rfl, rfl⟩)
      · omega
    · intro j s y0 y1 hJ ih
      obtain ⟨u, o9⟩ := s
      simp only at hJ ⊢
      refine Wk.iload (i := 5) (q := 7) (by decide +kernel) rfl rfl ?_
      refine Wk.iload_n (k := 2) (q := 8) (by decide +kernel) rfl rfl rfl ?_
      refine Wk.icmp_ge (off := (40)) (t := 48) (q := 11) (by decide +kernel) (by decide) rfl (by first | omega | exact bi_rng _) (by first | omega | exact bi_rng _) (fun hc8 => ?_) (fun hc8 => ?_)
      · omega
      · have key2 : Wk xs x_Sear_square (d + 1) 0 0 14 [some (vi x), some (vi y), some (vi n), some (vl u), none, some (vi j), some (vi 0)] [] X2 I L (pLB (fun cx cy => (x ≤ cx ∧ cx < x + n) ∧ y ≤ cy ∧ cy < y + n) I L) := by
          refine loopS (σ := Int64) (fun i u => Wk xs x_Sear_square (d + 1) 0 0 14 [some (vi x), some (vi y), some (vi n), some (vl u), none, some (vi j), some (vi i)] [] X2 I L (pLB (fun cx cy => (x ≤ cx ∧ cx < x + n) ∧ y ≤ cy ∧ cy < y + n) I L)) (fun i u => LB u (fun cx cy => ((x ≤ cx ∧ cx < x + n) ∧ y ≤ cy ∧ cy < y + j) ∨ ((x ≤ cx ∧ cx < x + i) ∧ cy = y + j))) n 0 u (by omega) (hJ.cong (fun cx cy _ _ _ _ => by omega)) ?_ ?_
          · intro u hM
            refine Wk.iload (i := 6) (q := 16) (by decide +kernel) rfl rfl ?_
            refine Wk.iload_n (k := 2) (q := 17) (by decide +kernel) rfl rfl rfl ?_
            refine Wk.icmp_ge (off := (25)) (t := 42) (q := 20) (by decide +kernel) (by decide) rfl (by first | omega | exact bi_rng _) (by first | omega | exact bi_rng _) (fun hc17 => ?_) (fun hc17 => ?_)
            · refine Wk.iinc (i := 5) (n := 1) (q := 45) (by decide +kernel) rfl (by decide) rfl (fun _ h => h) rfl ?_
              refine Wk.goto (off := (-40)) (q := 5) (by decide +kernel) (by decide) ?_
              exact ih (u, _) (hM.cong (fun cx cy _ _ _ _ => by omega))
            · omega
          · intro i u x0 x1 hM ih2
            refine Wk.iload (i := 6) (q := 16) (by decide +kernel) rfl rfl ?_
            refine Wk.iload_n (k := 2) (q := 17) (by decide +kernel) rfl rfl rfl ?_
            refine Wk.icmp_ge (off := (25)) (t := 42) (q := 20) (by decide +kernel) (by decide) rfl (by first | omega | exact bi_rng _) (by first | omega | exact bi_rng _) (fun hc17 => ?_) (fun hc17 => ?_)
            · omega
            · refine Wk.lload_n (k := 3) (q := 21) (by decide +kernel) rfl rfl rfl ?_
              refine Wk.lconst (n := 1) (v := 1) (q := 22) (by decide +kernel) rfl rfl ?_
              refine Wk.iload_n (k := 0) (q := 23) (by decide +kernel) rfl rfl rfl ?_
              refine Wk.iload (i := 6) (q := 25) (by decide +kernel) rfl rfl ?_
              refine Wk.iadd (q := 26) (by decide +kernel) rfl ?_
              refine Wk.iload_n (k := 1) (q := 27) (by decide +kernel) rfl rfl rfl ?_
              refine Wk.iload (i := 5) (q := 29) (by decide +kernel) rfl rfl ?_
              refine Wk.iadd (q := 30) (by decide +kernel) rfl ?_
              refine Wk.cNi (q := 33) ln_Sear_93 m_Sw_spotAt (by decide +kernel) (fun _ h => h) (Nat.le_of_ble_eq_true rfl) (Nat.le_of_ble_eq_true rfl) rfl (c_Sw_spotAt) rfl ?_
              refine Wk.lshl (q := 34) (by decide +kernel) rfl ?_
              refine Wk.lor (q := 35) (by decide +kernel) rfl ?_
              refine Wk.lstore_n (k := 3) (q := 36) (by decide +kernel) rfl (by decide) rfl (fun _ h => h) rfl ?_
              refine Wk.iinc (i := 6) (n := 1) (q := 39) (by decide +kernel) rfl (by decide) rfl (fun _ h => h) rfl ?_
              refine Wk.goto (off := (-25)) (q := 14) (by decide +kernel) (by decide) ?_
              exact ih2 _ ((hM.or (LB.one (x := x + i) (y := y + j) (by omega) (by omega))).cong (fun cx cy _ _ _ _ => by omega))
        refine Wk.iconst (n := 0) (q := 12) (by decide +kernel) rfl ?_
        refine Wk.istore (i := 6) (q := 14) (by decide +kernel) (by decide) rfl (fun _ h => h) rfl ?_
        exact key2
  refine Wk.lconst (n := 0) (v := 0) (q := 1) (by decide +kernel) rfl rfl ?_
  refine Wk.lstore_n (k := 3) (q := 2) (by decide +kernel) rfl (by decide) rfl (fun _ h => h) rfl ?_
  refine Wk.iconst (n := 0) (q := 3) (by decide +kernel) rfl ?_
  refine Wk.istore (i := 5) (q := 5) (by decide +kernel) (by decide) rfl (fun _ h => h) rfl ?_
  exact key none
theorem c_Sear_squareIn {w : Int64} {P : Int → Int → Prop} {x y n : Int} (h : LB w P) (hx : -2 ≤ x ∧ x ≤ 2) (hy : -2 ≤ y ∧ y ≤ 2) (hn : 0 ≤ n ∧ n ≤ 2) : Wk xs x_Sear_squareIn (d + 1) 0 0 0 [some (vl w), none, some (vi x), some (vi y), some (vi n), none, none, none, none] [] X2 I L (pLB (fun sx sy => ∀ i j, 0 ≤ i → i < n → 0 ≤ j → j < n → offP P (x + i) (y + j) sx sy) I L) := by
  have key : ∀ o8 : Option AV, Wk xs x_Sear_squareIn (d + 1) 0 0 8 [some (vl w), none, some (vi x), some (vi y), some (vi n), some (vl (-1)), none, some (vi 0), o8] [] X2 I L (pLB (fun sx sy => ∀ i j, 0 ≤ i → i < n → 0 ≤ j → j < n → offP P (x + i) (y + j) sx sy) I L) := by
    intro o8
    refine loopS (σ := Int64 × Option AV) (fun j s => Wk xs x_Sear_squareIn (d + 1) 0 0 8 [some (vl w), none, some (vi x), some (vi y), some (vi n), some (vl s.1), none, some (vi j), s.2] [] X2 I L (pLB (fun sx sy => ∀ i j, 0 ≤ i → i < n → 0 ≤ j → j < n → offP P (x + i) (y + j) sx sy) I L)) (fun j s => LB s.1 (fun sx sy => ∀ i b, 0 ≤ i → i < n → 0 ≤ b → b < j → offP P (x + i) (y + b) sx sy)) n 0 (-1, o8) (by omega) (fun s s0 s1 => ⟨fun _ i b _ _ b0 b1 => by omega, fun _ => bl_m1 s0 s1⟩) ?_ ?_
    · intro s hJ
      obtain ⟨u, o9⟩ := s
      simp only at hJ ⊢
      refine Wk.iload (i := 7) (q := 10) (by decide +kernel) rfl rfl ?_
      refine Wk.iload (i := 4) (q := 12) (by decide +kernel) rfl rfl ?_
      refine Wk.icmp_ge (off := (42)) (t := 54) (q := 15) (by decide +kernel) (by decide) rfl (by first | omega | exact bi_rng _) (by first | omega | exact bi_rng _) (fun hc12 => ?_) (fun hc12 => ?_)
      · refine Wk.lload (i := 5) (q := 56) (by decide +kernel) rfl rfl ?_
        exact Wk.rlP (by decide +kernel) rfl (⟨⟨u, rfl, hJ⟩, rfl, rfl⟩)
      · omega
    · intro j s y0 y1 hJ ih
      obtain ⟨u, o9⟩ := s
      simp only at hJ ⊢
      refine Wk.iload (i := 7) (q := 10) (by decide +kernel) rfl rfl ?_
      refine Wk.iload (i := 4) (q := 12) (by decide +kernel) rfl rfl ?_
      refine Wk.icmp_ge (off := (42)) (t := 54) (q := 15) (by decide +kernel) (by decide) rfl (by first | omega | exact bi_rng _) (by first | omega | exact bi_rng _) (fun hc12 => ?_) (fun hc12 => ?_)
      · omega
      · have key2 : Wk xs x_Sear_squareIn (d + 1) 0 0 18 [some (vl w), none, some (vi x), some (vi y), some (vi n), some (vl u), none, some (vi j), some (vi 0)] [] X2 I L (pLB (fun sx sy => ∀ i j, 0 ≤ i → i < n → 0 ≤ j → j < n → offP P (x + i) (y + j) sx sy) I L) := by
          refine loopS (σ := Int64) (fun i u => Wk xs x_Sear_squareIn (d + 1) 0 0 18 [some (vl w), none, some (vi x), some (vi y), some (vi n), some (vl u), none, some (vi j), some (vi i)] [] X2 I L (pLB (fun sx sy => ∀ i j, 0 ≤ i → i < n → 0 ≤ j → j < n → offP P (x + i) (y + j) sx sy) I L)) (fun i u => LB u (fun sx sy => (∀ i b, 0 ≤ i → i < n → 0 ≤ b → b < j → offP P (x + i) (y + b) sx sy) ∧ ∀ a, 0 ≤ a → a < i → offP P (x + a) (y + j) sx sy)) n 0 u (by omega) (hJ.cong (fun cx cy _ _ _ _ => ⟨fun q => ⟨q, fun a a0 a1 => by omega⟩, fun q => q.1⟩)) ?_ ?_
          · intro u hM
            refine Wk.iload (i := 8) (q := 20) (by decide +kernel) rfl rfl ?_
            refine Wk.iload (i := 4) (q := 22) (by decide +kernel) rfl rfl ?_
            refine Wk.icmp_ge (off := (26)) (t := 48) (q := 25) (by decide +kernel) (by decide) rfl (by first | omega | exact bi_rng _) (by first | omega | exact bi_rng _) (fun hc22 => ?_) (fun hc22 => ?_)
            · refine Wk.iinc (i := 7) (n := 1) (q := 51) (by decide +kernel) rfl (by decide) rfl (fun _ h => h) rfl ?_
              refine Wk.goto (off := (-43)) (q := 8) (by decide +kernel) (by decide) ?_
              exact ih (u, _) (hM.cong (fun cx cy _ _ _ _ => ⟨fun q i b i0 i1 => ext1 (fun b b0 b1 => q.1 i b i0 i1 b0 b1) (q.2 i i0 i1) b, fun q => ⟨fun i b i0 i1 b0 b1 => q i b i0 i1 b0 (by omega), fun a a0 a1 => q a j a0 a1 y0 (by omega)⟩⟩))
            · omega
          · intro i u x0 x1 hM ih2
            refine Wk.iload (i := 8) (q := 20) (by decide +kernel) rfl rfl ?_
            refine Wk.iload (i := 4) (q := 22) (by decide +kernel) rfl rfl ?_
            refine Wk.icmp_ge (off := (26)) (t := 48) (q := 25) (by decide +kernel) (by decide) rfl (by first | omega | exact bi_rng _) (by first | omega | exact bi_rng _) (fun hc22 => ?_) (fun hc22 => ?_)
            · omega
            · refine Wk.lload (i := 5) (q := 27) (by decide +kernel) rfl rfl ?_
              refine Wk.lload_n (k := 0) (q := 28) (by decide +kernel) rfl rfl rfl ?_
              refine Wk.iload_n (k := 2) (q := 29) (by decide +kernel) rfl rfl rfl ?_
              refine Wk.iload (i := 8) (q := 31) (by decide +kernel) rfl rfl ?_
              refine Wk.iadd (q := 32) (by decide +kernel) rfl ?_
              refine Wk.iload_n (k := 3) (q := 33) (by decide +kernel) rfl rfl rfl ?_
              refine Wk.iload (i := 7) (q := 35) (by decide +kernel) rfl rfl ?_
              refine Wk.iadd (q := 36) (by decide +kernel) rfl ?_
              refine Wk.cS (q := 39) l_Sear_103 m_Sear_seenFrom (by decide +kernel) (fun _ h => h) (Nat.le_of_ble_eq_true rfl) (Nat.le_of_ble_eq_true rfl) rfl (c_Sear_seenFrom h (by omega) (by omega)) rfl (fun v I' L' hP => ?_)
              obtain ⟨⟨z, rfl, hz⟩, rfl, rfl⟩ := hP
              refine Wk.land (q := 40) (by decide +kernel) rfl ?_
              refine Wk.lstore (i := 5) (q := 42) (by decide +kernel) (by decide) rfl (fun _ h => h) rfl ?_
              refine Wk.iinc (i := 8) (n := 1) (q := 45) (by decide +kernel) rfl (by decide) rfl (fun _ h => h) rfl ?_
              refine Wk.goto (off := (-27)) (q := 18) (by decide +kernel) (by decide) ?_
              exact ih2 _ ((hM.and hz).cong (fun cx cy _ _ _ _ => ⟨fun q => ⟨q.1.1, ext1 q.1.2 q.2⟩, fun q => ⟨⟨q.1, fun a a0 a1 => q.2 a a0 (by omega)⟩, q.2 i x0 (by omega)⟩⟩))
        refine Wk.iconst (n := 0) (q := 16) (by decide +kernel) rfl ?_
        refine Wk.istore (i := 8) (q := 18) (by decide +kernel) (by decide) rfl (fun _ h => h) rfl ?_
        exact key2
  refine Wk.ldc2 (q := 3) k_Sear_85 (by decide +kernel) rfl ?_
  refine Wk.lstore (i := 5) (q := 5) (by decide +kernel) (by decide) rfl (fun _ h => h) rfl ?_
  refine Wk.iconst (n := 0) (q := 6) (by decide +kernel) rfl ?_
  refine Wk.istore (i := 7) (q := 8) (by decide +kernel) (by decide) rfl (fun _ h => h) rfl ?_
  exact key none
theorem c_Sear_deepSpots {r : Int} (hr : 0 ≤ r ∧ r ≤ 9) (hC : CI0 I) : Wk xs x_Sear_deepSpots (d + 2) 0 0 0 [some (vr 1), some (vi r), none, none, none, none] [] X2 I L (pLB (fun cx cy => inE (I 1 0) (I 1 1) cx cy ∧ r ≤ cwat I cx cy) I L) := by
  have hW := hC.1
  have hH := hC.2.1
  have key : ∀ o8 : Option AV, Wk xs x_Sear_deepSpots (d + 2) 0 0 5 [some (vr 1), some (vi r), some (vl 0), none, some (vi 0), o8] [] X2 I L (pLB (fun cx cy => inE (I 1 0) (I 1 1) cx cy ∧ r ≤ cwat I cx cy) I L) := by
    intro o8
    refine loopS (σ := Int64 × Option AV) (fun y s => Wk xs x_Sear_deepSpots (d + 2) 0 0 5 [some (vr 1), some (vi r), some (vl s.1), none, some (vi y), s.2] [] X2 I L (pLB (fun cx cy => inE (I 1 0) (I 1 1) cx cy ∧ r ≤ cwat I cx cy) I L)) (fun y s => LB s.1 (fun cx cy => (inE (I 1 0) (I 1 1) cx cy ∧ r ≤ cwat I cx cy) ∧ cy < y)) (I 1 1) 0 (0, o8) (by omega) (LB.zero (fun x y q => by have := q.1.1; unfold inE at this; omega)) ?_ ?_
    · intro s hJ
      obtain ⟨u, o9⟩ := s
      simp only at hJ ⊢
      refine Wk.iload (i := 4) (q := 7) (by decide +kernel) rfl rfl ?_
      refine Wk.aload_n (k := 0) (q := 8) (by decide +kernel) rfl rfl rfl ?_
      refine Wk.getI (z := 1) (q := 11) f_Sear_146 (by decide +kernel) O_1 (by decide) rfl rfl rfl ?_
      refine Wk.icmp_ge (off := (51)) (t := 62) (q := 14) (by decide +kernel) (by decide) rfl (by first | omega | exact bi_rng _) (by first | omega | exact bi_rng _) (fun hc11 => ?_) (fun hc11 => ?_)
      · refine Wk.lload_n (k := 2) (q := 63) (by decide +kernel) rfl rfl rfl ?_
        exact Wk.rlP (by decide +kernel) rfl (⟨⟨u, rfl, hJ.cong (fun cx cy _ _ _ _ => ⟨fun q => q.1, fun q => ⟨q, q.1.2.2.2⟩⟩)⟩, rfl, rfl⟩)
      · omega
    · intro y s y0 y1 hJ ih
      obtain ⟨u, o9⟩ := s
      simp only at hJ ⊢
      refine Wk.iload (i := 4) (q := 7) (by decide +kernel) rfl rfl ?_
      refine Wk.aload_n (k := 0) (q := 8) (by decide +kernel) rfl rfl rfl ?_
      refine Wk.getI (z := 1) (q := 11) f_Sear_146 (by decide +kernel) O_1 (by decide) rfl rfl rfl ?_
      refine Wk.icmp_ge (off := (51)) (t := 62) (q := 14) (by decide +kernel) (by decide) rfl (by first | omega | exact bi_rng _) (by first | omega | exact bi_rng _) (fun hc11 => ?_) (fun hc11 => ?_)
      · omega
      · have key2 : Wk xs x_Sear_deepSpots (d + 2) 0 0 17 [some (vr 1), some (vi r), some (vl u), none, some (vi y), some (vi 0)] [] X2 I L (pLB (fun cx cy => inE (I 1 0) (I 1 1) cx cy ∧ r ≤ cwat I cx cy) I L) := by
          refine loopS (σ := Int64) (fun x u => Wk xs x_Sear_deepSpots (d + 2) 0 0 17 [some (vr 1), some (vi r), some (vl u), none, some (vi y), some (vi x)] [] X2 I L (pLB (fun cx cy => inE (I 1 0) (I 1 1) cx cy ∧ r ≤ cwat I cx cy) I L)) (fun x u => LB u (fun cx cy => (inE (I 1 0) (I 1 1) cx cy ∧ r ≤ cwat I cx cy) ∧ (cy < y ∨ (cy = y ∧ cx < x)))) (I 1 0) 0 u (by omega) (hJ.cong (fun cx cy _ _ _ _ => ⟨fun q => ⟨q.1, Or.inl q.2⟩, fun q => ⟨q.1, by omega⟩⟩)) ?_ ?_
          · intro u hM
            refine Wk.iload (i := 5) (q := 19) (by decide +kernel) rfl rfl ?_
            refine Wk.aload_n (k := 0) (q := 20) (by decide +kernel) rfl rfl rfl ?_
            refine Wk.getI (z := 0) (q := 23) f_Sear_149 (by decide +kernel) O_1 (by decide) rfl rfl rfl ?_
            refine Wk.icmp_ge (off := (33)) (t := 56) (q := 26) (by decide +kernel) (by decide) rfl (by first | omega | exact bi_rng _) (by first | omega | exact bi_rng _) (fun hc23 => ?_) (fun hc23 => ?_)
            · refine Wk.iinc (i := 4) (n := 1) (q := 59) (by decide +kernel) rfl (by decide) rfl (fun _ h => h) rfl ?_
              refine Wk.goto (off := (-54)) (q := 5) (by decide +kernel) (by decide) ?_
              exact ih (u, _) (hM.cong (fun cx cy _ _ _ _ => ⟨fun q => ⟨q.1, by omega⟩, fun q => ⟨q.1, by have := q.1.1.2.1; omega⟩⟩))
            · omega
          · intro x u x0 x1 hM ih2
            have hw := cwat_range hC x y
            refine Wk.iload (i := 5) (q := 19) (by decide +kernel) rfl rfl ?_
            refine Wk.aload_n (k := 0) (q := 20) (by decide +kernel) rfl rfl rfl ?_
            refine Wk.getI (z := 0) (q := 23) f_Sear_149 (by decide +kernel) O_1 (by decide) rfl rfl rfl ?_
            refine Wk.icmp_ge (off := (33)) (t := 56) (q := 26) (by decide +kernel) (by decide) rfl (by first | omega | exact bi_rng _) (by first | omega | exact bi_rng _) (fun hc23 => ?_) (fun hc23 => ?_)
            · omega
            · refine Wk.aload_n (k := 0) (q := 27) (by decide +kernel) rfl rfl rfl ?_
              refine Wk.iload (i := 5) (q := 29) (by decide +kernel) rfl rfl ?_
              refine Wk.iload (i := 4) (q := 31) (by decide +kernel) rfl rfl ?_
              refine Wk.cVi (q := 34) l_Sear_152 m_Harb_water (by decide +kernel) (fun _ h => h) O_1 rfl (Nat.le_of_ble_eq_true rfl) (Nat.le_of_ble_eq_true rfl) rfl (c_Harb_water (by omega) (by omega) hC) rfl ?_
              refine Wk.iload_n (k := 1) (q := 35) (by decide +kernel) rfl rfl rfl ?_
              refine Wk.icmp_lt (off := (15)) (t := 50) (q := 38) (by decide +kernel) (by decide) rfl (by first | omega | exact bi_rng _) (by first | omega | exact bi_rng _) (fun hc35 => ?_) (fun hc35 => ?_)
              · refine Wk.iinc (i := 5) (n := 1) (q := 53) (by decide +kernel) rfl (by decide) rfl (fun _ h => h) rfl ?_
                refine Wk.goto (off := (-36)) (q := 17) (by decide +kernel) (by decide) ?_
                first
                  | (refine ih2 _ (hM.cong (fun cx cy _ _ _ _ => ⟨fun q => ⟨q.1, by omega⟩, fun q => ⟨q.1, ?_⟩⟩))
                     rcases Classical.em (cx = x ∧ cy = y) with e | e
                     · exfalso
                       have := q.1.2
                       rw [e.1, e.2] at this
                       omega
                     · omega)
                  | (refine ih2 _ ((hM.or (LB.one (x := x) (y := y) (by omega) (by omega))).cong (fun cx cy _ _ _ _ => ⟨fun q => ?_, fun q => ?_⟩))
                     · rcases q with q | ⟨rfl, rfl⟩
                       · exact ⟨q.1, by omega⟩
                       · exact ⟨⟨⟨by omega, by omega, by omega, by omega⟩, by omega⟩, by omega⟩
                     · rcases Classical.em (cx = x ∧ cy = y) with e | e
                       · exact Or.inr e
                       · exact Or.inl ⟨q.1, by omega⟩)
              · refine Wk.lload_n (k := 2) (q := 39) (by decide +kernel) rfl rfl rfl ?_
                refine Wk.lconst (n := 1) (v := 1) (q := 40) (by decide +kernel) rfl rfl ?_
                refine Wk.iload (i := 5) (q := 42) (by decide +kernel) rfl rfl ?_
                refine Wk.iload (i := 4) (q := 44) (by decide +kernel) rfl rfl ?_
                refine Wk.cNi (q := 47) ln_Sear_93 m_Sw_spotAt (by decide +kernel) (fun _ h => h) (Nat.le_of_ble_eq_true rfl) (Nat.le_of_ble_eq_true rfl) rfl (c_Sw_spotAt) rfl ?_
                refine Wk.lshl (q := 48) (by decide +kernel) rfl ?_
                refine Wk.lor (q := 49) (by decide +kernel) rfl ?_
                refine Wk.lstore_n (k := 2) (q := 50) (by decide +kernel) rfl (by decide) rfl (fun _ h => h) rfl ?_
                refine Wk.iinc (i := 5) (n := 1) (q := 53) (by decide +kernel) rfl (by decide) rfl (fun _ h => h) rfl ?_
                refine Wk.goto (off := (-36)) (q := 17) (by decide +kernel) (by decide) ?_
                first
                  | (refine ih2 _ (hM.cong (fun cx cy _ _ _ _ => ⟨fun q => ⟨q.1, by omega⟩, fun q => ⟨q.1, ?_⟩⟩))
                     rcases Classical.em (cx = x ∧ cy = y) with e | e
                     · exfalso
                       have := q.1.2
                       rw [e.1, e.2] at this
                       omega
                     · omega)
                  | (refine ih2 _ ((hM.or (LB.one (x := x) (y := y) (by omega) (by omega))).cong (fun cx cy _ _ _ _ => ⟨fun q => ?_, fun q => ?_⟩))
                     · rcases q with q | ⟨rfl, rfl⟩
                       · exact ⟨q.1, by omega⟩
                       · exact ⟨⟨⟨by omega, by omega, by omega, by omega⟩, by omega⟩, by omega⟩
                     · rcases Classical.em (cx = x ∧ cy = y) with e | e
                       · exact Or.inr e
                       · exact Or.inl ⟨q.1, by omega⟩)
        refine Wk.iconst (n := 0) (q := 15) (by decide +kernel) rfl ?_
        refine Wk.istore (i := 5) (q := 17) (by decide +kernel) (by decide) rfl (fun _ h => h) rfl ?_
        exact key2
  refine Wk.lconst (n := 0) (v := 0) (q := 1) (by decide +kernel) rfl rfl ?_
  refine Wk.lstore_n (k := 2) (q := 2) (by decide +kernel) rfl (by decide) rfl (fun _ h => h) rfl ?_
  refine Wk.iconst (n := 0) (q := 3) (by decide +kernel) rfl ?_
  refine Wk.istore (i := 4) (q := 5) (by decide +kernel) (by decide) rfl (fun _ h => h) rfl ?_
  exact key none
end SEA
end
section
/-! PLACES of one ship -/
abbrev cGood (I : IM) (s x y : Int) : Prop := inE (I 1 0) (I 1 1) x y ∧ ML (I 1 0) (I 1 1) (I 1 2) (I 2) (I 1 3) (I 3 s) (I 4 s) (I 5 s) x y
abbrev cBad (I : IM) (f s u v : Int) : Prop := CL (I 1 3) (I 4 f) (I 5 f) 3 3 (I 4 s) (I 5 s) u v
/-- of a slot all is known that is looked at -/
def LookOK (I : IM) (L : LM) (s : Int) : Prop := LB (L 125 s) (cGood I s) ∧ ∀ f, 0 ≤ f → f < 8 → Slot1 I f → ¬ f = s → LB (L 126 (f * 8 + s)) (cBad I f s)
/-- nothing but that has changed -/
def LookF (L L2 : LM) (s : Int) : Prop := (∀ c b, ¬ c = 125 → ¬ c = 126 → L2 c b = L c b) ∧ (∀ b, ¬ b = s → L2 125 b = L 125 b) ∧ ∀ f b, 0 ≤ f → f < 8 → 0 ≤ b → b < 8 → ¬ b = s → L2 126 (f * 8 + b) = L 126 (f * 8 + b)
theorem LookOK.kept {I : IM} {L L2 : LM} {s t : Int} (h : LookOK I L t) (hF : LookF L L2 s) (hst : ¬ t = s) (ht : 0 ≤ t ∧ t < 8) : LookOK I L2 t := by
  refine ⟨by rw [hF.2.1 t hst]; exact h.1, fun f f0 f1 f2 f3 => ?_⟩
  rw [hF.2.2 f t f0 f1 ht.1 ht.2 hst]
  exact h.2 f f0 f1 f2 f3
theorem mulD {c e v : Int} (hc : 0 ≤ c ∧ c ≤ 2) (he : 0 ≤ e ∧ e ≤ 2) (hv : -1 ≤ v ∧ v ≤ 1) : -2 ≤ c * v - e * v ∧ c * v - e * v ≤ 2 := by
  have h : v = -1 ∨ v = 0 ∨ v = 1 := by omega
  rcases h with rfl | rfl | rfl <;> omega
/-- two ships far apart don't clash; a clash is the same elsewhere -/
theorem cl_shift {F ca sa xa ya cs ss x y : Int} (hca : 0 ≤ ca ∧ ca ≤ 2) (hsa : 1 ≤ sa ∧ sa ≤ 2) (hcs : 0 ≤ cs ∧ cs ≤ 2) (hss : 1 ≤ ss ∧ ss ≤ 2) : offP (fun u v => CL F ca sa 3 3 cs ss u v) (3 - xa) (3 - ya) x y ↔ CL F ca sa xa ya cs ss x y := by
  constructor
  · rintro ⟨-, w, h0, h1, h2, h3⟩
    refine ⟨w, h0, h1, h2, ?_⟩
    unfold CLw at *
    omega
  · rintro ⟨w, h0, h1, h2, h3⟩
    have m1 := mulB hca (windX_r w)
    have m2 := mulB hca (windY_r w)
    have m3 := mulB hcs (windX_r w)
    have m4 := mulB hcs (windY_r w)
    have d1 := mulD hca hcs (windX_r w)
    have d2 := mulD hca hcs (windY_r w)
    unfold CLw at h3
    refine ⟨?_, w, h0, h1, h2, ?_⟩
    · unfold in8
      omega
    · unfold CLw
      omega
theorem cl_symm {F c1 s1 x1 y1 c2 s2 x2 y2 : Int} : CL F c1 s1 x1 y1 c2 s2 x2 y2 ↔ CL F c2 s2 x2 y2 c1 s1 x1 y1 := by
  constructor <;> rintro ⟨w, h0, h1, h2, h3⟩ <;> refine ⟨w, h0, h1, h2, ?_⟩ <;> unfold CLw at * <;> omega
section SEB
variable {xs : RO} {d : Nat} {I : IM} {L : LM}

theorem c_Sear_goodSpots {s : Int} (hs : Slot1 I s) (hC : CW I) : Wk xs x_Sear_goodSpots (d + 3) 0 0 0 [some (vr 1), some (vi s), none, none, none, none, none, none, none] [] X2 I L (pLB (cGood I s) I L) := by
  obtain ⟨hW, hH, -, hF, hA, hB, -⟩ := id hC.1
  obtain ⟨hdr, hch, hsd⟩ := hC.2.1 s hs
  have hs8 : 0 ≤ s ∧ s < 8 := by unfold Slot1 at hs; omega
  have key : ∀ (dp g0 : Int64), LB dp (fun cx cy => inE (I 1 0) (I 1 1) cx cy ∧ I 3 s ≤ cwat I cx cy) → LB g0 (fun cx cy => inE (I 1 0) (I 1 1) cx cy ∧ 0 ≤ cwat I cx cy) → Wk xs x_Sear_goodSpots (d + 3) 0 0 21 [some (vr 1), some (vi s), some (vl dp), none, some (vl g0), none, some (vi 0), none, none] [] X2 I L (pLB (cGood I s) I L) := by
    intro dp g0 hdp hg0
    refine loopS (σ := Int64 × Option AV × Option AV) (fun k t => Wk xs x_Sear_goodSpots (d + 3) 0 0 21 [some (vr 1), some (vi s), some (vl dp), none, some (vl t.1), none, some (vi k), t.2.1, t.2.2] [] X2 I L (pLB (cGood I s) I L)) (fun k t => LB t.1 (fun x y => inE (I 1 0) (I 1 1) x y ∧ ∀ w, 0 ≤ w → w < k → bt (I 1 3) w = true → ∀ i j, 0 ≤ i → i < I 5 s → 0 ≤ j → j < I 5 s → offP (fun cx cy => inE (I 1 0) (I 1 1) cx cy ∧ I 3 s ≤ cwat I cx cy) (I 4 s * windX w + i) (I 4 s * windY w + j) x y)) 8 0 (g0, none, none) (by omega) (hg0.cong (fun x y _ _ _ _ => ⟨fun q => ⟨q.1, fun w w0 w1 => by omega⟩, fun q => ⟨q.1, (cwat_range hC.1 x y).1⟩⟩)) ?_ ?_
    · intro t hJ
      obtain ⟨u, o7, o8⟩ := t
      simp only at hJ ⊢
      refine Wk.iload (i := 6) (q := 23) (by decide +kernel) rfl rfl ?_
      refine Wk.bipush (n := 8) (q := 25) (by decide +kernel) (by decide +kernel) rfl ?_
      refine Wk.icmp_ge (off := (70)) (t := 95) (q := 28) (by decide +kernel) (by decide) rfl (by first | omega | exact bi_rng _) (by first | omega | exact bi_rng _) (fun hc25 => ?_) (fun hc25 => ?_)
      · have hfin : LB u (cGood I s) := by
          refine hJ.cong (fun x y _ _ _ _ => ⟨fun q => ⟨q.1, fun w cx cy w0 w1 hb hl => ?_⟩, fun q => ⟨q.1, fun w w0 w1 hb i j i0 i1 j0 j1 => ?_⟩⟩)
          · obtain ⟨⟨l1, l2⟩, l3, l4⟩ := hl
            have hq := q.2 w w0 w1 hb (cx - (x + I 4 s * windX w)) (cy - (y + I 4 s * windY w)) (by omega) (by omega) (by omega) (by omega)
            have e1 : x + (I 4 s * windX w + (cx - (x + I 4 s * windX w))) = cx := by omega
            have e2 : y + (I 4 s * windY w + (cy - (y + I 4 s * windY w))) = cy := by omega
            unfold offP at hq
            rw [e1, e2] at hq
            exact hq.2
          · have hl := q.2 w (x + (I 4 s * windX w + i)) (y + (I 4 s * windY w + j)) w0 w1 hb ⟨⟨by omega, by omega⟩, by omega, by omega⟩
            have hi := hl.1
            unfold inE at hi
            exact ⟨⟨⟨by omega, by omega⟩, by omega, by omega⟩, hl⟩
        refine Wk.lload (i := 4) (q := 97) (by decide +kernel) rfl rfl ?_
        exact Wk.rlP (by decide +kernel) rfl (⟨⟨u, rfl, hfin⟩, rfl, rfl⟩)
      · omega
    · intro k t k0 k1 hJ ih
      obtain ⟨u, o7, o8⟩ := t
      simp only at hJ ⊢
      have m1 := mulB hch (windX_r k)
      have m2 := mulB hch (windY_r k)
      refine Wk.iload (i := 6) (q := 23) (by decide +kernel) rfl rfl ?_
      refine Wk.bipush (n := 8) (q := 25) (by decide +kernel) (by decide +kernel) rfl ?_
      refine Wk.icmp_ge (off := (70)) (t := 95) (q := 28) (by decide +kernel) (by decide) rfl (by first | omega | exact bi_rng _) (by first | omega | exact bi_rng _) (fun hc25 => ?_) (fun hc25 => ?_)
      · omega
      · refine Wk.aload_n (k := 0) (q := 29) (by decide +kernel) rfl rfl rfl ?_
        refine Wk.getI (z := 3) (q := 32) f_Sear_122 (by decide +kernel) O_1 (by decide) rfl rfl rfl ?_
        refine Wk.iload (i := 6) (q := 34) (by decide +kernel) rfl rfl ?_
        refine Wk.cSi (q := 37) l_Sear_125 m_Swing_blows (by decide +kernel) (fun _ h => h) (Nat.le_of_ble_eq_true rfl) (Nat.le_of_ble_eq_true rfl) rfl (c_Swing_blows (by omega) (by omega) (by omega) (by omega)) rfl ?_
        refine Wk.ifB_eq (off := (52)) (t := 89) (q := 40) (by decide +kernel) (by decide) rfl (fun hc37 => ?_) (fun hc37 => ?_)
        · refine Wk.iinc (i := 6) (n := 1) (q := 92) (by decide +kernel) rfl (by decide) rfl (fun _ h => h) rfl ?_
          refine Wk.goto (off := (-71)) (q := 21) (by decide +kernel) (by decide) ?_
          first
            | exact ih (_, _, _) (hJ.cong (fun x y _ _ _ _ => ⟨fun q => ⟨q.1, ext1 q.2 (fun z => absurd z hc37)⟩, fun q => ⟨q.1, fun w w0 w1 => q.2 w w0 (by omega)⟩⟩))
            | exact ih (_, _, _) ((hJ.and hz).cong (fun x y _ _ _ _ => ⟨fun q => ⟨q.1.1, ext1 q.1.2 (fun _ => q.2)⟩, fun q => ⟨⟨q.1, fun w w0 w1 => q.2 w w0 (by omega)⟩, q.2 k k0 (by omega) hc37⟩⟩))
        · refine Wk.aload_n (k := 0) (q := 41) (by decide +kernel) rfl rfl rfl ?_
          refine Wk.getR (r := 4) (q := 44) f_Sear_130 (by decide +kernel) O_1 (by decide) rfl rfl rfl ?_
          refine Wk.iload_n (k := 1) (q := 45) (by decide +kernel) rfl rfl rfl ?_
          refine Wk.iaload (q := 46) (by decide +kernel) A_4 (by first | omega | exact bi_rng _) (by first | omega | exact bi_rng _) rfl ?_
          refine Wk.getsX (q := 49) fs_Sear_133 (by decide +kernel) rfl ?_
          refine Wk.iload (i := 6) (q := 51) (by decide +kernel) rfl rfl ?_
          refine Wk.ialX (q := 52) (by decide +kernel) (by first | omega | exact bi_rng _) (by first | omega | exact bi_rng _) rfl ?_
          refine Wk.imul (q := 53) (by decide +kernel) rfl ?_
          refine Wk.istore (i := 7) (q := 55) (by decide +kernel) (by decide) rfl (fun _ h => h) rfl ?_
          refine Wk.aload_n (k := 0) (q := 56) (by decide +kernel) rfl rfl rfl ?_
          refine Wk.getR (r := 4) (q := 59) f_Sear_130 (by decide +kernel) O_1 (by decide) rfl rfl rfl ?_
          refine Wk.iload_n (k := 1) (q := 60) (by decide +kernel) rfl rfl rfl ?_
          refine Wk.iaload (q := 61) (by decide +kernel) A_4 (by first | omega | exact bi_rng _) (by first | omega | exact bi_rng _) rfl ?_
          refine Wk.getsY (q := 64) fs_Sear_136 (by decide +kernel) rfl ?_
          refine Wk.iload (i := 6) (q := 66) (by decide +kernel) rfl rfl ?_
          refine Wk.ialY (q := 67) (by decide +kernel) (by first | omega | exact bi_rng _) (by first | omega | exact bi_rng _) rfl ?_
          refine Wk.imul (q := 68) (by decide +kernel) rfl ?_
          refine Wk.istore (i := 8) (q := 70) (by decide +kernel) (by decide) rfl (fun _ h => h) rfl ?_
          refine Wk.lload (i := 4) (q := 72) (by decide +kernel) rfl rfl ?_
          refine Wk.lload_n (k := 2) (q := 73) (by decide +kernel) rfl rfl rfl ?_
          refine Wk.iload (i := 7) (q := 75) (by decide +kernel) rfl rfl ?_
          refine Wk.iload (i := 8) (q := 77) (by decide +kernel) rfl rfl ?_
          refine Wk.aload_n (k := 0) (q := 78) (by decide +kernel) rfl rfl rfl ?_
          refine Wk.getR (r := 5) (q := 81) f_Sear_139 (by decide +kernel) O_1 (by decide) rfl rfl rfl ?_
          refine Wk.iload_n (k := 1) (q := 82) (by decide +kernel) rfl rfl rfl ?_
          refine Wk.iaload (q := 83) (by decide +kernel) A_5 (by first | omega | exact bi_rng _) (by first | omega | exact bi_rng _) rfl ?_
          refine Wk.cS (q := 86) l_Sear_142 m_Sear_squareIn (by decide +kernel) (fun _ h => h) (Nat.le_of_ble_eq_true rfl) (Nat.le_of_ble_eq_true rfl) rfl (c_Sear_squareIn hdp (by omega) (by omega) (by omega)) rfl (fun v I' L' hP => ?_)
          obtain ⟨⟨z, rfl, hz⟩, rfl, rfl⟩ := hP
          refine Wk.land (q := 87) (by decide +kernel) rfl ?_
          refine Wk.lstore (i := 4) (q := 89) (by decide +kernel) (by decide) rfl (fun _ h => h) rfl ?_
          refine Wk.iinc (i := 6) (n := 1) (q := 92) (by decide +kernel) rfl (by decide) rfl (fun _ h => h) rfl ?_
          refine Wk.goto (off := (-71)) (q := 21) (by decide +kernel) (by decide) ?_
          first
            | exact ih (_, _, _) (hJ.cong (fun x y _ _ _ _ => ⟨fun q => ⟨q.1, ext1 q.2 (fun z => absurd z hc37)⟩, fun q => ⟨q.1, fun w w0 w1 => q.2 w w0 (by omega)⟩⟩))
            | exact ih (_, _, _) ((hJ.and hz).cong (fun x y _ _ _ _ => ⟨fun q => ⟨q.1.1, ext1 q.1.2 (fun _ => q.2)⟩, fun q => ⟨⟨q.1, fun w w0 w1 => q.2 w w0 (by omega)⟩, q.2 k k0 (by omega) hc37⟩⟩))
  refine Wk.aload_n (k := 0) (q := 1) (by decide +kernel) rfl rfl rfl ?_
  refine Wk.aload_n (k := 0) (q := 2) (by decide +kernel) rfl rfl rfl ?_
  refine Wk.getR (r := 3) (q := 5) f_Sear_116 (by decide +kernel) O_1 (by decide) rfl rfl rfl ?_
  refine Wk.iload_n (k := 1) (q := 6) (by decide +kernel) rfl rfl rfl ?_
  refine Wk.iaload (q := 7) (by decide +kernel) A_3 (by first | omega | exact bi_rng _) (by first | omega | exact bi_rng _) rfl ?_
  refine Wk.cS (q := 10) l_Sear_119 m_Sear_deepSpots (by decide +kernel) (fun _ h => h) (Nat.le_of_ble_eq_true rfl) (Nat.le_of_ble_eq_true rfl) rfl (c_Sear_deepSpots (by omega) hC.1) rfl (fun v I' L' hP => ?_)
  obtain ⟨⟨dp, rfl, hdp⟩, rfl, rfl⟩ := hP
  refine Wk.lstore_n (k := 2) (q := 11) (by decide +kernel) rfl (by decide) rfl (fun _ h => h) rfl ?_
  refine Wk.aload_n (k := 0) (q := 12) (by decide +kernel) rfl rfl rfl ?_
  refine Wk.iconst (n := 0) (q := 13) (by decide +kernel) rfl ?_
  refine Wk.cS (q := 16) l_Sear_119 m_Sear_deepSpots (by decide +kernel) (fun _ h => h) (Nat.le_of_ble_eq_true rfl) (Nat.le_of_ble_eq_true rfl) rfl (c_Sear_deepSpots (by omega) hC.1) rfl (fun v I' L' hP => ?_)
  obtain ⟨⟨g0, rfl, hg0⟩, rfl, rfl⟩ := hP
  refine Wk.lstore (i := 4) (q := 18) (by decide +kernel) (by decide) rfl (fun _ h => h) rfl ?_
  refine Wk.iconst (n := 0) (q := 19) (by decide +kernel) rfl ?_
  refine Wk.istore (i := 6) (q := 21) (by decide +kernel) (by decide) rfl (fun _ h => h) rfl ?_
  exact key dp g0 hdp hg0
theorem c_Sear_badSpots {f s : Int} (hf : Slot1 I f) (hs : Slot1 I s) (hC : CW I) : Wk xs x_Sear_badSpots (d + 2) 0 0 0 [some (vr 1), some (vi f), some (vi s), none, none, none, none, none, none] [] X2 I L (pLB (cBad I f s) I L) := by
  obtain ⟨hW, hH, -, hF, hA, hB, -⟩ := id hC.1
  obtain ⟨hdr, hch, hsd⟩ := hC.2.1 s hs
  have hs8 : 0 ≤ s ∧ s < 8 := by unfold Slot1 at hs; omega
  obtain ⟨-, hch2, hsd2⟩ := hC.2.1 f hf
  have hf8 : 0 ≤ f ∧ f < 8 := by unfold Slot1 at hf; omega
  have key : Wk xs x_Sear_badSpots (d + 2) 0 0 20 [some (vr 1), some (vi f), some (vi s), some (vi (I 4 f - I 4 s)), some (vl 0), none, some (vi 0), none, none] [] X2 I L (pLB (cBad I f s) I L) := by
    refine loopS (σ := Int64 × Option AV × Option AV) (fun k t => Wk xs x_Sear_badSpots (d + 2) 0 0 20 [some (vr 1), some (vi f), some (vi s), some (vi (I 4 f - I 4 s)), some (vl t.1), none, some (vi k), t.2.1, t.2.2] [] X2 I L (pLB (cBad I f s) I L)) (fun k t => LB t.1 (fun u v => ∃ w, (0 ≤ w ∧ w < k) ∧ bt (I 1 3) w = true ∧ CLw (I 4 f) (I 5 f) 3 3 (I 4 s) (I 5 s) u v w)) 8 0 (0, none, none) (by omega) (LB.zero (fun x y q => by obtain ⟨w, q, -⟩ := q; omega)) ?_ ?_
    · intro t hJ
      obtain ⟨u, o7, o8⟩ := t
      simp only at hJ ⊢
      refine Wk.iload (i := 6) (q := 22) (by decide +kernel) rfl rfl ?_
      refine Wk.bipush (n := 8) (q := 24) (by decide +kernel) (by decide +kernel) rfl ?_
      refine Wk.icmp_ge (off := (90)) (t := 114) (q := 27) (by decide +kernel) (by decide) rfl (by first | omega | exact bi_rng _) (by first | omega | exact bi_rng _) (fun hc24 => ?_) (fun hc24 => ?_)
      · refine Wk.lload (i := 4) (q := 116) (by decide +kernel) rfl rfl ?_
        exact Wk.rlP (by decide +kernel) rfl (⟨⟨u, rfl, hJ.cong (fun x y _ _ _ _ => ⟨fun ⟨w, q1, q2, q3⟩ => ⟨w, q1.1, q1.2, q2, q3⟩, fun ⟨w, q1, q2, q3, q4⟩ => ⟨w, ⟨q1, q2⟩, q3, q4⟩⟩)⟩, rfl, rfl⟩)
      · omega
    · intro k t k0 k1 hJ ih
      obtain ⟨u, o7, o8⟩ := t
      simp only at hJ ⊢
      have m1 := mulB hch (windX_r k)
      have m2 := mulB hch (windY_r k)
      have m3 := mulB hch2 (windX_r k)
      have m4 := mulB hch2 (windY_r k)
      have p1 : (I 4 f - I 4 s) * windX k = I 4 f * windX k - I 4 s * windX k := Int.sub_mul _ _ _
      have p2 : (I 4 f - I 4 s) * windY k = I 4 f * windY k - I 4 s * windY k := Int.sub_mul _ _ _
      have wx := windX_r k
      have wy := windY_r k
      have b1 : -2 ≤ (I 4 f - I 4 s) * windX k ∧ (I 4 f - I 4 s) * windX k ≤ 2 := by
        have h3 : windX k = -1 ∨ windX k = 0 ∨ windX k = 1 := by omega
        rcases h3 with h | h | h <;> rw [h] <;> omega
      have b2 : -2 ≤ (I 4 f - I 4 s) * windY k ∧ (I 4 f - I 4 s) * windY k ≤ 2 := by
        have h3 : windY k = -1 ∨ windY k = 0 ∨ windY k = 1 := by omega
        rcases h3 with h | h | h <;> rw [h] <;> omega
      refine Wk.iload (i := 6) (q := 22) (by decide +kernel) rfl rfl ?_
      refine Wk.bipush (n := 8) (q := 24) (by decide +kernel) (by decide +kernel) rfl ?_
      refine Wk.icmp_ge (off := (90)) (t := 114) (q := 27) (by decide +kernel) (by decide) rfl (by first | omega | exact bi_rng _) (by first | omega | exact bi_rng _) (fun hc24 => ?_) (fun hc24 => ?_)
      · omega
      · refine Wk.aload_n (k := 0) (q := 28) (by decide +kernel) rfl rfl rfl ?_
        refine Wk.getI (z := 3) (q := 31) f_Sear_122 (by decide +kernel) O_1 (by decide) rfl rfl rfl ?_
        refine Wk.iload (i := 6) (q := 33) (by decide +kernel) rfl rfl ?_
        refine Wk.cSi (q := 36) l_Sear_125 m_Swing_blows (by decide +kernel) (fun _ h => h) (Nat.le_of_ble_eq_true rfl) (Nat.le_of_ble_eq_true rfl) rfl (c_Swing_blows (by omega) (by omega) (by omega) (by omega)) rfl ?_
        refine Wk.ifB_eq (off := (72)) (t := 108) (q := 39) (by decide +kernel) (by decide) rfl (fun hc36 => ?_) (fun hc36 => ?_)
        · refine Wk.iinc (i := 6) (n := 1) (q := 111) (by decide +kernel) rfl (by decide) rfl (fun _ h => h) rfl ?_
          refine Wk.goto (off := (-91)) (q := 20) (by decide +kernel) (by decide) ?_
          first
            | (refine ih (_, _, _) (hJ.cong (fun x y _ _ _ _ => ⟨fun ⟨w, q1, q2⟩ => ⟨w, by omega, q2⟩, fun ⟨w, q1, q2, q3⟩ => ⟨w, ⟨q1.1, ?_⟩, q2, q3⟩⟩))
               rcases Classical.em (w = k) with e | e
               · rw [e] at q2
                 exact absurd q2 hc36
               · omega)
            | (refine ih (_, _, _) ((hJ.or hz).cong (fun x y _ _ _ _ => ⟨fun q => q.elim (fun ⟨w, q1, q2⟩ => ⟨w, by omega, q2⟩) (fun q => ⟨k, by omega, hc36, by unfold CLw; omega⟩), fun ⟨w, q1, q2, q3⟩ => ?_⟩))
               rcases Classical.em (w = k) with e | e
               · subst e
                 right
                 unfold CLw at q3
                 omega
               · exact Or.inl ⟨w, by omega, q2, q3⟩)
        · refine Wk.iconst (n := 3) (q := 40) (by decide +kernel) rfl ?_
          refine Wk.iload_n (k := 3) (q := 41) (by decide +kernel) rfl rfl rfl ?_
          refine Wk.getsX (q := 44) fs_Sear_133 (by decide +kernel) rfl ?_
          refine Wk.iload (i := 6) (q := 46) (by decide +kernel) rfl rfl ?_
          refine Wk.ialX (q := 47) (by decide +kernel) (by first | omega | exact bi_rng _) (by first | omega | exact bi_rng _) rfl ?_
          refine Wk.imul (q := 48) (by decide +kernel) rfl ?_
          refine Wk.iadd (q := 49) (by decide +kernel) rfl ?_
          refine Wk.aload_n (k := 0) (q := 50) (by decide +kernel) rfl rfl rfl ?_
          refine Wk.getR (r := 5) (q := 53) f_Sear_139 (by decide +kernel) O_1 (by decide) rfl rfl rfl ?_
          refine Wk.iload_n (k := 2) (q := 54) (by decide +kernel) rfl rfl rfl ?_
          refine Wk.iaload (q := 55) (by decide +kernel) A_5 (by first | omega | exact bi_rng _) (by first | omega | exact bi_rng _) rfl ?_
          refine Wk.isub (q := 56) (by decide +kernel) rfl ?_
          refine Wk.iconst (n := 1) (q := 57) (by decide +kernel) rfl ?_
          refine Wk.iadd (q := 58) (by decide +kernel) rfl ?_
          refine Wk.istore (i := 7) (q := 60) (by decide +kernel) (by decide) rfl (fun _ h => h) rfl ?_
          refine Wk.iconst (n := 3) (q := 61) (by decide +kernel) rfl ?_
          refine Wk.iload_n (k := 3) (q := 62) (by decide +kernel) rfl rfl rfl ?_
          refine Wk.getsY (q := 65) fs_Sear_136 (by decide +kernel) rfl ?_
          refine Wk.iload (i := 6) (q := 67) (by decide +kernel) rfl rfl ?_
          refine Wk.ialY (q := 68) (by decide +kernel) (by first | omega | exact bi_rng _) (by first | omega | exact bi_rng _) rfl ?_
          refine Wk.imul (q := 69) (by decide +kernel) rfl ?_
          refine Wk.iadd (q := 70) (by decide +kernel) rfl ?_
          refine Wk.aload_n (k := 0) (q := 71) (by decide +kernel) rfl rfl rfl ?_
          refine Wk.getR (r := 5) (q := 74) f_Sear_139 (by decide +kernel) O_1 (by decide) rfl rfl rfl ?_
          refine Wk.iload_n (k := 2) (q := 75) (by decide +kernel) rfl rfl rfl ?_
          refine Wk.iaload (q := 76) (by decide +kernel) A_5 (by first | omega | exact bi_rng _) (by first | omega | exact bi_rng _) rfl ?_
          refine Wk.isub (q := 77) (by decide +kernel) rfl ?_
          refine Wk.iconst (n := 1) (q := 78) (by decide +kernel) rfl ?_
          refine Wk.iadd (q := 79) (by decide +kernel) rfl ?_
          refine Wk.istore (i := 8) (q := 81) (by decide +kernel) (by decide) rfl (fun _ h => h) rfl ?_
          refine Wk.lload (i := 4) (q := 83) (by decide +kernel) rfl rfl ?_
          refine Wk.iload (i := 7) (q := 85) (by decide +kernel) rfl rfl ?_
          refine Wk.iload (i := 8) (q := 87) (by decide +kernel) rfl rfl ?_
          refine Wk.aload_n (k := 0) (q := 88) (by decide +kernel) rfl rfl rfl ?_
          refine Wk.getR (r := 5) (q := 91) f_Sear_139 (by decide +kernel) O_1 (by decide) rfl rfl rfl ?_
          refine Wk.iload_n (k := 1) (q := 92) (by decide +kernel) rfl rfl rfl ?_
          refine Wk.iaload (q := 93) (by decide +kernel) A_5 (by first | omega | exact bi_rng _) (by first | omega | exact bi_rng _) rfl ?_
          refine Wk.aload_n (k := 0) (q := 94) (by decide +kernel) rfl rfl rfl ?_
          refine Wk.getR (r := 5) (q := 97) f_Sear_139 (by decide +kernel) O_1 (by decide) rfl rfl rfl ?_
          refine Wk.iload_n (k := 2) (q := 98) (by decide +kernel) rfl rfl rfl ?_
          refine Wk.iaload (q := 99) (by decide +kernel) A_5 (by first | omega | exact bi_rng _) (by first | omega | exact bi_rng _) rfl ?_
          refine Wk.iadd (q := 100) (by decide +kernel) rfl ?_
          refine Wk.iconst (n := 1) (q := 101) (by decide +kernel) rfl ?_
          refine Wk.isub (q := 102) (by decide +kernel) rfl ?_
          refine Wk.cS (q := 105) l_Sear_155 m_Sear_square (by decide +kernel) (fun _ h => h) (Nat.le_of_ble_eq_true rfl) (Nat.le_of_ble_eq_true rfl) rfl (c_Sear_square (by omega) (by omega) (by omega)) rfl (fun v I' L' hP => ?_)
          obtain ⟨⟨z, rfl, hz⟩, rfl, rfl⟩ := hP
          refine Wk.lor (q := 106) (by decide +kernel) rfl ?_
          refine Wk.lstore (i := 4) (q := 108) (by decide +kernel) (by decide) rfl (fun _ h => h) rfl ?_
          refine Wk.iinc (i := 6) (n := 1) (q := 111) (by decide +kernel) rfl (by decide) rfl (fun _ h => h) rfl ?_
          refine Wk.goto (off := (-91)) (q := 20) (by decide +kernel) (by decide) ?_
          first
            | (refine ih (_, _, _) (hJ.cong (fun x y _ _ _ _ => ⟨fun ⟨w, q1, q2⟩ => ⟨w, by omega, q2⟩, fun ⟨w, q1, q2, q3⟩ => ⟨w, ⟨q1.1, ?_⟩, q2, q3⟩⟩))
               rcases Classical.em (w = k) with e | e
               · rw [e] at q2
                 exact absurd q2 hc36
               · omega)
            | (refine ih (_, _, _) ((hJ.or hz).cong (fun x y _ _ _ _ => ⟨fun q => q.elim (fun ⟨w, q1, q2⟩ => ⟨w, by omega, q2⟩) (fun q => ⟨k, by omega, hc36, by unfold CLw; omega⟩), fun ⟨w, q1, q2, q3⟩ => ?_⟩))
               rcases Classical.em (w = k) with e | e
               · subst e
                 right
                 unfold CLw at q3
                 omega
               · exact Or.inl ⟨w, by omega, q2, q3⟩)
  refine Wk.aload_n (k := 0) (q := 1) (by decide +kernel) rfl rfl rfl ?_
  refine Wk.getR (r := 4) (q := 4) f_Sear_130 (by decide +kernel) O_1 (by decide) rfl rfl rfl ?_
  refine Wk.iload_n (k := 1) (q := 5) (by decide +kernel) rfl rfl rfl ?_
  refine Wk.iaload (q := 6) (by decide +kernel) A_4 (by first | omega | exact bi_rng _) (by first | omega | exact bi_rng _) rfl ?_
  refine Wk.aload_n (k := 0) (q := 7) (by decide +kernel) rfl rfl rfl ?_
  refine Wk.getR (r := 4) (q := 10) f_Sear_130 (by decide +kernel) O_1 (by decide) rfl rfl rfl ?_
  refine Wk.iload_n (k := 2) (q := 11) (by decide +kernel) rfl rfl rfl ?_
  refine Wk.iaload (q := 12) (by decide +kernel) A_4 (by first | omega | exact bi_rng _) (by first | omega | exact bi_rng _) rfl ?_
  refine Wk.isub (q := 13) (by decide +kernel) rfl ?_
  refine Wk.istore_n (k := 3) (q := 14) (by decide +kernel) rfl (by decide) rfl (fun _ h => h) rfl ?_
  refine Wk.lconst (n := 0) (v := 0) (q := 15) (by decide +kernel) rfl rfl ?_
  refine Wk.lstore (i := 4) (q := 17) (by decide +kernel) (by decide) rfl (fun _ h => h) rfl ?_
  refine Wk.iconst (n := 0) (q := 18) (by decide +kernel) rfl ?_
  refine Wk.istore (i := 6) (q := 20) (by decide +kernel) (by decide) rfl (fun _ h => h) rfl ?_
  exact key
theorem c_Sear_around {f s p : Int} {Q : Int → Int → Prop} (hf : 0 ≤ f ∧ f < 8) (hs : 0 ≤ s ∧ s < 8) (hp : 0 ≤ p ∧ p < 64) (h : LB (L 126 (f * 8 + s)) Q) : Wk xs x_Sear_around (d + 1) 0 0 0 [some (vr 122), some (vi f), some (vi s), some (vi p)] [] X2 I L (pLB (offP Q (3 - p % 8) (3 - p / 8)) I L) := by
  refine Wk.aload_n (k := 0) (q := 1) (by decide +kernel) rfl rfl rfl ?_
  refine Wk.getR (r := 126) (q := 4) f_Sear_22 (by decide +kernel) O_122 (by decide) rfl rfl rfl ?_
  refine Wk.iload_n (k := 1) (q := 5) (by decide +kernel) rfl rfl rfl ?_
  refine Wk.bipush (n := 8) (q := 7) (by decide +kernel) (by decide +kernel) rfl ?_
  refine Wk.imul (q := 8) (by decide +kernel) rfl ?_
  refine Wk.iload_n (k := 2) (q := 9) (by decide +kernel) rfl rfl rfl ?_
  refine Wk.iadd (q := 10) (by decide +kernel) rfl ?_
  refine Wk.laload (q := 11) (by decide +kernel) A_126 (by first | omega | exact bi_rng _) (by first | omega | exact bi_rng _) rfl ?_
  refine Wk.iconst (n := 3) (q := 12) (by decide +kernel) rfl ?_
  refine Wk.iload_n (k := 3) (q := 13) (by decide +kernel) rfl rfl rfl ?_
  refine Wk.cNi (q := 16) ln_Sear_97 m_Sw_columnOf (by decide +kernel) (fun _ h => h) (Nat.le_of_ble_eq_true rfl) (Nat.le_of_ble_eq_true rfl) rfl (c_Sw_columnOf (by omega) (by omega)) rfl ?_
  refine Wk.isub (q := 17) (by decide +kernel) rfl ?_
  refine Wk.iconst (n := 3) (q := 18) (by decide +kernel) rfl ?_
  refine Wk.iload_n (k := 3) (q := 19) (by decide +kernel) rfl rfl rfl ?_
  refine Wk.cNi (q := 22) ln_Sear_100 m_Sw_lineOf (by decide +kernel) (fun _ h => h) (Nat.le_of_ble_eq_true rfl) (Nat.le_of_ble_eq_true rfl) rfl (c_Sw_lineOf (by omega) (by omega)) rfl ?_
  refine Wk.isub (q := 23) (by decide +kernel) rfl ?_
  refine Wk.cS (q := 26) l_Sear_103 m_Sear_seenFrom (by decide +kernel) (fun _ h => h) (Nat.le_of_ble_eq_true rfl) (Nat.le_of_ble_eq_true rfl) rfl (c_Sear_seenFrom h (by omega) (by omega)) rfl (fun v I' L' hP => ?_)
  obtain ⟨⟨z, rfl, hz⟩, rfl, rfl⟩ := hP
  exact Wk.rlP (by decide +kernel) rfl (⟨⟨z, rfl, hz⟩, rfl, rfl⟩)
end SEB
end
section
/-! LOOKING at a slot; what is left for it; places -/
theorem lup_eq (L : LM) (a : Nat) (z : Int) (v : Int64) : lup L a z v a z = v := by simp [lup]
theorem lup_ne {L : LM} {a c : Nat} {z b : Int} {v : Int64} (h : ¬ (c = a ∧ b = z)) : lup L a z v c b = L c b := by simp only [lup]; rw [if_neg h]
abbrev cLeft (I : IM) (s mv x y : Int) : Prop := cGood I s x y ∧ ∀ a, 0 ≤ a → a < I 1 4 → bt mv a = false → ¬ CL (I 1 3) (I 4 a) (I 5 a) (I 6 a) (I 7 a) (I 4 s) (I 5 s) x y
abbrev cPlace (I : IM) (k x y : Int) : Prop := cGood I (5 + k) x y ∧ ∀ a, 0 ≤ a → a < I 1 4 → ¬ CL (I 1 3) (I 4 a) (I 5 a) (I 6 a) (I 7 a) (I 4 (5 + k)) (I 5 (5 + k)) x y
theorem bt_0 (a : Int) : bt 0 a = false := by unfold bt; simp
/-- an int, the ints as they were -/
def pIx (z : Int) (I : IM) : Option AV → LY → IM → LM → Prop := p2 fun v I' _ => v = some (vi z) ∧ I' = I
section SEC
variable {xs : RO} {d : Nat} {I : IM} {L : LM}

theorem c_Sear_look {s : Int} (hs : Slot1 I s) (hC : CW I) : Wk xs x_Sear_look (d + 4) 0 0 0 [some (vr 122), some (vr 1), some (vi s), none] [] X2 I L (p2 fun v I' L' => v = none ∧ I' = I ∧ LookOK I L' s ∧ LookF L L' s) := by
  obtain ⟨hW, hH, -, hF, hA, hB, -⟩ := id hC.1
  have hs8 : 0 ≤ s ∧ s < 8 := by unfold Slot1 at hs; omega
  have key : ∀ g : Int64, LB g (cGood I s) → Wk xs x_Sear_look (d + 4) 0 0 13 [some (vr 122), some (vr 1), some (vi s), some (vi 0)] [] X2 I (lup L 125 s g) (p2 fun v I' L' => v = none ∧ I' = I ∧ LookOK I L' s ∧ LookF L L' s) := by
    intro g hg
    refine loopS (σ := LM) (fun k L2 => Wk xs x_Sear_look (d + 4) 0 0 13 [some (vr 122), some (vr 1), some (vi s), some (vi k)] [] X2 I L2 (p2 fun v I' L' => v = none ∧ I' = I ∧ LookOK I L' s ∧ LookF L L' s)) (fun k L2 => LB (L2 125 s) (cGood I s) ∧ (∀ f, 0 ≤ f → f < k → Slot1 I f → ¬ f = s → LB (L2 126 (f * 8 + s)) (cBad I f s)) ∧ LookF L L2 s) 8 0 (lup L 125 s g) (by omega) ⟨by rw [lup_eq]; exact hg, fun f f0 f1 => by omega, fun c b h1 h2 => lup_ne (fun z => h1 z.1), fun b hb => lup_ne (fun z => hb z.2), fun f b _ _ _ _ _ => lup_ne (fun z => by omega)⟩ ?_ ?_
    · intro L2 hJ
      refine Wk.iload_n (k := 3) (q := 14) (by decide +kernel) rfl rfl rfl ?_
      refine Wk.bipush (n := 8) (q := 16) (by decide +kernel) (by decide +kernel) rfl ?_
      refine Wk.icmp_ge (off := (39)) (t := 55) (q := 19) (by decide +kernel) (by decide) rfl (by first | omega | exact bi_rng _) (by first | omega | exact bi_rng _) (fun hc16 => ?_) (fun hc16 => ?_)
      · exact Wk.rvP (by decide +kernel) rfl (⟨rfl, rfl, ⟨hJ.1, hJ.2.1⟩, hJ.2.2⟩)
      · omega
    · intro k L2 k0 k1 hJ ih
      obtain ⟨hJ1, hJ2, hJ3⟩ := hJ
      refine Wk.iload_n (k := 3) (q := 14) (by decide +kernel) rfl rfl rfl ?_
      refine Wk.bipush (n := 8) (q := 16) (by decide +kernel) (by decide +kernel) rfl ?_
      refine Wk.icmp_ge (off := (39)) (t := 55) (q := 19) (by decide +kernel) (by decide) rfl (by first | omega | exact bi_rng _) (by first | omega | exact bi_rng _) (fun hc16 => ?_) (fun hc16 => ?_)
      · omega
      · refine Wk.iload_n (k := 3) (q := 20) (by decide +kernel) rfl rfl rfl ?_
        refine Wk.iload_n (k := 2) (q := 21) (by decide +kernel) rfl rfl rfl ?_
        refine Wk.icmp_eq (off := (28)) (t := 49) (q := 24) (by decide +kernel) (by decide) rfl (by first | omega | exact bi_rng _) (by first | omega | exact bi_rng _) (fun hc21 => ?_) (fun hc21 => ?_)
        · refine Wk.iinc (i := 3) (n := 1) (q := 52) (by decide +kernel) rfl (by decide) rfl (fun _ h => h) rfl ?_
          refine Wk.goto (off := (-39)) (q := 13) (by decide +kernel) (by decide) ?_
          first
            | exact ih _ ⟨hJ1, ext1 hJ2 (fun q1 q2 => by first | exact absurd hc21 q2 | exact absurd q1 hc29), hJ3⟩
            | exact ih _ ⟨by rw [lup_ne (by omega)]; exact hJ1, ext1 (fun f f0 f1 f2 f3 => by rw [lup_ne (by omega)]; exact hJ2 f f0 f1 f2 f3) (fun _ _ => by rw [lup_eq]; exact hz), fun c b h1 h2 => by rw [lup_ne (fun z => h2 z.1)]; exact hJ3.1 c b h1 h2, fun b hb => by rw [lup_ne (by omega)]; exact hJ3.2.1 b hb, fun f b f0 f1 b0 b1 hb => by rw [lup_ne (by omega)]; exact hJ3.2.2 f b f0 f1 b0 b1 hb⟩
        · refine Wk.aload_n (k := 1) (q := 25) (by decide +kernel) rfl rfl rfl ?_
          refine Wk.iload_n (k := 3) (q := 26) (by decide +kernel) rfl rfl rfl ?_
          refine Wk.cVi (q := 29) l_Sear_110 m_Harb_hasSlot (by decide +kernel) (fun _ h => h) O_1 rfl (Nat.le_of_ble_eq_true rfl) (Nat.le_of_ble_eq_true rfl) rfl (c_Harb_hasSlot (by omega) hA hB) rfl ?_
          refine Wk.ifB_eq (off := (20)) (t := 49) (q := 32) (by decide +kernel) (by decide) rfl (fun hc29 => ?_) (fun hc29 => ?_)
          · refine Wk.iinc (i := 3) (n := 1) (q := 52) (by decide +kernel) rfl (by decide) rfl (fun _ h => h) rfl ?_
            refine Wk.goto (off := (-39)) (q := 13) (by decide +kernel) (by decide) ?_
            first
              | exact ih _ ⟨hJ1, ext1 hJ2 (fun q1 q2 => by first | exact absurd hc21 q2 | exact absurd q1 hc29), hJ3⟩
              | exact ih _ ⟨by rw [lup_ne (by omega)]; exact hJ1, ext1 (fun f f0 f1 f2 f3 => by rw [lup_ne (by omega)]; exact hJ2 f f0 f1 f2 f3) (fun _ _ => by rw [lup_eq]; exact hz), fun c b h1 h2 => by rw [lup_ne (fun z => h2 z.1)]; exact hJ3.1 c b h1 h2, fun b hb => by rw [lup_ne (by omega)]; exact hJ3.2.1 b hb, fun f b f0 f1 b0 b1 hb => by rw [lup_ne (by omega)]; exact hJ3.2.2 f b f0 f1 b0 b1 hb⟩
          · refine Wk.aload_n (k := 0) (q := 33) (by decide +kernel) rfl rfl rfl ?_
            refine Wk.getR (r := 126) (q := 36) f_Sear_22 (by decide +kernel) O_122 (by decide) rfl rfl rfl ?_
            refine Wk.iload_n (k := 3) (q := 37) (by decide +kernel) rfl rfl rfl ?_
            refine Wk.bipush (n := 8) (q := 39) (by decide +kernel) (by decide +kernel) rfl ?_
            refine Wk.imul (q := 40) (by decide +kernel) rfl ?_
            refine Wk.iload_n (k := 2) (q := 41) (by decide +kernel) rfl rfl rfl ?_
            refine Wk.iadd (q := 42) (by decide +kernel) rfl ?_
            refine Wk.aload_n (k := 1) (q := 43) (by decide +kernel) rfl rfl rfl ?_
            refine Wk.iload_n (k := 3) (q := 44) (by decide +kernel) rfl rfl rfl ?_
            refine Wk.iload_n (k := 2) (q := 45) (by decide +kernel) rfl rfl rfl ?_
            refine Wk.cS (q := 48) l_Sear_113 m_Sear_badSpots (by decide +kernel) (fun _ h => h) (Nat.le_of_ble_eq_true rfl) (Nat.le_of_ble_eq_true rfl) rfl (c_Sear_badSpots hc29 hs hC) rfl (fun v I' L' hP => ?_)
            obtain ⟨⟨z, rfl, hz⟩, rfl, rfl⟩ := hP
            refine Wk.lastore (q := 49) (by decide +kernel) A_126 (by first | omega | exact bi_rng _) (by first | omega | exact bi_rng _) rfl ?_
            refine Wk.iinc (i := 3) (n := 1) (q := 52) (by decide +kernel) rfl (by decide) rfl (fun _ h => h) rfl ?_
            refine Wk.goto (off := (-39)) (q := 13) (by decide +kernel) (by decide) ?_
            first
              | exact ih _ ⟨hJ1, ext1 hJ2 (fun q1 q2 => by first | exact absurd hc21 q2 | exact absurd q1 hc29), hJ3⟩
              | exact ih _ ⟨by rw [lup_ne (by omega)]; exact hJ1, ext1 (fun f f0 f1 f2 f3 => by rw [lup_ne (by omega)]; exact hJ2 f f0 f1 f2 f3) (fun _ _ => by rw [lup_eq]; exact hz), fun c b h1 h2 => by rw [lup_ne (fun z => h2 z.1)]; exact hJ3.1 c b h1 h2, fun b hb => by rw [lup_ne (by omega)]; exact hJ3.2.1 b hb, fun f b f0 f1 b0 b1 hb => by rw [lup_ne (by omega)]; exact hJ3.2.2 f b f0 f1 b0 b1 hb⟩
  refine Wk.aload_n (k := 0) (q := 1) (by decide +kernel) rfl rfl rfl ?_
  refine Wk.getR (r := 125) (q := 4) f_Sear_18 (by decide +kernel) O_122 (by decide) rfl rfl rfl ?_
  refine Wk.iload_n (k := 2) (q := 5) (by decide +kernel) rfl rfl rfl ?_
  refine Wk.aload_n (k := 1) (q := 6) (by decide +kernel) rfl rfl rfl ?_
  refine Wk.iload_n (k := 2) (q := 7) (by decide +kernel) rfl rfl rfl ?_
  refine Wk.cS (q := 10) l_Sear_107 m_Sear_goodSpots (by decide +kernel) (fun _ h => h) (Nat.le_of_ble_eq_true rfl) (Nat.le_of_ble_eq_true rfl) rfl (c_Sear_goodSpots hs hC) rfl (fun v I' L' hP => ?_)
  obtain ⟨⟨g, rfl, hg⟩, rfl, rfl⟩ := hP
  refine Wk.lastore (q := 11) (by decide +kernel) A_125 (by first | omega | exact bi_rng _) (by first | omega | exact bi_rng _) rfl ?_
  refine Wk.iconst (n := 0) (q := 12) (by decide +kernel) rfl ?_
  refine Wk.istore_n (k := 3) (q := 13) (by decide +kernel) rfl (by decide) rfl (fun _ h => h) rfl ?_
  exact key g hg
theorem c_Sear_leftFor {s mv : Int} (hs : Slot1 I s) (hC : CW I) (hm : 0 ≤ mv ∧ mv < 32) (hL : LookOK I L s) (hne : ∀ a, 0 ≤ a → a < I 1 4 → bt mv a = false → ¬ a = s) : Wk xs x_Sear_leftFor (d + 2) 0 0 0 [some (vr 122), some (vr 1), some (vi s), some (vi mv), none, none, none] [] X2 I L (pLB (cLeft I s mv) I L) := by
  obtain ⟨hW, hH, -, hF, hA, hB, -⟩ := id hC.1
  have hs8 : 0 ≤ s ∧ s < 8 := by unfold Slot1 at hs; omega
  obtain ⟨hdr, hch, hsd⟩ := hC.2.1 s hs
  have key : Wk xs x_Sear_leftFor (d + 2) 0 0 11 [some (vr 122), some (vr 1), some (vi s), some (vi mv), some (vl (L 125 s)), none, some (vi 0)] [] X2 I L (pLB (cLeft I s mv) I L) := by
    refine loopS (σ := Int64) (fun k u => Wk xs x_Sear_leftFor (d + 2) 0 0 11 [some (vr 122), some (vr 1), some (vi s), some (vi mv), some (vl u), none, some (vi k)] [] X2 I L (pLB (cLeft I s mv) I L)) (fun k u => LB u (fun x y => cGood I s x y ∧ ∀ a, 0 ≤ a → a < k → bt mv a = false → ¬ CL (I 1 3) (I 4 a) (I 5 a) (I 6 a) (I 7 a) (I 4 s) (I 5 s) x y)) (I 1 4) 0 (L 125 s) (by omega) (hL.1.cong (fun x y _ _ _ _ => ⟨fun q => ⟨q, fun a a0 a1 => by omega⟩, fun q => q.1⟩)) ?_ ?_
    · intro u hJ
      refine Wk.iload (i := 6) (q := 13) (by decide +kernel) rfl rfl ?_
      refine Wk.aload_n (k := 1) (q := 14) (by decide +kernel) rfl rfl rfl ?_
      refine Wk.getI (z := 4) (q := 17) f_Sear_60 (by decide +kernel) O_1 (by decide) rfl rfl rfl ?_
      refine Wk.icmp_ge (off := (51)) (t := 68) (q := 20) (by decide +kernel) (by decide) rfl (by first | omega | exact bi_rng _) (by first | omega | exact bi_rng _) (fun hc17 => ?_) (fun hc17 => ?_)
      · refine Wk.lload (i := 4) (q := 70) (by decide +kernel) rfl rfl ?_
        exact Wk.rlP (by decide +kernel) rfl (⟨⟨u, rfl, hJ⟩, rfl, rfl⟩)
      · omega
    · intro k u k0 k1 hJ ih
      obtain ⟨hx, hy⟩ := hC.2.2 k k0 k1
      obtain ⟨-, hch2, hsd2⟩ := hC.2.1 k (Or.inl ⟨k0, k1⟩)
      refine Wk.iload (i := 6) (q := 13) (by decide +kernel) rfl rfl ?_
      refine Wk.aload_n (k := 1) (q := 14) (by decide +kernel) rfl rfl rfl ?_
      refine Wk.getI (z := 4) (q := 17) f_Sear_60 (by decide +kernel) O_1 (by decide) rfl rfl rfl ?_
      refine Wk.icmp_ge (off := (51)) (t := 68) (q := 20) (by decide +kernel) (by decide) rfl (by first | omega | exact bi_rng _) (by first | omega | exact bi_rng _) (fun hc17 => ?_) (fun hc17 => ?_)
      · omega
      · refine Wk.iload_n (k := 3) (q := 21) (by decide +kernel) rfl rfl rfl ?_
        refine Wk.iload (i := 6) (q := 23) (by decide +kernel) rfl rfl ?_
        refine Wk.ishr (q := 24) (by decide +kernel) rfl ?_
        refine Wk.iconst (n := 1) (q := 25) (by decide +kernel) rfl ?_
        refine Wk.iand (q := 26) (by decide +kernel) rfl ?_
        rw [bit_int hm.1 (by omega) k0 (by omega)]
        refine Wk.if_ne (off := (36)) (t := 62) (q := 29) (by decide +kernel) (by decide) rfl (by first | omega | exact bi_rng _) (fun hc26 => ?_) (fun hc26 => ?_)
        · refine Wk.iinc (i := 6) (n := 1) (q := 65) (by decide +kernel) rfl (by decide) rfl (fun _ h => h) rfl ?_
          refine Wk.goto (off := (-54)) (q := 11) (by decide +kernel) (by decide) ?_
          first
            | exact ih _ (hJ.cong (fun x y _ _ _ _ => ⟨fun q => ⟨q.1, ext1 q.2 (fun z => absurd (bi_f (by rw [z]; decide)) hc26)⟩, fun q => ⟨q.1, fun a a0 a1 => q.2 a a0 (by omega)⟩⟩))
            | exact ih _ ((hJ.and hz.not).cong (fun x y _ _ _ _ => ⟨fun q => ⟨q.1.1, ext1 q.1.2 (fun _ c => q.2 ((cl_shift hch2 hsd2 hch hsd).mpr c))⟩, fun q => ⟨⟨q.1, fun a a0 a1 => q.2 a a0 (by omega)⟩, fun c => q.2 k k0 (by omega) hb ((cl_shift hch2 hsd2 hch hsd).mp c)⟩⟩))
        · have hb : bt mv k = false := by simpa using bi_eq0.mp hc26
          refine Wk.lload (i := 4) (q := 31) (by decide +kernel) rfl rfl ?_
          refine Wk.aload_n (k := 0) (q := 32) (by decide +kernel) rfl rfl rfl ?_
          refine Wk.iload (i := 6) (q := 34) (by decide +kernel) rfl rfl ?_
          refine Wk.iload_n (k := 2) (q := 35) (by decide +kernel) rfl rfl rfl ?_
          refine Wk.aload_n (k := 1) (q := 36) (by decide +kernel) rfl rfl rfl ?_
          refine Wk.getR (r := 6) (q := 39) f_Sear_87 (by decide +kernel) O_1 (by decide) rfl rfl rfl ?_
          refine Wk.iload (i := 6) (q := 41) (by decide +kernel) rfl rfl ?_
          refine Wk.iaload (q := 42) (by decide +kernel) A_6 (by first | omega | exact bi_rng _) (by first | omega | exact bi_rng _) rfl ?_
          refine Wk.aload_n (k := 1) (q := 43) (by decide +kernel) rfl rfl rfl ?_
          refine Wk.getR (r := 7) (q := 46) f_Sear_90 (by decide +kernel) O_1 (by decide) rfl rfl rfl ?_
          refine Wk.iload (i := 6) (q := 48) (by decide +kernel) rfl rfl ?_
          refine Wk.iaload (q := 49) (by decide +kernel) A_7 (by first | omega | exact bi_rng _) (by first | omega | exact bi_rng _) rfl ?_
          refine Wk.cNi (q := 52) ln_Sear_93 m_Sw_spotAt (by decide +kernel) (fun _ h => h) (Nat.le_of_ble_eq_true rfl) (Nat.le_of_ble_eq_true rfl) rfl (c_Sw_spotAt) rfl ?_
          refine Wk.cV (q := 55) l_Sear_81 m_Sear_around (by decide +kernel) (fun _ h => h) O_122 rfl (Nat.le_of_ble_eq_true rfl) (Nat.le_of_ble_eq_true rfl) rfl (c_Sear_around (by omega) hs8 (by omega) (hL.2 k k0 (by omega) (Or.inl ⟨k0, k1⟩) (hne k k0 k1 hb))) rfl (fun v I' L' hP => ?_)
          obtain ⟨⟨z, rfl, hz⟩, rfl, rfl⟩ := hP
          rw [show 3 - (I' 7 k * 8 + I' 6 k) % 8 = 3 - I' 6 k by omega, show 3 - (I' 7 k * 8 + I' 6 k) / 8 = 3 - I' 7 k by omega] at hz
          refine Wk.ldc2 (q := 58) k_Sear_85 (by decide +kernel) rfl ?_
          refine Wk.lxor (q := 59) (by decide +kernel) rfl ?_
          refine Wk.land (q := 60) (by decide +kernel) rfl ?_
          refine Wk.lstore (i := 4) (q := 62) (by decide +kernel) (by decide) rfl (fun _ h => h) rfl ?_
          refine Wk.iinc (i := 6) (n := 1) (q := 65) (by decide +kernel) rfl (by decide) rfl (fun _ h => h) rfl ?_
          refine Wk.goto (off := (-54)) (q := 11) (by decide +kernel) (by decide) ?_
          first
            | exact ih _ (hJ.cong (fun x y _ _ _ _ => ⟨fun q => ⟨q.1, ext1 q.2 (fun z => absurd (bi_f (by rw [z]; decide)) hc26)⟩, fun q => ⟨q.1, fun a a0 a1 => q.2 a a0 (by omega)⟩⟩))
            | exact ih _ ((hJ.and hz.not).cong (fun x y _ _ _ _ => ⟨fun q => ⟨q.1.1, ext1 q.1.2 (fun _ c => q.2 ((cl_shift hch2 hsd2 hch hsd).mpr c))⟩, fun q => ⟨⟨q.1, fun a a0 a1 => q.2 a a0 (by omega)⟩, fun c => q.2 k k0 (by omega) hb ((cl_shift hch2 hsd2 hch hsd).mp c)⟩⟩))
  refine Wk.aload_n (k := 0) (q := 1) (by decide +kernel) rfl rfl rfl ?_
  refine Wk.getR (r := 125) (q := 4) f_Sear_18 (by decide +kernel) O_122 (by decide) rfl rfl rfl ?_
  refine Wk.iload_n (k := 2) (q := 5) (by decide +kernel) rfl rfl rfl ?_
  refine Wk.laload (q := 6) (by decide +kernel) A_125 (by first | omega | exact bi_rng _) (by first | omega | exact bi_rng _) rfl ?_
  refine Wk.lstore (i := 4) (q := 8) (by decide +kernel) (by decide) rfl (fun _ h => h) rfl ?_
  refine Wk.iconst (n := 0) (q := 9) (by decide +kernel) rfl ?_
  refine Wk.istore (i := 6) (q := 11) (by decide +kernel) (by decide) rfl (fun _ h => h) rfl ?_
  exact key
theorem c_Sear_placesFor {k : Int} (h0 : 0 ≤ k) (h1 : k < I 1 5) (hC : CW I) : Wk xs x_Sear_placesFor (d + 5) 0 0 0 [some (vr 122), some (vr 1), some (vi k), none] [] X2 I L (p2 fun v I' _ => (∃ u : Int64, v = some (vl u) ∧ LB u (cPlace I k)) ∧ I' = I) := by
  have hB := hC.1.2.2.2.2.2.1
  have hA := hC.1.2.2.2.2.1
  have hs : Slot1 I (5 + k) := Or.inr (by omega)
  refine Wk.iconst (n := 5) (q := 1) (by decide +kernel) rfl ?_
  refine Wk.iload_n (k := 2) (q := 2) (by decide +kernel) rfl rfl rfl ?_
  refine Wk.iadd (q := 3) (by decide +kernel) rfl ?_
  refine Wk.istore_n (k := 3) (q := 4) (by decide +kernel) rfl (by decide) rfl (fun _ h => h) rfl ?_
  refine Wk.aload_n (k := 0) (q := 5) (by decide +kernel) rfl rfl rfl ?_
  refine Wk.aload_n (k := 1) (q := 6) (by decide +kernel) rfl rfl rfl ?_
  refine Wk.iload_n (k := 3) (q := 7) (by decide +kernel) rfl rfl rfl ?_
  refine Wk.cV (q := 10) l_Sear_28 m_Sear_look (by decide +kernel) (fun _ h => h) O_122 rfl (Nat.le_of_ble_eq_true rfl) (Nat.le_of_ble_eq_true rfl) rfl (c_Sear_look hs hC) rfl (fun v I' L' hP => ?_)
  obtain ⟨rfl, rfl, hK, -⟩ := hP
  refine Wk.aload_n (k := 0) (q := 11) (by decide +kernel) rfl rfl rfl ?_
  refine Wk.aload_n (k := 1) (q := 12) (by decide +kernel) rfl rfl rfl ?_
  refine Wk.iload_n (k := 3) (q := 13) (by decide +kernel) rfl rfl rfl ?_
  refine Wk.iconst (n := 0) (q := 14) (by decide +kernel) rfl ?_
  refine Wk.cV (q := 17) l_Sear_32 m_Sear_leftFor (by decide +kernel) (fun _ h => h) O_122 rfl (Nat.le_of_ble_eq_true rfl) (Nat.le_of_ble_eq_true rfl) rfl (c_Sear_leftFor hs hC (by omega) hK (fun a a0 a1 _ => by omega)) rfl (fun v I2 L2 hP => ?_)
  obtain ⟨⟨z, rfl, hz⟩, rfl, rfl⟩ := hP
  exact Wk.rlP (by decide +kernel) rfl (⟨⟨z, rfl, hz.cong (fun x y _ _ _ _ => ⟨fun q => ⟨q.1, fun a a0 a1 => q.2 a a0 a1 (bt_0 a)⟩, fun q => ⟨q.1, fun a a0 a1 _ => q.2 a a0 a1⟩⟩)⟩, rfl⟩)
theorem c_Sear_waitersFor {x y : Int} (hi : inE (I 1 0) (I 1 1) x y) (hC : CW I) : Wk xs x_Sear_waitersFor (d + 6) 0 0 0 [some (vr 122), some (vr 1), some (vi (y * 8 + x)), none, none] [] X2 I L (pIx (so (fun k => cPlace I k x y) (I 1 5).toNat) I) := by
  obtain ⟨hW, hH, -, hF, hA, hB, -⟩ := id hC.1
  have hi2 := hi
  unfold inE at hi2
  have key : Wk xs x_Sear_waitersFor (d + 6) 0 0 5 [some (vr 122), some (vr 1), some (vi (y * 8 + x)), some (vi (so (fun k => cPlace I k x y) (0 : Int).toNat)), some (vi 0)] [] X2 I L (pIx (so (fun k => cPlace I k x y) (I 1 5).toNat) I) := by
    refine loopS (σ := LM) (fun k L2 => Wk xs x_Sear_waitersFor (d + 6) 0 0 5 [some (vr 122), some (vr 1), some (vi (y * 8 + x)), some (vi (so (fun k => cPlace I k x y) k.toNat)), some (vi k)] [] X2 I L2 (pIx (so (fun k => cPlace I k x y) (I 1 5).toNat) I)) (fun _ _ => True) (I 1 5) 0 L (by omega) trivial ?_ ?_
    · intro L2 _
      refine Wk.iload (i := 4) (q := 7) (by decide +kernel) rfl rfl ?_
      refine Wk.aload_n (k := 1) (q := 8) (by decide +kernel) rfl rfl rfl ?_
      refine Wk.getI (z := 5) (q := 11) f_Sear_36 (by decide +kernel) O_1 (by decide) rfl rfl rfl ?_
      refine Wk.icmp_ge (off := (30)) (t := 41) (q := 14) (by decide +kernel) (by decide) rfl (by first | omega | exact bi_rng _) (by first | omega | exact bi_rng _) (fun hc11 => ?_) (fun hc11 => ?_)
      · refine Wk.iload_n (k := 3) (q := 42) (by decide +kernel) rfl rfl rfl ?_
        exact Wk.riP (by decide +kernel) rfl (⟨rfl, rfl⟩)
      · omega
    · intro k L2 k0 k1 _ ih
      have hs := so_range (fun k => cPlace I k x y) k.toNat
      rw [so_step _ k0] at ih
      refine Wk.iload (i := 4) (q := 7) (by decide +kernel) rfl rfl ?_
      refine Wk.aload_n (k := 1) (q := 8) (by decide +kernel) rfl rfl rfl ?_
      refine Wk.getI (z := 5) (q := 11) f_Sear_36 (by decide +kernel) O_1 (by decide) rfl rfl rfl ?_
      refine Wk.icmp_ge (off := (30)) (t := 41) (q := 14) (by decide +kernel) (by decide) rfl (by first | omega | exact bi_rng _) (by first | omega | exact bi_rng _) (fun hc11 => ?_) (fun hc11 => ?_)
      · omega
      · refine Wk.aload_n (k := 0) (q := 15) (by decide +kernel) rfl rfl rfl ?_
        refine Wk.aload_n (k := 1) (q := 16) (by decide +kernel) rfl rfl rfl ?_
        refine Wk.iload (i := 4) (q := 18) (by decide +kernel) rfl rfl ?_
        refine Wk.cV (q := 21) l_Sear_42 m_Sear_placesFor (by decide +kernel) (fun _ h => h) O_122 rfl (Nat.le_of_ble_eq_true rfl) (Nat.le_of_ble_eq_true rfl) rfl (c_Sear_placesFor k0 k1 hC) rfl (fun v I' L' hP => ?_)
        obtain ⟨⟨z, rfl, hz⟩, rfl⟩ := hP
        have hb := hz.at (x := x) (y := y) (by omega) (by omega)
        refine Wk.iload_n (k := 2) (q := 22) (by decide +kernel) rfl rfl rfl ?_
        refine Wk.cNi (q := 25) ln_Sear_46 m_Sw_holds (by decide +kernel) (fun _ h => h) (Nat.le_of_ble_eq_true rfl) (Nat.le_of_ble_eq_true rfl) rfl (c_Sw_holds (by omega) (by omega)) rfl ?_
        refine Wk.ifB_eq (off := (10)) (t := 35) (q := 28) (by decide +kernel) (by decide) rfl (fun hc25 => ?_) (fun hc25 => ?_)
        · refine Wk.iinc (i := 4) (n := 1) (q := 38) (by decide +kernel) rfl (by decide) rfl (fun _ h => h) rfl ?_
          refine Wk.goto (off := (-33)) (q := 5) (by decide +kernel) (by decide) ?_
          first
            | (rw [or_above hs.1 hs.2 k0 (by omega)]
               rw [bi_t (hb.mp hc25), Int.one_mul] at ih
               exact ih _ trivial)
            | (rw [bi_f (fun q => hc25 (hb.mpr q)), Int.zero_mul, Int.add_zero] at ih
               exact ih _ trivial)
        · refine Wk.iload_n (k := 3) (q := 29) (by decide +kernel) rfl rfl rfl ?_
          refine Wk.iconst (n := 1) (q := 30) (by decide +kernel) rfl ?_
          refine Wk.iload (i := 4) (q := 32) (by decide +kernel) rfl rfl ?_
          refine Wk.ishl (q := 33) (by decide +kernel) rfl ?_
          refine Wk.ior (q := 34) (by decide +kernel) rfl ?_
          refine Wk.istore_n (k := 3) (q := 35) (by decide +kernel) rfl (by decide) rfl (fun _ h => h) rfl ?_
          refine Wk.iinc (i := 4) (n := 1) (q := 38) (by decide +kernel) rfl (by decide) rfl (fun _ h => h) rfl ?_
          refine Wk.goto (off := (-33)) (q := 5) (by decide +kernel) (by decide) ?_
          first
            | (rw [or_above hs.1 hs.2 k0 (by omega)]
               rw [bi_t (hb.mp hc25), Int.one_mul] at ih
               exact ih _ trivial)
            | (rw [bi_f (fun q => hc25 (hb.mpr q)), Int.zero_mul, Int.add_zero] at ih
               exact ih _ trivial)
  refine Wk.iconst (n := 0) (q := 1) (by decide +kernel) rfl ?_
  refine Wk.istore_n (k := 3) (q := 2) (by decide +kernel) rfl (by decide) rfl (fun _ h => h) rfl ?_
  refine Wk.iconst (n := 0) (q := 3) (by decide +kernel) rfl ?_
  refine Wk.istore (i := 4) (q := 5) (by decide +kernel) (by decide) rfl (fun _ h => h) rfl ?_
  exact key
end SEC
end
section
/-! ROWS OF CELLS: candidates G i s, clashes K i s j t; the least row -/
def cset (c : Int → Int) (i s : Int) : Int → Int := fun j => if j = i then s else c j
theorem cset_eq (c : Int → Int) (i s : Int) : cset c i s i = s := by simp [cset]
theorem cset_ne {c : Int → Int} {i s j : Int} (h : ¬ j = i) : cset c i s j = c j := by simp [cset, h]
section ROWS
variable (G : Int → Int → Prop) (K : Int → Int → Int → Int → Prop)
def OKx (c : Int → Int) (i s : Int) : Prop := G i s ∧ ∀ j, 0 ≤ j → j < i → ¬ K j (c j) i s
def Exr : Nat → Int → (Int → Int) → Prop
  | 0, _, _ => True
  | n + 1, i, c => ∃ s, OKx G K c i s ∧ Exr n (i + 1) (cset c i s)
def Lea : Nat → Int → (Int → Int) → Prop
  | 0, _, _ => True
  | n + 1, i, c => (OKx G K c i (c i) ∧ ∀ s, s < c i → OKx G K c i s → ¬ Exr G K n (i + 1) (cset c i s)) ∧ Lea n (i + 1) c
end ROWS
theorem OKx_cong {G G2 : Int → Int → Prop} {K K2 : Int → Int → Int → Int → Prop} {c c2 : Int → Int} {i s : Int} (hc : ∀ j, 0 ≤ j → j < i → c j = c2 j) (hG : G i s ↔ G2 i s) (hK : ∀ j, 0 ≤ j → j < i → (K j (c2 j) i s ↔ K2 j (c2 j) i s)) : OKx G K c i s ↔ OKx G2 K2 c2 i s := by
  unfold OKx
  rw [hG]
  constructor
  · rintro ⟨h1, h2⟩
    refine ⟨h1, fun j j0 j1 q => h2 j j0 j1 ?_⟩
    rw [hc j j0 j1]
    exact (hK j j0 j1).mpr q
  · rintro ⟨h1, h2⟩
    refine ⟨h1, fun j j0 j1 q => h2 j j0 j1 ?_⟩
    rw [hc j j0 j1] at q
    exact (hK j j0 j1).mp q
theorem Exr_cong {G G2 : Int → Int → Prop} {K K2 : Int → Int → Int → Int → Prop} {N : Int} (hG : ∀ i s, 0 ≤ i → i < N → (G i s ↔ G2 i s)) (hK : ∀ i s j t, 0 ≤ i → i < N → 0 ≤ j → j < N → (K i s j t ↔ K2 i s j t)) : ∀ (n : Nat) (i : Int) (c c2 : Int → Int), 0 ≤ i → i + n ≤ N → (∀ j, 0 ≤ j → j < i → c j = c2 j) → (Exr G K n i c ↔ Exr G2 K2 n i c2)
  | 0, _, _, _, _, _, _ => Iff.rfl
  | n + 1, i, c, c2, h0, h1, hc => by
    have key : ∀ s, (OKx G K c i s ↔ OKx G2 K2 c2 i s) := fun s => OKx_cong hc (hG i s h0 (by omega)) (fun j j0 j1 => hK j _ i s j0 (by omega) h0 (by omega))
    have ih : ∀ s, (Exr G K n (i + 1) (cset c i s) ↔ Exr G2 K2 n (i + 1) (cset c2 i s)) := fun s => Exr_cong hG hK n (i + 1) _ _ (by omega) (by omega) (fun j j0 j1 => by
      by_cases hj : j = i
      · rw [hj, cset_eq, cset_eq]
      · rw [cset_ne hj, cset_ne hj]; exact hc j j0 (by omega))
    constructor
    · rintro ⟨s, h2, h3⟩
      exact ⟨s, (key s).mp h2, (ih s).mp h3⟩
    · rintro ⟨s, h2, h3⟩
      exact ⟨s, (key s).mpr h2, (ih s).mpr h3⟩
theorem Lea_cong {G G2 : Int → Int → Prop} {K K2 : Int → Int → Int → Int → Prop} {N : Int} (hG : ∀ i s, 0 ≤ i → i < N → (G i s ↔ G2 i s)) (hK : ∀ i s j t, 0 ≤ i → i < N → 0 ≤ j → j < N → (K i s j t ↔ K2 i s j t)) : ∀ (n : Nat) (i : Int) (c c2 : Int → Int), 0 ≤ i → i + n ≤ N → (∀ j, 0 ≤ j → j < i + n → c j = c2 j) → Lea G K n i c → Lea G2 K2 n i c2
  | 0, _, _, _, _, _, _, _ => trivial
  | n + 1, i, c, c2, h0, h1, hc, h => by
    obtain ⟨⟨h2, h3⟩, h4⟩ := h
    have hci : c i = c2 i := hc i h0 (by omega)
    have key : ∀ s, (OKx G K c i s ↔ OKx G2 K2 c2 i s) := fun s => OKx_cong (fun j j0 j1 => hc j j0 (by omega)) (hG i s h0 (by omega)) (fun j j0 j1 => hK j _ i s j0 (by omega) h0 (by omega))
    refine ⟨⟨?_, fun s hs ho => ?_⟩, Lea_cong hG hK n (i + 1) c c2 (by omega) (by omega) (fun j j0 j1 => hc j j0 (by omega)) h4⟩
    · rw [← hci]; exact (key _).mp h2
    · rw [← Exr_cong hG hK n (i + 1) (cset c i s) (cset c2 i s) (by omega) (by omega) (fun j j0 j1 => by
        by_cases hj : j = i
        · rw [hj, cset_eq, cset_eq]
        · rw [cset_ne hj, cset_ne hj]; exact hc j j0 (by omega))]
      exact h3 s (by omega) ((key s).mpr ho)
theorem Exr_pre {G : Int → Int → Prop} {K : Int → Int → Int → Int → Prop} {n : Nat} {i : Int} {c c2 : Int → Int} (hi : 0 ≤ i) (hc : ∀ j, 0 ≤ j → j < i → c j = c2 j) : Exr G K n i c ↔ Exr G K n i c2 :=
  Exr_cong (N := i + n) (fun _ _ _ _ => Iff.rfl) (fun _ _ _ _ _ _ _ _ => Iff.rfl) n i c c2 hi (Int.le_refl _) hc
theorem Lea_ex {G : Int → Int → Prop} {K : Int → Int → Int → Int → Prop} : ∀ (n : Nat) (i : Int) (c : Int → Int), 0 ≤ i → Lea G K n i c → Exr G K n i c
  | 0, _, _, _, _ => trivial
  | n + 1, i, c, h0, h => ⟨c i, h.1.1, (Exr_pre (by omega) (fun j j0 j1 => by
      by_cases hj : j = i
      · rw [hj, cset_eq]
      · rw [cset_ne hj])).mpr (Lea_ex n (i + 1) c (by omega) h.2)⟩
/-- the least row is one -/
theorem Lea_uniq {G : Int → Int → Prop} {K : Int → Int → Int → Int → Prop} : ∀ (n : Nat) (i : Int) (c c2 : Int → Int), 0 ≤ i → (∀ j, 0 ≤ j → j < i → c j = c2 j) → Lea G K n i c → Lea G K n i c2 → ∀ j, 0 ≤ j → j < i + n → c j = c2 j
  | 0, i, c, c2, _, hc, _, _ => fun j j0 j1 => hc j j0 (by omega)
  | n + 1, i, c, c2, h0, hc, h, g => by
    obtain ⟨⟨h1, h2⟩, h3⟩ := h
    obtain ⟨⟨g1, g2⟩, g3⟩ := g
    have hOK : ∀ s, (OKx G K c i s ↔ OKx G K c2 i s) := fun s => OKx_cong hc Iff.rfl (fun _ _ _ => Iff.rfl)
    have e : ∀ s, (Exr G K n (i + 1) (cset c i s) ↔ Exr G K n (i + 1) (cset c2 i s)) := fun s => Exr_pre (by omega) (fun j j0 j1 => by
      by_cases hj : j = i
      · rw [hj, cset_eq, cset_eq]
      · rw [cset_ne hj, cset_ne hj]; exact hc j j0 (by omega))
    have self : ∀ c : Int → Int, Lea G K n (i + 1) c → Exr G K n (i + 1) (cset c i (c i)) := fun c hc => (Exr_pre (by omega) (fun j j0 j1 => by
      by_cases hj : j = i
      · rw [hj, cset_eq]
      · rw [cset_ne hj])).mpr (Lea_ex n (i + 1) c (by omega) hc)
    have hci : c i = c2 i := by
      rcases Int.lt_trichotomy (c i) (c2 i) with hlt | he | hgt
      · exact absurd ((e _).mp (self c h3)) (g2 _ hlt ((hOK _).mp h1))
      · exact he
      · exact absurd ((e _).mpr (self c2 g3)) (h2 _ hgt ((hOK _).mpr g1))
    have hc' : ∀ j, 0 ≤ j → j < i + 1 → c j = c2 j := fun j j0 j1 => by
      by_cases hj : j = i
      · rw [hj]; exact hci
      · exact hc j j0 (by omega)
    intro j j0 j1
    exact Lea_uniq n (i + 1) c c2 (by omega) hc' h3 g3 j j0 (by omega)
/-- where a row can be ended, each of its ships has a candidate that doesn't clash with those that stand -/
theorem Exr_each {G : Int → Int → Prop} {K : Int → Int → Int → Int → Prop} : ∀ (n : Nat) (i : Int) (c : Int → Int), 0 ≤ i → Exr G K n i c → ∀ m, i ≤ m → m < i + n → ∃ s, G m s ∧ ∀ j, 0 ≤ j → j < i → ¬ K j (c j) m s
  | 0, _, _, _, _ => fun m m0 m1 => by omega
  | n + 1, i, c, h0, ⟨s, h1, h2⟩ => fun m m0 m1 => by
    by_cases hm : m = i
    · subst hm
      exact ⟨s, h1.1, h1.2⟩
    · obtain ⟨t, t1, t2⟩ := Exr_each n (i + 1) (cset c i s) (by omega) h2 m (by omega) (by omega)
      refine ⟨t, t1, fun j j0 j1 => ?_⟩
      have := t2 j j0 (by omega)
      rw [cset_ne (by omega)] at this
      exact this
/-- an image of a row under a map that keeps the order -/
theorem Exr_map {G G2 : Int → Int → Prop} {K K2 : Int → Int → Int → Int → Prop} {f : Int → Int} {N : Int} (hG : ∀ i s, 0 ≤ i → i < N → (G2 i s ↔ ∃ t, G i t ∧ s = f t)) (hK : ∀ i s j t, 0 ≤ i → i < N → 0 ≤ j → j < N → G i s → G j t → (K2 i (f s) j (f t) ↔ K i s j t)) : ∀ (n : Nat) (i : Int) (c c2 : Int → Int), 0 ≤ i → i + n ≤ N → (∀ j, 0 ≤ j → j < i → G j (c j) ∧ c2 j = f (c j)) → (Exr G K n i c ↔ Exr G2 K2 n i c2)
  | 0, _, _, _, _, _, _ => Iff.rfl
  | n + 1, i, c, c2, h0, h1, hc => by
    have key : ∀ t, G i t → (OKx G K c i t ↔ OKx G2 K2 c2 i (f t)) := fun t ht => by
      unfold OKx
      constructor
      · rintro ⟨-, q⟩
        refine ⟨(hG i _ h0 (by omega)).mpr ⟨t, ht, rfl⟩, fun j j0 j1 z => q j j0 j1 ?_⟩
        rw [(hc j j0 j1).2] at z
        exact (hK j _ i t j0 (by omega) h0 (by omega) (hc j j0 j1).1 ht).mp z
      · rintro ⟨-, q⟩
        refine ⟨ht, fun j j0 j1 z => q j j0 j1 ?_⟩
        rw [(hc j j0 j1).2]
        exact (hK j _ i t j0 (by omega) h0 (by omega) (hc j j0 j1).1 ht).mpr z
    have ih : ∀ t, G i t → (Exr G K n (i + 1) (cset c i t) ↔ Exr G2 K2 n (i + 1) (cset c2 i (f t))) := fun t ht => Exr_map hG hK n (i + 1) _ _ (by omega) (by omega) (fun j j0 j1 => by
      by_cases hj : j = i
      · rw [hj, cset_eq, cset_eq]; exact ⟨ht, rfl⟩
      · rw [cset_ne hj, cset_ne hj]; exact hc j j0 (by omega))
    constructor
    · rintro ⟨t, h2, h3⟩
      exact ⟨f t, (key t h2.1).mp h2, (ih t h2.1).mp h3⟩
    · rintro ⟨s, h2, h3⟩
      obtain ⟨t, t1, rfl⟩ := (hG i s h0 (by omega)).mp h2.1
      exact ⟨t, (key t t1).mpr h2, (ih t t1).mpr h3⟩
theorem Lea_map {G G2 : Int → Int → Prop} {K K2 : Int → Int → Int → Int → Prop} {f : Int → Int} {N : Int} (hf : ∀ i s t, 0 ≤ i → i < N → G i s → G i t → (f s < f t ↔ s < t)) (hG : ∀ i s, 0 ≤ i → i < N → (G2 i s ↔ ∃ t, G i t ∧ s = f t)) (hK : ∀ i s j t, 0 ≤ i → i < N → 0 ≤ j → j < N → G i s → G j t → (K2 i (f s) j (f t) ↔ K i s j t)) : ∀ (n : Nat) (i : Int) (c c2 : Int → Int), 0 ≤ i → i + n ≤ N → (∀ j, 0 ≤ j → j < i → G j (c j)) → (∀ j, 0 ≤ j → j < i + n → c2 j = f (c j)) → Lea G K n i c → Lea G2 K2 n i c2
  | 0, _, _, _, _, _, _, _, _ => trivial
  | n + 1, i, c, c2, h0, h1, hg, hc, h => by
    obtain ⟨⟨h2, h3⟩, h4⟩ := h
    have hgi : G i (c i) := h2.1
    have hci : c2 i = f (c i) := hc i h0 (by omega)
    have key : ∀ t, G i t → (OKx G K c i t ↔ OKx G2 K2 c2 i (f t)) := fun t ht => by
      unfold OKx
      constructor
      · rintro ⟨-, q⟩
        refine ⟨(hG i _ h0 (by omega)).mpr ⟨t, ht, rfl⟩, fun j j0 j1 z => q j j0 j1 ?_⟩
        rw [hc j j0 (by omega)] at z
        exact (hK j _ i t j0 (by omega) h0 (by omega) (hg j j0 j1) ht).mp z
      · rintro ⟨-, q⟩
        refine ⟨ht, fun j j0 j1 z => q j j0 j1 ?_⟩
        rw [hc j j0 (by omega)]
        exact (hK j _ i t j0 (by omega) h0 (by omega) (hg j j0 j1) ht).mpr z
    refine ⟨⟨?_, fun s hs ho => ?_⟩, Lea_map hf hG hK n (i + 1) c c2 (by omega) (by omega) (fun j j0 j1 => by
      by_cases hj : j = i
      · rw [hj]; exact hgi
      · exact hg j j0 (by omega)) (fun j j0 j1 => hc j j0 (by omega)) h4⟩
    · rw [hci]; exact (key _ hgi).mp h2
    · obtain ⟨t, t1, rfl⟩ := (hG i s h0 (by omega)).mp ho.1
      rw [← Exr_map hG hK n (i + 1) (cset c i t) (cset c2 i (f t)) (by omega) (by omega) (fun j j0 j1 => by
        by_cases hj : j = i
        · rw [hj, cset_eq, cset_eq]; exact ⟨t1, rfl⟩
        · rw [cset_ne hj, cset_ne hj]; exact ⟨hg j j0 (by omega), hc j j0 (by omega)⟩)]
      exact h3 t ((hf i t (c i) h0 (by omega) t1 hgi).mp (by omega)) ((key t t1).mpr ho)
end
section
/-! THE CLASS'S SEARCH: settles, settlesAt, settlesRow -/
def SI (I I0 : IM) : Prop := ∀ c b, ¬ c = 124 → I c b = I0 c b
def SLm (L L0 : LM) : Prop := ∀ c b, ¬ c = 127 → L c b = L0 c b
abbrev rG (I0 : IM) : Int → Int → Prop := fun i s => (0 ≤ s ∧ s < 64) ∧ cLeft I0 (I0 123 i) (I0 122 3) (s % 8) (s / 8)
abbrev rK (I0 : IM) : Int → Int → Int → Int → Prop := fun i s j t => CL (I0 1 3) (I0 4 (I0 123 i)) (I0 5 (I0 123 i)) (s % 8) (s / 8) (I0 4 (I0 123 j)) (I0 5 (I0 123 j)) (t % 8) (t / 8)
def RowOK (I0 : IM) (L0 : LM) : Prop := CW I0 ∧ (0 ≤ I0 122 2 ∧ I0 122 2 ≤ 3) ∧ (0 ≤ I0 122 3 ∧ I0 122 3 < 32) ∧ (∀ i, 0 ≤ i → i < I0 122 2 → Slot1 I0 (I0 123 i) ∧ LookOK I0 L0 (I0 123 i) ∧ ∀ a, 0 ≤ a → a < I0 1 4 → bt (I0 122 3) a = false → ¬ a = I0 123 i) ∧ ∀ i j, 0 ≤ i → i < j → j < I0 122 2 → ¬ I0 123 i = I0 123 j
def FP (I0 : IM) (lv : Int) (c : Int → Int) (i : Int) : Int → Int → Prop := fun x y => cLeft I0 (I0 123 i) (I0 122 3) x y ∧ ∀ j, 0 ≤ j → j < lv → ¬ CL (I0 1 3) (I0 4 (I0 123 j)) (I0 5 (I0 123 j)) (c j % 8) (c j / 8) (I0 4 (I0 123 i)) (I0 5 (I0 123 i)) x y
theorem OKx_FP {I0 : IM} {lv s : Int} {c : Int → Int} : OKx (rG I0) (rK I0) c lv s ↔ (0 ≤ s ∧ s < 64) ∧ FP I0 lv c lv (s % 8) (s / 8) :=
  ⟨fun h => ⟨h.1.1, h.1.2, h.2⟩, fun h => ⟨⟨h.1, h.2.1⟩, h.2.2⟩⟩
theorem FP_cong {I0 : IM} {lv i x y : Int} {c c2 : Int → Int} (h : ∀ j, 0 ≤ j → j < lv → c j = c2 j) : FP I0 lv c i x y ↔ FP I0 lv c2 i x y := by
  unfold FP
  constructor <;> rintro ⟨h1, h2⟩ <;> refine ⟨h1, fun j j0 j1 => ?_⟩
  · rw [← h j j0 j1]; exact h2 j j0 j1
  · rw [h j j0 j1]; exact h2 j j0 j1
def FreeOK (I0 : IM) (lv : Int) (c : Int → Int) (L : LM) : Prop := ∀ i, lv ≤ i → i < I0 122 2 → LB (L 127 (lv * 3 + i)) (FP I0 lv c i)
/-- what a search from a level on leaves -/
def SePost (I0 : IM) (L0 : LM) (lv : Int) (I : IM) (L : LM) (good bad : IM → Prop) : Option AV → IM → LM → Prop := fun v I' L' => ((v = some (vi 1) ∧ good I') ∨ (v = some (vi 0) ∧ bad I)) ∧ SI I' I0 ∧ SLm L' L0 ∧ (∀ b, b < lv → I' 124 b = I 124 b) ∧ ∀ b, b < (lv + 1) * 3 → L' 127 b = L 127 b
def SettlesOK (xs : RO) (I0 : IM) (L0 : LM) (n d : Nat) : Prop := ∀ (lv : Int) (I : IM) (L : LM), 0 ≤ lv → lv + n = I0 122 2 → SI I I0 → SLm L L0 → FreeOK I0 lv (I 124) L →
  Wk xs x_Sear_settles d 0 0 0 [some (vr 122), some (vi lv), none, none, none] [] X2 I L (p2 (SePost I0 L0 lv I L (fun I' => Lea (rG I0) (rK I0) n lv (I' 124)) (fun I => ¬ Exr (rG I0) (rK I0) n lv (I 124))))
def SettlesAtOK (xs : RO) (I0 : IM) (L0 : LM) (n d : Nat) : Prop := ∀ (lv s : Int) (I : IM) (L : LM), 0 ≤ lv → lv + n + 1 = I0 122 2 → SI I I0 → SLm L L0 → FreeOK I0 lv (I 124) L → OKx (rG I0) (rK I0) (I 124) lv s →
  Wk xs x_Sear_settlesAt d 0 0 0 [some (vr 122), some (vi lv), some (vi s), none, none, none] [] X2 I L (p2 (SePost I0 L0 lv I L (fun I' => Lea (rG I0) (rK I0) n (lv + 1) (I' 124) ∧ I' 124 lv = s) (fun I => ¬ Exr (rG I0) (rK I0) n (lv + 1) (cset (I 124) lv s))))
section SED
variable {xs : RO} {I0 : IM} {L0 : LM}

theorem settles_0 (hR : RowOK I0 L0) (d : Nat) : SettlesOK xs I0 L0 0 d := by
  intro lv I L h0 h1 hI hL hF
  have e := hI 122 2 (by decide)
  have hlen := hR.2.1
  refine Wk.iload_n (k := 1) (q := 1) (by decide +kernel) rfl rfl rfl ?_
  refine Wk.aload_n (k := 0) (q := 2) (by decide +kernel) rfl rfl rfl ?_
  refine Wk.getI (z := 2) (q := 5) f_Sear_50 (by decide +kernel) O_122 (by decide) rfl rfl rfl ?_
  refine Wk.icmp_ge (off := (8)) (t := 13) (q := 8) (by decide +kernel) (by decide) rfl (by first | omega | exact bi_rng _) (by first | omega | exact bi_rng _) (fun hc5 => ?_) (fun hc5 => ?_)
  · refine Wk.iconst (n := 1) (q := 14) (by decide +kernel) rfl ?_
    exact Wk.rzP (by decide +kernel) rfl (by first | omega | decide | exact bi_01 _) (⟨Or.inl ⟨rfl, trivial⟩, hI, hL, fun _ _ => rfl, fun _ _ => rfl⟩)
  · omega
theorem settlesAt_of {n d : Nat} (hR : RowOK I0 L0) (hS : SettlesOK xs I0 L0 n (d + 2)) : SettlesAtOK xs I0 L0 n (d + 3) := by
  intro lv s I L h0 h1 hI hL hF hO
  have hlen := hR.2.1
  obtain ⟨⟨hs0, hs1⟩, hFs⟩ := OKx_FP.mp hO
  have key : ∀ I1 : IM, SI I1 I0 → (∀ b, ¬ b = lv → I1 124 b = I 124 b) → I1 124 lv = s → Wk xs x_Sear_settlesAt (d + 3) 0 0 11 [some (vr 122), some (vi lv), some (vi s), some (vi (lv + 1)), none, none] [] X2 I1 L (p2 (SePost I0 L0 lv I L (fun I' => Lea (rG I0) (rK I0) n (lv + 1) (I' 124) ∧ I' 124 lv = s) (fun I => ¬ Exr (rG I0) (rK I0) n (lv + 1) (cset (I 124) lv s)))) := by
    intro I1 hI1 hb1 hs2
    have e2 := hI1 122 2 (by decide)
    have hc1 : ∀ j, 0 ≤ j → j < lv + 1 → I1 124 j = cset (I 124) lv s j := fun j j0 j1 => by
      by_cases hj : j = lv
      · rw [hj, cset_eq]; exact hs2
      · rw [cset_ne hj]; exact hb1 j hj
    refine loopS (σ := LM × Option AV) (fun i t => Wk xs x_Sear_settlesAt (d + 3) 0 0 11 [some (vr 122), some (vi lv), some (vi s), some (vi i), t.2, none] [] X2 I1 t.1 (p2 (SePost I0 L0 lv I L (fun I' => Lea (rG I0) (rK I0) n (lv + 1) (I' 124) ∧ I' 124 lv = s) (fun I => ¬ Exr (rG I0) (rK I0) n (lv + 1) (cset (I 124) lv s))))) (fun i t => SLm t.1 L0 ∧ (∀ b, b < (lv + 1) * 3 → t.1 127 b = L 127 b) ∧ ∀ m, lv + 1 ≤ m → m < i → LB (t.1 127 ((lv + 1) * 3 + m)) (FP I0 (lv + 1) (I1 124) m)) (I0 122 2) (lv + 1) (L, none) (by omega) ⟨hL, fun _ _ => rfl, fun m m0 m1 => by omega⟩ ?_ ?_
    · intro t hJ
      obtain ⟨L2, o4⟩ := t
      obtain ⟨hJ1, hJ2, hJ3⟩ := hJ
      simp only at hJ1 hJ2 hJ3 ⊢
      refine Wk.iload_n (k := 3) (q := 12) (by decide +kernel) rfl rfl rfl ?_
      refine Wk.aload_n (k := 0) (q := 13) (by decide +kernel) rfl rfl rfl ?_
      refine Wk.getI (z := 2) (q := 16) f_Sear_50 (by decide +kernel) O_122 (by decide) rfl rfl rfl ?_
      refine Wk.icmp_ge (off := (66)) (t := 82) (q := 19) (by decide +kernel) (by decide) rfl (by first | omega | exact bi_rng _) (by first | omega | exact bi_rng _) (fun hc16 => ?_) (fun hc16 => ?_)
      · refine Wk.aload_n (k := 0) (q := 83) (by decide +kernel) rfl rfl rfl ?_
        refine Wk.iload_n (k := 1) (q := 84) (by decide +kernel) rfl rfl rfl ?_
        refine Wk.iconst (n := 1) (q := 85) (by decide +kernel) rfl ?_
        refine Wk.iadd (q := 86) (by decide +kernel) rfl ?_
        refine Wk.cV (q := 89) l_Sear_73 m_Sear_settles (by decide +kernel) (fun _ h => h) O_122 rfl (Nat.le_of_ble_eq_true rfl) (Nat.le_of_ble_eq_true rfl) rfl (hS (lv + 1) I1 L2 (by omega) (by omega) hI1 hJ1 (fun i i0 i1 => hJ3 i i0 i1)) rfl (fun v I' L' hP => ?_)
        obtain ⟨hv, q1, q2, q3, q4⟩ := hP
        have hfin : SePost I0 L0 lv I L (fun I' => Lea (rG I0) (rK I0) n (lv + 1) (I' 124) ∧ I' 124 lv = s) (fun I => ¬ Exr (rG I0) (rK I0) n (lv + 1) (cset (I 124) lv s)) v I' L' := by
          refine ⟨?_, q1, q2, fun b hb => by rw [q3 b (by omega)]; exact hb1 b (by omega), fun b hb => by rw [q4 b (by omega)]; exact hJ2 b hb⟩
          rcases hv with ⟨rfl, hv⟩ | ⟨rfl, hv⟩
          · exact Or.inl ⟨rfl, hv, by rw [q3 lv (by omega)]; exact hs2⟩
          · exact Or.inr ⟨rfl, fun z => hv ((Exr_pre (by omega) hc1).mpr z)⟩
        obtain ⟨z, hz, hz2⟩ : ∃ z : Int, (z = 0 ∨ z = 1) ∧ v = some (vi z) := by
          rcases hv with ⟨rfl, -⟩ | ⟨rfl, -⟩
          · exact ⟨1, Or.inr rfl, rfl⟩
          · exact ⟨0, Or.inl rfl, rfl⟩
        subst hz2
        exact Wk.rzP (by decide +kernel) rfl (by first | omega | decide | exact bi_01 _) (hfin)
      · omega
    · intro i t i0 i1 hJ ih
      obtain ⟨L2, o4⟩ := t
      obtain ⟨hJ1, hJ2, hJ3⟩ := hJ
      simp only at hJ1 hJ2 hJ3 ⊢
      obtain ⟨rs1, rs2, -⟩ := hR.2.2.2.1 lv h0 (by omega)
      obtain ⟨ri1, ri2, -⟩ := hR.2.2.2.1 i (by omega) (by omega)
      have e3 := hI1 123 lv (by decide)
      have e4 := hI1 123 i (by decide)
      have b3 : 0 ≤ I0 123 lv ∧ I0 123 lv < 8 := by have := hR.1.1; unfold CI0 at this; unfold Slot1 at rs1; omega
      have b4 : 0 ≤ I0 123 i ∧ I0 123 i < 8 := by have := hR.1.1; unfold CI0 at this; unfold Slot1 at ri1; omega
      have hbad : LB (L2 126 (I0 123 lv * 8 + I0 123 i)) (cBad I0 (I0 123 lv) (I0 123 i)) := by
        rw [hJ1 126 _ (by decide)]
        exact ri2.2 (I0 123 lv) b3.1 b3.2 rs1 (hR.2.2.2.2 lv i h0 (by omega) i1)
      have hfr : LB (L2 127 (lv * 3 + i)) (FP I0 lv (I 124) i) := by
        rw [hJ2 _ (by omega)]
        exact hF i (by omega) i1
      obtain ⟨-, c1, c2⟩ := hR.1.2.1 _ rs1
      obtain ⟨-, c3, c4⟩ := hR.1.2.1 _ ri1
      refine Wk.iload_n (k := 3) (q := 12) (by decide +kernel) rfl rfl rfl ?_
      refine Wk.aload_n (k := 0) (q := 13) (by decide +kernel) rfl rfl rfl ?_
      refine Wk.getI (z := 2) (q := 16) f_Sear_50 (by decide +kernel) O_122 (by decide) rfl rfl rfl ?_
      refine Wk.icmp_ge (off := (66)) (t := 82) (q := 19) (by decide +kernel) (by decide) rfl (by first | omega | exact bi_rng _) (by first | omega | exact bi_rng _) (fun hc16 => ?_) (fun hc16 => ?_)
      · omega
      · refine Wk.aload_n (k := 0) (q := 20) (by decide +kernel) rfl rfl rfl ?_
        refine Wk.getR (r := 127) (q := 23) f_Sear_25 (by decide +kernel) O_122 (by decide) rfl rfl rfl ?_
        refine Wk.iload_n (k := 1) (q := 24) (by decide +kernel) rfl rfl rfl ?_
        refine Wk.iconst (n := 3) (q := 25) (by decide +kernel) rfl ?_
        refine Wk.imul (q := 26) (by decide +kernel) rfl ?_
        refine Wk.iload_n (k := 3) (q := 27) (by decide +kernel) rfl rfl rfl ?_
        refine Wk.iadd (q := 28) (by decide +kernel) rfl ?_
        refine Wk.laload (q := 29) (by decide +kernel) A_127 (by first | omega | exact bi_rng _) (by first | omega | exact bi_rng _) rfl ?_
        refine Wk.aload_n (k := 0) (q := 30) (by decide +kernel) rfl rfl rfl ?_
        refine Wk.aload_n (k := 0) (q := 31) (by decide +kernel) rfl rfl rfl ?_
        refine Wk.getR (r := 123) (q := 34) f_Sear_11 (by decide +kernel) O_122 (by decide) rfl rfl rfl ?_
        refine Wk.iload_n (k := 1) (q := 35) (by decide +kernel) rfl rfl rfl ?_
        refine Wk.iaload (q := 36) (by decide +kernel) A_123 (by first | omega | exact bi_rng _) (by first | omega | exact bi_rng _) rfl ?_
        refine Wk.aload_n (k := 0) (q := 37) (by decide +kernel) rfl rfl rfl ?_
        refine Wk.getR (r := 123) (q := 40) f_Sear_11 (by decide +kernel) O_122 (by decide) rfl rfl rfl ?_
        refine Wk.iload_n (k := 3) (q := 41) (by decide +kernel) rfl rfl rfl ?_
        refine Wk.iaload (q := 42) (by decide +kernel) A_123 (by first | omega | exact bi_rng _) (by first | omega | exact bi_rng _) rfl ?_
        refine Wk.iload_n (k := 2) (q := 43) (by decide +kernel) rfl rfl rfl ?_
        refine Wk.cV (q := 46) l_Sear_81 m_Sear_around (by decide +kernel) (fun _ h => h) O_122 rfl (Nat.le_of_ble_eq_true rfl) (Nat.le_of_ble_eq_true rfl) rfl ((by rw [e3, e4]; exact c_Sear_around b3 b4 ⟨hs0, hs1⟩ hbad)) rfl (fun v I' L' hP => ?_)
        obtain ⟨⟨z, rfl, hz⟩, rfl, rfl⟩ := hP
        have hleft : LB (L' 127 (lv * 3 + i) &&& (z ^^^ -1)) (FP I0 (lv + 1) (I' 124) i) := (hfr.and hz.not).cong (fun x y _ _ _ _ => by
          rw [FP_cong hc1]
          unfold FP
          constructor
          · rintro ⟨⟨p1, p2⟩, p3⟩
            refine ⟨p1, ext1 (fun j j0 j1 => by rw [cset_ne (by omega)]; exact p2 j j0 j1) ?_⟩
            rw [cset_eq]
            exact fun q => p3 ((cl_shift c1 c2 c3 c4).mpr q)
          · rintro ⟨p1, p2⟩
            refine ⟨⟨p1, fun j j0 j1 => ?_⟩, fun q => ?_⟩
            · have := p2 j j0 (by omega)
              rw [cset_ne (by omega)] at this
              exact this
            · have := p2 lv h0 (by omega)
              rw [cset_eq] at this
              exact this ((cl_shift c1 c2 c3 c4).mp q))
        refine Wk.ldc2 (q := 49) k_Sear_85 (by decide +kernel) rfl ?_
        refine Wk.lxor (q := 50) (by decide +kernel) rfl ?_
        refine Wk.land (q := 51) (by decide +kernel) rfl ?_
        refine Wk.lstore (i := 4) (q := 53) (by decide +kernel) (by decide) rfl (fun _ h => h) rfl ?_
        refine Wk.lload (i := 4) (q := 55) (by decide +kernel) rfl rfl ?_
        refine Wk.lconst (n := 0) (v := 0) (q := 56) (by decide +kernel) rfl rfl ?_
        refine Wk.lcmp (q := 57) (by decide +kernel) rfl ?_
        refine Wk.if_ne (off := (5)) (t := 62) (q := 60) (by decide +kernel) (by decide) rfl (by first | omega | (split <;> (try split) <;> omega)) (fun hc57 => ?_) (fun hc57 => ?_)
        · refine Wk.aload_n (k := 0) (q := 63) (by decide +kernel) rfl rfl rfl ?_
          refine Wk.getR (r := 127) (q := 66) f_Sear_25 (by decide +kernel) O_122 (by decide) rfl rfl rfl ?_
          refine Wk.iload_n (k := 1) (q := 67) (by decide +kernel) rfl rfl rfl ?_
          refine Wk.iconst (n := 1) (q := 68) (by decide +kernel) rfl ?_
          refine Wk.iadd (q := 69) (by decide +kernel) rfl ?_
          refine Wk.iconst (n := 3) (q := 70) (by decide +kernel) rfl ?_
          refine Wk.imul (q := 71) (by decide +kernel) rfl ?_
          refine Wk.iload_n (k := 3) (q := 72) (by decide +kernel) rfl rfl rfl ?_
          refine Wk.iadd (q := 73) (by decide +kernel) rfl ?_
          refine Wk.lload (i := 4) (q := 75) (by decide +kernel) rfl rfl ?_
          refine Wk.lastore (q := 76) (by decide +kernel) A_127 (by first | omega | exact bi_rng _) (by first | omega | exact bi_rng _) rfl ?_
          refine Wk.iinc (i := 3) (n := 1) (q := 79) (by decide +kernel) rfl (by decide) rfl (fun _ h => h) rfl ?_
          refine Wk.goto (off := (-68)) (q := 11) (by decide +kernel) (by decide) ?_
          refine ih (lup L' 127 ((lv + 1) * 3 + i) (L' 127 (lv * 3 + i) &&& (z ^^^ -1)), _) ?_
          dsimp only
          exact ⟨fun c b hcb => by rw [lup_ne (fun q => hcb q.1)]; exact hJ1 c b hcb, fun b hb => by rw [lup_ne (by omega)]; exact hJ2 b hb, ext1 (fun m m0 m1 => by rw [lup_ne (by omega)]; exact hJ3 m m0 m1) (by rw [lup_eq]; exact hleft)⟩
        · refine Wk.iconst (n := 0) (q := 61) (by decide +kernel) rfl ?_
          exact Wk.rzP (by decide +kernel) rfl (by first | omega | decide | exact bi_01 _) (⟨Or.inr ⟨rfl, fun hx => by
        rw [cmp0] at hc57
        obtain ⟨t, t1, t2⟩ := Exr_each n (lv + 1) _ (by omega) hx i i0 (by omega)
        exact (hleft.zero_iff.mp hc57) (t % 8) (t / 8) (by omega) (by omega) (by have := t1.1; omega) (by have := t1.1; omega) ((FP_cong hc1).mpr ⟨t1.2, t2⟩)⟩, hI1, hJ1, fun b hb => hb1 b (by omega), hJ2⟩)
  refine Wk.aload_n (k := 0) (q := 1) (by decide +kernel) rfl rfl rfl ?_
  refine Wk.getR (r := 124) (q := 4) f_Sear_15 (by decide +kernel) O_122 (by decide) rfl rfl rfl ?_
  refine Wk.iload_n (k := 1) (q := 5) (by decide +kernel) rfl rfl rfl ?_
  refine Wk.iload_n (k := 2) (q := 6) (by decide +kernel) rfl rfl rfl ?_
  refine Wk.iastore (q := 7) (by decide +kernel) A_124 (by first | omega | exact bi_rng _) (by first | omega | exact bi_rng _) rfl ?_
  refine Wk.iload_n (k := 1) (q := 8) (by decide +kernel) rfl rfl rfl ?_
  refine Wk.iconst (n := 1) (q := 9) (by decide +kernel) rfl ?_
  refine Wk.iadd (q := 10) (by decide +kernel) rfl ?_
  refine Wk.istore_n (k := 3) (q := 11) (by decide +kernel) rfl (by decide) rfl (fun _ h => h) rfl ?_
  exact key _ (fun c b hcb => by simp only [iup]; rw [if_neg (fun q => hcb q.1)]; exact hI c b hcb) (fun b hb => by simp only [iup]; rw [if_neg (fun q => hb q.2)]) (by simp [iup])
theorem settles_of {n d : Nat} (hR : RowOK I0 L0) (hT : SettlesAtOK xs I0 L0 n (d + 1)) : SettlesOK xs I0 L0 (n + 1) (d + 2) := by
  intro lv I L h0 h1 hI hL hF
  have e := hI 122 2 (by decide)
  have hlen := hR.2.1
  have hfr := hF lv (by omega) (by omega)
  have key : Wk xs x_Sear_settles (d + 2) 0 0 29 [some (vr 122), some (vi lv), some (vl (L 127 (lv * 3 + lv))), none, some (vi 0)] [] X2 I L (p2 (SePost I0 L0 lv I L (fun I' => Lea (rG I0) (rK I0) (n + 1) lv (I' 124)) (fun I => ¬ Exr (rG I0) (rK I0) (n + 1) lv (I 124)))) := by
    refine loopS (σ := IM × LM) (fun k t => Wk xs x_Sear_settles (d + 2) 0 0 29 [some (vr 122), some (vi lv), some (vl (L 127 (lv * 3 + lv))), none, some (vi k)] [] X2 t.1 t.2 (p2 (SePost I0 L0 lv I L (fun I' => Lea (rG I0) (rK I0) (n + 1) lv (I' 124)) (fun I => ¬ Exr (rG I0) (rK I0) (n + 1) lv (I 124))))) (fun k t => SI t.1 I0 ∧ SLm t.2 L0 ∧ (∀ b, b < lv → t.1 124 b = I 124 b) ∧ (∀ b, b < (lv + 1) * 3 → t.2 127 b = L 127 b) ∧ ∀ s, 0 ≤ s → s < k → OKx (rG I0) (rK I0) (I 124) lv s → ¬ Exr (rG I0) (rK I0) n (lv + 1) (cset (I 124) lv s)) 64 0 (I, L) (by omega) ⟨hI, hL, fun _ _ => rfl, fun _ _ => rfl, fun s s0 s1 => by omega⟩ ?_ ?_
    · intro t hJ
      obtain ⟨I2, L2⟩ := t
      obtain ⟨j1, j2, j3, j4, j5⟩ := hJ
      simp only at j1 j2 j3 j4 ⊢
      refine Wk.iload (i := 4) (q := 31) (by decide +kernel) rfl rfl ?_
      refine Wk.bipush (n := 64) (q := 33) (by decide +kernel) (by decide +kernel) rfl ?_
      refine Wk.icmp_ge (off := (30)) (t := 63) (q := 36) (by decide +kernel) (by decide) rfl (by first | omega | exact bi_rng _) (by first | omega | exact bi_rng _) (fun hc33 => ?_) (fun hc33 => ?_)
      · refine Wk.iconst (n := 0) (q := 64) (by decide +kernel) rfl ?_
        exact Wk.rzP (by decide +kernel) rfl (by first | omega | decide | exact bi_01 _) (⟨Or.inr ⟨rfl, fun ⟨s, q1, q2⟩ => j5 s q1.1.1.1 q1.1.1.2 q1 q2⟩, j1, j2, j3, j4⟩)
      · omega
    · intro k t k0 k1 hJ ih
      obtain ⟨I2, L2⟩ := t
      obtain ⟨j1, j2, j3, j4, j5⟩ := hJ
      simp only at j1 j2 j3 j4 ⊢
      have hpre : ∀ j, 0 ≤ j → j < lv → I2 124 j = I 124 j := fun j _ q => j3 j q
      have hok : bl (L 127 (lv * 3 + lv)) k = true ↔ OKx (rG I0) (rK I0) (I 124) lv k := by
        rw [OKx_FP, hfr k k0 k1]
        exact ⟨fun q => ⟨⟨k0, k1⟩, q⟩, fun q => q.2⟩
      refine Wk.iload (i := 4) (q := 31) (by decide +kernel) rfl rfl ?_
      refine Wk.bipush (n := 64) (q := 33) (by decide +kernel) (by decide +kernel) rfl ?_
      refine Wk.icmp_ge (off := (30)) (t := 63) (q := 36) (by decide +kernel) (by decide) rfl (by first | omega | exact bi_rng _) (by first | omega | exact bi_rng _) (fun hc33 => ?_) (fun hc33 => ?_)
      · omega
      · refine Wk.lload_n (k := 2) (q := 37) (by decide +kernel) rfl rfl rfl ?_
        refine Wk.iload (i := 4) (q := 39) (by decide +kernel) rfl rfl ?_
        refine Wk.cNi (q := 42) ln_Sear_46 m_Sw_holds (by decide +kernel) (fun _ h => h) (Nat.le_of_ble_eq_true rfl) (Nat.le_of_ble_eq_true rfl) rfl (c_Sw_holds k0 k1) rfl ?_
        refine Wk.ifB_eq (off := (15)) (t := 57) (q := 45) (by decide +kernel) (by decide) rfl (fun hc42 => ?_) (fun hc42 => ?_)
        · refine Wk.iinc (i := 4) (n := 1) (q := 60) (by decide +kernel) rfl (by decide) rfl (fun _ h => h) rfl ?_
          refine Wk.goto (off := (-31)) (q := 29) (by decide +kernel) (by decide) ?_
          first
            | exact ih (_, _) ⟨j1, j2, j3, j4, ext1 j5 (fun q => absurd (hok.mpr q) hc42)⟩
            | (refine ih (I3, L3) ?_
               dsimp only
               refine ⟨q1, q2, fun b hb => by rw [q3 b hb]; exact j3 b hb, fun b hb => by rw [q4 b hb]; exact j4 b hb, ext1 j5 (fun _ => ?_)⟩
               rcases hv with ⟨hv, -⟩ | ⟨-, hv⟩
               · injection hv with hv
                 have : z = 1 := by injection hv
                 omega
               · exact fun q => hv ((Exr_pre (by omega) (fun j a0 a1 => by
                   by_cases hj : j = lv
                   · rw [hj, cset_eq, cset_eq]
                   · rw [cset_ne hj, cset_ne hj]; exact hpre j a0 (by omega))).mpr q))
        · refine Wk.aload_n (k := 0) (q := 46) (by decide +kernel) rfl rfl rfl ?_
          refine Wk.iload_n (k := 1) (q := 47) (by decide +kernel) rfl rfl rfl ?_
          refine Wk.iload (i := 4) (q := 49) (by decide +kernel) rfl rfl ?_
          refine Wk.cV (q := 52) l_Sear_77 m_Sear_settlesAt (by decide +kernel) (fun _ h => h) O_122 rfl (Nat.le_of_ble_eq_true rfl) (Nat.le_of_ble_eq_true rfl) rfl (hT lv k I2 L2 h0 (by omega) j1 j2 (fun i i0 i1 => by rw [j4 _ (by omega)]; exact (hF i i0 i1).cong (fun x y _ _ _ _ => (FP_cong hpre).symm)) ((OKx_cong hpre Iff.rfl (fun _ _ _ => Iff.rfl)).mpr (hok.mp hc42))) rfl (fun v I3 L3 hP => ?_)
          obtain ⟨hv, q1, q2, q3, q4⟩ := hP
          obtain ⟨z, hz, hz2⟩ : ∃ z : Int, (z = 0 ∨ z = 1) ∧ v = some (vi z) := by
            rcases hv with ⟨rfl, -⟩ | ⟨rfl, -⟩
            · exact ⟨1, Or.inr rfl, rfl⟩
            · exact ⟨0, Or.inl rfl, rfl⟩
          subst hz2
          refine Wk.if_eq (off := (5)) (t := 57) (q := 55) (by decide +kernel) (by decide) rfl (by first | omega | exact bi_rng _) (fun hc52 => ?_) (fun hc52 => ?_)
          · refine Wk.iinc (i := 4) (n := 1) (q := 60) (by decide +kernel) rfl (by decide) rfl (fun _ h => h) rfl ?_
            refine Wk.goto (off := (-31)) (q := 29) (by decide +kernel) (by decide) ?_
            first
              | exact ih (_, _) ⟨j1, j2, j3, j4, ext1 j5 (fun q => absurd (hok.mpr q) hc42)⟩
              | (refine ih (I3, L3) ?_
                 dsimp only
                 refine ⟨q1, q2, fun b hb => by rw [q3 b hb]; exact j3 b hb, fun b hb => by rw [q4 b hb]; exact j4 b hb, ext1 j5 (fun _ => ?_)⟩
                 rcases hv with ⟨hv, -⟩ | ⟨-, hv⟩
                 · injection hv with hv
                   have : z = 1 := by injection hv
                   omega
                 · exact fun q => hv ((Exr_pre (by omega) (fun j a0 a1 => by
                     by_cases hj : j = lv
                     · rw [hj, cset_eq, cset_eq]
                     · rw [cset_ne hj, cset_ne hj]; exact hpre j a0 (by omega))).mpr q))
          · refine Wk.iconst (n := 1) (q := 56) (by decide +kernel) rfl ?_
            exact Wk.rzP (by decide +kernel) rfl (by first | omega | decide | exact bi_01 _) (⟨Or.inl ⟨rfl, by
        rcases hv with ⟨-, hv, hv2⟩ | ⟨hv, -⟩
        · have hp3 : ∀ j, 0 ≤ j → j < lv → I3 124 j = I 124 j := fun j a0 a1 => by rw [q3 j a1]; exact j3 j a1
          refine ⟨⟨?_, fun s hs ho => ?_⟩, hv⟩
          · rw [hv2]
            exact (OKx_cong hp3 Iff.rfl (fun _ _ _ => Iff.rfl)).mpr (hok.mp hc42)
          · rw [hv2] at hs
            have ho2 := (OKx_cong hp3 Iff.rfl (fun _ _ _ => Iff.rfl)).mp ho
            exact fun q => j5 s ho2.1.1.1 hs ho2 ((Exr_pre (by omega) (fun j a0 a1 => by
              by_cases hj : j = lv
              · rw [hj, cset_eq, cset_eq]
              · rw [cset_ne hj, cset_ne hj]; exact hp3 j a0 (by omega))).mp q)
        · injection hv with hv
          have : z = 0 := by injection hv
          omega⟩, q1, q2, fun b hb => by rw [q3 b hb]; exact j3 b hb, fun b hb => by rw [q4 b hb]; exact j4 b hb⟩)
  refine Wk.iload_n (k := 1) (q := 1) (by decide +kernel) rfl rfl rfl ?_
  refine Wk.aload_n (k := 0) (q := 2) (by decide +kernel) rfl rfl rfl ?_
  refine Wk.getI (z := 2) (q := 5) f_Sear_50 (by decide +kernel) O_122 (by decide) rfl rfl rfl ?_
  refine Wk.icmp_ge (off := (8)) (t := 13) (q := 8) (by decide +kernel) (by decide) rfl (by first | omega | exact bi_rng _) (by first | omega | exact bi_rng _) (fun hc5 => ?_) (fun hc5 => ?_)
  · omega
  · refine Wk.iload_n (k := 1) (q := 9) (by decide +kernel) rfl rfl rfl ?_
    refine Wk.iconst (n := 3) (q := 10) (by decide +kernel) rfl ?_
    refine Wk.icmp_lt (off := (5)) (t := 15) (q := 13) (by decide +kernel) (by decide) rfl (by first | omega | exact bi_rng _) (by first | omega | exact bi_rng _) (fun hc10 => ?_) (fun hc10 => ?_)
    · refine Wk.aload_n (k := 0) (q := 16) (by decide +kernel) rfl rfl rfl ?_
      refine Wk.getR (r := 127) (q := 19) f_Sear_25 (by decide +kernel) O_122 (by decide) rfl rfl rfl ?_
      refine Wk.iload_n (k := 1) (q := 20) (by decide +kernel) rfl rfl rfl ?_
      refine Wk.iconst (n := 3) (q := 21) (by decide +kernel) rfl ?_
      refine Wk.imul (q := 22) (by decide +kernel) rfl ?_
      refine Wk.iload_n (k := 1) (q := 23) (by decide +kernel) rfl rfl rfl ?_
      refine Wk.iadd (q := 24) (by decide +kernel) rfl ?_
      refine Wk.laload (q := 25) (by decide +kernel) A_127 (by first | omega | exact bi_rng _) (by first | omega | exact bi_rng _) rfl ?_
      refine Wk.lstore_n (k := 2) (q := 26) (by decide +kernel) rfl (by decide) rfl (fun _ h => h) rfl ?_
      refine Wk.iconst (n := 0) (q := 27) (by decide +kernel) rfl ?_
      refine Wk.istore (i := 4) (q := 29) (by decide +kernel) (by decide) rfl (fun _ h => h) rfl ?_
      exact key
    · omega
theorem settles_all (hR : RowOK I0 L0) (d : Nat) : ∀ n : Nat, n ≤ 3 → SettlesOK xs I0 L0 n (d + 8)
  | 0, _ => settles_0 hR _
  | 1, _ => settles_of hR (settlesAt_of hR (settles_0 hR (d + 6)))
  | 2, _ => settles_of hR (settlesAt_of hR (settles_of hR (settlesAt_of hR (settles_0 hR (d + 4)))))
  | 3, _ => settles_of hR (settlesAt_of hR (settles_of hR (settlesAt_of hR (settles_of hR (settlesAt_of hR (settles_0 hR (d + 2)))))))
  | n + 4, h => absurd h (by omega)
end SED
end
section
/-! THE CLASS'S SEARCH: all that wait; with ships moved -/
theorem loopS2 {σ τ : Type} (V : Int → σ → τ → Prop) (J : Int → σ → τ → Prop) (e k0 : Int) (s0 : σ) (t0 : τ) (h0 : k0 ≤ e) (hJ : J k0 s0 t0) (he : ∀ s t, J e s t → V e s t) (hs : ∀ k s t, k0 ≤ k → k < e → J k s t → (∀ s' t', J (k + 1) s' t' → V (k + 1) s' t') → V k s t) : V k0 s0 t0 :=
  loopS (σ := σ × τ) (fun k p => V k p.1 p.2) (fun k p => J k p.1 p.2) e k0 (s0, t0) h0 hJ (fun p hp => he p.1 p.2 hp) (fun k p h1 h2 hp ih => hs k p.1 p.2 h1 h2 hp (fun s' t' hj => ih (s', t') hj))
theorem loopS3 {σ τ υ : Type} (V : Int → σ → τ → υ → Prop) (J : Int → σ → τ → υ → Prop) (e k0 : Int) (s0 : σ) (t0 : τ) (u0 : υ) (h0 : k0 ≤ e) (hJ : J k0 s0 t0 u0) (he : ∀ s t u, J e s t u → V e s t u) (hs : ∀ k s t u, k0 ≤ k → k < e → J k s t u → (∀ s' t' u', J (k + 1) s' t' u' → V (k + 1) s' t' u') → V k s t u) : V k0 s0 t0 u0 :=
  loopS (σ := σ × τ × υ) (fun k p => V k p.1 p.2.1 p.2.2) (fun k p => J k p.1 p.2.1 p.2.2) e k0 (s0, t0, u0) h0 hJ (fun p hp => he p.1 p.2.1 p.2.2 hp) (fun k p h1 h2 hp ih => hs k p.1 p.2.1 p.2.2 h1 h2 hp (fun s' t' u' hj => ih (s', t', u') hj))
theorem LookOK.sl {I : IM} {L L2 : LM} {s : Int} (h : LookOK I L s) (hS : SLm L2 L) : LookOK I L2 s :=
  ⟨by rw [hS 125 s (by decide)]; exact h.1, fun f f0 f1 f2 f3 => by rw [hS 126 _ (by decide)]; exact h.2 f f0 f1 f2 f3⟩
/-- the same harbour -/
def Ag (I2 I : IM) : Prop := ∀ c, c ≤ 7 → I2 c = I c
theorem Ag.cw {I2 I : IM} (h : Ag I2 I) : CW I2 ↔ CW I := by
  unfold CW CI0 CI1 CI2 Slot1
  rw [h 1 (by decide), h 2 (by decide), h 3 (by decide), h 4 (by decide), h 5 (by decide), h 6 (by decide), h 7 (by decide)]
theorem Ag.slot {I2 I : IM} (h : Ag I2 I) (s : Int) : Slot1 I2 s ↔ Slot1 I s := by
  unfold Slot1
  rw [h 1 (by decide)]
theorem Ag.look {I2 I : IM} (h : Ag I2 I) {L : LM} {s : Int} : LookOK I2 L s ↔ LookOK I L s := by
  unfold LookOK Slot1 cGood cBad
  rw [h 1 (by decide), h 2 (by decide), h 3 (by decide), h 4 (by decide), h 5 (by decide)]
theorem Ag.left {I2 I : IM} (h : Ag I2 I) {s mv x y : Int} : cLeft I2 s mv x y ↔ cLeft I s mv x y := by
  unfold cLeft cGood
  rw [h 1 (by decide), h 2 (by decide), h 3 (by decide), h 4 (by decide), h 5 (by decide), h 6 (by decide), h 7 (by decide)]
/-- nothing but the search's own ints has changed -/
def FrS (I2 I : IM) : Prop := ∀ c, ¬ c = 122 → ¬ c = 123 → ¬ c = 124 → I2 c = I c
theorem FrS.ag {I2 I : IM} (h : FrS I2 I) : Ag I2 I := fun c hc => h c (by omega) (by omega) (by omega)
theorem FrS.trans {I I2 I3 : IM} (h : FrS I3 I2) (g : FrS I2 I) : FrS I3 I := fun c h1 h2 h3 => (h c h1 h2 h3).trans (g c h1 h2 h3)
theorem FrS.of_SI {I2 I : IM} (h : SI I2 I) : FrS I2 I := fun c _ _ h3 => funext fun b => h c b h3
theorem FrS.up {I : IM} {c : Nat} {z v : Int} (h : c = 122 ∨ c = 123 ∨ c = 124) : FrS (iup I c z v) I := fun a h1 h2 h3 => funext fun b => by
  simp only [iup]
  rw [if_neg (by omega)]
section SEE
variable {xs : RO} {d : Nat} {I : IM} {L : LM}

theorem c_Sear_settlesRow (hR : RowOK I L) : Wk xs x_Sear_settlesRow (d + 9) 0 0 0 [some (vr 122), some (vr 1), none] [] X2 I L (p2 fun v I' L' => ((v = some (vi 1) ∧ Lea (rG I) (rK I) (I 122 2).toNat 0 (I' 124)) ∨ (v = some (vi 0) ∧ ¬ Exr (rG I) (rK I) (I 122 2).toNat 0 (fun _ => 0))) ∧ SI I' I ∧ SLm L' L) := by
  obtain ⟨hC, hlen, hmv, hrow, hne⟩ := id hR
  have key : Wk xs x_Sear_settlesRow (d + 9) 0 0 2 [some (vr 122), some (vr 1), some (vi 0)] [] X2 I L (p2 fun v I' L' => ((v = some (vi 1) ∧ Lea (rG I) (rK I) (I 122 2).toNat 0 (I' 124)) ∨ (v = some (vi 0) ∧ ¬ Exr (rG I) (rK I) (I 122 2).toNat 0 (fun _ => 0))) ∧ SI I' I ∧ SLm L' L) := by
    refine loopS (σ := LM) (fun i L2 => Wk xs x_Sear_settlesRow (d + 9) 0 0 2 [some (vr 122), some (vr 1), some (vi i)] [] X2 I L2 (p2 fun v I' L' => ((v = some (vi 1) ∧ Lea (rG I) (rK I) (I 122 2).toNat 0 (I' 124)) ∨ (v = some (vi 0) ∧ ¬ Exr (rG I) (rK I) (I 122 2).toNat 0 (fun _ => 0))) ∧ SI I' I ∧ SLm L' L)) (fun i L2 => SLm L2 L ∧ ∀ m, 0 ≤ m → m < i → LB (L2 127 m) (FP I 0 (I 124) m)) (I 122 2) 0 L (by omega) ⟨fun _ _ _ => rfl, fun m m0 m1 => by omega⟩ ?_ ?_
    · intro L2 hJ
      obtain ⟨hJ1, hJ2⟩ := hJ
      refine Wk.iload_n (k := 2) (q := 3) (by decide +kernel) rfl rfl rfl ?_
      refine Wk.aload_n (k := 0) (q := 4) (by decide +kernel) rfl rfl rfl ?_
      refine Wk.getI (z := 2) (q := 7) f_Sear_50 (by decide +kernel) O_122 (by decide) rfl rfl rfl ?_
      refine Wk.icmp_ge (off := (43)) (t := 50) (q := 10) (by decide +kernel) (by decide) rfl (by first | omega | exact bi_rng _) (by first | omega | exact bi_rng _) (fun hc7 => ?_) (fun hc7 => ?_)
      · refine Wk.aload_n (k := 0) (q := 51) (by decide +kernel) rfl rfl rfl ?_
        refine Wk.iconst (n := 0) (q := 52) (by decide +kernel) rfl ?_
        refine Wk.cV (q := 55) l_Sear_73 m_Sear_settles (by decide +kernel) (fun _ h => h) O_122 rfl (Nat.le_of_ble_eq_true rfl) (Nat.le_of_ble_eq_true rfl) rfl (settles_all hR d (I 122 2).toNat (by omega) 0 I L2 (by omega) (by omega) (fun _ _ _ => rfl) hJ1 (fun i i0 i1 => by rw [show (0 : Int) * 3 + i = i by omega]; exact hJ2 i i0 i1)) rfl (fun v I' L' hP => ?_)
        obtain ⟨hv, q1, q2, q3, q4⟩ := hP
        obtain ⟨z, hz, hz2⟩ : ∃ z : Int, (z = 0 ∨ z = 1) ∧ v = some (vi z) := by
          rcases hv with ⟨rfl, -⟩ | ⟨rfl, -⟩
          · exact ⟨1, Or.inr rfl, rfl⟩
          · exact ⟨0, Or.inl rfl, rfl⟩
        subst hz2
        exact Wk.rzP (by decide +kernel) rfl (by first | omega | decide | exact bi_01 _) (⟨hv.imp id (fun q => ⟨q.1, fun w => q.2 ((Exr_pre (by omega) (fun j a0 a1 => by omega)).mp w)⟩), q1, q2⟩)
      · omega
    · intro i L2 i0 i1 hJ ih
      obtain ⟨hJ1, hJ2⟩ := hJ
      obtain ⟨r1, r2, r3⟩ := hrow i i0 i1
      refine Wk.iload_n (k := 2) (q := 3) (by decide +kernel) rfl rfl rfl ?_
      refine Wk.aload_n (k := 0) (q := 4) (by decide +kernel) rfl rfl rfl ?_
      refine Wk.getI (z := 2) (q := 7) f_Sear_50 (by decide +kernel) O_122 (by decide) rfl rfl rfl ?_
      refine Wk.icmp_ge (off := (43)) (t := 50) (q := 10) (by decide +kernel) (by decide) rfl (by first | omega | exact bi_rng _) (by first | omega | exact bi_rng _) (fun hc7 => ?_) (fun hc7 => ?_)
      · omega
      · refine Wk.aload_n (k := 0) (q := 11) (by decide +kernel) rfl rfl rfl ?_
        refine Wk.getR (r := 127) (q := 14) f_Sear_25 (by decide +kernel) O_122 (by decide) rfl rfl rfl ?_
        refine Wk.iload_n (k := 2) (q := 15) (by decide +kernel) rfl rfl rfl ?_
        refine Wk.aload_n (k := 0) (q := 16) (by decide +kernel) rfl rfl rfl ?_
        refine Wk.aload_n (k := 1) (q := 17) (by decide +kernel) rfl rfl rfl ?_
        refine Wk.aload_n (k := 0) (q := 18) (by decide +kernel) rfl rfl rfl ?_
        refine Wk.getR (r := 123) (q := 21) f_Sear_11 (by decide +kernel) O_122 (by decide) rfl rfl rfl ?_
        refine Wk.iload_n (k := 2) (q := 22) (by decide +kernel) rfl rfl rfl ?_
        refine Wk.iaload (q := 23) (by decide +kernel) A_123 (by first | omega | exact bi_rng _) (by first | omega | exact bi_rng _) rfl ?_
        refine Wk.aload_n (k := 0) (q := 24) (by decide +kernel) rfl rfl rfl ?_
        refine Wk.getI (z := 3) (q := 27) f_Sear_53 (by decide +kernel) O_122 (by decide) rfl rfl rfl ?_
        refine Wk.cV (q := 30) l_Sear_32 m_Sear_leftFor (by decide +kernel) (fun _ h => h) O_122 rfl (Nat.le_of_ble_eq_true rfl) (Nat.le_of_ble_eq_true rfl) rfl (c_Sear_leftFor r1 hC hmv (r2.sl hJ1) r3) rfl (fun v I' L' hP => ?_)
        obtain ⟨⟨u, rfl, hu⟩, rfl, rfl⟩ := hP
        have hu2 : LB u (FP I' 0 (I' 124) i) := hu.cong (fun x y _ _ _ _ => ⟨fun q => ⟨q, fun j j0 j1 => by omega⟩, fun q => q.1⟩)
        refine Wk.lastore (q := 31) (by decide +kernel) A_127 (by first | omega | exact bi_rng _) (by first | omega | exact bi_rng _) rfl ?_
        refine Wk.aload_n (k := 0) (q := 32) (by decide +kernel) rfl rfl rfl ?_
        refine Wk.getR (r := 127) (q := 35) f_Sear_25 (by decide +kernel) O_122 (by decide) rfl rfl rfl ?_
        refine Wk.iload_n (k := 2) (q := 36) (by decide +kernel) rfl rfl rfl ?_
        refine Wk.laload (q := 37) (by decide +kernel) A_127 (by first | omega | exact bi_rng _) (by first | omega | exact bi_rng _) rfl ?_
        rw [lup_eq]
        refine Wk.lconst (n := 0) (v := 0) (q := 38) (by decide +kernel) rfl rfl ?_
        refine Wk.lcmp (q := 39) (by decide +kernel) rfl ?_
        refine Wk.if_ne (off := (5)) (t := 44) (q := 42) (by decide +kernel) (by decide) rfl (by first | omega | (split <;> (try split) <;> omega)) (fun hc39 => ?_) (fun hc39 => ?_)
        · refine Wk.iinc (i := 2) (n := 1) (q := 47) (by decide +kernel) rfl (by decide) rfl (fun _ h => h) rfl ?_
          refine Wk.goto (off := (-45)) (q := 2) (by decide +kernel) (by decide) ?_
          refine ih _ ⟨fun c b hcb => ?_, ext1 (fun m m0 m1 => ?_) ?_⟩
          · rw [lup_ne (fun q => hcb q.1)]; exact hJ1 c b hcb
          · rw [lup_ne (by omega)]; exact hJ2 m m0 m1
          · rw [lup_eq]; exact hu2
        · refine Wk.iconst (n := 0) (q := 43) (by decide +kernel) rfl ?_
          exact Wk.rzP (by decide +kernel) rfl (by first | omega | decide | exact bi_01 _) (⟨Or.inr ⟨rfl, fun hx => by
        rw [cmp0] at hc39
        obtain ⟨t, t1, t2⟩ := Exr_each _ 0 _ (by omega) hx i i0 (by omega)
        exact (hu.zero_iff.mp hc39) (t % 8) (t / 8) (by omega) (by omega) (by have := t1.1; omega) (by have := t1.1; omega) t1.2⟩, fun _ _ _ => rfl, fun c b hcb => by rw [lup_ne (fun q => hcb q.1)]; exact hJ1 c b hcb⟩)
  refine Wk.iconst (n := 0) (q := 1) (by decide +kernel) rfl ?_
  refine Wk.istore_n (k := 2) (q := 2) (by decide +kernel) rfl (by decide) rfl (fun _ h => h) rfl ?_
  exact key
/-- all that wait: candidates, clashes -/
abbrev aG (I : IM) : Int → Int → Prop := fun k s => (0 ≤ s ∧ s < 64) ∧ cPlace I k (s % 8) (s / 8)
abbrev aK (I : IM) : Int → Int → Int → Int → Prop := fun i s j t => CL (I 1 3) (I 4 (5 + i)) (I 5 (5 + i)) (s % 8) (s / 8) (I 4 (5 + j)) (I 5 (5 + j)) (t % 8) (t / 8)
theorem c_Sear_settlesAll (hC : CW I) : Wk xs x_Sear_settlesAll (d + 10) 0 0 0 [some (vr 122), some (vr 1), none] [] X2 I L (p2 fun v I' _ => ((v = some (vi 1) ∧ Lea (aG I) (aK I) (I 1 5).toNat 0 (I' 124)) ∨ (v = some (vi 0) ∧ ¬ Exr (aG I) (aK I) (I 1 5).toNat 0 (fun _ => 0))) ∧ FrS I' I) := by
  obtain ⟨hW, hH, -, hF, hA, hB, -⟩ := id hC.1
  have key : ∀ I1 : IM, FrS I1 I → I1 122 2 = 0 → I1 122 3 = 0 → Wk xs x_Sear_settlesAll (d + 10) 0 0 12 [some (vr 122), some (vr 1), some (vi 0)] [] X2 I1 L (p2 fun v I' _ => ((v = some (vi 1) ∧ Lea (aG I) (aK I) (I 1 5).toNat 0 (I' 124)) ∨ (v = some (vi 0) ∧ ¬ Exr (aG I) (aK I) (I 1 5).toNat 0 (fun _ => 0))) ∧ FrS I' I) := by
    intro I1 hI1 e1 e2
    refine loopS2 (σ := IM) (τ := LM) (fun k I2 L2 => Wk xs x_Sear_settlesAll (d + 10) 0 0 12 [some (vr 122), some (vr 1), some (vi k)] [] X2 I2 L2 (p2 fun v I' _ => ((v = some (vi 1) ∧ Lea (aG I) (aK I) (I 1 5).toNat 0 (I' 124)) ∨ (v = some (vi 0) ∧ ¬ Exr (aG I) (aK I) (I 1 5).toNat 0 (fun _ => 0))) ∧ FrS I' I)) (fun k I2 L2 => FrS I2 I ∧ I2 122 2 = k ∧ I2 122 3 = 0 ∧ (∀ m, 0 ≤ m → m < k → I2 123 m = 5 + m) ∧ ∀ m, 0 ≤ m → m < k → LookOK I L2 (5 + m)) (I 1 5) 0 I1 L (by omega) ⟨hI1, e1, e2, fun m m0 m1 => by omega, fun m m0 m1 => by omega⟩ ?_ ?_
    · intro I2 L2 hJ
      obtain ⟨j1, j2, j3, j4, j5⟩ := hJ
      have e5 : I2 1 5 = I 1 5 := by rw [j1 1 (by decide) (by decide) (by decide)]
      have hag := j1.ag
      have hR : RowOK I2 L2 := by
        refine ⟨hag.cw.mpr hC, by omega, by omega, fun i i0 i1 => ?_, fun i j i0 i1 i2 => ?_⟩
        · rw [j4 i i0 (by omega)]
          refine ⟨(hag.slot _).mpr (Or.inr (by omega)), hag.look.mpr (j5 i i0 (by omega)), fun a a0 a1 _ => ?_⟩
          have : I2 1 4 = I 1 4 := by rw [j1 1 (by decide) (by decide) (by decide)]
          omega
        · rw [j4 i i0 (by omega), j4 j (by omega) (by omega)]
          omega
      have hG : ∀ i s, 0 ≤ i → i < I 1 5 → (rG I2 i s ↔ aG I i s) := fun i s i0 i1 => by
        unfold rG aG
        rw [j4 i i0 i1, j3, hag.left]
        exact ⟨fun q => ⟨q.1, q.2.1, fun a a0 a1 => q.2.2 a a0 a1 (bt_0 a)⟩, fun q => ⟨q.1, q.2.1, fun a a0 a1 _ => q.2.2 a a0 a1⟩⟩
      have hK : ∀ i s j t, 0 ≤ i → i < I 1 5 → 0 ≤ j → j < I 1 5 → (rK I2 i s j t ↔ aK I i s j t) := fun i s j t i0 i1 k0 k1 => by
        unfold rK aK
        rw [j4 i i0 i1, j4 j k0 k1, hag 1 (by decide), hag 4 (by decide), hag 5 (by decide)]
      refine Wk.iload_n (k := 2) (q := 13) (by decide +kernel) rfl rfl rfl ?_
      refine Wk.aload_n (k := 1) (q := 14) (by decide +kernel) rfl rfl rfl ?_
      refine Wk.getI (z := 5) (q := 17) f_Sear_36 (by decide +kernel) O_1 (by decide) rfl rfl rfl ?_
      refine Wk.icmp_ge (off := (47)) (t := 64) (q := 20) (by decide +kernel) (by decide) rfl (by first | omega | exact bi_rng _) (by first | omega | exact bi_rng _) (fun hc17 => ?_) (fun hc17 => ?_)
      · refine Wk.aload_n (k := 0) (q := 65) (by decide +kernel) rfl rfl rfl ?_
        refine Wk.aload_n (k := 1) (q := 66) (by decide +kernel) rfl rfl rfl ?_
        refine Wk.cV (q := 69) l_Sear_56 m_Sear_settlesRow (by decide +kernel) (fun _ h => h) O_122 rfl (Nat.le_of_ble_eq_true rfl) (Nat.le_of_ble_eq_true rfl) rfl (c_Sear_settlesRow hR) rfl (fun v I3 L3 hP => ?_)
        obtain ⟨hv, q1, q2⟩ := hP
        rw [j2] at hv
        obtain ⟨z, hz, hz2⟩ : ∃ z : Int, (z = 0 ∨ z = 1) ∧ v = some (vi z) := by
          rcases hv with ⟨rfl, -⟩ | ⟨rfl, -⟩
          · exact ⟨1, Or.inr rfl, rfl⟩
          · exact ⟨0, Or.inl rfl, rfl⟩
        subst hz2
        exact Wk.rzP (by decide +kernel) rfl (by first | omega | decide | exact bi_01 _) (⟨hv.imp (fun q => ⟨q.1, Lea_cong hG hK _ 0 _ _ (by omega) (by omega) (fun _ _ _ => rfl) q.2⟩) (fun q => ⟨q.1, fun w => q.2 ((Exr_cong hG hK _ 0 _ _ (by omega) (by omega) (fun _ _ _ => rfl)).mpr w)⟩), (FrS.of_SI q1).trans j1⟩)
      · omega
    · intro k I2 L2 k0 k1 hJ ih
      obtain ⟨j1, j2, j3, j4, j5⟩ := hJ
      have e5 : I2 1 5 = I 1 5 := by rw [j1 1 (by decide) (by decide) (by decide)]
      have hag := j1.ag
      refine Wk.iload_n (k := 2) (q := 13) (by decide +kernel) rfl rfl rfl ?_
      refine Wk.aload_n (k := 1) (q := 14) (by decide +kernel) rfl rfl rfl ?_
      refine Wk.getI (z := 5) (q := 17) f_Sear_36 (by decide +kernel) O_1 (by decide) rfl rfl rfl ?_
      refine Wk.icmp_ge (off := (47)) (t := 64) (q := 20) (by decide +kernel) (by decide) rfl (by first | omega | exact bi_rng _) (by first | omega | exact bi_rng _) (fun hc17 => ?_) (fun hc17 => ?_)
      · omega
      · refine Wk.aload_n (k := 0) (q := 21) (by decide +kernel) rfl rfl rfl ?_
        refine Wk.getI (z := 2) (q := 24) f_Sear_50 (by decide +kernel) O_122 (by decide) rfl rfl rfl ?_
        refine Wk.iconst (n := 3) (q := 25) (by decide +kernel) rfl ?_
        refine Wk.icmp_ge (off := (39)) (t := 64) (q := 28) (by decide +kernel) (by decide) rfl (by first | omega | exact bi_rng _) (by first | omega | exact bi_rng _) (fun hc25 => ?_) (fun hc25 => ?_)
        · omega
        · refine Wk.aload_n (k := 0) (q := 29) (by decide +kernel) rfl rfl rfl ?_
          refine Wk.aload_n (k := 1) (q := 30) (by decide +kernel) rfl rfl rfl ?_
          refine Wk.iconst (n := 5) (q := 31) (by decide +kernel) rfl ?_
          refine Wk.iload_n (k := 2) (q := 32) (by decide +kernel) rfl rfl rfl ?_
          refine Wk.iadd (q := 33) (by decide +kernel) rfl ?_
          refine Wk.cV (q := 36) l_Sear_28 m_Sear_look (by decide +kernel) (fun _ h => h) O_122 rfl (Nat.le_of_ble_eq_true rfl) (Nat.le_of_ble_eq_true rfl) rfl (c_Sear_look ((hag.slot _).mpr (Or.inr (by omega))) (hag.cw.mpr hC)) rfl (fun v I3 L3 hP => ?_)
          obtain ⟨rfl, rfl, hK, hLF⟩ := hP
          refine Wk.aload_n (k := 0) (q := 37) (by decide +kernel) rfl rfl rfl ?_
          refine Wk.getR (r := 123) (q := 40) f_Sear_11 (by decide +kernel) O_122 (by decide) rfl rfl rfl ?_
          refine Wk.aload_n (k := 0) (q := 41) (by decide +kernel) rfl rfl rfl ?_
          refine Wk.getI (z := 2) (q := 44) f_Sear_50 (by decide +kernel) O_122 (by decide) rfl rfl rfl ?_
          refine Wk.iconst (n := 5) (q := 45) (by decide +kernel) rfl ?_
          refine Wk.iload_n (k := 2) (q := 46) (by decide +kernel) rfl rfl rfl ?_
          refine Wk.iadd (q := 47) (by decide +kernel) rfl ?_
          refine Wk.iastore (q := 48) (by decide +kernel) A_123 (by first | omega | exact bi_rng _) (by first | omega | exact bi_rng _) rfl ?_
          refine Wk.aload_n (k := 0) (q := 49) (by decide +kernel) rfl rfl rfl ?_
          refine Wk.dup (q := 50) (by decide +kernel) rfl rfl ?_
          refine Wk.getI (z := 2) (q := 53) f_Sear_50 (by decide +kernel) O_122 (by decide) rfl rfl rfl ?_
          refine Wk.iconst (n := 1) (q := 54) (by decide +kernel) rfl ?_
          refine Wk.iadd (q := 55) (by decide +kernel) rfl ?_
          refine Wk.putI (z := 2) (q := 58) f_Sear_50 fw_Sear_2 (by decide +kernel) O_122 (by decide) rfl rfl ⟨rfl, rfl⟩ rfl ?_
          refine Wk.iinc (i := 2) (n := 1) (q := 61) (by decide +kernel) rfl (by decide) rfl (fun _ h => h) rfl ?_
          refine Wk.goto (off := (-49)) (q := 12) (by decide +kernel) (by decide) ?_
          refine ih _ _ ?_
          refine ⟨FrS.trans (FrS.up (Or.inl rfl)) (FrS.trans (FrS.up (Or.inr (Or.inl rfl))) j1), ?_, ?_, ext1 (fun m m0 m1 => ?_) ?_, ext1 (fun m m0 m1 => ?_) ?_⟩
          · simp only [iup]
            simp
            exact j2
          · simp [iup, j3]
          · simp only [iup]
            have : ¬ m = I3 122 2 := by omega
            simp [this]
            exact j4 m m0 m1
          · simp [iup, j2]
          · exact (j5 m m0 m1).kept hLF (by omega) (by omega)
          · exact hag.look.mp hK
  refine Wk.aload_n (k := 0) (q := 1) (by decide +kernel) rfl rfl rfl ?_
  refine Wk.iconst (n := 0) (q := 2) (by decide +kernel) rfl ?_
  refine Wk.putI (z := 2) (q := 5) f_Sear_50 fw_Sear_2 (by decide +kernel) O_122 (by decide) rfl rfl ⟨rfl, rfl⟩ rfl ?_
  refine Wk.aload_n (k := 0) (q := 6) (by decide +kernel) rfl rfl rfl ?_
  refine Wk.iconst (n := 0) (q := 7) (by decide +kernel) rfl ?_
  refine Wk.putI (z := 3) (q := 10) f_Sear_53 fw_Sear_3 (by decide +kernel) O_122 (by decide) rfl rfl ⟨rfl, rfl⟩ rfl ?_
  refine Wk.iconst (n := 0) (q := 11) (by decide +kernel) rfl ?_
  refine Wk.istore_n (k := 2) (q := 12) (by decide +kernel) rfl (by decide) rfl (fun _ h => h) rfl ?_
  exact key _ (FrS.trans (FrS.up (Or.inl rfl)) (FrS.up (Or.inl rfl))) (by simp [iup]) (by simp [iup])
end SEE
end
section
/-! MOVES: the class's search with ships moved -/
noncomputable def nbit (set : Int) (a : Int) : Int := ct (fun b => bt set b = true) a.toNat
theorem nbit_step {set a : Int} (h : 0 ≤ a) : nbit set (a + 1) = nbit set a + bi (bt set a = true) := ct_step _ h
theorem nbit_0 (set : Int) : nbit set 0 = 0 := rfl
theorem nbit_mono {set a b : Int} (h0 : 0 ≤ a) (h : a ≤ b) : nbit set a ≤ nbit set b := by
  have key : ∀ n : Nat, nbit set a ≤ nbit set (a + n) := by
    intro n
    induction n with
    | zero => simp
    | succ n ih =>
      have := nbit_step (set := set) (a := a + n) (by omega)
      have hb := bi_range (bt set (a + n) = true)
      rw [show a + ((n + 1 : Nat) : Int) = a + n + 1 by omega, this]
      omega
  have := key (b - a).toNat
  rw [show a + ((b - a).toNat : Int) = b by omega] at this
  exact this
theorem bt_hi {set a n : Int} (h0 : 0 ≤ set) (h1 : set < (2 ^ n.toNat : Nat)) (hn : 0 ≤ n) (ha : n ≤ a) : bt set a = false := by
  unfold bt
  apply Nat.testBit_lt_two_pow
  have h2 : 2 ^ n.toNat ≤ 2 ^ a.toNat := Nat.pow_le_pow_right (by decide) (by omega)
  omega
theorem nbit_hi {set n b : Int} (h0 : 0 ≤ set) (h1 : set < (2 ^ n.toNat : Nat)) (hn : 0 ≤ n) (hb : n ≤ b) : nbit set b = nbit set n := by
  have key : ∀ m : Nat, nbit set (n + m) = nbit set n := by
    intro m
    induction m with
    | zero => simp
    | succ m ih =>
      rw [show n + ((m + 1 : Nat) : Int) = n + m + 1 by omega, nbit_step (by omega), ih, bi_f (by rw [bt_hi h0 h1 hn (by omega)]; decide)]
      omega
  have := key (b - n).toNat
  rw [show n + ((b - n).toNat : Int) = b by omega] at this
  exact this
/-- the ships of a row: the one that waits, then those of the set, rising -/
def MR (na k set c : Int) (R : Int → Int) : Prop := R 0 = 5 + k ∧ (∀ i, 1 ≤ i → i ≤ c → (0 ≤ R i ∧ R i < na) ∧ bt set (R i) = true) ∧ (∀ i j, 1 ≤ i → i < j → j ≤ c → R i < R j) ∧ ∀ a, 0 ≤ a → a < na → bt set a = true → ∃ i, 1 ≤ i ∧ i ≤ c ∧ R i = a
abbrev mG (I : IM) (set : Int) (R : Int → Int) : Int → Int → Prop := fun i s => (0 ≤ s ∧ s < 64) ∧ cLeft I (R i) set (s % 8) (s / 8)
abbrev mK (I : IM) (R : Int → Int) : Int → Int → Int → Int → Prop := fun i s j t => CL (I 1 3) (I 4 (R i)) (I 5 (R i)) (s % 8) (s / 8) (I 4 (R j)) (I 5 (R j)) (t % 8) (t / 8)
/-- with this set moved there is a row -/
def ME (I : IM) (k set : Int) : Prop := ∃ R, MR (I 1 4) k set (nbit set 5) R ∧ Exr (mG I set R) (mK I R) (nbit set 5 + 1).toNat 0 (fun _ => 0)
theorem MR_uniq {na k set c : Int} {R R2 : Int → Int} (h : MR na k set c R) (g : MR na k set c R2) : ∀ i, 0 ≤ i → i ≤ c → R i = R2 i := by
  obtain ⟨h0, h1, h2, h3⟩ := h
  obtain ⟨g0, g1, g2, g3⟩ := g
  have key : ∀ (n : Nat) (i : Int), i = n → 1 ≤ i → i ≤ c → R i = R2 i := by
    intro n
    induction n using Nat.strongRecOn with
    | ind n ih =>
      intro i hi i1 i2
      obtain ⟨j, j1, j2, j3⟩ := g3 (R i) (h1 i i1 i2).1.1 (h1 i i1 i2).1.2 (h1 i i1 i2).2
      obtain ⟨m, m1, m2, m3⟩ := h3 (R2 i) (g1 i i1 i2).1.1 (g1 i i1 i2).1.2 (g1 i i1 i2).2
      rcases Int.lt_trichotomy j i with hj | hj | hj
      · have e := ih j.toNat (by omega) j (by omega) j1 j2
        have := h2 j i j1 hj i2
        omega
      · rw [← j3, hj]
      · have q1 := g2 i j i1 hj j2
        rcases Int.lt_trichotomy m i with hm | hm | hm
        · have e := ih m.toNat (by omega) m (by omega) m1 m2
          have := g2 m i m1 hm i2
          omega
        · rw [hm] at m3
          exact m3
        · have q2 := h2 i m i1 hm m2
          omega
  intro i i0 i1
  by_cases hi : i = 0
  · rw [hi, h0, g0]
  · exact key i.toNat i (by omega) (by omega) i1
section SEF
variable {xs : RO} {d : Nat} {I : IM} {L : LM}

theorem c_Sear_settlesMoving {k set : Int} (k0 : 0 ≤ k) (k1 : k < I 1 5) (hC : CW I) (s0 : 0 ≤ set) (s1 : set < (2 ^ (I 1 4).toNat : Nat)) (s2 : nbit set 5 ≤ 2) (hLk : LookOK I L (5 + k)) (hLa : ∀ a, 0 ≤ a → a < I 1 4 → LookOK I L a) : Wk xs x_Sear_settlesMoving (d + 10) 0 0 0 [some (vr 122), some (vr 1), some (vi (5 + k)), some (vi set), none] [] X2 I L (p2 fun v I' L' => ((v = some (vi 1) ∧ ∃ R, MR (I 1 4) k set (nbit set 5) R ∧ Lea (mG I set R) (mK I R) (nbit set 5 + 1).toNat 0 (I' 124) ∧ I' 122 3 = set ∧ I' 122 2 = nbit set 5 + 1 ∧ ∀ i, 0 ≤ i → i ≤ nbit set 5 → I' 123 i = R i) ∨ (v = some (vi 0) ∧ ¬ ME I k set)) ∧ FrS I' I ∧ SLm L' L) := by
  obtain ⟨hW, hH, -, hF, hA, hB, -⟩ := id hC.1
  have hp5 : 2 ^ (I 1 4).toNat ≤ 2 ^ 5 := Nat.pow_le_pow_right (by decide) (by omega)
  have hna := nbit_hi s0 s1 hA.1 hA.2
  have fin : ∀ (I2 : IM) (a : Int), FrS I2 I → I2 122 2 = 1 + nbit set 5 → I2 122 3 = set → MR (I 1 4) k set (nbit set 5) (I2 123) → Wk xs x_Sear_settlesMoving (d + 10) 0 0 73 [some (vr 122), some (vr 1), some (vi (5 + k)), some (vi set), some (vi a)] [] X2 I2 L (p2 fun v I' L' => ((v = some (vi 1) ∧ ∃ R, MR (I 1 4) k set (nbit set 5) R ∧ Lea (mG I set R) (mK I R) (nbit set 5 + 1).toNat 0 (I' 124) ∧ I' 122 3 = set ∧ I' 122 2 = nbit set 5 + 1 ∧ ∀ i, 0 ≤ i → i ≤ nbit set 5 → I' 123 i = R i) ∨ (v = some (vi 0) ∧ ¬ ME I k set)) ∧ FrS I' I ∧ SLm L' L) := by
    intro I2 a j1 j2 j3 j4
    have hag := j1.ag
    have e4 : I2 1 4 = I 1 4 := by rw [hag 1 (by decide)]
    have hb0 := nbit_mono (set := set) (a := 0) (b := 5) (by omega) (by omega)
    rw [nbit_0] at hb0
    have hR : RowOK I2 L := by
      refine ⟨hag.cw.mpr hC, by omega, by omega, fun i i0 i1 => ?_, fun i j i0 i1 i2 => ?_⟩
      · by_cases hi : i = 0
        · rw [hi, j4.1]
          exact ⟨(hag.slot _).mpr (Or.inr (by omega)), hag.look.mpr hLk, fun a a0 a1 _ => by omega⟩
        · obtain ⟨q1, q2⟩ := j4.2.1 i (by omega) (by omega)
          refine ⟨(hag.slot _).mpr (Or.inl q1), hag.look.mpr (hLa _ q1.1 q1.2), fun a a0 a1 hb hx => ?_⟩
          rw [j3, hx, q2] at hb
          cases hb
      · by_cases hi : i = 0
        · rw [hi, j4.1]
          have := (j4.2.1 j (by omega) (by omega)).1
          omega
        · have := j4.2.2.1 i j (by omega) i1 (by omega)
          omega
    have hG : ∀ i s, 0 ≤ i → i < nbit set 5 + 1 → (rG I2 i s ↔ mG I set (I2 123) i s) := fun i s i0 i1 => by
      unfold rG mG
      rw [j3, hag.left]
    have hK : ∀ i s j t, 0 ≤ i → i < nbit set 5 + 1 → 0 ≤ j → j < nbit set 5 + 1 → (rK I2 i s j t ↔ mK I (I2 123) i s j t) := fun i s j t _ _ _ _ => by
      unfold rK mK
      rw [hag 1 (by decide), hag 4 (by decide), hag 5 (by decide)]
    refine Wk.aload_n (k := 0) (q := 74) (by decide +kernel) rfl rfl rfl ?_
    refine Wk.aload_n (k := 1) (q := 75) (by decide +kernel) rfl rfl rfl ?_
    refine Wk.cV (q := 78) l_Sear_56 m_Sear_settlesRow (by decide +kernel) (fun _ h => h) O_122 rfl (Nat.le_of_ble_eq_true rfl) (Nat.le_of_ble_eq_true rfl) rfl (c_Sear_settlesRow hR) rfl (fun v I3 L3 hP => ?_)
    obtain ⟨hv, q1, q2⟩ := hP
    rw [j2, show 1 + nbit set 5 = nbit set 5 + 1 by omega] at hv
    have hfin : ((v = some (vi 1) ∧ ∃ R, MR (I 1 4) k set (nbit set 5) R ∧ Lea (mG I set R) (mK I R) (nbit set 5 + 1).toNat 0 (I3 124) ∧ I3 122 3 = set ∧ I3 122 2 = nbit set 5 + 1 ∧ ∀ i, 0 ≤ i → i ≤ nbit set 5 → I3 123 i = R i) ∨ (v = some (vi 0) ∧ ¬ ME I k set)) := by
      rcases hv with ⟨rfl, hv⟩ | ⟨rfl, hv⟩
      · exact Or.inl ⟨rfl, I2 123, j4, Lea_cong hG hK _ 0 _ _ (by omega) (by omega) (fun _ _ _ => rfl) hv, by rw [q1 122 3 (by decide)]; exact j3, by rw [q1 122 2 (by decide)]; omega, fun i _ _ => q1 123 i (by decide)⟩
      · refine Or.inr ⟨rfl, fun ⟨R, hR1, hR2⟩ => hv ((Exr_cong hG hK _ 0 _ _ (by omega) (by omega) (fun _ _ _ => rfl)).mpr ?_)⟩
        have hu := MR_uniq hR1 j4
        refine (Exr_cong (N := nbit set 5 + 1) (fun i s i0 i1 => ?_) (fun i s j t i0 i1 m0 m1 => ?_) _ 0 _ _ (by omega) (by omega) (fun _ _ _ => rfl)).mp hR2
        · unfold mG
          rw [hu i i0 (by omega)]
        · unfold mK
          rw [hu i i0 (by omega), hu j m0 (by omega)]
    obtain ⟨z, hz, hz2⟩ : ∃ z : Int, (z = 0 ∨ z = 1) ∧ v = some (vi z) := by
      rcases hv with ⟨rfl, -⟩ | ⟨rfl, -⟩
      · exact ⟨1, Or.inr rfl, rfl⟩
      · exact ⟨0, Or.inl rfl, rfl⟩
    subst hz2
    exact Wk.rzP (by decide +kernel) rfl (by first | omega | decide | exact bi_01 _) (⟨hfin, (FrS.of_SI q1).trans j1, q2⟩)
  have key : ∀ I1 : IM, FrS I1 I → I1 122 2 = 1 → I1 122 3 = set → I1 123 0 = 5 + k → Wk xs x_Sear_settlesMoving (d + 10) 0 0 20 [some (vr 122), some (vr 1), some (vi (5 + k)), some (vi set), some (vi 0)] [] X2 I1 L (p2 fun v I' L' => ((v = some (vi 1) ∧ ∃ R, MR (I 1 4) k set (nbit set 5) R ∧ Lea (mG I set R) (mK I R) (nbit set 5 + 1).toNat 0 (I' 124) ∧ I' 122 3 = set ∧ I' 122 2 = nbit set 5 + 1 ∧ ∀ i, 0 ≤ i → i ≤ nbit set 5 → I' 123 i = R i) ∨ (v = some (vi 0) ∧ ¬ ME I k set)) ∧ FrS I' I ∧ SLm L' L) := by
    intro I1 hI1 e1 e2 e3
    refine loopS (σ := IM) (fun a I2 => Wk xs x_Sear_settlesMoving (d + 10) 0 0 20 [some (vr 122), some (vr 1), some (vi (5 + k)), some (vi set), some (vi a)] [] X2 I2 L (p2 fun v I' L' => ((v = some (vi 1) ∧ ∃ R, MR (I 1 4) k set (nbit set 5) R ∧ Lea (mG I set R) (mK I R) (nbit set 5 + 1).toNat 0 (I' 124) ∧ I' 122 3 = set ∧ I' 122 2 = nbit set 5 + 1 ∧ ∀ i, 0 ≤ i → i ≤ nbit set 5 → I' 123 i = R i) ∨ (v = some (vi 0) ∧ ¬ ME I k set)) ∧ FrS I' I ∧ SLm L' L)) (fun a I2 => FrS I2 I ∧ I2 122 2 = 1 + nbit set a ∧ I2 122 3 = set ∧ MR a k set (nbit set a) (I2 123)) (I 1 4) 0 I1 (by omega) ⟨hI1, by rw [nbit_0]; omega, e2, e3, fun i i0 i1 => by rw [nbit_0] at i1; omega, fun i j i0 i1 i2 => by rw [nbit_0] at i2; omega, fun a a0 a1 => by omega⟩ ?_ ?_
    · intro I2 hJ
      obtain ⟨j1, j2, j3, j4⟩ := hJ
      have e4 : I2 1 4 = I 1 4 := by rw [j1.ag 1 (by decide)]
      rw [← hna] at j2 j4
      refine Wk.iload (i := 4) (q := 22) (by decide +kernel) rfl rfl ?_
      refine Wk.aload_n (k := 1) (q := 23) (by decide +kernel) rfl rfl rfl ?_
      refine Wk.getI (z := 4) (q := 26) f_Sear_60 (by decide +kernel) O_1 (by decide) rfl rfl rfl ?_
      refine Wk.icmp_ge (off := (47)) (t := 73) (q := 29) (by decide +kernel) (by decide) rfl (by first | omega | exact bi_rng _) (by first | omega | exact bi_rng _) (fun hc26 => ?_) (fun hc26 => ?_)
      · exact fin I2 _ j1 j2 j3 j4
      · omega
    · intro a I2 a0 a1 hJ ih
      obtain ⟨j1, j2, j3, j4⟩ := hJ
      have hag := j1.ag
      have e4 : I2 1 4 = I 1 4 := by rw [hag 1 (by decide)]
      have hm1 := nbit_mono (set := set) (a := a) (b := 5) a0 (by omega)
      have hm2 := nbit_mono (set := set) (a := a + 1) (b := 5) (by omega) (by omega)
      have hm0 := nbit_mono (set := set) (a := 0) (b := a) (by omega) (by omega)
      rw [nbit_0] at hm0
      have hst := nbit_step (set := set) a0
      refine Wk.iload (i := 4) (q := 22) (by decide +kernel) rfl rfl ?_
      refine Wk.aload_n (k := 1) (q := 23) (by decide +kernel) rfl rfl rfl ?_
      refine Wk.getI (z := 4) (q := 26) f_Sear_60 (by decide +kernel) O_1 (by decide) rfl rfl rfl ?_
      refine Wk.icmp_ge (off := (47)) (t := 73) (q := 29) (by decide +kernel) (by decide) rfl (by first | omega | exact bi_rng _) (by first | omega | exact bi_rng _) (fun hc26 => ?_) (fun hc26 => ?_)
      · first
          | (exfalso; omega)
          | (have hn2 : nbit set a = nbit set 5 := by omega
             rw [hn2] at j2 j4
             refine fin I2 _ j1 j2 j3 ⟨j4.1, fun i i0 i1 => by have := j4.2.1 i i0 i1; exact ⟨by omega, this.2⟩, j4.2.2.1, fun b b0 b1 hb => ?_⟩
             by_cases hba : b < a
             · exact j4.2.2.2 b b0 hba hb
             · exfalso
               have q1 := nbit_mono (set := set) (a := a) (b := b) a0 (by omega)
               have q2 := nbit_step (set := set) b0
               have q3 := nbit_mono (set := set) (a := b + 1) (b := 5) (by omega) (by omega)
               rw [bi_t hb] at q2
               omega)
      · refine Wk.aload_n (k := 0) (q := 30) (by decide +kernel) rfl rfl rfl ?_
        refine Wk.getI (z := 2) (q := 33) f_Sear_50 (by decide +kernel) O_122 (by decide) rfl rfl rfl ?_
        refine Wk.iconst (n := 3) (q := 34) (by decide +kernel) rfl ?_
        refine Wk.icmp_ge (off := (39)) (t := 73) (q := 37) (by decide +kernel) (by decide) rfl (by first | omega | exact bi_rng _) (by first | omega | exact bi_rng _) (fun hc34 => ?_) (fun hc34 => ?_)
        · first
            | (exfalso; omega)
            | (have hn2 : nbit set a = nbit set 5 := by omega
               rw [hn2] at j2 j4
               refine fin I2 _ j1 j2 j3 ⟨j4.1, fun i i0 i1 => by have := j4.2.1 i i0 i1; exact ⟨by omega, this.2⟩, j4.2.2.1, fun b b0 b1 hb => ?_⟩
               by_cases hba : b < a
               · exact j4.2.2.2 b b0 hba hb
               · exfalso
                 have q1 := nbit_mono (set := set) (a := a) (b := b) a0 (by omega)
                 have q2 := nbit_step (set := set) b0
                 have q3 := nbit_mono (set := set) (a := b + 1) (b := 5) (by omega) (by omega)
                 rw [bi_t hb] at q2
                 omega)
        · refine Wk.iload_n (k := 3) (q := 38) (by decide +kernel) rfl rfl rfl ?_
          refine Wk.iload (i := 4) (q := 40) (by decide +kernel) rfl rfl ?_
          refine Wk.ishr (q := 41) (by decide +kernel) rfl ?_
          refine Wk.iconst (n := 1) (q := 42) (by decide +kernel) rfl ?_
          refine Wk.iand (q := 43) (by decide +kernel) rfl ?_
          rw [bit_int s0 (by omega) a0 (by omega)]
          refine Wk.if_eq (off := (24)) (t := 67) (q := 46) (by decide +kernel) (by decide) rfl (by first | omega | exact bi_rng _) (fun hc43 => ?_) (fun hc43 => ?_)
          · refine Wk.iinc (i := 4) (n := 1) (q := 70) (by decide +kernel) rfl (by decide) rfl (fun _ h => h) rfl ?_
            refine Wk.goto (off := (-50)) (q := 20) (by decide +kernel) (by decide) ?_
            first
              | (rw [bi_eq0] at hc43
                 rw [bi_f hc43, Int.add_zero] at hst
                 refine ih _ ⟨j1, by omega, j3, ?_⟩
                 rw [hst]
                 exact ⟨j4.1, fun i i0 i1 => by have := j4.2.1 i i0 i1; exact ⟨by omega, this.2⟩, j4.2.2.1, fun b b0 b1 hb => by
                   by_cases hba : b = a
                   · rw [hba] at hb; exact absurd hb hc43
                   · exact j4.2.2.2 b b0 (by omega) hb⟩)
              | (have hbt : bt set a = true := Classical.not_not.mp (fun z => hc43 (bi_f z))
                 rw [bi_t hbt] at hst
                 refine ih _ ⟨FrS.trans (FrS.up (Or.inl rfl)) (FrS.trans (FrS.up (Or.inr (Or.inl rfl))) j1), ?_, ?_, ?_⟩
                 · simp [iup]; omega
                 · simp [iup, j3]
                 · rw [hst]
                   have hg : ∀ i, ¬ i = I2 122 2 → (iup (iup I2 123 (I2 122 2) a) 122 2 (iup I2 123 (I2 122 2) a 122 2 + 1)) 123 i = I2 123 i := fun i hi => by simp [iup, hi]
                   have hg2 : (iup (iup I2 123 (I2 122 2) a) 122 2 (iup I2 123 (I2 122 2) a 122 2 + 1)) 123 (nbit set a + 1) = a := by
                     have : nbit set a + 1 = I2 122 2 := by omega
                     rw [this]
                     simp [iup]
                   refine ⟨by rw [hg 0 (by omega)]; exact j4.1, fun i i0 i1 => ?_, fun i j i0 i1 i2 => ?_, fun b b0 b1 hb => ?_⟩
                   · by_cases hi : i = nbit set a + 1
                     · rw [hi, hg2]; exact ⟨by omega, hbt⟩
                     · rw [hg i (by omega)]
                       have := j4.2.1 i i0 (by omega)
                       exact ⟨by omega, this.2⟩
                   · by_cases hj : j = nbit set a + 1
                     · rw [hj, hg2, hg i (by omega)]
                       have := (j4.2.1 i i0 (by omega)).1
                       omega
                     · rw [hg i (by omega), hg j (by omega)]
                       exact j4.2.2.1 i j i0 i1 (by omega)
                   · by_cases hba : b = a
                     · exact ⟨nbit set a + 1, by omega, by omega, by rw [hg2, hba]⟩
                     · obtain ⟨i, i0, i1, i2⟩ := j4.2.2.2 b b0 (by omega) hb
                       exact ⟨i, i0, by omega, by rw [hg i (by omega)]; exact i2⟩)
          · refine Wk.aload_n (k := 0) (q := 47) (by decide +kernel) rfl rfl rfl ?_
            refine Wk.getR (r := 123) (q := 50) f_Sear_11 (by decide +kernel) O_122 (by decide) rfl rfl rfl ?_
            refine Wk.aload_n (k := 0) (q := 51) (by decide +kernel) rfl rfl rfl ?_
            refine Wk.getI (z := 2) (q := 54) f_Sear_50 (by decide +kernel) O_122 (by decide) rfl rfl rfl ?_
            refine Wk.iload (i := 4) (q := 56) (by decide +kernel) rfl rfl ?_
            refine Wk.iastore (q := 57) (by decide +kernel) A_123 (by first | omega | exact bi_rng _) (by first | omega | exact bi_rng _) rfl ?_
            refine Wk.aload_n (k := 0) (q := 58) (by decide +kernel) rfl rfl rfl ?_
            refine Wk.dup (q := 59) (by decide +kernel) rfl rfl ?_
            refine Wk.getI (z := 2) (q := 62) f_Sear_50 (by decide +kernel) O_122 (by decide) rfl rfl rfl ?_
            refine Wk.iconst (n := 1) (q := 63) (by decide +kernel) rfl ?_
            refine Wk.iadd (q := 64) (by decide +kernel) rfl ?_
            refine Wk.putI (z := 2) (q := 67) f_Sear_50 fw_Sear_2 (by decide +kernel) O_122 (by decide) rfl rfl ⟨rfl, rfl⟩ rfl ?_
            refine Wk.iinc (i := 4) (n := 1) (q := 70) (by decide +kernel) rfl (by decide) rfl (fun _ h => h) rfl ?_
            refine Wk.goto (off := (-50)) (q := 20) (by decide +kernel) (by decide) ?_
            first
              | (rw [bi_eq0] at hc43
                 rw [bi_f hc43, Int.add_zero] at hst
                 refine ih _ ⟨j1, by omega, j3, ?_⟩
                 rw [hst]
                 exact ⟨j4.1, fun i i0 i1 => by have := j4.2.1 i i0 i1; exact ⟨by omega, this.2⟩, j4.2.2.1, fun b b0 b1 hb => by
                   by_cases hba : b = a
                   · rw [hba] at hb; exact absurd hb hc43
                   · exact j4.2.2.2 b b0 (by omega) hb⟩)
              | (have hbt : bt set a = true := Classical.not_not.mp (fun z => hc43 (bi_f z))
                 rw [bi_t hbt] at hst
                 refine ih _ ⟨FrS.trans (FrS.up (Or.inl rfl)) (FrS.trans (FrS.up (Or.inr (Or.inl rfl))) j1), ?_, ?_, ?_⟩
                 · simp [iup]; omega
                 · simp [iup, j3]
                 · rw [hst]
                   have hg : ∀ i, ¬ i = I2 122 2 → (iup (iup I2 123 (I2 122 2) a) 122 2 (iup I2 123 (I2 122 2) a 122 2 + 1)) 123 i = I2 123 i := fun i hi => by simp [iup, hi]
                   have hg2 : (iup (iup I2 123 (I2 122 2) a) 122 2 (iup I2 123 (I2 122 2) a 122 2 + 1)) 123 (nbit set a + 1) = a := by
                     have : nbit set a + 1 = I2 122 2 := by omega
                     rw [this]
                     simp [iup]
                   refine ⟨by rw [hg 0 (by omega)]; exact j4.1, fun i i0 i1 => ?_, fun i j i0 i1 i2 => ?_, fun b b0 b1 hb => ?_⟩
                   · by_cases hi : i = nbit set a + 1
                     · rw [hi, hg2]; exact ⟨by omega, hbt⟩
                     · rw [hg i (by omega)]
                       have := j4.2.1 i i0 (by omega)
                       exact ⟨by omega, this.2⟩
                   · by_cases hj : j = nbit set a + 1
                     · rw [hj, hg2, hg i (by omega)]
                       have := (j4.2.1 i i0 (by omega)).1
                       omega
                     · rw [hg i (by omega), hg j (by omega)]
                       exact j4.2.2.1 i j i0 i1 (by omega)
                   · by_cases hba : b = a
                     · exact ⟨nbit set a + 1, by omega, by omega, by rw [hg2, hba]⟩
                     · obtain ⟨i, i0, i1, i2⟩ := j4.2.2.2 b b0 (by omega) hb
                       exact ⟨i, i0, by omega, by rw [hg i (by omega)]; exact i2⟩)
  refine Wk.aload_n (k := 0) (q := 1) (by decide +kernel) rfl rfl rfl ?_
  refine Wk.getR (r := 123) (q := 4) f_Sear_11 (by decide +kernel) O_122 (by decide) rfl rfl rfl ?_
  refine Wk.iconst (n := 0) (q := 5) (by decide +kernel) rfl ?_
  refine Wk.iload_n (k := 2) (q := 6) (by decide +kernel) rfl rfl rfl ?_
  refine Wk.iastore (q := 7) (by decide +kernel) A_123 (by first | omega | exact bi_rng _) (by first | omega | exact bi_rng _) rfl ?_
  refine Wk.aload_n (k := 0) (q := 8) (by decide +kernel) rfl rfl rfl ?_
  refine Wk.iconst (n := 1) (q := 9) (by decide +kernel) rfl ?_
  refine Wk.putI (z := 2) (q := 12) f_Sear_50 fw_Sear_2 (by decide +kernel) O_122 (by decide) rfl rfl ⟨rfl, rfl⟩ rfl ?_
  refine Wk.aload_n (k := 0) (q := 13) (by decide +kernel) rfl rfl rfl ?_
  refine Wk.iload_n (k := 3) (q := 14) (by decide +kernel) rfl rfl rfl ?_
  refine Wk.putI (z := 3) (q := 17) f_Sear_53 fw_Sear_3 (by decide +kernel) O_122 (by decide) rfl rfl ⟨rfl, rfl⟩ rfl ?_
  refine Wk.iconst (n := 0) (q := 18) (by decide +kernel) rfl ?_
  refine Wk.istore (i := 4) (q := 20) (by decide +kernel) (by decide) rfl (fun _ h => h) rfl ?_
  exact key _ (FrS.trans (FrS.up (Or.inl rfl)) (FrS.trans (FrS.up (Or.inl rfl)) (FrS.up (Or.inr (Or.inl rfl))))) (by simp [iup]) (by simp [iup]) (by simp [iup])
end SEF
end
section
/-! MOVES, the whole search -/
def MvFound (I : IM) (k : Int) (I2 : IM) (set : Int) (R : Int → Int) : Prop := (0 ≤ set ∧ set < (2 ^ (I 1 4).toNat : Nat)) ∧ nbit set 5 ≤ 2 ∧ MR (I 1 4) k set (nbit set 5) R ∧ Lea (mG I set R) (mK I R) (nbit set 5 + 1).toNat 0 (I2 124) ∧ I2 122 3 = set ∧ I2 122 2 = nbit set 5 + 1 ∧ (∀ i, 0 ≤ i → i ≤ nbit set 5 → I2 123 i = R i) ∧ ∀ set2, 0 ≤ set2 → set2 < (2 ^ (I 1 4).toNat : Nat) → (nbit set2 5 < nbit set 5 ∨ (nbit set2 5 = nbit set 5 ∧ set2 < set)) → ¬ ME I k set2
def MvNone (I : IM) (k : Int) : Prop := ∀ set, 0 ≤ set → set < (2 ^ (I 1 4).toNat : Nat) → nbit set 5 ≤ 2 → ¬ ME I k set
section SEG
variable {xs : RO} {d : Nat} {I : IM} {L : LM}

theorem c_Sear_settlesByMoves {k : Int} (k0 : 0 ≤ k) (k1 : k < I 1 5) (hC : CW I) : Wk xs x_Sear_settlesByMoves (d + 11) 0 0 0 [some (vr 122), some (vr 1), some (vi k), none, none] [] X2 I L (p2 fun v I' _ => ((v = some (vi 1) ∧ ∃ set R, MvFound I k I' set R) ∨ (v = some (vi 0) ∧ MvNone I k)) ∧ FrS I' I) := by
  obtain ⟨hW, hH, -, hF, hA, hB, -⟩ := id hC.1
  have hp5 : 2 ^ (I 1 4).toNat ≤ 2 ^ 5 := Nat.pow_le_pow_right (by decide) (by omega)
  have hp0 := Nat.two_pow_pos (I 1 4).toNat
  have keyC : ∀ L1 : LM, LookOK I L1 (5 + k) → (∀ a, 0 ≤ a → a < I 1 4 → LookOK I L1 a) → Wk xs x_Sear_settlesByMoves (d + 11) 0 0 32 [some (vr 122), some (vr 1), some (vi k), some (vi 0), none] [] X2 I L1 (p2 fun v I' _ => ((v = some (vi 1) ∧ ∃ set R, MvFound I k I' set R) ∨ (v = some (vi 0) ∧ MvNone I k)) ∧ FrS I' I) := by
    intro L1 hLk hLa
    refine loopS3 (σ := IM) (τ := LM) (υ := Option AV) (fun c I2 L2 o4 => Wk xs x_Sear_settlesByMoves (d + 11) 0 0 32 [some (vr 122), some (vr 1), some (vi k), some (vi c), o4] [] X2 I2 L2 (p2 fun v I' _ => ((v = some (vi 1) ∧ ∃ set R, MvFound I k I' set R) ∨ (v = some (vi 0) ∧ MvNone I k)) ∧ FrS I' I)) (fun c I2 L2 _ => FrS I2 I ∧ SLm L2 L1 ∧ ∀ set, 0 ≤ set → set < (2 ^ (I 1 4).toNat : Nat) → nbit set 5 < c → ¬ ME I k set) 3 0 I L1 none (by omega) ⟨fun _ _ _ _ => rfl, fun _ _ _ => rfl, fun set _ _ q => by
      have := nbit_mono (set := set) (a := 0) (b := 5) (by omega) (by omega)
      rw [nbit_0] at this
      omega⟩ ?_ ?_
    · intro I2 L2 o4 hJ
      obtain ⟨j1, j2, j3⟩ := hJ
      refine Wk.iload_n (k := 3) (q := 33) (by decide +kernel) rfl rfl rfl ?_
      refine Wk.iconst (n := 2) (q := 34) (by decide +kernel) rfl ?_
      refine Wk.icmp_gt (off := (53)) (t := 87) (q := 37) (by decide +kernel) (by decide) rfl (by first | omega | exact bi_rng _) (by first | omega | exact bi_rng _) (fun hc34 => ?_) (fun hc34 => ?_)
      · refine Wk.iconst (n := 0) (q := 88) (by decide +kernel) rfl ?_
        exact Wk.rzP (by decide +kernel) rfl (by first | omega | decide | exact bi_01 _) (⟨Or.inr ⟨rfl, fun set q1 q2 q3 => j3 set q1 q2 (by omega)⟩, j1⟩)
      · omega
    · intro c I2 L2 o4 c0 c1 hJ ih
      obtain ⟨j1, j2, j3⟩ := hJ
      have keyS : Wk xs x_Sear_settlesByMoves (d + 11) 0 0 40 [some (vr 122), some (vr 1), some (vi k), some (vi c), some (vi 0)] [] X2 I2 L2 (p2 fun v I' _ => ((v = some (vi 1) ∧ ∃ set R, MvFound I k I' set R) ∨ (v = some (vi 0) ∧ MvNone I k)) ∧ FrS I' I) := by
        refine loopS2 (σ := IM) (τ := LM) (fun s I2 L2 => Wk xs x_Sear_settlesByMoves (d + 11) 0 0 40 [some (vr 122), some (vr 1), some (vi k), some (vi c), some (vi s)] [] X2 I2 L2 (p2 fun v I' _ => ((v = some (vi 1) ∧ ∃ set R, MvFound I k I' set R) ∨ (v = some (vi 0) ∧ MvNone I k)) ∧ FrS I' I)) (fun s I2 L2 => FrS I2 I ∧ SLm L2 L1 ∧ ∀ set, 0 ≤ set → set < (2 ^ (I 1 4).toNat : Nat) → (nbit set 5 < c ∨ (nbit set 5 = c ∧ set < s)) → ¬ ME I k set) ((2 ^ (I 1 4).toNat : Nat) : Int) 0 I2 L2 (by omega) ⟨j1, j2, fun set q1 q2 q3 => j3 set q1 q2 (by omega)⟩ ?_ ?_
        · intro I3 L3 hJ3
          obtain ⟨i1, i2, i3⟩ := hJ3
          have e4 : I3 1 4 = I 1 4 := by rw [i1.ag 1 (by decide)]
          have hsh := shl_one (k := I3 1 4) (by omega) (by omega)
          rw [e4] at hsh
          refine Wk.iload (i := 4) (q := 42) (by decide +kernel) rfl rfl ?_
          refine Wk.iconst (n := 1) (q := 43) (by decide +kernel) rfl ?_
          refine Wk.aload_n (k := 1) (q := 44) (by decide +kernel) rfl rfl rfl ?_
          refine Wk.getI (z := 4) (q := 47) f_Sear_60 (by decide +kernel) O_1 (by decide) rfl rfl rfl ?_
          refine Wk.ishl (q := 48) (by decide +kernel) rfl ?_
          rw [e4, hsh]
          refine Wk.icmp_ge (off := (33)) (t := 81) (q := 51) (by decide +kernel) (by decide) rfl (by first | omega | exact bi_rng _) (by first | omega | exact bi_rng _) (fun hc48 => ?_) (fun hc48 => ?_)
          · refine Wk.iinc (i := 3) (n := 1) (q := 84) (by decide +kernel) rfl (by decide) rfl (fun _ h => h) rfl ?_
            refine Wk.goto (off := (-52)) (q := 32) (by decide +kernel) (by decide) ?_
            exact ih _ _ _ ⟨i1, i2, fun set q1 q2 q3 => i3 set q1 q2 (by omega)⟩
          · omega
        · intro s I3 L3 s0 s1 hJ3 ih2
          obtain ⟨i1, i2, i3⟩ := hJ3
          have hag := i1.ag
          have e4 : I3 1 4 = I 1 4 := by rw [hag 1 (by decide)]
          have hsh := shl_one (k := I3 1 4) (by omega) (by omega)
          rw [e4] at hsh
          have hnb := ct_range (fun b => bt s b = true) 5
          rw [show ct (fun b => bt s b = true) 5 = nbit s 5 from rfl] at hnb
          refine Wk.iload (i := 4) (q := 42) (by decide +kernel) rfl rfl ?_
          refine Wk.iconst (n := 1) (q := 43) (by decide +kernel) rfl ?_
          refine Wk.aload_n (k := 1) (q := 44) (by decide +kernel) rfl rfl rfl ?_
          refine Wk.getI (z := 4) (q := 47) f_Sear_60 (by decide +kernel) O_1 (by decide) rfl rfl rfl ?_
          refine Wk.ishl (q := 48) (by decide +kernel) rfl ?_
          rw [e4, hsh]
          refine Wk.icmp_ge (off := (33)) (t := 81) (q := 51) (by decide +kernel) (by decide) rfl (by first | omega | exact bi_rng _) (by first | omega | exact bi_rng _) (fun hc48 => ?_) (fun hc48 => ?_)
          · omega
          · refine Wk.iload (i := 4) (q := 53) (by decide +kernel) rfl rfl ?_
            refine Wk.cSi (q := 56) l_Sear_63 m_Integer_bitCount (by decide +kernel) (fun _ h => h) (Nat.le_of_ble_eq_true rfl) (Nat.le_of_ble_eq_true rfl) rfl (c_Integer_bitCount s0 (by omega)) rfl ?_
            rw [show ct (fun b => bt s b = true) 5 = nbit s 5 from rfl]
            refine Wk.iload_n (k := 3) (q := 57) (by decide +kernel) rfl rfl rfl ?_
            refine Wk.icmp_ne (off := (18)) (t := 75) (q := 60) (by decide +kernel) (by decide) rfl (by first | omega | exact bi_rng _) (by first | omega | exact bi_rng _) (fun hc57 => ?_) (fun hc57 => ?_)
            · refine Wk.iinc (i := 4) (n := 1) (q := 78) (by decide +kernel) rfl (by decide) rfl (fun _ h => h) rfl ?_
              refine Wk.goto (off := (-38)) (q := 40) (by decide +kernel) (by decide) ?_
              first
                | (refine ih2 _ _ ⟨i1, i2, fun set p1 p2 p3 => ?_⟩
                   by_cases hs : set = s
                   · subst hs
                     exact i3 _ p1 p2 (by omega)
                   · exact i3 set p1 p2 (by omega))
                | (refine ih2 _ _ ⟨q1.trans i1, fun a b hab => (q2 a b hab).trans (i2 a b hab), fun set p1 p2 p3 => ?_⟩
                   by_cases hs : set = s
                   · rcases hv with ⟨hv, -⟩ | ⟨-, hv⟩
                     · injection hv with hv
                       have : z = 1 := by injection hv
                       omega
                     · rw [hs]; exact hv
                   · exact i3 set p1 p2 (by omega))
            · refine Wk.aload_n (k := 0) (q := 61) (by decide +kernel) rfl rfl rfl ?_
              refine Wk.aload_n (k := 1) (q := 62) (by decide +kernel) rfl rfl rfl ?_
              refine Wk.iconst (n := 5) (q := 63) (by decide +kernel) rfl ?_
              refine Wk.iload_n (k := 2) (q := 64) (by decide +kernel) rfl rfl rfl ?_
              refine Wk.iadd (q := 65) (by decide +kernel) rfl ?_
              refine Wk.iload (i := 4) (q := 67) (by decide +kernel) rfl rfl ?_
              refine Wk.cV (q := 70) l_Sear_69 m_Sear_settlesMoving (by decide +kernel) (fun _ h => h) O_122 rfl (Nat.le_of_ble_eq_true rfl) (Nat.le_of_ble_eq_true rfl) rfl (c_Sear_settlesMoving k0 (by rw [hag 1 (by decide)]; exact k1) (hag.cw.mpr hC) s0 (by rw [e4]; exact s1) (by omega) (hag.look.mpr (hLk.sl i2)) (fun a a0 a1 => hag.look.mpr ((hLa a a0 (by omega)).sl i2))) rfl (fun v I4 L4 hP => ?_)
              obtain ⟨hv, q1, q2⟩ := hP
              have hME : ME I3 k s ↔ ME I k s := by
                unfold ME mG mK cLeft cGood
                rw [hag 1 (by decide), hag 2 (by decide), hag 3 (by decide), hag 4 (by decide), hag 5 (by decide), hag 6 (by decide), hag 7 (by decide)]
              have hmG : ∀ R, mG I3 s R = mG I s R := fun R => by
                unfold mG cLeft cGood
                rw [hag 1 (by decide), hag 2 (by decide), hag 3 (by decide), hag 4 (by decide), hag 5 (by decide), hag 6 (by decide), hag 7 (by decide)]
              have hmK : ∀ R, mK I3 R = mK I R := fun R => by
                unfold mK
                rw [hag 1 (by decide), hag 4 (by decide), hag 5 (by decide)]
              rw [hME, e4] at hv
              obtain ⟨z, hz, hz2⟩ : ∃ z : Int, (z = 0 ∨ z = 1) ∧ v = some (vi z) := by
                rcases hv with ⟨rfl, -⟩ | ⟨rfl, -⟩
                · exact ⟨1, Or.inr rfl, rfl⟩
                · exact ⟨0, Or.inl rfl, rfl⟩
              subst hz2
              refine Wk.if_eq (off := (5)) (t := 75) (q := 73) (by decide +kernel) (by decide) rfl (by first | omega | exact bi_rng _) (fun hc70 => ?_) (fun hc70 => ?_)
              · refine Wk.iinc (i := 4) (n := 1) (q := 78) (by decide +kernel) rfl (by decide) rfl (fun _ h => h) rfl ?_
                refine Wk.goto (off := (-38)) (q := 40) (by decide +kernel) (by decide) ?_
                first
                  | (refine ih2 _ _ ⟨i1, i2, fun set p1 p2 p3 => ?_⟩
                     by_cases hs : set = s
                     · subst hs
                       exact i3 _ p1 p2 (by omega)
                     · exact i3 set p1 p2 (by omega))
                  | (refine ih2 _ _ ⟨q1.trans i1, fun a b hab => (q2 a b hab).trans (i2 a b hab), fun set p1 p2 p3 => ?_⟩
                     by_cases hs : set = s
                     · rcases hv with ⟨hv, -⟩ | ⟨-, hv⟩
                       · injection hv with hv
                         have : z = 1 := by injection hv
                         omega
                       · rw [hs]; exact hv
                     · exact i3 set p1 p2 (by omega))
              · refine Wk.iconst (n := 1) (q := 74) (by decide +kernel) rfl ?_
                exact Wk.rzP (by decide +kernel) rfl (by first | omega | decide | exact bi_01 _) (⟨Or.inl ⟨rfl, by
            rcases hv with ⟨-, R, r1, r2, r3, r4, r5⟩ | ⟨hv, -⟩
            · rw [hmG, hmK] at r2
              exact ⟨s, R, ⟨s0, s1⟩, by omega, r1, r2, r3, r4, r5, fun set2 p1 p2 p3 => i3 set2 p1 p2 (by omega)⟩
            · injection hv with hv
              have : z = 0 := by injection hv
              omega⟩, q1.trans i1⟩)
      refine Wk.iload_n (k := 3) (q := 33) (by decide +kernel) rfl rfl rfl ?_
      refine Wk.iconst (n := 2) (q := 34) (by decide +kernel) rfl ?_
      refine Wk.icmp_gt (off := (53)) (t := 87) (q := 37) (by decide +kernel) (by decide) rfl (by first | omega | exact bi_rng _) (by first | omega | exact bi_rng _) (fun hc34 => ?_) (fun hc34 => ?_)
      · omega
      · refine Wk.iconst (n := 0) (q := 38) (by decide +kernel) rfl ?_
        refine Wk.istore (i := 4) (q := 40) (by decide +kernel) (by decide) rfl (fun _ h => h) rfl ?_
        exact keyS
  have keyL : ∀ L1 : LM, LookOK I L1 (5 + k) → Wk xs x_Sear_settlesByMoves (d + 11) 0 0 10 [some (vr 122), some (vr 1), some (vi k), some (vi 0), none] [] X2 I L1 (p2 fun v I' _ => ((v = some (vi 1) ∧ ∃ set R, MvFound I k I' set R) ∨ (v = some (vi 0) ∧ MvNone I k)) ∧ FrS I' I) := by
    intro L1 hLk
    refine loopS (σ := LM) (fun a L2 => Wk xs x_Sear_settlesByMoves (d + 11) 0 0 10 [some (vr 122), some (vr 1), some (vi k), some (vi a), none] [] X2 I L2 (p2 fun v I' _ => ((v = some (vi 1) ∧ ∃ set R, MvFound I k I' set R) ∨ (v = some (vi 0) ∧ MvNone I k)) ∧ FrS I' I)) (fun a L2 => LookOK I L2 (5 + k) ∧ ∀ b, 0 ≤ b → b < a → LookOK I L2 b) (I 1 4) 0 L1 (by omega) ⟨hLk, fun b b0 b1 => by omega⟩ ?_ ?_
    · intro L2 hJ
      refine Wk.iload_n (k := 3) (q := 11) (by decide +kernel) rfl rfl rfl ?_
      refine Wk.aload_n (k := 1) (q := 12) (by decide +kernel) rfl rfl rfl ?_
      refine Wk.getI (z := 4) (q := 15) f_Sear_60 (by decide +kernel) O_1 (by decide) rfl rfl rfl ?_
      refine Wk.icmp_ge (off := (15)) (t := 30) (q := 18) (by decide +kernel) (by decide) rfl (by first | omega | exact bi_rng _) (by first | omega | exact bi_rng _) (fun hc15 => ?_) (fun hc15 => ?_)
      · refine Wk.iconst (n := 0) (q := 31) (by decide +kernel) rfl ?_
        refine Wk.istore_n (k := 3) (q := 32) (by decide +kernel) rfl (by decide) rfl (fun _ h => h) rfl ?_
        exact keyC L2 hJ.1 hJ.2
      · omega
    · intro a L2 a0 a1 hJ ih
      refine Wk.iload_n (k := 3) (q := 11) (by decide +kernel) rfl rfl rfl ?_
      refine Wk.aload_n (k := 1) (q := 12) (by decide +kernel) rfl rfl rfl ?_
      refine Wk.getI (z := 4) (q := 15) f_Sear_60 (by decide +kernel) O_1 (by decide) rfl rfl rfl ?_
      refine Wk.icmp_ge (off := (15)) (t := 30) (q := 18) (by decide +kernel) (by decide) rfl (by first | omega | exact bi_rng _) (by first | omega | exact bi_rng _) (fun hc15 => ?_) (fun hc15 => ?_)
      · omega
      · refine Wk.aload_n (k := 0) (q := 19) (by decide +kernel) rfl rfl rfl ?_
        refine Wk.aload_n (k := 1) (q := 20) (by decide +kernel) rfl rfl rfl ?_
        refine Wk.iload_n (k := 3) (q := 21) (by decide +kernel) rfl rfl rfl ?_
        refine Wk.cV (q := 24) l_Sear_28 m_Sear_look (by decide +kernel) (fun _ h => h) O_122 rfl (Nat.le_of_ble_eq_true rfl) (Nat.le_of_ble_eq_true rfl) rfl (c_Sear_look (Or.inl ⟨a0, a1⟩) hC) rfl (fun v I3 L3 hP => ?_)
        obtain ⟨rfl, rfl, hK, hLF⟩ := hP
        refine Wk.iinc (i := 3) (n := 1) (q := 27) (by decide +kernel) rfl (by decide) rfl (fun _ h => h) rfl ?_
        refine Wk.goto (off := (-17)) (q := 10) (by decide +kernel) (by decide) ?_
        exact ih _ ⟨hJ.1.kept hLF (by omega) (by omega), ext1 (fun b b0 b1 => (hJ.2 b b0 b1).kept hLF (by omega) (by omega)) hK⟩
  refine Wk.aload_n (k := 0) (q := 1) (by decide +kernel) rfl rfl rfl ?_
  refine Wk.aload_n (k := 1) (q := 2) (by decide +kernel) rfl rfl rfl ?_
  refine Wk.iconst (n := 5) (q := 3) (by decide +kernel) rfl ?_
  refine Wk.iload_n (k := 2) (q := 4) (by decide +kernel) rfl rfl rfl ?_
  refine Wk.iadd (q := 5) (by decide +kernel) rfl ?_
  refine Wk.cV (q := 8) l_Sear_28 m_Sear_look (by decide +kernel) (fun _ h => h) O_122 rfl (Nat.le_of_ble_eq_true rfl) (Nat.le_of_ble_eq_true rfl) rfl (c_Sear_look (Or.inr (by omega)) hC) rfl (fun v I3 L3 hP => ?_)
  obtain ⟨rfl, rfl, hK, hLF⟩ := hP
  refine Wk.iconst (n := 0) (q := 9) (by decide +kernel) rfl ?_
  refine Wk.istore_n (k := 3) (q := 10) (by decide +kernel) rfl (by decide) rfl (fun _ h => h) rfl ?_
  exact keyL L3 hK
end SEG
end
section
/-! THE REFERENCE: its words and leaves -/
def MI0 (I : IM) : Prop := (2 ≤ I 149 0 ∧ I 149 0 ≤ 7) ∧ (2 ≤ I 149 1 ∧ I 149 1 ≤ 7) ∧ (-3 ≤ I 149 2 ∧ I 149 2 ≤ 3) ∧ (0 ≤ I 149 3 ∧ I 149 3 ≤ 255) ∧ (0 ≤ I 149 4 ∧ I 149 4 ≤ 5) ∧ (0 ≤ I 149 5 ∧ I 149 5 ≤ 3) ∧ ∀ k, 0 ≤ k → k < 49 → 0 ≤ I 149 (6 + k) ∧ I 149 (6 + k) ≤ 9
/-- a ship's numbers, at p; a cell -/
def MP (I : IM) (p : Int) : Prop := (55 ≤ p ∧ p ≤ 83) ∧ (1 ≤ I 149 p ∧ I 149 p ≤ 9) ∧ (0 ≤ I 149 (p + 1) ∧ I 149 (p + 1) ≤ 2) ∧ 1 ≤ I 149 (p + 2) ∧ I 149 (p + 2) ≤ 2
def mC (I : IM) (c : Int) : Prop := 0 ≤ c ∧ c < I 149 0 * I 149 1
theorem mcoord {W H c : Int} (hW : 2 ≤ W) (h0 : 0 ≤ c) (h1 : c < W * H) : (0 ≤ c % W ∧ c % W < W) ∧ 0 ≤ c / W ∧ c / W < H := by
  refine ⟨⟨Int.emod_nonneg c (by omega), Int.emod_lt_of_pos c (by omega)⟩, Int.ediv_nonneg h0 (by omega), Int.ediv_lt_of_lt_mul (by omega) ?_⟩
  rw [Int.mul_comm]; exact h1
noncomputable abbrev mwat (I : IM) (x y : Int) : Int := wat (I 149 0) (I 149 1) (I 149 2) (fun k => I 149 (6 + k)) x y
abbrev mLO (I : IM) (p c w x y : Int) : Prop := LO (I 149 (p + 1)) (I 149 (p + 2)) (c % I 149 0) (c / I 149 0) w x y
abbrev mSW (I : IM) (p c x y : Int) : Prop := SWP (I 149 3) (I 149 (p + 1)) (I 149 (p + 2)) (c % I 149 0) (c / I 149 0) x y
abbrev mML (I : IM) (F p c : Int) : Prop := ML (I 149 0) (I 149 1) (I 149 2) (fun k => I 149 (6 + k)) F (I 149 p) (I 149 (p + 1)) (I 149 (p + 2)) (c % I 149 0) (c / I 149 0)
abbrev mCL (I : IM) (F p c q e : Int) : Prop := CL F (I 149 (p + 1)) (I 149 (p + 2)) (c % I 149 0) (c / I 149 0) (I 149 (q + 1)) (I 149 (q + 2)) (e % I 149 0) (e / I 149 0)
noncomputable def mval (I : IM) (t x y : Int) : Int := @ite Int (inE (I 149 0) (I 149 1) x y ∨ ¬ t = 0) (Classical.propDecidable _) (mwat I x y) (-1)
theorem mval_in {I : IM} {t x y : Int} (h : inE (I 149 0) (I 149 1) x y ∨ ¬ t = 0) : mval I t x y = mwat I x y := by unfold mval; rw [if_pos h]
theorem mval_out {I : IM} {t x y : Int} (h : ¬ (inE (I 149 0) (I 149 1) x y ∨ ¬ t = 0)) : mval I t x y = -1 := by unfold mval; rw [if_neg h]
theorem mwat_range {I : IM} (h : MI0 I) (x y : Int) : 0 ≤ mwat I x y ∧ mwat I x y ≤ 12 := by
  by_cases hi : inE (I 149 0) (I 149 1) x y
  · obtain ⟨h1, h2, h3, -, -, -, h7⟩ := h
    have hb := cellB (W := I 149 0) (H := I 149 1) (x := x) (y := y) ⟨hi.1, hi.2.1⟩ ⟨hi.2.2.1, hi.2.2.2⟩
    have h49 := WH49 (W := I 149 0) (H := I 149 1) (by omega) (by omega)
    have := h7 (y * I 149 0 + x) (by omega) (by omega)
    rw [mwat, wat_in hi]
    omega
  · rw [mwat, wat_out hi]
    omega
theorem mval_range {I : IM} (h : MI0 I) (t x y : Int) : -1 ≤ mval I t x y ∧ mval I t x y ≤ 12 := by
  have := mwat_range h x y
  by_cases hi : inE (I 149 0) (I 149 1) x y ∨ ¬ t = 0
  · rw [mval_in hi]; omega
  · rw [mval_out hi]; omega
theorem or_nil {s : Int} (h0 : 0 ≤ s) (h1 : s ≤ 2147483647) : (nZ s ||| nZ 0).toInt = s := by
  rw [nZ_0, Int32.or_zero, nZ_toInt (by omega) h1]
section MOA
variable {xs : RO} {d : Nat} {I : IM} {L : LM}

theorem c_Mod_in {v l h : Int} (hv : -2147483648 ≤ v ∧ v ≤ 2147483647) (hl : -2147483648 ≤ l ∧ l ≤ 2147483647) (hh : -2147483648 ≤ h ∧ h ≤ 2147483647) : Wk xs x_Mod_in d 0 0 0 [some (vi v), some (vi l), some (vi h)] [] X2 I L (pI (bi (l ≤ v ∧ v ≤ h)) I L) := by
  refine Wk.iload_n (k := 0) (q := 1) (by decide +kernel) rfl rfl rfl ?_
  refine Wk.iload_n (k := 1) (q := 2) (by decide +kernel) rfl rfl rfl ?_
  refine Wk.icmp_lt (off := (12)) (t := 14) (q := 5) (by decide +kernel) (by decide) rfl (by first | omega | exact bi_rng _) (by first | omega | exact bi_rng _) (fun hc2 => ?_) (fun hc2 => ?_)
  · refine Wk.iconst (n := 0) (q := 15) (by decide +kernel) rfl ?_
    exact Wk.rZ (by decide +kernel) rfl (by first | omega | decide | exact bi_01 _) (by first | rw [bi_t (by omega)] | rw [bi_f (by omega)])
  · refine Wk.iload_n (k := 0) (q := 6) (by decide +kernel) rfl rfl rfl ?_
    refine Wk.iload_n (k := 2) (q := 7) (by decide +kernel) rfl rfl rfl ?_
    refine Wk.icmp_gt (off := (7)) (t := 14) (q := 10) (by decide +kernel) (by decide) rfl (by first | omega | exact bi_rng _) (by first | omega | exact bi_rng _) (fun hc7 => ?_) (fun hc7 => ?_)
    · refine Wk.iconst (n := 0) (q := 15) (by decide +kernel) rfl ?_
      exact Wk.rZ (by decide +kernel) rfl (by first | omega | decide | exact bi_01 _) (by first | rw [bi_t (by omega)] | rw [bi_f (by omega)])
    · refine Wk.iconst (n := 1) (q := 11) (by decide +kernel) rfl ?_
      refine Wk.goto (off := (4)) (q := 15) (by decide +kernel) (by decide) ?_
      exact Wk.rZ (by decide +kernel) rfl (by first | omega | decide | exact bi_01 _) (by first | rw [bi_t (by omega)] | rw [bi_f (by omega)])
theorem c_Mod_has {F k : Int} (h0 : 0 ≤ F) (h1 : F ≤ 2147483647) (h2 : 0 ≤ k) (h3 : k ≤ 30) : Wk xs x_Mod_has d 0 0 0 [some (vi F), some (vi k)] [] X2 I L (pI (bi (bt F k = true)) I L) := by
  refine Wk.iload_n (k := 0) (q := 1) (by decide +kernel) rfl rfl rfl ?_
  refine Wk.iload_n (k := 1) (q := 2) (by decide +kernel) rfl rfl rfl ?_
  refine Wk.ishr (q := 3) (by decide +kernel) rfl ?_
  refine Wk.iconst (n := 1) (q := 4) (by decide +kernel) rfl ?_
  refine Wk.iand (q := 5) (by decide +kernel) rfl ?_
  rw [bit_int h0 h1 h2 h3]
  refine Wk.iconst (n := 1) (q := 6) (by decide +kernel) rfl ?_
  refine Wk.icmp_ne (off := (7)) (t := 13) (q := 9) (by decide +kernel) (by decide) rfl (by first | omega | exact bi_rng _) (by first | omega | exact bi_rng _) (fun hc6 => ?_) (fun hc6 => ?_)
  · refine Wk.iconst (n := 0) (q := 14) (by decide +kernel) rfl ?_
    exact Wk.rZ (by decide +kernel) rfl (by first | omega | decide | exact bi_01 _) (by first | (rw [bi_t (bi_eq1.mp hc6)]; done) | (rw [bi_f (fun z => hc6 (bi_eq1.mpr z))]; done))
  · refine Wk.iconst (n := 1) (q := 10) (by decide +kernel) rfl ?_
    refine Wk.goto (off := (4)) (q := 14) (by decide +kernel) (by decide) ?_
    exact Wk.rZ (by decide +kernel) rfl (by first | omega | decide | exact bi_01 _) (by first | (rw [bi_t (bi_eq1.mp hc6)]; done) | (rw [bi_f (fun z => hc6 (bi_eq1.mpr z))]; done))
theorem c_Mod_shipAt {a : Int} : Wk xs x_Mod_shipAt d 0 0 0 [some (vi a)] [] X2 I L (pI (55 + 4 * a) I L) := by
  refine Wk.bipush (n := 55) (q := 2) (by decide +kernel) (by decide +kernel) rfl ?_
  refine Wk.iconst (n := 4) (q := 3) (by decide +kernel) rfl ?_
  refine Wk.iload_n (k := 0) (q := 4) (by decide +kernel) rfl rfl rfl ?_
  refine Wk.imul (q := 5) (by decide +kernel) rfl ?_
  refine Wk.iadd (q := 6) (by decide +kernel) rfl ?_
  exact Wk.rI (by decide +kernel) rfl (rfl)
theorem c_Mod_waitAt {a : Int} : Wk xs x_Mod_waitAt d 0 0 0 [some (vi a)] [] X2 I L (pI (75 + 4 * a) I L) := by
  refine Wk.bipush (n := 75) (q := 2) (by decide +kernel) (by decide +kernel) rfl ?_
  refine Wk.iconst (n := 4) (q := 3) (by decide +kernel) rfl ?_
  refine Wk.iload_n (k := 0) (q := 4) (by decide +kernel) rfl rfl rfl ?_
  refine Wk.imul (q := 5) (by decide +kernel) rfl ?_
  refine Wk.iadd (q := 6) (by decide +kernel) rfl ?_
  exact Wk.rI (by decide +kernel) rfl (rfl)
theorem c_Mod_cells : Wk xs x_Mod_cells d 0 0 0 [some (vr 148)] [] X2 I L (pI (I 149 0 * I 149 1) I L) := by
  refine Wk.aload_n (k := 0) (q := 1) (by decide +kernel) rfl rfl rfl ?_
  refine Wk.getR (r := 149) (q := 4) f_Mod_7 (by decide +kernel) O_148 (by decide) rfl rfl rfl ?_
  refine Wk.iconst (n := 0) (q := 5) (by decide +kernel) rfl ?_
  refine Wk.iaload (q := 6) (by decide +kernel) A_149 (by first | omega | exact bi_rng _) (by first | omega | exact bi_rng _) rfl ?_
  refine Wk.aload_n (k := 0) (q := 7) (by decide +kernel) rfl rfl rfl ?_
  refine Wk.getR (r := 149) (q := 10) f_Mod_7 (by decide +kernel) O_148 (by decide) rfl rfl rfl ?_
  refine Wk.iconst (n := 1) (q := 11) (by decide +kernel) rfl ?_
  refine Wk.iaload (q := 12) (by decide +kernel) A_149 (by first | omega | exact bi_rng _) (by first | omega | exact bi_rng _) rfl ?_
  refine Wk.imul (q := 13) (by decide +kernel) rfl ?_
  exact Wk.rI (by decide +kernel) rfl (rfl)
theorem c_Mod_isShip {a : Int} (ha : -2147483648 ≤ a ∧ a ≤ 2147483647) (hI : MI0 I) : Wk xs x_Mod_isShip (d + 1) 0 0 0 [some (vr 148), some (vi a)] [] X2 I L (pI (bi (0 ≤ a ∧ a < I 149 4)) I L) := by
  obtain ⟨hW, hH, hT, hF, hA, hK, hD⟩ := id hI
  refine Wk.iload_n (k := 1) (q := 1) (by decide +kernel) rfl rfl rfl ?_
  refine Wk.iconst (n := 0) (q := 2) (by decide +kernel) rfl ?_
  refine Wk.aload_n (k := 0) (q := 3) (by decide +kernel) rfl rfl rfl ?_
  refine Wk.getR (r := 149) (q := 6) f_Mod_7 (by decide +kernel) O_148 (by decide) rfl rfl rfl ?_
  refine Wk.iconst (n := 4) (q := 7) (by decide +kernel) rfl ?_
  refine Wk.iaload (q := 8) (by decide +kernel) A_149 (by first | omega | exact bi_rng _) (by first | omega | exact bi_rng _) rfl ?_
  refine Wk.iconst (n := 1) (q := 9) (by decide +kernel) rfl ?_
  refine Wk.isub (q := 10) (by decide +kernel) rfl ?_
  refine Wk.cSi (q := 13) l_Mod_36 m_Mod_in (by decide +kernel) (fun _ h => h) (Nat.le_of_ble_eq_true rfl) (Nat.le_of_ble_eq_true rfl) rfl (c_Mod_in (by omega) (by omega) (by omega)) rfl ?_
  exact Wk.rZ (by decide +kernel) rfl (by first | omega | decide | exact bi_01 _) (bi_cong (by omega))
theorem c_Mod_isWaiting {a : Int} (ha : -2147483648 ≤ a ∧ a ≤ 2147483647) (hI : MI0 I) : Wk xs x_Mod_isWaiting (d + 1) 0 0 0 [some (vr 148), some (vi a)] [] X2 I L (pI (bi (0 ≤ a ∧ a < I 149 5)) I L) := by
  obtain ⟨hW, hH, hT, hF, hA, hK, hD⟩ := id hI
  refine Wk.iload_n (k := 1) (q := 1) (by decide +kernel) rfl rfl rfl ?_
  refine Wk.iconst (n := 0) (q := 2) (by decide +kernel) rfl ?_
  refine Wk.aload_n (k := 0) (q := 3) (by decide +kernel) rfl rfl rfl ?_
  refine Wk.getR (r := 149) (q := 6) f_Mod_7 (by decide +kernel) O_148 (by decide) rfl rfl rfl ?_
  refine Wk.iconst (n := 5) (q := 7) (by decide +kernel) rfl ?_
  refine Wk.iaload (q := 8) (by decide +kernel) A_149 (by first | omega | exact bi_rng _) (by first | omega | exact bi_rng _) rfl ?_
  refine Wk.iconst (n := 1) (q := 9) (by decide +kernel) rfl ?_
  refine Wk.isub (q := 10) (by decide +kernel) rfl ?_
  refine Wk.cSi (q := 13) l_Mod_36 m_Mod_in (by decide +kernel) (fun _ h => h) (Nat.le_of_ble_eq_true rfl) (Nat.le_of_ble_eq_true rfl) rfl (c_Mod_in (by omega) (by omega) (by omega)) rfl ?_
  exact Wk.rZ (by decide +kernel) rfl (by first | omega | decide | exact bi_01 _) (bi_cong (by omega))
theorem c_Mod_isCell {x y : Int} (hx : -2147483648 ≤ x ∧ x ≤ 2147483647) (hy : -2147483648 ≤ y ∧ y ≤ 2147483647) (hI : MI0 I) : Wk xs x_Mod_isCell (d + 1) 0 0 0 [some (vr 148), some (vi x), some (vi y)] [] X2 I L (pI (bi (inE (I 149 0) (I 149 1) x y)) I L) := by
  obtain ⟨hW, hH, hT, hF, hA, hK, hD⟩ := id hI
  refine Wk.iload_n (k := 1) (q := 1) (by decide +kernel) rfl rfl rfl ?_
  refine Wk.iconst (n := 0) (q := 2) (by decide +kernel) rfl ?_
  refine Wk.aload_n (k := 0) (q := 3) (by decide +kernel) rfl rfl rfl ?_
  refine Wk.getR (r := 149) (q := 6) f_Mod_7 (by decide +kernel) O_148 (by decide) rfl rfl rfl ?_
  refine Wk.iconst (n := 0) (q := 7) (by decide +kernel) rfl ?_
  refine Wk.iaload (q := 8) (by decide +kernel) A_149 (by first | omega | exact bi_rng _) (by first | omega | exact bi_rng _) rfl ?_
  refine Wk.iconst (n := 1) (q := 9) (by decide +kernel) rfl ?_
  refine Wk.isub (q := 10) (by decide +kernel) rfl ?_
  refine Wk.cSi (q := 13) l_Mod_36 m_Mod_in (by decide +kernel) (fun _ h => h) (Nat.le_of_ble_eq_true rfl) (Nat.le_of_ble_eq_true rfl) rfl (c_Mod_in (by omega) (by omega) (by omega)) rfl ?_
  refine Wk.ifB_eq (off := (23)) (t := 36) (q := 16) (by decide +kernel) (by decide) rfl (fun hc13 => ?_) (fun hc13 => ?_)
  · refine Wk.iconst (n := 0) (q := 37) (by decide +kernel) rfl ?_
    exact Wk.rZ (by decide +kernel) rfl (by first | omega | decide | exact bi_01 _) (by first | rw [bi_t (by unfold inE; omega)] | rw [bi_f (by unfold inE; omega)])
  · refine Wk.iload_n (k := 2) (q := 17) (by decide +kernel) rfl rfl rfl ?_
    refine Wk.iconst (n := 0) (q := 18) (by decide +kernel) rfl ?_
    refine Wk.aload_n (k := 0) (q := 19) (by decide +kernel) rfl rfl rfl ?_
    refine Wk.getR (r := 149) (q := 22) f_Mod_7 (by decide +kernel) O_148 (by decide) rfl rfl rfl ?_
    refine Wk.iconst (n := 1) (q := 23) (by decide +kernel) rfl ?_
    refine Wk.iaload (q := 24) (by decide +kernel) A_149 (by first | omega | exact bi_rng _) (by first | omega | exact bi_rng _) rfl ?_
    refine Wk.iconst (n := 1) (q := 25) (by decide +kernel) rfl ?_
    refine Wk.isub (q := 26) (by decide +kernel) rfl ?_
    refine Wk.cSi (q := 29) l_Mod_36 m_Mod_in (by decide +kernel) (fun _ h => h) (Nat.le_of_ble_eq_true rfl) (Nat.le_of_ble_eq_true rfl) rfl (c_Mod_in (by omega) (by omega) (by omega)) rfl ?_
    refine Wk.ifB_eq (off := (7)) (t := 36) (q := 32) (by decide +kernel) (by decide) rfl (fun hc29 => ?_) (fun hc29 => ?_)
    · refine Wk.iconst (n := 0) (q := 37) (by decide +kernel) rfl ?_
      exact Wk.rZ (by decide +kernel) rfl (by first | omega | decide | exact bi_01 _) (by first | rw [bi_t (by unfold inE; omega)] | rw [bi_f (by unfold inE; omega)])
    · refine Wk.iconst (n := 1) (q := 33) (by decide +kernel) rfl ?_
      refine Wk.goto (off := (4)) (q := 37) (by decide +kernel) (by decide) ?_
      exact Wk.rZ (by decide +kernel) rfl (by first | omega | decide | exact bi_01 _) (by first | rw [bi_t (by unfold inE; omega)] | rw [bi_f (by unfold inE; omega)])
theorem c_Mod_water {x y : Int} (hx : -2147483648 ≤ x ∧ x ≤ 2147483647) (hy : -2147483648 ≤ y ∧ y ≤ 2147483647) (hI : MI0 I) : Wk xs x_Mod_water (d + 2) 0 0 0 [some (vr 148), some (vi x), some (vi y), none] [] X2 I L (pI (mwat I x y) I L) := by
  obtain ⟨hW, hH, hT, hF, hA, hK, hD⟩ := id hI
  refine Wk.aload_n (k := 0) (q := 1) (by decide +kernel) rfl rfl rfl ?_
  refine Wk.iload_n (k := 1) (q := 2) (by decide +kernel) rfl rfl rfl ?_
  refine Wk.iload_n (k := 2) (q := 3) (by decide +kernel) rfl rfl rfl ?_
  refine Wk.cVi (q := 6) l_Mod_40 m_Mod_isCell (by decide +kernel) (fun _ h => h) O_148 rfl (Nat.le_of_ble_eq_true rfl) (Nat.le_of_ble_eq_true rfl) rfl (c_Mod_isCell hx hy hI) rfl ?_
  refine Wk.ifB_eq (off := (31)) (t := 37) (q := 9) (by decide +kernel) (by decide) rfl (fun hc6 => ?_) (fun hc6 => ?_)
  · have e1 := wat_out (t := I 149 2) (dep := fun k => I 149 (6 + k)) hc6
    refine Wk.iconst (n := 0) (q := 38) (by decide +kernel) rfl ?_
    refine Wk.istore_n (k := 3) (q := 39) (by decide +kernel) rfl (by decide) rfl (fun _ h => h) rfl ?_
    refine Wk.iload_n (k := 3) (q := 40) (by decide +kernel) rfl rfl rfl ?_
    refine Wk.if_ge (off := (7)) (t := 47) (q := 43) (by decide +kernel) (by decide) rfl (by first | omega | exact bi_rng _) (fun hc40 => ?_) (fun hc40 => ?_)
    · refine Wk.iload_n (k := 3) (q := 48) (by decide +kernel) rfl rfl rfl ?_
      exact Wk.rI (by decide +kernel) rfl (by rw [mwat, e1] <;> omega)
    · refine Wk.iconst (n := 0) (q := 44) (by decide +kernel) rfl ?_
      refine Wk.goto (off := (4)) (q := 48) (by decide +kernel) (by decide) ?_
      exact Wk.rI (by decide +kernel) rfl (by rw [mwat, e1] <;> omega)
  · have hb := cellB (W := I 149 0) (H := I 149 1) (x := x) (y := y) ⟨hc6.1, hc6.2.1⟩ ⟨hc6.2.2.1, hc6.2.2.2⟩
    have h49 := WH49 (W := I 149 0) (H := I 149 1) (by omega) (by omega)
    have hdp := hD (y * I 149 0 + x) (by omega) (by omega)
    have e1 := wat_in (t := I 149 2) (dep := fun k => I 149 (6 + k)) hc6
    refine Wk.aload_n (k := 0) (q := 10) (by decide +kernel) rfl rfl rfl ?_
    refine Wk.getR (r := 149) (q := 13) f_Mod_7 (by decide +kernel) O_148 (by decide) rfl rfl rfl ?_
    refine Wk.bipush (n := 6) (q := 15) (by decide +kernel) (by decide +kernel) rfl ?_
    refine Wk.iload_n (k := 2) (q := 16) (by decide +kernel) rfl rfl rfl ?_
    refine Wk.aload_n (k := 0) (q := 17) (by decide +kernel) rfl rfl rfl ?_
    refine Wk.getR (r := 149) (q := 20) f_Mod_7 (by decide +kernel) O_148 (by decide) rfl rfl rfl ?_
    refine Wk.iconst (n := 0) (q := 21) (by decide +kernel) rfl ?_
    refine Wk.iaload (q := 22) (by decide +kernel) A_149 (by first | omega | exact bi_rng _) (by first | omega | exact bi_rng _) rfl ?_
    refine Wk.imul (q := 23) (by decide +kernel) rfl ?_
    refine Wk.iadd (q := 24) (by decide +kernel) rfl ?_
    refine Wk.iload_n (k := 1) (q := 25) (by decide +kernel) rfl rfl rfl ?_
    refine Wk.iadd (q := 26) (by decide +kernel) rfl ?_
    rw [Int.add_assoc]
    refine Wk.iaload (q := 27) (by decide +kernel) A_149 (by first | omega | exact bi_rng _) (by first | omega | exact bi_rng _) rfl ?_
    refine Wk.aload_n (k := 0) (q := 28) (by decide +kernel) rfl rfl rfl ?_
    refine Wk.getR (r := 149) (q := 31) f_Mod_7 (by decide +kernel) O_148 (by decide) rfl rfl rfl ?_
    refine Wk.iconst (n := 2) (q := 32) (by decide +kernel) rfl ?_
    refine Wk.iaload (q := 33) (by decide +kernel) A_149 (by first | omega | exact bi_rng _) (by first | omega | exact bi_rng _) rfl ?_
    refine Wk.iadd (q := 34) (by decide +kernel) rfl ?_
    refine Wk.goto (off := (4)) (q := 38) (by decide +kernel) (by decide) ?_
    refine Wk.istore_n (k := 3) (q := 39) (by decide +kernel) rfl (by decide) rfl (fun _ h => h) rfl ?_
    refine Wk.iload_n (k := 3) (q := 40) (by decide +kernel) rfl rfl rfl ?_
    refine Wk.if_ge (off := (7)) (t := 47) (q := 43) (by decide +kernel) (by decide) rfl (by first | omega | exact bi_rng _) (fun hc40 => ?_) (fun hc40 => ?_)
    · refine Wk.iload_n (k := 3) (q := 48) (by decide +kernel) rfl rfl rfl ?_
      exact Wk.rI (by decide +kernel) rfl (by rw [mwat, e1] <;> omega)
    · refine Wk.iconst (n := 0) (q := 44) (by decide +kernel) rfl ?_
      refine Wk.goto (off := (4)) (q := 48) (by decide +kernel) (by decide) ?_
      exact Wk.rI (by decide +kernel) rfl (by rw [mwat, e1] <;> omega)
theorem c_Mod_windX {w : Int} (h0 : 0 ≤ w) (h1 : w < 8) : Wk xs x_Mod_windX d 0 0 0 [some (vi w)] [] X2 I L (pI (windX w) I L) := by
  refine Wk.iload_n (k := 0) (q := 1) (by decide +kernel) rfl rfl rfl ?_
  refine Wk.if_eq (off := (8)) (t := 9) (q := 4) (by decide +kernel) (by decide) rfl (by first | omega | exact bi_rng _) (fun hc1 => ?_) (fun hc1 => ?_)
  · refine Wk.iconst (n := 0) (q := 10) (by decide +kernel) rfl ?_
    refine Wk.goto (off := (13)) (q := 23) (by decide +kernel) (by decide) ?_
    exact Wk.rI (by decide +kernel) rfl (by unfold windX; split <;> (try split) <;> omega)
  · refine Wk.iload_n (k := 0) (q := 5) (by decide +kernel) rfl rfl rfl ?_
    refine Wk.iconst (n := 4) (q := 6) (by decide +kernel) rfl ?_
    refine Wk.icmp_ne (off := (7)) (t := 13) (q := 9) (by decide +kernel) (by decide) rfl (by first | omega | exact bi_rng _) (by first | omega | exact bi_rng _) (fun hc6 => ?_) (fun hc6 => ?_)
    · refine Wk.iload_n (k := 0) (q := 14) (by decide +kernel) rfl rfl rfl ?_
      refine Wk.iconst (n := 4) (q := 15) (by decide +kernel) rfl ?_
      refine Wk.icmp_ge (off := (7)) (t := 22) (q := 18) (by decide +kernel) (by decide) rfl (by first | omega | exact bi_rng _) (by first | omega | exact bi_rng _) (fun hc15 => ?_) (fun hc15 => ?_)
      · refine Wk.iconst (n := (-1)) (q := 23) (by decide +kernel) rfl ?_
        exact Wk.rI (by decide +kernel) rfl (by unfold windX; split <;> (try split) <;> omega)
      · refine Wk.iconst (n := 1) (q := 19) (by decide +kernel) rfl ?_
        refine Wk.goto (off := (4)) (q := 23) (by decide +kernel) (by decide) ?_
        exact Wk.rI (by decide +kernel) rfl (by unfold windX; split <;> (try split) <;> omega)
    · refine Wk.iconst (n := 0) (q := 10) (by decide +kernel) rfl ?_
      refine Wk.goto (off := (13)) (q := 23) (by decide +kernel) (by decide) ?_
      exact Wk.rI (by decide +kernel) rfl (by unfold windX; split <;> (try split) <;> omega)
theorem c_Mod_windY {w : Int} (h0 : 0 ≤ w) (h1 : w < 8) : Wk xs x_Mod_windY d 0 0 0 [some (vi w)] [] X2 I L (pI (windY w) I L) := by
  refine Wk.iload_n (k := 0) (q := 1) (by decide +kernel) rfl rfl rfl ?_
  refine Wk.iconst (n := 2) (q := 2) (by decide +kernel) rfl ?_
  refine Wk.icmp_eq (off := (9)) (t := 11) (q := 5) (by decide +kernel) (by decide) rfl (by first | omega | exact bi_rng _) (by first | omega | exact bi_rng _) (fun hc2 => ?_) (fun hc2 => ?_)
  · refine Wk.iconst (n := 0) (q := 12) (by decide +kernel) rfl ?_
    refine Wk.goto (off := (19)) (q := 31) (by decide +kernel) (by decide) ?_
    exact Wk.rI (by decide +kernel) rfl (by unfold windY; split <;> (try split) <;> omega)
  · refine Wk.iload_n (k := 0) (q := 6) (by decide +kernel) rfl rfl rfl ?_
    refine Wk.bipush (n := 6) (q := 8) (by decide +kernel) (by decide +kernel) rfl ?_
    refine Wk.icmp_ne (off := (7)) (t := 15) (q := 11) (by decide +kernel) (by decide) rfl (by first | omega | exact bi_rng _) (by first | omega | exact bi_rng _) (fun hc8 => ?_) (fun hc8 => ?_)
    · refine Wk.iload_n (k := 0) (q := 16) (by decide +kernel) rfl rfl rfl ?_
      refine Wk.iconst (n := 2) (q := 17) (by decide +kernel) rfl ?_
      refine Wk.icmp_lt (off := (9)) (t := 26) (q := 20) (by decide +kernel) (by decide) rfl (by first | omega | exact bi_rng _) (by first | omega | exact bi_rng _) (fun hc17 => ?_) (fun hc17 => ?_)
      · refine Wk.iconst (n := 1) (q := 27) (by decide +kernel) rfl ?_
        refine Wk.goto (off := (4)) (q := 31) (by decide +kernel) (by decide) ?_
        exact Wk.rI (by decide +kernel) rfl (by unfold windY; split <;> (try split) <;> omega)
      · refine Wk.iload_n (k := 0) (q := 21) (by decide +kernel) rfl rfl rfl ?_
        refine Wk.bipush (n := 6) (q := 23) (by decide +kernel) (by decide +kernel) rfl ?_
        refine Wk.icmp_le (off := (7)) (t := 30) (q := 26) (by decide +kernel) (by decide) rfl (by first | omega | exact bi_rng _) (by first | omega | exact bi_rng _) (fun hc23 => ?_) (fun hc23 => ?_)
        · refine Wk.iconst (n := (-1)) (q := 31) (by decide +kernel) rfl ?_
          exact Wk.rI (by decide +kernel) rfl (by unfold windY; split <;> (try split) <;> omega)
        · refine Wk.iconst (n := 1) (q := 27) (by decide +kernel) rfl ?_
          refine Wk.goto (off := (4)) (q := 31) (by decide +kernel) (by decide) ?_
          exact Wk.rI (by decide +kernel) rfl (by unfold windY; split <;> (try split) <;> omega)
    · refine Wk.iconst (n := 0) (q := 12) (by decide +kernel) rfl ?_
      refine Wk.goto (off := (19)) (q := 31) (by decide +kernel) (by decide) ?_
      exact Wk.rI (by decide +kernel) rfl (by unfold windY; split <;> (try split) <;> omega)
theorem c_Mod_left {p c w : Int} (hI : MI0 I) (hp : MP I p) (hc : mC I c) (h0 : 0 ≤ w) (h1 : w < 8) : Wk xs x_Mod_left (d + 1) 0 0 0 [some (vr 148), some (vi p), some (vi c), some (vi w)] [] X2 I L (pI (c % I 149 0 + I 149 (p + 1) * windX w) I L) := by
  obtain ⟨hW, hH, hT, hF, hA, hK, hD⟩ := id hI
  obtain ⟨hp0, hdr, hch, hsd⟩ := id hp
  obtain ⟨hc0, hc1⟩ := id hc
  have h49 := WH49 (W := I 149 0) (H := I 149 1) (by omega) (by omega)
  obtain ⟨hcx, hcy⟩ := mcoord hW.1 hc0 hc1
  refine Wk.iload_n (k := 2) (q := 1) (by decide +kernel) rfl rfl rfl ?_
  refine Wk.aload_n (k := 0) (q := 2) (by decide +kernel) rfl rfl rfl ?_
  refine Wk.getR (r := 149) (q := 5) f_Mod_7 (by decide +kernel) O_148 (by decide) rfl rfl rfl ?_
  refine Wk.iconst (n := 0) (q := 6) (by decide +kernel) rfl ?_
  refine Wk.iaload (q := 7) (by decide +kernel) A_149 (by first | omega | exact bi_rng _) (by first | omega | exact bi_rng _) rfl ?_
  refine Wk.irem (q := 8) (by decide +kernel) (by first | omega | exact bi_rng _) (by first | omega | exact bi_rng _) rfl ?_
  refine Wk.aload_n (k := 0) (q := 9) (by decide +kernel) rfl rfl rfl ?_
  refine Wk.getR (r := 149) (q := 12) f_Mod_7 (by decide +kernel) O_148 (by decide) rfl rfl rfl ?_
  refine Wk.iload_n (k := 1) (q := 13) (by decide +kernel) rfl rfl rfl ?_
  refine Wk.iconst (n := 1) (q := 14) (by decide +kernel) rfl ?_
  refine Wk.iadd (q := 15) (by decide +kernel) rfl ?_
  refine Wk.iaload (q := 16) (by decide +kernel) A_149 (by first | omega | exact bi_rng _) (by first | omega | exact bi_rng _) rfl ?_
  refine Wk.iload_n (k := 3) (q := 17) (by decide +kernel) rfl rfl rfl ?_
  refine Wk.cSi (q := 20) l_Mod_44 m_Mod_windX (by decide +kernel) (fun _ h => h) (Nat.le_of_ble_eq_true rfl) (Nat.le_of_ble_eq_true rfl) rfl (c_Mod_windX h0 h1) rfl ?_
  refine Wk.imul (q := 21) (by decide +kernel) rfl ?_
  refine Wk.iadd (q := 22) (by decide +kernel) rfl ?_
  exact Wk.rI (by decide +kernel) rfl (rfl)
theorem c_Mod_top {p c w : Int} (hI : MI0 I) (hp : MP I p) (hc : mC I c) (h0 : 0 ≤ w) (h1 : w < 8) : Wk xs x_Mod_top (d + 1) 0 0 0 [some (vr 148), some (vi p), some (vi c), some (vi w)] [] X2 I L (pI (c / I 149 0 + I 149 (p + 1) * windY w) I L) := by
  obtain ⟨hW, hH, hT, hF, hA, hK, hD⟩ := id hI
  obtain ⟨hp0, hdr, hch, hsd⟩ := id hp
  obtain ⟨hc0, hc1⟩ := id hc
  have h49 := WH49 (W := I 149 0) (H := I 149 1) (by omega) (by omega)
  obtain ⟨hcx, hcy⟩ := mcoord hW.1 hc0 hc1
  refine Wk.iload_n (k := 2) (q := 1) (by decide +kernel) rfl rfl rfl ?_
  refine Wk.aload_n (k := 0) (q := 2) (by decide +kernel) rfl rfl rfl ?_
  refine Wk.getR (r := 149) (q := 5) f_Mod_7 (by decide +kernel) O_148 (by decide) rfl rfl rfl ?_
  refine Wk.iconst (n := 0) (q := 6) (by decide +kernel) rfl ?_
  refine Wk.iaload (q := 7) (by decide +kernel) A_149 (by first | omega | exact bi_rng _) (by first | omega | exact bi_rng _) rfl ?_
  refine Wk.idiv (q := 8) (by decide +kernel) (by first | omega | exact bi_rng _) (by first | omega | exact bi_rng _) rfl ?_
  refine Wk.aload_n (k := 0) (q := 9) (by decide +kernel) rfl rfl rfl ?_
  refine Wk.getR (r := 149) (q := 12) f_Mod_7 (by decide +kernel) O_148 (by decide) rfl rfl rfl ?_
  refine Wk.iload_n (k := 1) (q := 13) (by decide +kernel) rfl rfl rfl ?_
  refine Wk.iconst (n := 1) (q := 14) (by decide +kernel) rfl ?_
  refine Wk.iadd (q := 15) (by decide +kernel) rfl ?_
  refine Wk.iaload (q := 16) (by decide +kernel) A_149 (by first | omega | exact bi_rng _) (by first | omega | exact bi_rng _) rfl ?_
  refine Wk.iload_n (k := 3) (q := 17) (by decide +kernel) rfl rfl rfl ?_
  refine Wk.cSi (q := 20) l_Mod_48 m_Mod_windY (by decide +kernel) (fun _ h => h) (Nat.le_of_ble_eq_true rfl) (Nat.le_of_ble_eq_true rfl) rfl (c_Mod_windY h0 h1) rfl ?_
  refine Wk.imul (q := 21) (by decide +kernel) rfl ?_
  refine Wk.iadd (q := 22) (by decide +kernel) rfl ?_
  exact Wk.rI (by decide +kernel) rfl (rfl)
theorem c_Mod_liesOn {p c w x y : Int} (hI : MI0 I) (hp : MP I p) (hc : mC I c) (h0 : 0 ≤ w) (h1 : w < 8) (hx : 0 ≤ x ∧ x ≤ 6) (hy : 0 ≤ y ∧ y ≤ 6) : Wk xs x_Mod_liesOn (d + 2) 0 0 0 [some (vr 148), some (vi p), some (vi c), some (vi w), some (vi x), some (vi y), none, none] [] X2 I L (pI (bi (mLO I p c w x y)) I L) := by
  obtain ⟨hW, hH, hT, hF, hA, hK, hD⟩ := id hI
  obtain ⟨hp0, hdr, hch, hsd⟩ := id hp
  obtain ⟨hc0, hc1⟩ := id hc
  have h49 := WH49 (W := I 149 0) (H := I 149 1) (by omega) (by omega)
  obtain ⟨hcx, hcy⟩ := mcoord hW.1 hc0 hc1
  have m1 := mulB hch (windX_r w)
  have m2 := mulB hch (windY_r w)
  refine Wk.iload (i := 4) (q := 2) (by decide +kernel) rfl rfl ?_
  refine Wk.aload_n (k := 0) (q := 3) (by decide +kernel) rfl rfl rfl ?_
  refine Wk.iload_n (k := 1) (q := 4) (by decide +kernel) rfl rfl rfl ?_
  refine Wk.iload_n (k := 2) (q := 5) (by decide +kernel) rfl rfl rfl ?_
  refine Wk.iload_n (k := 3) (q := 6) (by decide +kernel) rfl rfl rfl ?_
  refine Wk.cVi (q := 9) l_Mod_51 m_Mod_left (by decide +kernel) (fun _ h => h) O_148 rfl (Nat.le_of_ble_eq_true rfl) (Nat.le_of_ble_eq_true rfl) rfl (c_Mod_left hI hp hc (by omega) (by omega)) rfl ?_
  refine Wk.isub (q := 10) (by decide +kernel) rfl ?_
  refine Wk.istore (i := 6) (q := 12) (by decide +kernel) (by decide) rfl (fun _ h => h) rfl ?_
  refine Wk.iload (i := 5) (q := 14) (by decide +kernel) rfl rfl ?_
  refine Wk.aload_n (k := 0) (q := 15) (by decide +kernel) rfl rfl rfl ?_
  refine Wk.iload_n (k := 1) (q := 16) (by decide +kernel) rfl rfl rfl ?_
  refine Wk.iload_n (k := 2) (q := 17) (by decide +kernel) rfl rfl rfl ?_
  refine Wk.iload_n (k := 3) (q := 18) (by decide +kernel) rfl rfl rfl ?_
  refine Wk.cVi (q := 21) l_Mod_55 m_Mod_top (by decide +kernel) (fun _ h => h) O_148 rfl (Nat.le_of_ble_eq_true rfl) (Nat.le_of_ble_eq_true rfl) rfl (c_Mod_top hI hp hc (by omega) (by omega)) rfl ?_
  refine Wk.isub (q := 22) (by decide +kernel) rfl ?_
  refine Wk.istore (i := 7) (q := 24) (by decide +kernel) (by decide) rfl (fun _ h => h) rfl ?_
  refine Wk.iload (i := 6) (q := 26) (by decide +kernel) rfl rfl ?_
  refine Wk.iconst (n := 0) (q := 27) (by decide +kernel) rfl ?_
  refine Wk.aload_n (k := 0) (q := 28) (by decide +kernel) rfl rfl rfl ?_
  refine Wk.getR (r := 149) (q := 31) f_Mod_7 (by decide +kernel) O_148 (by decide) rfl rfl rfl ?_
  refine Wk.iload_n (k := 1) (q := 32) (by decide +kernel) rfl rfl rfl ?_
  refine Wk.iconst (n := 2) (q := 33) (by decide +kernel) rfl ?_
  refine Wk.iadd (q := 34) (by decide +kernel) rfl ?_
  refine Wk.iaload (q := 35) (by decide +kernel) A_149 (by first | omega | exact bi_rng _) (by first | omega | exact bi_rng _) rfl ?_
  refine Wk.iconst (n := 1) (q := 36) (by decide +kernel) rfl ?_
  refine Wk.isub (q := 37) (by decide +kernel) rfl ?_
  refine Wk.cSi (q := 40) l_Mod_36 m_Mod_in (by decide +kernel) (fun _ h => h) (Nat.le_of_ble_eq_true rfl) (Nat.le_of_ble_eq_true rfl) rfl (c_Mod_in (by omega) (by omega) (by omega)) rfl ?_
  refine Wk.ifB_eq (off := (26)) (t := 66) (q := 43) (by decide +kernel) (by decide) rfl (fun hc40 => ?_) (fun hc40 => ?_)
  · refine Wk.iconst (n := 0) (q := 67) (by decide +kernel) rfl ?_
    exact Wk.rZ (by decide +kernel) rfl (by first | omega | decide | exact bi_01 _) (by first | rw [bi_t (by unfold mLO LO; omega)] | rw [bi_f (by unfold mLO LO; omega)])
  · refine Wk.iload (i := 7) (q := 45) (by decide +kernel) rfl rfl ?_
    refine Wk.iconst (n := 0) (q := 46) (by decide +kernel) rfl ?_
    refine Wk.aload_n (k := 0) (q := 47) (by decide +kernel) rfl rfl rfl ?_
    refine Wk.getR (r := 149) (q := 50) f_Mod_7 (by decide +kernel) O_148 (by decide) rfl rfl rfl ?_
    refine Wk.iload_n (k := 1) (q := 51) (by decide +kernel) rfl rfl rfl ?_
    refine Wk.iconst (n := 2) (q := 52) (by decide +kernel) rfl ?_
    refine Wk.iadd (q := 53) (by decide +kernel) rfl ?_
    refine Wk.iaload (q := 54) (by decide +kernel) A_149 (by first | omega | exact bi_rng _) (by first | omega | exact bi_rng _) rfl ?_
    refine Wk.iconst (n := 1) (q := 55) (by decide +kernel) rfl ?_
    refine Wk.isub (q := 56) (by decide +kernel) rfl ?_
    refine Wk.cSi (q := 59) l_Mod_36 m_Mod_in (by decide +kernel) (fun _ h => h) (Nat.le_of_ble_eq_true rfl) (Nat.le_of_ble_eq_true rfl) rfl (c_Mod_in (by omega) (by omega) (by omega)) rfl ?_
    refine Wk.ifB_eq (off := (7)) (t := 66) (q := 62) (by decide +kernel) (by decide) rfl (fun hc59 => ?_) (fun hc59 => ?_)
    · refine Wk.iconst (n := 0) (q := 67) (by decide +kernel) rfl ?_
      exact Wk.rZ (by decide +kernel) rfl (by first | omega | decide | exact bi_01 _) (by first | rw [bi_t (by unfold mLO LO; omega)] | rw [bi_f (by unfold mLO LO; omega)])
    · refine Wk.iconst (n := 1) (q := 63) (by decide +kernel) rfl ?_
      refine Wk.goto (off := (4)) (q := 67) (by decide +kernel) (by decide) ?_
      exact Wk.rZ (by decide +kernel) rfl (by first | omega | decide | exact bi_01 _) (by first | rw [bi_t (by unfold mLO LO; omega)] | rw [bi_f (by unfold mLO LO; omega)])
theorem c_Mod_sweeps {p c x y : Int} (hI : MI0 I) (hp : MP I p) (hc : mC I c) (hx : 0 ≤ x ∧ x ≤ 6) (hy : 0 ≤ y ∧ y ≤ 6) : Wk xs x_Mod_sweeps (d + 3) 0 0 0 [some (vr 148), some (vi p), some (vi c), some (vi x), some (vi y), none, none] [] X2 I L (pI (bi (mSW I p c x y)) I L) := by
  obtain ⟨hW, hH, hT, hF, hA, hK, hD⟩ := id hI
  obtain ⟨hp0, hdr, hch, hsd⟩ := id hp
  obtain ⟨hc0, hc1⟩ := id hc
  have h49 := WH49 (W := I 149 0) (H := I 149 1) (by omega) (by omega)
  obtain ⟨hcx, hcy⟩ := mcoord hW.1 hc0 hc1
  have key : Wk xs x_Mod_sweeps (d + 3) 0 0 6 [some (vr 148), some (vi p), some (vi c), some (vi x), some (vi y), some (vi (bi (∃ w, 0 ≤ w ∧ w < 0 ∧ bt (I 149 3) w = true ∧ mLO I p c w x y))), some (vi 0)] [] X2 I L (pI (bi (mSW I p c x y)) I L) := by
    refine loopI (fun k => Wk xs x_Mod_sweeps (d + 3) 0 0 6 [some (vr 148), some (vi p), some (vi c), some (vi x), some (vi y), some (vi (bi (∃ w, 0 ≤ w ∧ w < k ∧ bt (I 149 3) w = true ∧ mLO I p c w x y))), some (vi k)] [] X2 I L (pI (bi (mSW I p c x y)) I L)) 8 0 (by omega) ?_ ?_
    · refine Wk.iload (i := 6) (q := 8) (by decide +kernel) rfl rfl ?_
      refine Wk.bipush (n := 8) (q := 10) (by decide +kernel) (by decide +kernel) rfl ?_
      refine Wk.icmp_ge (off := (49)) (t := 59) (q := 13) (by decide +kernel) (by decide) rfl (by first | omega | exact bi_rng _) (by first | omega | exact bi_rng _) (fun hc10 => ?_) (fun hc10 => ?_)
      · refine Wk.iload (i := 5) (q := 61) (by decide +kernel) rfl rfl ?_
        exact Wk.rZ (by decide +kernel) rfl (by first | omega | decide | exact bi_01 _) (rfl)
      · omega
    · intro k k0 k1 ih
      refine Wk.iload (i := 6) (q := 8) (by decide +kernel) rfl rfl ?_
      refine Wk.bipush (n := 8) (q := 10) (by decide +kernel) (by decide +kernel) rfl ?_
      refine Wk.icmp_ge (off := (49)) (t := 59) (q := 13) (by decide +kernel) (by decide) rfl (by first | omega | exact bi_rng _) (by first | omega | exact bi_rng _) (fun hc10 => ?_) (fun hc10 => ?_)
      · omega
      · refine Wk.iload (i := 5) (q := 15) (by decide +kernel) rfl rfl ?_
        refine Wk.ifB_ne (off := (31)) (t := 46) (q := 18) (by decide +kernel) (by decide) rfl (fun hc15 => ?_) (fun hc15 => ?_)
        · refine Wk.iconst (n := 1) (q := 47) (by decide +kernel) rfl ?_
          refine Wk.goto (off := (4)) (q := 51) (by decide +kernel) (by decide) ?_
          refine Wk.istore (i := 5) (q := 53) (by decide +kernel) (by decide) rfl (fun _ h => h) rfl ?_
          refine Wk.iinc (i := 6) (n := 1) (q := 56) (by decide +kernel) rfl (by decide) rfl (fun _ h => h) rfl ?_
          refine Wk.goto (off := (-50)) (q := 6) (by decide +kernel) (by decide) ?_
          first
            | (rw [bi_t (by obtain ⟨w, z0, z1, z2⟩ := hc15; exact ⟨w, z0, by omega, z2⟩)] at ih
               exact ih)
            | (rw [bi_t ⟨k, k0, by omega, hc29, hc43⟩] at ih
               exact ih)
            | (rw [bi_f (fun ⟨w, z0, z1, z2, z3⟩ => by
                rcases Classical.em (w = k) with e | e
                · subst e
                  first | exact hc29 z2 | exact hc43 z3
                · exact hc15 ⟨w, z0, by omega, z2, z3⟩)] at ih
               exact ih)
        · refine Wk.aload_n (k := 0) (q := 19) (by decide +kernel) rfl rfl rfl ?_
          refine Wk.getR (r := 149) (q := 22) f_Mod_7 (by decide +kernel) O_148 (by decide) rfl rfl rfl ?_
          refine Wk.iconst (n := 3) (q := 23) (by decide +kernel) rfl ?_
          refine Wk.iaload (q := 24) (by decide +kernel) A_149 (by first | omega | exact bi_rng _) (by first | omega | exact bi_rng _) rfl ?_
          refine Wk.iload (i := 6) (q := 26) (by decide +kernel) rfl rfl ?_
          refine Wk.cSi (q := 29) l_Mod_58 m_Mod_has (by decide +kernel) (fun _ h => h) (Nat.le_of_ble_eq_true rfl) (Nat.le_of_ble_eq_true rfl) rfl (c_Mod_has (by omega) (by omega) (by omega) (by omega)) rfl ?_
          refine Wk.ifB_eq (off := (21)) (t := 50) (q := 32) (by decide +kernel) (by decide) rfl (fun hc29 => ?_) (fun hc29 => ?_)
          · refine Wk.iconst (n := 0) (q := 51) (by decide +kernel) rfl ?_
            refine Wk.istore (i := 5) (q := 53) (by decide +kernel) (by decide) rfl (fun _ h => h) rfl ?_
            refine Wk.iinc (i := 6) (n := 1) (q := 56) (by decide +kernel) rfl (by decide) rfl (fun _ h => h) rfl ?_
            refine Wk.goto (off := (-50)) (q := 6) (by decide +kernel) (by decide) ?_
            first
              | (rw [bi_t (by obtain ⟨w, z0, z1, z2⟩ := hc15; exact ⟨w, z0, by omega, z2⟩)] at ih
                 exact ih)
              | (rw [bi_t ⟨k, k0, by omega, hc29, hc43⟩] at ih
                 exact ih)
              | (rw [bi_f (fun ⟨w, z0, z1, z2, z3⟩ => by
                  rcases Classical.em (w = k) with e | e
                  · subst e
                    first | exact hc29 z2 | exact hc43 z3
                  · exact hc15 ⟨w, z0, by omega, z2, z3⟩)] at ih
                 exact ih)
          · refine Wk.aload_n (k := 0) (q := 33) (by decide +kernel) rfl rfl rfl ?_
            refine Wk.iload_n (k := 1) (q := 34) (by decide +kernel) rfl rfl rfl ?_
            refine Wk.iload_n (k := 2) (q := 35) (by decide +kernel) rfl rfl rfl ?_
            refine Wk.iload (i := 6) (q := 37) (by decide +kernel) rfl rfl ?_
            refine Wk.iload_n (k := 3) (q := 38) (by decide +kernel) rfl rfl rfl ?_
            refine Wk.iload (i := 4) (q := 40) (by decide +kernel) rfl rfl ?_
            refine Wk.cVi (q := 43) l_Mod_61 m_Mod_liesOn (by decide +kernel) (fun _ h => h) O_148 rfl (Nat.le_of_ble_eq_true rfl) (Nat.le_of_ble_eq_true rfl) rfl (c_Mod_liesOn hI hp hc k0 k1 hx hy) rfl ?_
            refine Wk.ifB_eq (off := (7)) (t := 50) (q := 46) (by decide +kernel) (by decide) rfl (fun hc43 => ?_) (fun hc43 => ?_)
            · refine Wk.iconst (n := 0) (q := 51) (by decide +kernel) rfl ?_
              refine Wk.istore (i := 5) (q := 53) (by decide +kernel) (by decide) rfl (fun _ h => h) rfl ?_
              refine Wk.iinc (i := 6) (n := 1) (q := 56) (by decide +kernel) rfl (by decide) rfl (fun _ h => h) rfl ?_
              refine Wk.goto (off := (-50)) (q := 6) (by decide +kernel) (by decide) ?_
              first
                | (rw [bi_t (by obtain ⟨w, z0, z1, z2⟩ := hc15; exact ⟨w, z0, by omega, z2⟩)] at ih
                   exact ih)
                | (rw [bi_t ⟨k, k0, by omega, hc29, hc43⟩] at ih
                   exact ih)
                | (rw [bi_f (fun ⟨w, z0, z1, z2, z3⟩ => by
                    rcases Classical.em (w = k) with e | e
                    · subst e
                      first | exact hc29 z2 | exact hc43 z3
                    · exact hc15 ⟨w, z0, by omega, z2, z3⟩)] at ih
                   exact ih)
            · refine Wk.iconst (n := 1) (q := 47) (by decide +kernel) rfl ?_
              refine Wk.goto (off := (4)) (q := 51) (by decide +kernel) (by decide) ?_
              refine Wk.istore (i := 5) (q := 53) (by decide +kernel) (by decide) rfl (fun _ h => h) rfl ?_
              refine Wk.iinc (i := 6) (n := 1) (q := 56) (by decide +kernel) rfl (by decide) rfl (fun _ h => h) rfl ?_
              refine Wk.goto (off := (-50)) (q := 6) (by decide +kernel) (by decide) ?_
              first
                | (rw [bi_t (by obtain ⟨w, z0, z1, z2⟩ := hc15; exact ⟨w, z0, by omega, z2⟩)] at ih
                   exact ih)
                | (rw [bi_t ⟨k, k0, by omega, hc29, hc43⟩] at ih
                   exact ih)
                | (rw [bi_f (fun ⟨w, z0, z1, z2, z3⟩ => by
                    rcases Classical.em (w = k) with e | e
                    · subst e
                      first | exact hc29 z2 | exact hc43 z3
                    · exact hc15 ⟨w, z0, by omega, z2, z3⟩)] at ih
                   exact ih)
  refine Wk.iconst (n := 0) (q := 1) (by decide +kernel) rfl ?_
  refine Wk.istore (i := 5) (q := 3) (by decide +kernel) (by decide) rfl (fun _ h => h) rfl ?_
  refine Wk.iconst (n := 0) (q := 4) (by decide +kernel) rfl ?_
  refine Wk.istore (i := 6) (q := 6) (by decide +kernel) (by decide) rfl (fun _ h => h) rfl ?_
  rw [bi_f (fun ⟨w, z0, z1, _⟩ => by omega)] at key
  exact key
end MOA
end
section
/-! THE REFERENCE: the least water, clashes, danger, threats, free places -/
theorem sq4 {s : Int} (h : 1 ≤ s ∧ s ≤ 2) : s * s = 1 ∧ s = 1 ∨ s * s = 4 ∧ s = 2 := by
  have h2 : s = 1 ∨ s = 2 := by omega
  rcases h2 with rfl | rfl <;> omega
theorem sq_mod {s k : Int} (h : 1 ≤ s ∧ s ≤ 2) (h0 : 0 ≤ k) (h1 : k < s * s) : (0 ≤ k % s ∧ k % s < s) ∧ 0 ≤ k / s ∧ k / s < s := by
  have h2 : s = 1 ∨ s = 2 := by omega
  rcases h2 with rfl | rfl <;> omega
theorem sq_at {s u v : Int} (h : 1 ≤ s ∧ s ≤ 2) (hu : 0 ≤ u ∧ u < s) (hv : 0 ≤ v ∧ v < s) : ∃ k, (0 ≤ k ∧ k < s * s) ∧ k % s = u ∧ k / s = v := by
  have h2 : s = 1 ∨ s = 2 := by omega
  rcases h2 with rfl | rfl
  · exact ⟨0, by omega, by omega, by omega⟩
  · exact ⟨v * 2 + u, by omega, by omega, by omega⟩
section MOB
variable {xs : RO} {d : Nat} {I : IM} {L : LM}

theorem c_Mod_leastWater {p c t : Int} (hI : MI0 I) (hp : MP I p) (hc : mC I c) (ht : t = 0 ∨ t = 1) : Wk xs x_Mod_leastWater (d + 3) 0 0  0 [some (vr 148), some (vi p), some (vi c), some (vi t), none, none, none, none, none, none] [] X2 I L (p2 fun v I' L' => (∃ z, v = some (vi z) ∧ MinOf 100 (fun v => ∃ u cx cy, (0 ≤ u ∧ u < 8) ∧ bt (I 149 3) u = true ∧ mLO I p c u cx cy ∧ v = mval I t cx cy) z ∧ -1 ≤ z ∧ z ≤ 100) ∧ I' = I ∧ L' = L) := by
  obtain ⟨hW, hH, hT, hF, hA, hK, hD⟩ := id hI
  obtain ⟨hp0, hdr, hch, hsd⟩ := id hp
  obtain ⟨hc0, hc1⟩ := id hc
  have h49 := WH49 (W := I 149 0) (H := I 149 1) (by omega) (by omega)
  obtain ⟨hcx, hcy⟩ := mcoord hW.1 hc0 hc1
  have hsq := sq4 hsd
  have key : Wk xs x_Mod_leastWater (d + 3) 0 0  7 [some (vr 148), some (vi p), some (vi c), some (vi t), some (vi 100), some (vi 0), none, none, none, none] [] X2 I L (p2 fun v I' L' => (∃ z, v = some (vi z) ∧ MinOf 100 (fun v => ∃ u cx cy, (0 ≤ u ∧ u < 8) ∧ bt (I 149 3) u = true ∧ mLO I p c u cx cy ∧ v = mval I t cx cy) z ∧ -1 ≤ z ∧ z ≤ 100) ∧ I' = I ∧ L' = L) := by
    refine loopS (σ := Int × Option AV × Option AV × Option AV × Option AV) (fun w s => Wk xs x_Mod_leastWater (d + 3) 0 0  7 [some (vr 148), some (vi p), some (vi c), some (vi t), some (vi s.1), some (vi w), s.2.1, s.2.2.1, s.2.2.2.1, s.2.2.2.2] [] X2 I L (p2 fun v I' L' => (∃ z, v = some (vi z) ∧ MinOf 100 (fun v => ∃ u cx cy, (0 ≤ u ∧ u < 8) ∧ bt (I 149 3) u = true ∧ mLO I p c u cx cy ∧ v = mval I t cx cy) z ∧ -1 ≤ z ∧ z ≤ 100) ∧ I' = I ∧ L' = L)) (fun w s => MinOf 100 (fun v => ∃ u cx cy, (0 ≤ u ∧ u < w) ∧ bt (I 149 3) u = true ∧ mLO I p c u cx cy ∧ v = mval I t cx cy) s.1 ∧ -1 ≤ s.1 ∧ s.1 ≤ 100) 8 0 (100, none, none, none, none) (by omega) ⟨MinOf.none (fun v hv => by obtain ⟨w, cx, cy, q1, q2⟩ := hv; omega), by omega, by omega⟩ ?_ ?_
    · intro s hJ
      obtain ⟨m, o6, o7, o8, o9⟩ := s
      obtain ⟨hJ, hm0, hm1⟩ := hJ
      simp only at hJ hm0 hm1 ⊢
      refine Wk.iload (i := 5) (q := 9) (by decide +kernel) rfl rfl ?_
      refine Wk.bipush (n := 8) (q := 11) (by decide +kernel) (by decide +kernel) rfl ?_
      refine Wk.icmp_ge (off := (143)) (t := 154) (q := 14) (by decide +kernel) (by decide) rfl (by first | omega | exact bi_rng _) (by first | omega | exact bi_rng _) (fun hc11 => ?_) (fun hc11 => ?_)
      · refine Wk.iload (i := 4) (q := 156) (by decide +kernel) rfl rfl ?_
        exact Wk.riP (by decide +kernel) rfl (⟨⟨m, rfl, hJ, hm0, hm1⟩, rfl, rfl⟩)
      · omega
    · intro w s w0 w1 hJ ih
      obtain ⟨m, o6, o7, o8, o9⟩ := s
      obtain ⟨hJ, hm0, hm1⟩ := hJ
      simp only at hJ hm0 hm1 ⊢
      have m1 := mulB hch (windX_r w)
      have m2 := mulB hch (windY_r w)
      refine Wk.iload (i := 5) (q := 9) (by decide +kernel) rfl rfl ?_
      refine Wk.bipush (n := 8) (q := 11) (by decide +kernel) (by decide +kernel) rfl ?_
      refine Wk.icmp_ge (off := (143)) (t := 154) (q := 14) (by decide +kernel) (by decide) rfl (by first | omega | exact bi_rng _) (by first | omega | exact bi_rng _) (fun hc11 => ?_) (fun hc11 => ?_)
      · omega
      · have key2 : ∀ o7 o8 o9, Wk xs x_Mod_leastWater (d + 3) 0 0  17 [some (vr 148), some (vi p), some (vi c), some (vi t), some (vi m), some (vi w), some (vi 0), o7, o8, o9] [] X2 I L (p2 fun v I' L' => (∃ z, v = some (vi z) ∧ MinOf 100 (fun v => ∃ u cx cy, (0 ≤ u ∧ u < 8) ∧ bt (I 149 3) u = true ∧ mLO I p c u cx cy ∧ v = mval I t cx cy) z ∧ -1 ≤ z ∧ z ≤ 100) ∧ I' = I ∧ L' = L) := by
          intro o7 o8 o9
          refine loopS (σ := Int × Option AV × Option AV × Option AV) (fun k s => Wk xs x_Mod_leastWater (d + 3) 0 0  17 [some (vr 148), some (vi p), some (vi c), some (vi t), some (vi s.1), some (vi w), some (vi k), s.2.1, s.2.2.1, s.2.2.2] [] X2 I L (p2 fun v I' L' => (∃ z, v = some (vi z) ∧ MinOf 100 (fun v => ∃ u cx cy, (0 ≤ u ∧ u < 8) ∧ bt (I 149 3) u = true ∧ mLO I p c u cx cy ∧ v = mval I t cx cy) z ∧ -1 ≤ z ∧ z ≤ 100) ∧ I' = I ∧ L' = L)) (fun k s => (0 < k → bt (I 149 3) w = true) ∧ MinOf 100 (fun v => ((fun v => ∃ u cx cy, (0 ≤ u ∧ u < w) ∧ bt (I 149 3) u = true ∧ mLO I p c u cx cy ∧ v = mval I t cx cy)) v ∨ ∃ j, (0 ≤ j ∧ j < k) ∧ v = mval I t ((c % I 149 0 + I 149 (p + 1) * windX w) + j % I 149 (p + 2)) ((c / I 149 0 + I 149 (p + 1) * windY w) + j / I 149 (p + 2))) s.1 ∧ -1 ≤ s.1 ∧ s.1 ≤ 100) (I 149 (p + 2) * I 149 (p + 2)) 0 (m, o7, o8, o9) (by omega) ⟨fun z => by omega, hJ.cong (fun v => ⟨fun q => Or.inl q, fun q => q.elim id (fun ⟨j, q1, q2⟩ => by omega)⟩), hm0, hm1⟩ ?_ ?_
          · intro s hM
            obtain ⟨m, o7, o8, o9⟩ := s
            obtain ⟨hb, hM, hm0, hm1⟩ := hM
            simp only at hM hm0 hm1 ⊢
            have hb := hb (by omega)
            refine Wk.iload (i := 6) (q := 19) (by decide +kernel) rfl rfl ?_
            refine Wk.aload_n (k := 0) (q := 20) (by decide +kernel) rfl rfl rfl ?_
            refine Wk.getR (r := 149) (q := 23) f_Mod_7 (by decide +kernel) O_148 (by decide) rfl rfl rfl ?_
            refine Wk.iload_n (k := 1) (q := 24) (by decide +kernel) rfl rfl rfl ?_
            refine Wk.iconst (n := 2) (q := 25) (by decide +kernel) rfl ?_
            refine Wk.iadd (q := 26) (by decide +kernel) rfl ?_
            refine Wk.iaload (q := 27) (by decide +kernel) A_149 (by first | omega | exact bi_rng _) (by first | omega | exact bi_rng _) rfl ?_
            refine Wk.aload_n (k := 0) (q := 28) (by decide +kernel) rfl rfl rfl ?_
            refine Wk.getR (r := 149) (q := 31) f_Mod_7 (by decide +kernel) O_148 (by decide) rfl rfl rfl ?_
            refine Wk.iload_n (k := 1) (q := 32) (by decide +kernel) rfl rfl rfl ?_
            refine Wk.iconst (n := 2) (q := 33) (by decide +kernel) rfl ?_
            refine Wk.iadd (q := 34) (by decide +kernel) rfl ?_
            refine Wk.iaload (q := 35) (by decide +kernel) A_149 (by first | omega | exact bi_rng _) (by first | omega | exact bi_rng _) rfl ?_
            refine Wk.imul (q := 36) (by decide +kernel) rfl ?_
            refine Wk.icmp_ge (off := (112)) (t := 148) (q := 39) (by decide +kernel) (by decide) rfl (by first | omega | exact bi_rng _) (by first | omega | exact bi_rng _) (fun hc36 => ?_) (fun hc36 => ?_)
            · refine Wk.iinc (i := 5) (n := 1) (q := 151) (by decide +kernel) rfl (by decide) rfl (fun _ h => h) rfl ?_
              refine Wk.goto (off := (-144)) (q := 7) (by decide +kernel) (by decide) ?_
              refine ih (m, _, _, _, _) ⟨hM.cong (fun v => ⟨fun q => q.elim (fun ⟨u, cx, cy, q1, q2⟩ => ⟨u, cx, cy, by omega, q2⟩) (fun ⟨j, q1, q2⟩ => ?_), fun ⟨u, cx, cy, q1, q2, q3, q4⟩ => ?_⟩), hm0, hm1⟩
              · have hj := sq_mod hsd q1.1 q1.2
                exact ⟨w, _, _, by omega, hb, by unfold mLO LO; omega, q2⟩
              · rcases Classical.em (u = w) with e | e
                · subst e
                  obtain ⟨j, j0, j1, j2⟩ := sq_at (u := cx - (c % I 149 0 + I 149 (p + 1) * windX u)) (v := cy - (c / I 149 0 + I 149 (p + 1) * windY u)) hsd (by unfold mLO LO at q3; omega) (by unfold mLO LO at q3; omega)
                  refine Or.inr ⟨j, j0, ?_⟩
                  rw [j1, j2, q4]
                  congr 1 <;> omega
                · exact Or.inl ⟨u, cx, cy, by omega, q2, q3, q4⟩
            · omega
          · intro k s k0 k1 hM ih2
            obtain ⟨m, o7, o8, o9⟩ := s
            obtain ⟨hb, hM, hm0, hm1⟩ := hM
            simp only at hM hm0 hm1 ⊢
            have hj := sq_mod hsd k0 k1
            have hv := mval_range hI t ((c % I 149 0 + I 149 (p + 1) * windX w) + k % I 149 (p + 2)) ((c / I 149 0 + I 149 (p + 1) * windY w) + k / I 149 (p + 2))
            refine Wk.iload (i := 6) (q := 19) (by decide +kernel) rfl rfl ?_
            refine Wk.aload_n (k := 0) (q := 20) (by decide +kernel) rfl rfl rfl ?_
            refine Wk.getR (r := 149) (q := 23) f_Mod_7 (by decide +kernel) O_148 (by decide) rfl rfl rfl ?_
            refine Wk.iload_n (k := 1) (q := 24) (by decide +kernel) rfl rfl rfl ?_
            refine Wk.iconst (n := 2) (q := 25) (by decide +kernel) rfl ?_
            refine Wk.iadd (q := 26) (by decide +kernel) rfl ?_
            refine Wk.iaload (q := 27) (by decide +kernel) A_149 (by first | omega | exact bi_rng _) (by first | omega | exact bi_rng _) rfl ?_
            refine Wk.aload_n (k := 0) (q := 28) (by decide +kernel) rfl rfl rfl ?_
            refine Wk.getR (r := 149) (q := 31) f_Mod_7 (by decide +kernel) O_148 (by decide) rfl rfl rfl ?_
            refine Wk.iload_n (k := 1) (q := 32) (by decide +kernel) rfl rfl rfl ?_
            refine Wk.iconst (n := 2) (q := 33) (by decide +kernel) rfl ?_
            refine Wk.iadd (q := 34) (by decide +kernel) rfl ?_
            refine Wk.iaload (q := 35) (by decide +kernel) A_149 (by first | omega | exact bi_rng _) (by first | omega | exact bi_rng _) rfl ?_
            refine Wk.imul (q := 36) (by decide +kernel) rfl ?_
            refine Wk.icmp_ge (off := (112)) (t := 148) (q := 39) (by decide +kernel) (by decide) rfl (by first | omega | exact bi_rng _) (by first | omega | exact bi_rng _) (fun hc36 => ?_) (fun hc36 => ?_)
            · refine Wk.iinc (i := 5) (n := 1) (q := 151) (by decide +kernel) rfl (by decide) rfl (fun _ h => h) rfl ?_
              refine Wk.goto (off := (-144)) (q := 7) (by decide +kernel) (by decide) ?_
              first
                | omega
                | (have k00 : k = 0 := Classical.not_not.mp (fun z => hc50 (hb (by omega)))
                   subst k00
                   refine ih (m, _, _, _, _) ⟨hM.cong (fun v => ⟨fun q => q.elim (fun ⟨u, cx, cy, q1, q2⟩ => ⟨u, cx, cy, by omega, q2⟩) (fun ⟨j, q1, q2⟩ => by omega), fun ⟨u, cx, cy, q1, q2, q3, q4⟩ => ?_⟩), hm0, hm1⟩
                   rcases Classical.em (u = w) with e | e
                   · subst e
                     exact absurd q2 hc50
                   · exact Or.inl ⟨u, cx, cy, by omega, q2, q3, q4⟩)
            · refine Wk.aload_n (k := 0) (q := 40) (by decide +kernel) rfl rfl rfl ?_
              refine Wk.getR (r := 149) (q := 43) f_Mod_7 (by decide +kernel) O_148 (by decide) rfl rfl rfl ?_
              refine Wk.iconst (n := 3) (q := 44) (by decide +kernel) rfl ?_
              refine Wk.iaload (q := 45) (by decide +kernel) A_149 (by first | omega | exact bi_rng _) (by first | omega | exact bi_rng _) rfl ?_
              refine Wk.iload (i := 5) (q := 47) (by decide +kernel) rfl rfl ?_
              refine Wk.cSi (q := 50) l_Mod_58 m_Mod_has (by decide +kernel) (fun _ h => h) (Nat.le_of_ble_eq_true rfl) (Nat.le_of_ble_eq_true rfl) rfl (c_Mod_has (by omega) (by omega) (by omega) (by omega)) rfl ?_
              refine Wk.ifB_eq (off := (98)) (t := 148) (q := 53) (by decide +kernel) (by decide) rfl (fun hc50 => ?_) (fun hc50 => ?_)
              · refine Wk.iinc (i := 5) (n := 1) (q := 151) (by decide +kernel) rfl (by decide) rfl (fun _ h => h) rfl ?_
                refine Wk.goto (off := (-144)) (q := 7) (by decide +kernel) (by decide) ?_
                first
                  | omega
                  | (have k00 : k = 0 := Classical.not_not.mp (fun z => hc50 (hb (by omega)))
                     subst k00
                     refine ih (m, _, _, _, _) ⟨hM.cong (fun v => ⟨fun q => q.elim (fun ⟨u, cx, cy, q1, q2⟩ => ⟨u, cx, cy, by omega, q2⟩) (fun ⟨j, q1, q2⟩ => by omega), fun ⟨u, cx, cy, q1, q2, q3, q4⟩ => ?_⟩), hm0, hm1⟩
                     rcases Classical.em (u = w) with e | e
                     · subst e
                       exact absurd q2 hc50
                     · exact Or.inl ⟨u, cx, cy, by omega, q2, q3, q4⟩)
              · refine Wk.aload_n (k := 0) (q := 54) (by decide +kernel) rfl rfl rfl ?_
                refine Wk.iload_n (k := 1) (q := 55) (by decide +kernel) rfl rfl rfl ?_
                refine Wk.iload_n (k := 2) (q := 56) (by decide +kernel) rfl rfl rfl ?_
                refine Wk.iload (i := 5) (q := 58) (by decide +kernel) rfl rfl ?_
                refine Wk.cVi (q := 61) l_Mod_51 m_Mod_left (by decide +kernel) (fun _ h => h) O_148 rfl (Nat.le_of_ble_eq_true rfl) (Nat.le_of_ble_eq_true rfl) rfl (c_Mod_left hI hp hc (by omega) (by omega)) rfl ?_
                refine Wk.iload (i := 6) (q := 63) (by decide +kernel) rfl rfl ?_
                refine Wk.aload_n (k := 0) (q := 64) (by decide +kernel) rfl rfl rfl ?_
                refine Wk.getR (r := 149) (q := 67) f_Mod_7 (by decide +kernel) O_148 (by decide) rfl rfl rfl ?_
                refine Wk.iload_n (k := 1) (q := 68) (by decide +kernel) rfl rfl rfl ?_
                refine Wk.iconst (n := 2) (q := 69) (by decide +kernel) rfl ?_
                refine Wk.iadd (q := 70) (by decide +kernel) rfl ?_
                refine Wk.iaload (q := 71) (by decide +kernel) A_149 (by first | omega | exact bi_rng _) (by first | omega | exact bi_rng _) rfl ?_
                refine Wk.irem (q := 72) (by decide +kernel) (by first | omega | exact bi_rng _) (by first | omega | exact bi_rng _) rfl ?_
                refine Wk.iadd (q := 73) (by decide +kernel) rfl ?_
                refine Wk.istore (i := 7) (q := 75) (by decide +kernel) (by decide) rfl (fun _ h => h) rfl ?_
                refine Wk.aload_n (k := 0) (q := 76) (by decide +kernel) rfl rfl rfl ?_
                refine Wk.iload_n (k := 1) (q := 77) (by decide +kernel) rfl rfl rfl ?_
                refine Wk.iload_n (k := 2) (q := 78) (by decide +kernel) rfl rfl rfl ?_
                refine Wk.iload (i := 5) (q := 80) (by decide +kernel) rfl rfl ?_
                refine Wk.cVi (q := 83) l_Mod_55 m_Mod_top (by decide +kernel) (fun _ h => h) O_148 rfl (Nat.le_of_ble_eq_true rfl) (Nat.le_of_ble_eq_true rfl) rfl (c_Mod_top hI hp hc (by omega) (by omega)) rfl ?_
                refine Wk.iload (i := 6) (q := 85) (by decide +kernel) rfl rfl ?_
                refine Wk.aload_n (k := 0) (q := 86) (by decide +kernel) rfl rfl rfl ?_
                refine Wk.getR (r := 149) (q := 89) f_Mod_7 (by decide +kernel) O_148 (by decide) rfl rfl rfl ?_
                refine Wk.iload_n (k := 1) (q := 90) (by decide +kernel) rfl rfl rfl ?_
                refine Wk.iconst (n := 2) (q := 91) (by decide +kernel) rfl ?_
                refine Wk.iadd (q := 92) (by decide +kernel) rfl ?_
                refine Wk.iaload (q := 93) (by decide +kernel) A_149 (by first | omega | exact bi_rng _) (by first | omega | exact bi_rng _) rfl ?_
                refine Wk.idiv (q := 94) (by decide +kernel) (by first | omega | exact bi_rng _) (by first | omega | exact bi_rng _) rfl ?_
                refine Wk.iadd (q := 95) (by decide +kernel) rfl ?_
                refine Wk.istore (i := 8) (q := 97) (by decide +kernel) (by decide) rfl (fun _ h => h) rfl ?_
                refine Wk.aload_n (k := 0) (q := 98) (by decide +kernel) rfl rfl rfl ?_
                refine Wk.iload (i := 7) (q := 100) (by decide +kernel) rfl rfl ?_
                refine Wk.iload (i := 8) (q := 102) (by decide +kernel) rfl rfl ?_
                refine Wk.cVi (q := 105) l_Mod_40 m_Mod_isCell (by decide +kernel) (fun _ h => h) O_148 rfl (Nat.le_of_ble_eq_true rfl) (Nat.le_of_ble_eq_true rfl) rfl (c_Mod_isCell (by omega) (by omega) hI) rfl ?_
                refine Wk.ifB_ne (off := (7)) (t := 112) (q := 108) (by decide +kernel) (by decide) rfl (fun hc105 => ?_) (fun hc105 => ?_)
                · have ev := mval_in (I := I) (t := t) (x := (c % I 149 0 + I 149 (p + 1) * windX w) + k % I 149 (p + 2)) (y := (c / I 149 0 + I 149 (p + 1) * windY w) + k / I 149 (p + 2)) (by first | exact Or.inl hc105 | exact Or.inr hc109)
                  have hw := mwat_range hI ((c % I 149 0 + I 149 (p + 1) * windX w) + k % I 149 (p + 2)) ((c / I 149 0 + I 149 (p + 1) * windY w) + k / I 149 (p + 2))
                  refine Wk.aload_n (k := 0) (q := 113) (by decide +kernel) rfl rfl rfl ?_
                  refine Wk.iload (i := 7) (q := 115) (by decide +kernel) rfl rfl ?_
                  refine Wk.iload (i := 8) (q := 117) (by decide +kernel) rfl rfl ?_
                  refine Wk.cVi (q := 120) l_Mod_65 m_Mod_water (by decide +kernel) (fun _ h => h) O_148 rfl (Nat.le_of_ble_eq_true rfl) (Nat.le_of_ble_eq_true rfl) rfl (c_Mod_water (by omega) (by omega) hI) rfl ?_
                  refine Wk.goto (off := (4)) (q := 124) (by decide +kernel) (by decide) ?_
                  refine Wk.istore (i := 9) (q := 126) (by decide +kernel) (by decide) rfl (fun _ h => h) rfl ?_
                  refine Wk.iload (i := 9) (q := 128) (by decide +kernel) rfl rfl ?_
                  refine Wk.iload (i := 4) (q := 130) (by decide +kernel) rfl rfl ?_
                  refine Wk.icmp_ge (off := (8)) (t := 138) (q := 133) (by decide +kernel) (by decide) rfl (by first | omega | exact bi_rng _) (by first | omega | exact bi_rng _) (fun hc130 => ?_) (fun hc130 => ?_)
                  · refine Wk.iload (i := 4) (q := 140) (by decide +kernel) rfl rfl ?_
                    refine Wk.istore (i := 4) (q := 142) (by decide +kernel) (by decide) rfl (fun _ h => h) rfl ?_
                    refine Wk.iinc (i := 6) (n := 1) (q := 145) (by decide +kernel) rfl (by decide) rfl (fun _ h => h) rfl ?_
                    refine Wk.goto (off := (-128)) (q := 17) (by decide +kernel) (by decide) ?_
                    have hadd := hM.add (v := mval I t ((c % I 149 0 + I 149 (p + 1) * windX w) + k % I 149 (p + 2)) ((c / I 149 0 + I 149 (p + 1) * windY w) + k / I 149 (p + 2))) (by omega)
                    refine ih2 (_, _, _, _) ⟨fun _ => hc50, ?_, ?_, ?_⟩
                    · simp only
                      first
                        | (rw [if_neg (by omega)] at hadd
                           refine hadd.cong (fun v => ⟨fun q => q.elim (fun q => q.elim Or.inl (fun ⟨j, q1, q2⟩ => Or.inr ⟨j, by omega, q2⟩)) (fun q => Or.inr ⟨k, by omega, q⟩), fun q => q.elim (fun q => Or.inl (Or.inl q)) (fun ⟨j, q1, q2⟩ => ?_)⟩)
                           rcases Classical.em (j = k) with e | e
                           · exact Or.inr (by rw [← e]; exact q2)
                           · exact Or.inl (Or.inr ⟨j, by omega, q2⟩))
                        | (rw [if_pos (by omega)] at hadd
                           rw [ev] at hadd
                           refine hadd.cong (fun v => ⟨fun q => q.elim (fun q => q.elim Or.inl (fun ⟨j, q1, q2⟩ => Or.inr ⟨j, by omega, q2⟩)) (fun q => Or.inr ⟨k, by omega, by rw [ev]; exact q⟩), fun q => q.elim (fun q => Or.inl (Or.inl q)) (fun ⟨j, q1, q2⟩ => ?_)⟩)
                           rcases Classical.em (j = k) with e | e
                           · exact Or.inr (by rw [← ev, ← e]; exact q2)
                           · exact Or.inl (Or.inr ⟨j, by omega, q2⟩))
                    · first | (simp only; omega) | exact Int.le_trans (by decide) hw.1
                    · first | (simp only; omega) | exact Int.le_trans hw.2 (by decide)
                  · refine Wk.iload (i := 9) (q := 135) (by decide +kernel) rfl rfl ?_
                    refine Wk.goto (off := (5)) (q := 140) (by decide +kernel) (by decide) ?_
                    refine Wk.istore (i := 4) (q := 142) (by decide +kernel) (by decide) rfl (fun _ h => h) rfl ?_
                    refine Wk.iinc (i := 6) (n := 1) (q := 145) (by decide +kernel) rfl (by decide) rfl (fun _ h => h) rfl ?_
                    refine Wk.goto (off := (-128)) (q := 17) (by decide +kernel) (by decide) ?_
                    have hadd := hM.add (v := mval I t ((c % I 149 0 + I 149 (p + 1) * windX w) + k % I 149 (p + 2)) ((c / I 149 0 + I 149 (p + 1) * windY w) + k / I 149 (p + 2))) (by omega)
                    refine ih2 (_, _, _, _) ⟨fun _ => hc50, ?_, ?_, ?_⟩
                    · simp only
                      first
                        | (rw [if_neg (by omega)] at hadd
                           refine hadd.cong (fun v => ⟨fun q => q.elim (fun q => q.elim Or.inl (fun ⟨j, q1, q2⟩ => Or.inr ⟨j, by omega, q2⟩)) (fun q => Or.inr ⟨k, by omega, q⟩), fun q => q.elim (fun q => Or.inl (Or.inl q)) (fun ⟨j, q1, q2⟩ => ?_)⟩)
                           rcases Classical.em (j = k) with e | e
                           · exact Or.inr (by rw [← e]; exact q2)
                           · exact Or.inl (Or.inr ⟨j, by omega, q2⟩))
                        | (rw [if_pos (by omega)] at hadd
                           rw [ev] at hadd
                           refine hadd.cong (fun v => ⟨fun q => q.elim (fun q => q.elim Or.inl (fun ⟨j, q1, q2⟩ => Or.inr ⟨j, by omega, q2⟩)) (fun q => Or.inr ⟨k, by omega, by rw [ev]; exact q⟩), fun q => q.elim (fun q => Or.inl (Or.inl q)) (fun ⟨j, q1, q2⟩ => ?_)⟩)
                           rcases Classical.em (j = k) with e | e
                           · exact Or.inr (by rw [← ev, ← e]; exact q2)
                           · exact Or.inl (Or.inr ⟨j, by omega, q2⟩))
                    · first | (simp only; omega) | exact Int.le_trans (by decide) hw.1
                    · first | (simp only; omega) | exact Int.le_trans hw.2 (by decide)
                · refine Wk.iload_n (k := 3) (q := 109) (by decide +kernel) rfl rfl rfl ?_
                  refine Wk.if_eq (off := (14)) (t := 123) (q := 112) (by decide +kernel) (by decide) rfl (by first | omega | exact bi_rng _) (fun hc109 => ?_) (fun hc109 => ?_)
                  · have ev := mval_out (I := I) (t := t) (x := (c % I 149 0 + I 149 (p + 1) * windX w) + k % I 149 (p + 2)) (y := (c / I 149 0 + I 149 (p + 1) * windY w) + k / I 149 (p + 2)) (fun z => z.elim hc105 (fun z => z hc109))
                    refine Wk.iconst (n := (-1)) (q := 124) (by decide +kernel) rfl ?_
                    refine Wk.istore (i := 9) (q := 126) (by decide +kernel) (by decide) rfl (fun _ h => h) rfl ?_
                    refine Wk.iload (i := 9) (q := 128) (by decide +kernel) rfl rfl ?_
                    refine Wk.iload (i := 4) (q := 130) (by decide +kernel) rfl rfl ?_
                    refine Wk.icmp_ge (off := (8)) (t := 138) (q := 133) (by decide +kernel) (by decide) rfl (by first | omega | exact bi_rng _) (by first | omega | exact bi_rng _) (fun hc130 => ?_) (fun hc130 => ?_)
                    · refine Wk.iload (i := 4) (q := 140) (by decide +kernel) rfl rfl ?_
                      refine Wk.istore (i := 4) (q := 142) (by decide +kernel) (by decide) rfl (fun _ h => h) rfl ?_
                      refine Wk.iinc (i := 6) (n := 1) (q := 145) (by decide +kernel) rfl (by decide) rfl (fun _ h => h) rfl ?_
                      refine Wk.goto (off := (-128)) (q := 17) (by decide +kernel) (by decide) ?_
                      have hadd := hM.add (v := mval I t ((c % I 149 0 + I 149 (p + 1) * windX w) + k % I 149 (p + 2)) ((c / I 149 0 + I 149 (p + 1) * windY w) + k / I 149 (p + 2))) (by omega)
                      refine ih2 (_, _, _, _) ⟨fun _ => hc50, ?_, ?_, ?_⟩
                      · simp only
                        first
                          | (rw [if_neg (by omega)] at hadd
                             refine hadd.cong (fun v => ⟨fun q => q.elim (fun q => q.elim Or.inl (fun ⟨j, q1, q2⟩ => Or.inr ⟨j, by omega, q2⟩)) (fun q => Or.inr ⟨k, by omega, q⟩), fun q => q.elim (fun q => Or.inl (Or.inl q)) (fun ⟨j, q1, q2⟩ => ?_)⟩)
                             rcases Classical.em (j = k) with e | e
                             · exact Or.inr (by rw [← e]; exact q2)
                             · exact Or.inl (Or.inr ⟨j, by omega, q2⟩))
                          | (rw [if_pos (by omega)] at hadd
                             rw [ev] at hadd
                             refine hadd.cong (fun v => ⟨fun q => q.elim (fun q => q.elim Or.inl (fun ⟨j, q1, q2⟩ => Or.inr ⟨j, by omega, q2⟩)) (fun q => Or.inr ⟨k, by omega, by rw [ev]; exact q⟩), fun q => q.elim (fun q => Or.inl (Or.inl q)) (fun ⟨j, q1, q2⟩ => ?_)⟩)
                             rcases Classical.em (j = k) with e | e
                             · exact Or.inr (by rw [← ev, ← e]; exact q2)
                             · exact Or.inl (Or.inr ⟨j, by omega, q2⟩))
                      · first | (simp only; omega) | exact Int.le_trans (by decide) hw.1
                      · first | (simp only; omega) | exact Int.le_trans hw.2 (by decide)
                    · refine Wk.iload (i := 9) (q := 135) (by decide +kernel) rfl rfl ?_
                      refine Wk.goto (off := (5)) (q := 140) (by decide +kernel) (by decide) ?_
                      refine Wk.istore (i := 4) (q := 142) (by decide +kernel) (by decide) rfl (fun _ h => h) rfl ?_
                      refine Wk.iinc (i := 6) (n := 1) (q := 145) (by decide +kernel) rfl (by decide) rfl (fun _ h => h) rfl ?_
                      refine Wk.goto (off := (-128)) (q := 17) (by decide +kernel) (by decide) ?_
                      have hadd := hM.add (v := mval I t ((c % I 149 0 + I 149 (p + 1) * windX w) + k % I 149 (p + 2)) ((c / I 149 0 + I 149 (p + 1) * windY w) + k / I 149 (p + 2))) (by omega)
                      refine ih2 (_, _, _, _) ⟨fun _ => hc50, ?_, ?_, ?_⟩
                      · simp only
                        first
                          | (rw [if_neg (by omega)] at hadd
                             refine hadd.cong (fun v => ⟨fun q => q.elim (fun q => q.elim Or.inl (fun ⟨j, q1, q2⟩ => Or.inr ⟨j, by omega, q2⟩)) (fun q => Or.inr ⟨k, by omega, q⟩), fun q => q.elim (fun q => Or.inl (Or.inl q)) (fun ⟨j, q1, q2⟩ => ?_)⟩)
                             rcases Classical.em (j = k) with e | e
                             · exact Or.inr (by rw [← e]; exact q2)
                             · exact Or.inl (Or.inr ⟨j, by omega, q2⟩))
                          | (rw [if_pos (by omega)] at hadd
                             rw [ev] at hadd
                             refine hadd.cong (fun v => ⟨fun q => q.elim (fun q => q.elim Or.inl (fun ⟨j, q1, q2⟩ => Or.inr ⟨j, by omega, q2⟩)) (fun q => Or.inr ⟨k, by omega, by rw [ev]; exact q⟩), fun q => q.elim (fun q => Or.inl (Or.inl q)) (fun ⟨j, q1, q2⟩ => ?_)⟩)
                             rcases Classical.em (j = k) with e | e
                             · exact Or.inr (by rw [← ev, ← e]; exact q2)
                             · exact Or.inl (Or.inr ⟨j, by omega, q2⟩))
                      · first | (simp only; omega) | exact Int.le_trans (by decide) hw.1
                      · first | (simp only; omega) | exact Int.le_trans hw.2 (by decide)
                  · have ev := mval_in (I := I) (t := t) (x := (c % I 149 0 + I 149 (p + 1) * windX w) + k % I 149 (p + 2)) (y := (c / I 149 0 + I 149 (p + 1) * windY w) + k / I 149 (p + 2)) (by first | exact Or.inl hc105 | exact Or.inr hc109)
                    have hw := mwat_range hI ((c % I 149 0 + I 149 (p + 1) * windX w) + k % I 149 (p + 2)) ((c / I 149 0 + I 149 (p + 1) * windY w) + k / I 149 (p + 2))
                    refine Wk.aload_n (k := 0) (q := 113) (by decide +kernel) rfl rfl rfl ?_
                    refine Wk.iload (i := 7) (q := 115) (by decide +kernel) rfl rfl ?_
                    refine Wk.iload (i := 8) (q := 117) (by decide +kernel) rfl rfl ?_
                    refine Wk.cVi (q := 120) l_Mod_65 m_Mod_water (by decide +kernel) (fun _ h => h) O_148 rfl (Nat.le_of_ble_eq_true rfl) (Nat.le_of_ble_eq_true rfl) rfl (c_Mod_water (by omega) (by omega) hI) rfl ?_
                    refine Wk.goto (off := (4)) (q := 124) (by decide +kernel) (by decide) ?_
                    refine Wk.istore (i := 9) (q := 126) (by decide +kernel) (by decide) rfl (fun _ h => h) rfl ?_
                    refine Wk.iload (i := 9) (q := 128) (by decide +kernel) rfl rfl ?_
                    refine Wk.iload (i := 4) (q := 130) (by decide +kernel) rfl rfl ?_
                    refine Wk.icmp_ge (off := (8)) (t := 138) (q := 133) (by decide +kernel) (by decide) rfl (by first | omega | exact bi_rng _) (by first | omega | exact bi_rng _) (fun hc130 => ?_) (fun hc130 => ?_)
                    · refine Wk.iload (i := 4) (q := 140) (by decide +kernel) rfl rfl ?_
                      refine Wk.istore (i := 4) (q := 142) (by decide +kernel) (by decide) rfl (fun _ h => h) rfl ?_
                      refine Wk.iinc (i := 6) (n := 1) (q := 145) (by decide +kernel) rfl (by decide) rfl (fun _ h => h) rfl ?_
                      refine Wk.goto (off := (-128)) (q := 17) (by decide +kernel) (by decide) ?_
                      have hadd := hM.add (v := mval I t ((c % I 149 0 + I 149 (p + 1) * windX w) + k % I 149 (p + 2)) ((c / I 149 0 + I 149 (p + 1) * windY w) + k / I 149 (p + 2))) (by omega)
                      refine ih2 (_, _, _, _) ⟨fun _ => hc50, ?_, ?_, ?_⟩
                      · simp only
                        first
                          | (rw [if_neg (by omega)] at hadd
                             refine hadd.cong (fun v => ⟨fun q => q.elim (fun q => q.elim Or.inl (fun ⟨j, q1, q2⟩ => Or.inr ⟨j, by omega, q2⟩)) (fun q => Or.inr ⟨k, by omega, q⟩), fun q => q.elim (fun q => Or.inl (Or.inl q)) (fun ⟨j, q1, q2⟩ => ?_)⟩)
                             rcases Classical.em (j = k) with e | e
                             · exact Or.inr (by rw [← e]; exact q2)
                             · exact Or.inl (Or.inr ⟨j, by omega, q2⟩))
                          | (rw [if_pos (by omega)] at hadd
                             rw [ev] at hadd
                             refine hadd.cong (fun v => ⟨fun q => q.elim (fun q => q.elim Or.inl (fun ⟨j, q1, q2⟩ => Or.inr ⟨j, by omega, q2⟩)) (fun q => Or.inr ⟨k, by omega, by rw [ev]; exact q⟩), fun q => q.elim (fun q => Or.inl (Or.inl q)) (fun ⟨j, q1, q2⟩ => ?_)⟩)
                             rcases Classical.em (j = k) with e | e
                             · exact Or.inr (by rw [← ev, ← e]; exact q2)
                             · exact Or.inl (Or.inr ⟨j, by omega, q2⟩))
                      · first | (simp only; omega) | exact Int.le_trans (by decide) hw.1
                      · first | (simp only; omega) | exact Int.le_trans hw.2 (by decide)
                    · refine Wk.iload (i := 9) (q := 135) (by decide +kernel) rfl rfl ?_
                      refine Wk.goto (off := (5)) (q := 140) (by decide +kernel) (by decide) ?_
                      refine Wk.istore (i := 4) (q := 142) (by decide +kernel) (by decide) rfl (fun _ h => h) rfl ?_
                      refine Wk.iinc (i := 6) (n := 1) (q := 145) (by decide +kernel) rfl (by decide) rfl (fun _ h => h) rfl ?_
                      refine Wk.goto (off := (-128)) (q := 17) (by decide +kernel) (by decide) ?_
                      have hadd := hM.add (v := mval I t ((c % I 149 0 + I 149 (p + 1) * windX w) + k % I 149 (p + 2)) ((c / I 149 0 + I 149 (p + 1) * windY w) + k / I 149 (p + 2))) (by omega)
                      refine ih2 (_, _, _, _) ⟨fun _ => hc50, ?_, ?_, ?_⟩
                      · simp only
                        first
                          | (rw [if_neg (by omega)] at hadd
                             refine hadd.cong (fun v => ⟨fun q => q.elim (fun q => q.elim Or.inl (fun ⟨j, q1, q2⟩ => Or.inr ⟨j, by omega, q2⟩)) (fun q => Or.inr ⟨k, by omega, q⟩), fun q => q.elim (fun q => Or.inl (Or.inl q)) (fun ⟨j, q1, q2⟩ => ?_)⟩)
                             rcases Classical.em (j = k) with e | e
                             · exact Or.inr (by rw [← e]; exact q2)
                             · exact Or.inl (Or.inr ⟨j, by omega, q2⟩))
                          | (rw [if_pos (by omega)] at hadd
                             rw [ev] at hadd
                             refine hadd.cong (fun v => ⟨fun q => q.elim (fun q => q.elim Or.inl (fun ⟨j, q1, q2⟩ => Or.inr ⟨j, by omega, q2⟩)) (fun q => Or.inr ⟨k, by omega, by rw [ev]; exact q⟩), fun q => q.elim (fun q => Or.inl (Or.inl q)) (fun ⟨j, q1, q2⟩ => ?_)⟩)
                             rcases Classical.em (j = k) with e | e
                             · exact Or.inr (by rw [← ev, ← e]; exact q2)
                             · exact Or.inl (Or.inr ⟨j, by omega, q2⟩))
                      · first | (simp only; omega) | exact Int.le_trans (by decide) hw.1
                      · first | (simp only; omega) | exact Int.le_trans hw.2 (by decide)
        refine Wk.iconst (n := 0) (q := 15) (by decide +kernel) rfl ?_
        refine Wk.istore (i := 6) (q := 17) (by decide +kernel) (by decide) rfl (fun _ h => h) rfl ?_
        exact key2 o7 o8 o9
  refine Wk.bipush (n := 100) (q := 2) (by decide +kernel) (by decide +kernel) rfl ?_
  refine Wk.istore (i := 4) (q := 4) (by decide +kernel) (by decide) rfl (fun _ h => h) rfl ?_
  refine Wk.iconst (n := 0) (q := 5) (by decide +kernel) rfl ?_
  refine Wk.istore (i := 5) (q := 7) (by decide +kernel) (by decide) rfl (fun _ h => h) rfl ?_
  exact key
theorem mml_iff {I : IM} {p c : Int} (hd : 1 ≤ I 149 p) : mML I (I 149 3) p c ↔ ∀ v, (∃ u cx cy, (0 ≤ u ∧ u < 8) ∧ bt (I 149 3) u = true ∧ mLO I p c u cx cy ∧ v = mval I 0 cx cy) → I 149 p ≤ v := by
  constructor
  · intro h v ⟨w, cx, cy, q1, q2, q3, q4⟩
    have h1 := h w cx cy q1.1 q1.2 q2 q3
    rw [q4, mval_in (Or.inl h1.1)]
    exact h1.2
  · intro h w cx cy q0 q1 q2 q3
    have h1 := h _ ⟨w, cx, cy, ⟨q0, q1⟩, q2, q3, rfl⟩
    by_cases hi : inE (I 149 0) (I 149 1) cx cy
    · rw [mval_in (Or.inl hi)] at h1
      exact ⟨hi, h1⟩
    · rw [mval_out (fun z => z.elim hi (fun z => z rfl))] at h1
      omega
theorem c_Mod_mayLie {p c : Int} (hI : MI0 I) (hp : MP I p) (hc : mC I c) : Wk xs x_Mod_mayLie (d + 4) 0 0 0 [some (vr 148), some (vi p), some (vi c)] [] X2 I L (pI (bi (mML I (I 149 3) p c)) I L) := by
  obtain ⟨hW, hH, hT, hF, hA, hK, hD⟩ := id hI
  obtain ⟨hp0, hdr, hch, hsd⟩ := id hp
  obtain ⟨hc0, hc1⟩ := id hc
  have h49 := WH49 (W := I 149 0) (H := I 149 1) (by omega) (by omega)
  obtain ⟨hcx, hcy⟩ := mcoord hW.1 hc0 hc1
  refine Wk.aload_n (k := 0) (q := 1) (by decide +kernel) rfl rfl rfl ?_
  refine Wk.iload_n (k := 1) (q := 2) (by decide +kernel) rfl rfl rfl ?_
  refine Wk.iload_n (k := 2) (q := 3) (by decide +kernel) rfl rfl rfl ?_
  refine Wk.iconst (n := 0) (q := 4) (by decide +kernel) rfl ?_
  refine Wk.cV (q := 7) l_Mod_69 m_Mod_leastWater (by decide +kernel) (fun _ h => h) O_148 rfl (Nat.le_of_ble_eq_true rfl) (Nat.le_of_ble_eq_true rfl) rfl (c_Mod_leastWater hI hp hc (Or.inl rfl)) rfl (fun v I' L' hP => ?_)
  obtain ⟨⟨z, rfl, hz, hz0, hz1⟩, rfl, rfl⟩ := hP
  have hg := (hz.ge (d := I' 149 p) (by omega)).trans (mml_iff hdr.1).symm
  refine Wk.aload_n (k := 0) (q := 8) (by decide +kernel) rfl rfl rfl ?_
  refine Wk.getR (r := 149) (q := 11) f_Mod_7 (by decide +kernel) O_148 (by decide) rfl rfl rfl ?_
  refine Wk.iload_n (k := 1) (q := 12) (by decide +kernel) rfl rfl rfl ?_
  refine Wk.iaload (q := 13) (by decide +kernel) A_149 (by first | omega | exact bi_rng _) (by first | omega | exact bi_rng _) rfl ?_
  refine Wk.icmp_lt (off := (7)) (t := 20) (q := 16) (by decide +kernel) (by decide) rfl (by first | omega | exact bi_rng _) (by first | omega | exact bi_rng _) (fun hc13 => ?_) (fun hc13 => ?_)
  · refine Wk.iconst (n := 0) (q := 21) (by decide +kernel) rfl ?_
    exact Wk.rZ (by decide +kernel) rfl (by first | omega | decide | exact bi_01 _) (by first | (rw [bi_f (fun q => by have := hg.mpr q; omega)]; done) | (rw [bi_t (hg.mp (by omega))]; done))
  · refine Wk.iconst (n := 1) (q := 17) (by decide +kernel) rfl ?_
    refine Wk.goto (off := (4)) (q := 21) (by decide +kernel) (by decide) ?_
    exact Wk.rZ (by decide +kernel) rfl (by first | omega | decide | exact bi_01 _) (by first | (rw [bi_f (fun q => by have := hg.mpr q; omega)]; done) | (rw [bi_t (hg.mp (by omega))]; done))
theorem c_Mod_share {a e b f : Int} (ha : -100 ≤ a ∧ a ≤ 100) (he : -100 ≤ e ∧ e ≤ 100) (hb : -100 ≤ b ∧ b ≤ 100) (hf : -100 ≤ f ∧ f ≤ 100) : Wk xs x_Mod_share d 0 0 0 [some (vi a), some (vi e), some (vi b), some (vi f)] [] X2 I L (pI (bi (a < b + f ∧ b < a + e)) I L) := by
  refine Wk.iload_n (k := 0) (q := 1) (by decide +kernel) rfl rfl rfl ?_
  refine Wk.iload_n (k := 2) (q := 2) (by decide +kernel) rfl rfl rfl ?_
  refine Wk.iload_n (k := 3) (q := 3) (by decide +kernel) rfl rfl rfl ?_
  refine Wk.iadd (q := 4) (by decide +kernel) rfl ?_
  refine Wk.icmp_ge (off := (14)) (t := 18) (q := 7) (by decide +kernel) (by decide) rfl (by first | omega | exact bi_rng _) (by first | omega | exact bi_rng _) (fun hc4 => ?_) (fun hc4 => ?_)
  · refine Wk.iconst (n := 0) (q := 19) (by decide +kernel) rfl ?_
    exact Wk.rZ (by decide +kernel) rfl (by first | omega | decide | exact bi_01 _) (by first | rw [bi_t (by omega)] | rw [bi_f (by omega)])
  · refine Wk.iload_n (k := 2) (q := 8) (by decide +kernel) rfl rfl rfl ?_
    refine Wk.iload_n (k := 0) (q := 9) (by decide +kernel) rfl rfl rfl ?_
    refine Wk.iload_n (k := 1) (q := 10) (by decide +kernel) rfl rfl rfl ?_
    refine Wk.iadd (q := 11) (by decide +kernel) rfl ?_
    refine Wk.icmp_ge (off := (7)) (t := 18) (q := 14) (by decide +kernel) (by decide) rfl (by first | omega | exact bi_rng _) (by first | omega | exact bi_rng _) (fun hc11 => ?_) (fun hc11 => ?_)
    · refine Wk.iconst (n := 0) (q := 19) (by decide +kernel) rfl ?_
      exact Wk.rZ (by decide +kernel) rfl (by first | omega | decide | exact bi_01 _) (by first | rw [bi_t (by omega)] | rw [bi_f (by omega)])
    · refine Wk.iconst (n := 1) (q := 15) (by decide +kernel) rfl ?_
      refine Wk.goto (off := (4)) (q := 19) (by decide +kernel) (by decide) ?_
      exact Wk.rZ (by decide +kernel) rfl (by first | omega | decide | exact bi_01 _) (by first | rw [bi_t (by omega)] | rw [bi_f (by omega)])
theorem c_Mod_clash {p c q e : Int} (hI : MI0 I) (hp : MP I p) (hc : mC I c) (hq : MP I q) (he : mC I e) : Wk xs x_Mod_clash (d + 2) 0 0 0 [some (vr 148), some (vi p), some (vi c), some (vi q), some (vi e), none, none, none, none] [] X2 I L (pI (bi (mCL I (I 149 3) p c q e)) I L) := by
  obtain ⟨hW, hH, hT, hF, hA, hK, hD⟩ := id hI
  obtain ⟨hp0, hdr, hch, hsd⟩ := id hp
  obtain ⟨hc0, hc1⟩ := id hc
  have h49 := WH49 (W := I 149 0) (H := I 149 1) (by omega) (by omega)
  obtain ⟨hcx, hcy⟩ := mcoord hW.1 hc0 hc1
  obtain ⟨hq0, -, hch2, hsd2⟩ := id hq
  obtain ⟨he0, he1⟩ := id he
  obtain ⟨hex, hey⟩ := mcoord hW.1 he0 he1
  have fin : ∀ (k : Int) (o7 o8 : Option AV), 0 ≤ k → k ≤ 8 → mCL I (I 149 3) p c q e → Wk xs x_Mod_clash (d + 2) 0 0 6 [some (vr 148), some (vi p), some (vi c), some (vi q), some (vi e), some (vi 1), some (vi k), o7, o8] [] X2 I L (pI (bi (mCL I (I 149 3) p c q e)) I L) := by
    intro k o7 o8 k0 k1 hcl
    refine Wk.iload (i := 6) (q := 8) (by decide +kernel) rfl rfl ?_
    refine Wk.bipush (n := 8) (q := 10) (by decide +kernel) (by decide +kernel) rfl ?_
    refine Wk.icmp_ge (off := (121)) (t := 131) (q := 13) (by decide +kernel) (by decide) rfl (by first | omega | exact bi_rng _) (by first | omega | exact bi_rng _) (fun hc10 => ?_) (fun hc10 => ?_)
    · refine Wk.iload (i := 5) (q := 133) (by decide +kernel) rfl rfl ?_
      exact Wk.rZ (by decide +kernel) rfl (by first | omega | decide | exact bi_01 _) (by rw [bi_t hcl])
    · refine Wk.iload (i := 5) (q := 15) (by decide +kernel) rfl rfl ?_
      refine Wk.if_ne (off := (116)) (t := 131) (q := 18) (by decide +kernel) (by decide) rfl (by first | omega | exact bi_rng _) (fun hc15 => ?_) (fun hc15 => ?_)
      · refine Wk.iload (i := 5) (q := 133) (by decide +kernel) rfl rfl ?_
        exact Wk.rZ (by decide +kernel) rfl (by first | omega | decide | exact bi_01 _) (by rw [bi_t hcl])
      · omega
  have key : Wk xs x_Mod_clash (d + 2) 0 0 6 [some (vr 148), some (vi p), some (vi c), some (vi q), some (vi e), some (vi 0), some (vi 0), none, none] [] X2 I L (pI (bi (mCL I (I 149 3) p c q e)) I L) := by
    refine loopS (σ := Option AV × Option AV) (fun k s => Wk xs x_Mod_clash (d + 2) 0 0 6 [some (vr 148), some (vi p), some (vi c), some (vi q), some (vi e), some (vi 0), some (vi k), s.1, s.2] [] X2 I L (pI (bi (mCL I (I 149 3) p c q e)) I L)) (fun k _ => ∀ w, 0 ≤ w → w < k → bt (I 149 3) w = true → ¬ CLw (I 149 (p + 1)) (I 149 (p + 2)) (c % I 149 0) (c / I 149 0) (I 149 (q + 1)) (I 149 (q + 2)) (e % I 149 0) (e / I 149 0)  w) 8 0 (none, none) (by omega) (fun w z0 z1 => by omega) ?_ ?_
    · intro s hJ
      refine Wk.iload (i := 6) (q := 8) (by decide +kernel) rfl rfl ?_
      refine Wk.bipush (n := 8) (q := 10) (by decide +kernel) (by decide +kernel) rfl ?_
      refine Wk.icmp_ge (off := (121)) (t := 131) (q := 13) (by decide +kernel) (by decide) rfl (by first | omega | exact bi_rng _) (by first | omega | exact bi_rng _) (fun hc10 => ?_) (fun hc10 => ?_)
      · refine Wk.iload (i := 5) (q := 133) (by decide +kernel) rfl rfl ?_
        exact Wk.rZ (by decide +kernel) rfl (by first | omega | decide | exact bi_01 _) (by rw [bi_f]; intro hz; obtain ⟨w, z0, z1, z2, z3⟩ := hz; exact hJ w z0 z1 z2 z3)
      · omega
    · intro w s k0 k1 hJ ih
      obtain ⟨o7, o8⟩ := s
      simp only
      have m1 := mulB hch (windX_r w)
      have m2 := mulB hch (windY_r w)
      have m3 := mulB hch2 (windX_r w)
      have m4 := mulB hch2 (windY_r w)
      refine Wk.iload (i := 6) (q := 8) (by decide +kernel) rfl rfl ?_
      refine Wk.bipush (n := 8) (q := 10) (by decide +kernel) (by decide +kernel) rfl ?_
      refine Wk.icmp_ge (off := (121)) (t := 131) (q := 13) (by decide +kernel) (by decide) rfl (by first | omega | exact bi_rng _) (by first | omega | exact bi_rng _) (fun hc10 => ?_) (fun hc10 => ?_)
      · omega
      · refine Wk.iload (i := 5) (q := 15) (by decide +kernel) rfl rfl ?_
        refine Wk.if_ne (off := (116)) (t := 131) (q := 18) (by decide +kernel) (by decide) rfl (by first | omega | exact bi_rng _) (fun hc15 => ?_) (fun hc15 => ?_)
        · omega
        · refine Wk.aload_n (k := 0) (q := 19) (by decide +kernel) rfl rfl rfl ?_
          refine Wk.iload_n (k := 1) (q := 20) (by decide +kernel) rfl rfl rfl ?_
          refine Wk.iload_n (k := 2) (q := 21) (by decide +kernel) rfl rfl rfl ?_
          refine Wk.iload (i := 6) (q := 23) (by decide +kernel) rfl rfl ?_
          refine Wk.cVi (q := 26) l_Mod_51 m_Mod_left (by decide +kernel) (fun _ h => h) O_148 rfl (Nat.le_of_ble_eq_true rfl) (Nat.le_of_ble_eq_true rfl) rfl (c_Mod_left hI hp hc (by omega) (by omega)) rfl ?_
          refine Wk.aload_n (k := 0) (q := 27) (by decide +kernel) rfl rfl rfl ?_
          refine Wk.getR (r := 149) (q := 30) f_Mod_7 (by decide +kernel) O_148 (by decide) rfl rfl rfl ?_
          refine Wk.iload_n (k := 1) (q := 31) (by decide +kernel) rfl rfl rfl ?_
          refine Wk.iconst (n := 2) (q := 32) (by decide +kernel) rfl ?_
          refine Wk.iadd (q := 33) (by decide +kernel) rfl ?_
          refine Wk.iaload (q := 34) (by decide +kernel) A_149 (by first | omega | exact bi_rng _) (by first | omega | exact bi_rng _) rfl ?_
          refine Wk.aload_n (k := 0) (q := 35) (by decide +kernel) rfl rfl rfl ?_
          refine Wk.iload_n (k := 3) (q := 36) (by decide +kernel) rfl rfl rfl ?_
          refine Wk.iload (i := 4) (q := 38) (by decide +kernel) rfl rfl ?_
          refine Wk.iload (i := 6) (q := 40) (by decide +kernel) rfl rfl ?_
          refine Wk.cVi (q := 43) l_Mod_51 m_Mod_left (by decide +kernel) (fun _ h => h) O_148 rfl (Nat.le_of_ble_eq_true rfl) (Nat.le_of_ble_eq_true rfl) rfl (c_Mod_left hI hq he (by omega) (by omega)) rfl ?_
          refine Wk.aload_n (k := 0) (q := 44) (by decide +kernel) rfl rfl rfl ?_
          refine Wk.getR (r := 149) (q := 47) f_Mod_7 (by decide +kernel) O_148 (by decide) rfl rfl rfl ?_
          refine Wk.iload_n (k := 3) (q := 48) (by decide +kernel) rfl rfl rfl ?_
          refine Wk.iconst (n := 2) (q := 49) (by decide +kernel) rfl ?_
          refine Wk.iadd (q := 50) (by decide +kernel) rfl ?_
          refine Wk.iaload (q := 51) (by decide +kernel) A_149 (by first | omega | exact bi_rng _) (by first | omega | exact bi_rng _) rfl ?_
          refine Wk.cSi (q := 54) l_Mod_73 m_Mod_share (by decide +kernel) (fun _ h => h) (Nat.le_of_ble_eq_true rfl) (Nat.le_of_ble_eq_true rfl) rfl (c_Mod_share (by omega) (by omega) (by omega) (by omega)) rfl ?_
          refine Wk.istore (i := 7) (q := 56) (by decide +kernel) (by decide) rfl (fun _ h => h) rfl ?_
          refine Wk.aload_n (k := 0) (q := 57) (by decide +kernel) rfl rfl rfl ?_
          refine Wk.iload_n (k := 1) (q := 58) (by decide +kernel) rfl rfl rfl ?_
          refine Wk.iload_n (k := 2) (q := 59) (by decide +kernel) rfl rfl rfl ?_
          refine Wk.iload (i := 6) (q := 61) (by decide +kernel) rfl rfl ?_
          refine Wk.cVi (q := 64) l_Mod_55 m_Mod_top (by decide +kernel) (fun _ h => h) O_148 rfl (Nat.le_of_ble_eq_true rfl) (Nat.le_of_ble_eq_true rfl) rfl (c_Mod_top hI hp hc (by omega) (by omega)) rfl ?_
          refine Wk.aload_n (k := 0) (q := 65) (by decide +kernel) rfl rfl rfl ?_
          refine Wk.getR (r := 149) (q := 68) f_Mod_7 (by decide +kernel) O_148 (by decide) rfl rfl rfl ?_
          refine Wk.iload_n (k := 1) (q := 69) (by decide +kernel) rfl rfl rfl ?_
          refine Wk.iconst (n := 2) (q := 70) (by decide +kernel) rfl ?_
          refine Wk.iadd (q := 71) (by decide +kernel) rfl ?_
          refine Wk.iaload (q := 72) (by decide +kernel) A_149 (by first | omega | exact bi_rng _) (by first | omega | exact bi_rng _) rfl ?_
          refine Wk.aload_n (k := 0) (q := 73) (by decide +kernel) rfl rfl rfl ?_
          refine Wk.iload_n (k := 3) (q := 74) (by decide +kernel) rfl rfl rfl ?_
          refine Wk.iload (i := 4) (q := 76) (by decide +kernel) rfl rfl ?_
          refine Wk.iload (i := 6) (q := 78) (by decide +kernel) rfl rfl ?_
          refine Wk.cVi (q := 81) l_Mod_55 m_Mod_top (by decide +kernel) (fun _ h => h) O_148 rfl (Nat.le_of_ble_eq_true rfl) (Nat.le_of_ble_eq_true rfl) rfl (c_Mod_top hI hq he (by omega) (by omega)) rfl ?_
          refine Wk.aload_n (k := 0) (q := 82) (by decide +kernel) rfl rfl rfl ?_
          refine Wk.getR (r := 149) (q := 85) f_Mod_7 (by decide +kernel) O_148 (by decide) rfl rfl rfl ?_
          refine Wk.iload_n (k := 3) (q := 86) (by decide +kernel) rfl rfl rfl ?_
          refine Wk.iconst (n := 2) (q := 87) (by decide +kernel) rfl ?_
          refine Wk.iadd (q := 88) (by decide +kernel) rfl ?_
          refine Wk.iaload (q := 89) (by decide +kernel) A_149 (by first | omega | exact bi_rng _) (by first | omega | exact bi_rng _) rfl ?_
          refine Wk.cSi (q := 92) l_Mod_73 m_Mod_share (by decide +kernel) (fun _ h => h) (Nat.le_of_ble_eq_true rfl) (Nat.le_of_ble_eq_true rfl) rfl (c_Mod_share (by omega) (by omega) (by omega) (by omega)) rfl ?_
          refine Wk.istore (i := 8) (q := 94) (by decide +kernel) (by decide) rfl (fun _ h => h) rfl ?_
          refine Wk.aload_n (k := 0) (q := 95) (by decide +kernel) rfl rfl rfl ?_
          refine Wk.getR (r := 149) (q := 98) f_Mod_7 (by decide +kernel) O_148 (by decide) rfl rfl rfl ?_
          refine Wk.iconst (n := 3) (q := 99) (by decide +kernel) rfl ?_
          refine Wk.iaload (q := 100) (by decide +kernel) A_149 (by first | omega | exact bi_rng _) (by first | omega | exact bi_rng _) rfl ?_
          refine Wk.iload (i := 6) (q := 102) (by decide +kernel) rfl rfl ?_
          refine Wk.cSi (q := 105) l_Mod_58 m_Mod_has (by decide +kernel) (fun _ h => h) (Nat.le_of_ble_eq_true rfl) (Nat.le_of_ble_eq_true rfl) rfl (c_Mod_has (by omega) (by omega) (by omega) (by omega)) rfl ?_
          refine Wk.ifB_eq (off := (17)) (t := 122) (q := 108) (by decide +kernel) (by decide) rfl (fun hc105 => ?_) (fun hc105 => ?_)
          · refine Wk.iconst (n := 0) (q := 123) (by decide +kernel) rfl ?_
            refine Wk.istore (i := 5) (q := 125) (by decide +kernel) (by decide) rfl (fun _ h => h) rfl ?_
            refine Wk.iinc (i := 6) (n := 1) (q := 128) (by decide +kernel) rfl (by decide) rfl (fun _ h => h) rfl ?_
            refine Wk.goto (off := (-122)) (q := 6) (by decide +kernel) (by decide) ?_
            first
              | exact fin _ _ _ (by omega) (by omega) ⟨w, k0, k1, hc105, ⟨hc110.1, hc110.2⟩, hc115.1, hc115.2⟩
              | exact ih (_, _) (ext1 hJ (fun z2 z3 => by first | exact hc105 z2 | exact hc110 z3.1 | exact hc115 z3.2))
          · refine Wk.iload (i := 7) (q := 110) (by decide +kernel) rfl rfl ?_
            refine Wk.ifB_eq (off := (12)) (t := 122) (q := 113) (by decide +kernel) (by decide) rfl (fun hc110 => ?_) (fun hc110 => ?_)
            · refine Wk.iconst (n := 0) (q := 123) (by decide +kernel) rfl ?_
              refine Wk.istore (i := 5) (q := 125) (by decide +kernel) (by decide) rfl (fun _ h => h) rfl ?_
              refine Wk.iinc (i := 6) (n := 1) (q := 128) (by decide +kernel) rfl (by decide) rfl (fun _ h => h) rfl ?_
              refine Wk.goto (off := (-122)) (q := 6) (by decide +kernel) (by decide) ?_
              first
                | exact fin _ _ _ (by omega) (by omega) ⟨w, k0, k1, hc105, ⟨hc110.1, hc110.2⟩, hc115.1, hc115.2⟩
                | exact ih (_, _) (ext1 hJ (fun z2 z3 => by first | exact hc105 z2 | exact hc110 z3.1 | exact hc115 z3.2))
            · refine Wk.iload (i := 8) (q := 115) (by decide +kernel) rfl rfl ?_
              refine Wk.ifB_eq (off := (7)) (t := 122) (q := 118) (by decide +kernel) (by decide) rfl (fun hc115 => ?_) (fun hc115 => ?_)
              · refine Wk.iconst (n := 0) (q := 123) (by decide +kernel) rfl ?_
                refine Wk.istore (i := 5) (q := 125) (by decide +kernel) (by decide) rfl (fun _ h => h) rfl ?_
                refine Wk.iinc (i := 6) (n := 1) (q := 128) (by decide +kernel) rfl (by decide) rfl (fun _ h => h) rfl ?_
                refine Wk.goto (off := (-122)) (q := 6) (by decide +kernel) (by decide) ?_
                first
                  | exact fin _ _ _ (by omega) (by omega) ⟨w, k0, k1, hc105, ⟨hc110.1, hc110.2⟩, hc115.1, hc115.2⟩
                  | exact ih (_, _) (ext1 hJ (fun z2 z3 => by first | exact hc105 z2 | exact hc110 z3.1 | exact hc115 z3.2))
              · refine Wk.iconst (n := 1) (q := 119) (by decide +kernel) rfl ?_
                refine Wk.goto (off := (4)) (q := 123) (by decide +kernel) (by decide) ?_
                refine Wk.istore (i := 5) (q := 125) (by decide +kernel) (by decide) rfl (fun _ h => h) rfl ?_
                refine Wk.iinc (i := 6) (n := 1) (q := 128) (by decide +kernel) rfl (by decide) rfl (fun _ h => h) rfl ?_
                refine Wk.goto (off := (-122)) (q := 6) (by decide +kernel) (by decide) ?_
                first
                  | exact fin _ _ _ (by omega) (by omega) ⟨w, k0, k1, hc105, ⟨hc110.1, hc110.2⟩, hc115.1, hc115.2⟩
                  | exact ih (_, _) (ext1 hJ (fun z2 z3 => by first | exact hc105 z2 | exact hc110 z3.1 | exact hc115 z3.2))
  refine Wk.iconst (n := 0) (q := 1) (by decide +kernel) rfl ?_
  refine Wk.istore (i := 5) (q := 3) (by decide +kernel) (by decide) rfl (fun _ h => h) rfl ?_
  refine Wk.iconst (n := 0) (q := 4) (by decide +kernel) rfl ?_
  refine Wk.istore (i := 6) (q := 6) (by decide +kernel) (by decide) rfl (fun _ h => h) rfl ?_
  exact key
end MOB
end
section
/-! THE REFERENCE: ships at anchor and ships that wait -/
def MI1 (I : IM) : Prop := ∀ a, 0 ≤ a → a < I 149 4 → MP I (55 + 4 * a) ∧ mC I (I 149 (55 + 4 * a + 3))
def MI2 (I : IM) : Prop := ∀ k, 0 ≤ k → k < I 149 5 → MP I (75 + 4 * k)
def MW (I : IM) : Prop := MI0 I ∧ MI1 I ∧ MI2 I
abbrev mCa (I : IM) (F a b : Int) : Prop := mCL I F (55 + 4 * a) (I 149 (55 + 4 * a + 3)) (55 + 4 * b) (I 149 (55 + 4 * b + 3))
abbrev mDP (I : IM) (F a : Int) : Prop := ¬ mML I F (55 + 4 * a) (I 149 (55 + 4 * a + 3)) ∨ ∃ b, (0 ≤ b ∧ b < I 149 4) ∧ ¬ a = b ∧ mCa I F a b
noncomputable def mDG (I : IM) (F : Int) : Int := so (mDP I F) (I 149 4).toNat
/-- free for a ship at p, some ships being moved -/
def mFr (I : IM) (p m c : Int) : Prop := mML I (I 149 3) p c ∧ ∀ a, 0 ≤ a → a < I 149 4 → bt m a = true ∨ ¬ mCL I (I 149 3) p c (55 + 4 * a) (I 149 (55 + 4 * a + 3))
theorem mcl_zero {I : IM} {F a : Int} : so (fun b => ¬ a = b ∧ mCa I F a b) (I 149 4).toNat = 0 ↔ ¬ ∃ b, (0 ≤ b ∧ b < I 149 4) ∧ ¬ a = b ∧ mCa I F a b := by
  rw [so_zero]
  constructor
  · intro h ⟨b, h1, h2⟩
    exact h b h1.1 (by omega) h2
  · intro h b h1 h2 h3
    exact h ⟨b, by omega, h3⟩
theorem wat_cong {W H t x y : Int} {e f : Int → Int} (h : ∀ k, 0 ≤ k → k < W * H → e k = f k) : wat W H t e x y = wat W H t f x y := by
  by_cases hi : inE W H x y
  · have hb := cellB (W := W) (H := H) (x := x) (y := y) ⟨hi.1, hi.2.1⟩ ⟨hi.2.2.1, hi.2.2.2⟩
    rw [wat_in hi, wat_in hi, h _ hb.1 hb.2.1]
  · rw [wat_out hi, wat_out hi]
theorem ML_cong {W H t : Int} {e f : Int → Int} {F dr ch sd x y : Int} (h : ∀ k, 0 ≤ k → k < W * H → e k = f k) : ML W H t e F dr ch sd x y ↔ ML W H t f F dr ch sd x y := by
  unfold ML
  constructor
  · intro g w cx cy a1 a2 a3 a4
    rw [← wat_cong h]; exact g w cx cy a1 a2 a3 a4
  · intro g w cx cy a1 a2 a3 a4
    rw [wat_cong h]; exact g w cx cy a1 a2 a3 a4
theorem iup2 (I : IM) (i : Nat) (z v u : Int) : iup (iup I i z v) i z u = iup I i z u := by
  funext a b; unfold iup; split <;> rfl
theorem iup_same (I : IM) (i : Nat) (z : Int) : iup I i z (I i z) = I := by
  funext a b; unfold iup
  split
  · rename_i h; rw [h.1, h.2]
  · rfl
theorem iup_at (I : IM) (i : Nat) (z v : Int) : iup I i z v i z = v := by simp [iup]
theorem iup_ne {I : IM} {i a : Nat} {z b v : Int} (h : ¬ (a = i ∧ b = z)) : iup I i z v a b = I a b := by unfold iup; rw [if_neg h]
/-- the same row but for the winds -/
def mAg (I' I : IM) : Prop := ∀ k, ¬ k = 3 → I' 149 k = I 149 k
theorem mML_ag {I' I : IM} (h : mAg I' I) {F p c : Int} (hp : 4 ≤ p) : mML I' F p c ↔ mML I F p c := by
  unfold mML
  rw [h 0 (by decide), h 1 (by decide), h 2 (by decide), h p (by omega), h (p + 1) (by omega), h (p + 2) (by omega)]
  exact ML_cong (fun k h0 _ => h _ (by omega))
theorem mCL_ag {I' I : IM} (h : mAg I' I) {F p c q e : Int} (hp : 4 ≤ p) (hq : 4 ≤ q) : mCL I' F p c q e ↔ mCL I F p c q e := by
  unfold mCL
  rw [h 0 (by decide), h (p + 1) (by omega), h (p + 2) (by omega), h (q + 1) (by omega), h (q + 2) (by omega)]
theorem mDG_ag {I' I : IM} (h : mAg I' I) {F : Int} : mDG I' F = mDG I F := by
  unfold mDG
  rw [h 4 (by decide)]
  refine so_cong fun a a0 _ => ?_
  unfold mDP mCa
  rw [mML_ag h (by omega), h (55 + 4 * a + 3) (by omega), h 4 (by decide)]
  have e : (∃ b, (0 ≤ b ∧ b < I 149 4) ∧ ¬ a = b ∧ mCL I' F (55 + 4 * a) (I 149 (55 + 4 * a + 3)) (55 + 4 * b) (I' 149 (55 + 4 * b + 3))) ↔ ∃ b, (0 ≤ b ∧ b < I 149 4) ∧ ¬ a = b ∧ mCL I F (55 + 4 * a) (I 149 (55 + 4 * a + 3)) (55 + 4 * b) (I 149 (55 + 4 * b + 3)) := by
    constructor
    · intro ⟨b, b0, b1, b2⟩
      rw [mCL_ag h (by omega) (by omega), h (55 + 4 * b + 3) (by omega)] at b2
      exact ⟨b, b0, b1, b2⟩
    · intro ⟨b, b0, b1, b2⟩
      refine ⟨b, b0, b1, ?_⟩
      rw [mCL_ag h (by omega) (by omega), h (55 + 4 * b + 3) (by omega)]
      exact b2
  rw [e]
theorem MW_ag {I' I : IM} (h : mAg I' I) (hw : 0 ≤ I' 149 3 ∧ I' 149 3 ≤ 255) (hI : MW I) : MW I' := by
  obtain ⟨⟨h1, h2, h3, -, h5, h6, h7⟩, g1, g2⟩ := hI
  refine ⟨⟨?_, ?_, ?_, hw, ?_, ?_, fun k k0 k1 => ?_⟩, fun a a0 a1 => ?_, fun k k0 k1 => ?_⟩
  · rw [h 0 (by decide)]; exact h1
  · rw [h 1 (by decide)]; exact h2
  · rw [h 2 (by decide)]; exact h3
  · rw [h 4 (by decide)]; exact h5
  · rw [h 5 (by decide)]; exact h6
  · rw [h (6 + k) (by omega)]; exact h7 k k0 k1
  · rw [h 4 (by decide)] at a1
    have := g1 a a0 a1
    unfold MP mC at *
    rw [h (55 + 4 * a) (by omega), h (55 + 4 * a + 1) (by omega), h (55 + 4 * a + 2) (by omega), h (55 + 4 * a + 3) (by omega), h 0 (by decide), h 1 (by decide)]
    exact this
  · rw [h 5 (by decide)] at k1
    have := g2 k k0 k1
    unfold MP at *
    rw [h (75 + 4 * k) (by omega), h (75 + 4 * k + 1) (by omega), h (75 + 4 * k + 2) (by omega)]
    exact this
noncomputable def sm (f : Int → Int) : Nat → Int
  | 0 => 0
  | n + 1 => sm f n + f n
theorem sm_step (f : Int → Int) {k : Int} (h : 0 ≤ k) : sm f (k + 1).toNat = sm f k.toNat + f k := by
  have e : (k + 1).toNat = k.toNat + 1 := by omega
  have e2 : ((k.toNat : Nat) : Int) = k := Int.toNat_of_nonneg h
  rw [e]; show sm f k.toNat + f (k.toNat : Int) = _
  rw [e2]
theorem sm_cong {f g : Int → Int} : ∀ {n : Nat}, (∀ k : Int, 0 ≤ k → k < n → f k = g k) → sm f n = sm g n
  | 0, _ => rfl
  | n + 1, h => by
    show sm f n + f n = sm g n + g n
    rw [sm_cong (n := n) (fun k h0 h1 => h k h0 (by omega)), h n (by omega) (by omega)]
theorem sm_range {f : Int → Int} {B : Int} (h : ∀ k, 0 ≤ f k ∧ f k ≤ B) : ∀ n : Nat, 0 ≤ sm f n ∧ sm f n ≤ B * n
  | 0 => by show 0 ≤ (0 : Int) ∧ (0 : Int) ≤ B * (0 : Nat); omega
  | n + 1 => by
    have h1 := sm_range h n
    have h2 := h n
    have e : B * ((n + 1 : Nat) : Int) = B * (n : Int) + B := by rw [Int.natCast_add, Int.mul_add]; omega
    show 0 ≤ sm f n + f n ∧ sm f n + f n ≤ _
    rw [e]; omega
section MOC
variable {xs : RO} {d : Nat} {I : IM} {L : LM}

theorem c_Mod_clashes {a : Int} (h0 : 0 ≤ a) (h1 : a < I 149 4) (hM : MW I) : Wk xs x_Mod_clashes (d + 3) 0 0 0 [some (vr 148), some (vi a), none, none] [] X2 I L (pI (so (fun b => ¬ a = b ∧ mCa I (I 149 3) a b) (I 149 4).toNat) I L) := by
  obtain ⟨hI, hS, hQ⟩ := id hM
  obtain ⟨hW, hH, hT, hF, hA, hK, hD⟩ := id hI
  have h49 := WH49 (W := I 149 0) (H := I 149 1) (by omega) (by omega)
  have key : Wk xs x_Mod_clashes (d + 3) 0 0 4 [some (vr 148), some (vi a), some (vi (so (fun b => ¬ a = b ∧ mCa I (I 149 3) a b) (0 : Int).toNat)), some (vi 0)] [] X2 I L (pI (so (fun b => ¬ a = b ∧ mCa I (I 149 3) a b) (I 149 4).toNat) I L) := by
    refine loopI (fun k => Wk xs x_Mod_clashes (d + 3) 0 0 4 [some (vr 148), some (vi a), some (vi (so (fun b => ¬ a = b ∧ mCa I (I 149 3) a b) k.toNat)), some (vi k)] [] X2 I L (pI (so (fun b => ¬ a = b ∧ mCa I (I 149 3) a b) (I 149 4).toNat) I L)) (I 149 4) 0 (by omega) ?_ ?_
    · refine Wk.iload_n (k := 3) (q := 5) (by decide +kernel) rfl rfl rfl ?_
      refine Wk.aload_n (k := 0) (q := 6) (by decide +kernel) rfl rfl rfl ?_
      refine Wk.getR (r := 149) (q := 9) f_Mod_7 (by decide +kernel) O_148 (by decide) rfl rfl rfl ?_
      refine Wk.iconst (n := 4) (q := 10) (by decide +kernel) rfl ?_
      refine Wk.iaload (q := 11) (by decide +kernel) A_149 (by first | omega | exact bi_rng _) (by first | omega | exact bi_rng _) rfl ?_
      refine Wk.icmp_ge (off := (61)) (t := 72) (q := 14) (by decide +kernel) (by decide) rfl (by first | omega | exact bi_rng _) (by first | omega | exact bi_rng _) (fun hc11 => ?_) (fun hc11 => ?_)
      · refine Wk.iload_n (k := 2) (q := 73) (by decide +kernel) rfl rfl rfl ?_
        exact Wk.rI (by decide +kernel) rfl (rfl)
      · omega
    · intro k k0 k1 ih
      have hs := so_range (fun b => ¬ a = b ∧ mCa I (I 149 3) a b) k.toNat
      have hs2 := so_r5 (fun b => ¬ a = b ∧ mCa I (I 149 3) a b) (n := k.toNat) (by omega)
      rw [so_step _ k0] at ih
      refine Wk.iload_n (k := 3) (q := 5) (by decide +kernel) rfl rfl rfl ?_
      refine Wk.aload_n (k := 0) (q := 6) (by decide +kernel) rfl rfl rfl ?_
      refine Wk.getR (r := 149) (q := 9) f_Mod_7 (by decide +kernel) O_148 (by decide) rfl rfl rfl ?_
      refine Wk.iconst (n := 4) (q := 10) (by decide +kernel) rfl ?_
      refine Wk.iaload (q := 11) (by decide +kernel) A_149 (by first | omega | exact bi_rng _) (by first | omega | exact bi_rng _) rfl ?_
      refine Wk.icmp_ge (off := (61)) (t := 72) (q := 14) (by decide +kernel) (by decide) rfl (by first | omega | exact bi_rng _) (by first | omega | exact bi_rng _) (fun hc11 => ?_) (fun hc11 => ?_)
      · omega
      · refine Wk.iload_n (k := 2) (q := 15) (by decide +kernel) rfl rfl rfl ?_
        refine Wk.iload_n (k := 1) (q := 16) (by decide +kernel) rfl rfl rfl ?_
        refine Wk.iload_n (k := 3) (q := 17) (by decide +kernel) rfl rfl rfl ?_
        refine Wk.icmp_eq (off := (46)) (t := 63) (q := 20) (by decide +kernel) (by decide) rfl (by first | omega | exact bi_rng _) (by first | omega | exact bi_rng _) (fun hc17 => ?_) (fun hc17 => ?_)
        · refine Wk.iconst (n := 0) (q := 64) (by decide +kernel) rfl ?_
          refine Wk.ior (q := 65) (by decide +kernel) rfl ?_
          refine Wk.istore_n (k := 2) (q := 66) (by decide +kernel) rfl (by decide) rfl (fun _ h => h) rfl ?_
          refine Wk.iinc (i := 3) (n := 1) (q := 69) (by decide +kernel) rfl (by decide) rfl (fun _ h => h) rfl ?_
          refine Wk.goto (off := (-65)) (q := 4) (by decide +kernel) (by decide) ?_
          first
            | (rw [or_above hs.1 hs.2 k0 (by omega)]
               rw [bi_t (⟨hc17, hc54⟩), Int.one_mul] at ih
               exact ih)
            | (rw [or_nil hs2.1 (by omega)]
               rw [bi_f (fun z => by first | exact z.1 hc17 | exact hc54 z.2), Int.zero_mul, Int.add_zero] at ih
               exact ih)
        · refine Wk.aload_n (k := 0) (q := 21) (by decide +kernel) rfl rfl rfl ?_
          refine Wk.iload_n (k := 1) (q := 22) (by decide +kernel) rfl rfl rfl ?_
          refine Wk.cSi (q := 25) l_Mod_77 m_Mod_shipAt (by decide +kernel) (fun _ h => h) (Nat.le_of_ble_eq_true rfl) (Nat.le_of_ble_eq_true rfl) rfl (c_Mod_shipAt) rfl ?_
          refine Wk.aload_n (k := 0) (q := 26) (by decide +kernel) rfl rfl rfl ?_
          refine Wk.getR (r := 149) (q := 29) f_Mod_7 (by decide +kernel) O_148 (by decide) rfl rfl rfl ?_
          refine Wk.iload_n (k := 1) (q := 30) (by decide +kernel) rfl rfl rfl ?_
          refine Wk.cSi (q := 33) l_Mod_77 m_Mod_shipAt (by decide +kernel) (fun _ h => h) (Nat.le_of_ble_eq_true rfl) (Nat.le_of_ble_eq_true rfl) rfl (c_Mod_shipAt) rfl ?_
          refine Wk.iconst (n := 3) (q := 34) (by decide +kernel) rfl ?_
          refine Wk.iadd (q := 35) (by decide +kernel) rfl ?_
          refine Wk.iaload (q := 36) (by decide +kernel) A_149 (by first | omega | exact bi_rng _) (by first | omega | exact bi_rng _) rfl ?_
          refine Wk.iload_n (k := 3) (q := 37) (by decide +kernel) rfl rfl rfl ?_
          refine Wk.cSi (q := 40) l_Mod_77 m_Mod_shipAt (by decide +kernel) (fun _ h => h) (Nat.le_of_ble_eq_true rfl) (Nat.le_of_ble_eq_true rfl) rfl (c_Mod_shipAt) rfl ?_
          refine Wk.aload_n (k := 0) (q := 41) (by decide +kernel) rfl rfl rfl ?_
          refine Wk.getR (r := 149) (q := 44) f_Mod_7 (by decide +kernel) O_148 (by decide) rfl rfl rfl ?_
          refine Wk.iload_n (k := 3) (q := 45) (by decide +kernel) rfl rfl rfl ?_
          refine Wk.cSi (q := 48) l_Mod_77 m_Mod_shipAt (by decide +kernel) (fun _ h => h) (Nat.le_of_ble_eq_true rfl) (Nat.le_of_ble_eq_true rfl) rfl (c_Mod_shipAt) rfl ?_
          refine Wk.iconst (n := 3) (q := 49) (by decide +kernel) rfl ?_
          refine Wk.iadd (q := 50) (by decide +kernel) rfl ?_
          refine Wk.iaload (q := 51) (by decide +kernel) A_149 (by first | omega | exact bi_rng _) (by first | omega | exact bi_rng _) rfl ?_
          refine Wk.cVi (q := 54) l_Mod_80 m_Mod_clash (by decide +kernel) (fun _ h => h) O_148 rfl (Nat.le_of_ble_eq_true rfl) (Nat.le_of_ble_eq_true rfl) rfl (c_Mod_clash hI (hS a h0 h1).1 (hS a h0 h1).2 (hS k k0 k1).1 (hS k k0 k1).2) rfl ?_
          refine Wk.ifB_eq (off := (9)) (t := 63) (q := 57) (by decide +kernel) (by decide) rfl (fun hc54 => ?_) (fun hc54 => ?_)
          · refine Wk.iconst (n := 0) (q := 64) (by decide +kernel) rfl ?_
            refine Wk.ior (q := 65) (by decide +kernel) rfl ?_
            refine Wk.istore_n (k := 2) (q := 66) (by decide +kernel) rfl (by decide) rfl (fun _ h => h) rfl ?_
            refine Wk.iinc (i := 3) (n := 1) (q := 69) (by decide +kernel) rfl (by decide) rfl (fun _ h => h) rfl ?_
            refine Wk.goto (off := (-65)) (q := 4) (by decide +kernel) (by decide) ?_
            first
              | (rw [or_above hs.1 hs.2 k0 (by omega)]
                 rw [bi_t (⟨hc17, hc54⟩), Int.one_mul] at ih
                 exact ih)
              | (rw [or_nil hs2.1 (by omega)]
                 rw [bi_f (fun z => by first | exact z.1 hc17 | exact hc54 z.2), Int.zero_mul, Int.add_zero] at ih
                 exact ih)
          · refine Wk.iconst (n := 1) (q := 58) (by decide +kernel) rfl ?_
            refine Wk.iload_n (k := 3) (q := 59) (by decide +kernel) rfl rfl rfl ?_
            refine Wk.ishl (q := 60) (by decide +kernel) rfl ?_
            refine Wk.goto (off := (4)) (q := 64) (by decide +kernel) (by decide) ?_
            refine Wk.ior (q := 65) (by decide +kernel) rfl ?_
            refine Wk.istore_n (k := 2) (q := 66) (by decide +kernel) rfl (by decide) rfl (fun _ h => h) rfl ?_
            refine Wk.iinc (i := 3) (n := 1) (q := 69) (by decide +kernel) rfl (by decide) rfl (fun _ h => h) rfl ?_
            refine Wk.goto (off := (-65)) (q := 4) (by decide +kernel) (by decide) ?_
            first
              | (rw [or_above hs.1 hs.2 k0 (by omega)]
                 rw [bi_t (⟨hc17, hc54⟩), Int.one_mul] at ih
                 exact ih)
              | (rw [or_nil hs2.1 (by omega)]
                 rw [bi_f (fun z => by first | exact z.1 hc17 | exact hc54 z.2), Int.zero_mul, Int.add_zero] at ih
                 exact ih)
  refine Wk.iconst (n := 0) (q := 1) (by decide +kernel) rfl ?_
  refine Wk.istore_n (k := 2) (q := 2) (by decide +kernel) rfl (by decide) rfl (fun _ h => h) rfl ?_
  refine Wk.iconst (n := 0) (q := 3) (by decide +kernel) rfl ?_
  refine Wk.istore_n (k := 3) (q := 4) (by decide +kernel) rfl (by decide) rfl (fun _ h => h) rfl ?_
  exact key
theorem c_Mod_liesWell {a : Int} (h0 : 0 ≤ a) (h1 : a < I 149 4) (hM : MW I) : Wk xs x_Mod_liesWell (d + 5) 0 0 0 [some (vr 148), some (vi a)] [] X2 I L (pI (bi (mML I (I 149 3) (55 + 4 * a) (I 149 (55 + 4 * a + 3)))) I L) := by
  obtain ⟨hI, hS, hQ⟩ := id hM
  obtain ⟨hW, hH, hT, hF, hA, hK, hD⟩ := id hI
  have h49 := WH49 (W := I 149 0) (H := I 149 1) (by omega) (by omega)
  refine Wk.aload_n (k := 0) (q := 1) (by decide +kernel) rfl rfl rfl ?_
  refine Wk.iload_n (k := 1) (q := 2) (by decide +kernel) rfl rfl rfl ?_
  refine Wk.cSi (q := 5) l_Mod_77 m_Mod_shipAt (by decide +kernel) (fun _ h => h) (Nat.le_of_ble_eq_true rfl) (Nat.le_of_ble_eq_true rfl) rfl (c_Mod_shipAt) rfl ?_
  refine Wk.aload_n (k := 0) (q := 6) (by decide +kernel) rfl rfl rfl ?_
  refine Wk.getR (r := 149) (q := 9) f_Mod_7 (by decide +kernel) O_148 (by decide) rfl rfl rfl ?_
  refine Wk.iload_n (k := 1) (q := 10) (by decide +kernel) rfl rfl rfl ?_
  refine Wk.cSi (q := 13) l_Mod_77 m_Mod_shipAt (by decide +kernel) (fun _ h => h) (Nat.le_of_ble_eq_true rfl) (Nat.le_of_ble_eq_true rfl) rfl (c_Mod_shipAt) rfl ?_
  refine Wk.iconst (n := 3) (q := 14) (by decide +kernel) rfl ?_
  refine Wk.iadd (q := 15) (by decide +kernel) rfl ?_
  refine Wk.iaload (q := 16) (by decide +kernel) A_149 (by first | omega | exact bi_rng _) (by first | omega | exact bi_rng _) rfl ?_
  refine Wk.cVi (q := 19) l_Mod_83 m_Mod_mayLie (by decide +kernel) (fun _ h => h) O_148 rfl (Nat.le_of_ble_eq_true rfl) (Nat.le_of_ble_eq_true rfl) rfl (c_Mod_mayLie hI (hS a h0 h1).1 (hS a h0 h1).2) rfl ?_
  exact Wk.rZ (by decide +kernel) rfl (by first | omega | decide | exact bi_01 _) (rfl)
theorem c_Mod_danger (hM : MW I) : Wk xs x_Mod_danger (d + 6) 0 0 0 [some (vr 148), none, none] [] X2 I L (pI (so (mDP I (I 149 3)) (I 149 4).toNat) I L) := by
  obtain ⟨hI, hS, hQ⟩ := id hM
  obtain ⟨hW, hH, hT, hF, hA, hK, hD⟩ := id hI
  have h49 := WH49 (W := I 149 0) (H := I 149 1) (by omega) (by omega)
  have key : Wk xs x_Mod_danger (d + 6) 0 0 4 [some (vr 148), some (vi (so (mDP I (I 149 3)) (0 : Int).toNat)), some (vi 0)] [] X2 I L (pI (so (mDP I (I 149 3)) (I 149 4).toNat) I L) := by
    refine loopI (fun k => Wk xs x_Mod_danger (d + 6) 0 0 4 [some (vr 148), some (vi (so (mDP I (I 149 3)) k.toNat)), some (vi k)] [] X2 I L (pI (so (mDP I (I 149 3)) (I 149 4).toNat) I L)) (I 149 4) 0 (by omega) ?_ ?_
    · refine Wk.iload_n (k := 2) (q := 5) (by decide +kernel) rfl rfl rfl ?_
      refine Wk.aload_n (k := 0) (q := 6) (by decide +kernel) rfl rfl rfl ?_
      refine Wk.getR (r := 149) (q := 9) f_Mod_7 (by decide +kernel) O_148 (by decide) rfl rfl rfl ?_
      refine Wk.iconst (n := 4) (q := 10) (by decide +kernel) rfl ?_
      refine Wk.iaload (q := 11) (by decide +kernel) A_149 (by first | omega | exact bi_rng _) (by first | omega | exact bi_rng _) rfl ?_
      refine Wk.icmp_ge (off := (35)) (t := 46) (q := 14) (by decide +kernel) (by decide) rfl (by first | omega | exact bi_rng _) (by first | omega | exact bi_rng _) (fun hc11 => ?_) (fun hc11 => ?_)
      · refine Wk.iload_n (k := 1) (q := 47) (by decide +kernel) rfl rfl rfl ?_
        exact Wk.rI (by decide +kernel) rfl (rfl)
      · omega
    · intro k k0 k1 ih
      have hs := so_range (mDP I (I 149 3)) k.toNat
      have hs2 := so_r5 (mDP I (I 149 3)) (n := k.toNat) (by omega)
      rw [so_step _ k0] at ih
      refine Wk.iload_n (k := 2) (q := 5) (by decide +kernel) rfl rfl rfl ?_
      refine Wk.aload_n (k := 0) (q := 6) (by decide +kernel) rfl rfl rfl ?_
      refine Wk.getR (r := 149) (q := 9) f_Mod_7 (by decide +kernel) O_148 (by decide) rfl rfl rfl ?_
      refine Wk.iconst (n := 4) (q := 10) (by decide +kernel) rfl ?_
      refine Wk.iaload (q := 11) (by decide +kernel) A_149 (by first | omega | exact bi_rng _) (by first | omega | exact bi_rng _) rfl ?_
      refine Wk.icmp_ge (off := (35)) (t := 46) (q := 14) (by decide +kernel) (by decide) rfl (by first | omega | exact bi_rng _) (by first | omega | exact bi_rng _) (fun hc11 => ?_) (fun hc11 => ?_)
      · omega
      · refine Wk.iload_n (k := 1) (q := 15) (by decide +kernel) rfl rfl rfl ?_
        refine Wk.aload_n (k := 0) (q := 16) (by decide +kernel) rfl rfl rfl ?_
        refine Wk.iload_n (k := 2) (q := 17) (by decide +kernel) rfl rfl rfl ?_
        refine Wk.cVi (q := 20) l_Mod_86 m_Mod_liesWell (by decide +kernel) (fun _ h => h) O_148 rfl (Nat.le_of_ble_eq_true rfl) (Nat.le_of_ble_eq_true rfl) rfl (c_Mod_liesWell k0 k1 hM) rfl ?_
        refine Wk.ifB_eq (off := (11)) (t := 31) (q := 23) (by decide +kernel) (by decide) rfl (fun hc20 => ?_) (fun hc20 => ?_)
        · refine Wk.iconst (n := 1) (q := 32) (by decide +kernel) rfl ?_
          refine Wk.iload_n (k := 2) (q := 33) (by decide +kernel) rfl rfl rfl ?_
          refine Wk.ishl (q := 34) (by decide +kernel) rfl ?_
          refine Wk.goto (off := (4)) (q := 38) (by decide +kernel) (by decide) ?_
          refine Wk.ior (q := 39) (by decide +kernel) rfl ?_
          refine Wk.istore_n (k := 1) (q := 40) (by decide +kernel) rfl (by decide) rfl (fun _ h => h) rfl ?_
          refine Wk.iinc (i := 2) (n := 1) (q := 43) (by decide +kernel) rfl (by decide) rfl (fun _ h => h) rfl ?_
          refine Wk.goto (off := (-39)) (q := 4) (by decide +kernel) (by decide) ?_
          first
            | (rw [or_above hs.1 hs.2 k0 (by omega)]
               rw [bi_t (by first | exact Or.inl hc20 | exact Or.inr (Classical.not_not.mp (fun z => hc28 (mcl_zero.mpr z)))), Int.one_mul] at ih
               exact ih)
            | (rw [or_nil hs2.1 (by omega)]
               rw [bi_f (fun z => by rcases z with z | z; exact z hc20; exact (mcl_zero.mp hc28) z), Int.zero_mul, Int.add_zero] at ih
               exact ih)
        · refine Wk.aload_n (k := 0) (q := 24) (by decide +kernel) rfl rfl rfl ?_
          refine Wk.iload_n (k := 2) (q := 25) (by decide +kernel) rfl rfl rfl ?_
          refine Wk.cVi (q := 28) l_Mod_90 m_Mod_clashes (by decide +kernel) (fun _ h => h) O_148 rfl (Nat.le_of_ble_eq_true rfl) (Nat.le_of_ble_eq_true rfl) rfl (c_Mod_clashes k0 k1 hM) rfl ?_
          refine Wk.if_eq (off := (9)) (t := 37) (q := 31) (by decide +kernel) (by decide) rfl (by have := so_r5 (fun b => ¬ k = b ∧ mCa I (I 149 3) k b) (n := (I 149 4).toNat) (by omega); omega) (fun hc28 => ?_) (fun hc28 => ?_)
          · refine Wk.iconst (n := 0) (q := 38) (by decide +kernel) rfl ?_
            refine Wk.ior (q := 39) (by decide +kernel) rfl ?_
            refine Wk.istore_n (k := 1) (q := 40) (by decide +kernel) rfl (by decide) rfl (fun _ h => h) rfl ?_
            refine Wk.iinc (i := 2) (n := 1) (q := 43) (by decide +kernel) rfl (by decide) rfl (fun _ h => h) rfl ?_
            refine Wk.goto (off := (-39)) (q := 4) (by decide +kernel) (by decide) ?_
            first
              | (rw [or_above hs.1 hs.2 k0 (by omega)]
                 rw [bi_t (by first | exact Or.inl hc20 | exact Or.inr (Classical.not_not.mp (fun z => hc28 (mcl_zero.mpr z)))), Int.one_mul] at ih
                 exact ih)
              | (rw [or_nil hs2.1 (by omega)]
                 rw [bi_f (fun z => by rcases z with z | z; exact z hc20; exact (mcl_zero.mp hc28) z), Int.zero_mul, Int.add_zero] at ih
                 exact ih)
          · refine Wk.iconst (n := 1) (q := 32) (by decide +kernel) rfl ?_
            refine Wk.iload_n (k := 2) (q := 33) (by decide +kernel) rfl rfl rfl ?_
            refine Wk.ishl (q := 34) (by decide +kernel) rfl ?_
            refine Wk.goto (off := (4)) (q := 38) (by decide +kernel) (by decide) ?_
            refine Wk.ior (q := 39) (by decide +kernel) rfl ?_
            refine Wk.istore_n (k := 1) (q := 40) (by decide +kernel) rfl (by decide) rfl (fun _ h => h) rfl ?_
            refine Wk.iinc (i := 2) (n := 1) (q := 43) (by decide +kernel) rfl (by decide) rfl (fun _ h => h) rfl ?_
            refine Wk.goto (off := (-39)) (q := 4) (by decide +kernel) (by decide) ?_
            first
              | (rw [or_above hs.1 hs.2 k0 (by omega)]
                 rw [bi_t (by first | exact Or.inl hc20 | exact Or.inr (Classical.not_not.mp (fun z => hc28 (mcl_zero.mpr z)))), Int.one_mul] at ih
                 exact ih)
              | (rw [or_nil hs2.1 (by omega)]
                 rw [bi_f (fun z => by rcases z with z | z; exact z hc20; exact (mcl_zero.mp hc28) z), Int.zero_mul, Int.add_zero] at ih
                 exact ih)
  refine Wk.iconst (n := 0) (q := 1) (by decide +kernel) rfl ?_
  refine Wk.istore_n (k := 1) (q := 2) (by decide +kernel) rfl (by decide) rfl (fun _ h => h) rfl ?_
  refine Wk.iconst (n := 0) (q := 3) (by decide +kernel) rfl ?_
  refine Wk.istore_n (k := 2) (q := 4) (by decide +kernel) rfl (by decide) rfl (fun _ h => h) rfl ?_
  exact key
theorem c_Mod_threats (hM : MW I) : Wk xs x_Mod_threats (d + 7) 0 0 0 [some (vr 148), none, none, none, none] [] X2 I L (pI (so (fun w => ¬ mDG I (orb (I 149 3) w) = mDG I (I 149 3)) 8) I L) := by
  obtain ⟨hI, hS, hQ⟩ := id hM
  obtain ⟨hW, hH, hT, hF, hA, hK, hD⟩ := id hI
  have h49 := WH49 (W := I 149 0) (H := I 149 1) (by omega) (by omega)
  have hd0 : 0 ≤ mDG I (I 149 3) ∧ mDG I (I 149 3) < 32 := so_r5 _ (by omega)
  have key : Wk xs x_Mod_threats (d + 7) 0 0 17 [some (vr 148), some (vi (mDG I (I 149 3))), some (vi (I 149 3)), some (vi (so (fun w => ¬ mDG I (orb (I 149 3) w) = mDG I (I 149 3)) (0 : Int).toNat)), some (vi 0)] [] X2 (iup I 149 3 (I 149 3)) L (pI (so (fun w => ¬ mDG I (orb (I 149 3) w) = mDG I (I 149 3)) 8) I L) := by
    refine loopS (σ := Int) (fun k f => Wk xs x_Mod_threats (d + 7) 0 0 17 [some (vr 148), some (vi (mDG I (I 149 3))), some (vi (I 149 3)), some (vi (so (fun w => ¬ mDG I (orb (I 149 3) w) = mDG I (I 149 3)) k.toNat)), some (vi k)] [] X2 (iup I 149 3 f) L (pI (so (fun w => ¬ mDG I (orb (I 149 3) w) = mDG I (I 149 3)) 8) I L)) (fun _ _ => True) 8 0 (I 149 3) (by omega) trivial ?_ ?_
    · intro f _
      refine Wk.iload (i := 4) (q := 19) (by decide +kernel) rfl rfl ?_
      refine Wk.bipush (n := 8) (q := 21) (by decide +kernel) (by decide +kernel) rfl ?_
      refine Wk.icmp_ge (off := (40)) (t := 61) (q := 24) (by decide +kernel) (by decide) rfl (by first | omega | exact bi_rng _) (by first | omega | exact bi_rng _) (fun hc21 => ?_) (fun hc21 => ?_)
      · refine Wk.aload_n (k := 0) (q := 62) (by decide +kernel) rfl rfl rfl ?_
        refine Wk.getR (r := 149) (q := 65) f_Mod_7 (by decide +kernel) O_148 (by decide) rfl rfl rfl ?_
        refine Wk.iconst (n := 3) (q := 66) (by decide +kernel) rfl ?_
        refine Wk.iload_n (k := 2) (q := 67) (by decide +kernel) rfl rfl rfl ?_
        refine Wk.iastore (q := 68) (by decide +kernel) A_149 (by first | omega | exact bi_rng _) (by first | omega | exact bi_rng _) rfl ?_
        rw [iup2, iup_same]
        refine Wk.iload_n (k := 3) (q := 69) (by decide +kernel) rfl rfl rfl ?_
        exact Wk.rI (by decide +kernel) rfl (rfl)
      · omega
    · intro k f k0 k1 _ ih
      have hs := so_range (fun w => ¬ mDG I (orb (I 149 3) w) = mDG I (I 149 3)) k.toNat
      have hs2 : so (fun w => ¬ mDG I (orb (I 149 3) w) = mDG I (I 149 3)) k.toNat < 256 := Int.lt_of_lt_of_le hs.2 (by have := Nat.pow_le_pow_right (n := 2) (by decide) (show k.toNat ≤ 8 by omega); omega)
      have ho := orb_range (F := I 149 3) (w := k) (by omega) (by omega)
      have ag : mAg (iup I 149 3 (orb (I 149 3) k)) I := fun j hj => iup_ne (fun z => hj z.2)
      have hM2 : MW (iup I 149 3 (orb (I 149 3) k)) := MW_ag ag (by rw [iup_at]; exact ho) hM
      have hd1 : 0 ≤ mDG I (orb (I 149 3) k) ∧ mDG I (orb (I 149 3) k) < 32 := so_r5 _ (by omega)
      have ed := c_Mod_danger (xs := xs) (d := d) (L := L) hM2
      have ee : so (mDP (iup I 149 3 (orb (I 149 3) k)) (iup I 149 3 (orb (I 149 3) k) 149 3)) (iup I 149 3 (orb (I 149 3) k) 149 4).toNat = mDG I (orb (I 149 3) k) := by
        rw [iup_at]
        exact mDG_ag ag
      rw [ee] at ed
      rw [so_step _ k0] at ih
      refine Wk.iload (i := 4) (q := 19) (by decide +kernel) rfl rfl ?_
      refine Wk.bipush (n := 8) (q := 21) (by decide +kernel) (by decide +kernel) rfl ?_
      refine Wk.icmp_ge (off := (40)) (t := 61) (q := 24) (by decide +kernel) (by decide) rfl (by first | omega | exact bi_rng _) (by first | omega | exact bi_rng _) (fun hc21 => ?_) (fun hc21 => ?_)
      · omega
      · refine Wk.aload_n (k := 0) (q := 25) (by decide +kernel) rfl rfl rfl ?_
        refine Wk.getR (r := 149) (q := 28) f_Mod_7 (by decide +kernel) O_148 (by decide) rfl rfl rfl ?_
        refine Wk.iconst (n := 3) (q := 29) (by decide +kernel) rfl ?_
        refine Wk.iload_n (k := 2) (q := 30) (by decide +kernel) rfl rfl rfl ?_
        refine Wk.iconst (n := 1) (q := 31) (by decide +kernel) rfl ?_
        refine Wk.iload (i := 4) (q := 33) (by decide +kernel) rfl rfl ?_
        refine Wk.ishl (q := 34) (by decide +kernel) rfl ?_
        refine Wk.ior (q := 35) (by decide +kernel) rfl ?_
        refine Wk.iastore (q := 36) (by decide +kernel) A_149 (by first | omega | exact bi_rng _) (by first | omega | exact bi_rng _) rfl ?_
        rw [iup2]
        rw [show (nZ (I 149 3) ||| nZ (nZ 1 <<< (nZ k &&& 31)).toInt).toInt = orb (I 149 3) k from rfl]
        refine Wk.iload_n (k := 3) (q := 37) (by decide +kernel) rfl rfl rfl ?_
        refine Wk.aload_n (k := 0) (q := 38) (by decide +kernel) rfl rfl rfl ?_
        refine Wk.cVi (q := 41) l_Mod_93 m_Mod_danger (by decide +kernel) (fun _ h => h) O_148 rfl (Nat.le_of_ble_eq_true rfl) (Nat.le_of_ble_eq_true rfl) rfl (ed) rfl ?_
        refine Wk.iload_n (k := 1) (q := 42) (by decide +kernel) rfl rfl rfl ?_
        refine Wk.icmp_eq (off := (10)) (t := 52) (q := 45) (by decide +kernel) (by decide) rfl (by first | omega | exact bi_rng _) (by first | omega | exact bi_rng _) (fun hc42 => ?_) (fun hc42 => ?_)
        · refine Wk.iconst (n := 0) (q := 53) (by decide +kernel) rfl ?_
          refine Wk.ior (q := 54) (by decide +kernel) rfl ?_
          refine Wk.istore_n (k := 3) (q := 55) (by decide +kernel) rfl (by decide) rfl (fun _ h => h) rfl ?_
          refine Wk.iinc (i := 4) (n := 1) (q := 58) (by decide +kernel) rfl (by decide) rfl (fun _ h => h) rfl ?_
          refine Wk.goto (off := (-41)) (q := 17) (by decide +kernel) (by decide) ?_
          first
            | (rw [or_above hs.1 hs.2 k0 (by omega)]
               rw [bi_t hc42, Int.one_mul] at ih
               exact ih _ trivial)
            | (rw [or_nil hs.1 (by omega)]
               rw [bi_f (fun z => z hc42), Int.zero_mul, Int.add_zero] at ih
               exact ih _ trivial)
        · refine Wk.iconst (n := 1) (q := 46) (by decide +kernel) rfl ?_
          refine Wk.iload (i := 4) (q := 48) (by decide +kernel) rfl rfl ?_
          refine Wk.ishl (q := 49) (by decide +kernel) rfl ?_
          refine Wk.goto (off := (4)) (q := 53) (by decide +kernel) (by decide) ?_
          refine Wk.ior (q := 54) (by decide +kernel) rfl ?_
          refine Wk.istore_n (k := 3) (q := 55) (by decide +kernel) rfl (by decide) rfl (fun _ h => h) rfl ?_
          refine Wk.iinc (i := 4) (n := 1) (q := 58) (by decide +kernel) rfl (by decide) rfl (fun _ h => h) rfl ?_
          refine Wk.goto (off := (-41)) (q := 17) (by decide +kernel) (by decide) ?_
          first
            | (rw [or_above hs.1 hs.2 k0 (by omega)]
               rw [bi_t hc42, Int.one_mul] at ih
               exact ih _ trivial)
            | (rw [or_nil hs.1 (by omega)]
               rw [bi_f (fun z => z hc42), Int.zero_mul, Int.add_zero] at ih
               exact ih _ trivial)
  refine Wk.aload_n (k := 0) (q := 1) (by decide +kernel) rfl rfl rfl ?_
  refine Wk.cVi (q := 4) l_Mod_93 m_Mod_danger (by decide +kernel) (fun _ h => h) O_148 rfl (Nat.le_of_ble_eq_true rfl) (Nat.le_of_ble_eq_true rfl) rfl (c_Mod_danger hM) rfl ?_
  refine Wk.istore_n (k := 1) (q := 5) (by decide +kernel) rfl (by decide) rfl (fun _ h => h) rfl ?_
  refine Wk.aload_n (k := 0) (q := 6) (by decide +kernel) rfl rfl rfl ?_
  refine Wk.getR (r := 149) (q := 9) f_Mod_7 (by decide +kernel) O_148 (by decide) rfl rfl rfl ?_
  refine Wk.iconst (n := 3) (q := 10) (by decide +kernel) rfl ?_
  refine Wk.iaload (q := 11) (by decide +kernel) A_149 (by first | omega | exact bi_rng _) (by first | omega | exact bi_rng _) rfl ?_
  refine Wk.istore_n (k := 2) (q := 12) (by decide +kernel) rfl (by decide) rfl (fun _ h => h) rfl ?_
  refine Wk.iconst (n := 0) (q := 13) (by decide +kernel) rfl ?_
  refine Wk.istore_n (k := 3) (q := 14) (by decide +kernel) rfl (by decide) rfl (fun _ h => h) rfl ?_
  refine Wk.iconst (n := 0) (q := 15) (by decide +kernel) rfl ?_
  refine Wk.istore (i := 4) (q := 17) (by decide +kernel) (by decide) rfl (fun _ h => h) rfl ?_
  rw [iup_same] at key
  exact key
theorem c_Mod_isFree {p c m : Int} (hM : MW I) (hp : MP I p) (hc : mC I c) (hm : 0 ≤ m ∧ m ≤ 31) : Wk xs x_Mod_isFree (d + 5) 0 0 0 [some (vr 148), some (vi p), some (vi c), some (vi m), none, none] [] X2 I L (pI (bi (mFr I p m c)) I L) := by
  obtain ⟨hI, hS, hQ⟩ := id hM
  obtain ⟨hW, hH, hT, hF, hA, hK, hD⟩ := id hI
  have h49 := WH49 (W := I 149 0) (H := I 149 1) (by omega) (by omega)
  have key : Wk xs x_Mod_isFree (d + 5) 0 0 11 [some (vr 148), some (vi p), some (vi c), some (vi m), some (vi (bi (mML I (I 149 3) p c ∧ ∀ a, 0 ≤ a → a < 0 → bt m a = true ∨ ¬ mCL I (I 149 3) p c (55 + 4 * a) (I 149 (55 + 4 * a + 3))))), some (vi 0)] [] X2 I L (pI (bi (mFr I p m c)) I L) := by
    refine loopI (fun k => Wk xs x_Mod_isFree (d + 5) 0 0 11 [some (vr 148), some (vi p), some (vi c), some (vi m), some (vi (bi (mML I (I 149 3) p c ∧ ∀ a, 0 ≤ a → a < k → bt m a = true ∨ ¬ mCL I (I 149 3) p c (55 + 4 * a) (I 149 (55 + 4 * a + 3))))), some (vi k)] [] X2 I L (pI (bi (mFr I p m c)) I L)) (I 149 4) 0 (by omega) ?_ ?_
    · refine Wk.iload (i := 5) (q := 13) (by decide +kernel) rfl rfl ?_
      refine Wk.aload_n (k := 0) (q := 14) (by decide +kernel) rfl rfl rfl ?_
      refine Wk.getR (r := 149) (q := 17) f_Mod_7 (by decide +kernel) O_148 (by decide) rfl rfl rfl ?_
      refine Wk.iconst (n := 4) (q := 18) (by decide +kernel) rfl ?_
      refine Wk.iaload (q := 19) (by decide +kernel) A_149 (by first | omega | exact bi_rng _) (by first | omega | exact bi_rng _) rfl ?_
      refine Wk.icmp_ge (off := (56)) (t := 75) (q := 22) (by decide +kernel) (by decide) rfl (by first | omega | exact bi_rng _) (by first | omega | exact bi_rng _) (fun hc19 => ?_) (fun hc19 => ?_)
      · refine Wk.iload (i := 4) (q := 77) (by decide +kernel) rfl rfl ?_
        exact Wk.rZ (by decide +kernel) rfl (by first | omega | decide | exact bi_01 _) (rfl)
      · omega
    · intro k k0 k1 ih
      refine Wk.iload (i := 5) (q := 13) (by decide +kernel) rfl rfl ?_
      refine Wk.aload_n (k := 0) (q := 14) (by decide +kernel) rfl rfl rfl ?_
      refine Wk.getR (r := 149) (q := 17) f_Mod_7 (by decide +kernel) O_148 (by decide) rfl rfl rfl ?_
      refine Wk.iconst (n := 4) (q := 18) (by decide +kernel) rfl ?_
      refine Wk.iaload (q := 19) (by decide +kernel) A_149 (by first | omega | exact bi_rng _) (by first | omega | exact bi_rng _) rfl ?_
      refine Wk.icmp_ge (off := (56)) (t := 75) (q := 22) (by decide +kernel) (by decide) rfl (by first | omega | exact bi_rng _) (by first | omega | exact bi_rng _) (fun hc19 => ?_) (fun hc19 => ?_)
      · refine Wk.iload (i := 4) (q := 77) (by decide +kernel) rfl rfl ?_
        exact Wk.rZ (by decide +kernel) rfl (by first | omega | decide | exact bi_01 _) (by first | omega | (rw [bi_f hc24, bi_f (fun z => hc24 ⟨z.1, fun a a0 a1 => z.2 a a0 (by omega)⟩)]))
      · refine Wk.iload (i := 4) (q := 24) (by decide +kernel) rfl rfl ?_
        refine Wk.ifB_eq (off := (51)) (t := 75) (q := 27) (by decide +kernel) (by decide) rfl (fun hc24 => ?_) (fun hc24 => ?_)
        · refine Wk.iload (i := 4) (q := 77) (by decide +kernel) rfl rfl ?_
          exact Wk.rZ (by decide +kernel) rfl (by first | omega | decide | exact bi_01 _) (by first | omega | (rw [bi_f hc24, bi_f (fun z => hc24 ⟨z.1, fun a a0 a1 => z.2 a a0 (by omega)⟩)]))
        · refine Wk.iload_n (k := 3) (q := 28) (by decide +kernel) rfl rfl rfl ?_
          refine Wk.iload (i := 5) (q := 30) (by decide +kernel) rfl rfl ?_
          refine Wk.cSi (q := 33) l_Mod_58 m_Mod_has (by decide +kernel) (fun _ h => h) (Nat.le_of_ble_eq_true rfl) (Nat.le_of_ble_eq_true rfl) rfl (c_Mod_has (by omega) (by omega) (by omega) (by omega)) rfl ?_
          refine Wk.ifB_ne (off := (29)) (t := 62) (q := 36) (by decide +kernel) (by decide) rfl (fun hc33 => ?_) (fun hc33 => ?_)
          · refine Wk.iconst (n := 1) (q := 63) (by decide +kernel) rfl ?_
            refine Wk.goto (off := (4)) (q := 67) (by decide +kernel) (by decide) ?_
            refine Wk.istore (i := 4) (q := 69) (by decide +kernel) (by decide) rfl (fun _ h => h) rfl ?_
            refine Wk.iinc (i := 5) (n := 1) (q := 72) (by decide +kernel) rfl (by decide) rfl (fun _ h => h) rfl ?_
            refine Wk.goto (off := (-61)) (q := 11) (by decide +kernel) (by decide) ?_
            first
              | (rw [bi_t ⟨hc24.1, ext1 (P := fun a => bt m a = true ∨ ¬ mCL I (I 149 3) p c (55 + 4 * a) (I 149 (55 + 4 * a + 3))) hc24.2 (by first | exact Or.inl hc33 | exact Or.inr hc59)⟩] at ih
                 exact ih)
              | (rw [bi_f (fun z => (z.2 k k0 (by omega)).elim hc33 (fun z => z hc59))] at ih
                 exact ih)
          · refine Wk.aload_n (k := 0) (q := 37) (by decide +kernel) rfl rfl rfl ?_
            refine Wk.iload_n (k := 1) (q := 38) (by decide +kernel) rfl rfl rfl ?_
            refine Wk.iload_n (k := 2) (q := 39) (by decide +kernel) rfl rfl rfl ?_
            refine Wk.iload (i := 5) (q := 41) (by decide +kernel) rfl rfl ?_
            refine Wk.cSi (q := 44) l_Mod_77 m_Mod_shipAt (by decide +kernel) (fun _ h => h) (Nat.le_of_ble_eq_true rfl) (Nat.le_of_ble_eq_true rfl) rfl (c_Mod_shipAt) rfl ?_
            refine Wk.aload_n (k := 0) (q := 45) (by decide +kernel) rfl rfl rfl ?_
            refine Wk.getR (r := 149) (q := 48) f_Mod_7 (by decide +kernel) O_148 (by decide) rfl rfl rfl ?_
            refine Wk.iload (i := 5) (q := 50) (by decide +kernel) rfl rfl ?_
            refine Wk.cSi (q := 53) l_Mod_77 m_Mod_shipAt (by decide +kernel) (fun _ h => h) (Nat.le_of_ble_eq_true rfl) (Nat.le_of_ble_eq_true rfl) rfl (c_Mod_shipAt) rfl ?_
            refine Wk.iconst (n := 3) (q := 54) (by decide +kernel) rfl ?_
            refine Wk.iadd (q := 55) (by decide +kernel) rfl ?_
            refine Wk.iaload (q := 56) (by decide +kernel) A_149 (by first | omega | exact bi_rng _) (by first | omega | exact bi_rng _) rfl ?_
            refine Wk.cVi (q := 59) l_Mod_80 m_Mod_clash (by decide +kernel) (fun _ h => h) O_148 rfl (Nat.le_of_ble_eq_true rfl) (Nat.le_of_ble_eq_true rfl) rfl (c_Mod_clash hI hp hc (hS k k0 k1).1 (hS k k0 k1).2) rfl ?_
            refine Wk.ifB_ne (off := (7)) (t := 66) (q := 62) (by decide +kernel) (by decide) rfl (fun hc59 => ?_) (fun hc59 => ?_)
            · refine Wk.iconst (n := 0) (q := 67) (by decide +kernel) rfl ?_
              refine Wk.istore (i := 4) (q := 69) (by decide +kernel) (by decide) rfl (fun _ h => h) rfl ?_
              refine Wk.iinc (i := 5) (n := 1) (q := 72) (by decide +kernel) rfl (by decide) rfl (fun _ h => h) rfl ?_
              refine Wk.goto (off := (-61)) (q := 11) (by decide +kernel) (by decide) ?_
              first
                | (rw [bi_t ⟨hc24.1, ext1 (P := fun a => bt m a = true ∨ ¬ mCL I (I 149 3) p c (55 + 4 * a) (I 149 (55 + 4 * a + 3))) hc24.2 (by first | exact Or.inl hc33 | exact Or.inr hc59)⟩] at ih
                   exact ih)
                | (rw [bi_f (fun z => (z.2 k k0 (by omega)).elim hc33 (fun z => z hc59))] at ih
                   exact ih)
            · refine Wk.iconst (n := 1) (q := 63) (by decide +kernel) rfl ?_
              refine Wk.goto (off := (4)) (q := 67) (by decide +kernel) (by decide) ?_
              refine Wk.istore (i := 4) (q := 69) (by decide +kernel) (by decide) rfl (fun _ h => h) rfl ?_
              refine Wk.iinc (i := 5) (n := 1) (q := 72) (by decide +kernel) rfl (by decide) rfl (fun _ h => h) rfl ?_
              refine Wk.goto (off := (-61)) (q := 11) (by decide +kernel) (by decide) ?_
              first
                | (rw [bi_t ⟨hc24.1, ext1 (P := fun a => bt m a = true ∨ ¬ mCL I (I 149 3) p c (55 + 4 * a) (I 149 (55 + 4 * a + 3))) hc24.2 (by first | exact Or.inl hc33 | exact Or.inr hc59)⟩] at ih
                   exact ih)
                | (rw [bi_f (fun z => (z.2 k k0 (by omega)).elim hc33 (fun z => z hc59))] at ih
                   exact ih)
  refine Wk.aload_n (k := 0) (q := 1) (by decide +kernel) rfl rfl rfl ?_
  refine Wk.iload_n (k := 1) (q := 2) (by decide +kernel) rfl rfl rfl ?_
  refine Wk.iload_n (k := 2) (q := 3) (by decide +kernel) rfl rfl rfl ?_
  refine Wk.cVi (q := 6) l_Mod_83 m_Mod_mayLie (by decide +kernel) (fun _ h => h) O_148 rfl (Nat.le_of_ble_eq_true rfl) (Nat.le_of_ble_eq_true rfl) rfl (c_Mod_mayLie hI hp hc) rfl ?_
  refine Wk.istore (i := 4) (q := 8) (by decide +kernel) (by decide) rfl (fun _ h => h) rfl ?_
  refine Wk.iconst (n := 0) (q := 9) (by decide +kernel) rfl ?_
  refine Wk.istore (i := 5) (q := 11) (by decide +kernel) (by decide) rfl (fun _ h => h) rfl ?_
  rw [bi_cong (q := mML I (I 149 3) p c) ⟨fun z => z.1, fun z => ⟨z, fun a a0 a1 => by omega⟩⟩] at key
  exact key
end MOC
end
section
/-! THE REFERENCE: counts and firsts; pairs that clash -/
/-- the first number of which something is so; -1, if there is none -/
def Fst (P : Int → Prop) (n z : Int) : Prop := (z = -1 ∧ ∀ k, 0 ≤ k → k < n → ¬ P k) ∨ ((0 ≤ z ∧ z < n) ∧ P z ∧ ∀ k, 0 ≤ k → k < z → ¬ P k)
theorem Fst.uniq {P : Int → Prop} {n z u : Int} (h : Fst P n z) (g : Fst P n u) : z = u := by
  rcases h with ⟨h1, h2⟩ | ⟨h1, h2, h3⟩ <;> rcases g with ⟨g1, g2⟩ | ⟨g1, g2, g3⟩
  · omega
  · exact absurd g2 (h2 u g1.1 g1.2)
  · exact absurd h2 (g2 z h1.1 h1.2)
  · rcases Int.lt_trichotomy z u with e | e | e
    · exact absurd h2 (g3 z h1.1 e)
    · exact e
    · exact absurd g2 (h3 u g1.1 e)
theorem Fst.cong {P Q : Int → Prop} {n z : Int} (h : Fst P n z) (e : ∀ k, 0 ≤ k → k < n → (P k ↔ Q k)) : Fst Q n z := by
  rcases h with ⟨h1, h2⟩ | ⟨h1, h2, h3⟩
  · exact Or.inl ⟨h1, fun k k0 k1 q => h2 k k0 k1 ((e k k0 k1).mpr q)⟩
  · exact Or.inr ⟨h1, (e z h1.1 h1.2).mp h2, fun k k0 k1 q => h3 k k0 k1 ((e k k0 (by omega)).mpr q)⟩
section MOD
variable {xs : RO} {d : Nat} {I : IM} {L : LM}

theorem c_Mod_ones {set : Int} (h0 : 0 ≤ set) (h1 : set < 32) : Wk xs x_Mod_ones (d + 1) 0 0 0 [some (vi set), none, none] [] X2 I L (pI (ct (fun b => bt set b = true) (5 : Int).toNat) I L) := by
  have key : Wk xs x_Mod_ones (d + 1) 0 0 4 [some (vi set), some (vi (ct (fun b => bt set b = true) (0 : Int).toNat)), some (vi 0)] [] X2 I L (pI (ct (fun b => bt set b = true) (5 : Int).toNat) I L) := by
    refine loopI (fun k => Wk xs x_Mod_ones (d + 1) 0 0 4 [some (vi set), some (vi (ct (fun b => bt set b = true) k.toNat)), some (vi k)] [] X2 I L (pI (ct (fun b => bt set b = true) (5 : Int).toNat) I L)) (5 : Int) 0 (by omega) ?_ ?_
    · refine Wk.iload_n (k := 2) (q := 5) (by decide +kernel) rfl rfl rfl ?_
      refine Wk.iconst (n := 5) (q := 6) (by decide +kernel) rfl ?_
      refine Wk.icmp_ge (off := (25)) (t := 31) (q := 9) (by decide +kernel) (by decide) rfl (by first | omega | exact bi_rng _) (by first | omega | exact bi_rng _) (fun hc6 => ?_) (fun hc6 => ?_)
      · refine Wk.iload_n (k := 1) (q := 32) (by decide +kernel) rfl rfl rfl ?_
        exact Wk.rI (by decide +kernel) rfl (rfl)
      · omega
    · intro k k0 k1 ih
      rw [ct_step _ k0] at ih
      refine Wk.iload_n (k := 2) (q := 5) (by decide +kernel) rfl rfl rfl ?_
      refine Wk.iconst (n := 5) (q := 6) (by decide +kernel) rfl ?_
      refine Wk.icmp_ge (off := (25)) (t := 31) (q := 9) (by decide +kernel) (by decide) rfl (by first | omega | exact bi_rng _) (by first | omega | exact bi_rng _) (fun hc6 => ?_) (fun hc6 => ?_)
      · omega
      · refine Wk.iload_n (k := 1) (q := 10) (by decide +kernel) rfl rfl rfl ?_
        refine Wk.iload_n (k := 0) (q := 11) (by decide +kernel) rfl rfl rfl ?_
        refine Wk.iload_n (k := 2) (q := 12) (by decide +kernel) rfl rfl rfl ?_
        refine Wk.cSi (q := 15) l_Mod_58 m_Mod_has (by decide +kernel) (fun _ h => h) (Nat.le_of_ble_eq_true rfl) (Nat.le_of_ble_eq_true rfl) rfl (c_Mod_has (by omega) (by omega) (by omega) (by omega)) rfl ?_
        refine Wk.ifB_eq (off := (7)) (t := 22) (q := 18) (by decide +kernel) (by decide) rfl (fun hc15 => ?_) (fun hc15 => ?_)
        · refine Wk.iconst (n := 0) (q := 23) (by decide +kernel) rfl ?_
          refine Wk.iadd (q := 24) (by decide +kernel) rfl ?_
          refine Wk.istore_n (k := 1) (q := 25) (by decide +kernel) rfl (by decide) rfl (fun _ h => h) rfl ?_
          refine Wk.iinc (i := 2) (n := 1) (q := 28) (by decide +kernel) rfl (by decide) rfl (fun _ h => h) rfl ?_
          refine Wk.goto (off := (-24)) (q := 4) (by decide +kernel) (by decide) ?_
          first
            | (rw [bi_t (hc15)] at ih
               exact ih)
            | (rw [bi_f (hc15)] at ih
               exact ih)
        · refine Wk.iconst (n := 1) (q := 19) (by decide +kernel) rfl ?_
          refine Wk.goto (off := (4)) (q := 23) (by decide +kernel) (by decide) ?_
          refine Wk.iadd (q := 24) (by decide +kernel) rfl ?_
          refine Wk.istore_n (k := 1) (q := 25) (by decide +kernel) rfl (by decide) rfl (fun _ h => h) rfl ?_
          refine Wk.iinc (i := 2) (n := 1) (q := 28) (by decide +kernel) rfl (by decide) rfl (fun _ h => h) rfl ?_
          refine Wk.goto (off := (-24)) (q := 4) (by decide +kernel) (by decide) ?_
          first
            | (rw [bi_t (hc15)] at ih
               exact ih)
            | (rw [bi_f (hc15)] at ih
               exact ih)
  refine Wk.iconst (n := 0) (q := 1) (by decide +kernel) rfl ?_
  refine Wk.istore_n (k := 1) (q := 2) (by decide +kernel) rfl (by decide) rfl (fun _ h => h) rfl ?_
  refine Wk.iconst (n := 0) (q := 3) (by decide +kernel) rfl ?_
  refine Wk.istore_n (k := 2) (q := 4) (by decide +kernel) rfl (by decide) rfl (fun _ h => h) rfl ?_
  exact key
theorem c_Mod_clashPairs (hM : MW I) : Wk xs x_Mod_clashPairs (d + 4) 0 0 0 [some (vr 148), none, none] [] X2 I L (pI (sm (fun a => ct (fun b => bt (so (fun b => ¬ a = b ∧ mCa I (I 149 3) a b) (I 149 4).toNat) b = true) 5) (I 149 4).toNat / 2) I L) := by
  obtain ⟨hI, hS, hQ⟩ := id hM
  obtain ⟨hW, hH, hT, hF, hA, hK, hD⟩ := id hI
  have h49 := WH49 (W := I 149 0) (H := I 149 1) (by omega) (by omega)
  have hr := sm_range (f := (fun a => ct (fun b => bt (so (fun b => ¬ a = b ∧ mCa I (I 149 3) a b) (I 149 4).toNat) b = true) 5)) (B := 5) (fun k => ct_range _ 5) (I 149 4).toNat
  have key : Wk xs x_Mod_clashPairs (d + 4) 0 0 4 [some (vr 148), some (vi (sm (fun a => ct (fun b => bt (so (fun b => ¬ a = b ∧ mCa I (I 149 3) a b) (I 149 4).toNat) b = true) 5) (0 : Int).toNat)), some (vi 0)] [] X2 I L (pI (sm (fun a => ct (fun b => bt (so (fun b => ¬ a = b ∧ mCa I (I 149 3) a b) (I 149 4).toNat) b = true) 5) (I 149 4).toNat / 2) I L) := by
    refine loopI (fun k => Wk xs x_Mod_clashPairs (d + 4) 0 0 4 [some (vr 148), some (vi (sm (fun a => ct (fun b => bt (so (fun b => ¬ a = b ∧ mCa I (I 149 3) a b) (I 149 4).toNat) b = true) 5) k.toNat)), some (vi k)] [] X2 I L (pI (sm (fun a => ct (fun b => bt (so (fun b => ¬ a = b ∧ mCa I (I 149 3) a b) (I 149 4).toNat) b = true) 5) (I 149 4).toNat / 2) I L)) (I 149 4) 0 (by omega) ?_ ?_
    · refine Wk.iload_n (k := 2) (q := 5) (by decide +kernel) rfl rfl rfl ?_
      refine Wk.aload_n (k := 0) (q := 6) (by decide +kernel) rfl rfl rfl ?_
      refine Wk.getR (r := 149) (q := 9) f_Mod_7 (by decide +kernel) O_148 (by decide) rfl rfl rfl ?_
      refine Wk.iconst (n := 4) (q := 10) (by decide +kernel) rfl ?_
      refine Wk.iaload (q := 11) (by decide +kernel) A_149 (by first | omega | exact bi_rng _) (by first | omega | exact bi_rng _) rfl ?_
      refine Wk.icmp_ge (off := (20)) (t := 31) (q := 14) (by decide +kernel) (by decide) rfl (by first | omega | exact bi_rng _) (by first | omega | exact bi_rng _) (fun hc11 => ?_) (fun hc11 => ?_)
      · refine Wk.iload_n (k := 1) (q := 32) (by decide +kernel) rfl rfl rfl ?_
        refine Wk.iconst (n := 2) (q := 33) (by decide +kernel) rfl ?_
        refine Wk.idiv (q := 34) (by decide +kernel) (by first | omega | exact bi_rng _) (by first | omega | exact bi_rng _) rfl ?_
        exact Wk.rI (by decide +kernel) rfl (rfl)
      · omega
    · intro k k0 k1 ih
      rw [sm_step _ k0] at ih
      refine Wk.iload_n (k := 2) (q := 5) (by decide +kernel) rfl rfl rfl ?_
      refine Wk.aload_n (k := 0) (q := 6) (by decide +kernel) rfl rfl rfl ?_
      refine Wk.getR (r := 149) (q := 9) f_Mod_7 (by decide +kernel) O_148 (by decide) rfl rfl rfl ?_
      refine Wk.iconst (n := 4) (q := 10) (by decide +kernel) rfl ?_
      refine Wk.iaload (q := 11) (by decide +kernel) A_149 (by first | omega | exact bi_rng _) (by first | omega | exact bi_rng _) rfl ?_
      refine Wk.icmp_ge (off := (20)) (t := 31) (q := 14) (by decide +kernel) (by decide) rfl (by first | omega | exact bi_rng _) (by first | omega | exact bi_rng _) (fun hc11 => ?_) (fun hc11 => ?_)
      · omega
      · refine Wk.iload_n (k := 1) (q := 15) (by decide +kernel) rfl rfl rfl ?_
        refine Wk.aload_n (k := 0) (q := 16) (by decide +kernel) rfl rfl rfl ?_
        refine Wk.iload_n (k := 2) (q := 17) (by decide +kernel) rfl rfl rfl ?_
        refine Wk.cVi (q := 20) l_Mod_90 m_Mod_clashes (by decide +kernel) (fun _ h => h) O_148 rfl (Nat.le_of_ble_eq_true rfl) (Nat.le_of_ble_eq_true rfl) rfl (c_Mod_clashes k0 k1 hM) rfl ?_
        refine Wk.cSi (q := 23) l_Mod_115 m_Mod_ones (by decide +kernel) (fun _ h => h) (Nat.le_of_ble_eq_true rfl) (Nat.le_of_ble_eq_true rfl) rfl (c_Mod_ones (so_r5 _ (by omega)).1 (so_r5 _ (by omega)).2) rfl ?_
        refine Wk.iadd (q := 24) (by decide +kernel) rfl ?_
        refine Wk.istore_n (k := 1) (q := 25) (by decide +kernel) rfl (by decide) rfl (fun _ h => h) rfl ?_
        refine Wk.iinc (i := 2) (n := 1) (q := 28) (by decide +kernel) rfl (by decide) rfl (fun _ h => h) rfl ?_
        refine Wk.goto (off := (-24)) (q := 4) (by decide +kernel) (by decide) ?_
        exact ih
  refine Wk.iconst (n := 0) (q := 1) (by decide +kernel) rfl ?_
  refine Wk.istore_n (k := 1) (q := 2) (by decide +kernel) rfl (by decide) rfl (fun _ h => h) rfl ?_
  refine Wk.iconst (n := 0) (q := 3) (by decide +kernel) rfl ?_
  refine Wk.istore_n (k := 2) (q := 4) (by decide +kernel) rfl (by decide) rfl (fun _ h => h) rfl ?_
  exact key
theorem c_Swing_pairsThatClash (hC : CW I) : Wk xs x_Swing_pairsThatClash (d + 4) 0 0 0 [some (vr 1), none, none] [] X2 I L (pI (sm (fun a => ct (fun b => bt (so (fun b => ¬ b = a ∧ cCL I (I 1 3) a b) (I 1 4).toNat) b = true) 5) (I 1 4).toNat / 2) I L) := by
  have hA : 0 ≤ I 1 4 ∧ I 1 4 ≤ 5 := hC.1.2.2.2.2.1
  have hF : 1 ≤ I 1 3 ∧ I 1 3 ≤ 255 := hC.1.2.2.2.1
  have hr := sm_range (f := (fun a => ct (fun b => bt (so (fun b => ¬ b = a ∧ cCL I (I 1 3) a b) (I 1 4).toNat) b = true) 5)) (B := 5) (fun k => ct_range _ 5) (I 1 4).toNat
  have key : Wk xs x_Swing_pairsThatClash (d + 4) 0 0 4 [some (vr 1), some (vi (sm (fun a => ct (fun b => bt (so (fun b => ¬ b = a ∧ cCL I (I 1 3) a b) (I 1 4).toNat) b = true) 5) (0 : Int).toNat)), some (vi 0)] [] X2 I L (pI (sm (fun a => ct (fun b => bt (so (fun b => ¬ b = a ∧ cCL I (I 1 3) a b) (I 1 4).toNat) b = true) 5) (I 1 4).toNat / 2) I L) := by
    refine loopI (fun k => Wk xs x_Swing_pairsThatClash (d + 4) 0 0 4 [some (vr 1), some (vi (sm (fun a => ct (fun b => bt (so (fun b => ¬ b = a ∧ cCL I (I 1 3) a b) (I 1 4).toNat) b = true) 5) k.toNat)), some (vi k)] [] X2 I L (pI (sm (fun a => ct (fun b => bt (so (fun b => ¬ b = a ∧ cCL I (I 1 3) a b) (I 1 4).toNat) b = true) 5) (I 1 4).toNat / 2) I L)) (I 1 4) 0 (by omega) ?_ ?_
    · refine Wk.iload_n (k := 2) (q := 5) (by decide +kernel) rfl rfl rfl ?_
      refine Wk.aload_n (k := 0) (q := 6) (by decide +kernel) rfl rfl rfl ?_
      refine Wk.getI (z := 4) (q := 9) f_Swing_58 (by decide +kernel) O_1 (by decide) rfl rfl rfl ?_
      refine Wk.icmp_ge (off := (24)) (t := 33) (q := 12) (by decide +kernel) (by decide) rfl (by first | omega | exact bi_rng _) (by first | omega | exact bi_rng _) (fun hc9 => ?_) (fun hc9 => ?_)
      · refine Wk.iload_n (k := 1) (q := 34) (by decide +kernel) rfl rfl rfl ?_
        refine Wk.iconst (n := 2) (q := 35) (by decide +kernel) rfl ?_
        refine Wk.idiv (q := 36) (by decide +kernel) (by first | omega | exact bi_rng _) (by first | omega | exact bi_rng _) rfl ?_
        exact Wk.rI (by decide +kernel) rfl (rfl)
      · omega
    · intro k k0 k1 ih
      rw [sm_step _ k0] at ih
      refine Wk.iload_n (k := 2) (q := 5) (by decide +kernel) rfl rfl rfl ?_
      refine Wk.aload_n (k := 0) (q := 6) (by decide +kernel) rfl rfl rfl ?_
      refine Wk.getI (z := 4) (q := 9) f_Swing_58 (by decide +kernel) O_1 (by decide) rfl rfl rfl ?_
      refine Wk.icmp_ge (off := (24)) (t := 33) (q := 12) (by decide +kernel) (by decide) rfl (by first | omega | exact bi_rng _) (by first | omega | exact bi_rng _) (fun hc9 => ?_) (fun hc9 => ?_)
      · omega
      · refine Wk.iload_n (k := 1) (q := 13) (by decide +kernel) rfl rfl rfl ?_
        refine Wk.aload_n (k := 0) (q := 14) (by decide +kernel) rfl rfl rfl ?_
        refine Wk.iload_n (k := 2) (q := 15) (by decide +kernel) rfl rfl rfl ?_
        refine Wk.aload_n (k := 0) (q := 16) (by decide +kernel) rfl rfl rfl ?_
        refine Wk.getI (z := 3) (q := 19) f_Swing_39 (by decide +kernel) O_1 (by decide) rfl rfl rfl ?_
        refine Wk.cSi (q := 22) l_Swing_94 m_Swing_clashesOf (by decide +kernel) (fun _ h => h) (Nat.le_of_ble_eq_true rfl) (Nat.le_of_ble_eq_true rfl) rfl (c_Swing_clashesOf k0 k1 (by omega) hC) rfl ?_
        refine Wk.cSi (q := 25) l_Swing_97 m_Integer_bitCount (by decide +kernel) (fun _ h => h) (Nat.le_of_ble_eq_true rfl) (Nat.le_of_ble_eq_true rfl) rfl (c_Integer_bitCount (so_r5 _ (by omega)).1 (so_r5 _ (by omega)).2) rfl ?_
        refine Wk.iadd (q := 26) (by decide +kernel) rfl ?_
        refine Wk.istore_n (k := 1) (q := 27) (by decide +kernel) rfl (by decide) rfl (fun _ h => h) rfl ?_
        refine Wk.iinc (i := 2) (n := 1) (q := 30) (by decide +kernel) rfl (by decide) rfl (fun _ h => h) rfl ?_
        refine Wk.goto (off := (-26)) (q := 4) (by decide +kernel) (by decide) ?_
        exact ih
  refine Wk.iconst (n := 0) (q := 1) (by decide +kernel) rfl ?_
  refine Wk.istore_n (k := 1) (q := 2) (by decide +kernel) rfl (by decide) rfl (fun _ h => h) rfl ?_
  refine Wk.iconst (n := 0) (q := 3) (by decide +kernel) rfl ?_
  refine Wk.istore_n (k := 2) (q := 4) (by decide +kernel) rfl (by decide) rfl (fun _ h => h) rfl ?_
  exact key
theorem c_Mod_sweepers {x y : Int} (hM : MW I) (hx : 0 ≤ x ∧ x ≤ 6) (hy : 0 ≤ y ∧ y ≤ 6) : Wk xs x_Mod_sweepers (d + 4) 0 0 0 [some (vr 148), some (vi x), some (vi y), none, none] [] X2 I L (pI (so (fun a => mSW I (55 + 4 * a) (I 149 (55 + 4 * a + 3)) x y) (I 149 4).toNat) I L) := by
  obtain ⟨hI, hS, hQ⟩ := id hM
  obtain ⟨hW, hH, hT, hF, hA, hK, hD⟩ := id hI
  have h49 := WH49 (W := I 149 0) (H := I 149 1) (by omega) (by omega)
  have key : Wk xs x_Mod_sweepers (d + 4) 0 0 5 [some (vr 148), some (vi x), some (vi y), some (vi (so (fun a => mSW I (55 + 4 * a) (I 149 (55 + 4 * a + 3)) x y) (0 : Int).toNat)), some (vi 0)] [] X2 I L (pI (so (fun a => mSW I (55 + 4 * a) (I 149 (55 + 4 * a + 3)) x y) (I 149 4).toNat) I L) := by
    refine loopI (fun k => Wk xs x_Mod_sweepers (d + 4) 0 0 5 [some (vr 148), some (vi x), some (vi y), some (vi (so (fun a => mSW I (55 + 4 * a) (I 149 (55 + 4 * a + 3)) x y) k.toNat)), some (vi k)] [] X2 I L (pI (so (fun a => mSW I (55 + 4 * a) (I 149 (55 + 4 * a + 3)) x y) (I 149 4).toNat) I L)) (I 149 4) 0 (by omega) ?_ ?_
    · refine Wk.iload (i := 4) (q := 7) (by decide +kernel) rfl rfl ?_
      refine Wk.aload_n (k := 0) (q := 8) (by decide +kernel) rfl rfl rfl ?_
      refine Wk.getR (r := 149) (q := 11) f_Mod_7 (by decide +kernel) O_148 (by decide) rfl rfl rfl ?_
      refine Wk.iconst (n := 4) (q := 12) (by decide +kernel) rfl ?_
      refine Wk.iaload (q := 13) (by decide +kernel) A_149 (by first | omega | exact bi_rng _) (by first | omega | exact bi_rng _) rfl ?_
      refine Wk.icmp_ge (off := (46)) (t := 59) (q := 16) (by decide +kernel) (by decide) rfl (by first | omega | exact bi_rng _) (by first | omega | exact bi_rng _) (fun hc13 => ?_) (fun hc13 => ?_)
      · refine Wk.iload_n (k := 3) (q := 60) (by decide +kernel) rfl rfl rfl ?_
        exact Wk.rI (by decide +kernel) rfl (rfl)
      · omega
    · intro k k0 k1 ih
      have hs := so_range (fun a => mSW I (55 + 4 * a) (I 149 (55 + 4 * a + 3)) x y) k.toNat
      have hs2 := so_r5 (fun a => mSW I (55 + 4 * a) (I 149 (55 + 4 * a + 3)) x y) (n := k.toNat) (by omega)
      rw [so_step _ k0] at ih
      refine Wk.iload (i := 4) (q := 7) (by decide +kernel) rfl rfl ?_
      refine Wk.aload_n (k := 0) (q := 8) (by decide +kernel) rfl rfl rfl ?_
      refine Wk.getR (r := 149) (q := 11) f_Mod_7 (by decide +kernel) O_148 (by decide) rfl rfl rfl ?_
      refine Wk.iconst (n := 4) (q := 12) (by decide +kernel) rfl ?_
      refine Wk.iaload (q := 13) (by decide +kernel) A_149 (by first | omega | exact bi_rng _) (by first | omega | exact bi_rng _) rfl ?_
      refine Wk.icmp_ge (off := (46)) (t := 59) (q := 16) (by decide +kernel) (by decide) rfl (by first | omega | exact bi_rng _) (by first | omega | exact bi_rng _) (fun hc13 => ?_) (fun hc13 => ?_)
      · omega
      · refine Wk.iload_n (k := 3) (q := 17) (by decide +kernel) rfl rfl rfl ?_
        refine Wk.aload_n (k := 0) (q := 18) (by decide +kernel) rfl rfl rfl ?_
        refine Wk.iload (i := 4) (q := 20) (by decide +kernel) rfl rfl ?_
        refine Wk.cSi (q := 23) l_Mod_77 m_Mod_shipAt (by decide +kernel) (fun _ h => h) (Nat.le_of_ble_eq_true rfl) (Nat.le_of_ble_eq_true rfl) rfl (c_Mod_shipAt) rfl ?_
        refine Wk.aload_n (k := 0) (q := 24) (by decide +kernel) rfl rfl rfl ?_
        refine Wk.getR (r := 149) (q := 27) f_Mod_7 (by decide +kernel) O_148 (by decide) rfl rfl rfl ?_
        refine Wk.iload (i := 4) (q := 29) (by decide +kernel) rfl rfl ?_
        refine Wk.cSi (q := 32) l_Mod_77 m_Mod_shipAt (by decide +kernel) (fun _ h => h) (Nat.le_of_ble_eq_true rfl) (Nat.le_of_ble_eq_true rfl) rfl (c_Mod_shipAt) rfl ?_
        refine Wk.iconst (n := 3) (q := 33) (by decide +kernel) rfl ?_
        refine Wk.iadd (q := 34) (by decide +kernel) rfl ?_
        refine Wk.iaload (q := 35) (by decide +kernel) A_149 (by first | omega | exact bi_rng _) (by first | omega | exact bi_rng _) rfl ?_
        refine Wk.iload_n (k := 1) (q := 36) (by decide +kernel) rfl rfl rfl ?_
        refine Wk.iload_n (k := 2) (q := 37) (by decide +kernel) rfl rfl rfl ?_
        refine Wk.cVi (q := 40) l_Mod_125 m_Mod_sweeps (by decide +kernel) (fun _ h => h) O_148 rfl (Nat.le_of_ble_eq_true rfl) (Nat.le_of_ble_eq_true rfl) rfl (c_Mod_sweeps hI (hS k k0 k1).1 (hS k k0 k1).2 hx hy) rfl ?_
        refine Wk.ifB_eq (off := (10)) (t := 50) (q := 43) (by decide +kernel) (by decide) rfl (fun hc40 => ?_) (fun hc40 => ?_)
        · refine Wk.iconst (n := 0) (q := 51) (by decide +kernel) rfl ?_
          refine Wk.ior (q := 52) (by decide +kernel) rfl ?_
          refine Wk.istore_n (k := 3) (q := 53) (by decide +kernel) rfl (by decide) rfl (fun _ h => h) rfl ?_
          refine Wk.iinc (i := 4) (n := 1) (q := 56) (by decide +kernel) rfl (by decide) rfl (fun _ h => h) rfl ?_
          refine Wk.goto (off := (-51)) (q := 5) (by decide +kernel) (by decide) ?_
          first
            | (rw [or_above hs.1 hs.2 k0 (by omega)]
               rw [bi_t (hc40), Int.one_mul] at ih
               exact ih)
            | (rw [or_nil hs2.1 (by omega)]
               rw [bi_f (hc40), Int.zero_mul, Int.add_zero] at ih
               exact ih)
        · refine Wk.iconst (n := 1) (q := 44) (by decide +kernel) rfl ?_
          refine Wk.iload (i := 4) (q := 46) (by decide +kernel) rfl rfl ?_
          refine Wk.ishl (q := 47) (by decide +kernel) rfl ?_
          refine Wk.goto (off := (4)) (q := 51) (by decide +kernel) (by decide) ?_
          refine Wk.ior (q := 52) (by decide +kernel) rfl ?_
          refine Wk.istore_n (k := 3) (q := 53) (by decide +kernel) rfl (by decide) rfl (fun _ h => h) rfl ?_
          refine Wk.iinc (i := 4) (n := 1) (q := 56) (by decide +kernel) rfl (by decide) rfl (fun _ h => h) rfl ?_
          refine Wk.goto (off := (-51)) (q := 5) (by decide +kernel) (by decide) ?_
          first
            | (rw [or_above hs.1 hs.2 k0 (by omega)]
               rw [bi_t (hc40), Int.one_mul] at ih
               exact ih)
            | (rw [or_nil hs2.1 (by omega)]
               rw [bi_f (hc40), Int.zero_mul, Int.add_zero] at ih
               exact ih)
  refine Wk.iconst (n := 0) (q := 1) (by decide +kernel) rfl ?_
  refine Wk.istore_n (k := 3) (q := 2) (by decide +kernel) rfl (by decide) rfl (fun _ h => h) rfl ?_
  refine Wk.iconst (n := 0) (q := 3) (by decide +kernel) rfl ?_
  refine Wk.istore (i := 4) (q := 5) (by decide +kernel) (by decide) rfl (fun _ h => h) rfl ?_
  exact key
theorem c_Mod_swept (hM : MW I) : Wk xs x_Mod_swept (d + 5) 0 0 0 [some (vr 148), none, none] [] X2 I L (pI (ct (fun c => ¬ so (fun a => mSW I (55 + 4 * a) (I 149 (55 + 4 * a + 3)) (c % I 149 0) (c / I 149 0)) (I 149 4).toNat = 0) (I 149 0 * I 149 1).toNat) I L) := by
  obtain ⟨hI, hS, hQ⟩ := id hM
  obtain ⟨hW, hH, hT, hF, hA, hK, hD⟩ := id hI
  have h49 := WH49 (W := I 149 0) (H := I 149 1) (by omega) (by omega)
  have key : Wk xs x_Mod_swept (d + 5) 0 0 4 [some (vr 148), some (vi (ct (fun c => ¬ so (fun a => mSW I (55 + 4 * a) (I 149 (55 + 4 * a + 3)) (c % I 149 0) (c / I 149 0)) (I 149 4).toNat = 0) (0 : Int).toNat)), some (vi 0)] [] X2 I L (pI (ct (fun c => ¬ so (fun a => mSW I (55 + 4 * a) (I 149 (55 + 4 * a + 3)) (c % I 149 0) (c / I 149 0)) (I 149 4).toNat = 0) (I 149 0 * I 149 1).toNat) I L) := by
    refine loopI (fun k => Wk xs x_Mod_swept (d + 5) 0 0 4 [some (vr 148), some (vi (ct (fun c => ¬ so (fun a => mSW I (55 + 4 * a) (I 149 (55 + 4 * a + 3)) (c % I 149 0) (c / I 149 0)) (I 149 4).toNat = 0) k.toNat)), some (vi k)] [] X2 I L (pI (ct (fun c => ¬ so (fun a => mSW I (55 + 4 * a) (I 149 (55 + 4 * a + 3)) (c % I 149 0) (c / I 149 0)) (I 149 4).toNat = 0) (I 149 0 * I 149 1).toNat) I L)) (I 149 0 * I 149 1) 0 (by omega) ?_ ?_
    · refine Wk.iload_n (k := 2) (q := 5) (by decide +kernel) rfl rfl rfl ?_
      refine Wk.aload_n (k := 0) (q := 6) (by decide +kernel) rfl rfl rfl ?_
      refine Wk.cVi (q := 9) l_Mod_97 m_Mod_cells (by decide +kernel) (fun _ h => h) O_148 rfl (Nat.le_of_ble_eq_true rfl) (Nat.le_of_ble_eq_true rfl) rfl (c_Mod_cells) rfl ?_
      refine Wk.icmp_ge (off := (40)) (t := 49) (q := 12) (by decide +kernel) (by decide) rfl (by first | omega | exact bi_rng _) (by first | omega | exact bi_rng _) (fun hc9 => ?_) (fun hc9 => ?_)
      · refine Wk.iload_n (k := 1) (q := 50) (by decide +kernel) rfl rfl rfl ?_
        exact Wk.rI (by decide +kernel) rfl (rfl)
      · omega
    · intro k k0 k1 ih
      rw [ct_step _ k0] at ih
      obtain ⟨hcx, hcy⟩ := mcoord hW.1 k0 k1
      have hso : 0 ≤ so (fun a => mSW I (55 + 4 * a) (I 149 (55 + 4 * a + 3)) (k % I 149 0) (k / I 149 0)) (I 149 4).toNat ∧ so (fun a => mSW I (55 + 4 * a) (I 149 (55 + 4 * a + 3)) (k % I 149 0) (k / I 149 0)) (I 149 4).toNat < 32 := so_r5 _ (by omega)
      refine Wk.iload_n (k := 2) (q := 5) (by decide +kernel) rfl rfl rfl ?_
      refine Wk.aload_n (k := 0) (q := 6) (by decide +kernel) rfl rfl rfl ?_
      refine Wk.cVi (q := 9) l_Mod_97 m_Mod_cells (by decide +kernel) (fun _ h => h) O_148 rfl (Nat.le_of_ble_eq_true rfl) (Nat.le_of_ble_eq_true rfl) rfl (c_Mod_cells) rfl ?_
      refine Wk.icmp_ge (off := (40)) (t := 49) (q := 12) (by decide +kernel) (by decide) rfl (by first | omega | exact bi_rng _) (by first | omega | exact bi_rng _) (fun hc9 => ?_) (fun hc9 => ?_)
      · omega
      · refine Wk.iload_n (k := 1) (q := 13) (by decide +kernel) rfl rfl rfl ?_
        refine Wk.aload_n (k := 0) (q := 14) (by decide +kernel) rfl rfl rfl ?_
        refine Wk.iload_n (k := 2) (q := 15) (by decide +kernel) rfl rfl rfl ?_
        refine Wk.aload_n (k := 0) (q := 16) (by decide +kernel) rfl rfl rfl ?_
        refine Wk.getR (r := 149) (q := 19) f_Mod_7 (by decide +kernel) O_148 (by decide) rfl rfl rfl ?_
        refine Wk.iconst (n := 0) (q := 20) (by decide +kernel) rfl ?_
        refine Wk.iaload (q := 21) (by decide +kernel) A_149 (by first | omega | exact bi_rng _) (by first | omega | exact bi_rng _) rfl ?_
        refine Wk.irem (q := 22) (by decide +kernel) (by first | omega | exact bi_rng _) (by first | omega | exact bi_rng _) rfl ?_
        refine Wk.iload_n (k := 2) (q := 23) (by decide +kernel) rfl rfl rfl ?_
        refine Wk.aload_n (k := 0) (q := 24) (by decide +kernel) rfl rfl rfl ?_
        refine Wk.getR (r := 149) (q := 27) f_Mod_7 (by decide +kernel) O_148 (by decide) rfl rfl rfl ?_
        refine Wk.iconst (n := 0) (q := 28) (by decide +kernel) rfl ?_
        refine Wk.iaload (q := 29) (by decide +kernel) A_149 (by first | omega | exact bi_rng _) (by first | omega | exact bi_rng _) rfl ?_
        refine Wk.idiv (q := 30) (by decide +kernel) (by first | omega | exact bi_rng _) (by first | omega | exact bi_rng _) rfl ?_
        refine Wk.cVi (q := 33) l_Mod_128 m_Mod_sweepers (by decide +kernel) (fun _ h => h) O_148 rfl (Nat.le_of_ble_eq_true rfl) (Nat.le_of_ble_eq_true rfl) rfl (c_Mod_sweepers hM (by omega) (by omega)) rfl ?_
        refine Wk.if_eq (off := (7)) (t := 40) (q := 36) (by decide +kernel) (by decide) rfl (by first | omega | exact bi_rng _) (fun hc33 => ?_) (fun hc33 => ?_)
        · refine Wk.iconst (n := 0) (q := 41) (by decide +kernel) rfl ?_
          refine Wk.iadd (q := 42) (by decide +kernel) rfl ?_
          refine Wk.istore_n (k := 1) (q := 43) (by decide +kernel) rfl (by decide) rfl (fun _ h => h) rfl ?_
          refine Wk.iinc (i := 2) (n := 1) (q := 46) (by decide +kernel) rfl (by decide) rfl (fun _ h => h) rfl ?_
          refine Wk.goto (off := (-42)) (q := 4) (by decide +kernel) (by decide) ?_
          first
            | (rw [bi_t (hc33)] at ih
               exact ih)
            | (rw [bi_f (fun z => z hc33)] at ih
               exact ih)
        · refine Wk.iconst (n := 1) (q := 37) (by decide +kernel) rfl ?_
          refine Wk.goto (off := (4)) (q := 41) (by decide +kernel) (by decide) ?_
          refine Wk.iadd (q := 42) (by decide +kernel) rfl ?_
          refine Wk.istore_n (k := 1) (q := 43) (by decide +kernel) rfl (by decide) rfl (fun _ h => h) rfl ?_
          refine Wk.iinc (i := 2) (n := 1) (q := 46) (by decide +kernel) rfl (by decide) rfl (fun _ h => h) rfl ?_
          refine Wk.goto (off := (-42)) (q := 4) (by decide +kernel) (by decide) ?_
          first
            | (rw [bi_t (hc33)] at ih
               exact ih)
            | (rw [bi_f (fun z => z hc33)] at ih
               exact ih)
  refine Wk.iconst (n := 0) (q := 1) (by decide +kernel) rfl ?_
  refine Wk.istore_n (k := 1) (q := 2) (by decide +kernel) rfl (by decide) rfl (fun _ h => h) rfl ?_
  refine Wk.iconst (n := 0) (q := 3) (by decide +kernel) rfl ?_
  refine Wk.istore_n (k := 2) (q := 4) (by decide +kernel) rfl (by decide) rfl (fun _ h => h) rfl ?_
  exact key
theorem c_Mod_sweptBy {a : Int} (h0 : 0 ≤ a) (h1 : a < I 149 4) (hM : MW I) : Wk xs x_Mod_sweptBy (d + 5) 0 0 0 [some (vr 148), some (vi a), none, none] [] X2 I L (pI (ct (fun c => bt (so (fun a => mSW I (55 + 4 * a) (I 149 (55 + 4 * a + 3)) (c % I 149 0) (c / I 149 0)) (I 149 4).toNat) a = true) (I 149 0 * I 149 1).toNat) I L) := by
  obtain ⟨hI, hS, hQ⟩ := id hM
  obtain ⟨hW, hH, hT, hF, hA, hK, hD⟩ := id hI
  have h49 := WH49 (W := I 149 0) (H := I 149 1) (by omega) (by omega)
  have key : Wk xs x_Mod_sweptBy (d + 5) 0 0 4 [some (vr 148), some (vi a), some (vi (ct (fun c => bt (so (fun a => mSW I (55 + 4 * a) (I 149 (55 + 4 * a + 3)) (c % I 149 0) (c / I 149 0)) (I 149 4).toNat) a = true) (0 : Int).toNat)), some (vi 0)] [] X2 I L (pI (ct (fun c => bt (so (fun a => mSW I (55 + 4 * a) (I 149 (55 + 4 * a + 3)) (c % I 149 0) (c / I 149 0)) (I 149 4).toNat) a = true) (I 149 0 * I 149 1).toNat) I L) := by
    refine loopI (fun k => Wk xs x_Mod_sweptBy (d + 5) 0 0 4 [some (vr 148), some (vi a), some (vi (ct (fun c => bt (so (fun a => mSW I (55 + 4 * a) (I 149 (55 + 4 * a + 3)) (c % I 149 0) (c / I 149 0)) (I 149 4).toNat) a = true) k.toNat)), some (vi k)] [] X2 I L (pI (ct (fun c => bt (so (fun a => mSW I (55 + 4 * a) (I 149 (55 + 4 * a + 3)) (c % I 149 0) (c / I 149 0)) (I 149 4).toNat) a = true) (I 149 0 * I 149 1).toNat) I L)) (I 149 0 * I 149 1) 0 (by omega) ?_ ?_
    · refine Wk.iload_n (k := 3) (q := 5) (by decide +kernel) rfl rfl rfl ?_
      refine Wk.aload_n (k := 0) (q := 6) (by decide +kernel) rfl rfl rfl ?_
      refine Wk.cVi (q := 9) l_Mod_97 m_Mod_cells (by decide +kernel) (fun _ h => h) O_148 rfl (Nat.le_of_ble_eq_true rfl) (Nat.le_of_ble_eq_true rfl) rfl (c_Mod_cells) rfl ?_
      refine Wk.icmp_ge (off := (44)) (t := 53) (q := 12) (by decide +kernel) (by decide) rfl (by first | omega | exact bi_rng _) (by first | omega | exact bi_rng _) (fun hc9 => ?_) (fun hc9 => ?_)
      · refine Wk.iload_n (k := 2) (q := 54) (by decide +kernel) rfl rfl rfl ?_
        exact Wk.rI (by decide +kernel) rfl (rfl)
      · omega
    · intro k k0 k1 ih
      rw [ct_step _ k0] at ih
      obtain ⟨hcx, hcy⟩ := mcoord hW.1 k0 k1
      have hso : 0 ≤ so (fun a => mSW I (55 + 4 * a) (I 149 (55 + 4 * a + 3)) (k % I 149 0) (k / I 149 0)) (I 149 4).toNat ∧ so (fun a => mSW I (55 + 4 * a) (I 149 (55 + 4 * a + 3)) (k % I 149 0) (k / I 149 0)) (I 149 4).toNat < 32 := so_r5 _ (by omega)
      refine Wk.iload_n (k := 3) (q := 5) (by decide +kernel) rfl rfl rfl ?_
      refine Wk.aload_n (k := 0) (q := 6) (by decide +kernel) rfl rfl rfl ?_
      refine Wk.cVi (q := 9) l_Mod_97 m_Mod_cells (by decide +kernel) (fun _ h => h) O_148 rfl (Nat.le_of_ble_eq_true rfl) (Nat.le_of_ble_eq_true rfl) rfl (c_Mod_cells) rfl ?_
      refine Wk.icmp_ge (off := (44)) (t := 53) (q := 12) (by decide +kernel) (by decide) rfl (by first | omega | exact bi_rng _) (by first | omega | exact bi_rng _) (fun hc9 => ?_) (fun hc9 => ?_)
      · omega
      · refine Wk.iload_n (k := 2) (q := 13) (by decide +kernel) rfl rfl rfl ?_
        refine Wk.aload_n (k := 0) (q := 14) (by decide +kernel) rfl rfl rfl ?_
        refine Wk.iload_n (k := 3) (q := 15) (by decide +kernel) rfl rfl rfl ?_
        refine Wk.aload_n (k := 0) (q := 16) (by decide +kernel) rfl rfl rfl ?_
        refine Wk.getR (r := 149) (q := 19) f_Mod_7 (by decide +kernel) O_148 (by decide) rfl rfl rfl ?_
        refine Wk.iconst (n := 0) (q := 20) (by decide +kernel) rfl ?_
        refine Wk.iaload (q := 21) (by decide +kernel) A_149 (by first | omega | exact bi_rng _) (by first | omega | exact bi_rng _) rfl ?_
        refine Wk.irem (q := 22) (by decide +kernel) (by first | omega | exact bi_rng _) (by first | omega | exact bi_rng _) rfl ?_
        refine Wk.iload_n (k := 3) (q := 23) (by decide +kernel) rfl rfl rfl ?_
        refine Wk.aload_n (k := 0) (q := 24) (by decide +kernel) rfl rfl rfl ?_
        refine Wk.getR (r := 149) (q := 27) f_Mod_7 (by decide +kernel) O_148 (by decide) rfl rfl rfl ?_
        refine Wk.iconst (n := 0) (q := 28) (by decide +kernel) rfl ?_
        refine Wk.iaload (q := 29) (by decide +kernel) A_149 (by first | omega | exact bi_rng _) (by first | omega | exact bi_rng _) rfl ?_
        refine Wk.idiv (q := 30) (by decide +kernel) (by first | omega | exact bi_rng _) (by first | omega | exact bi_rng _) rfl ?_
        refine Wk.cVi (q := 33) l_Mod_128 m_Mod_sweepers (by decide +kernel) (fun _ h => h) O_148 rfl (Nat.le_of_ble_eq_true rfl) (Nat.le_of_ble_eq_true rfl) rfl (c_Mod_sweepers hM (by omega) (by omega)) rfl ?_
        refine Wk.iload_n (k := 1) (q := 34) (by decide +kernel) rfl rfl rfl ?_
        refine Wk.cSi (q := 37) l_Mod_58 m_Mod_has (by decide +kernel) (fun _ h => h) (Nat.le_of_ble_eq_true rfl) (Nat.le_of_ble_eq_true rfl) rfl (c_Mod_has (by omega) (by omega) (by omega) (by omega)) rfl ?_
        refine Wk.ifB_eq (off := (7)) (t := 44) (q := 40) (by decide +kernel) (by decide) rfl (fun hc37 => ?_) (fun hc37 => ?_)
        · refine Wk.iconst (n := 0) (q := 45) (by decide +kernel) rfl ?_
          refine Wk.iadd (q := 46) (by decide +kernel) rfl ?_
          refine Wk.istore_n (k := 2) (q := 47) (by decide +kernel) rfl (by decide) rfl (fun _ h => h) rfl ?_
          refine Wk.iinc (i := 3) (n := 1) (q := 50) (by decide +kernel) rfl (by decide) rfl (fun _ h => h) rfl ?_
          refine Wk.goto (off := (-46)) (q := 4) (by decide +kernel) (by decide) ?_
          first
            | (rw [bi_t (hc37)] at ih
               exact ih)
            | (rw [bi_f (hc37)] at ih
               exact ih)
        · refine Wk.iconst (n := 1) (q := 41) (by decide +kernel) rfl ?_
          refine Wk.goto (off := (4)) (q := 45) (by decide +kernel) (by decide) ?_
          refine Wk.iadd (q := 46) (by decide +kernel) rfl ?_
          refine Wk.istore_n (k := 2) (q := 47) (by decide +kernel) rfl (by decide) rfl (fun _ h => h) rfl ?_
          refine Wk.iinc (i := 3) (n := 1) (q := 50) (by decide +kernel) rfl (by decide) rfl (fun _ h => h) rfl ?_
          refine Wk.goto (off := (-46)) (q := 4) (by decide +kernel) (by decide) ?_
          first
            | (rw [bi_t (hc37)] at ih
               exact ih)
            | (rw [bi_f (hc37)] at ih
               exact ih)
  refine Wk.iconst (n := 0) (q := 1) (by decide +kernel) rfl ?_
  refine Wk.istore_n (k := 2) (q := 2) (by decide +kernel) rfl (by decide) rfl (fun _ h => h) rfl ?_
  refine Wk.iconst (n := 0) (q := 3) (by decide +kernel) rfl ?_
  refine Wk.istore_n (k := 3) (q := 4) (by decide +kernel) rfl (by decide) rfl (fun _ h => h) rfl ?_
  exact key
theorem c_Mod_fitters {c : Int} (hM : MW I) (hc : mC I c) : Wk xs x_Mod_fitters (d + 6) 0 0 0 [some (vr 148), some (vi c), none, none] [] X2 I L (pI (so (fun k => mFr I (75 + 4 * k) 0 c) (I 149 5).toNat) I L) := by
  obtain ⟨hI, hS, hQ⟩ := id hM
  obtain ⟨hW, hH, hT, hF, hA, hK, hD⟩ := id hI
  have h49 := WH49 (W := I 149 0) (H := I 149 1) (by omega) (by omega)
  have key : Wk xs x_Mod_fitters (d + 6) 0 0 4 [some (vr 148), some (vi c), some (vi (so (fun k => mFr I (75 + 4 * k) 0 c) (0 : Int).toNat)), some (vi 0)] [] X2 I L (pI (so (fun k => mFr I (75 + 4 * k) 0 c) (I 149 5).toNat) I L) := by
    refine loopI (fun k => Wk xs x_Mod_fitters (d + 6) 0 0 4 [some (vr 148), some (vi c), some (vi (so (fun k => mFr I (75 + 4 * k) 0 c) k.toNat)), some (vi k)] [] X2 I L (pI (so (fun k => mFr I (75 + 4 * k) 0 c) (I 149 5).toNat) I L)) (I 149 5) 0 (by omega) ?_ ?_
    · refine Wk.iload_n (k := 3) (q := 5) (by decide +kernel) rfl rfl rfl ?_
      refine Wk.aload_n (k := 0) (q := 6) (by decide +kernel) rfl rfl rfl ?_
      refine Wk.getR (r := 149) (q := 9) f_Mod_7 (by decide +kernel) O_148 (by decide) rfl rfl rfl ?_
      refine Wk.iconst (n := 5) (q := 10) (by decide +kernel) rfl ?_
      refine Wk.iaload (q := 11) (by decide +kernel) A_149 (by first | omega | exact bi_rng _) (by first | omega | exact bi_rng _) rfl ?_
      refine Wk.icmp_ge (off := (32)) (t := 43) (q := 14) (by decide +kernel) (by decide) rfl (by first | omega | exact bi_rng _) (by first | omega | exact bi_rng _) (fun hc11 => ?_) (fun hc11 => ?_)
      · refine Wk.iload_n (k := 2) (q := 44) (by decide +kernel) rfl rfl rfl ?_
        exact Wk.rI (by decide +kernel) rfl (rfl)
      · omega
    · intro k k0 k1 ih
      have hs := so_range (fun k => mFr I (75 + 4 * k) 0 c) k.toNat
      have hs2 := so_r5 (fun k => mFr I (75 + 4 * k) 0 c) (n := k.toNat) (by omega)
      rw [so_step _ k0] at ih
      refine Wk.iload_n (k := 3) (q := 5) (by decide +kernel) rfl rfl rfl ?_
      refine Wk.aload_n (k := 0) (q := 6) (by decide +kernel) rfl rfl rfl ?_
      refine Wk.getR (r := 149) (q := 9) f_Mod_7 (by decide +kernel) O_148 (by decide) rfl rfl rfl ?_
      refine Wk.iconst (n := 5) (q := 10) (by decide +kernel) rfl ?_
      refine Wk.iaload (q := 11) (by decide +kernel) A_149 (by first | omega | exact bi_rng _) (by first | omega | exact bi_rng _) rfl ?_
      refine Wk.icmp_ge (off := (32)) (t := 43) (q := 14) (by decide +kernel) (by decide) rfl (by first | omega | exact bi_rng _) (by first | omega | exact bi_rng _) (fun hc11 => ?_) (fun hc11 => ?_)
      · omega
      · refine Wk.iload_n (k := 2) (q := 15) (by decide +kernel) rfl rfl rfl ?_
        refine Wk.aload_n (k := 0) (q := 16) (by decide +kernel) rfl rfl rfl ?_
        refine Wk.iload_n (k := 3) (q := 17) (by decide +kernel) rfl rfl rfl ?_
        refine Wk.cSi (q := 20) l_Mod_100 m_Mod_waitAt (by decide +kernel) (fun _ h => h) (Nat.le_of_ble_eq_true rfl) (Nat.le_of_ble_eq_true rfl) rfl (c_Mod_waitAt) rfl ?_
        refine Wk.iload_n (k := 1) (q := 21) (by decide +kernel) rfl rfl rfl ?_
        refine Wk.iconst (n := 0) (q := 22) (by decide +kernel) rfl ?_
        refine Wk.cVi (q := 25) l_Mod_103 m_Mod_isFree (by decide +kernel) (fun _ h => h) O_148 rfl (Nat.le_of_ble_eq_true rfl) (Nat.le_of_ble_eq_true rfl) rfl (c_Mod_isFree hM (hQ k k0 k1) hc (by omega)) rfl ?_
        refine Wk.ifB_eq (off := (9)) (t := 34) (q := 28) (by decide +kernel) (by decide) rfl (fun hc25 => ?_) (fun hc25 => ?_)
        · refine Wk.iconst (n := 0) (q := 35) (by decide +kernel) rfl ?_
          refine Wk.ior (q := 36) (by decide +kernel) rfl ?_
          refine Wk.istore_n (k := 2) (q := 37) (by decide +kernel) rfl (by decide) rfl (fun _ h => h) rfl ?_
          refine Wk.iinc (i := 3) (n := 1) (q := 40) (by decide +kernel) rfl (by decide) rfl (fun _ h => h) rfl ?_
          refine Wk.goto (off := (-36)) (q := 4) (by decide +kernel) (by decide) ?_
          first
            | (rw [or_above hs.1 hs.2 k0 (by omega)]
               rw [bi_t (hc25), Int.one_mul] at ih
               exact ih)
            | (rw [or_nil hs2.1 (by omega)]
               rw [bi_f (hc25), Int.zero_mul, Int.add_zero] at ih
               exact ih)
        · refine Wk.iconst (n := 1) (q := 29) (by decide +kernel) rfl ?_
          refine Wk.iload_n (k := 3) (q := 30) (by decide +kernel) rfl rfl rfl ?_
          refine Wk.ishl (q := 31) (by decide +kernel) rfl ?_
          refine Wk.goto (off := (4)) (q := 35) (by decide +kernel) (by decide) ?_
          refine Wk.ior (q := 36) (by decide +kernel) rfl ?_
          refine Wk.istore_n (k := 2) (q := 37) (by decide +kernel) rfl (by decide) rfl (fun _ h => h) rfl ?_
          refine Wk.iinc (i := 3) (n := 1) (q := 40) (by decide +kernel) rfl (by decide) rfl (fun _ h => h) rfl ?_
          refine Wk.goto (off := (-36)) (q := 4) (by decide +kernel) (by decide) ?_
          first
            | (rw [or_above hs.1 hs.2 k0 (by omega)]
               rw [bi_t (hc25), Int.one_mul] at ih
               exact ih)
            | (rw [or_nil hs2.1 (by omega)]
               rw [bi_f (hc25), Int.zero_mul, Int.add_zero] at ih
               exact ih)
  refine Wk.iconst (n := 0) (q := 1) (by decide +kernel) rfl ?_
  refine Wk.istore_n (k := 2) (q := 2) (by decide +kernel) rfl (by decide) rfl (fun _ h => h) rfl ?_
  refine Wk.iconst (n := 0) (q := 3) (by decide +kernel) rfl ?_
  refine Wk.istore_n (k := 3) (q := 4) (by decide +kernel) rfl (by decide) rfl (fun _ h => h) rfl ?_
  exact key
theorem c_Mod_places {q : Int} (h0 : 0 ≤ q) (h1 : q < I 149 5) (hM : MW I) : Wk xs x_Mod_places (d + 6) 0 0 0 [some (vr 148), some (vi q), none, none] [] X2 I L (pI (ct (fun c => mFr I (75 + 4 * q) 0 c) (I 149 0 * I 149 1).toNat) I L) := by
  obtain ⟨hI, hS, hQ⟩ := id hM
  obtain ⟨hW, hH, hT, hF, hA, hK, hD⟩ := id hI
  have h49 := WH49 (W := I 149 0) (H := I 149 1) (by omega) (by omega)
  have key : Wk xs x_Mod_places (d + 6) 0 0 4 [some (vr 148), some (vi q), some (vi (ct (fun c => mFr I (75 + 4 * q) 0 c) (0 : Int).toNat)), some (vi 0)] [] X2 I L (pI (ct (fun c => mFr I (75 + 4 * q) 0 c) (I 149 0 * I 149 1).toNat) I L) := by
    refine loopI (fun k => Wk xs x_Mod_places (d + 6) 0 0 4 [some (vr 148), some (vi q), some (vi (ct (fun c => mFr I (75 + 4 * q) 0 c) k.toNat)), some (vi k)] [] X2 I L (pI (ct (fun c => mFr I (75 + 4 * q) 0 c) (I 149 0 * I 149 1).toNat) I L)) (I 149 0 * I 149 1) 0 (by omega) ?_ ?_
    · refine Wk.iload_n (k := 3) (q := 5) (by decide +kernel) rfl rfl rfl ?_
      refine Wk.aload_n (k := 0) (q := 6) (by decide +kernel) rfl rfl rfl ?_
      refine Wk.cVi (q := 9) l_Mod_97 m_Mod_cells (by decide +kernel) (fun _ h => h) O_148 rfl (Nat.le_of_ble_eq_true rfl) (Nat.le_of_ble_eq_true rfl) rfl (c_Mod_cells) rfl ?_
      refine Wk.icmp_ge (off := (30)) (t := 39) (q := 12) (by decide +kernel) (by decide) rfl (by first | omega | exact bi_rng _) (by first | omega | exact bi_rng _) (fun hc9 => ?_) (fun hc9 => ?_)
      · refine Wk.iload_n (k := 2) (q := 40) (by decide +kernel) rfl rfl rfl ?_
        exact Wk.rI (by decide +kernel) rfl (rfl)
      · omega
    · intro k k0 k1 ih
      rw [ct_step _ k0] at ih
      refine Wk.iload_n (k := 3) (q := 5) (by decide +kernel) rfl rfl rfl ?_
      refine Wk.aload_n (k := 0) (q := 6) (by decide +kernel) rfl rfl rfl ?_
      refine Wk.cVi (q := 9) l_Mod_97 m_Mod_cells (by decide +kernel) (fun _ h => h) O_148 rfl (Nat.le_of_ble_eq_true rfl) (Nat.le_of_ble_eq_true rfl) rfl (c_Mod_cells) rfl ?_
      refine Wk.icmp_ge (off := (30)) (t := 39) (q := 12) (by decide +kernel) (by decide) rfl (by first | omega | exact bi_rng _) (by first | omega | exact bi_rng _) (fun hc9 => ?_) (fun hc9 => ?_)
      · omega
      · refine Wk.iload_n (k := 2) (q := 13) (by decide +kernel) rfl rfl rfl ?_
        refine Wk.aload_n (k := 0) (q := 14) (by decide +kernel) rfl rfl rfl ?_
        refine Wk.iload_n (k := 1) (q := 15) (by decide +kernel) rfl rfl rfl ?_
        refine Wk.cSi (q := 18) l_Mod_100 m_Mod_waitAt (by decide +kernel) (fun _ h => h) (Nat.le_of_ble_eq_true rfl) (Nat.le_of_ble_eq_true rfl) rfl (c_Mod_waitAt) rfl ?_
        refine Wk.iload_n (k := 3) (q := 19) (by decide +kernel) rfl rfl rfl ?_
        refine Wk.iconst (n := 0) (q := 20) (by decide +kernel) rfl ?_
        refine Wk.cVi (q := 23) l_Mod_103 m_Mod_isFree (by decide +kernel) (fun _ h => h) O_148 rfl (Nat.le_of_ble_eq_true rfl) (Nat.le_of_ble_eq_true rfl) rfl (c_Mod_isFree hM (hQ q h0 h1) ⟨k0, k1⟩ (by omega)) rfl ?_
        refine Wk.ifB_eq (off := (7)) (t := 30) (q := 26) (by decide +kernel) (by decide) rfl (fun hc23 => ?_) (fun hc23 => ?_)
        · refine Wk.iconst (n := 0) (q := 31) (by decide +kernel) rfl ?_
          refine Wk.iadd (q := 32) (by decide +kernel) rfl ?_
          refine Wk.istore_n (k := 2) (q := 33) (by decide +kernel) rfl (by decide) rfl (fun _ h => h) rfl ?_
          refine Wk.iinc (i := 3) (n := 1) (q := 36) (by decide +kernel) rfl (by decide) rfl (fun _ h => h) rfl ?_
          refine Wk.goto (off := (-32)) (q := 4) (by decide +kernel) (by decide) ?_
          first
            | (rw [bi_t (hc23)] at ih
               exact ih)
            | (rw [bi_f (hc23)] at ih
               exact ih)
        · refine Wk.iconst (n := 1) (q := 27) (by decide +kernel) rfl ?_
          refine Wk.goto (off := (4)) (q := 31) (by decide +kernel) (by decide) ?_
          refine Wk.iadd (q := 32) (by decide +kernel) rfl ?_
          refine Wk.istore_n (k := 2) (q := 33) (by decide +kernel) rfl (by decide) rfl (fun _ h => h) rfl ?_
          refine Wk.iinc (i := 3) (n := 1) (q := 36) (by decide +kernel) rfl (by decide) rfl (fun _ h => h) rfl ?_
          refine Wk.goto (off := (-32)) (q := 4) (by decide +kernel) (by decide) ?_
          first
            | (rw [bi_t (hc23)] at ih
               exact ih)
            | (rw [bi_f (hc23)] at ih
               exact ih)
  refine Wk.iconst (n := 0) (q := 1) (by decide +kernel) rfl ?_
  refine Wk.istore_n (k := 2) (q := 2) (by decide +kernel) rfl (by decide) rfl (fun _ h => h) rfl ?_
  refine Wk.iconst (n := 0) (q := 3) (by decide +kernel) rfl ?_
  refine Wk.istore_n (k := 3) (q := 4) (by decide +kernel) rfl (by decide) rfl (fun _ h => h) rfl ?_
  exact key
theorem c_Mod_firstPlace {q : Int} (h0 : 0 ≤ q) (h1 : q < I 149 5) (hM : MW I) : Wk xs x_Mod_firstPlace (d + 6) 0 0 0 [some (vr 148), some (vi q), none] [] X2 I L (p2 fun v I' L' => (∃ z, v = some (vi z) ∧ Fst (fun c => mFr I (75 + 4 * q) 0 c) (I 149 0 * I 149 1) z) ∧ I' = I ∧ L' = L) := by
  obtain ⟨hI, hS, hQ⟩ := id hM
  obtain ⟨hW, hH, hT, hF, hA, hK, hD⟩ := id hI
  have h49 := WH49 (W := I 149 0) (H := I 149 1) (by omega) (by omega)
  have key : Wk xs x_Mod_firstPlace (d + 6) 0 0 2 [some (vr 148), some (vi q), some (vi 0)] [] X2 I L (p2 fun v I' L' => (∃ z, v = some (vi z) ∧ Fst (fun c => mFr I (75 + 4 * q) 0 c) (I 149 0 * I 149 1) z) ∧ I' = I ∧ L' = L) := by
    refine loopS (σ := Unit) (fun k _ => Wk xs x_Mod_firstPlace (d + 6) 0 0 2 [some (vr 148), some (vi q), some (vi k)] [] X2 I L (p2 fun v I' L' => (∃ z, v = some (vi z) ∧ Fst (fun c => mFr I (75 + 4 * q) 0 c) (I 149 0 * I 149 1) z) ∧ I' = I ∧ L' = L)) (fun j _ => ∀ k, 0 ≤ k → k < j → ¬ (fun c => mFr I (75 + 4 * q) 0 c) k) (I 149 0 * I 149 1) 0 () (by omega) (fun k k0 k1 => by omega) ?_ ?_
    · intro _ hJ
      refine Wk.iload_n (k := 2) (q := 3) (by decide +kernel) rfl rfl rfl ?_
      refine Wk.aload_n (k := 0) (q := 4) (by decide +kernel) rfl rfl rfl ?_
      refine Wk.cVi (q := 7) l_Mod_97 m_Mod_cells (by decide +kernel) (fun _ h => h) O_148 rfl (Nat.le_of_ble_eq_true rfl) (Nat.le_of_ble_eq_true rfl) rfl (c_Mod_cells) rfl ?_
      refine Wk.icmp_ge (off := (24)) (t := 31) (q := 10) (by decide +kernel) (by decide) rfl (by first | omega | exact bi_rng _) (by first | omega | exact bi_rng _) (fun hc7 => ?_) (fun hc7 => ?_)
      · refine Wk.iconst (n := (-1)) (q := 32) (by decide +kernel) rfl ?_
        exact Wk.riP (by decide +kernel) rfl (⟨⟨_, rfl, Or.inl ⟨rfl, hJ⟩⟩, rfl, rfl⟩)
      · omega
    · intro k _ k0 k1 hJ ih
      refine Wk.iload_n (k := 2) (q := 3) (by decide +kernel) rfl rfl rfl ?_
      refine Wk.aload_n (k := 0) (q := 4) (by decide +kernel) rfl rfl rfl ?_
      refine Wk.cVi (q := 7) l_Mod_97 m_Mod_cells (by decide +kernel) (fun _ h => h) O_148 rfl (Nat.le_of_ble_eq_true rfl) (Nat.le_of_ble_eq_true rfl) rfl (c_Mod_cells) rfl ?_
      refine Wk.icmp_ge (off := (24)) (t := 31) (q := 10) (by decide +kernel) (by decide) rfl (by first | omega | exact bi_rng _) (by first | omega | exact bi_rng _) (fun hc7 => ?_) (fun hc7 => ?_)
      · omega
      · refine Wk.aload_n (k := 0) (q := 11) (by decide +kernel) rfl rfl rfl ?_
        refine Wk.iload_n (k := 1) (q := 12) (by decide +kernel) rfl rfl rfl ?_
        refine Wk.cSi (q := 15) l_Mod_100 m_Mod_waitAt (by decide +kernel) (fun _ h => h) (Nat.le_of_ble_eq_true rfl) (Nat.le_of_ble_eq_true rfl) rfl (c_Mod_waitAt) rfl ?_
        refine Wk.iload_n (k := 2) (q := 16) (by decide +kernel) rfl rfl rfl ?_
        refine Wk.iconst (n := 0) (q := 17) (by decide +kernel) rfl ?_
        refine Wk.cVi (q := 20) l_Mod_103 m_Mod_isFree (by decide +kernel) (fun _ h => h) O_148 rfl (Nat.le_of_ble_eq_true rfl) (Nat.le_of_ble_eq_true rfl) rfl (c_Mod_isFree hM (hQ q h0 h1) ⟨k0, k1⟩ (by omega)) rfl ?_
        refine Wk.ifB_eq (off := (5)) (t := 25) (q := 23) (by decide +kernel) (by decide) rfl (fun hc20 => ?_) (fun hc20 => ?_)
        · refine Wk.iinc (i := 2) (n := 1) (q := 28) (by decide +kernel) rfl (by decide) rfl (fun _ h => h) rfl ?_
          refine Wk.goto (off := (-26)) (q := 2) (by decide +kernel) (by decide) ?_
          exact ih () (ext1 hJ (hc20))
        · refine Wk.iload_n (k := 2) (q := 24) (by decide +kernel) rfl rfl rfl ?_
          exact Wk.riP (by decide +kernel) rfl (⟨⟨_, rfl, Or.inr ⟨by omega, hc20, hJ⟩⟩, rfl, rfl⟩)
  refine Wk.iconst (n := 0) (q := 1) (by decide +kernel) rfl ?_
  refine Wk.istore_n (k := 2) (q := 2) (by decide +kernel) rfl (by decide) rfl (fun _ h => h) rfl ?_
  exact key
/-- the book -/
def MBk (I : IM) : Prop := (0 ≤ I 148 7 ∧ I 148 7 ≤ 20) ∧ ∀ k, 0 ≤ k → k < I 148 7 → (0 ≤ I 151 k ∧ I 151 k ≤ 4) ∧ -2147483648 ≤ I 152 k ∧ I 152 k ≤ 2147483647
theorem c_Mod_wrongEntry (hM : MW I) (hB : MBk I) : Wk xs x_Mod_wrongEntry (d + 2) 0 0 0 [some (vr 148), none] [] X2 I L (p2 fun v I' L' => (∃ z, v = some (vi z) ∧ Fst (fun k => ¬ (0 ≤ I 151 k ∧ I 151 k < I 149 4) ∨ ¬ I 149 (55 + 4 * I 151 k + 3) = I 152 k) (I 148 7) z) ∧ I' = I ∧ L' = L) := by
  obtain ⟨hI, hS, hQ⟩ := id hM
  obtain ⟨hW, hH, hT, hF, hA, hK, hD⟩ := id hI
  have h49 := WH49 (W := I 149 0) (H := I 149 1) (by omega) (by omega)
  obtain ⟨hB0, hB1⟩ := id hB
  have key : Wk xs x_Mod_wrongEntry (d + 2) 0 0 2 [some (vr 148), some (vi 0)] [] X2 I L (p2 fun v I' L' => (∃ z, v = some (vi z) ∧ Fst (fun k => ¬ (0 ≤ I 151 k ∧ I 151 k < I 149 4) ∨ ¬ I 149 (55 + 4 * I 151 k + 3) = I 152 k) (I 148 7) z) ∧ I' = I ∧ L' = L) := by
    refine loopS (σ := Unit) (fun k _ => Wk xs x_Mod_wrongEntry (d + 2) 0 0 2 [some (vr 148), some (vi k)] [] X2 I L (p2 fun v I' L' => (∃ z, v = some (vi z) ∧ Fst (fun k => ¬ (0 ≤ I 151 k ∧ I 151 k < I 149 4) ∨ ¬ I 149 (55 + 4 * I 151 k + 3) = I 152 k) (I 148 7) z) ∧ I' = I ∧ L' = L)) (fun j _ => ∀ k, 0 ≤ k → k < j → ¬ (fun k => ¬ (0 ≤ I 151 k ∧ I 151 k < I 149 4) ∨ ¬ I 149 (55 + 4 * I 151 k + 3) = I 152 k) k) (I 148 7) 0 () (by omega) (fun k k0 k1 => by omega) ?_ ?_
    · intro _ hJ
      refine Wk.iload_n (k := 1) (q := 3) (by decide +kernel) rfl rfl rfl ?_
      refine Wk.aload_n (k := 0) (q := 4) (by decide +kernel) rfl rfl rfl ?_
      refine Wk.getI (z := 7) (q := 7) f_Mod_131 (by decide +kernel) O_148 (by decide) rfl rfl rfl ?_
      refine Wk.icmp_ge (off := (49)) (t := 56) (q := 10) (by decide +kernel) (by decide) rfl (by first | omega | exact bi_rng _) (by first | omega | exact bi_rng _) (fun hc7 => ?_) (fun hc7 => ?_)
      · refine Wk.iconst (n := (-1)) (q := 57) (by decide +kernel) rfl ?_
        exact Wk.riP (by decide +kernel) rfl (⟨⟨_, rfl, Or.inl ⟨rfl, hJ⟩⟩, rfl, rfl⟩)
      · omega
    · intro k _ k0 k1 hJ ih
      obtain ⟨hb1, hb2⟩ := hB1 k k0 k1
      have hcell : 0 ≤ I 151 k ∧ I 151 k < I 149 4 → 0 ≤ I 149 (55 + 4 * I 151 k + 3) ∧ I 149 (55 + 4 * I 151 k + 3) < I 149 0 * I 149 1 := fun z => (hS _ z.1 z.2).2
      refine Wk.iload_n (k := 1) (q := 3) (by decide +kernel) rfl rfl rfl ?_
      refine Wk.aload_n (k := 0) (q := 4) (by decide +kernel) rfl rfl rfl ?_
      refine Wk.getI (z := 7) (q := 7) f_Mod_131 (by decide +kernel) O_148 (by decide) rfl rfl rfl ?_
      refine Wk.icmp_ge (off := (49)) (t := 56) (q := 10) (by decide +kernel) (by decide) rfl (by first | omega | exact bi_rng _) (by first | omega | exact bi_rng _) (fun hc7 => ?_) (fun hc7 => ?_)
      · omega
      · refine Wk.aload_n (k := 0) (q := 11) (by decide +kernel) rfl rfl rfl ?_
        refine Wk.aload_n (k := 0) (q := 12) (by decide +kernel) rfl rfl rfl ?_
        refine Wk.getR (r := 151) (q := 15) f_Mod_16 (by decide +kernel) O_148 (by decide) rfl rfl rfl ?_
        refine Wk.iload_n (k := 1) (q := 16) (by decide +kernel) rfl rfl rfl ?_
        refine Wk.iaload (q := 17) (by decide +kernel) A_151 (by first | omega | exact bi_rng _) (by first | omega | exact bi_rng _) rfl ?_
        refine Wk.cVi (q := 20) l_Mod_134 m_Mod_isShip (by decide +kernel) (fun _ h => h) O_148 rfl (Nat.le_of_ble_eq_true rfl) (Nat.le_of_ble_eq_true rfl) rfl (c_Mod_isShip (by omega) hI) rfl ?_
        refine Wk.ifB_eq (off := (28)) (t := 48) (q := 23) (by decide +kernel) (by decide) rfl (fun hc20 => ?_) (fun hc20 => ?_)
        · refine Wk.iload_n (k := 1) (q := 49) (by decide +kernel) rfl rfl rfl ?_
          exact Wk.riP (by decide +kernel) rfl (⟨⟨_, rfl, Or.inr ⟨by omega, (by first | exact Or.inl hc20 | exact Or.inr hc45), hJ⟩⟩, rfl, rfl⟩)
        · refine Wk.aload_n (k := 0) (q := 24) (by decide +kernel) rfl rfl rfl ?_
          refine Wk.getR (r := 149) (q := 27) f_Mod_7 (by decide +kernel) O_148 (by decide) rfl rfl rfl ?_
          refine Wk.aload_n (k := 0) (q := 28) (by decide +kernel) rfl rfl rfl ?_
          refine Wk.getR (r := 151) (q := 31) f_Mod_16 (by decide +kernel) O_148 (by decide) rfl rfl rfl ?_
          refine Wk.iload_n (k := 1) (q := 32) (by decide +kernel) rfl rfl rfl ?_
          refine Wk.iaload (q := 33) (by decide +kernel) A_151 (by first | omega | exact bi_rng _) (by first | omega | exact bi_rng _) rfl ?_
          refine Wk.cSi (q := 36) l_Mod_77 m_Mod_shipAt (by decide +kernel) (fun _ h => h) (Nat.le_of_ble_eq_true rfl) (Nat.le_of_ble_eq_true rfl) rfl (c_Mod_shipAt) rfl ?_
          refine Wk.iconst (n := 3) (q := 37) (by decide +kernel) rfl ?_
          refine Wk.iadd (q := 38) (by decide +kernel) rfl ?_
          refine Wk.iaload (q := 39) (by decide +kernel) A_149 (by first | omega | exact bi_rng _) (by first | omega | exact bi_rng _) rfl ?_
          refine Wk.aload_n (k := 0) (q := 40) (by decide +kernel) rfl rfl rfl ?_
          refine Wk.getR (r := 152) (q := 43) f_Mod_19 (by decide +kernel) O_148 (by decide) rfl rfl rfl ?_
          refine Wk.iload_n (k := 1) (q := 44) (by decide +kernel) rfl rfl rfl ?_
          refine Wk.iaload (q := 45) (by decide +kernel) A_152 (by first | omega | exact bi_rng _) (by first | omega | exact bi_rng _) rfl ?_
          refine Wk.icmp_eq (off := (5)) (t := 50) (q := 48) (by decide +kernel) (by decide) rfl (by first | omega | exact bi_rng _) (by first | omega | exact bi_rng _) (fun hc45 => ?_) (fun hc45 => ?_)
          · refine Wk.iinc (i := 1) (n := 1) (q := 53) (by decide +kernel) rfl (by decide) rfl (fun _ h => h) rfl ?_
            refine Wk.goto (off := (-51)) (q := 2) (by decide +kernel) (by decide) ?_
            exact ih () (ext1 hJ (fun z => z.elim (fun z => z hc20) (fun z => z hc45)))
          · refine Wk.iload_n (k := 1) (q := 49) (by decide +kernel) rfl rfl rfl ?_
            exact Wk.riP (by decide +kernel) rfl (⟨⟨_, rfl, Or.inr ⟨by omega, (by first | exact Or.inl hc20 | exact Or.inr hc45), hJ⟩⟩, rfl, rfl⟩)
  refine Wk.iconst (n := 0) (q := 1) (by decide +kernel) rfl ?_
  refine Wk.istore_n (k := 1) (q := 2) (by decide +kernel) rfl (by decide) rfl (fun _ h => h) rfl ?_
  exact key
theorem c_Mod_fitsBehind {n : Int} (h0 : 0 ≤ n) (h1 : n ≤ 2) (hM : MW I) (hR : ∀ k, 0 ≤ k → k ≤ n → MP I (I 154 k) ∧ mC I (I 153 k)) : Wk xs x_Mod_fitsBehind (d + 3) 0 0 0 [some (vr 148), some (vi n), none, none] [] X2 I L (pI (bi (∀ k, 0 ≤ k → k < n → ¬ mCL I (I 149 3) (I 154 k) (I 153 k) (I 154 n) (I 153 n))) I L) := by
  obtain ⟨hI, hS, hQ⟩ := id hM
  obtain ⟨hW, hH, hT, hF, hA, hK, hD⟩ := id hI
  have h49 := WH49 (W := I 149 0) (H := I 149 1) (by omega) (by omega)
  have key : Wk xs x_Mod_fitsBehind (d + 3) 0 0 4 [some (vr 148), some (vi n), some (vi (bi (∀ k, 0 ≤ k → k < 0 → ¬ mCL I (I 149 3) (I 154 k) (I 153 k) (I 154 n) (I 153 n)))), some (vi 0)] [] X2 I L (pI (bi (∀ k, 0 ≤ k → k < n → ¬ mCL I (I 149 3) (I 154 k) (I 153 k) (I 154 n) (I 153 n))) I L) := by
    refine loopI (fun j => Wk xs x_Mod_fitsBehind (d + 3) 0 0 4 [some (vr 148), some (vi n), some (vi (bi (∀ k, 0 ≤ k → k < j → ¬ mCL I (I 149 3) (I 154 k) (I 153 k) (I 154 n) (I 153 n)))), some (vi j)] [] X2 I L (pI (bi (∀ k, 0 ≤ k → k < n → ¬ mCL I (I 149 3) (I 154 k) (I 153 k) (I 154 n) (I 153 n))) I L)) n 0 (by omega) ?_ ?_
    · refine Wk.iload_n (k := 3) (q := 5) (by decide +kernel) rfl rfl rfl ?_
      refine Wk.iload_n (k := 1) (q := 6) (by decide +kernel) rfl rfl rfl ?_
      refine Wk.icmp_ge (off := (50)) (t := 56) (q := 9) (by decide +kernel) (by decide) rfl (by first | omega | exact bi_rng _) (by first | omega | exact bi_rng _) (fun hc6 => ?_) (fun hc6 => ?_)
      · refine Wk.iload_n (k := 2) (q := 57) (by decide +kernel) rfl rfl rfl ?_
        exact Wk.rZ (by decide +kernel) rfl (by first | omega | decide | exact bi_01 _) (rfl)
      · omega
    · intro j k0 k1 ih
      refine Wk.iload_n (k := 3) (q := 5) (by decide +kernel) rfl rfl rfl ?_
      refine Wk.iload_n (k := 1) (q := 6) (by decide +kernel) rfl rfl rfl ?_
      refine Wk.icmp_ge (off := (50)) (t := 56) (q := 9) (by decide +kernel) (by decide) rfl (by first | omega | exact bi_rng _) (by first | omega | exact bi_rng _) (fun hc6 => ?_) (fun hc6 => ?_)
      · omega
      · refine Wk.iload_n (k := 2) (q := 10) (by decide +kernel) rfl rfl rfl ?_
        refine Wk.ifB_eq (off := (38)) (t := 48) (q := 13) (by decide +kernel) (by decide) rfl (fun hc10 => ?_) (fun hc10 => ?_)
        · refine Wk.iconst (n := 0) (q := 49) (by decide +kernel) rfl ?_
          refine Wk.istore_n (k := 2) (q := 50) (by decide +kernel) rfl (by decide) rfl (fun _ h => h) rfl ?_
          refine Wk.iinc (i := 3) (n := 1) (q := 53) (by decide +kernel) rfl (by decide) rfl (fun _ h => h) rfl ?_
          refine Wk.goto (off := (-49)) (q := 4) (by decide +kernel) (by decide) ?_
          first
            | (rw [bi_t (ext1 hc10 hc41)] at ih
               exact ih)
            | (rw [bi_f (fun z => by first | exact hc10 (fun k q0 q1 => z k q0 (by omega)) | exact z j k0 (by omega) hc41)] at ih
               exact ih)
        · refine Wk.aload_n (k := 0) (q := 14) (by decide +kernel) rfl rfl rfl ?_
          refine Wk.aload_n (k := 0) (q := 15) (by decide +kernel) rfl rfl rfl ?_
          refine Wk.getR (r := 154) (q := 18) f_Mod_25 (by decide +kernel) O_148 (by decide) rfl rfl rfl ?_
          refine Wk.iload_n (k := 3) (q := 19) (by decide +kernel) rfl rfl rfl ?_
          refine Wk.iaload (q := 20) (by decide +kernel) A_154 (by first | omega | exact bi_rng _) (by first | omega | exact bi_rng _) rfl ?_
          refine Wk.aload_n (k := 0) (q := 21) (by decide +kernel) rfl rfl rfl ?_
          refine Wk.getR (r := 153) (q := 24) f_Mod_22 (by decide +kernel) O_148 (by decide) rfl rfl rfl ?_
          refine Wk.iload_n (k := 3) (q := 25) (by decide +kernel) rfl rfl rfl ?_
          refine Wk.iaload (q := 26) (by decide +kernel) A_153 (by first | omega | exact bi_rng _) (by first | omega | exact bi_rng _) rfl ?_
          refine Wk.aload_n (k := 0) (q := 27) (by decide +kernel) rfl rfl rfl ?_
          refine Wk.getR (r := 154) (q := 30) f_Mod_25 (by decide +kernel) O_148 (by decide) rfl rfl rfl ?_
          refine Wk.iload_n (k := 1) (q := 31) (by decide +kernel) rfl rfl rfl ?_
          refine Wk.iaload (q := 32) (by decide +kernel) A_154 (by first | omega | exact bi_rng _) (by first | omega | exact bi_rng _) rfl ?_
          refine Wk.aload_n (k := 0) (q := 33) (by decide +kernel) rfl rfl rfl ?_
          refine Wk.getR (r := 153) (q := 36) f_Mod_22 (by decide +kernel) O_148 (by decide) rfl rfl rfl ?_
          refine Wk.iload_n (k := 1) (q := 37) (by decide +kernel) rfl rfl rfl ?_
          refine Wk.iaload (q := 38) (by decide +kernel) A_153 (by first | omega | exact bi_rng _) (by first | omega | exact bi_rng _) rfl ?_
          refine Wk.cVi (q := 41) l_Mod_80 m_Mod_clash (by decide +kernel) (fun _ h => h) O_148 rfl (Nat.le_of_ble_eq_true rfl) (Nat.le_of_ble_eq_true rfl) rfl (c_Mod_clash hI (hR j k0 (by omega)).1 (hR j k0 (by omega)).2 (hR n h0 (by omega)).1 (hR n h0 (by omega)).2) rfl ?_
          refine Wk.ifB_ne (off := (7)) (t := 48) (q := 44) (by decide +kernel) (by decide) rfl (fun hc41 => ?_) (fun hc41 => ?_)
          · refine Wk.iconst (n := 0) (q := 49) (by decide +kernel) rfl ?_
            refine Wk.istore_n (k := 2) (q := 50) (by decide +kernel) rfl (by decide) rfl (fun _ h => h) rfl ?_
            refine Wk.iinc (i := 3) (n := 1) (q := 53) (by decide +kernel) rfl (by decide) rfl (fun _ h => h) rfl ?_
            refine Wk.goto (off := (-49)) (q := 4) (by decide +kernel) (by decide) ?_
            first
              | (rw [bi_t (ext1 hc10 hc41)] at ih
                 exact ih)
              | (rw [bi_f (fun z => by first | exact hc10 (fun k q0 q1 => z k q0 (by omega)) | exact z j k0 (by omega) hc41)] at ih
                 exact ih)
          · refine Wk.iconst (n := 1) (q := 45) (by decide +kernel) rfl ?_
            refine Wk.goto (off := (4)) (q := 49) (by decide +kernel) (by decide) ?_
            refine Wk.istore_n (k := 2) (q := 50) (by decide +kernel) rfl (by decide) rfl (fun _ h => h) rfl ?_
            refine Wk.iinc (i := 3) (n := 1) (q := 53) (by decide +kernel) rfl (by decide) rfl (fun _ h => h) rfl ?_
            refine Wk.goto (off := (-49)) (q := 4) (by decide +kernel) (by decide) ?_
            first
              | (rw [bi_t (ext1 hc10 hc41)] at ih
                 exact ih)
              | (rw [bi_f (fun z => by first | exact hc10 (fun k q0 q1 => z k q0 (by omega)) | exact z j k0 (by omega) hc41)] at ih
                 exact ih)
  refine Wk.iconst (n := 1) (q := 1) (by decide +kernel) rfl ?_
  refine Wk.istore_n (k := 2) (q := 2) (by decide +kernel) rfl (by decide) rfl (fun _ h => h) rfl ?_
  refine Wk.iconst (n := 0) (q := 3) (by decide +kernel) rfl ?_
  refine Wk.istore_n (k := 3) (q := 4) (by decide +kernel) rfl (by decide) rfl (fun _ h => h) rfl ?_
  rw [bi_t (p := (∀ k, 0 ≤ k → k < 0 → ¬ mCL I (I 149 3) (I 154 k) (I 153 k) (I 154 n) (I 153 n))) (fun k k0 k1 => by omega)] at key
  exact key
end MOD
end
section
/-! THE REFERENCE: rows are tried -/
theorem MW_eq {I' I : IM} (h : I' 149 = I 149) : MW I' ↔ MW I := by unfold MW MI0 MI1 MI2 MP mC; rw [h]
theorem MP_eq {I' I : IM} (h : I' 149 = I 149) {p : Int} : MP I' p ↔ MP I p := by unfold MP; rw [h]
theorem mC_eq {I' I : IM} (h : I' 149 = I 149) {p : Int} : mC I' p ↔ mC I p := by unfold mC; rw [h]
theorem mFr_eq {I' I : IM} (h : I' 149 = I 149) {p m c : Int} : mFr I' p m c ↔ mFr I p m c := by unfold mFr mML mCL; rw [h]
theorem mCL_eq {I' I : IM} (h : I' 149 = I 149) {F p c q e : Int} : mCL I' F p c q e ↔ mCL I F p c q e := by unfold mCL; rw [h]
abbrev uG (I : IM) (m : Int) : Int → Int → Prop := fun i c => mC I c ∧ mFr I (I 154 i) m c
abbrev uK (I : IM) : Int → Int → Int → Int → Prop := fun i c j e => mCL I (I 149 3) (I 154 i) c (I 154 j) e
theorem uG_eq {I' I : IM} (h : I' 149 = I 149) (h2 : I' 154 = I 154) {m : Int} : uG I' m = uG I m := by
  funext i c; unfold uG mC mFr mML mCL; rw [h, h2]
theorem uK_eq {I' I : IM} (h : I' 149 = I 149) (h2 : I' 154 = I 154) : uK I' = uK I := by
  funext i c j e; unfold uK mCL; rw [h, h2]
def Ex1 (id : Nat) (I' I : IM) : Prop := ∀ k, ¬ k = id → I' k = I k
theorem Ex1.up {id : Nat} {I' I : IM} (h : Ex1 id I' I) (z v : Int) : Ex1 id (iup I' id z v) I := fun k hk => by rw [iup_other hk]; exact h k hk
section MOE
variable {xs : RO} {d : Nat} {I : IM} {L : LM}

theorem c_Mod_layFree {n m : Int} (h0 : 0 ≤ n) (h1 : n ≤ 3) (hM : MW I) (hm : 0 ≤ m ∧ m ≤ 31) (hR : ∀ k, 0 ≤ k → k < n → MP I (I 154 k)) : Wk xs x_Mod_layFree (d + 6) 0 0 0 [some (vr 148), some (vi n), some (vi m), none, none] [] X2 I L (p2 fun v I' L' => v = none ∧ Ex1 155 I' I ∧ (∀ j c, 0 ≤ j → j < n → mC I c → I' 155 (49 * j + c) = bi (mFr I (I 154 j) m c)) ∧ L' = L) := by
  obtain ⟨hI, hS, hQ⟩ := id hM
  obtain ⟨hW, hH, hT, hF, hA, hK, hD⟩ := id hI
  have h49 := WH49 (W := I 149 0) (H := I 149 1) (by omega) (by omega)
  have key : Wk xs x_Mod_layFree (d + 6) 0 0 2 [some (vr 148), some (vi n), some (vi m), some (vi 0), none] [] X2 I L (p2 fun v I' L' => v = none ∧ Ex1 155 I' I ∧ (∀ j c, 0 ≤ j → j < n → mC I c → I' 155 (49 * j + c) = bi (mFr I (I 154 j) m c)) ∧ L' = L) := by
    refine loopS2 (σ := IM) (τ := Option AV) (fun k I2 o => Wk xs x_Mod_layFree (d + 6) 0 0 2 [some (vr 148), some (vi n), some (vi m), some (vi k), o] [] X2 I2 L (p2 fun v I' L' => v = none ∧ Ex1 155 I' I ∧ (∀ j c, 0 ≤ j → j < n → mC I c → I' 155 (49 * j + c) = bi (mFr I (I 154 j) m c)) ∧ L' = L)) (fun k I2 _ => Ex1 155 I2 I ∧ (∀ j c, 0 ≤ j → j < k → mC I c → I2 155 (49 * j + c) = bi (mFr I (I 154 j) m c))) n 0 I none (by omega) ⟨fun _ _ => rfl, fun j c j0 j1 => by omega⟩ ?_ ?_
    · intro I2 o hJ
      refine Wk.iload_n (k := 3) (q := 3) (by decide +kernel) rfl rfl rfl ?_
      refine Wk.iload_n (k := 1) (q := 4) (by decide +kernel) rfl rfl rfl ?_
      refine Wk.icmp_ge (off := (52)) (t := 56) (q := 7) (by decide +kernel) (by decide) rfl (by first | omega | exact bi_rng _) (by first | omega | exact bi_rng _) (fun hc4 => ?_) (fun hc4 => ?_)
      · exact Wk.rvP (by decide +kernel) rfl (⟨rfl, hJ.1, hJ.2, rfl⟩)
      · omega
    · intro k I2 o k0 k1 hJ ih
      have key2 : Wk xs x_Mod_layFree (d + 6) 0 0 10 [some (vr 148), some (vi n), some (vi m), some (vi k), some (vi 0)] [] X2 I2 L (p2 fun v I' L' => v = none ∧ Ex1 155 I' I ∧ (∀ j c, 0 ≤ j → j < n → mC I c → I' 155 (49 * j + c) = bi (mFr I (I 154 j) m c)) ∧ L' = L) := by
        refine loopS (σ := IM) (fun e I3 => Wk xs x_Mod_layFree (d + 6) 0 0 10 [some (vr 148), some (vi n), some (vi m), some (vi k), some (vi e)] [] X2 I3 L (p2 fun v I' L' => v = none ∧ Ex1 155 I' I ∧ (∀ j c, 0 ≤ j → j < n → mC I c → I' 155 (49 * j + c) = bi (mFr I (I 154 j) m c)) ∧ L' = L)) (fun e I3 => Ex1 155 I3 I ∧ (∀ j c, 0 ≤ j → j < k → mC I c → I3 155 (49 * j + c) = bi (mFr I (I 154 j) m c)) ∧ ∀ c, 0 ≤ c → c < e → I3 155 (49 * k + c) = bi (mFr I (I 154 k) m c)) (I 149 0 * I 149 1) 0 I2 (by omega) ⟨hJ.1, hJ.2, fun c c0 c1 => by omega⟩ ?_ ?_
        · intro I3 hJ3
          obtain ⟨q1, q2, q3⟩ := hJ3
          have e1 := q1 149 (by decide)
          refine Wk.iload (i := 4) (q := 12) (by decide +kernel) rfl rfl ?_
          refine Wk.aload_n (k := 0) (q := 13) (by decide +kernel) rfl rfl rfl ?_
          refine Wk.cVi (q := 16) l_Mod_97 m_Mod_cells (by decide +kernel) (fun _ h => h) O_148 rfl (Nat.le_of_ble_eq_true rfl) (Nat.le_of_ble_eq_true rfl) rfl (c_Mod_cells) rfl ?_
          rw [e1]
          refine Wk.icmp_ge (off := (34)) (t := 50) (q := 19) (by decide +kernel) (by decide) rfl (by first | omega | exact bi_rng _) (by first | omega | exact bi_rng _) (fun hc16 => ?_) (fun hc16 => ?_)
          · refine Wk.iinc (i := 3) (n := 1) (q := 53) (by decide +kernel) rfl (by decide) rfl (fun _ h => h) rfl ?_
            refine Wk.goto (off := (-51)) (q := 2) (by decide +kernel) (by decide) ?_
            refine ih I3 _ ⟨q1, fun j c j0 j1 jc => ?_⟩
            rcases Classical.em (j = k) with e | e
            · rw [e]; exact q3 c jc.1 jc.2
            · exact q2 j c j0 (by omega) jc
          · omega
        · intro e I3 e0 e1 hJ3 ih3
          obtain ⟨q1, q2, q3⟩ := hJ3
          have e4 := q1 149 (by decide)
          have e5 := q1 154 (by decide)
          have hfr := c_Mod_isFree (xs := xs) (d := d) (L := L) (I := I3) (p := I3 154 k) (c := e) (m := m) ((MW_eq e4).mpr hM) ((MP_eq e4).mpr (by rw [e5]; exact hR k k0 k1)) ((mC_eq e4).mpr ⟨e0, e1⟩) hm
          rw [bi_cong (mFr_eq e4), e5] at hfr
          refine Wk.iload (i := 4) (q := 12) (by decide +kernel) rfl rfl ?_
          refine Wk.aload_n (k := 0) (q := 13) (by decide +kernel) rfl rfl rfl ?_
          refine Wk.cVi (q := 16) l_Mod_97 m_Mod_cells (by decide +kernel) (fun _ h => h) O_148 rfl (Nat.le_of_ble_eq_true rfl) (Nat.le_of_ble_eq_true rfl) rfl (c_Mod_cells) rfl ?_
          rw [e4]
          refine Wk.icmp_ge (off := (34)) (t := 50) (q := 19) (by decide +kernel) (by decide) rfl (by first | omega | exact bi_rng _) (by first | omega | exact bi_rng _) (fun hc16 => ?_) (fun hc16 => ?_)
          · omega
          · refine Wk.aload_n (k := 0) (q := 20) (by decide +kernel) rfl rfl rfl ?_
            refine Wk.getR (r := 155) (q := 23) f_Mod_28 (by decide +kernel) O_148 (by decide) rfl rfl rfl ?_
            refine Wk.bipush (n := 49) (q := 25) (by decide +kernel) (by decide +kernel) rfl ?_
            refine Wk.iload_n (k := 3) (q := 26) (by decide +kernel) rfl rfl rfl ?_
            refine Wk.imul (q := 27) (by decide +kernel) rfl ?_
            refine Wk.iload (i := 4) (q := 29) (by decide +kernel) rfl rfl ?_
            refine Wk.iadd (q := 30) (by decide +kernel) rfl ?_
            refine Wk.aload_n (k := 0) (q := 31) (by decide +kernel) rfl rfl rfl ?_
            refine Wk.aload_n (k := 0) (q := 32) (by decide +kernel) rfl rfl rfl ?_
            refine Wk.getR (r := 154) (q := 35) f_Mod_25 (by decide +kernel) O_148 (by decide) rfl rfl rfl ?_
            refine Wk.iload_n (k := 3) (q := 36) (by decide +kernel) rfl rfl rfl ?_
            refine Wk.iaload (q := 37) (by decide +kernel) A_154 (by first | omega | exact bi_rng _) (by first | omega | exact bi_rng _) rfl ?_
            rw [e5]
            refine Wk.iload (i := 4) (q := 39) (by decide +kernel) rfl rfl ?_
            refine Wk.iload_n (k := 2) (q := 40) (by decide +kernel) rfl rfl rfl ?_
            refine Wk.cVi (q := 43) l_Mod_103 m_Mod_isFree (by decide +kernel) (fun _ h => h) O_148 rfl (Nat.le_of_ble_eq_true rfl) (Nat.le_of_ble_eq_true rfl) rfl (hfr) rfl ?_
            refine Wk.bastore (q := 44) (by decide +kernel) A_155 (by first | omega | exact bi_rng _) (by first | omega | exact bi_rng _) (by exact bi_01 _) rfl ?_
            refine Wk.iinc (i := 4) (n := 1) (q := 47) (by decide +kernel) rfl (by decide) rfl (fun _ h => h) rfl ?_
            refine Wk.goto (off := (-37)) (q := 10) (by decide +kernel) (by decide) ?_
            refine ih3 _ ⟨q1.up _ _, fun j c j0 j1 jc => ?_, fun c c0 c1 => ?_⟩
            · have := jc.1; have := jc.2
              rw [iup_ne (by omega)]
              exact q2 j c j0 j1 jc
            · rcases Classical.em (c = e) with z | z
              · rw [z, iup_at]
              · rw [iup_ne (by omega)]
                exact q3 c c0 (by omega)
      refine Wk.iload_n (k := 3) (q := 3) (by decide +kernel) rfl rfl rfl ?_
      refine Wk.iload_n (k := 1) (q := 4) (by decide +kernel) rfl rfl rfl ?_
      refine Wk.icmp_ge (off := (52)) (t := 56) (q := 7) (by decide +kernel) (by decide) rfl (by first | omega | exact bi_rng _) (by first | omega | exact bi_rng _) (fun hc4 => ?_) (fun hc4 => ?_)
      · omega
      · refine Wk.iconst (n := 0) (q := 8) (by decide +kernel) rfl ?_
        refine Wk.istore (i := 4) (q := 10) (by decide +kernel) (by decide) rfl (fun _ h => h) rfl ?_
        exact key2
  refine Wk.iconst (n := 0) (q := 1) (by decide +kernel) rfl ?_
  refine Wk.istore_n (k := 3) (q := 2) (by decide +kernel) rfl (by decide) rfl (fun _ h => h) rfl ?_
  exact key
end MOE
end
section
/-! THE REFERENCE: tryRows -/
theorem cset_pre {c c1 : Int → Int} {i s : Int} (hp : ∀ j, 0 ≤ j → j < i → c j = c1 j) : ∀ j, 0 ≤ j → j < i + 1 → cset c i s j = cset c1 i s j := fun j j0 j1 => by
  by_cases hj : j = i
  · rw [hj, cset_eq, cset_eq]
  · rw [cset_ne hj, cset_ne hj]; exact hp j j0 (by omega)
theorem lea_in {G : Int → Int → Prop} {K : Int → Int → Int → Int → Prop} {r : Nat} {i t : Int} {c c1 : Int → Int} (hp : ∀ j, 0 ≤ j → j < i → c j = c1 j) (h0 : 0 ≤ i) (hci : c i = t + 1) (hok : OKx G K c i (t + 1)) (hno : ∀ s, s ≤ t → OKx G K c1 i s → ¬ Exr G K r (i + 1) (cset c1 i s)) (hl : Lea G K r (i + 1) c) : Lea G K (r + 1) i c :=
  ⟨⟨by rw [hci]; exact hok, fun s hs ho hx => hno s (by omega) ((OKx_cong hp Iff.rfl (fun _ _ _ => Iff.rfl)).mp ho) ((Exr_pre (by omega) (cset_pre hp)).mp hx)⟩, hl⟩
section MOF
variable {xs : RO} {d : Nat} {J0 : IM} {L : LM} {n m : Int} {post : Option AV → LY → IM → LM → Prop}
abbrev TW (xs : RO) (d : Nat) (L : LM) (n m : Int) (post : Option AV → LY → IM → LM → Prop) (i : Int) (I : IM) : Prop := Wk xs x_Mod_tryRows (d + 7) 0 0 15 [some (vr 148), some (vi n), some (vi m), some (vi i)] [] X2 I L post

theorem tryStep (hM : MW J0) (hn : n ≤ 3) (hR : ∀ k, 0 ≤ k → k < n → MP J0 (J0 154 k)) (hfree : ∀ j c, 0 ≤ j → j < n → mC J0 c → J0 155 (49 * j + c) = bi (mFr J0 (J0 154 j) m c)) {i t : Int} {I1 : IM} (h0 : 0 ≤ i) (h1 : i < n) (hE : Ex1 153 I1 J0) (ht : I1 153 i = t) (ht1 : -1 ≤ t) (ht2 : t < J0 149 0 * J0 149 1) (hpre : ∀ j, 0 ≤ j → j < i → mC J0 (I1 153 j))
    (hnext : ∀ I2, Ex1 153 I2 J0 → I2 153 i = t + 1 → (∀ j, 0 ≤ j → j < i → I2 153 j = I1 153 j) → OKx (uG J0 m) (uK J0) (I2 153) i (t + 1) → Wk xs x_Mod_tryRows (d + 7) 0 0 83 [some (vr 148), some (vi n), some (vi m), some (vi (i + 1))] [] X2 I2 L post)
    (hagain : ∀ I2, t + 1 < J0 149 0 * J0 149 1 → Ex1 153 I2 J0 → I2 153 i = t + 1 → (∀ j, 0 ≤ j → j < i → I2 153 j = I1 153 j) → ¬ OKx (uG J0 m) (uK J0) (I2 153) i (t + 1) → TW xs d L n m post i I2)
    (hfail : ∀ I2, t + 1 = J0 149 0 * J0 149 1 → Ex1 153 I2 J0 → (∀ j, 0 ≤ j → j < i → I2 153 j = I1 153 j) → TW xs d L n m post (i + -1) I2) : TW xs d L n m post i I1 := by
  obtain ⟨hI, hS, hQ⟩ := id hM
  obtain ⟨hW, hH, hT, hF, hA, hK, hD⟩ := id hI
  have h49 := WH49 (W := J0 149 0) (H := J0 149 1) (by omega) (by omega)
  refine Wk.iload_n (k := 3) (q := 16) (by decide +kernel) rfl rfl rfl ?_
  refine Wk.if_lt (off := (82)) (t := 98) (q := 19) (by decide +kernel) (by decide) rfl (by first | omega | exact bi_rng _) (fun hc16 => ?_) (fun hc16 => ?_)
  · omega
  · refine Wk.iload_n (k := 3) (q := 20) (by decide +kernel) rfl rfl rfl ?_
    refine Wk.iload_n (k := 1) (q := 21) (by decide +kernel) rfl rfl rfl ?_
    refine Wk.icmp_ge (off := (77)) (t := 98) (q := 24) (by decide +kernel) (by decide) rfl (by first | omega | exact bi_rng _) (by first | omega | exact bi_rng _) (fun hc21 => ?_) (fun hc21 => ?_)
    · omega
    · refine Wk.aload_n (k := 0) (q := 25) (by decide +kernel) rfl rfl rfl ?_
      refine Wk.getR (r := 153) (q := 28) f_Mod_22 (by decide +kernel) O_148 (by decide) rfl rfl rfl ?_
      refine Wk.iload_n (k := 3) (q := 29) (by decide +kernel) rfl rfl rfl ?_
      refine Wk.dup2 (q := 30) (by decide +kernel) rfl rfl rfl ?_
      refine Wk.iaload (q := 31) (by decide +kernel) A_153 (by first | omega | exact bi_rng _) (by first | omega | exact bi_rng _) rfl ?_
      refine Wk.iconst (n := 1) (q := 32) (by decide +kernel) rfl ?_
      refine Wk.iadd (q := 33) (by decide +kernel) rfl ?_
      refine Wk.iastore (q := 34) (by decide +kernel) A_153 (by first | omega | exact bi_rng _) (by first | omega | exact bi_rng _) rfl ?_
      generalize hI2 : iup I1 153 i (I1 153 i + 1) = I2
      have q1 : I2 153 i = t + 1 := by rw [← hI2, iup_at, ht]
      have q2 : Ex1 153 I2 J0 := by rw [← hI2]; exact hE.up _ _
      have q3 : ∀ j, ¬ j = i → I2 153 j = I1 153 j := fun j hj => by rw [← hI2]; exact iup_ne (fun z => hj z.2)
      have q4 : ∀ j, 0 ≤ j → j < i → I2 153 j = I1 153 j := fun j _ hj => q3 j (by omega)
      have e1 := q2 149 (by decide)
      have e2 := q2 154 (by decide)
      have e3 := q2 155 (by decide)
      refine Wk.aload_n (k := 0) (q := 35) (by decide +kernel) rfl rfl rfl ?_
      refine Wk.getR (r := 153) (q := 38) f_Mod_22 (by decide +kernel) O_148 (by decide) rfl rfl rfl ?_
      refine Wk.iload_n (k := 3) (q := 39) (by decide +kernel) rfl rfl rfl ?_
      refine Wk.iaload (q := 40) (by decide +kernel) A_153 (by first | omega | exact bi_rng _) (by first | omega | exact bi_rng _) rfl ?_
      rw [q1]
      refine Wk.aload_n (k := 0) (q := 41) (by decide +kernel) rfl rfl rfl ?_
      refine Wk.cVi (q := 44) l_Mod_97 m_Mod_cells (by decide +kernel) (fun _ h => h) O_148 rfl (Nat.le_of_ble_eq_true rfl) (Nat.le_of_ble_eq_true rfl) rfl (c_Mod_cells) rfl ?_
      rw [e1]
      refine Wk.icmp_lt (off := (9)) (t := 53) (q := 47) (by decide +kernel) (by decide) rfl (by first | omega | exact bi_rng _) (by first | omega | exact bi_rng _) (fun hc44 => ?_) (fun hc44 => ?_)
      · refine Wk.aload_n (k := 0) (q := 54) (by decide +kernel) rfl rfl rfl ?_
        refine Wk.getR (r := 155) (q := 57) f_Mod_28 (by decide +kernel) O_148 (by decide) rfl rfl rfl ?_
        refine Wk.bipush (n := 49) (q := 59) (by decide +kernel) (by decide +kernel) rfl ?_
        refine Wk.iload_n (k := 3) (q := 60) (by decide +kernel) rfl rfl rfl ?_
        refine Wk.imul (q := 61) (by decide +kernel) rfl ?_
        refine Wk.aload_n (k := 0) (q := 62) (by decide +kernel) rfl rfl rfl ?_
        refine Wk.getR (r := 153) (q := 65) f_Mod_22 (by decide +kernel) O_148 (by decide) rfl rfl rfl ?_
        refine Wk.iload_n (k := 3) (q := 66) (by decide +kernel) rfl rfl rfl ?_
        refine Wk.iaload (q := 67) (by decide +kernel) A_153 (by first | omega | exact bi_rng _) (by first | omega | exact bi_rng _) rfl ?_
        rw [q1]
        refine Wk.iadd (q := 68) (by decide +kernel) rfl ?_
        refine Wk.baload (q := 69) (by decide +kernel) A_155 (by first | omega | exact bi_rng _) (by first | omega | exact bi_rng _) rfl ?_
        rw [e3, hfree i (t + 1) h0 h1 ⟨by omega, by omega⟩]
        refine Wk.if_eq (off := (-54)) (t := 15) (q := 72) (by decide +kernel) (by decide) rfl (by first | omega | exact bi_rng _) (fun hc69 => ?_) (fun hc69 => ?_)
        · first
            | exact hfail I2 (by omega) q2 q4
            | exact hagain I2 (by omega) q2 q1 q4 (fun z => by first | exact bi_eq0.mp hc69 z.1.2 | exact hc77 (hfb.mpr z.2))
        · have hfb : (∀ k, 0 ≤ k → k < i → ¬ mCL I2 (I2 149 3) (I2 154 k) (I2 153 k) (I2 154 i) (I2 153 i)) ↔ ∀ j, 0 ≤ j → j < i → ¬ uK J0 j (I2 153 j) i (t + 1) := by
            rw [q1, e2]
            exact ⟨fun h j j0 j1 z => h j j0 j1 ((mCL_eq e1).mpr (by rw [e1]; exact z)), fun h j j0 j1 z => h j j0 j1 (by have z2 := (mCL_eq e1).mp z; rw [e1] at z2; exact z2)⟩
          have hcall := c_Mod_fitsBehind (xs := xs) (d := d + 3) (L := L) (I := I2) h0 (by omega) ((MW_eq e1).mpr hM) (fun k k0 k1 => ⟨(MP_eq e1).mpr (by rw [e2]; exact hR k k0 (by omega)), (mC_eq e1).mpr (by
            rcases Classical.em (k = i) with z | z
            · rw [z, q1]; exact ⟨by omega, by omega⟩
            · rw [q3 k z]; exact hpre k k0 (by omega))⟩)
          refine Wk.aload_n (k := 0) (q := 73) (by decide +kernel) rfl rfl rfl ?_
          refine Wk.iload_n (k := 3) (q := 74) (by decide +kernel) rfl rfl rfl ?_
          refine Wk.cVi (q := 77) l_Mod_109 m_Mod_fitsBehind (by decide +kernel) (fun _ h => h) O_148 rfl (Nat.le_of_ble_eq_true rfl) (Nat.le_of_ble_eq_true rfl) rfl (hcall) rfl ?_
          refine Wk.ifB_eq (off := (-62)) (t := 15) (q := 80) (by decide +kernel) (by decide) rfl (fun hc77 => ?_) (fun hc77 => ?_)
          · first
              | exact hfail I2 (by omega) q2 q4
              | exact hagain I2 (by omega) q2 q1 q4 (fun z => by first | exact bi_eq0.mp hc69 z.1.2 | exact hc77 (hfb.mpr z.2))
          · refine Wk.iinc (i := 3) (n := 1) (q := 83) (by decide +kernel) rfl (by decide) rfl (fun _ h => h) rfl ?_
            exact hnext I2 q2 q1 q4 ⟨⟨⟨by omega, by omega⟩, Classical.not_not.mp (fun z => hc69 (bi_f z))⟩, hfb.mp hc77⟩
      · refine Wk.iinc (i := 3) (n := (-1)) (q := 50) (by decide +kernel) rfl (by decide) rfl (fun _ h => h) rfl ?_
        refine Wk.goto (off := (-35)) (q := 15) (by decide +kernel) (by decide) ?_
        first
          | exact hfail I2 (by omega) q2 q4
          | exact hagain I2 (by omega) q2 q1 q4 (fun z => by first | exact bi_eq0.mp hc69 z.1.2 | exact hc77 (hfb.mpr z.2))
theorem tryR (hM : MW J0) (hn : n ≤ 3) (hR : ∀ k, 0 ≤ k → k < n → MP J0 (J0 154 k)) (hfree : ∀ j c, 0 ≤ j → j < n → mC J0 c → J0 155 (49 * j + c) = bi (mFr J0 (J0 154 j) m c)) : ∀ (r f : Nat) (i t : Int) (I1 : IM), 0 ≤ i → i + r + 1 = n → Ex1 153 I1 J0 → I1 153 i = t → -1 ≤ t → t < J0 149 0 * J0 149 1 → J0 149 0 * J0 149 1 ≤ t + 1 + f → (∀ j, 0 ≤ j → j < i → mC J0 (I1 153 j)) → (∀ s, s ≤ t → OKx (uG J0 m) (uK J0) (I1 153) i s → ¬ Exr (uG J0 m) (uK J0) r (i + 1) (cset (I1 153) i s)) → (∀ I2, Ex1 153 I2 J0 → (∀ j, 0 ≤ j → j < i → I2 153 j = I1 153 j) → Lea (uG J0 m) (uK J0) (r + 1) i (I2 153) → TW xs d L n m post n I2) → (∀ I2, Ex1 153 I2 J0 → (∀ j, 0 ≤ j → j < i → I2 153 j = I1 153 j) → ¬ Exr (uG J0 m) (uK J0) (r + 1) i (I1 153) → TW xs d L n m post (i + -1) I2) → TW xs d L n m post i I1 := by
  have nof : ∀ (r : Nat) (i t : Int) (c : Int → Int), t + 1 = J0 149 0 * J0 149 1 → (∀ s, s ≤ t → OKx (uG J0 m) (uK J0) c i s → ¬ Exr (uG J0 m) (uK J0) r (i + 1) (cset c i s)) → ¬ Exr (uG J0 m) (uK J0) (r + 1) i c := by
    intro r i t c ht hno ⟨s, hs1, hs2⟩
    have := hs1.1.1.2
    exact hno s (by omega) hs1 hs2
  intro r
  induction r with
  | zero =>
    intro f
    induction f with
    | zero =>
      intro i t I1 h0 h1 hE ht ht1 ht2 hf hpre hno hs hfl
      exact tryStep hM hn hR hfree h0 (by omega) hE ht ht1 ht2 hpre (fun I2 _ _ _ ok => absurd ok.1.1.2 (by omega)) (fun I2 z => by omega) (fun I2 z q2 q4 => hfl I2 q2 q4 (nof 0 i t _ z hno))
    | succ f ihf =>
      intro i t I1 h0 h1 hE ht ht1 ht2 hf hpre hno hs hfl
      refine tryStep hM hn hR hfree h0 (by omega) hE ht ht1 ht2 hpre (fun I2 q2 q1 q4 ok => ?_) (fun I2 z q2 q1 q4 ok => ?_) (fun I2 z q2 q4 => hfl I2 q2 q4 (nof 0 i t _ z hno))

      · have e : i + 1 = n := by omega
        rw [e]
        have w : TW xs d L n m post n I2 := hs I2 q2 q4 (lea_in q4 h0 q1 ok hno trivial)
        refine Wk.iload_n (k := 3) (q := 84) (by decide +kernel) rfl rfl rfl ?_
        refine Wk.iload_n (k := 1) (q := 85) (by decide +kernel) rfl rfl rfl ?_
        refine Wk.icmp_ge (off := (-70)) (t := 15) (q := 88) (by decide +kernel) (by decide) rfl (by first | omega | exact bi_rng _) (by first | omega | exact bi_rng _) (fun hc85 => ?_) (fun hc85 => ?_)
        · exact w
        · omega
      · refine ihf i (t + 1) I2 h0 h1 q2 q1 (by omega) (by omega) (by omega) (fun j j0 j1 => by rw [q4 j j0 j1]; exact hpre j j0 j1) (fun s s1 so hx => ?_) (fun I3 p2 p3 pl => hs I3 p2 (fun j j0 j1 => by rw [p3 j j0 j1]; exact q4 j j0 j1) pl) (fun I3 p2 p3 pl => hfl I3 p2 (fun j j0 j1 => by rw [p3 j j0 j1]; exact q4 j j0 j1) (fun z => pl ((Exr_pre h0 q4).mpr z)))
        rcases Classical.em (s = t + 1) with e | e
        · rw [e] at so; exact ok so
        · exact hno s (by omega) ((OKx_cong q4 Iff.rfl (fun _ _ _ => Iff.rfl)).mp so) ((Exr_pre (by omega) (cset_pre q4)).mp hx)
  | succ r ihr =>
    intro f
    induction f with
    | zero =>
      intro i t I1 h0 h1 hE ht ht1 ht2 hf hpre hno hs hfl
      exact tryStep hM hn hR hfree h0 (by omega) hE ht ht1 ht2 hpre (fun I2 _ _ _ ok => absurd ok.1.1.2 (by omega)) (fun I2 z => by omega) (fun I2 z q2 q4 => hfl I2 q2 q4 (nof (r + 1) i t _ z hno))
    | succ f ihf =>
      intro i t I1 h0 h1 hE ht ht1 ht2 hf hpre hno hs hfl
      refine tryStep hM hn hR hfree h0 (by omega) hE ht ht1 ht2 hpre (fun I2 q2 q1 q4 ok => ?_) (fun I2 z q2 q1 q4 ok => ?_) (fun I2 z q2 q4 => hfl I2 q2 q4 (nof (r + 1) i t _ z hno))
      · have hcell := ok.1.1
        have w : TW xs d L n m post (i + 1) (iup I2 153 (i + 1) (-1)) := by
          generalize hI3 : iup I2 153 (i + 1) (-1) = I3
          have r1 : I3 153 (i + 1) = -1 := by rw [← hI3, iup_at]
          have r2 : Ex1 153 I3 J0 := by rw [← hI3]; exact q2.up _ _
          have r3 : ∀ j, ¬ j = i + 1 → I3 153 j = I2 153 j := fun j hj => by rw [← hI3]; exact iup_ne (fun z => hj z.2)
          have hc1 := hcell.1
          have hc2 := hcell.2
          refine ihr (J0 149 0 * J0 149 1).toNat (i + 1) (-1) I3 (by omega) (by omega) r2 r1 (by omega) (by omega) (by omega) (fun j j0 j1 => ?_) (fun s s1 so => ?_) (fun I4 p2 p3 pl => ?_) (fun I4 p2 p3 pl => ?_)
          · rw [r3 j (by omega)]
            rcases Classical.em (j = i) with e | e
            · rw [e, q1]; exact hcell
            · rw [q4 j j0 (by omega)]; exact hpre j j0 (by omega)
          · have := so.1.1.1
            omega
          · have p4 : ∀ j, 0 ≤ j → j < i → I4 153 j = I2 153 j := fun j j0 j1 => by rw [p3 j j0 (by omega), r3 j (by omega)]
            have p5 : ∀ j, 0 ≤ j → j < i → I4 153 j = I1 153 j := fun j j0 j1 => by rw [p4 j j0 j1, q4 j j0 j1]
            refine hs I4 p2 p5 (lea_in p5 h0 (by rw [p3 i h0 (by omega), r3 i (by omega), q1]) ((OKx_cong p4 Iff.rfl (fun _ _ _ => Iff.rfl)).mpr ok) hno pl)
          · have p4 : ∀ j, 0 ≤ j → j < i → I4 153 j = I2 153 j := fun j j0 j1 => by rw [p3 j j0 (by omega), r3 j (by omega)]
            have p5 : ∀ j, 0 ≤ j → j < i → I4 153 j = I1 153 j := fun j j0 j1 => by rw [p4 j j0 j1, q4 j j0 j1]
            have p6 : I4 153 i = t + 1 := by rw [p3 i h0 (by omega), r3 i (by omega), q1]
            rw [show i + 1 + -1 = i by omega]
            refine ihf i (t + 1) I4 h0 h1 p2 p6 (by omega) (by omega) (by omega) (fun j j0 j1 => by rw [p5 j j0 j1]; exact hpre j j0 j1) (fun s s1 so hx => ?_) (fun I5 u2 u3 ul => hs I5 u2 (fun j j0 j1 => by rw [u3 j j0 j1]; exact p5 j j0 j1) ul) (fun I5 u2 u3 ul => hfl I5 u2 (fun j j0 j1 => by rw [u3 j j0 j1]; exact p5 j j0 j1) (fun z => ul ((Exr_pre h0 p5).mpr z)))
            rcases Classical.em (s = t + 1) with e | e
            · refine pl ((Exr_pre (by omega) (fun j j0 j1 => ?_)).mp hx)
              rcases Classical.em (j = i) with e2 | e2
              · rw [e2, cset_eq, r3 i (by omega), q1, e]
              · rw [cset_ne e2, p3 j j0 (by omega)]
            · exact hno s (by omega) ((OKx_cong p5 Iff.rfl (fun _ _ _ => Iff.rfl)).mp so) ((Exr_pre (by omega) (cset_pre p5)).mp hx)
        refine Wk.iload_n (k := 3) (q := 84) (by decide +kernel) rfl rfl rfl ?_
        refine Wk.iload_n (k := 1) (q := 85) (by decide +kernel) rfl rfl rfl ?_
        refine Wk.icmp_ge (off := (-70)) (t := 15) (q := 88) (by decide +kernel) (by decide) rfl (by first | omega | exact bi_rng _) (by first | omega | exact bi_rng _) (fun hc85 => ?_) (fun hc85 => ?_)
        · first | omega | exact w
        · refine Wk.aload_n (k := 0) (q := 89) (by decide +kernel) rfl rfl rfl ?_
          refine Wk.getR (r := 153) (q := 92) f_Mod_22 (by decide +kernel) O_148 (by decide) rfl rfl rfl ?_
          refine Wk.iload_n (k := 3) (q := 93) (by decide +kernel) rfl rfl rfl ?_
          refine Wk.iconst (n := (-1)) (q := 94) (by decide +kernel) rfl ?_
          refine Wk.iastore (q := 95) (by decide +kernel) A_153 (by first | omega | exact bi_rng _) (by first | omega | exact bi_rng _) rfl ?_
          refine Wk.goto (off := (-80)) (q := 15) (by decide +kernel) (by decide) ?_
          first | omega | exact w
      · refine ihf i (t + 1) I2 h0 h1 q2 q1 (by omega) (by omega) (by omega) (fun j j0 j1 => by rw [q4 j j0 j1]; exact hpre j j0 j1) (fun s s1 so hx => ?_) (fun I3 p2 p3 pl => hs I3 p2 (fun j j0 j1 => by rw [p3 j j0 j1]; exact q4 j j0 j1) pl) (fun I3 p2 p3 pl => hfl I3 p2 (fun j j0 j1 => by rw [p3 j j0 j1]; exact q4 j j0 j1) (fun z => pl ((Exr_pre h0 q4).mpr z)))
        rcases Classical.em (s = t + 1) with e | e
        · rw [e] at so; exact ok so
        · exact hno s (by omega) ((OKx_cong q4 Iff.rfl (fun _ _ _ => Iff.rfl)).mp so) ((Exr_pre (by omega) (cset_pre q4)).mp hx)
end MOF
section MOG
variable {xs : RO} {d : Nat} {I : IM} {L : LM}
theorem c_Mod_tryRows {n m : Int} (h0 : 0 ≤ n) (h1 : n ≤ 3) (hM : MW I) (hm : 0 ≤ m ∧ m ≤ 31) (hR : ∀ k, 0 ≤ k → k < n → MP I (I 154 k)) : Wk xs x_Mod_tryRows (d + 7) 0 0 0 [some (vr 148), some (vi n), some (vi m), none] [] X2 I L (p2 fun v I' L' => ((v = some (vi 1) ∧ Lea (uG I m) (uK I) n.toNat 0 (I' 153)) ∨ (v = some (vi 0) ∧ ¬ Exr (uG I m) (uK I) n.toNat 0 (fun _ => 0))) ∧ (∀ k, ¬ k = 153 → ¬ k = 155 → I' k = I k) ∧ L' = L) := by
  have key : ∀ J0 : IM, Ex1 155 J0 I → (∀ j c, 0 ≤ j → j < n → mC I c → J0 155 (49 * j + c) = bi (mFr I (I 154 j) m c)) → TW xs d L n m (p2 fun v I' L' => ((v = some (vi 1) ∧ Lea (uG I m) (uK I) n.toNat 0 (I' 153)) ∨ (v = some (vi 0) ∧ ¬ Exr (uG I m) (uK I) n.toNat 0 (fun _ => 0))) ∧ (∀ k, ¬ k = 153 → ¬ k = 155 → I' k = I k) ∧ L' = L) 0 (iup J0 153 0 (-1)) := by
    intro J0 hE hfr
    have e1 := hE 149 (by decide)
    have e2 := hE 154 (by decide)
    have hkeep : ∀ I2, Ex1 153 I2 J0 → ∀ k, ¬ k = 153 → ¬ k = 155 → I2 k = I k := fun I2 h k k1 k2 => (h k k1).trans (hE k k2)
    have fin : ∀ I2, Ex1 153 I2 J0 → Lea (uG J0 m) (uK J0) n.toNat 0 (I2 153) → TW xs d L n m (p2 fun v I' L' => ((v = some (vi 1) ∧ Lea (uG I m) (uK I) n.toNat 0 (I' 153)) ∨ (v = some (vi 0) ∧ ¬ Exr (uG I m) (uK I) n.toNat 0 (fun _ => 0))) ∧ (∀ k, ¬ k = 153 → ¬ k = 155 → I' k = I k) ∧ L' = L) n I2 := by
      intro I2 q2 ql
      rw [uG_eq e1 e2, uK_eq e1 e2] at ql
      refine Wk.iload_n (k := 3) (q := 16) (by decide +kernel) rfl rfl rfl ?_
      refine Wk.if_lt (off := (82)) (t := 98) (q := 19) (by decide +kernel) (by decide) rfl (by first | omega | exact bi_rng _) (fun hc16 => ?_) (fun hc16 => ?_)
      · refine Wk.iload_n (k := 3) (q := 99) (by decide +kernel) rfl rfl rfl ?_
        refine Wk.iload_n (k := 1) (q := 100) (by decide +kernel) rfl rfl rfl ?_
        refine Wk.icmp_ne (off := (7)) (t := 107) (q := 103) (by decide +kernel) (by decide) rfl (by first | omega | exact bi_rng _) (by first | omega | exact bi_rng _) (fun hc100 => ?_) (fun hc100 => ?_)
        · refine Wk.iconst (n := 0) (q := 108) (by decide +kernel) rfl ?_
          exact Wk.rzP (by decide +kernel) rfl (by first | omega | decide | exact bi_01 _) (by first | omega | exact ⟨Or.inl ⟨rfl, ql⟩, hkeep I2 q2, rfl⟩)
        · refine Wk.iconst (n := 1) (q := 104) (by decide +kernel) rfl ?_
          refine Wk.goto (off := (4)) (q := 108) (by decide +kernel) (by decide) ?_
          exact Wk.rzP (by decide +kernel) rfl (by first | omega | decide | exact bi_01 _) (by first | omega | exact ⟨Or.inl ⟨rfl, ql⟩, hkeep I2 q2, rfl⟩)
      · refine Wk.iload_n (k := 3) (q := 20) (by decide +kernel) rfl rfl rfl ?_
        refine Wk.iload_n (k := 1) (q := 21) (by decide +kernel) rfl rfl rfl ?_
        refine Wk.icmp_ge (off := (77)) (t := 98) (q := 24) (by decide +kernel) (by decide) rfl (by first | omega | exact bi_rng _) (by first | omega | exact bi_rng _) (fun hc21 => ?_) (fun hc21 => ?_)
        · refine Wk.iload_n (k := 3) (q := 99) (by decide +kernel) rfl rfl rfl ?_
          refine Wk.iload_n (k := 1) (q := 100) (by decide +kernel) rfl rfl rfl ?_
          refine Wk.icmp_ne (off := (7)) (t := 107) (q := 103) (by decide +kernel) (by decide) rfl (by first | omega | exact bi_rng _) (by first | omega | exact bi_rng _) (fun hc100 => ?_) (fun hc100 => ?_)
          · refine Wk.iconst (n := 0) (q := 108) (by decide +kernel) rfl ?_
            exact Wk.rzP (by decide +kernel) rfl (by first | omega | decide | exact bi_01 _) (by first | omega | exact ⟨Or.inl ⟨rfl, ql⟩, hkeep I2 q2, rfl⟩)
          · refine Wk.iconst (n := 1) (q := 104) (by decide +kernel) rfl ?_
            refine Wk.goto (off := (4)) (q := 108) (by decide +kernel) (by decide) ?_
            exact Wk.rzP (by decide +kernel) rfl (by first | omega | decide | exact bi_01 _) (by first | omega | exact ⟨Or.inl ⟨rfl, ql⟩, hkeep I2 q2, rfl⟩)
        · omega
    have q0 : Ex1 153 (iup J0 153 0 (-1)) J0 := Ex1.up (fun _ _ => rfl) _ _
    have hMJ := (MW_eq e1).mpr hM
    have h49 := WH49 (W := J0 149 0) (H := J0 149 1) (by have := hMJ.1.1; omega) (by have := hMJ.1.2.1; omega)
    rcases Classical.em (n = 0) with hz | hz
    · have := fin (iup J0 153 0 (-1)) q0 (by rw [hz]; trivial)
      rw [hz] at this ⊢
      exact this
    · have en : (n - 1).toNat + 1 = n.toNat := by omega
      refine tryR hMJ h1 (fun k k0 k1 => (MP_eq e1).mpr (by rw [e2]; exact hR k k0 k1)) (fun j c j0 j1 jc => by rw [hfr j c j0 j1 ((mC_eq e1).mp jc), e2]; exact bi_cong (mFr_eq e1).symm) (n - 1).toNat (J0 149 0 * J0 149 1).toNat 0 (-1) (iup J0 153 0 (-1)) (by omega) (by omega) q0 (iup_at _ _ _ _) (by omega) (by omega) (by omega) (fun j j0 j1 => by omega) (fun s s1 so => by have := so.1.1.1; omega) (fun I2 q2 _ ql => fin I2 q2 (by rw [en] at ql; exact ql)) (fun I2 q2 _ ql => ?_)
      rw [en, uG_eq e1 e2, uK_eq e1 e2, Exr_pre (c2 := fun _ => 0) (by omega) (fun j j0 j1 => by omega)] at ql
      refine Wk.iload_n (k := 3) (q := 16) (by decide +kernel) rfl rfl rfl ?_
      refine Wk.if_lt (off := (82)) (t := 98) (q := 19) (by decide +kernel) (by decide) rfl (by first | omega | exact bi_rng _) (fun hc16 => ?_) (fun hc16 => ?_)
      · refine Wk.iload_n (k := 3) (q := 99) (by decide +kernel) rfl rfl rfl ?_
        refine Wk.iload_n (k := 1) (q := 100) (by decide +kernel) rfl rfl rfl ?_
        refine Wk.icmp_ne (off := (7)) (t := 107) (q := 103) (by decide +kernel) (by decide) rfl (by first | omega | exact bi_rng _) (by first | omega | exact bi_rng _) (fun hc100 => ?_) (fun hc100 => ?_)
        · refine Wk.iconst (n := 0) (q := 108) (by decide +kernel) rfl ?_
          exact Wk.rzP (by decide +kernel) rfl (by first | omega | decide | exact bi_01 _) (by first | omega | exact ⟨Or.inr ⟨rfl, ql⟩, hkeep I2 q2, rfl⟩)
        · refine Wk.iconst (n := 1) (q := 104) (by decide +kernel) rfl ?_
          refine Wk.goto (off := (4)) (q := 108) (by decide +kernel) (by decide) ?_
          exact Wk.rzP (by decide +kernel) rfl (by first | omega | decide | exact bi_01 _) (by first | omega | exact ⟨Or.inr ⟨rfl, ql⟩, hkeep I2 q2, rfl⟩)
      · omega
  refine Wk.aload_n (k := 0) (q := 1) (by decide +kernel) rfl rfl rfl ?_
  refine Wk.iload_n (k := 1) (q := 2) (by decide +kernel) rfl rfl rfl ?_
  refine Wk.iload_n (k := 2) (q := 3) (by decide +kernel) rfl rfl rfl ?_
  refine Wk.cV (q := 6) l_Mod_106 m_Mod_layFree (by decide +kernel) (fun _ h => h) O_148 rfl (Nat.le_of_ble_eq_true rfl) (Nat.le_of_ble_eq_true rfl) rfl (c_Mod_layFree h0 h1 hM hm hR) rfl (fun v I' L' hP => ?_)
  obtain ⟨rfl, hE, hfr, rfl⟩ := hP
  refine Wk.iconst (n := 0) (q := 7) (by decide +kernel) rfl ?_
  refine Wk.istore_n (k := 3) (q := 8) (by decide +kernel) rfl (by decide) rfl (fun _ h => h) rfl ?_
  refine Wk.aload_n (k := 0) (q := 9) (by decide +kernel) rfl rfl rfl ?_
  refine Wk.getR (r := 153) (q := 12) f_Mod_22 (by decide +kernel) O_148 (by decide) rfl rfl rfl ?_
  refine Wk.iconst (n := 0) (q := 13) (by decide +kernel) rfl ?_
  refine Wk.iconst (n := (-1)) (q := 14) (by decide +kernel) rfl ?_
  refine Wk.iastore (q := 15) (by decide +kernel) A_153 (by first | omega | exact bi_rng _) (by first | omega | exact bi_rng _) rfl ?_
  exact key I' hE hfr
end MOG
end
section
/-! THE REFERENCE: places for all, moves -/
/-- candidates and clashes for ships by their slots; a slot's numbers begin at 55 + 4 s -/
abbrev zG (I : IM) (set : Int) (R : Int → Int) : Int → Int → Prop := fun i c => mC I c ∧ mFr I (55 + 4 * R i) set c
abbrev zK (I : IM) (R : Int → Int) : Int → Int → Int → Int → Prop := fun i c j e => mCL I (I 149 3) (55 + 4 * R i) c (55 + 4 * R j) e
def ZE (I : IM) (k set : Int) : Prop := ∃ R, MR (I 149 4) k set (nbit set 5) R ∧ Exr (zG I set R) (zK I R) (nbit set 5 + 1).toNat 0 (fun _ => 0)
theorem zG_eq {I' I : IM} (h : I' 149 = I 149) {m : Int} {R : Int → Int} : zG I' m R = zG I m R := by
  funext i c; unfold zG mC mFr mML mCL; rw [h]
theorem zK_eq {I' I : IM} (h : I' 149 = I 149) {R : Int → Int} : zK I' R = zK I R := by
  funext i c j e; unfold zK mCL; rw [h]
theorem ZE_eq {I' I : IM} (h : I' 149 = I 149) {k set : Int} : ZE I' k set ↔ ZE I k set := by
  unfold ZE
  constructor
  · rintro ⟨R, h1, h2⟩
    rw [zG_eq h, zK_eq h] at h2
    rw [h] at h1
    exact ⟨R, h1, h2⟩
  · rintro ⟨R, h1, h2⟩
    refine ⟨R, by rw [h]; exact h1, ?_⟩
    rw [zG_eq h, zK_eq h]
    exact h2
/-- all but what the tries write -/
def Kp (I' I : IM) : Prop := ∀ c b, ¬ c = 153 → ¬ c = 154 → ¬ c = 155 → ¬ (c = 148 ∧ b = 11) → I' c b = I c b
theorem Kp.w {I' I : IM} (h : Kp I' I) : I' 149 = I 149 := funext fun b => h 149 b (by decide) (by decide) (by decide) (fun z => absurd z.1 (by decide))
theorem Kp.trans {I'' I' I : IM} (h : Kp I'' I') (g : Kp I' I) : Kp I'' I := fun c b h1 h2 h3 h4 => (h c b h1 h2 h3 h4).trans (g c b h1 h2 h3 h4)
theorem Kp.of154 {I' I : IM} (h : Ex1 154 I' I) : Kp I' I := fun c b _ h2 _ _ => by rw [h c h2]
theorem Kp.ofRows {I' I : IM} (h : ∀ k, ¬ k = 153 → ¬ k = 155 → I' k = I k) : Kp I' I := fun c b h1 _ h3 _ => by rw [h c h1 h3]
theorem Kp.moved (I : IM) (v : Int) : Kp (iup I 148 11 v) I := fun c b _ _ _ h => iup_ne h
theorem Kp.refl (I : IM) : Kp I I := fun _ _ _ _ _ _ => rfl
theorem slotMP {I : IM} (hM : MW I) {s : Int} (h : (0 ≤ s ∧ s < I 149 4) ∨ (5 ≤ s ∧ s < 5 + I 149 5)) : MP I (55 + 4 * s) := by
  rcases h with h | h
  · exact (hM.2.1 s h.1 h.2).1
  · have := hM.2.2 (s - 5) (by omega) (by omega)
    rw [show 75 + 4 * (s - 5) = 55 + 4 * s by omega] at this
    exact this
section MOH
variable {xs : RO} {d : Nat} {I : IM} {L : LM}

theorem c_Mod_placesForAll (hM : MW I) : Wk xs x_Mod_placesForAll (d + 8) 0 0 0 [some (vr 148), none] [] X2 I L (p2 fun v I' L' => ((v = some (vi 1) ∧ Lea (zG I 0 (fun i => 5 + i)) (zK I (fun i => 5 + i)) (I 149 5).toNat 0 (I' 153)) ∨ (v = some (vi 0) ∧ ¬ Exr (zG I 0 (fun i => 5 + i)) (zK I (fun i => 5 + i)) (I 149 5).toNat 0 (fun _ => 0))) ∧ Kp I' I ∧ L' = L) := by
  obtain ⟨hI, hS, hQ⟩ := id hM
  obtain ⟨hW, hH, hT, hF, hA, hK, hD⟩ := id hI
  have h49 := WH49 (W := I 149 0) (H := I 149 1) (by omega) (by omega)
  have key : Wk xs x_Mod_placesForAll (d + 8) 0 0 2 [some (vr 148), some (vi 0)] [] X2 I L (p2 fun v I' L' => ((v = some (vi 1) ∧ Lea (zG I 0 (fun i => 5 + i)) (zK I (fun i => 5 + i)) (I 149 5).toNat 0 (I' 153)) ∨ (v = some (vi 0) ∧ ¬ Exr (zG I 0 (fun i => 5 + i)) (zK I (fun i => 5 + i)) (I 149 5).toNat 0 (fun _ => 0))) ∧ Kp I' I ∧ L' = L) := by
    refine loopS (σ := IM) (fun k I2 => Wk xs x_Mod_placesForAll (d + 8) 0 0 2 [some (vr 148), some (vi k)] [] X2 I2 L (p2 fun v I' L' => ((v = some (vi 1) ∧ Lea (zG I 0 (fun i => 5 + i)) (zK I (fun i => 5 + i)) (I 149 5).toNat 0 (I' 153)) ∨ (v = some (vi 0) ∧ ¬ Exr (zG I 0 (fun i => 5 + i)) (zK I (fun i => 5 + i)) (I 149 5).toNat 0 (fun _ => 0))) ∧ Kp I' I ∧ L' = L)) (fun k I2 => Ex1 154 I2 I ∧ ∀ j, 0 ≤ j → j < k → I2 154 j = 75 + 4 * j) (I 149 5) 0 I (by omega) ⟨fun _ _ => rfl, fun j j0 j1 => by omega⟩ ?_ ?_
    · intro I2 hJ
      obtain ⟨j1, j2⟩ := hJ
      have e1 := j1 149 (by decide)
      have hG : ∀ i s, 0 ≤ i → i < I 149 5 → (uG I2 0 i s ↔ zG I 0 (fun i => 5 + i) i s) := fun i s i0 i1 => by
        unfold uG zG
        rw [mC_eq e1, mFr_eq e1, j2 i i0 i1, show 55 + 4 * (5 + i) = 75 + 4 * i by omega]
      have hK2 : ∀ i s j t, 0 ≤ i → i < I 149 5 → 0 ≤ j → j < I 149 5 → (uK I2 i s j t ↔ zK I (fun i => 5 + i) i s j t) := fun i s j t i0 i1 m0 m1 => by
        unfold uK zK
        rw [mCL_eq e1, j2 i i0 i1, j2 j m0 m1, show 55 + 4 * (5 + i) = 75 + 4 * i by omega, show 55 + 4 * (5 + j) = 75 + 4 * j by omega, e1]
      refine Wk.iload_n (k := 1) (q := 3) (by decide +kernel) rfl rfl rfl ?_
      refine Wk.aload_n (k := 0) (q := 4) (by decide +kernel) rfl rfl rfl ?_
      refine Wk.getR (r := 149) (q := 7) f_Mod_7 (by decide +kernel) O_148 (by decide) rfl rfl rfl ?_
      refine Wk.iconst (n := 5) (q := 8) (by decide +kernel) rfl ?_
      refine Wk.iaload (q := 9) (by decide +kernel) A_149 (by first | omega | exact bi_rng _) (by first | omega | exact bi_rng _) rfl ?_
      rw [e1]
      refine Wk.icmp_ge (off := (19)) (t := 28) (q := 12) (by decide +kernel) (by decide) rfl (by first | omega | exact bi_rng _) (by first | omega | exact bi_rng _) (fun hc9 => ?_) (fun hc9 => ?_)
      · refine Wk.aload_n (k := 0) (q := 29) (by decide +kernel) rfl rfl rfl ?_
        refine Wk.aload_n (k := 0) (q := 30) (by decide +kernel) rfl rfl rfl ?_
        refine Wk.getR (r := 149) (q := 33) f_Mod_7 (by decide +kernel) O_148 (by decide) rfl rfl rfl ?_
        refine Wk.iconst (n := 5) (q := 34) (by decide +kernel) rfl ?_
        refine Wk.iaload (q := 35) (by decide +kernel) A_149 (by first | omega | exact bi_rng _) (by first | omega | exact bi_rng _) rfl ?_
        rw [e1]
        refine Wk.iconst (n := 0) (q := 36) (by decide +kernel) rfl ?_
        refine Wk.cV (q := 39) l_Mod_112 m_Mod_tryRows (by decide +kernel) (fun _ h => h) O_148 rfl (Nat.le_of_ble_eq_true rfl) (Nat.le_of_ble_eq_true rfl) rfl (c_Mod_tryRows hK.1 hK.2 ((MW_eq e1).mpr hM) (by omega) (fun k k0 k1 => (MP_eq e1).mpr (by rw [j2 k k0 k1]; exact hQ k k0 k1))) rfl (fun v I3 L3 hP => ?_)
        obtain ⟨hv, q1, rfl⟩ := hP
        have hfin : ((v = some (vi 1) ∧ Lea (zG I 0 (fun i => 5 + i)) (zK I (fun i => 5 + i)) (I 149 5).toNat 0 (I3 153)) ∨ (v = some (vi 0) ∧ ¬ Exr (zG I 0 (fun i => 5 + i)) (zK I (fun i => 5 + i)) (I 149 5).toNat 0 (fun _ => 0))) := by
          rcases hv with ⟨rfl, hv⟩ | ⟨rfl, hv⟩
          · exact Or.inl ⟨rfl, Lea_cong hG hK2 _ 0 _ _ (by omega) (by omega) (fun _ _ _ => rfl) hv⟩
          · exact Or.inr ⟨rfl, fun z => hv ((Exr_cong hG hK2 _ 0 _ _ (by omega) (by omega) (fun _ _ _ => rfl)).mpr z)⟩
        obtain ⟨z, hz, hz2⟩ : ∃ z : Int, (z = 0 ∨ z = 1) ∧ v = some (vi z) := by
          rcases hv with ⟨rfl, -⟩ | ⟨rfl, -⟩
          · exact ⟨1, Or.inr rfl, rfl⟩
          · exact ⟨0, Or.inl rfl, rfl⟩
        subst hz2
        exact Wk.rzP (by decide +kernel) rfl (by first | omega | decide | exact bi_01 _) (⟨hfin, (Kp.ofRows q1).trans (Kp.of154 j1), rfl⟩)
      · omega
    · intro k I2 k0 k1 hJ ih
      obtain ⟨j1, j2⟩ := hJ
      have e1 := j1 149 (by decide)
      refine Wk.iload_n (k := 1) (q := 3) (by decide +kernel) rfl rfl rfl ?_
      refine Wk.aload_n (k := 0) (q := 4) (by decide +kernel) rfl rfl rfl ?_
      refine Wk.getR (r := 149) (q := 7) f_Mod_7 (by decide +kernel) O_148 (by decide) rfl rfl rfl ?_
      refine Wk.iconst (n := 5) (q := 8) (by decide +kernel) rfl ?_
      refine Wk.iaload (q := 9) (by decide +kernel) A_149 (by first | omega | exact bi_rng _) (by first | omega | exact bi_rng _) rfl ?_
      rw [e1]
      refine Wk.icmp_ge (off := (19)) (t := 28) (q := 12) (by decide +kernel) (by decide) rfl (by first | omega | exact bi_rng _) (by first | omega | exact bi_rng _) (fun hc9 => ?_) (fun hc9 => ?_)
      · omega
      · refine Wk.aload_n (k := 0) (q := 13) (by decide +kernel) rfl rfl rfl ?_
        refine Wk.getR (r := 154) (q := 16) f_Mod_25 (by decide +kernel) O_148 (by decide) rfl rfl rfl ?_
        refine Wk.iload_n (k := 1) (q := 17) (by decide +kernel) rfl rfl rfl ?_
        refine Wk.iload_n (k := 1) (q := 18) (by decide +kernel) rfl rfl rfl ?_
        refine Wk.cSi (q := 21) l_Mod_100 m_Mod_waitAt (by decide +kernel) (fun _ h => h) (Nat.le_of_ble_eq_true rfl) (Nat.le_of_ble_eq_true rfl) rfl (c_Mod_waitAt) rfl ?_
        refine Wk.iastore (q := 22) (by decide +kernel) A_154 (by first | omega | exact bi_rng _) (by first | omega | exact bi_rng _) rfl ?_
        refine Wk.iinc (i := 1) (n := 1) (q := 25) (by decide +kernel) rfl (by decide) rfl (fun _ h => h) rfl ?_
        refine Wk.goto (off := (-23)) (q := 2) (by decide +kernel) (by decide) ?_
        exact ih _ ⟨j1.up _ _, fun j j0 j1' => by
          rcases Classical.em (j = k) with e | e
          · rw [e, iup_at]
          · rw [iup_ne (fun z => e z.2)]; exact j2 j j0 (by omega)⟩
  refine Wk.iconst (n := 0) (q := 1) (by decide +kernel) rfl ?_
  refine Wk.istore_n (k := 1) (q := 2) (by decide +kernel) rfl (by decide) rfl (fun _ h => h) rfl ?_
  exact key
theorem c_Mod_tryMoved {k set : Int} (k0 : 0 ≤ k) (k1 : k < I 149 5) (hM : MW I) (s0 : 0 ≤ set) (s1 : set < (2 ^ (I 149 4).toNat : Nat)) (s2 : nbit set 5 ≤ 2) : Wk xs x_Mod_tryMoved (d + 8) 0 0 0 [some (vr 148), some (vi k), some (vi set), none, none] [] X2 I L (p2 fun v I' L' => ((v = some (vi 1) ∧ ∃ R, MR (I 149 4) k set (nbit set 5) R ∧ Lea (zG I set R) (zK I R) (nbit set 5 + 1).toNat 0 (I' 153)) ∨ (v = some (vi 0) ∧ ¬ ZE I k set)) ∧ Kp I' I ∧ L' = L) := by
  obtain ⟨hI, hS, hQ⟩ := id hM
  obtain ⟨hW, hH, hT, hF, hA, hK, hD⟩ := id hI
  have h49 := WH49 (W := I 149 0) (H := I 149 1) (by omega) (by omega)
  have hp5 : 2 ^ (I 149 4).toNat ≤ 2 ^ 5 := Nat.pow_le_pow_right (by decide) (by omega)
  have hna := nbit_hi s0 s1 hA.1 hA.2
  have hb0 := nbit_mono (set := set) (a := 0) (b := 5) (by omega) (by omega)
  rw [nbit_0] at hb0
  have key : ∀ I1 : IM, Ex1 154 I1 I → I1 154 0 = 75 + 4 * k → Wk xs x_Mod_tryMoved (d + 8) 0 0 15 [some (vr 148), some (vi k), some (vi set), some (vi (1 + nbit set 0)), some (vi 0)] [] X2 I1 L (p2 fun v I' L' => ((v = some (vi 1) ∧ ∃ R, MR (I 149 4) k set (nbit set 5) R ∧ Lea (zG I set R) (zK I R) (nbit set 5 + 1).toNat 0 (I' 153)) ∨ (v = some (vi 0) ∧ ¬ ZE I k set)) ∧ Kp I' I ∧ L' = L) := by
    intro I1 hI1 e3
    refine loopS (σ := IM) (fun a I2 => Wk xs x_Mod_tryMoved (d + 8) 0 0 15 [some (vr 148), some (vi k), some (vi set), some (vi (1 + nbit set a)), some (vi a)] [] X2 I2 L (p2 fun v I' L' => ((v = some (vi 1) ∧ ∃ R, MR (I 149 4) k set (nbit set 5) R ∧ Lea (zG I set R) (zK I R) (nbit set 5 + 1).toNat 0 (I' 153)) ∨ (v = some (vi 0) ∧ ¬ ZE I k set)) ∧ Kp I' I ∧ L' = L)) (fun a I2 => Ex1 154 I2 I ∧ ∃ R, MR a k set (nbit set a) R ∧ ∀ i, 0 ≤ i → i ≤ nbit set a → I2 154 i = 55 + 4 * R i) (I 149 4) 0 I1 (by omega) ⟨hI1, fun _ => 5 + k, ⟨rfl, fun i i0 i1 => by rw [nbit_0] at i1; omega, fun i j i0 i1 i2 => by rw [nbit_0] at i2; omega, fun a a0 a1 => by omega⟩, fun i i0 i1 => by rw [nbit_0] at i1; rw [show i = 0 by omega, e3]; show 75 + 4 * k = 55 + 4 * (5 + k); omega⟩ ?_ ?_
    · intro I2 hJ
      obtain ⟨j1, R, j2, j3⟩ := hJ
      have e1 := j1 149 (by decide)
      rw [← hna] at j2 j3
      have hG : ∀ i s, 0 ≤ i → i < nbit set 5 + 1 → (uG I2 set i s ↔ zG I set R i s) := fun i s i0 i1 => by
        unfold uG zG
        rw [mC_eq e1, mFr_eq e1, j3 i i0 (by omega)]
      have hK2 : ∀ i s j t, 0 ≤ i → i < nbit set 5 + 1 → 0 ≤ j → j < nbit set 5 + 1 → (uK I2 i s j t ↔ zK I R i s j t) := fun i s j t i0 i1 m0 m1 => by
        unfold uK zK
        rw [mCL_eq e1, j3 i i0 (by omega), j3 j m0 (by omega), e1]
      rw [← hna]
      refine Wk.iload (i := 4) (q := 17) (by decide +kernel) rfl rfl ?_
      refine Wk.aload_n (k := 0) (q := 18) (by decide +kernel) rfl rfl rfl ?_
      refine Wk.getR (r := 149) (q := 21) f_Mod_7 (by decide +kernel) O_148 (by decide) rfl rfl rfl ?_
      refine Wk.iconst (n := 4) (q := 22) (by decide +kernel) rfl ?_
      refine Wk.iaload (q := 23) (by decide +kernel) A_149 (by first | omega | exact bi_rng _) (by first | omega | exact bi_rng _) rfl ?_
      rw [e1]
      refine Wk.icmp_ge (off := (32)) (t := 55) (q := 26) (by decide +kernel) (by decide) rfl (by first | omega | exact bi_rng _) (by first | omega | exact bi_rng _) (fun hc23 => ?_) (fun hc23 => ?_)
      · refine Wk.aload_n (k := 0) (q := 56) (by decide +kernel) rfl rfl rfl ?_
        refine Wk.iload_n (k := 3) (q := 57) (by decide +kernel) rfl rfl rfl ?_
        refine Wk.iload_n (k := 2) (q := 58) (by decide +kernel) rfl rfl rfl ?_
        refine Wk.cV (q := 61) l_Mod_112 m_Mod_tryRows (by decide +kernel) (fun _ h => h) O_148 rfl (Nat.le_of_ble_eq_true rfl) (Nat.le_of_ble_eq_true rfl) rfl (c_Mod_tryRows (by omega) (by omega) ((MW_eq e1).mpr hM) (by omega) (fun i i0 i1 => (MP_eq e1).mpr (by
        rw [j3 i i0 (by omega)]
        refine slotMP hM ?_
        by_cases hi : i = 0
        · rw [hi, j2.1]; right; omega
        · left; exact (j2.2.1 i (by omega) (by omega)).1))) rfl (fun v I3 L3 hP => ?_)
        obtain ⟨hv, q1, rfl⟩ := hP
        rw [show 1 + nbit set 5 = nbit set 5 + 1 by omega] at hv
        have hfin : ((v = some (vi 1) ∧ ∃ R, MR (I 149 4) k set (nbit set 5) R ∧ Lea (zG I set R) (zK I R) (nbit set 5 + 1).toNat 0 (I3 153)) ∨ (v = some (vi 0) ∧ ¬ ZE I k set)) := by
          rcases hv with ⟨rfl, hv⟩ | ⟨rfl, hv⟩
          · exact Or.inl ⟨rfl, R, j2, Lea_cong hG hK2 _ 0 _ _ (by omega) (by omega) (fun _ _ _ => rfl) hv⟩
          · refine Or.inr ⟨rfl, fun ⟨R2, hR1, hR2⟩ => hv ((Exr_cong hG hK2 _ 0 _ _ (by omega) (by omega) (fun _ _ _ => rfl)).mpr ?_)⟩
            have hu := MR_uniq hR1 j2
            refine (Exr_cong (N := nbit set 5 + 1) (fun i s i0 i1 => ?_) (fun i s j t i0 i1 m0 m1 => ?_) _ 0 _ _ (by omega) (by omega) (fun _ _ _ => rfl)).mp hR2
            · unfold zG
              rw [hu i i0 (by omega)]
            · unfold zK
              rw [hu i i0 (by omega), hu j m0 (by omega)]
        obtain ⟨z, hz, hz2⟩ : ∃ z : Int, (z = 0 ∨ z = 1) ∧ v = some (vi z) := by
          rcases hv with ⟨rfl, -⟩ | ⟨rfl, -⟩
          · exact ⟨1, Or.inr rfl, rfl⟩
          · exact ⟨0, Or.inl rfl, rfl⟩
        subst hz2
        exact Wk.rzP (by decide +kernel) rfl (by first | omega | decide | exact bi_01 _) (⟨hfin, (Kp.ofRows q1).trans (Kp.of154 j1), rfl⟩)
      · omega
    · intro a I2 a0 a1 hJ ih
      obtain ⟨j1, R, j4, j3⟩ := hJ
      have e1 := j1 149 (by decide)
      have hm1 := nbit_mono (set := set) (a := a) (b := 5) a0 (by omega)
      have hm2 := nbit_mono (set := set) (a := a + 1) (b := 5) (by omega) (by omega)
      have hm0 := nbit_mono (set := set) (a := 0) (b := a) (by omega) (by omega)
      rw [nbit_0] at hm0
      have hst := nbit_step (set := set) a0
      refine Wk.iload (i := 4) (q := 17) (by decide +kernel) rfl rfl ?_
      refine Wk.aload_n (k := 0) (q := 18) (by decide +kernel) rfl rfl rfl ?_
      refine Wk.getR (r := 149) (q := 21) f_Mod_7 (by decide +kernel) O_148 (by decide) rfl rfl rfl ?_
      refine Wk.iconst (n := 4) (q := 22) (by decide +kernel) rfl ?_
      refine Wk.iaload (q := 23) (by decide +kernel) A_149 (by first | omega | exact bi_rng _) (by first | omega | exact bi_rng _) rfl ?_
      rw [e1]
      refine Wk.icmp_ge (off := (32)) (t := 55) (q := 26) (by decide +kernel) (by decide) rfl (by first | omega | exact bi_rng _) (by first | omega | exact bi_rng _) (fun hc23 => ?_) (fun hc23 => ?_)
      · omega
      · refine Wk.iload_n (k := 2) (q := 27) (by decide +kernel) rfl rfl rfl ?_
        refine Wk.iload (i := 4) (q := 29) (by decide +kernel) rfl rfl ?_
        refine Wk.cSi (q := 32) l_Mod_58 m_Mod_has (by decide +kernel) (fun _ h => h) (Nat.le_of_ble_eq_true rfl) (Nat.le_of_ble_eq_true rfl) rfl (c_Mod_has (by omega) (by omega) (by omega) (by omega)) rfl ?_
        refine Wk.ifB_eq (off := (17)) (t := 49) (q := 35) (by decide +kernel) (by decide) rfl (fun hc32 => ?_) (fun hc32 => ?_)
        · refine Wk.iinc (i := 4) (n := 1) (q := 52) (by decide +kernel) rfl (by decide) rfl (fun _ h => h) rfl ?_
          refine Wk.goto (off := (-37)) (q := 15) (by decide +kernel) (by decide) ?_
          first
            | (rw [bi_f hc32, Int.add_zero] at hst
               rw [hst] at ih
               refine ih _ ⟨j1, R, ⟨j4.1, fun i i0 i1 => by have := j4.2.1 i i0 i1; exact ⟨by omega, this.2⟩, j4.2.2.1, fun b b0 b1 hb => by
                 by_cases hba : b = a
                 · rw [hba] at hb; exact absurd hb hc32
                 · exact j4.2.2.2 b b0 (by omega) hb⟩, j3⟩)
            | (rw [bi_t hc32] at hst
               rw [hst] at ih
               rw [show 1 + nbit set a + 1 = 1 + (nbit set a + 1) by omega]
               have hg : ∀ i, ¬ i = nbit set a + 1 → cset R (nbit set a + 1) a i = R i := fun i hi => cset_ne hi
               have hg2 : cset R (nbit set a + 1) a (nbit set a + 1) = a := cset_eq _ _ _
               refine ih _ ⟨j1.up _ _, cset R (nbit set a + 1) a, ⟨by rw [hg 0 (by omega)]; exact j4.1, fun i i0 i1 => ?_, fun i j i0 i1 i2 => ?_, fun b b0 b1 hb => ?_⟩, fun i i0 i1 => ?_⟩
               · by_cases hi : i = nbit set a + 1
                 · rw [hi, hg2]; exact ⟨by omega, hc32⟩
                 · rw [hg i (by omega)]
                   have := j4.2.1 i i0 (by omega)
                   exact ⟨by omega, this.2⟩
               · by_cases hj : j = nbit set a + 1
                 · rw [hj, hg2, hg i (by omega)]
                   have := (j4.2.1 i i0 (by omega)).1
                   omega
                 · rw [hg i (by omega), hg j (by omega)]
                   exact j4.2.2.1 i j i0 i1 (by omega)
               · by_cases hba : b = a
                 · exact ⟨nbit set a + 1, by omega, by omega, by rw [hg2, hba]⟩
                 · obtain ⟨i, i0, i1, i2⟩ := j4.2.2.2 b b0 (by omega) hb
                   exact ⟨i, i0, by omega, by rw [hg i (by omega)]; exact i2⟩
               · by_cases hi : i = nbit set a + 1
                 · rw [hi, hg2, show nbit set a + 1 = 1 + nbit set a by omega, iup_at]
                 · rw [hg i hi, iup_ne (by omega)]
                   exact j3 i i0 (by omega))
        · have hst2 := hst
          rw [bi_t hc32] at hst2
          refine Wk.aload_n (k := 0) (q := 36) (by decide +kernel) rfl rfl rfl ?_
          refine Wk.getR (r := 154) (q := 39) f_Mod_25 (by decide +kernel) O_148 (by decide) rfl rfl rfl ?_
          refine Wk.iload_n (k := 3) (q := 40) (by decide +kernel) rfl rfl rfl ?_
          refine Wk.iload (i := 4) (q := 42) (by decide +kernel) rfl rfl ?_
          refine Wk.cSi (q := 45) l_Mod_77 m_Mod_shipAt (by decide +kernel) (fun _ h => h) (Nat.le_of_ble_eq_true rfl) (Nat.le_of_ble_eq_true rfl) rfl (c_Mod_shipAt) rfl ?_
          refine Wk.iastore (q := 46) (by decide +kernel) A_154 (by first | omega | exact bi_rng _) (by first | omega | exact bi_rng _) rfl ?_
          refine Wk.iinc (i := 3) (n := 1) (q := 49) (by decide +kernel) rfl (by decide) rfl (fun _ h => h) rfl ?_
          refine Wk.iinc (i := 4) (n := 1) (q := 52) (by decide +kernel) rfl (by decide) rfl (fun _ h => h) rfl ?_
          refine Wk.goto (off := (-37)) (q := 15) (by decide +kernel) (by decide) ?_
          first
            | (rw [bi_f hc32, Int.add_zero] at hst
               rw [hst] at ih
               refine ih _ ⟨j1, R, ⟨j4.1, fun i i0 i1 => by have := j4.2.1 i i0 i1; exact ⟨by omega, this.2⟩, j4.2.2.1, fun b b0 b1 hb => by
                 by_cases hba : b = a
                 · rw [hba] at hb; exact absurd hb hc32
                 · exact j4.2.2.2 b b0 (by omega) hb⟩, j3⟩)
            | (rw [bi_t hc32] at hst
               rw [hst] at ih
               rw [show 1 + nbit set a + 1 = 1 + (nbit set a + 1) by omega]
               have hg : ∀ i, ¬ i = nbit set a + 1 → cset R (nbit set a + 1) a i = R i := fun i hi => cset_ne hi
               have hg2 : cset R (nbit set a + 1) a (nbit set a + 1) = a := cset_eq _ _ _
               refine ih _ ⟨j1.up _ _, cset R (nbit set a + 1) a, ⟨by rw [hg 0 (by omega)]; exact j4.1, fun i i0 i1 => ?_, fun i j i0 i1 i2 => ?_, fun b b0 b1 hb => ?_⟩, fun i i0 i1 => ?_⟩
               · by_cases hi : i = nbit set a + 1
                 · rw [hi, hg2]; exact ⟨by omega, hc32⟩
                 · rw [hg i (by omega)]
                   have := j4.2.1 i i0 (by omega)
                   exact ⟨by omega, this.2⟩
               · by_cases hj : j = nbit set a + 1
                 · rw [hj, hg2, hg i (by omega)]
                   have := (j4.2.1 i i0 (by omega)).1
                   omega
                 · rw [hg i (by omega), hg j (by omega)]
                   exact j4.2.2.1 i j i0 i1 (by omega)
               · by_cases hba : b = a
                 · exact ⟨nbit set a + 1, by omega, by omega, by rw [hg2, hba]⟩
                 · obtain ⟨i, i0, i1, i2⟩ := j4.2.2.2 b b0 (by omega) hb
                   exact ⟨i, i0, by omega, by rw [hg i (by omega)]; exact i2⟩
               · by_cases hi : i = nbit set a + 1
                 · rw [hi, hg2, show nbit set a + 1 = 1 + nbit set a by omega, iup_at]
                 · rw [hg i hi, iup_ne (by omega)]
                   exact j3 i i0 (by omega))
  refine Wk.aload_n (k := 0) (q := 1) (by decide +kernel) rfl rfl rfl ?_
  refine Wk.getR (r := 154) (q := 4) f_Mod_25 (by decide +kernel) O_148 (by decide) rfl rfl rfl ?_
  refine Wk.iconst (n := 0) (q := 5) (by decide +kernel) rfl ?_
  refine Wk.iload_n (k := 1) (q := 6) (by decide +kernel) rfl rfl rfl ?_
  refine Wk.cSi (q := 9) l_Mod_100 m_Mod_waitAt (by decide +kernel) (fun _ h => h) (Nat.le_of_ble_eq_true rfl) (Nat.le_of_ble_eq_true rfl) rfl (c_Mod_waitAt) rfl ?_
  refine Wk.iastore (q := 10) (by decide +kernel) A_154 (by first | omega | exact bi_rng _) (by first | omega | exact bi_rng _) rfl ?_
  refine Wk.iconst (n := 1) (q := 11) (by decide +kernel) rfl ?_
  refine Wk.istore_n (k := 3) (q := 12) (by decide +kernel) rfl (by decide) rfl (fun _ h => h) rfl ?_
  refine Wk.iconst (n := 0) (q := 13) (by decide +kernel) rfl ?_
  refine Wk.istore (i := 4) (q := 15) (by decide +kernel) (by decide) rfl (fun _ h => h) rfl ?_
  exact key _ (Ex1.up (fun _ _ => rfl) _ _) (iup_at _ _ _ _)
def ZFound (I : IM) (k : Int) (I2 : IM) (set : Int) (R : Int → Int) : Prop := (0 ≤ set ∧ set < (2 ^ (I 149 4).toNat : Nat)) ∧ nbit set 5 ≤ 2 ∧ MR (I 149 4) k set (nbit set 5) R ∧ Lea (zG I set R) (zK I R) (nbit set 5 + 1).toNat 0 (I2 153) ∧ I2 148 11 = set ∧ ∀ set2, 0 ≤ set2 → set2 < (2 ^ (I 149 4).toNat : Nat) → (nbit set2 5 < nbit set 5 ∨ (nbit set2 5 = nbit set 5 ∧ set2 < set)) → ¬ ZE I k set2
def ZNone (I : IM) (k : Int) : Prop := ∀ set, 0 ≤ set → set < (2 ^ (I 149 4).toNat : Nat) → nbit set 5 ≤ 2 → ¬ ZE I k set
theorem c_Mod_layMoves {k : Int} (k0 : 0 ≤ k) (k1 : k < I 149 5) (hM : MW I) : Wk xs x_Mod_layMoves (d + 9) 0 0 0 [some (vr 148), some (vi k), none, none] [] X2 I L (p2 fun v I' L' => ((∃ set R, v = some (vi (nbit set 5)) ∧ ZFound I k I' set R) ∨ (v = some (vi (-1)) ∧ ZNone I k)) ∧ Kp I' I ∧ L' = L) := by
  obtain ⟨hI, hS, hQ⟩ := id hM
  obtain ⟨hW, hH, hT, hF, hA, hK, hD⟩ := id hI
  have h49 := WH49 (W := I 149 0) (H := I 149 1) (by omega) (by omega)
  have hp5 : 2 ^ (I 149 4).toNat ≤ 2 ^ 5 := Nat.pow_le_pow_right (by decide) (by omega)
  have hp0 := Nat.two_pow_pos (I 149 4).toNat
  have hsh := shl_one (k := I 149 4) (by omega) (by omega)
  have keyC : Wk xs x_Mod_layMoves (d + 9) 0 0 2 [some (vr 148), some (vi k), some (vi 0), none] [] X2 I L (p2 fun v I' L' => ((∃ set R, v = some (vi (nbit set 5)) ∧ ZFound I k I' set R) ∨ (v = some (vi (-1)) ∧ ZNone I k)) ∧ Kp I' I ∧ L' = L) := by
    refine loopS2 (σ := IM) (τ := Option AV) (fun c I2 o4 => Wk xs x_Mod_layMoves (d + 9) 0 0 2 [some (vr 148), some (vi k), some (vi c), o4] [] X2 I2 L (p2 fun v I' L' => ((∃ set R, v = some (vi (nbit set 5)) ∧ ZFound I k I' set R) ∨ (v = some (vi (-1)) ∧ ZNone I k)) ∧ Kp I' I ∧ L' = L)) (fun c I2 _ => Kp I2 I ∧ ∀ set, 0 ≤ set → set < (2 ^ (I 149 4).toNat : Nat) → nbit set 5 < c → ¬ ZE I k set) 3 0 I none (by omega) ⟨Kp.refl I, fun set _ _ q => by
      have := nbit_mono (set := set) (a := 0) (b := 5) (by omega) (by omega)
      rw [nbit_0] at this
      omega⟩ ?_ ?_
    · intro I2 o4 hJ
      obtain ⟨j1, j3⟩ := hJ
      refine Wk.iload_n (k := 2) (q := 3) (by decide +kernel) rfl rfl rfl ?_
      refine Wk.iconst (n := 3) (q := 4) (by decide +kernel) rfl ?_
      refine Wk.icmp_ge (off := (53)) (t := 57) (q := 7) (by decide +kernel) (by decide) rfl (by first | omega | exact bi_rng _) (by first | omega | exact bi_rng _) (fun hc4 => ?_) (fun hc4 => ?_)
      · refine Wk.iconst (n := (-1)) (q := 58) (by decide +kernel) rfl ?_
        exact Wk.riP (by decide +kernel) rfl (⟨Or.inr ⟨rfl, fun set q1 q2 q3 => j3 set q1 q2 (by omega)⟩, j1, rfl⟩)
      · omega
    · intro c I2 o4 c0 c1 hJ ih
      obtain ⟨j1, j3⟩ := hJ
      have keyS : Wk xs x_Mod_layMoves (d + 9) 0 0 9 [some (vr 148), some (vi k), some (vi c), some (vi 0)] [] X2 I2 L (p2 fun v I' L' => ((∃ set R, v = some (vi (nbit set 5)) ∧ ZFound I k I' set R) ∨ (v = some (vi (-1)) ∧ ZNone I k)) ∧ Kp I' I ∧ L' = L) := by
        refine loopS (σ := IM) (fun s I2 => Wk xs x_Mod_layMoves (d + 9) 0 0 9 [some (vr 148), some (vi k), some (vi c), some (vi s)] [] X2 I2 L (p2 fun v I' L' => ((∃ set R, v = some (vi (nbit set 5)) ∧ ZFound I k I' set R) ∨ (v = some (vi (-1)) ∧ ZNone I k)) ∧ Kp I' I ∧ L' = L)) (fun s I2 => Kp I2 I ∧ ∀ set, 0 ≤ set → set < (2 ^ (I 149 4).toNat : Nat) → (nbit set 5 < c ∨ (nbit set 5 = c ∧ set < s)) → ¬ ZE I k set) ((2 ^ (I 149 4).toNat : Nat) : Int) 0 I2 (by omega) ⟨j1, fun set q1 q2 q3 => j3 set q1 q2 (by omega)⟩ ?_ ?_
        · intro I3 hJ3
          obtain ⟨i1, i3⟩ := hJ3
          have e1 := i1.w
          refine Wk.iload_n (k := 3) (q := 10) (by decide +kernel) rfl rfl rfl ?_
          refine Wk.iconst (n := 1) (q := 11) (by decide +kernel) rfl ?_
          refine Wk.aload_n (k := 0) (q := 12) (by decide +kernel) rfl rfl rfl ?_
          refine Wk.getR (r := 149) (q := 15) f_Mod_7 (by decide +kernel) O_148 (by decide) rfl rfl rfl ?_
          refine Wk.iconst (n := 4) (q := 16) (by decide +kernel) rfl ?_
          refine Wk.iaload (q := 17) (by decide +kernel) A_149 (by first | omega | exact bi_rng _) (by first | omega | exact bi_rng _) rfl ?_
          refine Wk.ishl (q := 18) (by decide +kernel) rfl ?_
          rw [e1, hsh]
          refine Wk.icmp_ge (off := (33)) (t := 51) (q := 21) (by decide +kernel) (by decide) rfl (by first | omega | exact bi_rng _) (by first | omega | exact bi_rng _) (fun hc18 => ?_) (fun hc18 => ?_)
          · refine Wk.iinc (i := 2) (n := 1) (q := 54) (by decide +kernel) rfl (by decide) rfl (fun _ h => h) rfl ?_
            refine Wk.goto (off := (-52)) (q := 2) (by decide +kernel) (by decide) ?_
            exact ih _ _ ⟨i1, fun set q1 q2 q3 => i3 set q1 q2 (by omega)⟩
          · omega
        · intro s I3 s0 s1 hJ3 ih2
          obtain ⟨i1, i3⟩ := hJ3
          have e1 := i1.w
          have e4 : I3 149 4 = I 149 4 := by rw [e1]
          have hnb := ct_range (fun b => bt s b = true) 5
          rw [show ct (fun b => bt s b = true) 5 = nbit s 5 from rfl] at hnb
          refine Wk.iload_n (k := 3) (q := 10) (by decide +kernel) rfl rfl rfl ?_
          refine Wk.iconst (n := 1) (q := 11) (by decide +kernel) rfl ?_
          refine Wk.aload_n (k := 0) (q := 12) (by decide +kernel) rfl rfl rfl ?_
          refine Wk.getR (r := 149) (q := 15) f_Mod_7 (by decide +kernel) O_148 (by decide) rfl rfl rfl ?_
          refine Wk.iconst (n := 4) (q := 16) (by decide +kernel) rfl ?_
          refine Wk.iaload (q := 17) (by decide +kernel) A_149 (by first | omega | exact bi_rng _) (by first | omega | exact bi_rng _) rfl ?_
          refine Wk.ishl (q := 18) (by decide +kernel) rfl ?_
          rw [e1, hsh]
          refine Wk.icmp_ge (off := (33)) (t := 51) (q := 21) (by decide +kernel) (by decide) rfl (by first | omega | exact bi_rng _) (by first | omega | exact bi_rng _) (fun hc18 => ?_) (fun hc18 => ?_)
          · omega
          · refine Wk.iload_n (k := 3) (q := 22) (by decide +kernel) rfl rfl rfl ?_
            refine Wk.cSi (q := 25) l_Mod_115 m_Mod_ones (by decide +kernel) (fun _ h => h) (Nat.le_of_ble_eq_true rfl) (Nat.le_of_ble_eq_true rfl) rfl (c_Mod_ones s0 (by omega)) rfl ?_
            rw [show ct (fun b => bt s b = true) (5 : Int).toNat = nbit s 5 from rfl]
            refine Wk.iload_n (k := 2) (q := 26) (by decide +kernel) rfl rfl rfl ?_
            refine Wk.icmp_ne (off := (19)) (t := 45) (q := 29) (by decide +kernel) (by decide) rfl (by first | omega | exact bi_rng _) (by first | omega | exact bi_rng _) (fun hc26 => ?_) (fun hc26 => ?_)
            · refine Wk.iinc (i := 3) (n := 1) (q := 48) (by decide +kernel) rfl (by decide) rfl (fun _ h => h) rfl ?_
              refine Wk.goto (off := (-39)) (q := 9) (by decide +kernel) (by decide) ?_
              first
                | (refine ih2 _ ⟨i1, fun set p1 p2 p3 => ?_⟩
                   by_cases hs : set = s
                   · subst hs
                     exact i3 _ p1 p2 (by omega)
                   · exact i3 set p1 p2 (by omega))
                | (refine ih2 _ ⟨q1.trans i1, fun set p1 p2 p3 => ?_⟩
                   by_cases hs : set = s
                   · rcases hv with ⟨hv, -⟩ | ⟨-, hv⟩
                     · injection hv with hv
                       have : z = 1 := by injection hv
                       omega
                     · rw [hs]; exact hv
                   · exact i3 set p1 p2 (by omega))
            · refine Wk.aload_n (k := 0) (q := 30) (by decide +kernel) rfl rfl rfl ?_
              refine Wk.iload_n (k := 1) (q := 31) (by decide +kernel) rfl rfl rfl ?_
              refine Wk.iload_n (k := 3) (q := 32) (by decide +kernel) rfl rfl rfl ?_
              refine Wk.cV (q := 35) l_Mod_118 m_Mod_tryMoved (by decide +kernel) (fun _ h => h) O_148 rfl (Nat.le_of_ble_eq_true rfl) (Nat.le_of_ble_eq_true rfl) rfl (c_Mod_tryMoved k0 (by rw [e1]; exact k1) ((MW_eq e1).mpr hM) s0 (by rw [e4]; exact s1) (by omega)) rfl (fun v I4 L4 hP => ?_)
              obtain ⟨hv, q1, rfl⟩ := hP
              rw [ZE_eq e1, e4] at hv
              obtain ⟨z, hz, hz2⟩ : ∃ z : Int, (z = 0 ∨ z = 1) ∧ v = some (vi z) := by
                rcases hv with ⟨rfl, -⟩ | ⟨rfl, -⟩
                · exact ⟨1, Or.inr rfl, rfl⟩
                · exact ⟨0, Or.inl rfl, rfl⟩
              subst hz2
              refine Wk.if_eq (off := (10)) (t := 45) (q := 38) (by decide +kernel) (by decide) rfl (by first | omega | exact bi_rng _) (fun hc35 => ?_) (fun hc35 => ?_)
              · refine Wk.iinc (i := 3) (n := 1) (q := 48) (by decide +kernel) rfl (by decide) rfl (fun _ h => h) rfl ?_
                refine Wk.goto (off := (-39)) (q := 9) (by decide +kernel) (by decide) ?_
                first
                  | (refine ih2 _ ⟨i1, fun set p1 p2 p3 => ?_⟩
                     by_cases hs : set = s
                     · subst hs
                       exact i3 _ p1 p2 (by omega)
                     · exact i3 set p1 p2 (by omega))
                  | (refine ih2 _ ⟨q1.trans i1, fun set p1 p2 p3 => ?_⟩
                     by_cases hs : set = s
                     · rcases hv with ⟨hv, -⟩ | ⟨-, hv⟩
                       · injection hv with hv
                         have : z = 1 := by injection hv
                         omega
                       · rw [hs]; exact hv
                     · exact i3 set p1 p2 (by omega))
              · refine Wk.aload_n (k := 0) (q := 39) (by decide +kernel) rfl rfl rfl ?_
                refine Wk.iload_n (k := 3) (q := 40) (by decide +kernel) rfl rfl rfl ?_
                refine Wk.putI (z := 11) (q := 43) f_Mod_121 fw_Mod_11 (by decide +kernel) O_148 (by decide) rfl rfl ⟨rfl, rfl⟩ rfl ?_
                refine Wk.iload_n (k := 2) (q := 44) (by decide +kernel) rfl rfl rfl ?_
                exact Wk.riP (by decide +kernel) rfl (⟨Or.inl (by
            rcases hv with ⟨-, R, r1, r2⟩ | ⟨hv, -⟩
            · rw [zG_eq e1, zK_eq e1] at r2
              have hcs : nbit s 5 = c := by omega
              refine ⟨s, R, by rw [hcs], ⟨s0, s1⟩, by omega, r1, ?_, iup_at _ _ _ _, fun set2 p1 p2 p3 => i3 set2 p1 p2 (by omega)⟩
              rw [iup_other (by decide)]
              exact r2
            · injection hv with hv
              have : z = 0 := by injection hv
              omega), (Kp.moved _ _).trans (q1.trans i1), rfl⟩)
      refine Wk.iload_n (k := 2) (q := 3) (by decide +kernel) rfl rfl rfl ?_
      refine Wk.iconst (n := 3) (q := 4) (by decide +kernel) rfl ?_
      refine Wk.icmp_ge (off := (53)) (t := 57) (q := 7) (by decide +kernel) (by decide) rfl (by first | omega | exact bi_rng _) (by first | omega | exact bi_rng _) (fun hc4 => ?_) (fun hc4 => ?_)
      · omega
      · refine Wk.iconst (n := 0) (q := 8) (by decide +kernel) rfl ?_
        refine Wk.istore_n (k := 3) (q := 9) (by decide +kernel) rfl (by decide) rfl (fun _ h => h) rfl ?_
        exact keyS
  refine Wk.iconst (n := 0) (q := 1) (by decide +kernel) rfl ?_
  refine Wk.istore_n (k := 2) (q := 2) (by decide +kernel) rfl (by decide) rfl (fun _ h => h) rfl ?_
  exact keyC
end MOH
end
section
/-! THE REFERENCE: what its deeds write -/
theorem Wk.lrem {xs : RO} {cx : CX} {d bc bs pc q : Nat} {lv : List (Option AV)} {st : List AV} {X : LY} {I : IM} {L : LM} {post : Option AV → LY → IM → LM → Prop} {a b : Int64} (hd : decode (cxC cx) pc = .ok (.lrem, 1)) (hb : ¬ b = 0) (hq : pc + 1 = q) (k : Wk xs cx d bc bs q lv (vl (a - a / b * b) :: st) X I L post) : Wk xs cx d bc bs pc lv (vl b :: vl a :: st) X I L post := by
  subst hq
  exact Wk.go1 (fun _ g _ _ _ _ _ _ _ _ _ _ _ _ _ _ ls hF _ _ _ hl k => lv_lrem hF.1 hF.2.1 hd hb k) k
def cpR (I : IM) (x y n : Int) : IM := fun a b => if a = 149 ∧ y ≤ b ∧ b < y + n then I 149 (x + (b - y)) else I a b
theorem cpR_0 (I : IM) (x y : Int) : cpR I x y 0 = I := by
  funext a b; simp only [cpR]; rw [if_neg (by omega)]
theorem cpR_o {I : IM} {x y n : Int} {a : Nat} (h : ¬ a = 149) : cpR I x y n a = I a := by
  funext b; simp only [cpR, h, false_and, if_false]
theorem cpR_step {I : IM} {x y k : Int} (h0 : 0 ≤ k) (h1 : k < 90) (h : x + 90 ≤ y ∨ y + 90 ≤ x) : iup (cpR I x y k) 149 (y + k) (cpR I x y k 149 (x + k)) = cpR I x y (k + 1) := by
  have e : cpR I x y k 149 (x + k) = I 149 (x + k) := by simp only [cpR, true_and]; rw [if_neg (by omega)]
  rw [e]
  funext a b
  by_cases ha : a = 149
  · subst ha
    by_cases hb : b = y + k
    · subst hb
      rw [iup_at]
      simp only [cpR, true_and]
      rw [if_pos (by omega)]
      congr 1; omega
    · rw [iup_ne (by omega)]
      simp only [cpR, true_and]
      by_cases hc : y ≤ b ∧ b < y + k
      · rw [if_pos hc, if_pos (by omega)]
      · rw [if_neg (by omega), if_neg (by omega)]
  · rw [iup_ne (fun z => ha z.1), cpR_o ha, cpR_o ha]
/-- rows 1 to k - 1 hold what the next ones held -/
def cpRs (I : IM) (k : Int) : IM := fun a b => if a = 149 ∧ 90 ≤ b ∧ b < 90 * k then I 149 (b + 90) else I a b
theorem cpRs_o {I : IM} {k : Int} {a : Nat} (h : ¬ a = 149) : cpRs I k a = I a := by
  funext b; simp only [cpRs, h, false_and, if_false]
theorem cpRs_1 (I : IM) : cpRs I 1 = I := by
  funext a b; simp only [cpRs]; rw [if_neg (by omega)]
theorem cpRs_step {I : IM} {k : Int} (h0 : 1 ≤ k) : cpR (cpRs I k) (90 * (k + 1)) (90 * k) 90 = cpRs I (k + 1) := by
  funext a b
  by_cases ha : a = 149
  · subst ha
    by_cases hc : 90 * k ≤ b ∧ b < 90 * k + 90
    · simp only [cpR, true_and]
      rw [if_pos hc]
      simp only [cpRs, true_and]
      rw [if_neg (by omega), if_pos (by omega)]
      congr 1; omega
    · simp only [cpR, true_and]
      rw [if_neg (by omega)]
      simp only [cpRs, true_and]
      by_cases hd : 90 ≤ b ∧ b < 90 * k
      · rw [if_pos hd, if_pos (by omega)]
      · rw [if_neg (by omega), if_neg (by omega)]
  · rw [cpR_o ha, cpRs_o ha, cpRs_o ha]
def remW (K : Int) (w : Int → Int) : Int → Int := fun b => if K < 16 then (if 90 * (K + 1) ≤ b ∧ b < 90 * (K + 1) + 90 then w (b - 90 * (K + 1)) else w b) else (if 90 ≤ b ∧ b < 1440 then w (b + 90) else if 1440 ≤ b ∧ b < 1530 then w (b - 1440) else w b)
def remM (I : IM) : IM := fun a b => if a = 149 then remW (I 148 1) (I 149) b else if a = 148 ∧ b = 1 then min (I 148 1 + 1) 16 else I a b
theorem remM_lt {I : IM} (hK : I 148 1 < 16) : iup (cpR I 0 (90 * (I 148 1 + 1)) 90) 148 1 (I 148 1 + 1) = remM I := by
  funext a b
  by_cases ha : a = 149
  · subst ha
    rw [iup_ne (by omega)]
    simp only [remM, cpR, remW, if_pos hK, if_true, true_and]
    split
    · congr 1; omega
    · rfl
  · by_cases hb : a = 148 ∧ b = 1
    · obtain ⟨rfl, rfl⟩ := hb
      rw [iup_at]
      simp only [remM, if_neg ha, if_true, and_self]
      omega
    · rw [iup_ne hb, cpR_o ha]
      simp only [remM, if_neg ha, if_neg hb]
theorem remM_ge {I : IM} (hK : I 148 1 = 16) : iup (cpR (iup (cpRs I 16) 148 1 (16 - 1)) 0 (90 * (16 - 1 + 1)) 90) 148 1 (16 - 1 + 1) = remM I := by
  funext a b
  by_cases ha : a = 149
  · subst ha
    rw [iup_ne (by omega)]
    have hn : ¬ I 148 1 < 16 := by omega
    simp only [remM, cpR, remW, if_neg hn, if_true, true_and]
    have e : ∀ c, iup (cpRs I 16) 148 1 (16 - 1) 149 c = cpRs I 16 149 c := fun c => iup_ne (by omega)
    rw [e, e]
    simp only [cpRs, true_and]
    by_cases h1 : 90 ≤ b ∧ b < 1440
    · rw [if_neg (by omega), if_pos (by omega), if_pos h1]
    · by_cases h2 : 1440 ≤ b ∧ b < 1530
      · rw [if_pos (by omega), if_neg (by omega), if_neg h1, if_pos h2]
        congr 1; omega
      · rw [if_neg (by omega), if_neg (by omega), if_neg h1, if_neg h2]
  · by_cases hb : a = 148 ∧ b = 1
    · obtain ⟨rfl, rfl⟩ := hb
      rw [iup_at]
      simp only [remM, if_neg ha, if_true, and_self]
      omega
    · rw [iup_ne hb, cpR_o ha, iup_ne hb, cpRs_o ha]
      simp only [remM, if_neg ha, if_neg hb]
/-- one that waits goes; one at anchor goes -/
def shW (I : IM) (f t c v : Int) : IM := fun a b => if a = 149 ∧ b = c then v else if a = 149 ∧ f ≤ b ∧ b < t then I 149 (b + 4) else I a b
theorem shW_0 (I : IM) (f c v : Int) : shW I f f c v = iup I 149 c v := by
  funext a b; simp only [shW, iup]
  split
  · rfl
  · rw [if_neg (by omega)]
theorem shW_step {I : IM} {f t c v : Int} (h : f ≤ t) (hc : c < f) : iup (shW I f t c v) 149 t (shW I f t c v 149 (t + 4)) = shW I f (t + 1) c v := by
  have e : shW I f t c v 149 (t + 4) = I 149 (t + 4) := by simp only [shW, true_and]; rw [if_neg (by omega), if_neg (by omega)]
  rw [e]
  funext a b
  by_cases ha : a = 149
  · subst ha
    by_cases hb : b = t
    · subst hb
      rw [iup_at]
      simp only [shW, true_and]
      rw [if_neg (by omega), if_pos (by omega)]
    · rw [iup_ne (by omega)]
      simp only [shW, true_and]
      by_cases h1 : b = c
      · rw [if_pos h1, if_pos h1]
      · rw [if_neg h1, if_neg h1]
        by_cases h2 : f ≤ b ∧ b < t
        · rw [if_pos h2, if_pos (by omega)]
        · rw [if_neg (by omega), if_neg (by omega)]
  · rw [iup_ne (fun z => ha z.1)]
    simp only [shW, ha, false_and, if_false]
def unw (I : IM) (k : Int) : IM := shW I (75 + 4 * k) (75 + 4 * (I 149 5 - 1)) 5 (I 149 5 - 1)
def lev (I : IM) (a : Int) : IM := shW I (55 + 4 * a) (55 + 4 * (I 149 4 - 1)) 4 (I 149 4 - 1)
/-- one comes to anchor in a cell -/
def mo0 (I : IM) (p q j : Int) : IM := fun a b => if a = 149 ∧ p ≤ b ∧ b < p + j then I 149 (q + (b - p)) else I a b
theorem mo0_0 (I : IM) (p q : Int) : mo0 I p q 0 = I := by
  funext a b; simp only [mo0]; rw [if_neg (by omega)]
theorem mo0_step {I : IM} {p q j : Int} (h0 : 0 ≤ j) (h1 : j < 4) (h : p + 4 ≤ q) : iup (mo0 I p q j) 149 (p + j) (mo0 I p q j 149 (q + j)) = mo0 I p q (j + 1) := by
  have e : mo0 I p q j 149 (q + j) = I 149 (q + j) := by simp only [mo0, true_and]; rw [if_neg (by omega)]
  rw [e]
  funext a b
  by_cases ha : a = 149
  · subst ha
    by_cases hb : b = p + j
    · subst hb
      rw [iup_at]
      simp only [mo0, true_and]
      rw [if_pos (by omega)]
      congr 1; omega
    · rw [iup_ne (by omega)]
      simp only [mo0, true_and]
      by_cases h2 : p ≤ b ∧ b < p + j
      · rw [if_pos h2, if_pos (by omega)]
      · rw [if_neg (by omega), if_neg (by omega)]
  · rw [iup_ne (fun z => ha z.1)]
    simp only [mo0, ha, false_and, if_false]
def moo (I : IM) (k c : Int) : IM := iup (iup (mo0 I (55 + 4 * I 149 4) (75 + 4 * k) 4) 149 (55 + 4 * I 149 4 + 3) c) 149 4 (I 149 4 + 1)
theorem mo0_4 {I : IM} {p q j : Int} (h : 4 < p) : mo0 I p q j 149 4 = I 149 4 := by simp only [mo0, true_and]; rw [if_neg (by omega)]
section MOI
variable {xs : RO} {d : Nat} {I : IM} {L : LM}

theorem c_Mod_copyRow {x y : Int} (hx : 0 ≤ x ∧ x ≤ 1620) (hy : 0 ≤ y ∧ y ≤ 1620) (h : x + 90 ≤ y ∨ y + 90 ≤ x) : Wk xs x_Mod_copyRow d 0 0 0 [some (vr 148), some (vi x), some (vi y), none] [] X2 I L (pV (cpR I x y 90) L) := by
  have key : Wk xs x_Mod_copyRow d 0 0 2 [some (vr 148), some (vi x), some (vi y), some (vi 0)] [] X2 (cpR I x y 0) L (pV (cpR I x y 90) L) := by
    refine loopI (fun k => Wk xs x_Mod_copyRow d 0 0 2 [some (vr 148), some (vi x), some (vi y), some (vi k)] [] X2 (cpR I x y k) L (pV (cpR I x y 90) L)) 90 0 (by omega) ?_ ?_
    · refine Wk.iload_n (k := 3) (q := 3) (by decide +kernel) rfl rfl rfl ?_
      refine Wk.bipush (n := 90) (q := 5) (by decide +kernel) (by decide +kernel) rfl ?_
      refine Wk.icmp_ge (off := (25)) (t := 30) (q := 8) (by decide +kernel) (by decide) rfl (by first | omega | exact bi_rng _) (by first | omega | exact bi_rng _) (fun hc5 => ?_) (fun hc5 => ?_)
      · exact Wk.rV (by decide +kernel) rfl (rfl) rfl
      · omega
    · intro k k0 k1 ih
      refine Wk.iload_n (k := 3) (q := 3) (by decide +kernel) rfl rfl rfl ?_
      refine Wk.bipush (n := 90) (q := 5) (by decide +kernel) (by decide +kernel) rfl ?_
      refine Wk.icmp_ge (off := (25)) (t := 30) (q := 8) (by decide +kernel) (by decide) rfl (by first | omega | exact bi_rng _) (by first | omega | exact bi_rng _) (fun hc5 => ?_) (fun hc5 => ?_)
      · omega
      · refine Wk.aload_n (k := 0) (q := 9) (by decide +kernel) rfl rfl rfl ?_
        refine Wk.getR (r := 149) (q := 12) f_Mod_7 (by decide +kernel) O_148 (by decide) rfl rfl rfl ?_
        refine Wk.iload_n (k := 2) (q := 13) (by decide +kernel) rfl rfl rfl ?_
        refine Wk.iload_n (k := 3) (q := 14) (by decide +kernel) rfl rfl rfl ?_
        refine Wk.iadd (q := 15) (by decide +kernel) rfl ?_
        refine Wk.aload_n (k := 0) (q := 16) (by decide +kernel) rfl rfl rfl ?_
        refine Wk.getR (r := 149) (q := 19) f_Mod_7 (by decide +kernel) O_148 (by decide) rfl rfl rfl ?_
        refine Wk.iload_n (k := 1) (q := 20) (by decide +kernel) rfl rfl rfl ?_
        refine Wk.iload_n (k := 3) (q := 21) (by decide +kernel) rfl rfl rfl ?_
        refine Wk.iadd (q := 22) (by decide +kernel) rfl ?_
        refine Wk.iaload (q := 23) (by decide +kernel) A_149 (by first | omega | exact bi_rng _) (by first | omega | exact bi_rng _) rfl ?_
        refine Wk.iastore (q := 24) (by decide +kernel) A_149 (by first | omega | exact bi_rng _) (by first | omega | exact bi_rng _) rfl ?_
        refine Wk.iinc (i := 3) (n := 1) (q := 27) (by decide +kernel) rfl (by decide) rfl (fun _ h => h) rfl ?_
        refine Wk.goto (off := (-25)) (q := 2) (by decide +kernel) (by decide) ?_
        rw [cpR_step k0 k1 h]
        exact ih
  refine Wk.iconst (n := 0) (q := 1) (by decide +kernel) rfl ?_
  refine Wk.istore_n (k := 3) (q := 2) (by decide +kernel) rfl (by decide) rfl (fun _ h => h) rfl ?_
  rw [cpR_0] at key
  exact key
theorem c_Mod_remember (h0 : 0 ≤ I 148 1) (h1 : I 148 1 ≤ 16) : Wk xs x_Mod_remember (d + 1) 0 0 0 [some (vr 148), none] [] X2 I L (pV (remM I) L) := by
  have key : I 148 1 = 16 → Wk xs x_Mod_remember (d + 1) 0 0 11 [some (vr 148), some (vi 1)] [] X2 (cpRs I 1) L (pV (remM I) L) := by
    intro hK
    refine loopI (fun k => Wk xs x_Mod_remember (d + 1) 0 0 11 [some (vr 148), some (vi k)] [] X2 (cpRs I k) L (pV (remM I) L)) 16 1 (by omega) ?_ ?_
    · have e : cpRs I 16 148 1 = 16 := by rw [cpRs_o (by decide)]; exact hK
      have e2 : ∀ v, cpR (iup (cpRs I 16) 148 1 v) 0 (90 * (v + 1)) 90 148 1 = v := fun v => by rw [cpR_o (by decide), iup_at]
      refine Wk.iload_n (k := 1) (q := 12) (by decide +kernel) rfl rfl rfl ?_
      refine Wk.bipush (n := 16) (q := 14) (by decide +kernel) (by decide +kernel) rfl ?_
      refine Wk.icmp_ge (off := (23)) (t := 37) (q := 17) (by decide +kernel) (by decide) rfl (by first | omega | exact bi_rng _) (by first | omega | exact bi_rng _) (fun hc14 => ?_) (fun hc14 => ?_)
      · refine Wk.aload_n (k := 0) (q := 38) (by decide +kernel) rfl rfl rfl ?_
        refine Wk.dup (q := 39) (by decide +kernel) rfl rfl ?_
        refine Wk.getI (z := 1) (q := 42) f_Mod_153 (by decide +kernel) O_148 (by decide) rfl rfl rfl ?_
        rw [e]
        refine Wk.iconst (n := 1) (q := 43) (by decide +kernel) rfl ?_
        refine Wk.isub (q := 44) (by decide +kernel) rfl ?_
        refine Wk.putI (z := 1) (q := 47) f_Mod_153 fw_Mod_1 (by decide +kernel) O_148 (by decide) rfl rfl ⟨rfl, rfl⟩ rfl ?_
        refine Wk.aload_n (k := 0) (q := 48) (by decide +kernel) rfl rfl rfl ?_
        refine Wk.iconst (n := 0) (q := 49) (by decide +kernel) rfl ?_
        refine Wk.bipush (n := 90) (q := 51) (by decide +kernel) (by decide +kernel) rfl ?_
        refine Wk.aload_n (k := 0) (q := 52) (by decide +kernel) rfl rfl rfl ?_
        refine Wk.getI (z := 1) (q := 55) f_Mod_153 (by decide +kernel) O_148 (by decide) rfl rfl rfl ?_
        rw [iup_at]
        refine Wk.iconst (n := 1) (q := 56) (by decide +kernel) rfl ?_
        refine Wk.iadd (q := 57) (by decide +kernel) rfl ?_
        refine Wk.imul (q := 58) (by decide +kernel) rfl ?_
        refine Wk.cVv (q := 61) l_Mod_185 m_Mod_copyRow (by decide +kernel) (fun _ h => h) O_148 rfl (Nat.le_of_ble_eq_true rfl) (Nat.le_of_ble_eq_true rfl) rfl (c_Mod_copyRow (by omega) (by omega) (by omega)) rfl ?_
        refine Wk.aload_n (k := 0) (q := 62) (by decide +kernel) rfl rfl rfl ?_
        refine Wk.dup (q := 63) (by decide +kernel) rfl rfl ?_
        refine Wk.getI (z := 1) (q := 66) f_Mod_153 (by decide +kernel) O_148 (by decide) rfl rfl rfl ?_
        rw [e2]
        refine Wk.iconst (n := 1) (q := 67) (by decide +kernel) rfl ?_
        refine Wk.iadd (q := 68) (by decide +kernel) rfl ?_
        refine Wk.putI (z := 1) (q := 71) f_Mod_153 fw_Mod_1 (by decide +kernel) O_148 (by decide) rfl rfl ⟨rfl, rfl⟩ rfl ?_
        exact Wk.rV (by decide +kernel) rfl (remM_ge hK) rfl
      · omega
    · intro k k0 k1 ih
      refine Wk.iload_n (k := 1) (q := 12) (by decide +kernel) rfl rfl rfl ?_
      refine Wk.bipush (n := 16) (q := 14) (by decide +kernel) (by decide +kernel) rfl ?_
      refine Wk.icmp_ge (off := (23)) (t := 37) (q := 17) (by decide +kernel) (by decide) rfl (by first | omega | exact bi_rng _) (by first | omega | exact bi_rng _) (fun hc14 => ?_) (fun hc14 => ?_)
      · omega
      · refine Wk.aload_n (k := 0) (q := 18) (by decide +kernel) rfl rfl rfl ?_
        refine Wk.bipush (n := 90) (q := 20) (by decide +kernel) (by decide +kernel) rfl ?_
        refine Wk.iload_n (k := 1) (q := 21) (by decide +kernel) rfl rfl rfl ?_
        refine Wk.iconst (n := 1) (q := 22) (by decide +kernel) rfl ?_
        refine Wk.iadd (q := 23) (by decide +kernel) rfl ?_
        refine Wk.imul (q := 24) (by decide +kernel) rfl ?_
        refine Wk.bipush (n := 90) (q := 26) (by decide +kernel) (by decide +kernel) rfl ?_
        refine Wk.iload_n (k := 1) (q := 27) (by decide +kernel) rfl rfl rfl ?_
        refine Wk.imul (q := 28) (by decide +kernel) rfl ?_
        refine Wk.cVv (q := 31) l_Mod_185 m_Mod_copyRow (by decide +kernel) (fun _ h => h) O_148 rfl (Nat.le_of_ble_eq_true rfl) (Nat.le_of_ble_eq_true rfl) rfl (c_Mod_copyRow (by omega) (by omega) (by omega)) rfl ?_
        refine Wk.iinc (i := 1) (n := 1) (q := 34) (by decide +kernel) rfl (by decide) rfl (fun _ h => h) rfl ?_
        refine Wk.goto (off := (-23)) (q := 11) (by decide +kernel) (by decide) ?_
        rw [cpRs_step (by omega)]
        exact ih
  refine Wk.aload_n (k := 0) (q := 1) (by decide +kernel) rfl rfl rfl ?_
  refine Wk.getI (z := 1) (q := 4) f_Mod_153 (by decide +kernel) O_148 (by decide) rfl rfl rfl ?_
  refine Wk.bipush (n := 16) (q := 6) (by decide +kernel) (by decide +kernel) rfl ?_
  refine Wk.icmp_ne (off := (41)) (t := 47) (q := 9) (by decide +kernel) (by decide) rfl (by first | omega | exact bi_rng _) (by first | omega | exact bi_rng _) (fun hc6 => ?_) (fun hc6 => ?_)
  · refine Wk.aload_n (k := 0) (q := 48) (by decide +kernel) rfl rfl rfl ?_
    refine Wk.iconst (n := 0) (q := 49) (by decide +kernel) rfl ?_
    refine Wk.bipush (n := 90) (q := 51) (by decide +kernel) (by decide +kernel) rfl ?_
    refine Wk.aload_n (k := 0) (q := 52) (by decide +kernel) rfl rfl rfl ?_
    refine Wk.getI (z := 1) (q := 55) f_Mod_153 (by decide +kernel) O_148 (by decide) rfl rfl rfl ?_
    refine Wk.iconst (n := 1) (q := 56) (by decide +kernel) rfl ?_
    refine Wk.iadd (q := 57) (by decide +kernel) rfl ?_
    refine Wk.imul (q := 58) (by decide +kernel) rfl ?_
    refine Wk.cVv (q := 61) l_Mod_185 m_Mod_copyRow (by decide +kernel) (fun _ h => h) O_148 rfl (Nat.le_of_ble_eq_true rfl) (Nat.le_of_ble_eq_true rfl) rfl (c_Mod_copyRow (by omega) (by omega) (by omega)) rfl ?_
    refine Wk.aload_n (k := 0) (q := 62) (by decide +kernel) rfl rfl rfl ?_
    refine Wk.dup (q := 63) (by decide +kernel) rfl rfl ?_
    refine Wk.getI (z := 1) (q := 66) f_Mod_153 (by decide +kernel) O_148 (by decide) rfl rfl rfl ?_
    rw [cpR_o (by decide)]
    refine Wk.iconst (n := 1) (q := 67) (by decide +kernel) rfl ?_
    refine Wk.iadd (q := 68) (by decide +kernel) rfl ?_
    refine Wk.putI (z := 1) (q := 71) f_Mod_153 fw_Mod_1 (by decide +kernel) O_148 (by decide) rfl rfl ⟨rfl, rfl⟩ rfl ?_
    exact Wk.rV (by decide +kernel) rfl (remM_lt (by omega)) rfl
  · refine Wk.iconst (n := 1) (q := 10) (by decide +kernel) rfl ?_
    refine Wk.istore_n (k := 1) (q := 11) (by decide +kernel) rfl (by decide) rfl (fun _ h => h) rfl ?_
    have k2 := key hc6
    rw [cpRs_1] at k2
    exact k2
theorem c_Mod_put {a v : Int} (h0 : 0 ≤ I 148 1) (h1 : I 148 1 ≤ 16) (ha : 0 ≤ a ∧ a < 90) : Wk xs x_Mod_put (d + 2) 0 0 0 [some (vr 148), some (vi a), some (vi v), none] [] X2 I L (p2 fun u I' L' => u = some (vi (remM I 149 a)) ∧ I' = iup (remM I) 149 a v ∧ L' = L) := by
  refine Wk.aload_n (k := 0) (q := 1) (by decide +kernel) rfl rfl rfl ?_
  refine Wk.cVv (q := 4) l_Mod_188 m_Mod_remember (by decide +kernel) (fun _ h => h) O_148 rfl (Nat.le_of_ble_eq_true rfl) (Nat.le_of_ble_eq_true rfl) rfl (c_Mod_remember h0 h1) rfl ?_
  refine Wk.aload_n (k := 0) (q := 5) (by decide +kernel) rfl rfl rfl ?_
  refine Wk.getR (r := 149) (q := 8) f_Mod_7 (by decide +kernel) O_148 (by decide) rfl rfl rfl ?_
  refine Wk.iload_n (k := 1) (q := 9) (by decide +kernel) rfl rfl rfl ?_
  refine Wk.iaload (q := 10) (by decide +kernel) A_149 (by first | omega | exact bi_rng _) (by first | omega | exact bi_rng _) rfl ?_
  refine Wk.istore_n (k := 3) (q := 11) (by decide +kernel) rfl (by decide) rfl (fun _ h => h) rfl ?_
  refine Wk.aload_n (k := 0) (q := 12) (by decide +kernel) rfl rfl rfl ?_
  refine Wk.getR (r := 149) (q := 15) f_Mod_7 (by decide +kernel) O_148 (by decide) rfl rfl rfl ?_
  refine Wk.iload_n (k := 1) (q := 16) (by decide +kernel) rfl rfl rfl ?_
  refine Wk.iload_n (k := 2) (q := 17) (by decide +kernel) rfl rfl rfl ?_
  refine Wk.iastore (q := 18) (by decide +kernel) A_149 (by first | omega | exact bi_rng _) (by first | omega | exact bi_rng _) rfl ?_
  refine Wk.iload_n (k := 3) (q := 19) (by decide +kernel) rfl rfl rfl ?_
  exact Wk.riP (by decide +kernel) rfl (⟨rfl, rfl, rfl⟩)
theorem c_Mod_begin {w h : Int} : Wk xs x_Mod_begin d 0 0 0 [some (vr 148), some (vi w), some (vi h), none] [] X2 I L (p2 fun v I' L' => v = none ∧ (Ex1 149 I' I ∧ (I' 149 0 = w ∧ I' 149 1 = h ∧ I' 149 4 = 0 ∧ I' 149 5 = 0) ∧ (∀ b, 6 ≤ b → b < 6 + 49 → I' 149 b = 5) ∧ ∀ b, ¬ b = 0 → ¬ b = 1 → ¬ b = 4 → ¬ b = 5 → ¬ (6 ≤ b ∧ b < 55) → I' 149 b = I 149 b) ∧ L' = L) := by
  have key : ∀ I1 : IM, (Ex1 149 I1 I ∧ (I1 149 0 = w ∧ I1 149 1 = h ∧ I1 149 4 = 0 ∧ I1 149 5 = 0) ∧ (∀ b, 6 ≤ b → b < 6 + 0 → I1 149 b = 5) ∧ ∀ b, ¬ b = 0 → ¬ b = 1 → ¬ b = 4 → ¬ b = 5 → ¬ (6 ≤ b ∧ b < 55) → I1 149 b = I 149 b) → Wk xs x_Mod_begin d 0 0 30 [some (vr 148), some (vi w), some (vi h), some (vi 0)] [] X2 I1 L (p2 fun v I' L' => v = none ∧ (Ex1 149 I' I ∧ (I' 149 0 = w ∧ I' 149 1 = h ∧ I' 149 4 = 0 ∧ I' 149 5 = 0) ∧ (∀ b, 6 ≤ b → b < 6 + 49 → I' 149 b = 5) ∧ ∀ b, ¬ b = 0 → ¬ b = 1 → ¬ b = 4 → ¬ b = 5 → ¬ (6 ≤ b ∧ b < 55) → I' 149 b = I 149 b) ∧ L' = L) := by
    intro I1 hI1
    refine loopS (σ := IM) (fun k I2 => Wk xs x_Mod_begin d 0 0 30 [some (vr 148), some (vi w), some (vi h), some (vi k)] [] X2 I2 L (p2 fun v I' L' => v = none ∧ (Ex1 149 I' I ∧ (I' 149 0 = w ∧ I' 149 1 = h ∧ I' 149 4 = 0 ∧ I' 149 5 = 0) ∧ (∀ b, 6 ≤ b → b < 6 + 49 → I' 149 b = 5) ∧ ∀ b, ¬ b = 0 → ¬ b = 1 → ¬ b = 4 → ¬ b = 5 → ¬ (6 ≤ b ∧ b < 55) → I' 149 b = I 149 b) ∧ L' = L)) (fun k I2 => Ex1 149 I2 I ∧ (I2 149 0 = w ∧ I2 149 1 = h ∧ I2 149 4 = 0 ∧ I2 149 5 = 0) ∧ (∀ b, 6 ≤ b → b < 6 + k → I2 149 b = 5) ∧ ∀ b, ¬ b = 0 → ¬ b = 1 → ¬ b = 4 → ¬ b = 5 → ¬ (6 ≤ b ∧ b < 55) → I2 149 b = I 149 b) 49 0 I1 (by omega) hI1 ?_ ?_
    · intro I2 hJ
      refine Wk.iload_n (k := 3) (q := 31) (by decide +kernel) rfl rfl rfl ?_
      refine Wk.bipush (n := 49) (q := 33) (by decide +kernel) (by decide +kernel) rfl ?_
      refine Wk.icmp_ge (off := (19)) (t := 52) (q := 36) (by decide +kernel) (by decide) rfl (by first | omega | exact bi_rng _) (by first | omega | exact bi_rng _) (fun hc33 => ?_) (fun hc33 => ?_)
      · exact Wk.rvP (by decide +kernel) rfl (⟨rfl, hJ, rfl⟩)
      · omega
    · intro k I2 k0 k1 hJ ih
      obtain ⟨j1, ⟨j2, j3, j4, j5⟩, j6, j7⟩ := hJ
      refine Wk.iload_n (k := 3) (q := 31) (by decide +kernel) rfl rfl rfl ?_
      refine Wk.bipush (n := 49) (q := 33) (by decide +kernel) (by decide +kernel) rfl ?_
      refine Wk.icmp_ge (off := (19)) (t := 52) (q := 36) (by decide +kernel) (by decide) rfl (by first | omega | exact bi_rng _) (by first | omega | exact bi_rng _) (fun hc33 => ?_) (fun hc33 => ?_)
      · omega
      · refine Wk.aload_n (k := 0) (q := 37) (by decide +kernel) rfl rfl rfl ?_
        refine Wk.getR (r := 149) (q := 40) f_Mod_7 (by decide +kernel) O_148 (by decide) rfl rfl rfl ?_
        refine Wk.bipush (n := 6) (q := 42) (by decide +kernel) (by decide +kernel) rfl ?_
        refine Wk.iload_n (k := 3) (q := 43) (by decide +kernel) rfl rfl rfl ?_
        refine Wk.iadd (q := 44) (by decide +kernel) rfl ?_
        refine Wk.iconst (n := 5) (q := 45) (by decide +kernel) rfl ?_
        refine Wk.iastore (q := 46) (by decide +kernel) A_149 (by first | omega | exact bi_rng _) (by first | omega | exact bi_rng _) rfl ?_
        refine Wk.iinc (i := 3) (n := 1) (q := 49) (by decide +kernel) rfl (by decide) rfl (fun _ h => h) rfl ?_
        refine Wk.goto (off := (-19)) (q := 30) (by decide +kernel) (by decide) ?_
        refine ih _ ⟨j1.up _ _, ⟨?_, ?_, ?_, ?_⟩, fun b b0 b1 => ?_, fun b b0 b1 b2 b3 b4 => ?_⟩
        · rw [iup_ne (by omega)]; exact j2
        · rw [iup_ne (by omega)]; exact j3
        · rw [iup_ne (by omega)]; exact j4
        · rw [iup_ne (by omega)]; exact j5
        · by_cases hb : b = 6 + k
          · rw [hb, iup_at]
          · rw [iup_ne (by omega)]; exact j6 b b0 (by omega)
        · rw [iup_ne (by omega)]; exact j7 b b0 b1 b2 b3 b4
  refine Wk.aload_n (k := 0) (q := 1) (by decide +kernel) rfl rfl rfl ?_
  refine Wk.getR (r := 149) (q := 4) f_Mod_7 (by decide +kernel) O_148 (by decide) rfl rfl rfl ?_
  refine Wk.iconst (n := 0) (q := 5) (by decide +kernel) rfl ?_
  refine Wk.iload_n (k := 1) (q := 6) (by decide +kernel) rfl rfl rfl ?_
  refine Wk.iastore (q := 7) (by decide +kernel) A_149 (by first | omega | exact bi_rng _) (by first | omega | exact bi_rng _) rfl ?_
  refine Wk.aload_n (k := 0) (q := 8) (by decide +kernel) rfl rfl rfl ?_
  refine Wk.getR (r := 149) (q := 11) f_Mod_7 (by decide +kernel) O_148 (by decide) rfl rfl rfl ?_
  refine Wk.iconst (n := 1) (q := 12) (by decide +kernel) rfl ?_
  refine Wk.iload_n (k := 2) (q := 13) (by decide +kernel) rfl rfl rfl ?_
  refine Wk.iastore (q := 14) (by decide +kernel) A_149 (by first | omega | exact bi_rng _) (by first | omega | exact bi_rng _) rfl ?_
  refine Wk.aload_n (k := 0) (q := 15) (by decide +kernel) rfl rfl rfl ?_
  refine Wk.getR (r := 149) (q := 18) f_Mod_7 (by decide +kernel) O_148 (by decide) rfl rfl rfl ?_
  refine Wk.iconst (n := 4) (q := 19) (by decide +kernel) rfl ?_
  refine Wk.iconst (n := 0) (q := 20) (by decide +kernel) rfl ?_
  refine Wk.iastore (q := 21) (by decide +kernel) A_149 (by first | omega | exact bi_rng _) (by first | omega | exact bi_rng _) rfl ?_
  refine Wk.aload_n (k := 0) (q := 22) (by decide +kernel) rfl rfl rfl ?_
  refine Wk.getR (r := 149) (q := 25) f_Mod_7 (by decide +kernel) O_148 (by decide) rfl rfl rfl ?_
  refine Wk.iconst (n := 5) (q := 26) (by decide +kernel) rfl ?_
  refine Wk.iconst (n := 0) (q := 27) (by decide +kernel) rfl ?_
  refine Wk.iastore (q := 28) (by decide +kernel) A_149 (by first | omega | exact bi_rng _) (by first | omega | exact bi_rng _) rfl ?_
  refine Wk.iconst (n := 0) (q := 29) (by decide +kernel) rfl ?_
  refine Wk.istore_n (k := 3) (q := 30) (by decide +kernel) rfl (by decide) rfl (fun _ h => h) rfl ?_
  exact key _ ⟨((((Ex1.up (fun _ _ => rfl) _ _).up _ _).up _ _).up _ _), ⟨by simp [iup], by simp [iup], by simp [iup], by simp [iup]⟩, fun b b0 b1 => by omega, fun b b0 b1 b2 b3 b4 => by simp [iup, b0, b1, b2, b3]⟩
theorem c_Mod_unwait {k : Int} (h0 : 0 ≤ k) (h1 : k < I 149 5) (h2 : I 149 5 ≤ 3) : Wk xs x_Mod_unwait (d + 1) 0 0 0 [some (vr 148), some (vi k), none] [] X2 I L (pV (unw I k) L) := by
  have e5 : ∀ t, (shW I (75 + 4 * k) t 5 (I 149 5 - 1)) 149 5 = I 149 5 - 1 := fun t => by simp [shW]
  have key : Wk xs x_Mod_unwait (d + 1) 0 0 15 [some (vr 148), some (vi k), some (vi (75 + 4 * k))] [] X2 (shW I (75 + 4 * k) (75 + 4 * k) 5 (I 149 5 - 1)) L (pV (unw I k) L) := by
    refine loopI (fun t => Wk xs x_Mod_unwait (d + 1) 0 0 15 [some (vr 148), some (vi k), some (vi t)] [] X2 (shW I (75 + 4 * k) t 5 (I 149 5 - 1)) L (pV (unw I k) L)) (75 + 4 * (I 149 5 - 1)) (75 + 4 * k) (by omega) ?_ ?_
    · refine Wk.iload_n (k := 2) (q := 16) (by decide +kernel) rfl rfl rfl ?_
      refine Wk.aload_n (k := 0) (q := 17) (by decide +kernel) rfl rfl rfl ?_
      refine Wk.getR (r := 149) (q := 20) f_Mod_7 (by decide +kernel) O_148 (by decide) rfl rfl rfl ?_
      refine Wk.iconst (n := 5) (q := 21) (by decide +kernel) rfl ?_
      refine Wk.iaload (q := 22) (by decide +kernel) A_149 (by first | omega | exact bi_rng _) (by first | omega | exact bi_rng _) rfl ?_
      rw [e5]
      refine Wk.cSi (q := 25) l_Mod_100 m_Mod_waitAt (by decide +kernel) (fun _ h => h) (Nat.le_of_ble_eq_true rfl) (Nat.le_of_ble_eq_true rfl) rfl (c_Mod_waitAt) rfl ?_
      refine Wk.icmp_ge (off := (23)) (t := 48) (q := 28) (by decide +kernel) (by decide) rfl (by first | omega | exact bi_rng _) (by first | omega | exact bi_rng _) (fun hc25 => ?_) (fun hc25 => ?_)
      · exact Wk.rV (by decide +kernel) rfl (rfl) rfl
      · omega
    · intro t t0 t1 ih
      refine Wk.iload_n (k := 2) (q := 16) (by decide +kernel) rfl rfl rfl ?_
      refine Wk.aload_n (k := 0) (q := 17) (by decide +kernel) rfl rfl rfl ?_
      refine Wk.getR (r := 149) (q := 20) f_Mod_7 (by decide +kernel) O_148 (by decide) rfl rfl rfl ?_
      refine Wk.iconst (n := 5) (q := 21) (by decide +kernel) rfl ?_
      refine Wk.iaload (q := 22) (by decide +kernel) A_149 (by first | omega | exact bi_rng _) (by first | omega | exact bi_rng _) rfl ?_
      rw [e5]
      refine Wk.cSi (q := 25) l_Mod_100 m_Mod_waitAt (by decide +kernel) (fun _ h => h) (Nat.le_of_ble_eq_true rfl) (Nat.le_of_ble_eq_true rfl) rfl (c_Mod_waitAt) rfl ?_
      refine Wk.icmp_ge (off := (23)) (t := 48) (q := 28) (by decide +kernel) (by decide) rfl (by first | omega | exact bi_rng _) (by first | omega | exact bi_rng _) (fun hc25 => ?_) (fun hc25 => ?_)
      · omega
      · refine Wk.aload_n (k := 0) (q := 29) (by decide +kernel) rfl rfl rfl ?_
        refine Wk.getR (r := 149) (q := 32) f_Mod_7 (by decide +kernel) O_148 (by decide) rfl rfl rfl ?_
        refine Wk.iload_n (k := 2) (q := 33) (by decide +kernel) rfl rfl rfl ?_
        refine Wk.aload_n (k := 0) (q := 34) (by decide +kernel) rfl rfl rfl ?_
        refine Wk.getR (r := 149) (q := 37) f_Mod_7 (by decide +kernel) O_148 (by decide) rfl rfl rfl ?_
        refine Wk.iload_n (k := 2) (q := 38) (by decide +kernel) rfl rfl rfl ?_
        refine Wk.iconst (n := 4) (q := 39) (by decide +kernel) rfl ?_
        refine Wk.iadd (q := 40) (by decide +kernel) rfl ?_
        refine Wk.iaload (q := 41) (by decide +kernel) A_149 (by first | omega | exact bi_rng _) (by first | omega | exact bi_rng _) rfl ?_
        refine Wk.iastore (q := 42) (by decide +kernel) A_149 (by first | omega | exact bi_rng _) (by first | omega | exact bi_rng _) rfl ?_
        refine Wk.iinc (i := 2) (n := 1) (q := 45) (by decide +kernel) rfl (by decide) rfl (fun _ h => h) rfl ?_
        refine Wk.goto (off := (-30)) (q := 15) (by decide +kernel) (by decide) ?_
        rw [shW_step t0 (by omega)]
        exact ih
  refine Wk.aload_n (k := 0) (q := 1) (by decide +kernel) rfl rfl rfl ?_
  refine Wk.getR (r := 149) (q := 4) f_Mod_7 (by decide +kernel) O_148 (by decide) rfl rfl rfl ?_
  refine Wk.iconst (n := 5) (q := 5) (by decide +kernel) rfl ?_
  refine Wk.dup2 (q := 6) (by decide +kernel) rfl rfl rfl ?_
  refine Wk.iaload (q := 7) (by decide +kernel) A_149 (by first | omega | exact bi_rng _) (by first | omega | exact bi_rng _) rfl ?_
  refine Wk.iconst (n := 1) (q := 8) (by decide +kernel) rfl ?_
  refine Wk.isub (q := 9) (by decide +kernel) rfl ?_
  refine Wk.iastore (q := 10) (by decide +kernel) A_149 (by first | omega | exact bi_rng _) (by first | omega | exact bi_rng _) rfl ?_
  refine Wk.iload_n (k := 1) (q := 11) (by decide +kernel) rfl rfl rfl ?_
  refine Wk.cSi (q := 14) l_Mod_100 m_Mod_waitAt (by decide +kernel) (fun _ h => h) (Nat.le_of_ble_eq_true rfl) (Nat.le_of_ble_eq_true rfl) rfl (c_Mod_waitAt) rfl ?_
  refine Wk.istore_n (k := 2) (q := 15) (by decide +kernel) rfl (by decide) rfl (fun _ h => h) rfl ?_
  rw [shW_0] at key
  exact key
theorem c_Mod_moor {k c : Int} (h0 : 0 ≤ k) (h1 : k < 3) (h2 : 0 ≤ I 149 4) (h3 : I 149 4 ≤ 4) : Wk xs x_Mod_moor (d + 1) 0 0 0 [some (vr 148), some (vi k), some (vi c), none, none] [] X2 I L (pV (moo I k c) L) := by
  have key : Wk xs x_Mod_moor (d + 1) 0 0 13 [some (vr 148), some (vi k), some (vi c), some (vi (55 + 4 * I 149 4)), some (vi 0)] [] X2 (mo0 I (55 + 4 * I 149 4) (75 + 4 * k) 0) L (pV (moo I k c) L) := by
    refine loopI (fun j => Wk xs x_Mod_moor (d + 1) 0 0 13 [some (vr 148), some (vi k), some (vi c), some (vi (55 + 4 * I 149 4)), some (vi j)] [] X2 (mo0 I (55 + 4 * I 149 4) (75 + 4 * k) j) L (pV (moo I k c) L)) 4 0 (by omega) ?_ ?_
    · refine Wk.iload (i := 4) (q := 15) (by decide +kernel) rfl rfl ?_
      refine Wk.iconst (n := 4) (q := 16) (by decide +kernel) rfl ?_
      refine Wk.icmp_ge (off := (30)) (t := 46) (q := 19) (by decide +kernel) (by decide) rfl (by first | omega | exact bi_rng _) (by first | omega | exact bi_rng _) (fun hc16 => ?_) (fun hc16 => ?_)
      · refine Wk.aload_n (k := 0) (q := 47) (by decide +kernel) rfl rfl rfl ?_
        refine Wk.getR (r := 149) (q := 50) f_Mod_7 (by decide +kernel) O_148 (by decide) rfl rfl rfl ?_
        refine Wk.iload_n (k := 3) (q := 51) (by decide +kernel) rfl rfl rfl ?_
        refine Wk.iconst (n := 3) (q := 52) (by decide +kernel) rfl ?_
        refine Wk.iadd (q := 53) (by decide +kernel) rfl ?_
        refine Wk.iload_n (k := 2) (q := 54) (by decide +kernel) rfl rfl rfl ?_
        refine Wk.iastore (q := 55) (by decide +kernel) A_149 (by first | omega | exact bi_rng _) (by first | omega | exact bi_rng _) rfl ?_
        refine Wk.aload_n (k := 0) (q := 56) (by decide +kernel) rfl rfl rfl ?_
        refine Wk.getR (r := 149) (q := 59) f_Mod_7 (by decide +kernel) O_148 (by decide) rfl rfl rfl ?_
        refine Wk.iconst (n := 4) (q := 60) (by decide +kernel) rfl ?_
        refine Wk.dup2 (q := 61) (by decide +kernel) rfl rfl rfl ?_
        refine Wk.iaload (q := 62) (by decide +kernel) A_149 (by first | omega | exact bi_rng _) (by first | omega | exact bi_rng _) rfl ?_
        rw [iup_ne (by omega), mo0_4 (by omega)]
        refine Wk.iconst (n := 1) (q := 63) (by decide +kernel) rfl ?_
        refine Wk.iadd (q := 64) (by decide +kernel) rfl ?_
        refine Wk.iastore (q := 65) (by decide +kernel) A_149 (by first | omega | exact bi_rng _) (by first | omega | exact bi_rng _) rfl ?_
        exact Wk.rV (by decide +kernel) rfl (rfl) rfl
      · omega
    · intro j j0 j1 ih
      refine Wk.iload (i := 4) (q := 15) (by decide +kernel) rfl rfl ?_
      refine Wk.iconst (n := 4) (q := 16) (by decide +kernel) rfl ?_
      refine Wk.icmp_ge (off := (30)) (t := 46) (q := 19) (by decide +kernel) (by decide) rfl (by first | omega | exact bi_rng _) (by first | omega | exact bi_rng _) (fun hc16 => ?_) (fun hc16 => ?_)
      · omega
      · refine Wk.aload_n (k := 0) (q := 20) (by decide +kernel) rfl rfl rfl ?_
        refine Wk.getR (r := 149) (q := 23) f_Mod_7 (by decide +kernel) O_148 (by decide) rfl rfl rfl ?_
        refine Wk.iload_n (k := 3) (q := 24) (by decide +kernel) rfl rfl rfl ?_
        refine Wk.iload (i := 4) (q := 26) (by decide +kernel) rfl rfl ?_
        refine Wk.iadd (q := 27) (by decide +kernel) rfl ?_
        refine Wk.aload_n (k := 0) (q := 28) (by decide +kernel) rfl rfl rfl ?_
        refine Wk.getR (r := 149) (q := 31) f_Mod_7 (by decide +kernel) O_148 (by decide) rfl rfl rfl ?_
        refine Wk.iload_n (k := 1) (q := 32) (by decide +kernel) rfl rfl rfl ?_
        refine Wk.cSi (q := 35) l_Mod_100 m_Mod_waitAt (by decide +kernel) (fun _ h => h) (Nat.le_of_ble_eq_true rfl) (Nat.le_of_ble_eq_true rfl) rfl (c_Mod_waitAt) rfl ?_
        refine Wk.iload (i := 4) (q := 37) (by decide +kernel) rfl rfl ?_
        refine Wk.iadd (q := 38) (by decide +kernel) rfl ?_
        refine Wk.iaload (q := 39) (by decide +kernel) A_149 (by first | omega | exact bi_rng _) (by first | omega | exact bi_rng _) rfl ?_
        refine Wk.iastore (q := 40) (by decide +kernel) A_149 (by first | omega | exact bi_rng _) (by first | omega | exact bi_rng _) rfl ?_
        refine Wk.iinc (i := 4) (n := 1) (q := 43) (by decide +kernel) rfl (by decide) rfl (fun _ h => h) rfl ?_
        refine Wk.goto (off := (-30)) (q := 13) (by decide +kernel) (by decide) ?_
        rw [mo0_step j0 j1 (by omega)]
        exact ih
  refine Wk.aload_n (k := 0) (q := 1) (by decide +kernel) rfl rfl rfl ?_
  refine Wk.getR (r := 149) (q := 4) f_Mod_7 (by decide +kernel) O_148 (by decide) rfl rfl rfl ?_
  refine Wk.iconst (n := 4) (q := 5) (by decide +kernel) rfl ?_
  refine Wk.iaload (q := 6) (by decide +kernel) A_149 (by first | omega | exact bi_rng _) (by first | omega | exact bi_rng _) rfl ?_
  refine Wk.cSi (q := 9) l_Mod_77 m_Mod_shipAt (by decide +kernel) (fun _ h => h) (Nat.le_of_ble_eq_true rfl) (Nat.le_of_ble_eq_true rfl) rfl (c_Mod_shipAt) rfl ?_
  refine Wk.istore_n (k := 3) (q := 10) (by decide +kernel) rfl (by decide) rfl (fun _ h => h) rfl ?_
  refine Wk.iconst (n := 0) (q := 11) (by decide +kernel) rfl ?_
  refine Wk.istore (i := 4) (q := 13) (by decide +kernel) (by decide) rfl (fun _ h => h) rfl ?_
  rw [mo0_0] at key
  exact key
theorem seed_long {s : Int} (h0 : 0 ≤ s) (h1 : s ≤ 2147483647) : ((nZ s).toInt64 * 1103515245 + 12345 - ((nZ s).toInt64 * 1103515245 + 12345) / 2147483648 * 2147483648).toInt32.toInt = nextSeed s := by
  have m1 : Int32.minValue.toInt = -2147483648 := by decide
  have m2 : Int32.maxValue.toInt = 2147483647 := by decide
  have m3 : Int64.minValue.toInt = -9223372036854775808 := by decide
  have m4 : Int64.maxValue.toInt = 9223372036854775807 := by decide
  have e1 : (nZ s).toInt64 = Int64.ofInt s := Int32.toInt64_ofInt (by rw [m1]; omega) (by rw [m2]; omega)
  have e2 : (nZ s).toInt64 * 1103515245 + 12345 = Int64.ofInt (s * 1103515245 + 12345) := by
    rw [e1, Int64.ofInt_add, Int64.ofInt_mul]; rfl
  have e3 : (2147483648 : Int64) = Int64.ofInt 2147483648 := by decide +kernel
  rw [e2, e3, ← Int64.ofInt_tdiv (by rw [m3]; omega) (by rw [m4]; omega) (by rw [m3]; omega) (by rw [m4]; omega), ← Int64.ofInt_mul, ← Int64.ofInt_sub, Int64.toInt32_ofInt, Int.tdiv_eq_ediv_of_nonneg (by omega)]
  have e4 : s * 1103515245 + 12345 - (s * 1103515245 + 12345) / 2147483648 * 2147483648 = nextSeed s := by unfold nextSeed; omega
  rw [e4]
  have := nextSeed_range s
  exact nZ_toInt (by omega) (by omega)
theorem c_Mod_draw {n : Int} (h0 : 0 < n) (h1 : n ≤ 100) (hs : 0 ≤ I 148 3 ∧ I 148 3 ≤ 2147483647) : Wk xs x_Mod_draw d 0 0 0 [some (vr 148), some (vi n), none, none] [] X2 I L (p2 fun v I' L' => v = some (vi (nextSeed (I 148 3) / 65536 % n)) ∧ I' = iup I 148 3 (nextSeed (I 148 3)) ∧ L' = L) := by
  have hr := nextSeed_range (I 148 3)
  refine Wk.aload_n (k := 0) (q := 1) (by decide +kernel) rfl rfl rfl ?_
  refine Wk.getI (z := 3) (q := 4) f_Mod_156 (by decide +kernel) O_148 (by decide) rfl rfl rfl ?_
  refine Wk.i2l (q := 5) (by decide +kernel) rfl ?_
  refine Wk.ldc2 (q := 8) k_Mod_206 (by decide +kernel) rfl ?_
  refine Wk.lmul (q := 9) (by decide +kernel) rfl ?_
  refine Wk.ldc2 (q := 12) k_Mod_208 (by decide +kernel) rfl ?_
  refine Wk.ladd (q := 13) (by decide +kernel) rfl ?_
  refine Wk.ldc2 (q := 16) k_Mod_210 (by decide +kernel) rfl ?_
  refine Wk.lrem (q := 17) (by decide +kernel) (by decide +kernel) rfl ?_
  refine Wk.lstore_n (k := 2) (q := 18) (by decide +kernel) rfl (by decide) rfl (fun _ h => h) rfl ?_
  refine Wk.aload_n (k := 0) (q := 19) (by decide +kernel) rfl rfl rfl ?_
  refine Wk.lload_n (k := 2) (q := 20) (by decide +kernel) rfl rfl rfl ?_
  refine Wk.l2i (q := 21) (by decide +kernel) rfl ?_
  rw [seed_long hs.1 hs.2]
  refine Wk.putI (z := 3) (q := 24) f_Mod_156 fw_Mod_3 (by decide +kernel) O_148 (by decide) rfl rfl ⟨rfl, rfl⟩ rfl ?_
  refine Wk.aload_n (k := 0) (q := 25) (by decide +kernel) rfl rfl rfl ?_
  refine Wk.getI (z := 3) (q := 28) f_Mod_156 (by decide +kernel) O_148 (by decide) rfl rfl rfl ?_
  rw [iup_at]
  refine Wk.ldc (z := 65536) (q := 30) k_Mod_212 (by decide +kernel) (by decide +kernel) rfl ?_
  refine Wk.idiv (q := 31) (by decide +kernel) (by first | omega | exact bi_rng _) (by first | omega | exact bi_rng _) rfl ?_
  refine Wk.iload_n (k := 1) (q := 32) (by decide +kernel) rfl rfl rfl ?_
  refine Wk.irem (q := 33) (by decide +kernel) (by first | omega | exact bi_rng _) (by first | omega | exact bi_rng _) rfl ?_
  exact Wk.riP (by decide +kernel) rfl (⟨rfl, rfl, rfl⟩)
end MOI
end
section
/-! HARBOURS THAT ARE COPIED: the class's Harbour, History, Image, Book -/
def HOK (X : LY) (o : Nat) : Prop := isO X o 1 12 ∧ (∀ j, j < 6 → (X.2 o).2.2 (6 + j) = some (o + 1 + j)) ∧ isA X (o + 1) 10 49 ∧ isA X (o + 2) 10 8 ∧ isA X (o + 3) 10 8 ∧ isA X (o + 4) 10 8 ∧ isA X (o + 5) 10 8 ∧ isA X (o + 6) 10 8
theorem HOK_1 : HOK X2 1 := by unfold HOK isO isA; decide +kernel
theorem HOK_h_a : ∀ i, i < 16 → isO X2 (10 + 7 * i) 1 12 := by unfold isO; decide +kernel
theorem HOK_h_b : ∀ i, i < 16 → ∀ j, j < 6 → (X2.2 (10 + 7 * i)).2.2 (6 + j) = some (10 + 7 * i + 1 + j) := by decide +kernel
theorem HOK_h_1 : ∀ i, i < 16 → isA X2 (10 + 7 * i + 1) 10 49 := by unfold isA; decide +kernel
theorem HOK_h_2 : ∀ i, i < 16 → isA X2 (10 + 7 * i + 2) 10 8 := by unfold isA; decide +kernel
theorem HOK_h_3 : ∀ i, i < 16 → isA X2 (10 + 7 * i + 3) 10 8 := by unfold isA; decide +kernel
theorem HOK_h_4 : ∀ i, i < 16 → isA X2 (10 + 7 * i + 4) 10 8 := by unfold isA; decide +kernel
theorem HOK_h_5 : ∀ i, i < 16 → isA X2 (10 + 7 * i + 5) 10 8 := by unfold isA; decide +kernel
theorem HOK_h_6 : ∀ i, i < 16 → isA X2 (10 + 7 * i + 6) 10 8 := by unfold isA; decide +kernel
theorem HOK_h : ∀ i, i < 16 → HOK X2 (10 + 7 * i) := fun i h => ⟨HOK_h_a i h, HOK_h_b i h, HOK_h_1 i h, HOK_h_2 i h, HOK_h_3 i h, HOK_h_4 i h, HOK_h_5 i h, HOK_h_6 i h⟩
theorem HOK_i_a : ∀ i, i < 2 → isO X2 (133 + 8 * i) 1 12 := by unfold isO; decide +kernel
theorem HOK_i_b : ∀ i, i < 2 → ∀ j, j < 6 → (X2.2 (133 + 8 * i)).2.2 (6 + j) = some (133 + 8 * i + 1 + j) := by decide +kernel
theorem HOK_i_1 : ∀ i, i < 2 → isA X2 (133 + 8 * i + 1) 10 49 := by unfold isA; decide +kernel
theorem HOK_i_2 : ∀ i, i < 2 → isA X2 (133 + 8 * i + 2) 10 8 := by unfold isA; decide +kernel
theorem HOK_i_3 : ∀ i, i < 2 → isA X2 (133 + 8 * i + 3) 10 8 := by unfold isA; decide +kernel
theorem HOK_i_4 : ∀ i, i < 2 → isA X2 (133 + 8 * i + 4) 10 8 := by unfold isA; decide +kernel
theorem HOK_i_5 : ∀ i, i < 2 → isA X2 (133 + 8 * i + 5) 10 8 := by unfold isA; decide +kernel
theorem HOK_i_6 : ∀ i, i < 2 → isA X2 (133 + 8 * i + 6) 10 8 := by unfold isA; decide +kernel
theorem HOK_i : ∀ i, i < 2 → HOK X2 (133 + 8 * i) := fun i h => ⟨HOK_i_a i h, HOK_i_b i h, HOK_i_1 i h, HOK_i_2 i h, HOK_i_3 i h, HOK_i_4 i h, HOK_i_5 i h, HOK_i_6 i h⟩
theorem IO_i : ∀ i, i < 2 → isO X2 (132 + 8 * i) 3 3 ∧ (X2.2 (132 + 8 * i)).2.2 0 = some (133 + 8 * i) := by unfold isO; decide +kernel
theorem R9 : ∀ i, i < 16 → (X2.2 9).2.2 i = some (10 + 7 * i) := by decide +kernel
theorem R131 : ∀ i, i < 2 → (X2.2 131).2.2 i = some (132 + 8 * i) := by decide +kernel
def HLen (j : Nat) : Int := if j = 1 then 49 else 8
def HF (I : IM) (s t : Nat) (k : Int) (I' : IM) : Prop := (∀ b, 0 ≤ b → b < k → I' t b = I s b) ∧ ∀ a, ¬ a = t → I' a = I a
theorem HF.step {I I' : IM} {s t : Nat} {k k' : Int} (h : HF I s t k I') (hs : ¬ s = t) (hk : k + 1 = k') : HF I s t k' (iup I' t k (I' s k)) := by
  subst hk
  refine ⟨fun b b0 b1 => ?_, fun a ha => ?_⟩
  · by_cases hb : b = k
    · rw [hb, iup_at, h.2 s hs]
    · rw [iup_ne (fun z => hb z.2)]; exact h.1 b b0 (by omega)
  · rw [iup_other ha]; exact h.2 a ha
def HC (I : IM) (s t j : Nat) (I' : IM) : Prop := (∀ b, 0 ≤ b → b < 6 → I' t b = I s b) ∧ (∀ i b, 1 ≤ i → i ≤ j → 0 ≤ b → b < HLen i → I' (t + i) b = I (s + i) b) ∧ ∀ a, (a < t ∨ t + j < a) → I' a = I a
theorem HC.nil {I I' : IM} {s t : Nat} (h : HF I s t 6 I') : HC I s t 0 I' := ⟨h.1, fun i b i0 i1 => by omega, fun a ha => h.2 a (by omega)⟩
theorem HC.step {I I' : IM} {s t j : Nat} {n : Int} (h : HC I s t j I') (hj : j < 6) (hn : HLen (j + 1) = n) (hd : s + 6 < t ∨ t + 6 < s) : HC I s t (j + 1) (icpy I' (s + (j + 1)) 0 (t + (j + 1)) 0 n) := by
  obtain ⟨h1, h2, h3⟩ := h
  refine ⟨fun b b0 b1 => ?_, fun i b i0 i1 b0 b1 => ?_, fun a ha => ?_⟩
  · simp only [icpy]
    rw [if_neg (by omega)]
    exact h1 b b0 b1
  · by_cases hi : i = j + 1
    · subst hi
      simp only [icpy]
      rw [if_pos ⟨trivial, by omega, by omega⟩, h3 _ (by omega)]
      congr 1; omega
    · simp only [icpy]
      rw [if_neg (by omega)]
      exact h2 i b i0 (by omega) b0 b1
  · funext b
    simp only [icpy]
    rw [if_neg (by omega), h3 a (by omega)]
/-- what laying out leaves -/
def LAY (I : IM) (o : Nat) (w h : Int) (I' : IM) : Prop := (I' o 0 = w ∧ I' o 1 = h ∧ I' o 4 = 0 ∧ I' o 5 = 0) ∧ (∀ b, ¬ b = 0 → ¬ b = 1 → ¬ b = 4 → ¬ b = 5 → I' o b = I o b) ∧ (∀ b, 0 ≤ b → b < 49 → I' (o + 1) b = 5) ∧ ∀ a, ¬ a = o → ¬ a = o + 1 → I' a = I a
section CPY
variable {xs : RO} {d : Nat} {I : IM} {L : LM} {X : LY}

theorem c_Harb_layOut {t : Nat} {w h : Int} (hT : HOK X t) : Wk xs x_Harb_layOut d 0 0 0 [some (vr t), some (vi w), some (vi h), none] [] X I L (fun v X' I' L' => X' = X ∧ v = none ∧ LAY I t w h I' ∧ L' = L) := by
  have key : ∀ I1 : IM, (fun k I2 => (I2 t 0 = w ∧ I2 t 1 = h ∧ I2 t 4 = 0 ∧ I2 t 5 = 0) ∧ (∀ b, ¬ b = 0 → ¬ b = 1 → ¬ b = 4 → ¬ b = 5 → I2 t b = I t b) ∧ (∀ b, 0 ≤ b → b < k → I2 (t + 1) b = 5) ∧ ∀ a, ¬ a = t → ¬ a = t + 1 → I2 a = I a) 0 I1 → Wk xs x_Harb_layOut d 0 0 22 [some (vr t), some (vi w), some (vi h), some (vi 0)] [] X I1 L (fun v X' I' L' => X' = X ∧ v = none ∧ LAY I t w h I' ∧ L' = L) := by
    intro I1 hI1
    refine loopS (σ := IM) (fun k I2 => Wk xs x_Harb_layOut d 0 0 22 [some (vr t), some (vi w), some (vi h), some (vi k)] [] X I2 L (fun v X' I' L' => X' = X ∧ v = none ∧ LAY I t w h I' ∧ L' = L)) (fun k I2 => (I2 t 0 = w ∧ I2 t 1 = h ∧ I2 t 4 = 0 ∧ I2 t 5 = 0) ∧ (∀ b, ¬ b = 0 → ¬ b = 1 → ¬ b = 4 → ¬ b = 5 → I2 t b = I t b) ∧ (∀ b, 0 ≤ b → b < k → I2 (t + 1) b = 5) ∧ ∀ a, ¬ a = t → ¬ a = t + 1 → I2 a = I a) 49 0 I1 (by omega) hI1 ?_ ?_
    · intro I2 hJ
      refine Wk.iload_n (k := 3) (q := 23) (by decide +kernel) rfl rfl rfl ?_
      refine Wk.aload_n (k := 0) (q := 24) (by decide +kernel) rfl rfl rfl ?_
      refine Wk.getR (r := (t + 1)) (q := 27) f_Harb_9 (by decide +kernel) hT.1 (by decide) rfl (hT.2.1 0 (by decide)) rfl ?_
      refine Wk.alen (q := 28) (by decide +kernel) hT.2.2.1 rfl rfl ?_
      refine Wk.icmp_ge (off := (16)) (t := 44) (q := 31) (by decide +kernel) (by decide) rfl (by first | omega | exact bi_rng _) (by first | omega | exact bi_rng _) (fun hc28 => ?_) (fun hc28 => ?_)
      · exact Wk.vret (by decide +kernel) rfl (⟨rfl, rfl, hJ, rfl⟩)
      · omega
    · intro k I2 k0 k1 hJ ih
      obtain ⟨⟨j1, j2, j3, j4⟩, j5, j6, j7⟩ := hJ
      refine Wk.iload_n (k := 3) (q := 23) (by decide +kernel) rfl rfl rfl ?_
      refine Wk.aload_n (k := 0) (q := 24) (by decide +kernel) rfl rfl rfl ?_
      refine Wk.getR (r := (t + 1)) (q := 27) f_Harb_9 (by decide +kernel) hT.1 (by decide) rfl (hT.2.1 0 (by decide)) rfl ?_
      refine Wk.alen (q := 28) (by decide +kernel) hT.2.2.1 rfl rfl ?_
      refine Wk.icmp_ge (off := (16)) (t := 44) (q := 31) (by decide +kernel) (by decide) rfl (by first | omega | exact bi_rng _) (by first | omega | exact bi_rng _) (fun hc28 => ?_) (fun hc28 => ?_)
      · omega
      · refine Wk.aload_n (k := 0) (q := 32) (by decide +kernel) rfl rfl rfl ?_
        refine Wk.getR (r := (t + 1)) (q := 35) f_Harb_9 (by decide +kernel) hT.1 (by decide) rfl (hT.2.1 0 (by decide)) rfl ?_
        refine Wk.iload_n (k := 3) (q := 36) (by decide +kernel) rfl rfl rfl ?_
        refine Wk.iconst (n := 5) (q := 37) (by decide +kernel) rfl ?_
        refine Wk.iastore (q := 38) (by decide +kernel) hT.2.2.1 (by first | omega | exact bi_rng _) (by first | omega | exact bi_rng _) rfl ?_
        refine Wk.iinc (i := 3) (n := 1) (q := 41) (by decide +kernel) rfl (by decide) rfl (fun _ h => h) rfl ?_
        refine Wk.goto (off := (-19)) (q := 22) (by decide +kernel) (by decide) ?_
        refine ih _ ⟨⟨?_, ?_, ?_, ?_⟩, fun b b0 b1 b2 b3 => ?_, fun b b0 b1 => ?_, fun a a0 a1 => ?_⟩
        · rw [iup_other (by omega)]; exact j1
        · rw [iup_other (by omega)]; exact j2
        · rw [iup_other (by omega)]; exact j3
        · rw [iup_other (by omega)]; exact j4
        · rw [iup_other (by omega)]; exact j5 b b0 b1 b2 b3
        · by_cases hb : b = k
          · rw [hb, iup_at]
          · rw [iup_ne (fun z => hb z.2)]; exact j6 b b0 (by omega)
        · rw [iup_other a1]; exact j7 a a0 a1
  refine Wk.aload_n (k := 0) (q := 1) (by decide +kernel) rfl rfl rfl ?_
  refine Wk.iload_n (k := 1) (q := 2) (by decide +kernel) rfl rfl rfl ?_
  refine Wk.putI (z := 0) (q := 5) f_Harb_41 fw_Harb_0 (by decide +kernel) hT.1 (by decide) rfl rfl ⟨rfl, rfl⟩ rfl ?_
  refine Wk.aload_n (k := 0) (q := 6) (by decide +kernel) rfl rfl rfl ?_
  refine Wk.iload_n (k := 2) (q := 7) (by decide +kernel) rfl rfl rfl ?_
  refine Wk.putI (z := 1) (q := 10) f_Harb_44 fw_Harb_1 (by decide +kernel) hT.1 (by decide) rfl rfl ⟨rfl, rfl⟩ rfl ?_
  refine Wk.aload_n (k := 0) (q := 11) (by decide +kernel) rfl rfl rfl ?_
  refine Wk.iconst (n := 0) (q := 12) (by decide +kernel) rfl ?_
  refine Wk.putI (z := 4) (q := 15) f_Harb_47 fw_Harb_4 (by decide +kernel) hT.1 (by decide) rfl rfl ⟨rfl, rfl⟩ rfl ?_
  refine Wk.aload_n (k := 0) (q := 16) (by decide +kernel) rfl rfl rfl ?_
  refine Wk.iconst (n := 0) (q := 17) (by decide +kernel) rfl ?_
  refine Wk.putI (z := 5) (q := 20) f_Harb_50 fw_Harb_5 (by decide +kernel) hT.1 (by decide) rfl rfl ⟨rfl, rfl⟩ rfl ?_
  refine Wk.iconst (n := 0) (q := 21) (by decide +kernel) rfl ?_
  refine Wk.istore_n (k := 3) (q := 22) (by decide +kernel) rfl (by decide) rfl (fun _ h => h) rfl ?_
  exact key _ ⟨⟨by simp [iup], by simp [iup], by simp [iup], by simp [iup]⟩, fun b b0 b1 b2 b3 => by simp [iup, b0, b1, b2, b3], fun b b0 b1 => by omega, fun a a0 a1 => by funext b; simp [iup, a0]⟩
theorem c_Harb_copyFrom {s t : Nat} (hT : HOK X2 t) (hS : HOK X2 s) (hd : s + 6 < t ∨ t + 6 < s) : Wk xs x_Harb_copyFrom (d + 1) 0 0 0 [some (vr t), some (vr s)] [] X2 I L (p2 fun v I' L' => v = none ∧ HC I s t 6 I' ∧ L' = L) := by
  have hs : ¬ s = t := by omega
  refine Wk.aload_n (k := 0) (q := 1) (by decide +kernel) rfl rfl rfl ?_
  refine Wk.aload_n (k := 1) (q := 2) (by decide +kernel) rfl rfl rfl ?_
  refine Wk.getI (z := 0) (q := 5) f_Harb_41 (by decide +kernel) hS.1 (by decide) rfl rfl rfl ?_
  refine Wk.putI (z := 0) (q := 8) f_Harb_41 fw_Harb_0 (by decide +kernel) hT.1 (by decide) rfl rfl ⟨rfl, rfl⟩ rfl ?_
  refine Wk.aload_n (k := 0) (q := 9) (by decide +kernel) rfl rfl rfl ?_
  refine Wk.aload_n (k := 1) (q := 10) (by decide +kernel) rfl rfl rfl ?_
  refine Wk.getI (z := 1) (q := 13) f_Harb_44 (by decide +kernel) hS.1 (by decide) rfl rfl rfl ?_
  refine Wk.putI (z := 1) (q := 16) f_Harb_44 fw_Harb_1 (by decide +kernel) hT.1 (by decide) rfl rfl ⟨rfl, rfl⟩ rfl ?_
  refine Wk.aload_n (k := 0) (q := 17) (by decide +kernel) rfl rfl rfl ?_
  refine Wk.aload_n (k := 1) (q := 18) (by decide +kernel) rfl rfl rfl ?_
  refine Wk.getI (z := 2) (q := 21) f_Harb_30 (by decide +kernel) hS.1 (by decide) rfl rfl rfl ?_
  refine Wk.putI (z := 2) (q := 24) f_Harb_30 fw_Harb_2 (by decide +kernel) hT.1 (by decide) rfl rfl ⟨rfl, rfl⟩ rfl ?_
  refine Wk.aload_n (k := 0) (q := 25) (by decide +kernel) rfl rfl rfl ?_
  refine Wk.aload_n (k := 1) (q := 26) (by decide +kernel) rfl rfl rfl ?_
  refine Wk.getI (z := 3) (q := 29) f_Harb_34 (by decide +kernel) hS.1 (by decide) rfl rfl rfl ?_
  refine Wk.putI (z := 3) (q := 32) f_Harb_34 fw_Harb_3 (by decide +kernel) hT.1 (by decide) rfl rfl ⟨rfl, rfl⟩ rfl ?_
  refine Wk.aload_n (k := 0) (q := 33) (by decide +kernel) rfl rfl rfl ?_
  refine Wk.aload_n (k := 1) (q := 34) (by decide +kernel) rfl rfl rfl ?_
  refine Wk.getI (z := 4) (q := 37) f_Harb_47 (by decide +kernel) hS.1 (by decide) rfl rfl rfl ?_
  refine Wk.putI (z := 4) (q := 40) f_Harb_47 fw_Harb_4 (by decide +kernel) hT.1 (by decide) rfl rfl ⟨rfl, rfl⟩ rfl ?_
  refine Wk.aload_n (k := 0) (q := 41) (by decide +kernel) rfl rfl rfl ?_
  refine Wk.aload_n (k := 1) (q := 42) (by decide +kernel) rfl rfl rfl ?_
  refine Wk.getI (z := 5) (q := 45) f_Harb_50 (by decide +kernel) hS.1 (by decide) rfl rfl rfl ?_
  refine Wk.putI (z := 5) (q := 48) f_Harb_50 fw_Harb_5 (by decide +kernel) hT.1 (by decide) rfl rfl ⟨rfl, rfl⟩ rfl ?_
  refine Wk.aload_n (k := 1) (q := 49) (by decide +kernel) rfl rfl rfl ?_
  refine Wk.getR (r := (s + 1)) (q := 52) f_Harb_9 (by decide +kernel) hS.1 (by decide) rfl (hS.2.1 0 (by decide)) rfl ?_
  refine Wk.iconst (n := 0) (q := 53) (by decide +kernel) rfl ?_
  refine Wk.aload_n (k := 0) (q := 54) (by decide +kernel) rfl rfl rfl ?_
  refine Wk.getR (r := (t + 1)) (q := 57) f_Harb_9 (by decide +kernel) hT.1 (by decide) rfl (hT.2.1 0 (by decide)) rfl ?_
  refine Wk.iconst (n := 0) (q := 58) (by decide +kernel) rfl ?_
  refine Wk.aload_n (k := 0) (q := 59) (by decide +kernel) rfl rfl rfl ?_
  refine Wk.getR (r := (t + 1)) (q := 62) f_Harb_9 (by decide +kernel) hT.1 (by decide) rfl (hT.2.1 0 (by decide)) rfl ?_
  refine Wk.alen (q := 63) (by decide +kernel) hT.2.2.1 rfl rfl ?_
  refine Wk.arraycopy (q := 66) ac_Harb_53 (by decide +kernel) hS.2.2.1 hT.2.2.1 (by omega) (by omega) (by omega) (by omega) (by omega) (Nat.le_of_ble_eq_true rfl) rfl ?_
  refine Wk.aload_n (k := 1) (q := 67) (by decide +kernel) rfl rfl rfl ?_
  refine Wk.getR (r := (s + 2)) (q := 70) f_Harb_15 (by decide +kernel) hS.1 (by decide) rfl (hS.2.1 1 (by decide)) rfl ?_
  refine Wk.iconst (n := 0) (q := 71) (by decide +kernel) rfl ?_
  refine Wk.aload_n (k := 0) (q := 72) (by decide +kernel) rfl rfl rfl ?_
  refine Wk.getR (r := (t + 2)) (q := 75) f_Harb_15 (by decide +kernel) hT.1 (by decide) rfl (hT.2.1 1 (by decide)) rfl ?_
  refine Wk.iconst (n := 0) (q := 76) (by decide +kernel) rfl ?_
  refine Wk.bipush (n := 8) (q := 78) (by decide +kernel) (by decide +kernel) rfl ?_
  refine Wk.arraycopy (q := 81) ac_Harb_53 (by decide +kernel) hS.2.2.2.1 hT.2.2.2.1 (by omega) (by omega) (by omega) (by omega) (by omega) (Nat.le_of_ble_eq_true rfl) rfl ?_
  refine Wk.aload_n (k := 1) (q := 82) (by decide +kernel) rfl rfl rfl ?_
  refine Wk.getR (r := (s + 3)) (q := 85) f_Harb_18 (by decide +kernel) hS.1 (by decide) rfl (hS.2.1 2 (by decide)) rfl ?_
  refine Wk.iconst (n := 0) (q := 86) (by decide +kernel) rfl ?_
  refine Wk.aload_n (k := 0) (q := 87) (by decide +kernel) rfl rfl rfl ?_
  refine Wk.getR (r := (t + 3)) (q := 90) f_Harb_18 (by decide +kernel) hT.1 (by decide) rfl (hT.2.1 2 (by decide)) rfl ?_
  refine Wk.iconst (n := 0) (q := 91) (by decide +kernel) rfl ?_
  refine Wk.bipush (n := 8) (q := 93) (by decide +kernel) (by decide +kernel) rfl ?_
  refine Wk.arraycopy (q := 96) ac_Harb_53 (by decide +kernel) hS.2.2.2.2.1 hT.2.2.2.2.1 (by omega) (by omega) (by omega) (by omega) (by omega) (Nat.le_of_ble_eq_true rfl) rfl ?_
  refine Wk.aload_n (k := 1) (q := 97) (by decide +kernel) rfl rfl rfl ?_
  refine Wk.getR (r := (s + 4)) (q := 100) f_Harb_21 (by decide +kernel) hS.1 (by decide) rfl (hS.2.1 3 (by decide)) rfl ?_
  refine Wk.iconst (n := 0) (q := 101) (by decide +kernel) rfl ?_
  refine Wk.aload_n (k := 0) (q := 102) (by decide +kernel) rfl rfl rfl ?_
  refine Wk.getR (r := (t + 4)) (q := 105) f_Harb_21 (by decide +kernel) hT.1 (by decide) rfl (hT.2.1 3 (by decide)) rfl ?_
  refine Wk.iconst (n := 0) (q := 106) (by decide +kernel) rfl ?_
  refine Wk.bipush (n := 8) (q := 108) (by decide +kernel) (by decide +kernel) rfl ?_
  refine Wk.arraycopy (q := 111) ac_Harb_53 (by decide +kernel) hS.2.2.2.2.2.1 hT.2.2.2.2.2.1 (by omega) (by omega) (by omega) (by omega) (by omega) (Nat.le_of_ble_eq_true rfl) rfl ?_
  refine Wk.aload_n (k := 1) (q := 112) (by decide +kernel) rfl rfl rfl ?_
  refine Wk.getR (r := (s + 5)) (q := 115) f_Harb_24 (by decide +kernel) hS.1 (by decide) rfl (hS.2.1 4 (by decide)) rfl ?_
  refine Wk.iconst (n := 0) (q := 116) (by decide +kernel) rfl ?_
  refine Wk.aload_n (k := 0) (q := 117) (by decide +kernel) rfl rfl rfl ?_
  refine Wk.getR (r := (t + 5)) (q := 120) f_Harb_24 (by decide +kernel) hT.1 (by decide) rfl (hT.2.1 4 (by decide)) rfl ?_
  refine Wk.iconst (n := 0) (q := 121) (by decide +kernel) rfl ?_
  refine Wk.bipush (n := 8) (q := 123) (by decide +kernel) (by decide +kernel) rfl ?_
  refine Wk.arraycopy (q := 126) ac_Harb_53 (by decide +kernel) hS.2.2.2.2.2.2.1 hT.2.2.2.2.2.2.1 (by omega) (by omega) (by omega) (by omega) (by omega) (Nat.le_of_ble_eq_true rfl) rfl ?_
  refine Wk.aload_n (k := 1) (q := 127) (by decide +kernel) rfl rfl rfl ?_
  refine Wk.getR (r := (s + 6)) (q := 130) f_Harb_27 (by decide +kernel) hS.1 (by decide) rfl (hS.2.1 5 (by decide)) rfl ?_
  refine Wk.iconst (n := 0) (q := 131) (by decide +kernel) rfl ?_
  refine Wk.aload_n (k := 0) (q := 132) (by decide +kernel) rfl rfl rfl ?_
  refine Wk.getR (r := (t + 6)) (q := 135) f_Harb_27 (by decide +kernel) hT.1 (by decide) rfl (hT.2.1 5 (by decide)) rfl ?_
  refine Wk.iconst (n := 0) (q := 136) (by decide +kernel) rfl ?_
  refine Wk.bipush (n := 8) (q := 138) (by decide +kernel) (by decide +kernel) rfl ?_
  refine Wk.arraycopy (q := 141) ac_Harb_53 (by decide +kernel) hS.2.2.2.2.2.2.2 hT.2.2.2.2.2.2.2 (by omega) (by omega) (by omega) (by omega) (by omega) (Nat.le_of_ble_eq_true rfl) rfl ?_
  exact Wk.rvP (by decide +kernel) rfl (⟨rfl, HC.step (j := 5) (HC.step (j := 4) (HC.step (j := 3) (HC.step (j := 2) (HC.step (j := 1) (HC.step (j := 0) (HC.nil (HF.step (HF.step (HF.step (HF.step (HF.step (HF.step (k := 0) (I' := I) ⟨fun b b0 b1 => by omega, fun _ _ => rfl⟩ hs (by decide)) hs (by decide)) hs (by decide)) hs (by decide)) hs (by decide)) hs (by decide))) (by decide) (by decide) hd) (by decide) (by decide) hd) (by decide) (by decide) hd) (by decide) (by decide) hd) (by decide) (by decide) hd) (by decide) (by decide) hd, rfl⟩)
theorem c_Hist_remember (h0 : 0 ≤ I 8 1 ∧ I 8 1 < 16) (h1 : 0 ≤ I 8 2 ∧ I 8 2 ≤ 16) : Wk xs x_Hist_remember (d + 2) 0 0 0 [some (vr 8), some (vr 1)] [] X2 I L (p2 fun v I' L' => v = none ∧ (∃ I1, HC I 1 (10 + 7 * (I 8 1).toNat) 6 I1 ∧ I' = iup (iup I1 8 1 ((I 8 1 + 1) % 16)) 8 2 (min (I 8 2 + 1) 16)) ∧ L' = L) := by
  have hn : (I 8 1).toNat < 16 := by omega
  refine Wk.aload_n (k := 0) (q := 1) (by decide +kernel) rfl rfl rfl ?_
  refine Wk.getR (r := 9) (q := 4) f_Hist_11 (by decide +kernel) O_8 (by decide) rfl rfl rfl ?_
  refine Wk.aload_n (k := 0) (q := 5) (by decide +kernel) rfl rfl rfl ?_
  refine Wk.getI (z := 1) (q := 8) f_Hist_18 (by decide +kernel) O_8 (by decide) rfl rfl rfl ?_
  refine Wk.aaload (r := 10 + 7 * (I 8 1).toNat) (q := 9) (by decide +kernel) A_9 (by decide) (by first | omega | exact bi_rng _) (by first | omega | exact bi_rng _) (R9 _ hn) rfl ?_
  refine Wk.aload_n (k := 1) (q := 10) (by decide +kernel) rfl rfl rfl ?_
  refine Wk.cV (q := 13) l_Hist_22 m_Harb_copyFrom (by decide +kernel) (fun _ h => h) (HOK_h _ hn).1 rfl (Nat.le_of_ble_eq_true rfl) (Nat.le_of_ble_eq_true rfl) rfl (c_Harb_copyFrom (HOK_h _ hn) HOK_1 (by omega)) rfl (fun v I1 L1 hP => ?_)
  obtain ⟨rfl, hH, rfl⟩ := hP
  have e8 := hH.2.2 8 (by omega)
  refine Wk.aload_n (k := 0) (q := 14) (by decide +kernel) rfl rfl rfl ?_
  refine Wk.aload_n (k := 0) (q := 15) (by decide +kernel) rfl rfl rfl ?_
  refine Wk.getI (z := 1) (q := 18) f_Hist_18 (by decide +kernel) O_8 (by decide) rfl rfl rfl ?_
  rw [e8]
  refine Wk.iconst (n := 1) (q := 19) (by decide +kernel) rfl ?_
  refine Wk.iadd (q := 20) (by decide +kernel) rfl ?_
  refine Wk.bipush (n := 16) (q := 22) (by decide +kernel) (by decide +kernel) rfl ?_
  refine Wk.irem (q := 23) (by decide +kernel) (by first | omega | exact bi_rng _) (by first | omega | exact bi_rng _) rfl ?_
  refine Wk.putI (z := 1) (q := 26) f_Hist_18 fw_Hist_1 (by decide +kernel) O_8 (by decide) rfl rfl ⟨rfl, rfl⟩ rfl ?_
  refine Wk.aload_n (k := 0) (q := 27) (by decide +kernel) rfl rfl rfl ?_
  refine Wk.aload_n (k := 0) (q := 28) (by decide +kernel) rfl rfl rfl ?_
  refine Wk.getI (z := 2) (q := 31) f_Hist_26 (by decide +kernel) O_8 (by decide) rfl rfl rfl ?_
  rw [iup_ne (by omega), e8]
  refine Wk.iconst (n := 1) (q := 32) (by decide +kernel) rfl ?_
  refine Wk.iadd (q := 33) (by decide +kernel) rfl ?_
  refine Wk.bipush (n := 16) (q := 35) (by decide +kernel) (by decide +kernel) rfl ?_
  refine Wk.min (q := 38) l_Hist_29 (by decide +kernel) (by first | omega | exact bi_rng _) (by first | omega | exact bi_rng _) (Nat.le_of_ble_eq_true rfl) rfl ?_
  rw [show (if (16 : Int) < I 8 2 + 1 then (16 : Int) else I 8 2 + 1) = min (I 8 2 + 1) 16 by split <;> omega]
  refine Wk.putI (z := 2) (q := 41) f_Hist_26 fw_Hist_2 (by decide +kernel) O_8 (by decide) rfl rfl ⟨rfl, rfl⟩ rfl ?_
  exact Wk.rvP (by decide +kernel) rfl (⟨rfl, ⟨I1, hH, rfl⟩, rfl⟩)
theorem c_Hist_forget : Wk xs x_Hist_forget d 0 0 0 [some (vr 8)] [] X2 I L (pV (iup I 8 2 0) L) := by
  refine Wk.aload_n (k := 0) (q := 1) (by decide +kernel) rfl rfl rfl ?_
  refine Wk.iconst (n := 0) (q := 2) (by decide +kernel) rfl ?_
  refine Wk.putI (z := 2) (q := 5) f_Hist_26 fw_Hist_2 (by decide +kernel) O_8 (by decide) rfl rfl ⟨rfl, rfl⟩ rfl ?_
  exact Wk.rV (by decide +kernel) rfl (rfl) rfl
theorem c_Book_add {a c : Int} (h0 : 0 ≤ I 128 2) (h1 : I 128 2 < 20) : Wk xs x_Book_add d 0 0 0 [some (vr 128), some (vi a), some (vi c)] [] X2 I L (pV (iup (iup (iup I 129 (I 128 2) a) 130 (I 128 2) c) 128 2 (I 128 2 + 1)) L) := by
  refine Wk.aload_n (k := 0) (q := 1) (by decide +kernel) rfl rfl rfl ?_
  refine Wk.getI (z := 2) (q := 4) f_Book_18 (by decide +kernel) O_128 (by decide) rfl rfl rfl ?_
  refine Wk.bipush (n := 20) (q := 6) (by decide +kernel) (by decide +kernel) rfl ?_
  refine Wk.icmp_ge (off := (33)) (t := 39) (q := 9) (by decide +kernel) (by decide) rfl (by first | omega | exact bi_rng _) (by first | omega | exact bi_rng _) (fun hc6 => ?_) (fun hc6 => ?_)
  · exact Wk.rV (by decide +kernel) rfl (by first | omega | rfl) rfl
  · refine Wk.aload_n (k := 0) (q := 10) (by decide +kernel) rfl rfl rfl ?_
    refine Wk.getR (r := 129) (q := 13) f_Book_9 (by decide +kernel) O_128 (by decide) rfl rfl rfl ?_
    refine Wk.aload_n (k := 0) (q := 14) (by decide +kernel) rfl rfl rfl ?_
    refine Wk.getI (z := 2) (q := 17) f_Book_18 (by decide +kernel) O_128 (by decide) rfl rfl rfl ?_
    refine Wk.iload_n (k := 1) (q := 18) (by decide +kernel) rfl rfl rfl ?_
    refine Wk.iastore (q := 19) (by decide +kernel) A_129 (by first | omega | exact bi_rng _) (by first | omega | exact bi_rng _) rfl ?_
    refine Wk.aload_n (k := 0) (q := 20) (by decide +kernel) rfl rfl rfl ?_
    refine Wk.getR (r := 130) (q := 23) f_Book_15 (by decide +kernel) O_128 (by decide) rfl rfl rfl ?_
    refine Wk.aload_n (k := 0) (q := 24) (by decide +kernel) rfl rfl rfl ?_
    refine Wk.getI (z := 2) (q := 27) f_Book_18 (by decide +kernel) O_128 (by decide) rfl rfl rfl ?_
    rw [iup_ne (by omega)]
    refine Wk.iload_n (k := 2) (q := 28) (by decide +kernel) rfl rfl rfl ?_
    refine Wk.iastore (q := 29) (by decide +kernel) A_130 (by first | omega | exact bi_rng _) (by first | omega | exact bi_rng _) rfl ?_
    refine Wk.aload_n (k := 0) (q := 30) (by decide +kernel) rfl rfl rfl ?_
    refine Wk.dup (q := 31) (by decide +kernel) rfl rfl ?_
    refine Wk.getI (z := 2) (q := 34) f_Book_18 (by decide +kernel) O_128 (by decide) rfl rfl rfl ?_
    rw [iup_ne (by omega), iup_ne (by omega)]
    refine Wk.iconst (n := 1) (q := 35) (by decide +kernel) rfl ?_
    refine Wk.iadd (q := 36) (by decide +kernel) rfl ?_
    refine Wk.putI (z := 2) (q := 39) f_Book_18 fw_Book_2 (by decide +kernel) O_128 (by decide) rfl rfl ⟨rfl, rfl⟩ rfl ?_
    exact Wk.rV (by decide +kernel) rfl (by first | omega | rfl) rfl
theorem c_Book_firstWrong (hC : CW I) (hB : 0 ≤ I 128 2 ∧ I 128 2 ≤ 20) (hB1 : ∀ k, 0 ≤ k → k < I 128 2 → (0 ≤ I 129 k ∧ I 129 k ≤ 4) ∧ -2147483648 ≤ I 130 k ∧ I 130 k ≤ 2147483647) : Wk xs x_Book_firstWrong (d + 1) 0 0 0 [some (vr 128), some (vr 1), none, none] [] X2 I L (p2 fun v I' L' => (∃ z, v = some (vi z) ∧ Fst (fun k => ¬ (0 ≤ I 129 k ∧ I 129 k < I 1 4) ∨ ¬ I 7 (I 129 k) * I 1 0 + I 6 (I 129 k) = I 130 k) (I 128 2) z) ∧ I' = I ∧ L' = L) := by
  obtain ⟨⟨hW, hH, -, -, hA, -, -⟩, hS, hP⟩ := id hC
  have key : Wk xs x_Book_firstWrong (d + 1) 0 0 2 [some (vr 128), some (vr 1), some (vi 0), none] [] X2 I L (p2 fun v I' L' => (∃ z, v = some (vi z) ∧ Fst (fun k => ¬ (0 ≤ I 129 k ∧ I 129 k < I 1 4) ∨ ¬ I 7 (I 129 k) * I 1 0 + I 6 (I 129 k) = I 130 k) (I 128 2) z) ∧ I' = I ∧ L' = L) := by
    refine loopS (σ := Option AV) (fun k o => Wk xs x_Book_firstWrong (d + 1) 0 0 2 [some (vr 128), some (vr 1), some (vi k), o] [] X2 I L (p2 fun v I' L' => (∃ z, v = some (vi z) ∧ Fst (fun k => ¬ (0 ≤ I 129 k ∧ I 129 k < I 1 4) ∨ ¬ I 7 (I 129 k) * I 1 0 + I 6 (I 129 k) = I 130 k) (I 128 2) z) ∧ I' = I ∧ L' = L)) (fun j _ => ∀ k, 0 ≤ k → k < j → ¬ (¬ (0 ≤ I 129 k ∧ I 129 k < I 1 4) ∨ ¬ I 7 (I 129 k) * I 1 0 + I 6 (I 129 k) = I 130 k)) (I 128 2) 0 none (by omega) (fun k k0 k1 => by omega) ?_ ?_
    · intro o hJ
      refine Wk.iload_n (k := 2) (q := 3) (by decide +kernel) rfl rfl rfl ?_
      refine Wk.aload_n (k := 0) (q := 4) (by decide +kernel) rfl rfl rfl ?_
      refine Wk.getI (z := 2) (q := 7) f_Book_18 (by decide +kernel) O_128 (by decide) rfl rfl rfl ?_
      refine Wk.icmp_ge (off := (51)) (t := 58) (q := 10) (by decide +kernel) (by decide) rfl (by first | omega | exact bi_rng _) (by first | omega | exact bi_rng _) (fun hc7 => ?_) (fun hc7 => ?_)
      · refine Wk.iconst (n := (-1)) (q := 59) (by decide +kernel) rfl ?_
        exact Wk.riP (by decide +kernel) rfl (⟨⟨_, rfl, Or.inl ⟨rfl, hJ⟩⟩, rfl, rfl⟩)
      · omega
    · intro k o k0 k1 hJ ih
      obtain ⟨hb1, hb2⟩ := hB1 k k0 k1
      have hcell : 0 ≤ I 129 k ∧ I 129 k < I 1 4 → 0 ≤ I 7 (I 129 k) * I 1 0 + I 6 (I 129 k) ∧ I 7 (I 129 k) * I 1 0 + I 6 (I 129 k) < 50 := fun z => by
        obtain ⟨q1, q2⟩ := hP _ z.1 z.2
        have := cellB (W := I 1 0) (H := I 1 1) q1 q2
        have h49 := WH49 (W := I 1 0) (H := I 1 1) (by omega) (by omega)
        omega
      refine Wk.iload_n (k := 2) (q := 3) (by decide +kernel) rfl rfl rfl ?_
      refine Wk.aload_n (k := 0) (q := 4) (by decide +kernel) rfl rfl rfl ?_
      refine Wk.getI (z := 2) (q := 7) f_Book_18 (by decide +kernel) O_128 (by decide) rfl rfl rfl ?_
      refine Wk.icmp_ge (off := (51)) (t := 58) (q := 10) (by decide +kernel) (by decide) rfl (by first | omega | exact bi_rng _) (by first | omega | exact bi_rng _) (fun hc7 => ?_) (fun hc7 => ?_)
      · refine Wk.iconst (n := (-1)) (q := 59) (by decide +kernel) rfl ?_
        exact Wk.riP (by decide +kernel) rfl (by first | omega | exact ⟨⟨_, rfl, Or.inr ⟨by omega, (by first | exact Or.inl hc22 | exact Or.inr hc47), hJ⟩⟩, rfl, rfl⟩)
      · refine Wk.aload_n (k := 0) (q := 11) (by decide +kernel) rfl rfl rfl ?_
        refine Wk.getR (r := 129) (q := 14) f_Book_9 (by decide +kernel) O_128 (by decide) rfl rfl rfl ?_
        refine Wk.iload_n (k := 2) (q := 15) (by decide +kernel) rfl rfl rfl ?_
        refine Wk.iaload (q := 16) (by decide +kernel) A_129 (by first | omega | exact bi_rng _) (by first | omega | exact bi_rng _) rfl ?_
        refine Wk.istore_n (k := 3) (q := 17) (by decide +kernel) rfl (by decide) rfl (fun _ h => h) rfl ?_
        refine Wk.aload_n (k := 1) (q := 18) (by decide +kernel) rfl rfl rfl ?_
        refine Wk.iload_n (k := 3) (q := 19) (by decide +kernel) rfl rfl rfl ?_
        refine Wk.cVi (q := 22) l_Book_22 m_Harb_hasAnchored (by decide +kernel) (fun _ h => h) O_1 rfl (Nat.le_of_ble_eq_true rfl) (Nat.le_of_ble_eq_true rfl) rfl (c_Harb_hasAnchored (by omega) hA) rfl ?_
        refine Wk.ifB_eq (off := (28)) (t := 50) (q := 25) (by decide +kernel) (by decide) rfl (fun hc22 => ?_) (fun hc22 => ?_)
        · refine Wk.iload_n (k := 2) (q := 51) (by decide +kernel) rfl rfl rfl ?_
          exact Wk.riP (by decide +kernel) rfl (by first | omega | exact ⟨⟨_, rfl, Or.inr ⟨by omega, (by first | exact Or.inl hc22 | exact Or.inr hc47), hJ⟩⟩, rfl, rfl⟩)
        · refine Wk.aload_n (k := 1) (q := 26) (by decide +kernel) rfl rfl rfl ?_
          refine Wk.aload_n (k := 1) (q := 27) (by decide +kernel) rfl rfl rfl ?_
          refine Wk.getR (r := 6) (q := 30) f_Book_28 (by decide +kernel) O_1 (by decide) rfl rfl rfl ?_
          refine Wk.iload_n (k := 3) (q := 31) (by decide +kernel) rfl rfl rfl ?_
          refine Wk.iaload (q := 32) (by decide +kernel) A_6 (by first | omega | exact bi_rng _) (by first | omega | exact bi_rng _) rfl ?_
          refine Wk.aload_n (k := 1) (q := 33) (by decide +kernel) rfl rfl rfl ?_
          refine Wk.getR (r := 7) (q := 36) f_Book_31 (by decide +kernel) O_1 (by decide) rfl rfl rfl ?_
          refine Wk.iload_n (k := 3) (q := 37) (by decide +kernel) rfl rfl rfl ?_
          refine Wk.iaload (q := 38) (by decide +kernel) A_7 (by first | omega | exact bi_rng _) (by first | omega | exact bi_rng _) rfl ?_
          refine Wk.cVi (q := 41) l_Book_34 m_Harb_cellAt (by decide +kernel) (fun _ h => h) O_1 rfl (Nat.le_of_ble_eq_true rfl) (Nat.le_of_ble_eq_true rfl) rfl (c_Harb_cellAt) rfl ?_
          refine Wk.aload_n (k := 0) (q := 42) (by decide +kernel) rfl rfl rfl ?_
          refine Wk.getR (r := 130) (q := 45) f_Book_15 (by decide +kernel) O_128 (by decide) rfl rfl rfl ?_
          refine Wk.iload_n (k := 2) (q := 46) (by decide +kernel) rfl rfl rfl ?_
          refine Wk.iaload (q := 47) (by decide +kernel) A_130 (by first | omega | exact bi_rng _) (by first | omega | exact bi_rng _) rfl ?_
          refine Wk.icmp_eq (off := (5)) (t := 52) (q := 50) (by decide +kernel) (by decide) rfl (by first | omega | exact bi_rng _) (by first | omega | exact bi_rng _) (fun hc47 => ?_) (fun hc47 => ?_)
          · refine Wk.iinc (i := 2) (n := 1) (q := 55) (by decide +kernel) rfl (by decide) rfl (fun _ h => h) rfl ?_
            refine Wk.goto (off := (-53)) (q := 2) (by decide +kernel) (by decide) ?_
            exact ih _ (ext1 hJ (fun z => z.elim (fun z => z hc22) (fun z => z hc47)))
          · refine Wk.iload_n (k := 2) (q := 51) (by decide +kernel) rfl rfl rfl ?_
            exact Wk.riP (by decide +kernel) rfl (by first | omega | exact ⟨⟨_, rfl, Or.inr ⟨by omega, (by first | exact Or.inl hc22 | exact Or.inr hc47), hJ⟩⟩, rfl, rfl⟩)
  refine Wk.iconst (n := 0) (q := 1) (by decide +kernel) rfl ?_
  refine Wk.istore_n (k := 2) (q := 2) (by decide +kernel) rfl (by decide) rfl (fun _ h => h) rfl ?_
  exact key
end CPY
end
section
/-! BOTH SIDES: how the class's Harbour and a row of the reference speak of the same -/
theorem divmod {x y W : Int} (h0 : 0 ≤ x) (h1 : x < W) : (y * W + x) % W = x ∧ (y * W + x) / W = y := by
  rw [Int.add_comm, Int.add_mul_emod_self_right, Int.add_mul_ediv_right _ _ (by omega), Int.emod_eq_of_lt h0 h1, Int.ediv_eq_zero_of_lt h0 h1]
  omega
def HRc (I : IM) : Prop := (I 1 0 = I 149 0 ∧ I 1 1 = I 149 1 ∧ I 1 2 = I 149 2 ∧ I 1 3 = I 149 3 ∧ I 1 4 = I 149 4 ∧ I 1 5 = I 149 5) ∧ (∀ k, 0 ≤ k → k < 49 → I 2 k = I 149 (6 + k)) ∧ (∀ s, Slot1 I s → I 3 s = I 149 (55 + 4 * s) ∧ I 4 s = I 149 (55 + 4 * s + 1) ∧ I 5 s = I 149 (55 + 4 * s + 2)) ∧ ∀ a, 0 ≤ a → a < I 1 4 → I 7 a * I 1 0 + I 6 a = I 149 (55 + 4 * a + 3)
def Cur (I : IM) : Prop := CW I ∧ HRc I
theorem Cur.wh {I : IM} (h : Cur I) : 0 ≤ I 1 0 * I 1 1 ∧ I 1 0 * I 1 1 ≤ 49 := WH49 (by have := h.1.1.1; omega) (by have := h.1.1.2.1; omega)
theorem Cur.mw {I : IM} (h : Cur I) : MW I := by
  obtain ⟨⟨⟨c0, c1, c2, c3, c4, c5, c6⟩, hS, hP⟩, ⟨e0, e1, e2, e3, e4, e5⟩, hd, hs, ha⟩ := h
  rw [e0] at c0; rw [e1] at c1; rw [e2] at c2; rw [e3] at c3; rw [e4] at c4; rw [e5] at c5
  refine ⟨⟨c0, c1, c2, by omega, c4, c5, fun k k0 k1 => ?_⟩, fun a a0 a1 => ⟨?_, ?_⟩, fun k k0 k1 => ?_⟩
  · rw [← hd k k0 k1]; exact c6 k k0 k1
  · have sl : Slot1 I a := Or.inl ⟨a0, by omega⟩
    obtain ⟨q1, q2, q3⟩ := hs a sl
    have r := hS a sl
    unfold MP
    rw [← q1, ← q2, ← q3]
    omega
  · obtain ⟨q1, q2⟩ := hP a a0 (by omega)
    have := cellB (W := I 1 0) (H := I 1 1) q1 q2
    unfold mC
    rw [← ha a a0 (by omega), ← e0, ← e1]
    omega
  · have sl : Slot1 I (5 + k) := Or.inr ⟨by omega, by omega⟩
    obtain ⟨q1, q2, q3⟩ := hs (5 + k) sl
    have r := hS (5 + k) sl
    unfold MP
    rw [show 75 + 4 * k = 55 + 4 * (5 + k) by omega, ← q1, ← q2, ← q3]
    omega
section BOTH
variable {I : IM}
theorem eML (h : Cur I) {F s c : Int} (hs : Slot1 I s) : mML I F (55 + 4 * s) c ↔ ML (I 1 0) (I 1 1) (I 1 2) (I 2) F (I 3 s) (I 4 s) (I 5 s) (c % I 1 0) (c / I 1 0) := by
  have hw := h.wh
  obtain ⟨hC, ⟨e0, e1, e2, e3, e4, e5⟩, hd, hq, ha⟩ := h
  obtain ⟨q1, q2, q3⟩ := hq s hs
  unfold mML
  rw [← e0, ← e1, ← e2, ← q1, ← q2, ← q3]
  exact ML_cong (fun k k0 k1 => (hd k k0 (by omega)).symm)
theorem eCL (h : Cur I) {F s c t e : Int} (hs : Slot1 I s) (ht : Slot1 I t) : mCL I F (55 + 4 * s) c (55 + 4 * t) e ↔ CL F (I 4 s) (I 5 s) (c % I 1 0) (c / I 1 0) (I 4 t) (I 5 t) (e % I 1 0) (e / I 1 0) := by
  obtain ⟨hC, ⟨e0, e1, e2, e3, e4, e5⟩, hd, hq, ha⟩ := h
  obtain ⟨q1, q2, q3⟩ := hq s hs
  obtain ⟨r1, r2, r3⟩ := hq t ht
  unfold mCL
  rw [← e0, ← q2, ← q3, ← r2, ← r3]
theorem eAn (h : Cur I) {a : Int} (h0 : 0 ≤ a) (h1 : a < I 1 4) : I 149 (55 + 4 * a + 3) % I 1 0 = I 6 a ∧ I 149 (55 + 4 * a + 3) / I 1 0 = I 7 a := by
  rw [← h.2.2.2.2 a h0 h1]
  have := (h.1.2.2 a h0 h1).1
  exact divmod this.1 this.2
theorem eMLa (h : Cur I) {F a : Int} (h0 : 0 ≤ a) (h1 : a < I 1 4) : mML I F (55 + 4 * a) (I 149 (55 + 4 * a + 3)) ↔ cML I F a := by
  rw [eML h (Or.inl ⟨h0, h1⟩), (eAn h h0 h1).1, (eAn h h0 h1).2]
theorem eCLa (h : Cur I) {F a b : Int} (h0 : 0 ≤ a) (h1 : a < I 1 4) (g0 : 0 ≤ b) (g1 : b < I 1 4) : mCa I F a b ↔ cCL I F a b := by
  unfold mCa
  rw [eCL h (Or.inl ⟨h0, h1⟩) (Or.inl ⟨g0, g1⟩), (eAn h h0 h1).1, (eAn h h0 h1).2, (eAn h g0 g1).1, (eAn h g0 g1).2]
theorem Cur.n4 (h : Cur I) : I 149 4 = I 1 4 := h.2.1.2.2.2.2.1.symm
theorem Cur.n5 (h : Cur I) : I 149 5 = I 1 5 := h.2.1.2.2.2.2.2.symm
theorem Cur.f3 (h : Cur I) : I 149 3 = I 1 3 := h.2.1.2.2.2.1.symm
theorem Cur.w0 (h : Cur I) : I 149 0 = I 1 0 := h.2.1.1.symm
theorem Cur.h1 (h : Cur I) : I 149 1 = I 1 1 := h.2.1.2.1.symm
theorem Cur.t2 (h : Cur I) : I 149 2 = I 1 2 := h.2.1.2.2.1.symm
theorem eDG (h : Cur I) (F : Int) : cDG I F = mDG I F := by
  unfold cDG mDG
  rw [h.n4]
  refine so_cong fun a a0 a1 => ?_
  have a2 : a < I 1 4 := by omega
  unfold cDP mDP
  rw [eMLa h a0 a2, h.n4]
  have e : (∃ b, (0 ≤ b ∧ b < I 1 4) ∧ ¬ b = a ∧ cCL I F a b) ↔ ∃ b, (0 ≤ b ∧ b < I 1 4) ∧ ¬ a = b ∧ mCa I F a b := by
    constructor
    · rintro ⟨b, b0, b1, b2⟩
      exact ⟨b, b0, fun z => b1 z.symm, (eCLa h a0 a2 b0.1 b0.2).mpr b2⟩
    · rintro ⟨b, b0, b1, b2⟩
      exact ⟨b, b0, fun z => b1 z.symm, (eCLa h a0 a2 b0.1 b0.2).mp b2⟩
  rw [e]
theorem eCs (h : Cur I) {a : Int} (a0 : 0 ≤ a) (a2 : a < I 1 4) : so (fun b => ¬ b = a ∧ cCL I (I 1 3) a b) (I 1 4).toNat = so (fun b => ¬ a = b ∧ mCa I (I 149 3) a b) (I 149 4).toNat := by
  rw [h.n4, h.f3]
  refine so_cong fun b b0 b1 => ?_
  rw [eCLa h a0 a2 b0 (by omega)]
  exact ⟨fun z => ⟨fun y => z.1 y.symm, z.2⟩, fun z => ⟨fun y => z.1 y.symm, z.2⟩⟩
theorem eTh (h : Cur I) : so (fun w => ¬ orb (I 1 3) w = I 1 3 ∧ ¬ cDG I (orb (I 1 3) w) = cDG I (I 1 3)) 8 = so (fun w => ¬ mDG I (orb (I 149 3) w) = mDG I (I 149 3)) 8 := by
  rw [h.f3]
  refine so_cong fun w _ _ => ?_
  rw [eDG h, eDG h]
  constructor
  · exact fun z => z.2
  · exact fun z => ⟨fun y => z (by rw [y]), z⟩
theorem eSW (h : Cur I) {a x y : Int} (a0 : 0 ≤ a) (a2 : a < I 1 4) : mSW I (55 + 4 * a) (I 149 (55 + 4 * a + 3)) x y ↔ cSW I (I 1 3) a x y := by
  obtain ⟨q1, q2, q3⟩ := h.2.2.2.1 a (Or.inl ⟨a0, a2⟩)
  unfold mSW cSW
  rw [h.w0, (eAn h a0 a2).1, (eAn h a0 a2).2, h.f3, ← q2, ← q3]
theorem eLO (h : Cur I) {a w x y : Int} (a0 : 0 ≤ a) (a2 : a < I 1 4) : mLO I (55 + 4 * a) (I 149 (55 + 4 * a + 3)) w x y ↔ cLO I a w x y := by
  obtain ⟨q1, q2, q3⟩ := h.2.2.2.1 a (Or.inl ⟨a0, a2⟩)
  unfold mLO cLO
  rw [h.w0, (eAn h a0 a2).1, (eAn h a0 a2).2, ← q2, ← q3]
theorem eWat (h : Cur I) {x y : Int} : mwat I x y = cwat I x y := by
  have hw := h.wh
  unfold mwat cwat
  rw [h.w0, h.h1, h.t2]
  exact wat_cong (fun k k0 k1 => (h.2.2.1 k k0 (by omega)).symm)
/-! spots and cells -/
def fsp (W s : Int) : Int := (s / 8) * W + s % 8
theorem fsp_dm {W s : Int} (h : s % 8 < W) : fsp W s % W = s % 8 ∧ fsp W s / W = s / 8 := divmod (by omega) h
theorem fsp_lt {W s t : Int} (hs : s % 8 < W) (ht : t % 8 < W) : fsp W s < fsp W t ↔ s < t := by
  unfold fsp
  have hW : 0 ≤ W := by omega
  have m : ∀ a b : Int, a < b → a * W + W ≤ b * W := fun a b hab => by
    have h1 : (a + 1) * W ≤ b * W := Int.mul_le_mul_of_nonneg_right (by omega) hW
    rw [Int.add_mul, Int.one_mul] at h1
    exact h1
  rcases Int.lt_trichotomy (s / 8) (t / 8) with q | q | q
  · have := m _ _ q
    constructor <;> intro _ <;> omega
  · rw [q]
    constructor <;> intro _ <;> omega
  · have := m _ _ q
    constructor <;> intro _ <;> omega
theorem eFr (h : Cur I) {s mv c : Int} (hs : Slot1 I s) : (mC I c ∧ mFr I (55 + 4 * s) mv c) ↔ ∃ t, ((0 ≤ t ∧ t < 64) ∧ cLeft I s mv (t % 8) (t / 8)) ∧ c = fsp (I 1 0) t := by
  have hw := h.wh
  obtain ⟨hW, hH, -⟩ := h.1.1
  have core : ∀ c x y, c % I 1 0 = x → c / I 1 0 = y → (mFr I (55 + 4 * s) mv c ↔ ML (I 1 0) (I 1 1) (I 1 2) (I 2) (I 1 3) (I 3 s) (I 4 s) (I 5 s) x y ∧ ∀ a, 0 ≤ a → a < I 1 4 → bt mv a = false → ¬ CL (I 1 3) (I 4 a) (I 5 a) (I 6 a) (I 7 a) (I 4 s) (I 5 s) x y) := by
    intro c x y hx hy
    unfold mFr
    rw [eML h hs, h.f3, h.n4, hx, hy]
    refine and_congr Iff.rfl ?_
    constructor
    · intro q a a0 a1 hb
      have q1 := (q a a0 a1).resolve_left (by rw [hb]; decide)
      rw [eCL h hs (Or.inl ⟨a0, a1⟩), (eAn h a0 a1).1, (eAn h a0 a1).2, hx, hy, cl_symm] at q1
      exact q1
    · intro q a a0 a1
      cases hb : bt mv a with
      | true => exact Or.inl rfl
      | false =>
        right
        rw [eCL h hs (Or.inl ⟨a0, a1⟩), (eAn h a0 a1).1, (eAn h a0 a1).2, hx, hy, cl_symm]
        exact q a a0 a1 hb
  constructor
  · rintro ⟨⟨c0, c1⟩, hf⟩
    rw [h.w0, h.h1] at c1
    obtain ⟨hx, hy⟩ := mcoord hW.1 c0 c1
    have e1 : (c / I 1 0 * 8 + c % I 1 0) % 8 = c % I 1 0 := by omega
    have e2 : (c / I 1 0 * 8 + c % I 1 0) / 8 = c / I 1 0 := by omega
    refine ⟨c / I 1 0 * 8 + c % I 1 0, ⟨by omega, ?_⟩, ?_⟩
    · have q := (core c _ _ rfl rfl).mp hf
      rw [e1, e2]
      exact ⟨⟨⟨hx.1, hx.2, hy.1, hy.2⟩, q.1⟩, q.2⟩
    · unfold fsp
      rw [e1, e2]
      have := Int.emod_add_mul_ediv c (I 1 0)
      rw [Int.mul_comm] at this
      omega
  · rintro ⟨t, ⟨t0, ⟨⟨hi, hm⟩, hcl⟩⟩, rfl⟩
    have hd := fsp_dm hi.2.1
    refine ⟨?_, (core _ _ _ hd.1 hd.2).mpr ⟨hm, hcl⟩⟩
    have := cellB (W := I 1 0) (H := I 1 1) ⟨hi.1, hi.2.1⟩ ⟨hi.2.2.1, hi.2.2.2⟩
    unfold mC
    rw [h.w0, h.h1]
    exact ⟨this.1, this.2.1⟩
theorem eG (h : Cur I) {set N : Int} {R : Int → Int} (hR : ∀ i, 0 ≤ i → i < N → Slot1 I (R i)) : ∀ i c, 0 ≤ i → i < N → (zG I set R i c ↔ ∃ t, mG I set R i t ∧ c = fsp (I 1 0) t) := fun i c i0 i1 => eFr h (hR i i0 i1)
theorem eK (h : Cur I) {set N : Int} {R : Int → Int} (hR : ∀ i, 0 ≤ i → i < N → Slot1 I (R i)) : ∀ i s j t, 0 ≤ i → i < N → 0 ≤ j → j < N → mG I set R i s → mG I set R j t → (zK I R i (fsp (I 1 0) s) j (fsp (I 1 0) t) ↔ mK I R i s j t) := fun i s j t i0 i1 j0 j1 hs ht => by
  have d1 := fsp_dm (W := I 1 0) (s := s) hs.2.1.1.2.1
  have d2 := fsp_dm (W := I 1 0) (s := t) ht.2.1.1.2.1
  unfold zK mK
  rw [eCL h (hR i i0 i1) (hR j j0 j1), d1.1, d1.2, d2.1, d2.2, h.f3]
theorem eLt (_ : Cur I) {set : Int} {R : Int → Int} : ∀ i s t : Int, mG I set R i s → mG I set R i t → (fsp (I 1 0) s < fsp (I 1 0) t ↔ s < t) := fun _ _ _ hs ht => fsp_lt hs.2.1.1.2.1 ht.2.1.1.2.1
theorem eEx (h : Cur I) {set : Int} {R : Int → Int} {n : Nat} (hR : ∀ i : Int, 0 ≤ i → i < n → Slot1 I (R i)) (c c2 : Int → Int) : Exr (mG I set R) (mK I R) n 0 c ↔ Exr (zG I set R) (zK I R) n 0 c2 :=
  Exr_map (N := n) (eG h hR) (eK h hR) n 0 c c2 (by omega) (by omega) (fun j j0 j1 => by omega)
theorem eLea (h : Cur I) {set : Int} {R : Int → Int} {n : Nat} (hR : ∀ i : Int, 0 ≤ i → i < n → Slot1 I (R i)) {c c2 : Int → Int} (h1 : Lea (mG I set R) (mK I R) n 0 c) (h2 : Lea (zG I set R) (zK I R) n 0 c2) : ∀ j : Int, 0 ≤ j → j < n → c2 j = fsp (I 1 0) (c j) := fun j j0 j1 =>
  Lea_uniq n 0 c2 (fun j => fsp (I 1 0) (c j)) (by omega) (fun j j0 j1 => by omega) h2 (Lea_map (N := n) (fun i s t _ _ hs ht => eLt h i s t hs ht) (eG h hR) (eK h hR) n 0 c _ (by omega) (by omega) (fun j j0 j1 => by omega) (fun _ _ _ => rfl) h1) j j0 (by omega)
theorem bt_nil (a : Int) : bt 0 a = false := by unfold bt; simp
theorem ePl {k x y : Int} : cPlace I k x y ↔ cLeft I (5 + k) 0 x y :=
  ⟨fun q => ⟨q.1, fun a a0 a1 _ => q.2 a a0 a1⟩, fun q => ⟨q.1, fun a a0 a1 => q.2 a a0 a1 (bt_nil a)⟩⟩
theorem aG_mG : aG I = mG I 0 (fun i => 5 + i) := by
  funext k s
  unfold aG mG
  rw [ePl]
theorem aK_mK : aK I = mK I (fun i => 5 + i) := rfl
/-! counts over spots and over cells -/
theorem ct_zero {P : Int → Prop} : ∀ {n : Nat}, (∀ k : Int, 0 ≤ k → k < n → ¬ P k) → ct P n = 0
  | 0, _ => rfl
  | n + 1, h => by
    show ct P n + bi (P n) = 0
    rw [ct_zero (n := n) (fun k k0 k1 => h k k0 (by omega)), bi_f (h n (by omega) (by omega))]
    rfl
theorem sm_zero {f : Int → Int} : ∀ {n : Nat}, (∀ k : Int, 0 ≤ k → k < n → f k = 0) → sm f n = 0
  | 0, _ => rfl
  | n + 1, h => by
    show sm f n + f n = 0
    rw [sm_zero (n := n) (fun k k0 k1 => h k k0 (by omega)), h n (by omega) (by omega)]
    rfl
theorem sm_split (f : Int → Int) (m : Nat) : ∀ n : Nat, sm f (m + n) = sm f m + sm (fun k => f (k + m)) n
  | 0 => by simp [sm]
  | n + 1 => by
    rw [show m + (n + 1) = (m + n) + 1 from rfl]
    simp only [sm]
    rw [sm_split f m n, show ((m + n : Nat) : Int) = (n : Int) + m by omega]
    omega
theorem ct_grid (W : Nat) (hW : 0 < W) (Q : Int → Int → Prop) : ∀ H : Nat, ct (fun c => Q (c % W) (c / W)) (W * H) = sm (fun y => ct (fun x => Q x y) W) H
  | 0 => rfl
  | H + 1 => by
    rw [Nat.mul_succ, ct_split, ct_grid W hW Q H]
    show _ + _ = sm _ H + ct (fun x => Q x (H : Int)) W
    congr 1
    refine ct_cong fun k k0 k1 => ?_
    have e : k + ((W * H : Nat) : Int) = (H : Int) * W + k := by rw [Int.natCast_mul, Int.mul_comm]; omega
    have d := divmod (y := (H : Int)) k0 k1
    rw [e, d.1, d.2]
theorem ct_both {W H : Int} (hW : 2 ≤ W ∧ W ≤ 7) (hH : 2 ≤ H ∧ H ≤ 7) {P : Int → Int → Prop} (hP : ∀ x y, P x y → inE W H x y) : ct (fun s => P (s % 8) (s / 8)) 64 = ct (fun c => P (c % W) (c / W)) (W * H).toNat := by
  have g8 := ct_grid 8 (by decide) P 8
  have gw := ct_grid W.toNat (by omega) P H.toNat
  have eW : ((W.toNat : Nat) : Int) = W := Int.toNat_of_nonneg (by omega)
  have eWH : (W * H).toNat = W.toNat * H.toNat := Int.toNat_mul (by omega) (by omega)
  rw [eW] at gw
  rw [eWH, gw]
  rw [show (8 * 8 : Nat) = 64 from rfl] at g8
  rw [show ((8 : Nat) : Int) = 8 from rfl] at g8
  rw [g8]
  have row : ∀ y, ct (fun x => P x y) 8 = ct (fun x => P x y) W.toNat := by
    intro y
    rw [show (8 : Nat) = W.toNat + (8 - W.toNat) by omega, ct_split, ct_zero (n := 8 - W.toNat)]
    · omega
    · intro k k0 k1 hp
      have := (hP _ _ hp).2.1
      omega
  rw [show (8 : Nat) = H.toNat + (8 - H.toNat) by omega, sm_split, sm_zero (n := 8 - H.toNat)]
  · rw [Int.add_zero]
    rw [show H.toNat + (8 - H.toNat) = 8 by omega]
    exact sm_cong fun y _ _ => row y
  · intro k k0 k1
    refine ct_zero fun x _ _ hp => ?_
    have := (hP _ _ hp).2.2.2
    omega
theorem LB_ct {u : Int64} {P : Int → Int → Prop} (h : LB u P) : ct (fun s => bl u s = true) 64 = ct (fun s => P (s % 8) (s / 8)) 64 := ct_cong fun s s0 s1 => h s s0 (by omega)
end BOTH
end
section
/-! THE LIBRARY's floorMod; what is brought back; images -/
theorem nZ_remS {a b : Int} (ha : -2147483648 ≤ a ∧ a ≤ 2147483647) (hb : 0 < b ∧ b ≤ 2147483647) : nZ (a - a.tdiv b * b) = nZ a - nZ a / nZ b * nZ b := by
  have e1 : Int32.minValue.toInt = -2147483648 := by decide
  have e2 : Int32.maxValue.toInt = 2147483647 := by decide
  have e : nZ (a.tdiv b) = nZ a / nZ b := Int32.ofInt_tdiv (by rw [e1]; omega) (by rw [e2]; omega) (by rw [e1]; omega) (by rw [e2]; omega)
  rw [nZ_sub, nZ_mul, e]
theorem Wk.iremS {xs : RO} {cx : CX} {d bc bs pc q : Nat} {lv : List (Option AV)} {st : List AV} {X : LY} {I : IM} {L : LM} {post : Option AV → LY → IM → LM → Prop} {a b : Int} (hd : decode (cxC cx) pc = .ok (.irem, 1)) (ha : -2147483648 ≤ a ∧ a ≤ 2147483647) (hb : 0 < b ∧ b ≤ 2147483647) (hq : pc + 1 = q) (k : Wk xs cx d bc bs q lv (vi (a - a.tdiv b * b) :: st) X I L post) : Wk xs cx d bc bs pc lv (vi b :: vi a :: st) X I L post := by
  subst hq
  exact Wk.go1 (fun _ g _ _ _ _ _ _ _ _ _ _ _ _ _ _ ls hF _ _ _ hl k => lv_irem hF.1 hF.2.1 hd (nZ_ne0 hb) (by have k2 := k; simp only [List.map, cv, vi, nZ_remS ha hb] at k2; exact k2)) k
theorem fm_dec : ∀ n : Nat, n < 32 → ((-2147483648 ≤ (nZ ((n : Int) - 16) ^^^ nZ 16).toInt ∧ (nZ ((n : Int) - 16) ^^^ nZ 16).toInt ≤ 2147483647) ∧ (-16 ≤ ((n : Int) - 16) - ((n : Int) - 16).tdiv 16 * 16 ∧ ((n : Int) - 16) - ((n : Int) - 16).tdiv 16 * 16 ≤ 16)) ∧ ((0 ≤ (nZ ((n : Int) - 16) ^^^ nZ 16).toInt ∨ ((n : Int) - 16) - ((n : Int) - 16).tdiv 16 * 16 = 0) → ((n : Int) - 16) - ((n : Int) - 16).tdiv 16 * 16 = ((n : Int) - 16) % 16) ∧ (¬ 0 ≤ (nZ ((n : Int) - 16) ^^^ nZ 16).toInt ∧ ¬ ((n : Int) - 16) - ((n : Int) - 16).tdiv 16 * 16 = 0 → ((n : Int) - 16) - ((n : Int) - 16).tdiv 16 * 16 + 16 = ((n : Int) - 16) % 16) := by decide +kernel
section FMO
variable {xs : RO} {d : Nat} {I : IM} {L : LM}

theorem c_Math_floorMod {a : Int} (h0 : -16 ≤ a) (h1 : a < 16) : Wk xs x_Math_floorMod d 0 0 0 [some (vi a), some (vi 16), none] [] X2 I L (pI (a % 16) I L) := by
  have h := fm_dec (a + 16).toNat (by omega)
  rw [show (((a + 16).toNat : Nat) : Int) - 16 = a by omega] at h
  obtain ⟨⟨r1, r2⟩, r3, r4⟩ := h
  refine Wk.iload_n (k := 0) (q := 1) (by decide +kernel) rfl rfl rfl ?_
  refine Wk.iload_n (k := 1) (q := 2) (by decide +kernel) rfl rfl rfl ?_
  refine Wk.iremS (q := 3) (by decide +kernel) (by omega) (by omega) rfl ?_
  refine Wk.istore_n (k := 2) (q := 4) (by decide +kernel) rfl (by decide) rfl (fun _ h => h) rfl ?_
  refine Wk.iload_n (k := 0) (q := 5) (by decide +kernel) rfl rfl rfl ?_
  refine Wk.iload_n (k := 1) (q := 6) (by decide +kernel) rfl rfl rfl ?_
  refine Wk.ixor (q := 7) (by decide +kernel) rfl ?_
  refine Wk.if_ge (off := (11)) (t := 18) (q := 10) (by decide +kernel) (by decide) rfl (by first | exact r1 | omega) (fun hc7 => ?_) (fun hc7 => ?_)
  · refine Wk.iload_n (k := 2) (q := 19) (by decide +kernel) rfl rfl rfl ?_
    exact Wk.rI (by decide +kernel) rfl (by first | exact r3 (by first | exact Or.inl hc7 | exact Or.inr hc11) | exact r4 ⟨by omega, hc11⟩)
  · refine Wk.iload_n (k := 2) (q := 11) (by decide +kernel) rfl rfl rfl ?_
    refine Wk.if_eq (off := (7)) (t := 18) (q := 14) (by decide +kernel) (by decide) rfl (by first | exact r1 | omega) (fun hc11 => ?_) (fun hc11 => ?_)
    · refine Wk.iload_n (k := 2) (q := 19) (by decide +kernel) rfl rfl rfl ?_
      exact Wk.rI (by decide +kernel) rfl (by first | exact r3 (by first | exact Or.inl hc7 | exact Or.inr hc11) | exact r4 ⟨by omega, hc11⟩)
    · refine Wk.iload_n (k := 2) (q := 15) (by decide +kernel) rfl rfl rfl ?_
      refine Wk.iload_n (k := 1) (q := 16) (by decide +kernel) rfl rfl rfl ?_
      refine Wk.iadd (q := 17) (by decide +kernel) rfl ?_
      exact Wk.rI (by decide +kernel) rfl (by first | exact r3 (by first | exact Or.inl hc7 | exact Or.inr hc11) | exact r4 ⟨by omega, hc11⟩)
theorem c_Hist_bringBack {n : Int} (h0 : 0 ≤ I 8 1 ∧ I 8 1 < 16) (hn1 : 1 ≤ n ∧ n ≤ 16) : Wk xs x_Hist_bringBack (d + 2) 0 0 0 [some (vr 8), some (vi n), some (vr 1)] [] X2 I L (p2 fun v I' L' => v = none ∧ HC (iup (iup I 8 1 ((I 8 1 - n) % 16)) 8 2 (I 8 2 - n)) (10 + 7 * ((I 8 1 - n) % 16).toNat) 1 6 I' ∧ L' = L) := by
  have hm : 0 ≤ (I 8 1 - n) % 16 ∧ (I 8 1 - n) % 16 < 16 := by omega
  have hn : ((I 8 1 - n) % 16).toNat < 16 := by omega
  refine Wk.aload_n (k := 0) (q := 1) (by decide +kernel) rfl rfl rfl ?_
  refine Wk.aload_n (k := 0) (q := 2) (by decide +kernel) rfl rfl rfl ?_
  refine Wk.getI (z := 1) (q := 5) f_Hist_18 (by decide +kernel) O_8 (by decide) rfl rfl rfl ?_
  refine Wk.iload_n (k := 1) (q := 6) (by decide +kernel) rfl rfl rfl ?_
  refine Wk.isub (q := 7) (by decide +kernel) rfl ?_
  refine Wk.bipush (n := 16) (q := 9) (by decide +kernel) (by decide +kernel) rfl ?_
  refine Wk.cSi (q := 12) l_Hist_35 m_Math_floorMod (by decide +kernel) (fun _ h => h) (Nat.le_of_ble_eq_true rfl) (Nat.le_of_ble_eq_true rfl) rfl (c_Math_floorMod (by omega) (by omega)) rfl ?_
  refine Wk.putI (z := 1) (q := 15) f_Hist_18 fw_Hist_1 (by decide +kernel) O_8 (by decide) rfl rfl ⟨rfl, rfl⟩ rfl ?_
  refine Wk.aload_n (k := 0) (q := 16) (by decide +kernel) rfl rfl rfl ?_
  refine Wk.dup (q := 17) (by decide +kernel) rfl rfl ?_
  refine Wk.getI (z := 2) (q := 20) f_Hist_26 (by decide +kernel) O_8 (by decide) rfl rfl rfl ?_
  rw [iup_ne (by omega)]
  refine Wk.iload_n (k := 1) (q := 21) (by decide +kernel) rfl rfl rfl ?_
  refine Wk.isub (q := 22) (by decide +kernel) rfl ?_
  refine Wk.putI (z := 2) (q := 25) f_Hist_26 fw_Hist_2 (by decide +kernel) O_8 (by decide) rfl rfl ⟨rfl, rfl⟩ rfl ?_
  refine Wk.aload_n (k := 2) (q := 26) (by decide +kernel) rfl rfl rfl ?_
  refine Wk.aload_n (k := 0) (q := 27) (by decide +kernel) rfl rfl rfl ?_
  refine Wk.getR (r := 9) (q := 30) f_Hist_11 (by decide +kernel) O_8 (by decide) rfl rfl rfl ?_
  refine Wk.aload_n (k := 0) (q := 31) (by decide +kernel) rfl rfl rfl ?_
  refine Wk.getI (z := 1) (q := 34) f_Hist_18 (by decide +kernel) O_8 (by decide) rfl rfl rfl ?_
  rw [iup_ne (by omega), iup_at]
  refine Wk.aaload (r := 10 + 7 * ((I 8 1 - n) % 16).toNat) (q := 35) (by decide +kernel) A_9 (by decide) (by first | omega | exact bi_rng _) (by first | omega | exact bi_rng _) (R9 _ hn) rfl ?_
  refine Wk.cV (q := 38) l_Hist_22 m_Harb_copyFrom (by decide +kernel) (fun _ h => h) O_1 rfl (Nat.le_of_ble_eq_true rfl) (Nat.le_of_ble_eq_true rfl) rfl (c_Harb_copyFrom HOK_1 (HOK_h _ hn) (by omega)) rfl (fun v I1 L1 hP => ?_)
  obtain ⟨rfl, hH, rfl⟩ := hP
  exact Wk.rvP (by decide +kernel) rfl (⟨rfl, hH, rfl⟩)
theorem c_Imag_take {i : Nat} {v : Int} (hi : i < 2) : Wk xs x_Imag_take (d + 2) 0 0 0 [some (vr (132 + 8 * i)), some (vr 1), some (vi v)] [] X2 I L (p2 fun u I' L' => u = none ∧ (∃ I1, HC I 1 (133 + 8 * i) 6 I1 ∧ I' = iup (iup I1 (132 + 8 * i) 1 v) (132 + 8 * i) 2 1) ∧ L' = L) := by
  refine Wk.aload_n (k := 0) (q := 1) (by decide +kernel) rfl rfl rfl ?_
  refine Wk.getR (r := (133 + 8 * i)) (q := 4) f_Imag_10 (by decide +kernel) (IO_i i hi).1 (by decide) rfl ((IO_i i hi).2) rfl ?_
  refine Wk.aload_n (k := 1) (q := 5) (by decide +kernel) rfl rfl rfl ?_
  refine Wk.cV (q := 8) l_Imag_16 m_Harb_copyFrom (by decide +kernel) (fun _ h => h) (HOK_i i hi).1 rfl (Nat.le_of_ble_eq_true rfl) (Nat.le_of_ble_eq_true rfl) rfl (c_Harb_copyFrom (HOK_i i hi) HOK_1 (by omega)) rfl (fun u I1 L1 hP => ?_)
  obtain ⟨rfl, hH, rfl⟩ := hP
  refine Wk.aload_n (k := 0) (q := 9) (by decide +kernel) rfl rfl rfl ?_
  refine Wk.iload_n (k := 2) (q := 10) (by decide +kernel) rfl rfl rfl ?_
  refine Wk.putI (z := 1) (q := 13) f_Imag_20 fw_Imag_1 (by decide +kernel) (IO_i i hi).1 (by decide) rfl rfl ⟨rfl, rfl⟩ rfl ?_
  refine Wk.aload_n (k := 0) (q := 14) (by decide +kernel) rfl rfl rfl ?_
  refine Wk.iconst (n := 1) (q := 15) (by decide +kernel) rfl ?_
  refine Wk.putI (z := 2) (q := 18) f_Imag_24 fw_Imag_2 (by decide +kernel) (IO_i i hi).1 (by decide) rfl rfl ⟨by decide +kernel, by decide +kernel⟩ rfl ?_
  exact Wk.rvP (by decide +kernel) rfl (⟨rfl, ⟨I1, hH, rfl⟩, rfl⟩)
end FMO
end
